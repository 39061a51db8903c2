/-! The model: letters of the text. -/
def ltsF (tx : List Int) : Nat → Nat → List Int
  | 0, _ => []
  | k + 1, p => match ltO (hr tx p) with
    | some l => l :: ltsF tx k (p + 1)
    | none => []
def rdLs (tx : List Int) (k p : Nat) : Except Nat (List Int × Nat) := if ltsF tx k p = [] then .error p else .ok (ltsF tx k p, p + (ltsF tx k p).length)
theorem ltsF_b {tx : List Int} : ∀ {k p : Nat}, (∀ l ∈ ltsF tx k p, 0 ≤ l ∧ l ≤ 26) ∧ (ltsF tx k p).length ≤ k := by
  intro k
  induction k with
  | zero => intro p; exact ⟨fun l hl => (by cases hl), Nat.le_refl _⟩
  | succ k ih =>
    intro p
    unfold ltsF
    cases hl : ltO (hr tx p) with
    | none => exact ⟨fun l hl => (by cases hl), Nat.zero_le _⟩
    | some l =>
      have := ltO_b hl
      dsimp only
      refine ⟨fun v hv => ?_, by rw [List.length_cons]; have := (ih (p := p + 1)).2; omega⟩
      rw [List.mem_cons] at hv
      rcases hv with hv | hv
      · rw [hv]; exact ⟨this.1, this.2.1⟩
      · exact ih.1 v hv
def LtM (w : eW) (A : Nat) (l : List Int) : Prop := ∀ i, i < l.length → w A i = l.getD i 0
theorem LtM.app {w : eW} {A : Nat} {l : List Int} {u : Int} (h : LtM w A l) : LtM (wu w A l.length u) A (l ++ [u]) := by
  intro i hi
  rw [List.length_append, List.length_singleton] at hi
  by_cases h9 : i = l.length
  · subst h9
    rw [wu_eq]
    simp [List.getD_eq_getElem?_getD]
  · rw [wu_nk _ _ h9]
    have := h i (by omega)
    simp only [List.getD_eq_getElem?_getD, List.getElem?_append_left (show i < l.length by omega)]
    simp only [List.getD_eq_getElem?_getD] at this
    exact this
theorem LtM.m {w w2 : eW} {A : Nat} {l : List Int} (h : LtM w A l) {R F : List Nat} (hf : Fm R F w w2) (h67 : A ≠ 67) (hR : A ∉ R) : LtM w2 A l := by
  unfold LtM
  rw [hf.1 A h67 hR]
  exact h
def RlQ (tx : List Int) (A : Nat) (mo : Int) (w : eW) (R : Except Nat (List Int × Nat)) (x : Int) (w2 : eW) : Prop := Px w2 tx ∧ Fm [A] [28, 29] w w2 ∧ stW w2 = stE R ∧ (0 ≤ x ∧ x ≤ mo) ∧ ∀ y, R = .ok y → x = (y.1.length : Int) ∧ LtM w2 A y.1
theorem stW_ok {w : eW} {p : Nat} (h : stW w = .ok p) : w 67 29 = -1 ∧ (w 67 28).toNat = p := by
  unfold stW at h
  by_cases h1 : w 67 29 = -1
  · rw [if_pos h1] at h
    cases h
    exact ⟨h1, rfl⟩
  · rw [if_neg h1] at h
    cases h
theorem stW_e3 {w : eW} {p : Nat} (h : stW w = .error p) : w 67 29 ≠ -1 ∧ (w 67 29).toNat = p := by
  unfold stW at h
  by_cases h1 : w 67 29 = -1
  · rw [if_pos h1] at h
    cases h
  · rw [if_neg h1] at h
    cases h
    exact ⟨h1, rfl⟩
theorem stW_f3 {w : eW} {p : Nat} {v : Int} (hv : 0 ≤ v) (h : stW w = .ok p) : stW (ftW w v) = .error v.toNat := by
  have := (stW_ok h).1
  unfold ftW
  rw [if_pos this]
  unfold stW
  rw [wu_eq, if_neg (by omega)]
theorem stW_ft2 {w : eW} {p : Nat} {v : Int} (h : stW w = .error p) : ftW w v = w := if_neg (stW_e3 h).1

theorem g_rLs90 {d : Nat} {Q : Option aV → aS → Prop} {w : eW} {t : eT} {mo : Int} {tx : List Int} (h : Ev (d + 3) 193 Q 2 [rA 67, rA 90, (0, mo), (0, 0)] [] (enc w t)) : Cl (d + 3) 193 [rA 67, rA 90, (0, mo)] (enc w t) Q := by
  show Ev (d + 3) 193 Q 0 [rA 67, rA 90, (0, mo), (9, 0)] [] (enc w t)
  refine e_ic (show am_cd 193 0 = (0, 1, 0, 0, []) by decide +kernel) ?_
  refine e_sti (la2 := [rA 67, rA 90, (0, mo), (0, 0)]) (show am_cd 193 1 = (3, 2, 3, 0, []) by decide +kernel) rfl ?_
  exact h

theorem g_rLl90 {d : Nat} {Q : Option aV → aS → Prop} {w : eW} {t : eT} {mo n : Int} {tx : List Int} (h : (Px w tx) ∧ (((ilB tx (stW w)) = false → ((¬ w32 n = 0 → Q (some (0, n)) (enc w t)) ∧ (¬ (¬ w32 n = 0) → (Px w tx ∧ 0 ≤ w 67 28 ∧ w 67 28 ≤ 81) ∧ (Q (some (0, n)) (enc (ftW w (w 67 28)) t))))) ∧ ((ilB tx (stW w)) = true → ((w32 mo ≤ w32 n → ((¬ w32 n = 0 → Q (some (0, n)) (enc w t)) ∧ (¬ (¬ w32 n = 0) → (Px w tx ∧ 0 ≤ w 67 28 ∧ w 67 28 ≤ 81) ∧ (Q (some (0, n)) (enc (ftW w (w 67 28)) t))))) ∧ (¬ (w32 mo ≤ w32 n) → (Px w tx) ∧ (∀ x1 w2, (Px w2 tx ∧ Fm [] [28, 29] w w2 ∧ stW w2 = stE (bnd (stW w) (rdL tx)) ∧ rvO (bnd (stW w) (rdL tx)) x1 ∧ -1 ≤ x1 ∧ x1 ≤ 26) → (0 ≤ w32 n ∧ w32 n < 6) ∧ (Ev (d + 3) 193 Q 2 [rA 67, rA 90, (0, mo), (0, n + 1)] [] (enc (wu w2 90 (w32 n).toNat x1) t)))))))) : Ev (d + 3) 193 Q 2 [rA 67, rA 90, (0, mo), (0, n)] [] (enc w t) := by
  refine e_lda (v := 67) (show am_cd 193 2 = (2, 3, 0, 2, []) by decide +kernel) rfl ?_
  refine e_cV (z := 0) (a := 67) (as := []) (rest := []) (show am_cd 193 3 = (40, 6, 179, 0, [218]) by decide +kernel) (by decide +kernel) rfl rfl (Nat.le_of_ble_eq_true rfl) rfl ?_
  refine Cl.mono (Cl.up (c_isLetter (d := d) h.1) (by omega)) ?_
  rintro _ _ ⟨rfl, rfl⟩
  refine ⟨fun _ h9 => (by cases h9), ?_⟩
  replace h := h.2
  show Ev _ 193 _ 6 [rA 67, rA 90, (0, mo), (0, n)] [(0, bI (ilB tx (stW w)))] _
  refine e_ifb0 (show am_cd 193 6 = (10, 9, 27, 0, []) by decide +kernel) (fun hc => ?_) (fun hc => ?_)
  · replace h := h.1 hc
    refine e_ldi (show am_cd 193 27 = (2, 28, 3, 0, []) by decide +kernel) rfl ?_
    refine e_if1 (show am_cd 193 28 = (10, 31, 39, 1, []) by decide +kernel) (fun hc => ?_) (fun hc => ?_)
    · replace h := h.1 hc
      refine e_ldi (show am_cd 193 39 = (2, 40, 3, 0, []) by decide +kernel) rfl ?_
      exact e_reti (show am_cd 193 40 = (36, 41, 0, 0, []) by decide +kernel) (by decide +kernel) h
    · replace h := h.2 hc
      refine e_lda (v := 67) (show am_cd 193 31 = (2, 32, 0, 2, []) by decide +kernel) rfl ?_
      refine e_lda (v := 67) (show am_cd 193 32 = (2, 33, 0, 2, []) by decide +kernel) rfl ?_
      refine e_getf (a := 67) (tg := 0) (show am_cd 193 33 = (18, 36, 1228, 0, [129]) by decide +kernel) (by decide +kernel) (by decide +kernel) rfl ?_
      refine e_cV (z := 0) (a := 67) (as := [(0, w 67 28)]) (rest := []) (show am_cd 193 36 = (40, 39, 172, 0, [143]) by decide +kernel) (by decide +kernel) rfl rfl (Nat.le_of_ble_eq_true rfl) rfl ?_
      refine Cl.mono (Cl.up (c_fault (d := d) h.1) (by omega)) ?_
      rintro _ _ ⟨rfl, rfl⟩
      refine ⟨fun _ h9 => (by cases h9), ?_⟩
      replace h := h.2
      show Ev _ 193 _ 39 [rA 67, rA 90, (0, mo), (0, n)] [] _
      refine e_ldi (show am_cd 193 39 = (2, 40, 3, 0, []) by decide +kernel) rfl ?_
      exact e_reti (show am_cd 193 40 = (36, 41, 0, 0, []) by decide +kernel) (by decide +kernel) h
  · replace h := h.2 hc
    refine e_ldi (show am_cd 193 9 = (2, 10, 3, 0, []) by decide +kernel) rfl ?_
    refine e_ldi (show am_cd 193 10 = (2, 11, 2, 0, []) by decide +kernel) rfl ?_
    refine e_cmp3 (show am_cd 193 11 = (11, 14, 27, 3, []) by decide +kernel) (fun hc => ?_) (fun hc => ?_)
    · replace h := h.1 hc
      refine e_ldi (show am_cd 193 27 = (2, 28, 3, 0, []) by decide +kernel) rfl ?_
      refine e_if1 (show am_cd 193 28 = (10, 31, 39, 1, []) by decide +kernel) (fun hc => ?_) (fun hc => ?_)
      · replace h := h.1 hc
        refine e_ldi (show am_cd 193 39 = (2, 40, 3, 0, []) by decide +kernel) rfl ?_
        exact e_reti (show am_cd 193 40 = (36, 41, 0, 0, []) by decide +kernel) (by decide +kernel) h
      · replace h := h.2 hc
        refine e_lda (v := 67) (show am_cd 193 31 = (2, 32, 0, 2, []) by decide +kernel) rfl ?_
        refine e_lda (v := 67) (show am_cd 193 32 = (2, 33, 0, 2, []) by decide +kernel) rfl ?_
        refine e_getf (a := 67) (tg := 0) (show am_cd 193 33 = (18, 36, 1228, 0, [129]) by decide +kernel) (by decide +kernel) (by decide +kernel) rfl ?_
        refine e_cV (z := 0) (a := 67) (as := [(0, w 67 28)]) (rest := []) (show am_cd 193 36 = (40, 39, 172, 0, [143]) by decide +kernel) (by decide +kernel) rfl rfl (Nat.le_of_ble_eq_true rfl) rfl ?_
        refine Cl.mono (Cl.up (c_fault (d := d) h.1) (by omega)) ?_
        rintro _ _ ⟨rfl, rfl⟩
        refine ⟨fun _ h9 => (by cases h9), ?_⟩
        replace h := h.2
        show Ev _ 193 _ 39 [rA 67, rA 90, (0, mo), (0, n)] [] _
        refine e_ldi (show am_cd 193 39 = (2, 40, 3, 0, []) by decide +kernel) rfl ?_
        exact e_reti (show am_cd 193 40 = (36, 41, 0, 0, []) by decide +kernel) (by decide +kernel) h
    · replace h := h.2 hc
      refine e_lda (v := 90) (show am_cd 193 14 = (2, 15, 1, 2, []) by decide +kernel) rfl ?_
      refine e_ldi (show am_cd 193 15 = (2, 16, 3, 0, []) by decide +kernel) rfl ?_
      refine e_lda (v := 67) (show am_cd 193 16 = (2, 17, 0, 2, []) by decide +kernel) rfl ?_
      refine e_cV (z := 0) (a := 67) (as := []) (rest := [(0, n), rA 90]) (show am_cd 193 17 = (40, 20, 180, 0, [155]) by decide +kernel) (by decide +kernel) rfl rfl (Nat.le_of_ble_eq_true rfl) rfl ?_
      refine Cl.mono (Cl.up (c_readLetter (d := d) h.1) (by omega)) ?_
      rintro _ _ ⟨x1, w2, rfl, rfl, hp⟩
      refine ⟨fun _ h9 => (by cases h9), ?_⟩
      replace h := h.2 x1 w2 hp
      show Ev _ 193 _ 20 [rA 67, rA 90, (0, mo), (0, n)] [(0, x1), (0, n), rA 90] _
      refine e_iast (a := 90) (n := 6) (show am_cd 193 20 = (24, 21, 0, 0, []) by decide +kernel) (by decide +kernel) (by decide +kernel) (by decide +kernel) h.1 ?_
      replace h := h.2
      refine e_inc (la2 := [rA 67, rA 90, (0, mo), (0, n + 1)]) (show am_cd 193 21 = (4, 24, 3, 1, []) by decide +kernel) rfl rfl ?_
      refine e_go (show am_cd 193 24 = (12, 2, 0, 0, []) by decide +kernel) ?_
      exact h

theorem c_rLs90 {d : Nat} {w : eW} {t : eT} {tx : List Int} {mo : Int} (h : Px w tx ∧ ((1 : Int) ≤ mo ∧ (mo : Int) ≤ 6)) : Cl (d + 3) 193 [rA 67, rA 90, (0, mo)] (enc w t) (fun r S2 => ∃ x w2, r = some (0, x) ∧ S2 = enc w2 t ∧ RlQ tx 90 mo w (bnd (stW w) (rdLs tx mo.toNat)) x w2) := by
  obtain ⟨hP, hmo⟩ := h
  refine g_rLs90 (tx := tx) ?_
  cases hs : stW w with
  | error q =>
    refine g_rLl90 (tx := tx) ⟨hP, fun h1 => ?_, fun h1 => (by rw [hs] at h1; cases h1)⟩
    refine ⟨fun h2 => absurd (by decide) h2, fun _ => ⟨⟨hP, hP.b.1⟩, 0, _, rfl, rfl, ?_⟩⟩
    rw [stW_ft2 hs]
    exact ⟨hP, Fm.rf _ _ _, hs, ⟨by decide, by omega⟩, fun y hy => by cases hy⟩
  | ok p0 =>
    have fin : ∀ (w1 : eW) (acc : List Int), Px w1 tx → Fm [90] [28, 29] w w1 → stW w1 = .ok (p0 + acc.length) → ltsF tx mo.toNat p0 = acc → LtM w1 90 acc → (acc.length : Int) ≤ mo → (¬ w32 (acc.length : Int) = 0 → ∃ x w2, some ((0 : Nat), (acc.length : Int)) = some (0, x) ∧ enc w1 t = enc w2 t ∧ RlQ tx 90 mo w (bnd (.ok p0) (rdLs tx mo.toNat)) x w2) ∧ (¬ (¬ w32 (acc.length : Int) = 0) → (Px w1 tx ∧ 0 ≤ w1 67 28 ∧ w1 67 28 ≤ 81) ∧ (∃ x w2, some ((0 : Nat), (acc.length : Int)) = some (0, x) ∧ enc (ftW w1 (w1 67 28)) t = enc w2 t ∧ RlQ tx 90 mo w (bnd (.ok p0) (rdLs tx mo.toNat)) x w2)) := by
      intro w1 acc b1 b2 b3 b4 b5 b6
      have hb := b1.b
      simp (disch := omega) only [w32_id]
      refine ⟨fun h1 => ⟨_, w1, rfl, rfl, ?_⟩, fun h1 => ⟨⟨b1, hb.1⟩, _, _, rfl, rfl, ?_⟩⟩
      · have key : bnd (.ok p0) (rdLs tx mo.toNat) = .ok (acc, p0 + acc.length) := by
          show rdLs tx mo.toNat p0 = _
          unfold rdLs
          rw [b4, if_neg (fun h9 => h1 (by rw [h9]; rfl))]
        rw [key]
        exact ⟨b1, b2, b3, ⟨by omega, b6⟩, fun y hy => by cases hy; exact ⟨rfl, b5⟩⟩
      · have h0 : acc = [] := List.eq_nil_of_length_eq_zero (by omega)
        have key : bnd (.ok p0) (rdLs tx mo.toNat) = .error p0 := by
          show rdLs tx mo.toNat p0 = _
          unfold rdLs
          rw [b4, if_pos h0]
        have ft := b1.ft hb.1
        rw [key]
        refine ⟨ft.1, b2.tr (ft.2.mo (fun a ha => by cases ha) (fun a ha => ha)), ?_, ⟨by omega, b6⟩, fun y hy => by cases hy⟩
        rw [stW_f3 hb.1.1 b3, (stW_ok b3).2, h0]
        rfl
    have main : ∀ (k : Nat) (acc : List Int) (w1 : eW), (acc.length : Int) + k = mo → Px w1 tx → Fm [90] [28, 29] w w1 → stW w1 = .ok (p0 + acc.length) → ltsF tx mo.toNat p0 = acc ++ ltsF tx k (p0 + acc.length) → LtM w1 90 acc → Ev (d + 3) 193 (fun r S2 => ∃ x w2, r = some (0, x) ∧ S2 = enc w2 t ∧ RlQ tx 90 mo w (bnd (.ok p0) (rdLs tx mo.toNat)) x w2) 2 [rA 67, rA 90, (0, mo), (0, (acc.length : Int))] [] (enc w1 t) := by
      intro k
      induction k with
      | zero =>
        intro acc w1 hk b1 b2 b3 b4 b5
        have f := fin w1 acc b1 b2 b3 (by rw [b4]; exact List.append_nil _) b5 (by omega)
        refine g_rLl90 (tx := tx) ⟨b1, fun h1 => f, fun h1 => ⟨fun _ => f, fun h2 => ?_⟩⟩
        simp (disch := omega) only [w32_id] at h2
        omega
      | succ k ih =>
        intro acc w1 hk b1 b2 b3 b4 b5
        refine g_rLl90 (tx := tx) ⟨b1, fun h1 => ?_, fun h1 => ⟨fun h2 => ?_, fun h2 => ⟨b1, fun x1 w2 hw2 => ?_⟩⟩⟩
        · refine fin w1 acc b1 b2 b3 ?_ b5 (by omega)
          rw [b3] at h1
          have h1 : (ltO (hr tx (p0 + acc.length))).isSome = false := h1
          rw [b4]
          unfold ltsF
          cases hl : ltO (hr tx (p0 + acc.length)) with
          | some l => rw [hl] at h1; cases h1
          | none => exact List.append_nil _
        · simp (disch := omega) only [w32_id] at h2
          omega
        · obtain ⟨c1, c2, c3, c4, c5⟩ := hw2
          rw [b3] at c3 c4 h1
          have h1 : (ltO (hr tx (p0 + acc.length))).isSome = true := h1
          have c3 : stW w2 = stE (rdL tx (p0 + acc.length)) := c3
          have c4 : rvO (rdL tx (p0 + acc.length)) x1 := c4
          cases hl : ltO (hr tx (p0 + acc.length)) with
          | none => rw [hl] at h1; cases h1
          | some l =>
            have hrd : rdL tx (p0 + acc.length) = .ok (l, p0 + acc.length + 1) := by unfold rdL; rw [hl]
            rw [hrd] at c3 c4
            have c4 : x1 = l := c4
            simp (disch := omega) only [w32_id, Int.toNat_natCast]
            refine ⟨by omega, ?_⟩
            have fr : Fm [90] [28, 29] w2 (wu w2 90 acc.length x1) := Fm.pr (by decide) (by decide)
            have c2' : Fm [90] [28, 29] w1 w2 := c2.mo (fun a ha => by cases ha) (fun a ha => ha)
            have hst : stW (wu w2 90 acc.length x1) = stW w2 := by
              unfold stW
              rw [wu_na _ _ (by decide), wu_na _ _ (by decide)]
            have q5 : LtM (wu w2 90 acc.length x1) 90 (acc ++ [x1]) := (b5.m c2 (by decide) (by decide)).app
            have e1 : (acc ++ [x1]).length = acc.length + 1 := by rw [List.length_append, List.length_singleton]
            have := ih (acc ++ [x1]) (wu w2 90 acc.length x1) (by rw [e1]; omega) (c1.m (Fm.pr (F := []) (R := [90]) (by decide) (by decide)) (by decide) (by decide)) (b2.tr (c2'.tr fr)) (by rw [hst, c3, e1]; rfl) (by
              rw [b4, e1, List.append_assoc]
              congr 1
              show ltsF tx (k + 1) (p0 + acc.length) = x1 :: ltsF tx k (p0 + (acc.length + 1))
              rw [ltsF, hl, c4]
              rfl) q5
            rw [e1] at this
            exact this
    exact main mo.toNat [] w (by rw [List.length_nil]; omega) hP (Fm.rf _ _ _) hs rfl (fun i hi => by cases hi)

theorem g_rLs91 {d : Nat} {Q : Option aV → aS → Prop} {w : eW} {t : eT} {mo : Int} {tx : List Int} (h : Ev (d + 3) 193 Q 2 [rA 67, rA 91, (0, mo), (0, 0)] [] (enc w t)) : Cl (d + 3) 193 [rA 67, rA 91, (0, mo)] (enc w t) Q := by
  show Ev (d + 3) 193 Q 0 [rA 67, rA 91, (0, mo), (9, 0)] [] (enc w t)
  refine e_ic (show am_cd 193 0 = (0, 1, 0, 0, []) by decide +kernel) ?_
  refine e_sti (la2 := [rA 67, rA 91, (0, mo), (0, 0)]) (show am_cd 193 1 = (3, 2, 3, 0, []) by decide +kernel) rfl ?_
  exact h

theorem g_rLl91 {d : Nat} {Q : Option aV → aS → Prop} {w : eW} {t : eT} {mo n : Int} {tx : List Int} (h : (Px w tx) ∧ (((ilB tx (stW w)) = false → ((¬ w32 n = 0 → Q (some (0, n)) (enc w t)) ∧ (¬ (¬ w32 n = 0) → (Px w tx ∧ 0 ≤ w 67 28 ∧ w 67 28 ≤ 81) ∧ (Q (some (0, n)) (enc (ftW w (w 67 28)) t))))) ∧ ((ilB tx (stW w)) = true → ((w32 mo ≤ w32 n → ((¬ w32 n = 0 → Q (some (0, n)) (enc w t)) ∧ (¬ (¬ w32 n = 0) → (Px w tx ∧ 0 ≤ w 67 28 ∧ w 67 28 ≤ 81) ∧ (Q (some (0, n)) (enc (ftW w (w 67 28)) t))))) ∧ (¬ (w32 mo ≤ w32 n) → (Px w tx) ∧ (∀ x1 w2, (Px w2 tx ∧ Fm [] [28, 29] w w2 ∧ stW w2 = stE (bnd (stW w) (rdL tx)) ∧ rvO (bnd (stW w) (rdL tx)) x1 ∧ -1 ≤ x1 ∧ x1 ≤ 26) → (0 ≤ w32 n ∧ w32 n < 6) ∧ (Ev (d + 3) 193 Q 2 [rA 67, rA 91, (0, mo), (0, n + 1)] [] (enc (wu w2 91 (w32 n).toNat x1) t)))))))) : Ev (d + 3) 193 Q 2 [rA 67, rA 91, (0, mo), (0, n)] [] (enc w t) := by
  refine e_lda (v := 67) (show am_cd 193 2 = (2, 3, 0, 2, []) by decide +kernel) rfl ?_
  refine e_cV (z := 0) (a := 67) (as := []) (rest := []) (show am_cd 193 3 = (40, 6, 179, 0, [218]) by decide +kernel) (by decide +kernel) rfl rfl (Nat.le_of_ble_eq_true rfl) rfl ?_
  refine Cl.mono (Cl.up (c_isLetter (d := d) h.1) (by omega)) ?_
  rintro _ _ ⟨rfl, rfl⟩
  refine ⟨fun _ h9 => (by cases h9), ?_⟩
  replace h := h.2
  show Ev _ 193 _ 6 [rA 67, rA 91, (0, mo), (0, n)] [(0, bI (ilB tx (stW w)))] _
  refine e_ifb0 (show am_cd 193 6 = (10, 9, 27, 0, []) by decide +kernel) (fun hc => ?_) (fun hc => ?_)
  · replace h := h.1 hc
    refine e_ldi (show am_cd 193 27 = (2, 28, 3, 0, []) by decide +kernel) rfl ?_
    refine e_if1 (show am_cd 193 28 = (10, 31, 39, 1, []) by decide +kernel) (fun hc => ?_) (fun hc => ?_)
    · replace h := h.1 hc
      refine e_ldi (show am_cd 193 39 = (2, 40, 3, 0, []) by decide +kernel) rfl ?_
      exact e_reti (show am_cd 193 40 = (36, 41, 0, 0, []) by decide +kernel) (by decide +kernel) h
    · replace h := h.2 hc
      refine e_lda (v := 67) (show am_cd 193 31 = (2, 32, 0, 2, []) by decide +kernel) rfl ?_
      refine e_lda (v := 67) (show am_cd 193 32 = (2, 33, 0, 2, []) by decide +kernel) rfl ?_
      refine e_getf (a := 67) (tg := 0) (show am_cd 193 33 = (18, 36, 1228, 0, [129]) by decide +kernel) (by decide +kernel) (by decide +kernel) rfl ?_
      refine e_cV (z := 0) (a := 67) (as := [(0, w 67 28)]) (rest := []) (show am_cd 193 36 = (40, 39, 172, 0, [143]) by decide +kernel) (by decide +kernel) rfl rfl (Nat.le_of_ble_eq_true rfl) rfl ?_
      refine Cl.mono (Cl.up (c_fault (d := d) h.1) (by omega)) ?_
      rintro _ _ ⟨rfl, rfl⟩
      refine ⟨fun _ h9 => (by cases h9), ?_⟩
      replace h := h.2
      show Ev _ 193 _ 39 [rA 67, rA 91, (0, mo), (0, n)] [] _
      refine e_ldi (show am_cd 193 39 = (2, 40, 3, 0, []) by decide +kernel) rfl ?_
      exact e_reti (show am_cd 193 40 = (36, 41, 0, 0, []) by decide +kernel) (by decide +kernel) h
  · replace h := h.2 hc
    refine e_ldi (show am_cd 193 9 = (2, 10, 3, 0, []) by decide +kernel) rfl ?_
    refine e_ldi (show am_cd 193 10 = (2, 11, 2, 0, []) by decide +kernel) rfl ?_
    refine e_cmp3 (show am_cd 193 11 = (11, 14, 27, 3, []) by decide +kernel) (fun hc => ?_) (fun hc => ?_)
    · replace h := h.1 hc
      refine e_ldi (show am_cd 193 27 = (2, 28, 3, 0, []) by decide +kernel) rfl ?_
      refine e_if1 (show am_cd 193 28 = (10, 31, 39, 1, []) by decide +kernel) (fun hc => ?_) (fun hc => ?_)
      · replace h := h.1 hc
        refine e_ldi (show am_cd 193 39 = (2, 40, 3, 0, []) by decide +kernel) rfl ?_
        exact e_reti (show am_cd 193 40 = (36, 41, 0, 0, []) by decide +kernel) (by decide +kernel) h
      · replace h := h.2 hc
        refine e_lda (v := 67) (show am_cd 193 31 = (2, 32, 0, 2, []) by decide +kernel) rfl ?_
        refine e_lda (v := 67) (show am_cd 193 32 = (2, 33, 0, 2, []) by decide +kernel) rfl ?_
        refine e_getf (a := 67) (tg := 0) (show am_cd 193 33 = (18, 36, 1228, 0, [129]) by decide +kernel) (by decide +kernel) (by decide +kernel) rfl ?_
        refine e_cV (z := 0) (a := 67) (as := [(0, w 67 28)]) (rest := []) (show am_cd 193 36 = (40, 39, 172, 0, [143]) by decide +kernel) (by decide +kernel) rfl rfl (Nat.le_of_ble_eq_true rfl) rfl ?_
        refine Cl.mono (Cl.up (c_fault (d := d) h.1) (by omega)) ?_
        rintro _ _ ⟨rfl, rfl⟩
        refine ⟨fun _ h9 => (by cases h9), ?_⟩
        replace h := h.2
        show Ev _ 193 _ 39 [rA 67, rA 91, (0, mo), (0, n)] [] _
        refine e_ldi (show am_cd 193 39 = (2, 40, 3, 0, []) by decide +kernel) rfl ?_
        exact e_reti (show am_cd 193 40 = (36, 41, 0, 0, []) by decide +kernel) (by decide +kernel) h
    · replace h := h.2 hc
      refine e_lda (v := 91) (show am_cd 193 14 = (2, 15, 1, 2, []) by decide +kernel) rfl ?_
      refine e_ldi (show am_cd 193 15 = (2, 16, 3, 0, []) by decide +kernel) rfl ?_
      refine e_lda (v := 67) (show am_cd 193 16 = (2, 17, 0, 2, []) by decide +kernel) rfl ?_
      refine e_cV (z := 0) (a := 67) (as := []) (rest := [(0, n), rA 91]) (show am_cd 193 17 = (40, 20, 180, 0, [155]) by decide +kernel) (by decide +kernel) rfl rfl (Nat.le_of_ble_eq_true rfl) rfl ?_
      refine Cl.mono (Cl.up (c_readLetter (d := d) h.1) (by omega)) ?_
      rintro _ _ ⟨x1, w2, rfl, rfl, hp⟩
      refine ⟨fun _ h9 => (by cases h9), ?_⟩
      replace h := h.2 x1 w2 hp
      show Ev _ 193 _ 20 [rA 67, rA 91, (0, mo), (0, n)] [(0, x1), (0, n), rA 91] _
      refine e_iast (a := 91) (n := 6) (show am_cd 193 20 = (24, 21, 0, 0, []) by decide +kernel) (by decide +kernel) (by decide +kernel) (by decide +kernel) h.1 ?_
      replace h := h.2
      refine e_inc (la2 := [rA 67, rA 91, (0, mo), (0, n + 1)]) (show am_cd 193 21 = (4, 24, 3, 1, []) by decide +kernel) rfl rfl ?_
      refine e_go (show am_cd 193 24 = (12, 2, 0, 0, []) by decide +kernel) ?_
      exact h

theorem c_rLs91 {d : Nat} {w : eW} {t : eT} {tx : List Int} {mo : Int} (h : Px w tx ∧ ((1 : Int) ≤ mo ∧ (mo : Int) ≤ 6)) : Cl (d + 3) 193 [rA 67, rA 91, (0, mo)] (enc w t) (fun r S2 => ∃ x w2, r = some (0, x) ∧ S2 = enc w2 t ∧ RlQ tx 91 mo w (bnd (stW w) (rdLs tx mo.toNat)) x w2) := by
  obtain ⟨hP, hmo⟩ := h
  refine g_rLs91 (tx := tx) ?_
  cases hs : stW w with
  | error q =>
    refine g_rLl91 (tx := tx) ⟨hP, fun h1 => ?_, fun h1 => (by rw [hs] at h1; cases h1)⟩
    refine ⟨fun h2 => absurd (by decide) h2, fun _ => ⟨⟨hP, hP.b.1⟩, 0, _, rfl, rfl, ?_⟩⟩
    rw [stW_ft2 hs]
    exact ⟨hP, Fm.rf _ _ _, hs, ⟨by decide, by omega⟩, fun y hy => by cases hy⟩
  | ok p0 =>
    have fin : ∀ (w1 : eW) (acc : List Int), Px w1 tx → Fm [91] [28, 29] w w1 → stW w1 = .ok (p0 + acc.length) → ltsF tx mo.toNat p0 = acc → LtM w1 91 acc → (acc.length : Int) ≤ mo → (¬ w32 (acc.length : Int) = 0 → ∃ x w2, some ((0 : Nat), (acc.length : Int)) = some (0, x) ∧ enc w1 t = enc w2 t ∧ RlQ tx 91 mo w (bnd (.ok p0) (rdLs tx mo.toNat)) x w2) ∧ (¬ (¬ w32 (acc.length : Int) = 0) → (Px w1 tx ∧ 0 ≤ w1 67 28 ∧ w1 67 28 ≤ 81) ∧ (∃ x w2, some ((0 : Nat), (acc.length : Int)) = some (0, x) ∧ enc (ftW w1 (w1 67 28)) t = enc w2 t ∧ RlQ tx 91 mo w (bnd (.ok p0) (rdLs tx mo.toNat)) x w2)) := by
      intro w1 acc b1 b2 b3 b4 b5 b6
      have hb := b1.b
      simp (disch := omega) only [w32_id]
      refine ⟨fun h1 => ⟨_, w1, rfl, rfl, ?_⟩, fun h1 => ⟨⟨b1, hb.1⟩, _, _, rfl, rfl, ?_⟩⟩
      · have key : bnd (.ok p0) (rdLs tx mo.toNat) = .ok (acc, p0 + acc.length) := by
          show rdLs tx mo.toNat p0 = _
          unfold rdLs
          rw [b4, if_neg (fun h9 => h1 (by rw [h9]; rfl))]
        rw [key]
        exact ⟨b1, b2, b3, ⟨by omega, b6⟩, fun y hy => by cases hy; exact ⟨rfl, b5⟩⟩
      · have h0 : acc = [] := List.eq_nil_of_length_eq_zero (by omega)
        have key : bnd (.ok p0) (rdLs tx mo.toNat) = .error p0 := by
          show rdLs tx mo.toNat p0 = _
          unfold rdLs
          rw [b4, if_pos h0]
        have ft := b1.ft hb.1
        rw [key]
        refine ⟨ft.1, b2.tr (ft.2.mo (fun a ha => by cases ha) (fun a ha => ha)), ?_, ⟨by omega, b6⟩, fun y hy => by cases hy⟩
        rw [stW_f3 hb.1.1 b3, (stW_ok b3).2, h0]
        rfl
    have main : ∀ (k : Nat) (acc : List Int) (w1 : eW), (acc.length : Int) + k = mo → Px w1 tx → Fm [91] [28, 29] w w1 → stW w1 = .ok (p0 + acc.length) → ltsF tx mo.toNat p0 = acc ++ ltsF tx k (p0 + acc.length) → LtM w1 91 acc → Ev (d + 3) 193 (fun r S2 => ∃ x w2, r = some (0, x) ∧ S2 = enc w2 t ∧ RlQ tx 91 mo w (bnd (.ok p0) (rdLs tx mo.toNat)) x w2) 2 [rA 67, rA 91, (0, mo), (0, (acc.length : Int))] [] (enc w1 t) := by
      intro k
      induction k with
      | zero =>
        intro acc w1 hk b1 b2 b3 b4 b5
        have f := fin w1 acc b1 b2 b3 (by rw [b4]; exact List.append_nil _) b5 (by omega)
        refine g_rLl91 (tx := tx) ⟨b1, fun h1 => f, fun h1 => ⟨fun _ => f, fun h2 => ?_⟩⟩
        simp (disch := omega) only [w32_id] at h2
        omega
      | succ k ih =>
        intro acc w1 hk b1 b2 b3 b4 b5
        refine g_rLl91 (tx := tx) ⟨b1, fun h1 => ?_, fun h1 => ⟨fun h2 => ?_, fun h2 => ⟨b1, fun x1 w2 hw2 => ?_⟩⟩⟩
        · refine fin w1 acc b1 b2 b3 ?_ b5 (by omega)
          rw [b3] at h1
          have h1 : (ltO (hr tx (p0 + acc.length))).isSome = false := h1
          rw [b4]
          unfold ltsF
          cases hl : ltO (hr tx (p0 + acc.length)) with
          | some l => rw [hl] at h1; cases h1
          | none => exact List.append_nil _
        · simp (disch := omega) only [w32_id] at h2
          omega
        · obtain ⟨c1, c2, c3, c4, c5⟩ := hw2
          rw [b3] at c3 c4 h1
          have h1 : (ltO (hr tx (p0 + acc.length))).isSome = true := h1
          have c3 : stW w2 = stE (rdL tx (p0 + acc.length)) := c3
          have c4 : rvO (rdL tx (p0 + acc.length)) x1 := c4
          cases hl : ltO (hr tx (p0 + acc.length)) with
          | none => rw [hl] at h1; cases h1
          | some l =>
            have hrd : rdL tx (p0 + acc.length) = .ok (l, p0 + acc.length + 1) := by unfold rdL; rw [hl]
            rw [hrd] at c3 c4
            have c4 : x1 = l := c4
            simp (disch := omega) only [w32_id, Int.toNat_natCast]
            refine ⟨by omega, ?_⟩
            have fr : Fm [91] [28, 29] w2 (wu w2 91 acc.length x1) := Fm.pr (by decide) (by decide)
            have c2' : Fm [91] [28, 29] w1 w2 := c2.mo (fun a ha => by cases ha) (fun a ha => ha)
            have hst : stW (wu w2 91 acc.length x1) = stW w2 := by
              unfold stW
              rw [wu_na _ _ (by decide), wu_na _ _ (by decide)]
            have q5 : LtM (wu w2 91 acc.length x1) 91 (acc ++ [x1]) := (b5.m c2 (by decide) (by decide)).app
            have e1 : (acc ++ [x1]).length = acc.length + 1 := by rw [List.length_append, List.length_singleton]
            have := ih (acc ++ [x1]) (wu w2 91 acc.length x1) (by rw [e1]; omega) (c1.m (Fm.pr (F := []) (R := [91]) (by decide) (by decide)) (by decide) (by decide)) (b2.tr (c2'.tr fr)) (by rw [hst, c3, e1]; rfl) (by
              rw [b4, e1, List.append_assoc]
              congr 1
              show ltsF tx (k + 1) (p0 + acc.length) = x1 :: ltsF tx k (p0 + (acc.length + 1))
              rw [ltsF, hl, c4]
              rfl) q5
            rw [e1] at this
            exact this
    exact main mo.toNat [] w (by rw [List.length_nil]; omega) hP (Fm.rf _ _ _) hs rfl (fun i hi => by cases hi)

theorem c_readLetters {d A : Nat} {w : eW} {t : eT} {tx : List Int} {mo : Int} (h : Px w tx ∧ ((1 : Int) ≤ mo ∧ (mo : Int) ≤ 6) ∧ (A = 90 ∨ A = 91)) : Cl (d + 3) 193 [rA 67, rA A, (0, mo)] (enc w t) (fun r S2 => ∃ x w2, r = some (0, x) ∧ S2 = enc w2 t ∧ RlQ tx A mo w (bnd (stW w) (rdLs tx mo.toNat)) x w2) := by
  obtain ⟨h1, h2, rfl | rfl⟩ := h
  · exact c_rLs90 ⟨h1, h2⟩
  · exact c_rLs91 ⟨h1, h2⟩

