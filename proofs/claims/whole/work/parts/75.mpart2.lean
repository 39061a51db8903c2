/-! The model: a part of a rule. -/
def rdT0 (m : eW) (tx : List Int) (p : Nat) : Except Nat (Int × Nat) := if hr tx p = 46 then .ok (((poB m 268435455 268435455 : Nat) : Int), p + 1)
  else if hr tx p = 58 then (match rdM m tx (p + 1) with
    | .error q => .error q
    | .ok y => .ok (((poB m 268435455 y.1 : Nat) : Int), y.2))
  else match rdM m tx p with
    | .error q => .error q
    | .ok y => if hr tx y.2 = 58 then (match rdM m tx (y.2 + 1) with
      | .error q => .error q
      | .ok z => .ok (((poB m y.1 z.1 : Nat) : Int), z.2)) else .ok (((poB m y.1 268435455 : Nat) : Int), y.2)
def rdT (m : eW) (tx : List Int) (e : Int) (p : Nat) : Except Nat (Int × Nat) := if e = 1 ∧ hr tx p = 35 then .ok (65536, p + 1) else rdT0 m tx p
theorem poB_b {m : eW} (h : WFp m) (a b : Int) : (0 : Int) ≤ ((poB m a b : Nat) : Int) ∧ ((poB m a b : Nat) : Int) < 2 ^ nP m ∧ ((poB m a b : Nat) : Int) < 65536 := by
  have h1 : poB m a b < 2 ^ nP m := bts_lt _ _
  have h2 : poB m a b < 2 ^ 16 := bts_le (by have := h.1; unfold nP; omega)
  refine ⟨Int.natCast_nonneg _, ?_, ?_⟩
  · have := Int.ofNat_lt.mpr h1
    rw [Int.natCast_pow] at this
    exact this
  · exact Int.ofNat_lt.mpr h2
theorem rdT0_b {m : eW} {tx : List Int} {p : Nat} {y : Int × Nat} (hp : WFp m) (h : rdT0 m tx p = .ok y) : 0 ≤ y.1 ∧ y.1 < 2 ^ nP m := by
  unfold rdT0 at h
  by_cases h1 : hr tx p = 46
  · rw [if_pos h1] at h
    cases h
    exact ⟨(poB_b hp _ _).1, (poB_b hp _ _).2.1⟩
  · rw [if_neg h1] at h
    by_cases h2 : hr tx p = 58
    · rw [if_pos h2] at h
      cases hR : rdM m tx (p + 1) with
      | error q => rw [hR] at h; cases h
      | ok z =>
        rw [hR] at h
        cases h
        exact ⟨(poB_b hp _ _).1, (poB_b hp _ _).2.1⟩
    · rw [if_neg h2] at h
      cases hR : rdM m tx p with
      | error q => rw [hR] at h; cases h
      | ok z =>
        rw [hR] at h
        dsimp only at h
        by_cases h3 : hr tx z.2 = 58
        · rw [if_pos h3] at h
          cases hR2 : rdM m tx (z.2 + 1) with
          | error q => rw [hR2] at h; cases h
          | ok z2 =>
            rw [hR2] at h
            cases h
            exact ⟨(poB_b hp _ _).1, (poB_b hp _ _).2.1⟩
        · rw [if_neg h3] at h
          cases h
          exact ⟨(poB_b hp _ _).1, (poB_b hp _ _).2.1⟩
theorem psS_f {tx : List Int} {s : pT} {c : Int} (h : psB tx s c = false) : psS tx s c = s := by
  cases s with
  | error q => rfl
  | ok p => exact if_neg (of_decide_eq_false h)
theorem psS_t {tx : List Int} {s : pT} {c : Int} (h : psB tx s c = true) : ∃ p, s = .ok p ∧ hr tx p = c ∧ psS tx s c = .ok (p + 1) := by
  cases s with
  | error q => cases h
  | ok p => exact ⟨p, rfl, of_decide_eq_true h, if_pos (of_decide_eq_true h)⟩
theorem MGs.m {R F : List Nat} {w w2 m : eW} (h : MGs w m) (hf : Fm R F w w2) (hR : 70 ∉ R ∧ 71 ∉ R) (hF : 3 ∉ F) : MGs w2 m := by
  unfold MGs
  rw [hf.2 3 hF, hf.1 70 (by decide) hR.1, hf.1 71 (by decide) hR.2]
  exact h

theorem g_readPart {d : Nat} {Q : Option aV → aS → Prop} {w : eW} {t : eT} {e : Int} {tx : List Int} {m : eW} (h : ((w32 e = 0 → Ev (d + 5) 189 Q 16 [rA 67, (0, e), (9, 0)] [] (enc w t)) ∧ (¬ (w32 e = 0) → (Px w tx ∧ (0 : Int) ≤ 35 ∧ (35 : Int) ≤ 255) ∧ (∀ w1, (Px w1 tx ∧ Fm [] [28, 29] w w1 ∧ stW w1 = psS tx (stW w) 35) → (((psB tx (stW w) 35) = false → Ev (d + 5) 189 Q 16 [rA 67, (0, e), (9, 0)] [] (enc w1 t)) ∧ ((psB tx (stW w) 35) = true → Q (some (0, 65536)) (enc w1 t))))))) : Cl (d + 5) 189 [rA 67, (0, e)] (enc w t) Q := by
  show Ev (d + 5) 189 Q 0 [rA 67, (0, e), (9, 0)] [] (enc w t)
  refine e_ldi (show am_cd 189 0 = (2, 1, 1, 0, []) by decide +kernel) rfl ?_
  refine e_if0 (show am_cd 189 1 = (10, 4, 16, 0, []) by decide +kernel) (fun hc => ?_) (fun hc => ?_)
  · replace h := h.1 hc
    exact h
  · replace h := h.2 hc
    refine e_lda (v := 67) (show am_cd 189 4 = (2, 5, 0, 2, []) by decide +kernel) rfl ?_
    refine e_ic (show am_cd 189 5 = (0, 7, 1, 35, []) by decide +kernel) ?_
    refine e_cV (z := 0) (a := 67) (as := [(0, 35)]) (rest := []) (show am_cd 189 7 = (40, 10, 174, 0, [139]) by decide +kernel) (by decide +kernel) rfl rfl (Nat.le_of_ble_eq_true rfl) rfl ?_
    refine Cl.mono (Cl.up (c_passes (d := d) h.1) (by omega)) ?_
    rintro _ _ ⟨w1, rfl, rfl, hp⟩
    refine ⟨fun _ h9 => (by cases h9), ?_⟩
    replace h := h.2 w1 hp
    show Ev _ 189 _ 10 [rA 67, (0, e), (9, 0)] [(0, bI (psB tx (stW w) 35))] _
    refine e_ifb0 (show am_cd 189 10 = (10, 13, 16, 0, []) by decide +kernel) (fun hc => ?_) (fun hc => ?_)
    · replace h := h.1 hc
      exact h
    · replace h := h.2 hc
      refine e_ic (show am_cd 189 13 = (0, 15, 3, 65536, [199]) by decide +kernel) ?_
      exact e_reti (show am_cd 189 15 = (36, 16, 0, 0, []) by decide +kernel) (by decide +kernel) h

theorem g_readPartT {d : Nat} {Q : Option aV → aS → Prop} {w : eW} {t : eT} {e : Int} {tx : List Int} {m : eW} (h : (Px w tx ∧ (0 : Int) ≤ 46 ∧ (46 : Int) ≤ 255) ∧ (∀ w1, (Px w1 tx ∧ Fm [] [28, 29] w w1 ∧ stW w1 = psS tx (stW w) 46) → (((psB tx (stW w) 46) = false → (Px w1 tx ∧ (0 : Int) ≤ 58 ∧ (58 : Int) ≤ 255) ∧ (∀ w2, (Px w2 tx ∧ Fm [] [28, 29] w1 w2 ∧ stW w2 = psS tx (stW w1) 58) → (((psB tx (stW w1) 58) = false → (Px w2 tx ∧ WFs m ∧ MGs w2 m) ∧ (∀ x3 w4, (Px w4 tx ∧ Fm [] [28, 29] w2 w4 ∧ stW w4 = stE (bnd (stW w2) (rdM m tx)) ∧ rvO (bnd (stW w2) (rdM m tx)) x3 ∧ 0 ≤ x3 ∧ x3 < 268435456) → (Px w4 tx ∧ (0 : Int) ≤ 58 ∧ (58 : Int) ≤ 255) ∧ (∀ w5, (Px w5 tx ∧ Fm [] [28, 29] w4 w5 ∧ stW w5 = psS tx (stW w4) 58) → (((psB tx (stW w4) 58) = false → (MG w5 m ∧ ((0 : Int) ≤ x3 ∧ (x3 : Int) < 268435456) ∧ ((0 : Int) ≤ 268435455 ∧ (268435455 : Int) < 268435456)) ∧ (Q (some (0, ((poB m x3 268435455 : Nat) : Int))) (enc w5 t))) ∧ ((psB tx (stW w4) 58) = true → (Px w5 tx ∧ WFs m ∧ MGs w5 m) ∧ (∀ x6 w7, (Px w7 tx ∧ Fm [] [28, 29] w5 w7 ∧ stW w7 = stE (bnd (stW w5) (rdM m tx)) ∧ rvO (bnd (stW w5) (rdM m tx)) x6 ∧ 0 ≤ x6 ∧ x6 < 268435456) → (MG w7 m ∧ ((0 : Int) ≤ x3 ∧ (x3 : Int) < 268435456) ∧ ((0 : Int) ≤ x6 ∧ (x6 : Int) < 268435456)) ∧ (Q (some (0, ((poB m x3 x6 : Nat) : Int))) (enc w7 t)))))))) ∧ ((psB tx (stW w1) 58) = true → (Px w2 tx ∧ WFs m ∧ MGs w2 m) ∧ (∀ x8 w9, (Px w9 tx ∧ Fm [] [28, 29] w2 w9 ∧ stW w9 = stE (bnd (stW w2) (rdM m tx)) ∧ rvO (bnd (stW w2) (rdM m tx)) x8 ∧ 0 ≤ x8 ∧ x8 < 268435456) → (MG w9 m ∧ ((0 : Int) ≤ 268435455 ∧ (268435455 : Int) < 268435456) ∧ ((0 : Int) ≤ x8 ∧ (x8 : Int) < 268435456)) ∧ (Q (some (0, ((poB m 268435455 x8 : Nat) : Int))) (enc w9 t))))))) ∧ ((psB tx (stW w) 46) = true → (MG w1 m ∧ ((0 : Int) ≤ 268435455 ∧ (268435455 : Int) < 268435456) ∧ ((0 : Int) ≤ 268435455 ∧ (268435455 : Int) < 268435456)) ∧ (Q (some (0, ((poB m 268435455 268435455 : Nat) : Int))) (enc w1 t)))))) : Ev (d + 5) 189 Q 16 [rA 67, (0, e), (9, 0)] [] (enc w t) := by
  refine e_lda (v := 67) (show am_cd 189 16 = (2, 17, 0, 2, []) by decide +kernel) rfl ?_
  refine e_ic (show am_cd 189 17 = (0, 19, 1, 46, []) by decide +kernel) ?_
  refine e_cV (z := 0) (a := 67) (as := [(0, 46)]) (rest := []) (show am_cd 189 19 = (40, 22, 174, 0, [139]) by decide +kernel) (by decide +kernel) rfl rfl (Nat.le_of_ble_eq_true rfl) rfl ?_
  refine Cl.mono (Cl.up (c_passes (d := d) h.1) (by omega)) ?_
  rintro _ _ ⟨w1, rfl, rfl, hp⟩
  refine ⟨fun _ h9 => (by cases h9), ?_⟩
  replace h := h.2 w1 hp
  show Ev _ 189 _ 22 [rA 67, (0, e), (9, 0)] [(0, bI (psB tx (stW w) 46))] _
  refine e_ifb0 (show am_cd 189 22 = (10, 25, 34, 0, []) by decide +kernel) (fun hc => ?_) (fun hc => ?_)
  · replace h := h.1 hc
    refine e_lda (v := 67) (show am_cd 189 34 = (2, 35, 0, 2, []) by decide +kernel) rfl ?_
    refine e_ic (show am_cd 189 35 = (0, 37, 1, 58, []) by decide +kernel) ?_
    refine e_cV (z := 0) (a := 67) (as := [(0, 58)]) (rest := []) (show am_cd 189 37 = (40, 40, 174, 0, [139]) by decide +kernel) (by decide +kernel) rfl rfl (Nat.le_of_ble_eq_true rfl) rfl ?_
    refine Cl.mono (Cl.up (c_passes (d := d) h.1) (by omega)) ?_
    rintro _ _ ⟨w2, rfl, rfl, hp⟩
    refine ⟨fun _ h9 => (by cases h9), ?_⟩
    replace h := h.2 w2 hp
    show Ev _ 189 _ 40 [rA 67, (0, e), (9, 0)] [(0, bI (psB tx (stW w1) 58))] _
    refine e_ifb0 (show am_cd 189 40 = (10, 43, 54, 0, []) by decide +kernel) (fun hc => ?_) (fun hc => ?_)
    · replace h := h.1 hc
      refine e_lda (v := 67) (show am_cd 189 54 = (2, 55, 0, 2, []) by decide +kernel) rfl ?_
      refine e_cV (z := 0) (a := 67) (as := []) (rest := []) (show am_cd 189 55 = (40, 58, 187, 0, [205]) by decide +kernel) (by decide +kernel) rfl rfl (Nat.le_of_ble_eq_true rfl) rfl ?_
      refine Cl.mono (Cl.up (c_readSome (d := d) h.1) (by omega)) ?_
      rintro _ _ ⟨x3, w4, rfl, rfl, hp⟩
      refine ⟨fun _ h9 => (by cases h9), ?_⟩
      replace h := h.2 x3 w4 hp
      show Ev _ 189 _ 58 [rA 67, (0, e), (9, 0)] [(0, x3)] _
      refine e_sti (la2 := [rA 67, (0, e), (0, x3)]) (show am_cd 189 58 = (3, 59, 2, 0, []) by decide +kernel) rfl ?_
      refine e_lda (v := 67) (show am_cd 189 59 = (2, 60, 0, 2, []) by decide +kernel) rfl ?_
      refine e_ldi (show am_cd 189 60 = (2, 61, 2, 0, []) by decide +kernel) rfl ?_
      refine e_lda (v := 67) (show am_cd 189 61 = (2, 62, 0, 2, []) by decide +kernel) rfl ?_
      refine e_ic (show am_cd 189 62 = (0, 64, 1, 58, []) by decide +kernel) ?_
      refine e_cV (z := 0) (a := 67) (as := [(0, 58)]) (rest := [(0, x3), rA 67]) (show am_cd 189 64 = (40, 67, 174, 0, [139]) by decide +kernel) (by decide +kernel) rfl rfl (Nat.le_of_ble_eq_true rfl) rfl ?_
      refine Cl.mono (Cl.up (c_passes (d := d) h.1) (by omega)) ?_
      rintro _ _ ⟨w5, rfl, rfl, hp⟩
      refine ⟨fun _ h9 => (by cases h9), ?_⟩
      replace h := h.2 w5 hp
      show Ev _ 189 _ 67 [rA 67, (0, e), (0, x3)] [(0, bI (psB tx (stW w4) 58)), (0, x3), rA 67] _
      refine e_ifb0 (show am_cd 189 67 = (10, 70, 77, 0, []) by decide +kernel) (fun hc => ?_) (fun hc => ?_)
      · replace h := h.1 hc
        refine e_ic (show am_cd 189 77 = (0, 79, 3, 268435455, [200]) by decide +kernel) ?_
        refine e_cV (z := 0) (a := 67) (as := [(0, x3), (0, 268435455)]) (rest := []) (show am_cd 189 79 = (40, 82, 188, 0, [201]) by decide +kernel) (by decide +kernel) rfl rfl (Nat.le_of_ble_eq_true rfl) rfl ?_
        refine Cl.mono (Cl.up (c_pairsOf (d := d) h.1) (by omega)) ?_
        rintro _ _ ⟨rfl, rfl⟩
        refine ⟨fun _ h9 => (by cases h9), ?_⟩
        replace h := h.2
        show Ev _ 189 _ 82 [rA 67, (0, e), (0, x3)] [(0, ((poB m x3 268435455 : Nat) : Int))] _
        exact e_reti (show am_cd 189 82 = (36, 83, 0, 0, []) by decide +kernel) (by decide +kernel) h
      · replace h := h.2 hc
        refine e_lda (v := 67) (show am_cd 189 70 = (2, 71, 0, 2, []) by decide +kernel) rfl ?_
        refine e_cV (z := 0) (a := 67) (as := []) (rest := [(0, x3), rA 67]) (show am_cd 189 71 = (40, 74, 187, 0, [205]) by decide +kernel) (by decide +kernel) rfl rfl (Nat.le_of_ble_eq_true rfl) rfl ?_
        refine Cl.mono (Cl.up (c_readSome (d := d) h.1) (by omega)) ?_
        rintro _ _ ⟨x6, w7, rfl, rfl, hp⟩
        refine ⟨fun _ h9 => (by cases h9), ?_⟩
        replace h := h.2 x6 w7 hp
        show Ev _ 189 _ 74 [rA 67, (0, e), (0, x3)] [(0, x6), (0, x3), rA 67] _
        refine e_go (show am_cd 189 74 = (12, 79, 0, 0, []) by decide +kernel) ?_
        refine e_cV (z := 0) (a := 67) (as := [(0, x3), (0, x6)]) (rest := []) (show am_cd 189 79 = (40, 82, 188, 0, [201]) by decide +kernel) (by decide +kernel) rfl rfl (Nat.le_of_ble_eq_true rfl) rfl ?_
        refine Cl.mono (Cl.up (c_pairsOf (d := d) h.1) (by omega)) ?_
        rintro _ _ ⟨rfl, rfl⟩
        refine ⟨fun _ h9 => (by cases h9), ?_⟩
        replace h := h.2
        show Ev _ 189 _ 82 [rA 67, (0, e), (0, x3)] [(0, ((poB m x3 x6 : Nat) : Int))] _
        exact e_reti (show am_cd 189 82 = (36, 83, 0, 0, []) by decide +kernel) (by decide +kernel) h
    · replace h := h.2 hc
      refine e_lda (v := 67) (show am_cd 189 43 = (2, 44, 0, 2, []) by decide +kernel) rfl ?_
      refine e_ic (show am_cd 189 44 = (0, 46, 3, 268435455, [200]) by decide +kernel) ?_
      refine e_lda (v := 67) (show am_cd 189 46 = (2, 47, 0, 2, []) by decide +kernel) rfl ?_
      refine e_cV (z := 0) (a := 67) (as := []) (rest := [(0, 268435455), rA 67]) (show am_cd 189 47 = (40, 50, 187, 0, [205]) by decide +kernel) (by decide +kernel) rfl rfl (Nat.le_of_ble_eq_true rfl) rfl ?_
      refine Cl.mono (Cl.up (c_readSome (d := d) h.1) (by omega)) ?_
      rintro _ _ ⟨x8, w9, rfl, rfl, hp⟩
      refine ⟨fun _ h9 => (by cases h9), ?_⟩
      replace h := h.2 x8 w9 hp
      show Ev _ 189 _ 50 [rA 67, (0, e), (9, 0)] [(0, x8), (0, 268435455), rA 67] _
      refine e_cV (z := 0) (a := 67) (as := [(0, 268435455), (0, x8)]) (rest := []) (show am_cd 189 50 = (40, 53, 188, 0, [201]) by decide +kernel) (by decide +kernel) rfl rfl (Nat.le_of_ble_eq_true rfl) rfl ?_
      refine Cl.mono (Cl.up (c_pairsOf (d := d) h.1) (by omega)) ?_
      rintro _ _ ⟨rfl, rfl⟩
      refine ⟨fun _ h9 => (by cases h9), ?_⟩
      replace h := h.2
      show Ev _ 189 _ 53 [rA 67, (0, e), (9, 0)] [(0, ((poB m 268435455 x8 : Nat) : Int))] _
      exact e_reti (show am_cd 189 53 = (36, 54, 0, 0, []) by decide +kernel) (by decide +kernel) h
  · replace h := h.2 hc
    refine e_lda (v := 67) (show am_cd 189 25 = (2, 26, 0, 2, []) by decide +kernel) rfl ?_
    refine e_ic (show am_cd 189 26 = (0, 28, 3, 268435455, [200]) by decide +kernel) ?_
    refine e_ic (show am_cd 189 28 = (0, 30, 3, 268435455, [200]) by decide +kernel) ?_
    refine e_cV (z := 0) (a := 67) (as := [(0, 268435455), (0, 268435455)]) (rest := []) (show am_cd 189 30 = (40, 33, 188, 0, [201]) by decide +kernel) (by decide +kernel) rfl rfl (Nat.le_of_ble_eq_true rfl) rfl ?_
    refine Cl.mono (Cl.up (c_pairsOf (d := d) h.1) (by omega)) ?_
    rintro _ _ ⟨rfl, rfl⟩
    refine ⟨fun _ h9 => (by cases h9), ?_⟩
    replace h := h.2
    show Ev _ 189 _ 33 [rA 67, (0, e), (9, 0)] [(0, ((poB m 268435455 268435455 : Nat) : Int))] _
    exact e_reti (show am_cd 189 33 = (36, 34, 0, 0, []) by decide +kernel) (by decide +kernel) h

theorem e_readPartT {d : Nat} {m w : eW} {t : eT} {tx : List Int} {e : Int} {Q : Option aV → aS → Prop} (hP : Px w tx) (hS : WFs m) (hW : MGs w m) (hm : MG w m)
    (hQ : ∀ x w2, Px w2 tx → Fm [] [28, 29] w w2 → stW w2 = stE (bnd (stW w) (rdT0 m tx)) → rvO (bnd (stW w) (rdT0 m tx)) x → 0 ≤ x → x < 65536 → Q (some (0, x)) (enc w2 t)) : Ev (d + 5) 189 Q 16 [rA 67, (0, e), (9, 0)] [] (enc w t) := by
  have hp := hm.1
  refine g_readPartT (tx := tx) (m := m) ⟨⟨hP, by decide, by decide⟩, fun w1 hw1 => ?_⟩
  obtain ⟨a1, a2, a3⟩ := hw1
  refine ⟨fun h1 => ⟨⟨a1, by decide, by decide⟩, fun w2 hw2 => ?_⟩, fun h1 => ⟨⟨hm.m a2 (by decide) (by decide), by decide, by decide⟩, ?_⟩⟩
  · obtain ⟨b1, b2, b3⟩ := hw2
    have fr := a2.tr b2
    rw [psS_f h1] at a3
    refine ⟨fun h2 => ⟨⟨b1, hS, hW.m fr (by decide) (by decide)⟩, fun x3 w4 hw4 => ?_⟩, fun h2 => ⟨⟨b1, hS, hW.m fr (by decide) (by decide)⟩, fun x8 w9 hw9 => ?_⟩⟩
    · obtain ⟨c1, c2, c3, c4, c5⟩ := hw4
      rw [psS_f h2, a3] at b3
      rw [a3] at h2
      rw [b3] at c3 c4
      have fr4 := fr.tr c2
      refine ⟨⟨c1, by decide, by decide⟩, fun w5 hw5 => ?_⟩
      obtain ⟨d1, d2, d3⟩ := hw5
      have fr5 := fr4.tr d2
      refine ⟨fun h3 => ⟨⟨hm.m fr5 (by decide) (by decide), c5, by decide, by decide⟩, ?_⟩, fun h3 => ⟨⟨d1, hS, hW.m fr5 (by decide) (by decide)⟩, fun x6 w7 hw7 => ?_⟩⟩
      · rw [psS_f h3, c3] at d3
        rw [c3] at h3
        refine hQ _ w5 d1 fr5 ?_ ?_ (poB_b hp _ _).1 (poB_b hp _ _).2.2
        · rw [d3]
          cases hs : stW w with
          | error q => rfl
          | ok p =>
            rw [hs] at h1 h2 h3
            show stE (rdM m tx p) = stE (rdT0 m tx p)
            unfold rdT0
            rw [if_neg (of_decide_eq_false h1), if_neg (of_decide_eq_false h2)]
            cases hR : rdM m tx p with
            | error q => rfl
            | ok y =>
              have h3 : psB tx (stE (rdM m tx p)) 58 = false := h3
              rw [hR] at h3
              have h3 := of_decide_eq_false h3
              dsimp only
              rw [if_neg h3]
              rfl
        · cases hs : stW w with
          | error q => trivial
          | ok p =>
            rw [hs] at h1 h2 h3 c4
            show rvO (rdT0 m tx p) _
            have c4 : rvO (rdM m tx p) x3 := c4
            unfold rdT0
            rw [if_neg (of_decide_eq_false h1), if_neg (of_decide_eq_false h2)]
            cases hR : rdM m tx p with
            | error q => trivial
            | ok y =>
              have h3 : psB tx (stE (rdM m tx p)) 58 = false := h3
              rw [hR] at h3 c4
              have h3 := of_decide_eq_false h3
              dsimp only
              rw [if_neg h3]
              have c4 : x3 = y.1 := c4
              rw [c4]
              rfl
      · obtain ⟨e1, e2, e3, e4, e5⟩ := hw7
        have fr7 := fr5.tr e2
        refine ⟨⟨hm.m fr7 (by decide) (by decide), c5, e5⟩, ?_⟩
        obtain ⟨p1, q1, q2, q3⟩ := psS_t h3
        rw [d3, q3] at e3 e4
        rw [c3] at q1
        cases hs : stW w with
        | error q => rw [hs] at q1; cases q1
        | ok p =>
          rw [hs] at h1 h2 q1 c4
          have q1 : stE (rdM m tx p) = .ok p1 := q1
          have c4 : rvO (rdM m tx p) x3 := c4
          cases hR : rdM m tx p with
          | error q => rw [hR] at q1; cases q1
          | ok y =>
            rw [hR] at q1 c4
            have c4 : x3 = y.1 := c4
            have q1 : y.2 = p1 := by cases q1; rfl
            have e3 : stW w7 = stE (rdM m tx (p1 + 1)) := e3
            have e4 : rvO (rdM m tx (p1 + 1)) x6 := e4
            have key : rdT0 m tx p = (match rdM m tx (p1 + 1) with
              | .error q => .error q
              | .ok z => .ok (((poB m y.1 z.1 : Nat) : Int), z.2)) := by
              unfold rdT0
              rw [if_neg (of_decide_eq_false h1), if_neg (of_decide_eq_false h2), hR]
              dsimp only
              rw [q1, if_pos q2]
            refine hQ _ w7 e1 fr7 ?_ ?_ (poB_b hp _ _).1 (poB_b hp _ _).2.2
            · rw [e3, hs]
              show _ = stE (rdT0 m tx p)
              rw [key]
              cases hR2 : rdM m tx (p1 + 1) with
              | error q => rfl
              | ok z => rfl
            · rw [hs]
              show rvO (rdT0 m tx p) _
              rw [key]
              cases hR2 : rdM m tx (p1 + 1) with
              | error q => trivial
              | ok z =>
                rw [hR2] at e4
                have e4 : x6 = z.1 := e4
                rw [e4, c4]
                rfl
    · obtain ⟨e1, e2, e3, e4, e5⟩ := hw9
      have fr9 := fr.tr e2
      refine ⟨⟨hm.m fr9 (by decide) (by decide), ⟨by decide, by decide⟩, e5⟩, ?_⟩
      obtain ⟨p1, q1, q2, q3⟩ := psS_t h2
      rw [b3, q3] at e3 e4
      rw [a3] at q1
      have e3 : stW w9 = stE (rdM m tx (p1 + 1)) := e3
      have e4 : rvO (rdM m tx (p1 + 1)) x8 := e4
      have key : rdT0 m tx p1 = (match rdM m tx (p1 + 1) with
        | .error q => .error q
        | .ok y => .ok (((poB m 268435455 y.1 : Nat) : Int), y.2)) := by
        unfold rdT0
        rw [if_neg (by rw [q2]; decide), if_pos q2]
      refine hQ _ w9 e1 fr9 ?_ ?_ (poB_b hp _ _).1 (poB_b hp _ _).2.2
      · rw [e3, q1]
        show _ = stE (rdT0 m tx p1)
        rw [key]
        cases hR2 : rdM m tx (p1 + 1) with
        | error q => rfl
        | ok z => rfl
      · rw [q1]
        show rvO (rdT0 m tx p1) _
        rw [key]
        cases hR2 : rdM m tx (p1 + 1) with
        | error q => trivial
        | ok z =>
          rw [hR2] at e4
          have e4 : x8 = z.1 := e4
          rw [e4]
          rfl
  · obtain ⟨p1, q1, q2, q3⟩ := psS_t h1
    have key : rdT0 m tx p1 = .ok (((poB m 268435455 268435455 : Nat) : Int), p1 + 1) := by
      unfold rdT0
      rw [if_pos q2]
    refine hQ _ w1 a1 a2 ?_ ?_ (poB_b hp _ _).1 (poB_b hp _ _).2.2
    · rw [a3, q3, q1]
      show _ = stE (rdT0 m tx p1)
      rw [key]
      rfl
    · rw [q1]
      show rvO (rdT0 m tx p1) _
      rw [key]
      rfl
theorem c_readPart {d : Nat} {m w : eW} {t : eT} {tx : List Int} {e : Int} (h : Px w tx ∧ WFs m ∧ MGs w m ∧ MG w m ∧ (e = 0 ∨ e = 1)) : Cl (d + 5) 189 [rA 67, (0, e)] (enc w t) (fun r S2 => ∃ x w2, r = some (0, x) ∧ S2 = enc w2 t ∧ Px w2 tx ∧ Fm [] [28, 29] w w2 ∧ stW w2 = stE (bnd (stW w) (rdT m tx e)) ∧ rvO (bnd (stW w) (rdT m tx e)) x ∧ 0 ≤ x ∧ x ≤ 65536) := by
  obtain ⟨hP, hS, hW, hm, he⟩ := h
  refine g_readPart (tx := tx) (m := m) ?_
  simp (disch := omega) only [w32_id]
  refine ⟨fun h0 => ?_, fun h0 => ⟨⟨hP, by decide, by decide⟩, fun w1 hw1 => ?_⟩⟩
  · have key : rdT m tx e = rdT0 m tx := by
      funext p
      unfold rdT
      exact if_neg (fun h9 => by omega)
    rw [key]
    exact e_readPartT hP hS hW hm (fun x w2 b1 b2 b3 b4 b5 b6 => ⟨x, w2, rfl, rfl, b1, b2, b3, b4, b5, by omega⟩)
  · obtain ⟨a1, a2, a3⟩ := hw1
    refine ⟨fun h1 => ?_, fun h1 => ?_⟩
    · have key : bnd (stW w1) (rdT0 m tx) = bnd (stW w) (rdT m tx e) := by
        rw [a3, psS_f h1]
        cases hs : stW w with
        | error q => rfl
        | ok p =>
          rw [hs] at h1
          show rdT0 m tx p = rdT m tx e p
          unfold rdT
          rw [if_neg (fun h9 => of_decide_eq_false h1 h9.2)]
      rw [← key]
      exact e_readPartT a1 hS (hW.m a2 (by decide) (by decide)) (hm.m a2 (by decide) (by decide)) (fun x w2 b1 b2 b3 b4 b5 b6 => ⟨x, w2, rfl, rfl, b1, a2.tr b2, b3, b4, b5, by omega⟩)
    · obtain ⟨p1, q1, q2, q3⟩ := psS_t h1
      have key : rdT m tx e p1 = .ok (65536, p1 + 1) := by
        unfold rdT
        rw [if_pos ⟨by omega, q2⟩]
      refine ⟨65536, w1, rfl, rfl, a1, a2, ?_, ?_, by decide, by decide⟩
      · rw [a3, q3, q1]
        show _ = stE (rdT m tx e p1)
        rw [key]
        rfl
      · rw [q1]
        show rvO (rdT m tx e p1) _
        rw [key]
        rfl

