/-! The model: pairs of the text. -/
def rdP (tx : List Int) (p : Nat) : Except Nat ((Int × Int) × Nat) := match rdS tx p with
  | .error q => .error q
  | .ok y => if y.1 = 27 then (if hr tx y.2 = 58 then (match rdL tx (y.2 + 1) with
      | .error q => .error q
      | .ok z => .ok ((27, z.1), z.2)) else .error y.2)
    else if hr tx y.2 = 58 then (match rdS tx (y.2 + 1) with
      | .error q => .error q
      | .ok z => .ok ((y.1, z.1), z.2)) else .ok ((y.1, y.1), y.2)
def rdPs (tx : List Int) : Nat → Nat → Except Nat (List (Int × Int) × Nat)
  | 0, p => .ok ([], p)
  | k + 1, p => match rdP tx p with
    | .error q => .error q
    | .ok x => if k ≠ 0 ∧ hr tx x.2 = 32 then (match rdPs tx k (x.2 + 1) with
        | .error q => .error q
        | .ok y => .ok (x.1 :: y.1, y.2)) else .ok ([x.1], x.2)
/-- pairs with blanks between, up to the text's end -/
def prsA (tx : List Int) : Except Nat (List (Int × Int)) := match rdPs tx 16 0 with
  | .error q => .error q
  | .ok y => if y.2 < tx.length then .error y.2 else .ok y.1
theorem ltO_27 {c l : Int} (h : ltO c = some l) : l ≠ 27 := by have := ltO_b h; omega
theorem rdL_b {tx : List Int} {p : Nat} {y : Int × Nat} (h : rdL tx p = .ok y) : 0 ≤ y.1 ∧ y.1 ≤ 26 := by
  unfold rdL at h
  split at h
  · next l hl => cases h; have := ltO_b hl; exact ⟨this.1, this.2.1⟩
  · cases h
theorem rdS_b {tx : List Int} {p : Nat} {y : Int × Nat} (h : rdS tx p = .ok y) : 0 ≤ y.1 ∧ y.1 ≤ 27 := by
  unfold rdS at h
  split at h
  · next l hl =>
    cases h
    unfold sgO at hl
    split at hl
    · cases hl; exact ⟨(by show (0 : Int) ≤ 27; decide), (by show (27 : Int) ≤ 27; decide)⟩
    · have := ltO_b hl; exact ⟨this.1, by show l ≤ 27; omega⟩
  · cases h
/-- letters of a pair: not both nothing -/
def okPr (x : Int × Int) : Prop := (0 ≤ x.1 ∧ x.1 ≤ 27) ∧ (0 ≤ x.2 ∧ x.2 ≤ 27) ∧ ¬ (x.1 = 27 ∧ x.2 = 27)
theorem rdP_b {tx : List Int} {p : Nat} {y : (Int × Int) × Nat} (h : rdP tx p = .ok y) : okPr y.1 := by
  unfold rdP at h
  cases hS : rdS tx p with
  | error q => rw [hS] at h; cases h
  | ok u =>
    rw [hS] at h
    have hu := rdS_b hS
    dsimp only at h
    by_cases h27 : u.1 = 27
    · rw [if_pos h27] at h
      by_cases h58 : hr tx u.2 = 58
      · rw [if_pos h58] at h
        cases hL : rdL tx (u.2 + 1) with
        | error q => rw [hL] at h; cases h
        | ok z =>
          rw [hL] at h
          have hz := rdL_b hL
          cases h
          exact ⟨⟨(by show (0 : Int) ≤ 27; decide), (by show (27 : Int) ≤ 27; decide)⟩, ⟨hz.1, by show z.1 ≤ 27; omega⟩, fun h9 => by have : z.1 = 27 := h9.2; omega⟩
      · rw [if_neg h58] at h; cases h
    · rw [if_neg h27] at h
      by_cases h58 : hr tx u.2 = 58
      · rw [if_pos h58] at h
        cases hL : rdS tx (u.2 + 1) with
        | error q => rw [hL] at h; cases h
        | ok z =>
          rw [hL] at h
          have hz := rdS_b hL
          cases h
          exact ⟨hu, hz, fun h9 => h27 h9.1⟩
      · rw [if_neg h58] at h
        cases h
        exact ⟨hu, hu, fun h9 => h27 h9.1⟩
theorem rdPs_b {tx : List Int} : ∀ {k p : Nat} {y : List (Int × Int) × Nat}, rdPs tx k p = .ok y → (∀ x ∈ y.1, okPr x) ∧ y.1.length ≤ k ∧ (k ≠ 0 → y.1 ≠ []) := by
  intro k
  induction k with
  | zero => intro p y h; cases h; exact ⟨fun x hx => (by cases hx), Nat.le_refl _, fun h9 => absurd rfl h9⟩
  | succ k ih =>
    intro p y h
    unfold rdPs at h
    cases hP : rdP tx p with
    | error q => rw [hP] at h; cases h
    | ok x =>
      rw [hP] at h
      have hx := rdP_b hP
      dsimp only at h
      by_cases hc : k ≠ 0 ∧ hr tx x.2 = 32
      · rw [if_pos hc] at h
        cases hR : rdPs tx k (x.2 + 1) with
        | error q => rw [hR] at h; cases h
        | ok z =>
          rw [hR] at h
          have hz := ih hR
          cases h
          refine ⟨fun v hv => ?_, by show (x.1 :: z.1).length ≤ k + 1; rw [List.length_cons]; omega, fun _ h9 => by cases h9⟩
          rw [List.mem_cons] at hv
          rcases hv with hv | hv
          · rw [hv]; exact hx
          · exact hz.1 v hv
      · rw [if_neg hc] at h
        cases h
        exact ⟨fun v hv => by rw [List.mem_singleton] at hv; rw [hv]; exact hx, by show 1 ≤ k + 1; omega, fun _ h9 => by cases h9⟩
def PrM (w : eW) (l : List (Int × Int)) : Prop := ∀ i, i < l.length → w 87 i = (l.getD i (0, 0)).1 ∧ w 88 i = (l.getD i (0, 0)).2
theorem PrM.app {w : eW} {l : List (Int × Int)} {u v : Int} (h : PrM w l) : PrM (wu (wu w 87 l.length u) 88 l.length v) (l ++ [(u, v)]) := by
  intro i hi
  rw [List.length_append, List.length_singleton] at hi
  rw [wu_na _ _ (show (87 : Nat) ≠ 88 by decide)]
  by_cases h9 : i = l.length
  · subst h9
    rw [wu_eq, wu_eq]
    simp [List.getD_eq_getElem?_getD]
  · rw [wu_nk _ _ h9, wu_nk _ _ h9, wu_na _ _ (by decide)]
    have := h i (by omega)
    simp only [List.getD_eq_getElem?_getD, List.getElem?_append_left (show i < l.length by omega)]
    simp only [List.getD_eq_getElem?_getD] at this
    exact this
theorem PrM.m {w w2 : eW} {l : List (Int × Int)} (h : PrM w l) {R F : List Nat} (hf : Fm R F w w2) (hR : 87 ∉ R ∧ 88 ∉ R) : PrM w2 l := by
  unfold PrM at *
  rw [hf.1 87 (by decide) hR.1, hf.1 88 (by decide) hR.2]
  exact h

theorem g_rdPs0 {d : Nat} {Q : Option aV → aS → Prop} {w : eW} {t : eT} (h : Ev (d + 4) 182 Q 4 [rA 67, (0, 0), (0, 1), (9, 0), (9, 0)] [] (enc w t)) : Cl (d + 4) 182 [rA 67] (enc w t) Q := by
  show Ev (d + 4) 182 Q 0 [rA 67, (9, 0), (9, 0), (9, 0), (9, 0)] [] (enc w t)
  refine e_ic (show am_cd 182 0 = (0, 1, 0, 0, []) by decide +kernel) ?_
  refine e_sti (la2 := [rA 67, (0, 0), (9, 0), (9, 0), (9, 0)]) (show am_cd 182 1 = (3, 2, 1, 0, []) by decide +kernel) rfl ?_
  refine e_ic (show am_cd 182 2 = (0, 3, 0, 1, []) by decide +kernel) ?_
  refine e_sti (la2 := [rA 67, (0, 0), (0, 1), (9, 0), (9, 0)]) (show am_cd 182 3 = (3, 4, 2, 0, []) by decide +kernel) rfl ?_
  exact h

theorem g_rdPs1 {d : Nat} {Q : Option aV → aS → Prop} {w : eW} {t : eT} {n : Int} {tx : List Int} {J3 J4 : aV} {y : Bool} (h : ((¬ w32 (w 67 29) = w32 (-1) → Ev (d + 4) 182 Q 102 [rA 67, (0, n), (0, bI y), J3, J4] [] (enc w t)) ∧ (¬ (¬ w32 (w 67 29) = w32 (-1)) → ((y = false → Ev (d + 4) 182 Q 102 [rA 67, (0, n), (0, bI y), J3, J4] [] (enc w t)) ∧ (y = true → (Px w tx) ∧ (∀ x1 w2, (Px w2 tx ∧ Fm [] [28, 29] w w2 ∧ stW w2 = stE (bnd (stW w) (rdS tx)) ∧ rvO (bnd (stW w) (rdS tx)) x1 ∧ -1 ≤ x1 ∧ x1 ≤ 27) → ((¬ w32 x1 = w32 27 → (Px w2 tx ∧ (0 : Int) ≤ 58 ∧ (58 : Int) ≤ 255) ∧ (∀ w3, (Px w3 tx ∧ Fm [] [28, 29] w2 w3 ∧ stW w3 = psS tx (stW w2) 58) → (((psB tx (stW w2) 58) = false → Ev (d + 4) 182 Q 60 [rA 67, (0, n), (0, bI y), (0, x1), (0, x1)] [] (enc w3 t)) ∧ ((psB tx (stW w2) 58) = true → (Px w3 tx) ∧ (∀ x4 w5, (Px w5 tx ∧ Fm [] [28, 29] w3 w5 ∧ stW w5 = stE (bnd (stW w3) (rdS tx)) ∧ rvO (bnd (stW w3) (rdS tx)) x4 ∧ -1 ≤ x4 ∧ x4 ≤ 27) → Ev (d + 4) 182 Q 60 [rA 67, (0, n), (0, bI y), (0, x1), (0, x4)] [] (enc w5 t)))))) ∧ (¬ (¬ w32 x1 = w32 27) → (Px w2 tx ∧ (0 : Int) ≤ 58 ∧ (58 : Int) ≤ 255) ∧ (∀ w6, (Px w6 tx ∧ Fm [] [28, 29] w2 w6 ∧ stW w6 = exS tx (stW w2) 58) → (Px w6 tx) ∧ (∀ x7 w8, (Px w8 tx ∧ Fm [] [28, 29] w6 w8 ∧ stW w8 = stE (bnd (stW w6) (rdL tx)) ∧ rvO (bnd (stW w6) (rdL tx)) x7 ∧ -1 ≤ x7 ∧ x7 ≤ 26) → Ev (d + 4) 182 Q 60 [rA 67, (0, n), (0, bI y), (0, x1), (0, x7)] [] (enc w8 t))))))))))) : Ev (d + 4) 182 Q 4 [rA 67, (0, n), (0, bI y), J3, J4] [] (enc w t) := by
  refine e_lda (v := 67) (show am_cd 182 4 = (2, 5, 0, 2, []) by decide +kernel) rfl ?_
  refine e_getf (a := 67) (tg := 0) (show am_cd 182 5 = (18, 8, 1229, 0, [132]) by decide +kernel) (by decide +kernel) (by decide +kernel) rfl ?_
  refine e_ic (show am_cd 182 8 = (0, 9, 0, -1, []) by decide +kernel) ?_
  refine e_cmp1 (show am_cd 182 9 = (11, 12, 102, 1, []) by decide +kernel) (fun hc => ?_) (fun hc => ?_)
  · replace h := h.1 hc
    exact h
  · replace h := h.2 hc
    refine e_ldi (show am_cd 182 12 = (2, 13, 2, 0, []) by decide +kernel) rfl ?_
    refine e_ifb0 (show am_cd 182 13 = (10, 16, 102, 0, []) by decide +kernel) (fun hc => ?_) (fun hc => ?_)
    · replace h := h.1 hc
      exact h
    · replace h := h.2 hc
      refine e_lda (v := 67) (show am_cd 182 16 = (2, 17, 0, 2, []) by decide +kernel) rfl ?_
      refine e_cV (z := 0) (a := 67) (as := []) (rest := []) (show am_cd 182 17 = (40, 20, 181, 0, [158]) by decide +kernel) (by decide +kernel) rfl rfl (Nat.le_of_ble_eq_true rfl) rfl ?_
      refine Cl.mono (Cl.up (c_readSign (d := d) h.1) (by omega)) ?_
      rintro _ _ ⟨x1, w2, rfl, rfl, hp⟩
      refine ⟨fun _ h9 => (by cases h9), ?_⟩
      replace h := h.2 x1 w2 hp
      show Ev _ 182 _ 20 [rA 67, (0, n), (0, bI y), J3, J4] [(0, x1)] _
      refine e_sti (la2 := [rA 67, (0, n), (0, bI y), (0, x1), J4]) (show am_cd 182 20 = (3, 21, 3, 0, []) by decide +kernel) rfl ?_
      refine e_ldi (show am_cd 182 21 = (2, 22, 3, 0, []) by decide +kernel) rfl ?_
      refine e_sti (la2 := [rA 67, (0, n), (0, bI y), (0, x1), (0, x1)]) (show am_cd 182 22 = (3, 24, 4, 0, []) by decide +kernel) rfl ?_
      refine e_ldi (show am_cd 182 24 = (2, 25, 3, 0, []) by decide +kernel) rfl ?_
      refine e_ic (show am_cd 182 25 = (0, 27, 1, 27, []) by decide +kernel) ?_
      refine e_cmp1 (show am_cd 182 27 = (11, 30, 45, 1, []) by decide +kernel) (fun hc => ?_) (fun hc => ?_)
      · replace h := h.1 hc
        refine e_lda (v := 67) (show am_cd 182 45 = (2, 46, 0, 2, []) by decide +kernel) rfl ?_
        refine e_ic (show am_cd 182 46 = (0, 48, 1, 58, []) by decide +kernel) ?_
        refine e_cV (z := 0) (a := 67) (as := [(0, 58)]) (rest := []) (show am_cd 182 48 = (40, 51, 174, 0, [139]) by decide +kernel) (by decide +kernel) rfl rfl (Nat.le_of_ble_eq_true rfl) rfl ?_
        refine Cl.mono (Cl.up (c_passes (d := d) h.1) (by omega)) ?_
        rintro _ _ ⟨w3, rfl, rfl, hp⟩
        refine ⟨fun _ h9 => (by cases h9), ?_⟩
        replace h := h.2 w3 hp
        show Ev _ 182 _ 51 [rA 67, (0, n), (0, bI y), (0, x1), (0, x1)] [(0, bI (psB tx (stW w2) 58))] _
        refine e_ifb0 (show am_cd 182 51 = (10, 54, 60, 0, []) by decide +kernel) (fun hc => ?_) (fun hc => ?_)
        · replace h := h.1 hc
          exact h
        · replace h := h.2 hc
          refine e_lda (v := 67) (show am_cd 182 54 = (2, 55, 0, 2, []) by decide +kernel) rfl ?_
          refine e_cV (z := 0) (a := 67) (as := []) (rest := []) (show am_cd 182 55 = (40, 58, 181, 0, [158]) by decide +kernel) (by decide +kernel) rfl rfl (Nat.le_of_ble_eq_true rfl) rfl ?_
          refine Cl.mono (Cl.up (c_readSign (d := d) h.1) (by omega)) ?_
          rintro _ _ ⟨x4, w5, rfl, rfl, hp⟩
          refine ⟨fun _ h9 => (by cases h9), ?_⟩
          replace h := h.2 x4 w5 hp
          show Ev _ 182 _ 58 [rA 67, (0, n), (0, bI y), (0, x1), (0, x1)] [(0, x4)] _
          refine e_sti (la2 := [rA 67, (0, n), (0, bI y), (0, x1), (0, x4)]) (show am_cd 182 58 = (3, 60, 4, 0, []) by decide +kernel) rfl ?_
          exact h
      · replace h := h.2 hc
        refine e_lda (v := 67) (show am_cd 182 30 = (2, 31, 0, 2, []) by decide +kernel) rfl ?_
        refine e_ic (show am_cd 182 31 = (0, 33, 1, 58, []) by decide +kernel) ?_
        refine e_cV (z := 0) (a := 67) (as := [(0, 58)]) (rest := []) (show am_cd 182 33 = (40, 36, 175, 0, [161]) by decide +kernel) (by decide +kernel) rfl rfl (Nat.le_of_ble_eq_true rfl) rfl ?_
        refine Cl.mono (Cl.up (c_expect (d := d) h.1) (by omega)) ?_
        rintro _ _ ⟨w6, rfl, rfl, hp⟩
        refine ⟨fun _ h9 => (by cases h9), ?_⟩
        replace h := h.2 w6 hp
        show Ev _ 182 _ 36 [rA 67, (0, n), (0, bI y), (0, x1), (0, x1)] [] _
        refine e_lda (v := 67) (show am_cd 182 36 = (2, 37, 0, 2, []) by decide +kernel) rfl ?_
        refine e_cV (z := 0) (a := 67) (as := []) (rest := []) (show am_cd 182 37 = (40, 40, 180, 0, [155]) by decide +kernel) (by decide +kernel) rfl rfl (Nat.le_of_ble_eq_true rfl) rfl ?_
        refine Cl.mono (Cl.up (c_readLetter (d := d) h.1) (by omega)) ?_
        rintro _ _ ⟨x7, w8, rfl, rfl, hp⟩
        refine ⟨fun _ h9 => (by cases h9), ?_⟩
        replace h := h.2 x7 w8 hp
        show Ev _ 182 _ 40 [rA 67, (0, n), (0, bI y), (0, x1), (0, x1)] [(0, x7)] _
        refine e_sti (la2 := [rA 67, (0, n), (0, bI y), (0, x1), (0, x7)]) (show am_cd 182 40 = (3, 42, 4, 0, []) by decide +kernel) rfl ?_
        refine e_go (show am_cd 182 42 = (12, 60, 0, 0, []) by decide +kernel) ?_
        exact h

theorem g_rdPs2 {d : Nat} {Q : Option aV → aS → Prop} {w : eW} {t : eT} {n u v : Int} {tx : List Int} {J3 J4 : aV} {y : Bool} (h : (0 ≤ w32 n ∧ w32 n < 16) ∧ (0 ≤ w32 n ∧ w32 n < 16) ∧ ((w32 16 ≤ w32 (n + 1) → Ev (d + 4) 182 Q 4 [rA 67, (0, n + 1), (0, 0), (0, u), (0, v)] [] (enc (wu (wu w 87 (w32 n).toNat u) 88 (w32 n).toNat v) t)) ∧ (¬ (w32 16 ≤ w32 (n + 1)) → (Px (wu (wu w 87 (w32 n).toNat u) 88 (w32 n).toNat v) tx ∧ (0 : Int) ≤ 32 ∧ (32 : Int) ≤ 255) ∧ (∀ w1, (Px w1 tx ∧ Fm [] [28, 29] (wu (wu w 87 (w32 n).toNat u) 88 (w32 n).toNat v) w1 ∧ stW w1 = psS tx (stW (wu (wu w 87 (w32 n).toNat u) 88 (w32 n).toNat v)) 32) → (((psB tx (stW (wu (wu w 87 (w32 n).toNat u) 88 (w32 n).toNat v)) 32) = false → Ev (d + 4) 182 Q 4 [rA 67, (0, n + 1), (0, 0), (0, u), (0, v)] [] (enc w1 t)) ∧ ((psB tx (stW (wu (wu w 87 (w32 n).toNat u) 88 (w32 n).toNat v)) 32) = true → Ev (d + 4) 182 Q 4 [rA 67, (0, n + 1), (0, 1), (0, u), (0, v)] [] (enc w1 t))))))) : Ev (d + 4) 182 Q 60 [rA 67, (0, n), (0, bI y), (0, u), (0, v)] [] (enc w t) := by
  refine e_lda (v := 67) (show am_cd 182 60 = (2, 61, 0, 2, []) by decide +kernel) rfl ?_
  refine e_getr (a := 67) (r := 87) (show am_cd 182 61 = (18, 64, 1230, 2, [69]) by decide +kernel) (by decide +kernel) (by decide +kernel) rfl ?_
  refine e_ldi (show am_cd 182 64 = (2, 65, 1, 0, []) by decide +kernel) rfl ?_
  refine e_ldi (show am_cd 182 65 = (2, 66, 3, 0, []) by decide +kernel) rfl ?_
  refine e_iast (a := 87) (n := 16) (show am_cd 182 66 = (24, 67, 0, 0, []) by decide +kernel) (by decide +kernel) (by decide +kernel) (by decide +kernel) h.1 ?_
  replace h := h.2
  refine e_lda (v := 67) (show am_cd 182 67 = (2, 68, 0, 2, []) by decide +kernel) rfl ?_
  refine e_getr (a := 67) (r := 88) (show am_cd 182 68 = (18, 71, 1231, 2, [72]) by decide +kernel) (by decide +kernel) (by decide +kernel) rfl ?_
  refine e_ldi (show am_cd 182 71 = (2, 72, 1, 0, []) by decide +kernel) rfl ?_
  refine e_ldi (show am_cd 182 72 = (2, 74, 4, 0, []) by decide +kernel) rfl ?_
  refine e_iast (a := 88) (n := 16) (show am_cd 182 74 = (24, 75, 0, 0, []) by decide +kernel) (by decide +kernel) (by decide +kernel) (by decide +kernel) h.1 ?_
  replace h := h.2
  refine e_inc (la2 := [rA 67, (0, n + 1), (0, bI y), (0, u), (0, v)]) (show am_cd 182 75 = (4, 78, 1, 1, []) by decide +kernel) rfl rfl ?_
  refine e_ldi (show am_cd 182 78 = (2, 79, 1, 0, []) by decide +kernel) rfl ?_
  refine e_ic (show am_cd 182 79 = (0, 81, 1, 16, []) by decide +kernel) ?_
  refine e_cmp3 (show am_cd 182 81 = (11, 84, 97, 3, []) by decide +kernel) (fun hc => ?_) (fun hc => ?_)
  · replace h := h.1 hc
    refine e_ic (show am_cd 182 97 = (0, 98, 0, 0, []) by decide +kernel) ?_
    refine e_sti (la2 := [rA 67, (0, n + 1), (0, 0), (0, u), (0, v)]) (show am_cd 182 98 = (3, 99, 2, 0, []) by decide +kernel) rfl ?_
    refine e_go (show am_cd 182 99 = (12, 4, 0, 0, []) by decide +kernel) ?_
    exact h
  · replace h := h.2 hc
    refine e_lda (v := 67) (show am_cd 182 84 = (2, 85, 0, 2, []) by decide +kernel) rfl ?_
    refine e_ic (show am_cd 182 85 = (0, 87, 1, 32, []) by decide +kernel) ?_
    refine e_cV (z := 0) (a := 67) (as := [(0, 32)]) (rest := []) (show am_cd 182 87 = (40, 90, 174, 0, [139]) by decide +kernel) (by decide +kernel) rfl rfl (Nat.le_of_ble_eq_true rfl) rfl ?_
    refine Cl.mono (Cl.up (c_passes (d := d) h.1) (by omega)) ?_
    rintro _ _ ⟨w1, rfl, rfl, hp⟩
    refine ⟨fun _ h9 => (by cases h9), ?_⟩
    replace h := h.2 w1 hp
    show Ev _ 182 _ 90 [rA 67, (0, n + 1), (0, bI y), (0, u), (0, v)] [(0, bI (psB tx (stW (wu (wu w 87 (w32 n).toNat u) 88 (w32 n).toNat v)) 32))] _
    refine e_ifb0 (show am_cd 182 90 = (10, 93, 97, 0, []) by decide +kernel) (fun hc => ?_) (fun hc => ?_)
    · replace h := h.1 hc
      refine e_ic (show am_cd 182 97 = (0, 98, 0, 0, []) by decide +kernel) ?_
      refine e_sti (la2 := [rA 67, (0, n + 1), (0, 0), (0, u), (0, v)]) (show am_cd 182 98 = (3, 99, 2, 0, []) by decide +kernel) rfl ?_
      refine e_go (show am_cd 182 99 = (12, 4, 0, 0, []) by decide +kernel) ?_
      exact h
    · replace h := h.2 hc
      refine e_ic (show am_cd 182 93 = (0, 94, 0, 1, []) by decide +kernel) ?_
      refine e_go (show am_cd 182 94 = (12, 98, 0, 0, []) by decide +kernel) ?_
      refine e_sti (la2 := [rA 67, (0, n + 1), (0, 1), (0, u), (0, v)]) (show am_cd 182 98 = (3, 99, 2, 0, []) by decide +kernel) rfl ?_
      refine e_go (show am_cd 182 99 = (12, 4, 0, 0, []) by decide +kernel) ?_
      exact h

theorem g_rdPs3 {d : Nat} {Q : Option aV → aS → Prop} {w : eW} {t : eT} {n : Int} {tx : List Int} {J3 J4 : aV} {y : Bool} (h : ((¬ w32 (w 67 29) = w32 (-1) → Q (some (0, n)) (enc w t)) ∧ (¬ (¬ w32 (w 67 29) = w32 (-1)) → (Px w tx) ∧ (∀ w1, (Px w1 tx ∧ Fm [] [28, 29] w w1 ∧ stW w1 = enS tx (stW w)) → Q (some (0, n)) (enc w1 t))))) : Ev (d + 4) 182 Q 102 [rA 67, (0, n), (0, bI y), J3, J4] [] (enc w t) := by
  refine e_lda (v := 67) (show am_cd 182 102 = (2, 103, 0, 2, []) by decide +kernel) rfl ?_
  refine e_getf (a := 67) (tg := 0) (show am_cd 182 103 = (18, 106, 1229, 0, [132]) by decide +kernel) (by decide +kernel) (by decide +kernel) rfl ?_
  refine e_ic (show am_cd 182 106 = (0, 107, 0, -1, []) by decide +kernel) ?_
  refine e_cmp1 (show am_cd 182 107 = (11, 110, 114, 1, []) by decide +kernel) (fun hc => ?_) (fun hc => ?_)
  · replace h := h.1 hc
    refine e_ldi (show am_cd 182 114 = (2, 115, 1, 0, []) by decide +kernel) rfl ?_
    exact e_reti (show am_cd 182 115 = (36, 116, 0, 0, []) by decide +kernel) (by decide +kernel) h
  · replace h := h.2 hc
    refine e_lda (v := 67) (show am_cd 182 110 = (2, 111, 0, 2, []) by decide +kernel) rfl ?_
    refine e_cV (z := 0) (a := 67) (as := []) (rest := []) (show am_cd 182 111 = (40, 114, 176, 0, [165]) by decide +kernel) (by decide +kernel) rfl rfl (Nat.le_of_ble_eq_true rfl) rfl ?_
    refine Cl.mono (Cl.up (c_ends (d := d) h.1) (by omega)) ?_
    rintro _ _ ⟨w1, rfl, rfl, hp⟩
    refine ⟨fun _ h9 => (by cases h9), ?_⟩
    replace h := h.2 w1 hp
    show Ev _ 182 _ 114 [rA 67, (0, n), (0, bI y), J3, J4] [] _
    refine e_ldi (show am_cd 182 114 = (2, 115, 1, 0, []) by decide +kernel) rfl ?_
    exact e_reti (show am_cd 182 115 = (36, 116, 0, 0, []) by decide +kernel) (by decide +kernel) h

/-- what reading pairs has come to -/
def RdQ (tx : List Int) (w : eW) (R : Except Nat (List (Int × Int))) (x : Int) (w2 : eW) : Prop := Px w2 tx ∧ Fm [87, 88] [28, 29] w w2 ∧ (0 ≤ x ∧ x ≤ 16) ∧ match R with
  | .error q => stW w2 = .error q
  | .ok l => (∃ p, stW w2 = .ok p) ∧ x = (l.length : Int) ∧ PrM w2 l
def fiP (tx : List Int) (acc : List (Int × Int)) (r : Except Nat (List (Int × Int) × Nat)) : Except Nat (List (Int × Int)) := match r with
  | .error q => .error q
  | .ok y => if y.2 < tx.length then .error y.2 else .ok (acc ++ y.1)
theorem c_readPairs {d : Nat} {w : eW} {t : eT} {tx : List Int} (h : Px w tx ∧ stW w = .ok 0) : Cl (d + 4) 182 [rA 67] (enc w t) (fun r S2 => ∃ x w2, r = some (0, x) ∧ S2 = enc w2 t ∧ RdQ tx w (prsA tx) x w2) := by
  obtain ⟨hP, hs0⟩ := h
  refine g_rdPs0 ?_
  -- the end of the loop
  have fin : ∀ (w1 : eW) (acc : List (Int × Int)) (y : Bool) (J3 J4 : aV) (R : Except Nat (List (Int × Int))), Px w1 tx → Fm [87, 88] [28, 29] w w1 → acc.length ≤ 16 → (match stW w1 with
      | .error q => R = .error q
      | .ok p => R = (if p < tx.length then .error p else .ok acc) ∧ PrM w1 acc) → Ev (d + 4) 182 (fun r S2 => ∃ x w2, r = some (0, x) ∧ S2 = enc w2 t ∧ RdQ tx w R x w2) 102 [rA 67, (0, (acc.length : Int)), (0, bI y), J3, J4] [] (enc w1 t) := by
    intro w1 acc y J3 J4 R q1 q2 q3 q4
    have hb := q1.b
    refine g_rdPs3 (tx := tx) ?_
    simp (disch := omega) only [w32_id]
    refine ⟨fun h1 => ⟨_, w1, rfl, rfl, q1, q2, ⟨by omega, by omega⟩, ?_⟩, fun h1 => ⟨q1, fun w2 hw => ⟨_, w2, rfl, rfl, hw.1, q2.tr (hw.2.1.mo (by decide) (by decide)), ⟨by omega, by omega⟩, ?_⟩⟩⟩
    · have hs : stW w1 = .error (w1 67 29).toNat := if_neg h1
      rw [hs] at q4
      dsimp only at q4
      rw [q4]
      exact hs
    · have hs : stW w1 = .ok (w1 67 28).toNat := if_pos (by omega)
      rw [hs] at q4
      dsimp only at q4
      have h3 := hw.2.2
      rw [hs] at h3
      unfold enS at h3
      dsimp only at h3
      by_cases h9 : (w1 67 28).toNat < tx.length
      · rw [if_pos h9] at h3
        rw [q4.1, if_pos h9]
        exact h3
      · rw [if_neg h9] at h3
        rw [q4.1, if_neg h9]
        exact ⟨⟨_, h3⟩, rfl, q4.2.m hw.2.1 (by decide)⟩
  have main : ∀ (k : Nat) (acc : List (Int × Int)) (p : Nat) (w1 : eW) (J3 J4 : aV), acc.length + k = 16 → k ≠ 0 → Px w1 tx → Fm [87, 88] [28, 29] w w1 → stW w1 = .ok p → PrM w1 acc → Ev (d + 4) 182 (fun r S2 => ∃ x w2, r = some (0, x) ∧ S2 = enc w2 t ∧ RdQ tx w (fiP tx acc (rdPs tx k p)) x w2) 4 [rA 67, (0, (acc.length : Int)), (0, 1), J3, J4] [] (enc w1 t) := by
    intro k
    induction k with
    | zero => intro acc p w1 J3 J4 _ h9; exact absurd rfl h9
    | succ k ih =>
      intro acc p w1 J3 J4 hk _ q1 q2 q3 q4
      have hb := q1.b
      have hat := stW_at q1 q3
      -- from a pair that has been read on
      have join : ∀ (w2 : eW) (u v : Int), Px w2 tx → Fm [] [28, 29] w1 w2 → stW w2 = stE (rdP tx p) → (∀ x, rdP tx p = .ok x → x.1 = (u, v)) → Ev (d + 4) 182 (fun r S2 => ∃ x w2, r = some (0, x) ∧ S2 = enc w2 t ∧ RdQ tx w (fiP tx acc (rdPs tx (k + 1) p)) x w2) 60 [rA 67, (0, (acc.length : Int)), (0, bI true), (0, u), (0, v)] [] (enc w2 t) := by
        intro w2 u v z1 z2 z3 z4
        have q2b : Fm [87, 88] [28, 29] w w2 := q2.tr (z2.mo (by decide) (by decide))
        have hW : Fm [87, 88] [28, 29] w2 (wu (wu w2 87 acc.length u) 88 acc.length v) := (Fm.pr (by decide) (by decide)).tr (Fm.pr (by decide) (by decide))
        have hWs : stW (wu (wu w2 87 acc.length u) 88 acc.length v) = stW w2 := by
          unfold stW
          rw [wu_na _ _ (by decide), wu_na _ _ (by decide), wu_na _ _ (by decide), wu_na _ _ (by decide)]
        have hWP : Px (wu (wu w2 87 acc.length u) 88 acc.length v) tx := z1.fr hW (by decide) (by decide) (by rw [wu_na _ _ (by decide), wu_na _ _ (by decide)]; exact z1.2.2.2.2.1) (by rw [wu_na _ _ (by decide), wu_na _ _ (by decide), wu_na _ _ (by decide), wu_na _ _ (by decide)]; exact z1.2.2.2.2.2)
        have q4b : PrM w2 acc := q4.m z2 (by decide)
        have hl1 : ((acc.length : Int) + 1) = ((acc ++ [(u, v)]).length : Int) := by rw [List.length_append, List.length_singleton]; rfl
        refine g_rdPs2 (tx := tx) (J3 := (9, 0)) (J4 := (9, 0)) ?_
        simp (disch := omega) only [w32_id, Int.toNat_natCast]
        -- no more pairs
        have stop : ∀ (w5 : eW), Px w5 tx → Fm [87, 88] [28, 29] w w5 → PrM w5 (acc ++ [(u, v)]) → stW w5 = stW w2 → (∀ x, rdP tx p = .ok x → ¬ (k ≠ 0 ∧ hr tx x.2 = 32)) → Ev (d + 4) 182 (fun r S2 => ∃ x w2, r = some (0, x) ∧ S2 = enc w2 t ∧ RdQ tx w (fiP tx acc (rdPs tx (k + 1) p)) x w2) 4 [rA 67, (0, (acc.length : Int) + 1), (0, 0), (0, u), (0, v)] [] (enc w5 t) := by
          intro w5 y1 y2 y3 y4 y5
          have hb5 := y1.b
          have hfin := fin w5 (acc ++ [(u, v)]) false (0, u) (0, v) (fiP tx acc (rdPs tx (k + 1) p)) y1 y2 (by rw [List.length_append, List.length_singleton]; omega) (by
            rw [y4, z3]
            unfold rdPs
            cases hR : rdP tx p with
            | error q => rfl
            | ok x =>
              dsimp only
              rw [if_neg (y5 x hR)]
              unfold stE fiP
              dsimp only
              rw [z4 x hR]
              exact ⟨rfl, y3⟩)
          rw [hl1]
          refine g_rdPs1 (y := false) (tx := tx) ?_
          exact ⟨fun _ => hfin, fun _ => ⟨fun _ => hfin, fun h9 => (by cases h9)⟩⟩
        refine ⟨by omega, by omega, fun h1 => stop _ hWP (q2b.tr hW) q4b.app hWs (fun x _ h9 => h9.1 (by omega)), fun h1 => ⟨⟨hWP, by decide, by decide⟩, fun w3 hw3 => ?_⟩⟩
        obtain ⟨y1, y2, y3⟩ := hw3
        have q2c : Fm [87, 88] [28, 29] w w3 := (q2b.tr hW).tr (y2.mo (by decide) (by decide))
        have q4c : PrM w3 (acc ++ [(u, v)]) := q4b.app.m y2 (by decide)
        rw [hWs] at y3 ⊢
        refine ⟨fun h2 => stop w3 y1 q2c q4c ?_ ?_, fun h2 => ?_⟩
        · rw [y3]
          cases hs : stW w2 with
          | error q => rfl
          | ok p2 =>
            rw [hs] at h2
            have h2 := of_decide_eq_false h2
            show (if _ then _ else _) = _
            rw [if_neg h2]
        · intro x hx h9
          rw [z3, hx] at h2
          exact absurd h9.2 (of_decide_eq_false h2)
        · cases hR : rdP tx p with
          | error q => rw [z3, hR] at h2; cases h2
          | ok x =>
            rw [z3, hR] at h2 y3
            have h2 := of_decide_eq_true h2
            have y3 : stW w3 = .ok (x.2 + 1) := by rw [y3]; show (if _ then _ else _) = _; rw [if_pos h2]
            have hE := ih (acc ++ [(u, v)]) (x.2 + 1) w3 (0, u) (0, v) (by rw [List.length_append, List.length_singleton]; omega) (by omega) y1 q2c y3 q4c
            have e : fiP tx acc (rdPs tx (k + 1) p) = fiP tx (acc ++ [(u, v)]) (rdPs tx k (x.2 + 1)) := by
              rw [rdPs, hR]
              dsimp only
              rw [if_pos ⟨by omega, h2⟩]
              cases hT : rdPs tx k (x.2 + 1) with
              | error q => rfl
              | ok z =>
                unfold fiP
                dsimp only
                rw [z4 x hR]
                simp
            rw [hl1, e]
            exact hE
      have hrS : bnd (stW w1) (rdS tx) = rdS tx p := by rw [q3]; rfl
      refine g_rdPs1 (y := true) (tx := tx) ?_
      simp (disch := omega) only [w32_id]
      refine ⟨fun h1 => absurd hat.1 h1, fun _ => ⟨fun h9 => (by cases h9), fun _ => ⟨q1, fun x1 w2 hw2 => ?_⟩⟩⟩
      obtain ⟨a1, a2, a3, a4, a5⟩ := hw2
      rw [hrS] at a3 a4
      simp (disch := omega) only [w32_id]
      refine ⟨fun h1 => ⟨⟨a1, by decide, by decide⟩, fun w3 hw3 => ?_⟩, fun h1 => ⟨⟨a1, by decide, by decide⟩, fun w6 hw6 => ⟨hw6.1, fun x7 w8 hw8 => ?_⟩⟩⟩
      · obtain ⟨b1, b2, b3⟩ := hw3
        refine ⟨fun h2 => join w3 x1 x1 b1 (a2.tr b2) ?_ ?_, fun h2 => ⟨b1, fun x4 w5 hw5 => ?_⟩⟩
        · rw [b3, a3]
          unfold rdP
          cases hS : rdS tx p with
          | error q => rfl
          | ok y =>
            rw [hS] at a4
            have a4 : x1 = y.1 := a4
            rw [a3, hS] at h2
            have h2 := of_decide_eq_false h2
            dsimp only
            rw [if_neg (by omega), if_neg h2]
            show (if _ then _ else _) = _
            rw [if_neg h2]
            rfl
        · intro x hx
          unfold rdP at hx
          cases hS : rdS tx p with
          | error q => rw [hS] at hx; cases hx
          | ok y =>
            rw [hS] at a4 hx
            have a4 : x1 = y.1 := a4
            rw [a3, hS] at h2
            have h2 := of_decide_eq_false h2
            dsimp only at hx
            rw [if_neg (by omega), if_neg h2] at hx
            cases hx
            rw [a4]
        · obtain ⟨c1, c2, c3, c4, c5⟩ := hw5
          cases hS : rdS tx p with
          | error q => rw [a3, hS] at h2; cases h2
          | ok y =>
            rw [hS] at a4
            have a4 : x1 = y.1 := a4
            rw [a3, hS] at h2 b3
            have h2 := of_decide_eq_true h2
            have b3 : stW w3 = .ok (y.2 + 1) := by rw [b3]; show (if _ then _ else _) = _; rw [if_pos h2]
            rw [b3] at c3 c4
            have hP2 : rdP tx p = match rdS tx (y.2 + 1) with
                | .error q => .error q
                | .ok z => .ok ((y.1, z.1), z.2) := by
              unfold rdP
              rw [hS]
              dsimp only
              rw [if_neg (by omega), if_pos h2]
            refine join w5 x1 x4 c1 ((a2.tr b2).tr c2) ?_ ?_
            · rw [c3, hP2]
              show stE (rdS tx (y.2 + 1)) = _
              cases rdS tx (y.2 + 1) with
              | error q => rfl
              | ok z => rfl
            · intro x hx
              rw [hP2] at hx
              have c4 : rvO (rdS tx (y.2 + 1)) x4 := c4
              cases hT : rdS tx (y.2 + 1) with
              | error q => rw [hT] at hx; cases hx
              | ok z =>
                rw [hT] at hx c4
                have c4 : x4 = z.1 := c4
                cases hx
                rw [a4, c4]
      · obtain ⟨b1, b2, b3⟩ := hw6
        obtain ⟨c1, c2, c3, c4, c5⟩ := hw8
        cases hS : rdS tx p with
        | error q =>
          rw [a3, hS] at b3
          have b3 : stW w6 = .error q := b3
          rw [b3] at c3
          refine join w8 x1 x7 c1 ((a2.tr b2).tr c2) ?_ ?_
          · rw [c3]; unfold rdP; rw [hS]; rfl
          · intro x hx; unfold rdP at hx; rw [hS] at hx; cases hx
        | ok y =>
          rw [hS] at a4
          have a4 : x1 = y.1 := a4
          have h27 : y.1 = 27 := by omega
          rw [a3, hS] at b3
          by_cases h58 : hr tx y.2 = 58
          · have b3 : stW w6 = .ok (y.2 + 1) := by rw [b3]; show (if _ then _ else _) = _; rw [if_pos h58]
            rw [b3] at c3 c4
            have hP2 : rdP tx p = match rdL tx (y.2 + 1) with
                | .error q => .error q
                | .ok z => .ok ((27, z.1), z.2) := by
              unfold rdP
              rw [hS]
              dsimp only
              rw [if_pos h27, if_pos h58]
            refine join w8 x1 x7 c1 ((a2.tr b2).tr c2) ?_ ?_
            · rw [c3, hP2]
              show stE (rdL tx (y.2 + 1)) = _
              cases rdL tx (y.2 + 1) with
              | error q => rfl
              | ok z => rfl
            · intro x hx
              rw [hP2] at hx
              have c4 : rvO (rdL tx (y.2 + 1)) x7 := c4
              cases hT : rdL tx (y.2 + 1) with
              | error q => rw [hT] at hx; cases hx
              | ok z =>
                rw [hT] at hx c4
                have c4 : x7 = z.1 := c4
                cases hx
                rw [a4, c4, h27]
          · have b3 : stW w6 = .error y.2 := by rw [b3]; show (if _ then _ else _) = _; rw [if_neg h58]
            rw [b3] at c3
            have hP2 : rdP tx p = .error y.2 := by
              unfold rdP
              rw [hS]
              dsimp only
              rw [if_pos h27, if_neg h58]
            refine join w8 x1 x7 c1 ((a2.tr b2).tr c2) ?_ ?_
            · rw [c3, hP2]; rfl
            · intro x hx; rw [hP2] at hx; cases hx
  have := main 16 [] 0 w (9, 0) (9, 0) rfl (by decide) hP (Fm.rf _ _ _) hs0 (fun i hi => absurd hi (Nat.not_lt_zero i))
  have e : fiP tx [] (rdPs tx 16 0) = prsA tx := by
    unfold fiP prsA
    cases rdPs tx 16 0 with
    | error q => rfl
    | ok y => rfl
  rw [e] at this
  exact this

