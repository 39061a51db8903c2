/-! The class: sets and letters of the text. -/
def nmQ (tx : List Int) (w : eW) (t : eT) (R : Except Nat (Int × Nat)) (r : Option aV) (S2 : aS) : Prop := ∃ w2, S2 = enc w2 t ∧ Fc [] [(2, 6), (2, 10), (2, 11)] w w2 ∧ TC w2 tx ∧ match R with
  | .error q => r = some (0, 0) ∧ w2 2 6 = (q : Int)
  | .ok y => r = some (0, 1) ∧ w2 2 10 = y.1 ∧ w2 2 11 = 2 * (y.2 : Int)
theorem tb_dbl (b l : Nat) : (2 * b).testBit (l + 1) = b.testBit l := by
  rw [Nat.testBit_succ]
  congr 1
  omega
theorem or_dbl (b l : Nat) : 2 * b ||| 2 ^ (l + 1) = 2 * (b ||| 2 ^ l) := by
  apply Nat.eq_of_testBit_eq
  intro i
  cases i with
  | zero =>
    rw [Nat.testBit_or]
    simp [Nat.testBit_zero, Nat.pow_succ]
  | succ i =>
    rw [Nat.testBit_or, tb_dbl, tb_dbl, Nat.testBit_or, Nat.testBit_two_pow, Nat.testBit_two_pow]
    congr 1
    simp

theorem g_tst {d : Nat} {Q : Option aV → aS → Prop} {w : eW} {t : eT} {tx : List Int} (h : (TC w tx) ∧ ((w32 (hr tx (w 2 6).toNat) < w32 65 → Q (some (0, 0)) (enc (wu (wu w 2 10 (hr tx (w 2 6).toNat)) 2 11 0) t)) ∧ (¬ (w32 (hr tx (w 2 6).toNat) < w32 65) → ((w32 (hr tx (w 2 6).toNat) ≤ w32 90 → (TC (wu (wu (wu w 2 10 (hr tx (w 2 6).toNat)) 2 11 0) 2 6 ((w 2 6) + 1)) tx) ∧ ((w32 (hr tx ((wu (wu (wu w 2 10 (hr tx (w 2 6).toNat)) 2 11 0) 2 6 ((w 2 6) + 1)) 2 6).toNat) = w32 61 → Ev (d + 2) 86 Q 56 [rA 2, (0, 0), (9, 0)] [] (enc (wu (wu (wu (wu w 2 10 (hr tx (w 2 6).toNat)) 2 11 0) 2 6 ((w 2 6) + 1)) 2 6 (((w 2 6) + 1) + 1)) t)) ∧ (¬ (w32 (hr tx ((wu (wu (wu w 2 10 (hr tx (w 2 6).toNat)) 2 11 0) 2 6 ((w 2 6) + 1)) 2 6).toNat) = w32 61) → Q (some (0, 0)) (enc (wu (wu (wu w 2 10 (hr tx (w 2 6).toNat)) 2 11 0) 2 6 ((w 2 6) + 1)) t)))) ∧ (¬ (w32 (hr tx (w 2 6).toNat) ≤ w32 90) → Q (some (0, 0)) (enc (wu (wu w 2 10 (hr tx (w 2 6).toNat)) 2 11 0) t)))))) : Cl (d + 2) 86 [rA 2] (enc w t) Q := by
  show Ev (d + 2) 86 Q 0 [rA 2, (9, 0), (9, 0)] [] (enc w t)
  refine e_lda (v := 2) (show am_cd 86 0 = (2, 1, 0, 2, []) by decide +kernel) rfl ?_
  refine e_lda (v := 2) (show am_cd 86 1 = (2, 2, 0, 2, []) by decide +kernel) rfl ?_
  refine e_cV (z := 0) (a := 2) (as := []) (rest := [rA 2]) (show am_cd 86 2 = (40, 5, 80, 0, [34]) by decide +kernel) (by decide +kernel) rfl rfl (Nat.le_of_ble_eq_true rfl) rfl ?_
  refine Cl.mono (Cl.up (c_ahd (tx := tx) (d := d) h.1) (by omega)) ?_
  rintro _ _ ⟨rfl, rfl⟩
  refine ⟨fun _ h9 => (by cases h9), ?_⟩
  replace h := h.2
  show Ev _ 86 _ 5 [rA 2, (9, 0), (9, 0)] [(0, hr tx (w 2 6).toNat), rA 2] _
  refine e_putf (a := 2) (show am_cd 86 5 = (19, 8, 810, 0, [56]) by decide +kernel) (by decide +kernel) (by decide +kernel) rfl (fun h9 => absurd h9 (by decide)) (fun h9 => absurd h9 (by decide +kernel)) ?_
  refine e_lda (v := 2) (show am_cd 86 8 = (2, 9, 0, 2, []) by decide +kernel) rfl ?_
  refine e_ic (show am_cd 86 9 = (0, 10, 0, 0, []) by decide +kernel) ?_
  refine e_putf (a := 2) (show am_cd 86 10 = (19, 13, 811, 0, [59]) by decide +kernel) (by decide +kernel) (by decide +kernel) rfl (fun h9 => absurd h9 (by decide)) (fun h9 => absurd h9 (by decide +kernel)) ?_
  refine e_lda (v := 2) (show am_cd 86 13 = (2, 14, 0, 2, []) by decide +kernel) rfl ?_
  refine e_getfE (a := 2) (tg := 0) (v := hr tx (w 2 6).toNat) (show am_cd 86 14 = (18, 17, 810, 0, [56]) by decide +kernel) (by decide +kernel) (by decide +kernel) rfl rfl ?_
  refine e_ic (show am_cd 86 17 = (0, 19, 1, 65, []) by decide +kernel) ?_
  refine e_cmp2 (show am_cd 86 19 = (11, 22, 31, 2, []) by decide +kernel) (fun hc => ?_) (fun hc => ?_)
  · replace h := h.1 hc
    refine e_ic (show am_cd 86 31 = (0, 32, 0, 0, []) by decide +kernel) ?_
    exact e_retz (show am_cd 86 32 = (36, 33, 0, 0, []) by decide +kernel) (by decide +kernel) (Or.inl rfl) h
  · replace h := h.2 hc
    refine e_lda (v := 2) (show am_cd 86 22 = (2, 23, 0, 2, []) by decide +kernel) rfl ?_
    refine e_getfE (a := 2) (tg := 0) (v := hr tx (w 2 6).toNat) (show am_cd 86 23 = (18, 26, 810, 0, [56]) by decide +kernel) (by decide +kernel) (by decide +kernel) rfl rfl ?_
    refine e_ic (show am_cd 86 26 = (0, 28, 1, 90, []) by decide +kernel) ?_
    refine e_cmp5 (show am_cd 86 28 = (11, 31, 33, 5, []) by decide +kernel) (fun hc => ?_) (fun hc => ?_)
    · replace h := h.1 hc
      refine e_lda (v := 2) (show am_cd 86 33 = (2, 34, 0, 2, []) by decide +kernel) rfl ?_
      refine e_dup (show am_cd 86 34 = (13, 35, 0, 0, []) by decide +kernel) (by decide) ?_
      refine e_getfE (a := 2) (tg := 0) (v := w 2 6) (show am_cd 86 35 = (18, 38, 806, 0, [31]) by decide +kernel) (by decide +kernel) (by decide +kernel) rfl rfl ?_
      refine e_ic (show am_cd 86 38 = (0, 39, 0, 1, []) by decide +kernel) ?_
      refine e_iadd (show am_cd 86 39 = (5, 40, 0, 0, []) by decide +kernel) ?_
      refine e_putf (a := 2) (show am_cd 86 40 = (19, 43, 806, 0, [31]) by decide +kernel) (by decide +kernel) (by decide +kernel) rfl (fun h9 => absurd h9 (by decide)) (fun h9 => absurd h9 (by decide +kernel)) ?_
      refine e_lda (v := 2) (show am_cd 86 43 = (2, 44, 0, 2, []) by decide +kernel) rfl ?_
      refine e_ic (show am_cd 86 44 = (0, 46, 1, 61, []) by decide +kernel) ?_
      refine e_cV (z := 0) (a := 2) (as := [(0, 61)]) (rest := []) (show am_cd 86 46 = (40, 49, 81, 0, [49]) by decide +kernel) (by decide +kernel) rfl rfl (Nat.le_of_ble_eq_true rfl) rfl ?_
      show Ev _ 81 _ 0 [rA 2, (0, 61)] [] _
      refine e_lda (v := 2) (show am_cd 81 0 = (2, 1, 0, 2, []) by decide +kernel) rfl ?_
      refine e_cV (z := 0) (a := 2) (as := []) (rest := []) (show am_cd 81 1 = (40, 4, 80, 0, [34]) by decide +kernel) (by decide +kernel) rfl rfl (Nat.le_of_ble_eq_true rfl) rfl ?_
      refine Cl.mono (Cl.up (c_ahd (tx := tx) (d := d) h.1) (by omega)) ?_
      rintro _ _ ⟨rfl, rfl⟩
      refine ⟨fun _ h9 => (by cases h9), ?_⟩
      replace h := h.2
      show Ev _ 81 _ 4 [rA 2, (0, 61)] [(0, hr tx ((wu (wu (wu w 2 10 (hr tx (w 2 6).toNat)) 2 11 0) 2 6 ((w 2 6) + 1)) 2 6).toNat)] _
      refine e_ldi (show am_cd 81 4 = (2, 5, 1, 0, []) by decide +kernel) rfl ?_
      refine e_cmp0 (show am_cd 81 5 = (11, 8, 10, 0, []) by decide +kernel) (fun hc => ?_) (fun hc => ?_)
      · replace h := h.1 hc
        refine e_lda (v := 2) (show am_cd 81 10 = (2, 11, 0, 2, []) by decide +kernel) rfl ?_
        refine e_dup (show am_cd 81 11 = (13, 12, 0, 0, []) by decide +kernel) (by decide) ?_
        refine e_getfE (a := 2) (tg := 0) (v := (w 2 6) + 1) (show am_cd 81 12 = (18, 15, 806, 0, [31]) by decide +kernel) (by decide +kernel) (by decide +kernel) rfl rfl ?_
        refine e_ic (show am_cd 81 15 = (0, 16, 0, 1, []) by decide +kernel) ?_
        refine e_iadd (show am_cd 81 16 = (5, 17, 0, 0, []) by decide +kernel) ?_
        refine e_putf (a := 2) (show am_cd 81 17 = (19, 20, 806, 0, [31]) by decide +kernel) (by decide +kernel) (by decide +kernel) rfl (fun h9 => absurd h9 (by decide)) (fun h9 => absurd h9 (by decide +kernel)) ?_
        refine e_ic (show am_cd 81 20 = (0, 21, 0, 1, []) by decide +kernel) ?_
        refine e_retz (show am_cd 81 21 = (36, 22, 0, 0, []) by decide +kernel) (by decide +kernel) (Or.inr rfl) ⟨fun _ h9 => (by cases h9), ?_⟩
        show Ev _ 86 _ 49 [rA 2, (9, 0), (9, 0)] [(0, 1)] _
        refine e_ifT (show am_cd 86 49 = (10, 52, 54, 1, []) by decide +kernel) (by decide +kernel) ?_
        refine e_ic (show am_cd 86 54 = (0, 55, 0, 0, []) by decide +kernel) ?_
        refine e_sti (la2 := [rA 2, (0, 0), (9, 0)]) (show am_cd 86 55 = (3, 56, 1, 0, []) by decide +kernel) rfl ?_
        exact h
      · replace h := h.2 hc
        refine e_ic (show am_cd 81 8 = (0, 9, 0, 0, []) by decide +kernel) ?_
        refine e_retz (show am_cd 81 9 = (36, 10, 0, 0, []) by decide +kernel) (by decide +kernel) (Or.inl rfl) ⟨fun _ h9 => (by cases h9), ?_⟩
        show Ev _ 86 _ 49 [rA 2, (9, 0), (9, 0)] [(0, 0)] _
        refine e_ifF (show am_cd 86 49 = (10, 52, 54, 1, []) by decide +kernel) (by decide +kernel) ?_
        refine e_ic (show am_cd 86 52 = (0, 53, 0, 0, []) by decide +kernel) ?_
        exact e_retz (show am_cd 86 53 = (36, 54, 0, 0, []) by decide +kernel) (by decide +kernel) (Or.inl rfl) h
    · replace h := h.2 hc
      refine e_ic (show am_cd 86 31 = (0, 32, 0, 0, []) by decide +kernel) ?_
      exact e_retz (show am_cd 86 32 = (36, 33, 0, 0, []) by decide +kernel) (by decide +kernel) (Or.inl rfl) h

theorem g_tst0 {d : Nat} {Q : Option aV → aS → Prop} {w : eW} {t : eT} {k : Int} {tx : List Int} {Jn : aV} (h : ((w32 26 ≤ w32 k → ((w32 (w 2 11) = 0 → Q (some (0, 0)) (enc w t)) ∧ (¬ (w32 (w 2 11) = 0) → ((w32 (w 2 6) < w32 (w 2 5) → Q (some (0, 0)) (enc w t)) ∧ (¬ (w32 (w 2 6) < w32 (w 2 5)) → Q (some (0, 1)) (enc w t)))))) ∧ (¬ (w32 26 ≤ w32 k) → ((w32 (w 2 5) ≤ w32 (w 2 6) → ((w32 (w 2 11) = 0 → Q (some (0, 0)) (enc w t)) ∧ (¬ (w32 (w 2 11) = 0) → ((w32 (w 2 6) < w32 (w 2 5) → Q (some (0, 0)) (enc w t)) ∧ (¬ (w32 (w 2 6) < w32 (w 2 5)) → Q (some (0, 1)) (enc w t)))))) ∧ (¬ (w32 (w 2 5) ≤ w32 (w 2 6)) → (TC w tx) ∧ (-1 ≤ hr tx (w 2 6).toNat ∧ hr tx (w 2 6).toNat ≤ 255) ∧ ((w32 (codeOf (hr tx (w 2 6).toNat)) = 0 → Q (some (0, 0)) (enc w t)) ∧ (¬ (w32 (codeOf (hr tx (w 2 6).toNat)) = 0) → ((w32 (iand (ishr (w 2 11) (codeOf (hr tx (w 2 6).toNat))) 1) = 0 → Ev (d + 2) 86 Q 56 [rA 2, (0, k + 1), (0, codeOf (hr tx (w 2 6).toNat))] [] (enc (wu (wu w 2 11 (ior (w 2 11) (ishl 1 (codeOf (hr tx (w 2 6).toNat))))) 2 6 ((w 2 6) + 1)) t)) ∧ (¬ (w32 (iand (ishr (w 2 11) (codeOf (hr tx (w 2 6).toNat))) 1) = 0) → Q (some (0, 0)) (enc w t)))))))))) : Ev (d + 2) 86 Q 56 [rA 2, (0, k), Jn] [] (enc w t) := by
  refine e_ldi (show am_cd 86 56 = (2, 57, 1, 0, []) by decide +kernel) rfl ?_
  refine e_ic (show am_cd 86 57 = (0, 59, 1, 26, []) by decide +kernel) ?_
  refine e_cmp3 (show am_cd 86 59 = (11, 62, 126, 3, []) by decide +kernel) (fun hc => ?_) (fun hc => ?_)
  · replace h := h.1 hc
    refine e_lda (v := 2) (show am_cd 86 126 = (2, 127, 0, 2, []) by decide +kernel) rfl ?_
    refine e_getf (a := 2) (tg := 0) (show am_cd 86 127 = (18, 130, 811, 0, [59]) by decide +kernel) (by decide +kernel) (by decide +kernel) rfl ?_
    refine e_if0 (show am_cd 86 130 = (10, 133, 148, 0, []) by decide +kernel) (fun hc => ?_) (fun hc => ?_)
    · replace h := h.1 hc
      refine e_ic (show am_cd 86 148 = (0, 149, 0, 0, []) by decide +kernel) ?_
      exact e_retz (show am_cd 86 149 = (36, 150, 0, 0, []) by decide +kernel) (by decide +kernel) (Or.inl rfl) h
    · replace h := h.2 hc
      refine e_lda (v := 2) (show am_cd 86 133 = (2, 134, 0, 2, []) by decide +kernel) rfl ?_
      refine e_getf (a := 2) (tg := 0) (show am_cd 86 134 = (18, 137, 806, 0, [31]) by decide +kernel) (by decide +kernel) (by decide +kernel) rfl ?_
      refine e_lda (v := 2) (show am_cd 86 137 = (2, 138, 0, 2, []) by decide +kernel) rfl ?_
      refine e_getf (a := 2) (tg := 0) (show am_cd 86 138 = (18, 141, 805, 0, [27]) by decide +kernel) (by decide +kernel) (by decide +kernel) rfl ?_
      refine e_cmp2 (show am_cd 86 141 = (11, 144, 148, 2, []) by decide +kernel) (fun hc => ?_) (fun hc => ?_)
      · replace h := h.1 hc
        refine e_ic (show am_cd 86 148 = (0, 149, 0, 0, []) by decide +kernel) ?_
        exact e_retz (show am_cd 86 149 = (36, 150, 0, 0, []) by decide +kernel) (by decide +kernel) (Or.inl rfl) h
      · replace h := h.2 hc
        refine e_ic (show am_cd 86 144 = (0, 145, 0, 1, []) by decide +kernel) ?_
        refine e_go (show am_cd 86 145 = (12, 149, 0, 0, []) by decide +kernel) ?_
        exact e_retz (show am_cd 86 149 = (36, 150, 0, 0, []) by decide +kernel) (by decide +kernel) (Or.inr rfl) h
  · replace h := h.2 hc
    refine e_lda (v := 2) (show am_cd 86 62 = (2, 63, 0, 2, []) by decide +kernel) rfl ?_
    refine e_getf (a := 2) (tg := 0) (show am_cd 86 63 = (18, 66, 806, 0, [31]) by decide +kernel) (by decide +kernel) (by decide +kernel) rfl ?_
    refine e_lda (v := 2) (show am_cd 86 66 = (2, 67, 0, 2, []) by decide +kernel) rfl ?_
    refine e_getf (a := 2) (tg := 0) (show am_cd 86 67 = (18, 70, 805, 0, [27]) by decide +kernel) (by decide +kernel) (by decide +kernel) rfl ?_
    refine e_cmp3 (show am_cd 86 70 = (11, 73, 126, 3, []) by decide +kernel) (fun hc => ?_) (fun hc => ?_)
    · replace h := h.1 hc
      refine e_lda (v := 2) (show am_cd 86 126 = (2, 127, 0, 2, []) by decide +kernel) rfl ?_
      refine e_getf (a := 2) (tg := 0) (show am_cd 86 127 = (18, 130, 811, 0, [59]) by decide +kernel) (by decide +kernel) (by decide +kernel) rfl ?_
      refine e_if0 (show am_cd 86 130 = (10, 133, 148, 0, []) by decide +kernel) (fun hc => ?_) (fun hc => ?_)
      · replace h := h.1 hc
        refine e_ic (show am_cd 86 148 = (0, 149, 0, 0, []) by decide +kernel) ?_
        exact e_retz (show am_cd 86 149 = (36, 150, 0, 0, []) by decide +kernel) (by decide +kernel) (Or.inl rfl) h
      · replace h := h.2 hc
        refine e_lda (v := 2) (show am_cd 86 133 = (2, 134, 0, 2, []) by decide +kernel) rfl ?_
        refine e_getf (a := 2) (tg := 0) (show am_cd 86 134 = (18, 137, 806, 0, [31]) by decide +kernel) (by decide +kernel) (by decide +kernel) rfl ?_
        refine e_lda (v := 2) (show am_cd 86 137 = (2, 138, 0, 2, []) by decide +kernel) rfl ?_
        refine e_getf (a := 2) (tg := 0) (show am_cd 86 138 = (18, 141, 805, 0, [27]) by decide +kernel) (by decide +kernel) (by decide +kernel) rfl ?_
        refine e_cmp2 (show am_cd 86 141 = (11, 144, 148, 2, []) by decide +kernel) (fun hc => ?_) (fun hc => ?_)
        · replace h := h.1 hc
          refine e_ic (show am_cd 86 148 = (0, 149, 0, 0, []) by decide +kernel) ?_
          exact e_retz (show am_cd 86 149 = (36, 150, 0, 0, []) by decide +kernel) (by decide +kernel) (Or.inl rfl) h
        · replace h := h.2 hc
          refine e_ic (show am_cd 86 144 = (0, 145, 0, 1, []) by decide +kernel) ?_
          refine e_go (show am_cd 86 145 = (12, 149, 0, 0, []) by decide +kernel) ?_
          exact e_retz (show am_cd 86 149 = (36, 150, 0, 0, []) by decide +kernel) (by decide +kernel) (Or.inr rfl) h
    · replace h := h.2 hc
      refine e_lda (v := 2) (show am_cd 86 73 = (2, 74, 0, 2, []) by decide +kernel) rfl ?_
      refine e_cV (z := 0) (a := 2) (as := []) (rest := []) (show am_cd 86 74 = (40, 77, 80, 0, [34]) by decide +kernel) (by decide +kernel) rfl rfl (Nat.le_of_ble_eq_true rfl) rfl ?_
      refine Cl.mono (Cl.up (c_ahd (tx := tx) (d := d) h.1) (by omega)) ?_
      rintro _ _ ⟨rfl, rfl⟩
      refine ⟨fun _ h9 => (by cases h9), ?_⟩
      replace h := h.2
      show Ev _ 86 _ 77 [rA 2, (0, k), Jn] [(0, hr tx (w 2 6).toNat)] _
      refine e_cS (z := 0) (as := [(0, hr tx (w 2 6).toNat)]) (rest := []) (show am_cd 86 77 = (40, 80, 161, 4, [38]) by decide +kernel) (by decide) rfl rfl (Nat.le_of_ble_eq_true rfl) rfl ?_
      refine Cl.mono (Cl.up (c_codeOf (d := d) h.1) (by omega)) ?_
      rintro _ _ ⟨rfl, rfl⟩
      refine ⟨fun _ h9 => (by cases h9), ?_⟩
      replace h := h.2
      show Ev _ 86 _ 80 [rA 2, (0, k), Jn] [(0, codeOf (hr tx (w 2 6).toNat))] _
      refine e_sti (la2 := [rA 2, (0, k), (0, codeOf (hr tx (w 2 6).toNat))]) (show am_cd 86 80 = (3, 81, 2, 0, []) by decide +kernel) rfl ?_
      refine e_ldi (show am_cd 86 81 = (2, 82, 2, 0, []) by decide +kernel) rfl ?_
      refine e_if0 (show am_cd 86 82 = (10, 85, 96, 0, []) by decide +kernel) (fun hc => ?_) (fun hc => ?_)
      · replace h := h.1 hc
        refine e_ic (show am_cd 86 96 = (0, 97, 0, 0, []) by decide +kernel) ?_
        exact e_retz (show am_cd 86 97 = (36, 98, 0, 0, []) by decide +kernel) (by decide +kernel) (Or.inl rfl) h
      · replace h := h.2 hc
        refine e_lda (v := 2) (show am_cd 86 85 = (2, 86, 0, 2, []) by decide +kernel) rfl ?_
        refine e_getf (a := 2) (tg := 0) (show am_cd 86 86 = (18, 89, 811, 0, [59]) by decide +kernel) (by decide +kernel) (by decide +kernel) rfl ?_
        refine e_ldi (show am_cd 86 89 = (2, 90, 2, 0, []) by decide +kernel) rfl ?_
        refine e_ishr (show am_cd 86 90 = (5, 91, 7, 0, []) by decide +kernel) ?_
        refine e_ic (show am_cd 86 91 = (0, 92, 0, 1, []) by decide +kernel) ?_
        refine e_iand (show am_cd 86 92 = (5, 93, 3, 0, []) by decide +kernel) ?_
        refine e_if0 (show am_cd 86 93 = (10, 96, 98, 0, []) by decide +kernel) (fun hc => ?_) (fun hc => ?_)
        · replace h := h.1 hc
          refine e_lda (v := 2) (show am_cd 86 98 = (2, 99, 0, 2, []) by decide +kernel) rfl ?_
          refine e_dup (show am_cd 86 99 = (13, 100, 0, 0, []) by decide +kernel) (by decide) ?_
          refine e_getf (a := 2) (tg := 0) (show am_cd 86 100 = (18, 103, 811, 0, [59]) by decide +kernel) (by decide +kernel) (by decide +kernel) rfl ?_
          refine e_ic (show am_cd 86 103 = (0, 104, 0, 1, []) by decide +kernel) ?_
          refine e_ldi (show am_cd 86 104 = (2, 105, 2, 0, []) by decide +kernel) rfl ?_
          refine e_ishl (show am_cd 86 105 = (5, 106, 6, 0, []) by decide +kernel) ?_
          refine e_ior (show am_cd 86 106 = (5, 107, 4, 0, []) by decide +kernel) ?_
          refine e_putf (a := 2) (show am_cd 86 107 = (19, 110, 811, 0, [59]) by decide +kernel) (by decide +kernel) (by decide +kernel) rfl (fun h9 => absurd h9 (by decide)) (fun h9 => absurd h9 (by decide +kernel)) ?_
          refine e_lda (v := 2) (show am_cd 86 110 = (2, 111, 0, 2, []) by decide +kernel) rfl ?_
          refine e_dup (show am_cd 86 111 = (13, 112, 0, 0, []) by decide +kernel) (by decide) ?_
          refine e_getfE (a := 2) (tg := 0) (v := w 2 6) (show am_cd 86 112 = (18, 115, 806, 0, [31]) by decide +kernel) (by decide +kernel) (by decide +kernel) rfl rfl ?_
          refine e_ic (show am_cd 86 115 = (0, 116, 0, 1, []) by decide +kernel) ?_
          refine e_iadd (show am_cd 86 116 = (5, 117, 0, 0, []) by decide +kernel) ?_
          refine e_putf (a := 2) (show am_cd 86 117 = (19, 120, 806, 0, [31]) by decide +kernel) (by decide +kernel) (by decide +kernel) rfl (fun h9 => absurd h9 (by decide)) (fun h9 => absurd h9 (by decide +kernel)) ?_
          refine e_inc (la2 := [rA 2, (0, k + 1), (0, codeOf (hr tx (w 2 6).toNat))]) (show am_cd 86 120 = (4, 123, 1, 1, []) by decide +kernel) rfl rfl ?_
          refine e_go (show am_cd 86 123 = (12, 56, 0, 0, []) by decide +kernel) ?_
          exact h
        · replace h := h.2 hc
          refine e_ic (show am_cd 86 96 = (0, 97, 0, 0, []) by decide +kernel) ?_
          exact e_retz (show am_cd 86 97 = (36, 98, 0, 0, []) by decide +kernel) (by decide +kernel) (Or.inl rfl) h

theorem tst_loop {d : Nat} {w0 : eW} {t : eT} {tx : List Int} {c : Int} : ∀ (f k p b : Nat) (w : eW) (J : aV), f + k = 26 → TC w tx → w 2 6 = (p : Int) → w 2 10 = c → w 2 11 = 2 * (b : Int) → b < 2 ^ 27 → (b = 0 ∧ k = 0 ∨ p < tx.length ∧ b ≠ 0) → Fc [] [(2, 6), (2, 10), (2, 11)] w0 w → Ev (d + 2) 86 (nmQ tx w0 t (nmC c (nmB tx f p b))) 56 [rA 2, (0, (k : Int)), J] [] (enc w t) := by
  intro f
  induction f with
  | zero =>
    intro k p b w J hk hT hp hc hl hb hz hF
    have hlen := hT.len
    have hbb := hT.b
    refine g_tst0 (tx := tx) ⟨fun _ => ?_, fun hc => absurd (by rw [w32_id (by omega), w32_id (by omega)]; omega) hc⟩
    rw [hl, hp, hT.2.1]
    simp (disch := omega) only [w32_id]
    unfold nmB nmC
    exact ⟨fun _ => ⟨w, rfl, hF, hT, rfl, hp⟩, fun _ => ⟨fun _ => ⟨w, rfl, hF, hT, rfl, hp⟩, fun h9 => by omega⟩⟩
  | succ f ih =>
    intro k p b w J hk hT hp hc hl hb hz hF
    have hlen := hT.len
    have hbb := hT.b
    have hh := hT.hrb p
    refine g_tst0 (tx := tx) ⟨fun hc => absurd hc (by rw [w32_id (by omega), w32_id (by omega)]; omega), fun _ => ?_⟩
    have hco := codeOf_in _ hh
    rw [hl, hp, hT.2.1, Int.toNat_natCast]
    simp (disch := omega) only [w32_id]
    unfold nmB
    refine ⟨fun hge => ?_, fun hge => ⟨hT, hh, ?_⟩⟩
    · have hb0 : b = 0 := by omega
      have : ltO (hr tx p) = none := by
        have : hr tx p = -1 := by unfold hr; rw [if_neg (by omega)]
        rw [this]; rfl
      rw [this]
      exact ⟨fun _ => ⟨w, rfl, hF, hT, rfl, hp⟩, fun h9 => absurd (by omega) h9⟩
    · rw [codeOf_lt]
      cases hL : ltO (hr tx p) with
      | none => exact ⟨fun _ => ⟨w, rfl, hF, hT, rfl, hp⟩, fun h9 => absurd rfl h9⟩
      | some l =>
        have hlb := ltO_b hL
        dsimp only
        have hbi : iand (ishr (2 * (b : Int)) (l + 1)) 1 = if b.testBit l.toNat then 1 else 0 := by
          rw [i_bit (by omega) (by omega)]
          unfold bt
          rw [show (2 * (b : Int)).toNat = 2 * b by omega, show (l + 1).toNat = l.toNat + 1 by omega, tb_dbl]
        rw [hbi, i_set (by omega) (by omega), show (2 * (b : Int)).toNat = 2 * b by omega, show (l + 1).toNat = l.toNat + 1 by omega, or_dbl]
        refine ⟨fun h9 => absurd h9 (by omega), fun _ => ⟨fun h0 => ?_, fun h0 => ?_⟩⟩
        · have hbt : ¬ b.testBit l.toNat = true := fun h9 => by rw [if_pos h9] at h0; revert h0; decide
          rw [if_neg hbt]
          have ho := or_b hb (l := l.toNat) (by omega)
          have hstep : ∀ R, nmC c R = nmC c (if p + 1 < tx.length then nmB tx f (p + 1) (b ||| 2 ^ l.toNat) else .ok (b ||| 2 ^ l.toNat)) → Ev (d + 2) 86 (nmQ tx w0 t (nmC c R)) 56 [rA 2, (0, (k : Int) + 1), (0, l + 1)] [] (enc (wu (wu w 2 11 ((2 * (b ||| 2 ^ l.toNat) : Nat) : Int)) 2 6 ((p : Int) + 1)) t) := fun R hR => by
            rw [hR]
            generalize hb2 : b ||| 2 ^ l.toNat = b2 at ho ⊢
            have hT2 : TC (wu (wu w 2 11 ((2 * b2 : Nat) : Int)) 2 6 ((p : Int) + 1)) tx := TC.at (hT.fr rfl rfl rfl) (by omega)
            have hF2 : Fc [] [(2, 6), (2, 10), (2, 11)] w0 (wu (wu w 2 11 ((2 * b2 : Nat) : Int)) 2 6 ((p : Int) + 1)) := (hF.tr (Fc.pf (by decide))).tr (Fc.pf (by decide))
            by_cases hpl : p + 1 < tx.length
            · rw [if_pos hpl]
              exact ih (k + 1) (p + 1) b2 _ _ (by omega) hT2 (wu_eq _ _ _ _) hc (by show ((2 * b2 : Nat) : Int) = _; omega) ho.1 (Or.inr ⟨hpl, by omega⟩) hF2
            · rw [if_neg hpl]
              refine g_tst0 (tx := tx) ?_
              have e11 : wu (wu w 2 11 ((2 * b2 : Nat) : Int)) 2 6 ((p : Int) + 1) 2 11 = 2 * (b2 : Int) := by show ((2 * b2 : Nat) : Int) = _; omega
              have e6 : wu (wu w 2 11 ((2 * b2 : Nat) : Int)) 2 6 ((p : Int) + 1) 2 6 = (p : Int) + 1 := rfl
              have e5 : wu (wu w 2 11 ((2 * b2 : Nat) : Int)) 2 6 ((p : Int) + 1) 2 5 = (tx.length : Int) := hT.2.1
              have e10 : wu (wu w 2 11 ((2 * b2 : Nat) : Int)) 2 6 ((p : Int) + 1) 2 10 = c := hc
              generalize wu (wu w 2 11 ((2 * b2 : Nat) : Int)) 2 6 ((p : Int) + 1) = w2 at *
              rw [e11, e6, e5]
              simp (disch := omega) only [w32_id]
              have hfin : (2 * (b2 : Int) = 0 → nmQ tx w0 t (nmC c (.ok b2)) (some (0, 0)) (enc w2 t)) ∧ (¬ 2 * (b2 : Int) = 0 → ((p : Int) + 1 < (tx.length : Int) → nmQ tx w0 t (nmC c (.ok b2)) (some (0, 0)) (enc w2 t)) ∧ (¬ (p : Int) + 1 < (tx.length : Int) → nmQ tx w0 t (nmC c (.ok b2)) (some (0, 1)) (enc w2 t))) :=
                ⟨fun h9 => by omega, fun _ => ⟨fun h9 => by omega, fun _ => ⟨w2, rfl, hF2, hT2, rfl, e10, e11⟩⟩⟩
              exact ⟨fun _ => hfin, fun _ => ⟨fun _ => hfin, fun h9 => absurd (by omega) h9⟩⟩
          exact hstep _ rfl
        · have hbt : b.testBit l.toNat = true := by
            apply Classical.byContradiction
            intro h9
            rw [if_neg h9] at h0
            exact h0 rfl
          rw [if_pos hbt]
          exact ⟨w, rfl, hF, hT, rfl, hp⟩
theorem c_takesSet {d : Nat} {w : eW} {t : eT} {tx : List Int} (h : TC w tx ∧ w 2 6 = 0) : Cl (d + 2) 86 [rA 2] (enc w t) (nmQ tx w t (nmsR tx)) := by
  obtain ⟨hT, h0⟩ := h
  have h0' := hT.hrb 0
  have h1' := hT.hrb 1
  have hl := hT.len
  refine g_tst (tx := tx) ⟨hT, ?_⟩
  simp only [wu_wu, wu_eq, h0]
  rw [show ((0 : Int) + 1).toNat = 1 from rfl, show (0 : Int).toNat = 0 from rfl]
  simp (disch := omega) only [w32_id]
  unfold nmsR
  refine ⟨fun hc => ?_, fun hc => ⟨fun hc2 => ⟨?_, fun h61 => ?_, fun h61 => ?_⟩, fun hc2 => ?_⟩⟩
  · rw [if_neg (by omega)]
    exact ⟨_, rfl, (Fc.pf (by decide)).tr (Fc.pf (by decide)), hT.fr rfl rfl rfl, rfl, h0⟩
  · have := hr_in (c := hr tx 0) rfl (by omega)
    exact TC.at (hT.fr rfl rfl rfl) (by omega)
  · rw [if_pos (by omega), if_pos h61]
    have := hr_in h61 (by decide)
    refine tst_loop (w0 := w) 26 0 2 0 _ _ rfl (TC.at (hT.fr rfl rfl rfl) (by omega)) rfl rfl rfl (by decide) (Or.inl ⟨rfl, rfl⟩) (((Fc.pf (by decide)).tr (Fc.pf (by decide))).tr (Fc.pf (by decide)))
  · rw [if_pos (by omega), if_neg h61]
    have := hr_in (c := hr tx 0) rfl (by omega)
    exact ⟨_, rfl, ((Fc.pf (by decide)).tr (Fc.pf (by decide))).tr (Fc.pf (by decide)), TC.at (hT.fr rfl rfl rfl) (by omega), rfl, rfl⟩
  · rw [if_neg (by omega)]
    exact ⟨_, rfl, (Fc.pf (by decide)).tr (Fc.pf (by decide)), hT.fr rfl rfl rfl, rfl, h0⟩
def LtC (w : eW) (A : Nat) (l : List Int) : Prop := ∀ i, i < l.length → w A i = l.getD i 0 + 1
def tlQ (tx : List Int) (w : eW) (t : eT) (A k p : Nat) (acc : List Int) (r : Option aV) (S2 : aS) : Prop := ∃ w2, r = some (0, ((acc.length + (ltsF tx k p).length : Nat) : Int)) ∧ S2 = enc w2 t ∧ Fc [A] [(2, 6)] w w2 ∧ TC w2 tx ∧ w2 2 6 = ((p + (ltsF tx k p).length : Nat) : Int) ∧ LtC w2 A (acc ++ ltsF tx k p)

theorem g_tl6 {d : Nat} {Q : Option aV → aS → Prop} {w : eW} {t : eT} {mo : Int} {tx : List Int} (h : Ev (d + 2) 89 Q 2 [rA 2, rA 6, (0, mo), (0, 0)] [] (enc w t)) : Cl (d + 2) 89 [rA 2, rA 6, (0, mo)] (enc w t) Q := by
  show Ev (d + 2) 89 Q 0 [rA 2, rA 6, (0, mo), (9, 0)] [] (enc w t)
  refine e_ic (show am_cd 89 0 = (0, 1, 0, 0, []) by decide +kernel) ?_
  refine e_sti (la2 := [rA 2, rA 6, (0, mo), (0, 0)]) (show am_cd 89 1 = (3, 2, 3, 0, []) by decide +kernel) rfl ?_
  exact h

theorem g_tlr6 {d : Nat} {Q : Option aV → aS → Prop} {w : eW} {t : eT} {mo n : Int} {tx : List Int} (h : ((w32 mo ≤ w32 n → Q (some (0, n)) (enc w t)) ∧ (¬ (w32 mo ≤ w32 n) → ((w32 6 ≤ w32 n → Q (some (0, n)) (enc w t)) ∧ (¬ (w32 6 ≤ w32 n) → (TC w tx) ∧ (-1 ≤ hr tx (w 2 6).toNat ∧ hr tx (w 2 6).toNat ≤ 255) ∧ ((w32 (codeOf (hr tx (w 2 6).toNat)) ≤ 0 → Q (some (0, n)) (enc w t)) ∧ (¬ (w32 (codeOf (hr tx (w 2 6).toNat)) ≤ 0) → (TC w tx) ∧ (-1 ≤ hr tx (w 2 6).toNat ∧ hr tx (w 2 6).toNat ≤ 255) ∧ (0 ≤ w32 n ∧ w32 n < 6) ∧ (Ev (d + 2) 89 Q 2 [rA 2, rA 6, (0, mo), (0, n + 1)] [] (enc (wu (wu w 6 (w32 n).toNat (codeOf (hr tx (w 2 6).toNat))) 2 6 ((w 2 6) + 1)) t))))))))) : Ev (d + 2) 89 Q 2 [rA 2, rA 6, (0, mo), (0, n)] [] (enc w t) := by
  refine e_ldi (show am_cd 89 2 = (2, 3, 3, 0, []) by decide +kernel) rfl ?_
  refine e_ldi (show am_cd 89 3 = (2, 4, 2, 0, []) by decide +kernel) rfl ?_
  refine e_cmp3 (show am_cd 89 4 = (11, 7, 49, 3, []) by decide +kernel) (fun hc => ?_) (fun hc => ?_)
  · replace h := h.1 hc
    refine e_ldi (show am_cd 89 49 = (2, 50, 3, 0, []) by decide +kernel) rfl ?_
    exact e_reti (show am_cd 89 50 = (36, 51, 0, 0, []) by decide +kernel) (by decide +kernel) h
  · replace h := h.2 hc
    refine e_ldi (show am_cd 89 7 = (2, 8, 3, 0, []) by decide +kernel) rfl ?_
    refine e_lda (v := 6) (show am_cd 89 8 = (2, 9, 1, 2, []) by decide +kernel) rfl ?_
    refine e_alen (a := 6) (n := 6) (show am_cd 89 9 = (27, 10, 0, 0, []) by decide +kernel) (by decide +kernel) (by decide +kernel) ?_
    refine e_cmp3 (show am_cd 89 10 = (11, 13, 49, 3, []) by decide +kernel) (fun hc => ?_) (fun hc => ?_)
    · replace h := h.1 hc
      refine e_ldi (show am_cd 89 49 = (2, 50, 3, 0, []) by decide +kernel) rfl ?_
      exact e_reti (show am_cd 89 50 = (36, 51, 0, 0, []) by decide +kernel) (by decide +kernel) h
    · replace h := h.2 hc
      refine e_lda (v := 2) (show am_cd 89 13 = (2, 14, 0, 2, []) by decide +kernel) rfl ?_
      refine e_cV (z := 0) (a := 2) (as := []) (rest := []) (show am_cd 89 14 = (40, 17, 80, 0, [34]) by decide +kernel) (by decide +kernel) rfl rfl (Nat.le_of_ble_eq_true rfl) rfl ?_
      refine Cl.mono (Cl.up (c_ahd (tx := tx) (d := d) h.1) (by omega)) ?_
      rintro _ _ ⟨rfl, rfl⟩
      refine ⟨fun _ h9 => (by cases h9), ?_⟩
      replace h := h.2
      show Ev _ 89 _ 17 [rA 2, rA 6, (0, mo), (0, n)] [(0, hr tx (w 2 6).toNat)] _
      refine e_cS (z := 0) (as := [(0, hr tx (w 2 6).toNat)]) (rest := []) (show am_cd 89 17 = (40, 20, 161, 4, [38]) by decide +kernel) (by decide) rfl rfl (Nat.le_of_ble_eq_true rfl) rfl ?_
      refine Cl.mono (Cl.up (c_codeOf (d := d) h.1) (by omega)) ?_
      rintro _ _ ⟨rfl, rfl⟩
      refine ⟨fun _ h9 => (by cases h9), ?_⟩
      replace h := h.2
      show Ev _ 89 _ 20 [rA 2, rA 6, (0, mo), (0, n)] [(0, codeOf (hr tx (w 2 6).toNat))] _
      refine e_if5 (show am_cd 89 20 = (10, 23, 49, 5, []) by decide +kernel) (fun hc => ?_) (fun hc => ?_)
      · replace h := h.1 hc
        refine e_ldi (show am_cd 89 49 = (2, 50, 3, 0, []) by decide +kernel) rfl ?_
        exact e_reti (show am_cd 89 50 = (36, 51, 0, 0, []) by decide +kernel) (by decide +kernel) h
      · replace h := h.2 hc
        refine e_lda (v := 6) (show am_cd 89 23 = (2, 24, 1, 2, []) by decide +kernel) rfl ?_
        refine e_ldi (show am_cd 89 24 = (2, 25, 3, 0, []) by decide +kernel) rfl ?_
        refine e_lda (v := 2) (show am_cd 89 25 = (2, 26, 0, 2, []) by decide +kernel) rfl ?_
        refine e_cV (z := 0) (a := 2) (as := []) (rest := [(0, n), rA 6]) (show am_cd 89 26 = (40, 29, 80, 0, [34]) by decide +kernel) (by decide +kernel) rfl rfl (Nat.le_of_ble_eq_true rfl) rfl ?_
        refine Cl.mono (Cl.up (c_ahd (tx := tx) (d := d) h.1) (by omega)) ?_
        rintro _ _ ⟨rfl, rfl⟩
        refine ⟨fun _ h9 => (by cases h9), ?_⟩
        replace h := h.2
        show Ev _ 89 _ 29 [rA 2, rA 6, (0, mo), (0, n)] [(0, hr tx (w 2 6).toNat), (0, n), rA 6] _
        refine e_cS (z := 0) (as := [(0, hr tx (w 2 6).toNat)]) (rest := [(0, n), rA 6]) (show am_cd 89 29 = (40, 32, 161, 4, [38]) by decide +kernel) (by decide) rfl rfl (Nat.le_of_ble_eq_true rfl) rfl ?_
        refine Cl.mono (Cl.up (c_codeOf (d := d) h.1) (by omega)) ?_
        rintro _ _ ⟨rfl, rfl⟩
        refine ⟨fun _ h9 => (by cases h9), ?_⟩
        replace h := h.2
        show Ev _ 89 _ 32 [rA 2, rA 6, (0, mo), (0, n)] [(0, codeOf (hr tx (w 2 6).toNat)), (0, n), rA 6] _
        refine e_iast (a := 6) (n := 6) (show am_cd 89 32 = (24, 33, 0, 0, []) by decide +kernel) (by decide +kernel) (by decide +kernel) (by decide +kernel) h.1 ?_
        replace h := h.2
        refine e_inc (la2 := [rA 2, rA 6, (0, mo), (0, n + 1)]) (show am_cd 89 33 = (4, 36, 3, 1, []) by decide +kernel) rfl rfl ?_
        refine e_lda (v := 2) (show am_cd 89 36 = (2, 37, 0, 2, []) by decide +kernel) rfl ?_
        refine e_dup (show am_cd 89 37 = (13, 38, 0, 0, []) by decide +kernel) (by decide) ?_
        refine e_getfE (a := 2) (tg := 0) (v := w 2 6) (show am_cd 89 38 = (18, 41, 806, 0, [31]) by decide +kernel) (by decide +kernel) (by decide +kernel) rfl rfl ?_
        refine e_ic (show am_cd 89 41 = (0, 42, 0, 1, []) by decide +kernel) ?_
        refine e_iadd (show am_cd 89 42 = (5, 43, 0, 0, []) by decide +kernel) ?_
        refine e_putf (a := 2) (show am_cd 89 43 = (19, 46, 806, 0, [31]) by decide +kernel) (by decide +kernel) (by decide +kernel) rfl (fun h9 => absurd h9 (by decide)) (fun h9 => absurd h9 (by decide +kernel)) ?_
        refine e_go (show am_cd 89 46 = (12, 2, 0, 0, []) by decide +kernel) ?_
        exact h

theorem tl_loop6 {d : Nat} {w0 : eW} {t : eT} {tx : List Int} : ∀ (f p : Nat) (w : eW) (acc : List Int), f + acc.length ≤ 6 → TC w tx → w 2 6 = (p : Int) → LtC w 6 acc → Fc [6] [(2, 6)] w0 w → Ev (d + 2) 89 (tlQ tx w0 t 6 f p acc) 2 [rA 2, rA 6, (0, ((f + acc.length : Nat) : Int)), (0, (acc.length : Int))] [] (enc w t) := by
  intro f
  induction f with
  | zero =>
    intro p w acc hk hT hp hl hF
    refine g_tlr6 (tx := tx) ⟨fun _ => ?_, fun hc => absurd (by rw [Nat.zero_add]; exact Int.le_refl _) hc⟩
    exact ⟨w, rfl, rfl, hF, hT, hp, by unfold ltsF; rw [List.append_nil]; exact hl⟩
  | succ f ih =>
    intro p w acc hk hT hp hl hF
    have hh := hT.hrb p
    have hlen := hT.len
    refine g_tlr6 (tx := tx) ⟨fun hc => absurd hc (by rw [w32_id (by omega), w32_id (by omega)]; omega), fun _ => ⟨fun hc => absurd hc (by rw [w32_id (by omega), w32_id (by omega)]; omega), fun _ => ⟨hT, ?_⟩⟩⟩
    have hco := codeOf_in _ hh
    rw [hp, Int.toNat_natCast, w32_id (x := ((acc.length : Nat) : Int)) (by omega), Int.toNat_natCast]
    simp (disch := omega) only [w32_id]
    rw [codeOf_lt]
    unfold tlQ ltsF
    refine ⟨hh, ?_⟩
    cases hL : ltO (hr tx p) with
    | none =>
      refine ⟨fun _ => ⟨w, rfl, rfl, hF, hT, by rw [hp]; rfl, by rw [List.append_nil]; exact hl⟩, fun h9 => absurd (Int.le_refl 0) h9⟩
    | some l =>
      have hlb := ltO_b hL
      dsimp only
      have hpl := hr_in (c := hr tx p) rfl (by omega)
      refine ⟨fun h9 => absurd h9 (by omega), fun _ => ⟨hT, hh, by omega, ?_⟩⟩
      have := ih (p + 1) (wu (wu w 6 acc.length (l + 1)) 2 6 ((p : Int) + 1)) (acc ++ [l]) (by rw [List.length_append]; show f + (acc.length + 1) ≤ 6; omega) (TC.at (hT.fr rfl rfl rfl) (by omega)) (wu_eq _ _ _ _) ?_ ((hF.tr (Fc.pr (by decide))).tr (Fc.pf (by decide)))
      · rw [List.length_append] at this
        have e : f + (acc.length + [l].length) = f + 1 + acc.length := by show f + (acc.length + 1) = _; omega
        rw [e] at this
        refine Ev.mono this (fun r S2 hq => ?_)
        unfold tlQ at hq
        obtain ⟨w2, e1, e2, e3, e4, e5, e6⟩ := hq
        refine ⟨w2, ?_, e2, e3, e4, ?_, ?_⟩
        · rw [e1]
          simp only [List.length_append, List.length_cons, List.length_nil]
          congr 3
          omega
        · rw [e5, List.length_cons]
          congr 1
          omega
        · rw [List.append_assoc] at e6
          exact e6
      · intro i hi
        rw [List.length_append] at hi
        have hi : i < acc.length + 1 := hi
        rw [wu_na _ _ (by decide)]
        by_cases h9 : i = acc.length
        · subst h9
          rw [wu_eq, gD_last]
        · rw [wu_nk _ _ h9, gD_app (by omega)]
          exact hl i (by omega)
theorem c_tl6 {d p : Nat} {w : eW} {t : eT} {tx : List Int} {mo : Nat} (hT : TC w tx) (hp : w 2 6 = (p : Int)) (hm : mo ≤ 6) : Cl (d + 2) 89 [rA 2, rA 6, (0, (mo : Int))] (enc w t) (tlQ tx w t 6 mo p []) := by
  refine g_tl6 (tx := tx) ?_
  exact tl_loop6 mo p w [] hm hT hp (fun i hi => absurd hi (Nat.not_lt_zero i)) (Fc.rf _ _ _)

theorem g_tl7 {d : Nat} {Q : Option aV → aS → Prop} {w : eW} {t : eT} {mo : Int} {tx : List Int} (h : Ev (d + 2) 89 Q 2 [rA 2, rA 7, (0, mo), (0, 0)] [] (enc w t)) : Cl (d + 2) 89 [rA 2, rA 7, (0, mo)] (enc w t) Q := by
  show Ev (d + 2) 89 Q 0 [rA 2, rA 7, (0, mo), (9, 0)] [] (enc w t)
  refine e_ic (show am_cd 89 0 = (0, 1, 0, 0, []) by decide +kernel) ?_
  refine e_sti (la2 := [rA 2, rA 7, (0, mo), (0, 0)]) (show am_cd 89 1 = (3, 2, 3, 0, []) by decide +kernel) rfl ?_
  exact h

theorem g_tlr7 {d : Nat} {Q : Option aV → aS → Prop} {w : eW} {t : eT} {mo n : Int} {tx : List Int} (h : ((w32 mo ≤ w32 n → Q (some (0, n)) (enc w t)) ∧ (¬ (w32 mo ≤ w32 n) → ((w32 6 ≤ w32 n → Q (some (0, n)) (enc w t)) ∧ (¬ (w32 6 ≤ w32 n) → (TC w tx) ∧ (-1 ≤ hr tx (w 2 6).toNat ∧ hr tx (w 2 6).toNat ≤ 255) ∧ ((w32 (codeOf (hr tx (w 2 6).toNat)) ≤ 0 → Q (some (0, n)) (enc w t)) ∧ (¬ (w32 (codeOf (hr tx (w 2 6).toNat)) ≤ 0) → (TC w tx) ∧ (-1 ≤ hr tx (w 2 6).toNat ∧ hr tx (w 2 6).toNat ≤ 255) ∧ (0 ≤ w32 n ∧ w32 n < 6) ∧ (Ev (d + 2) 89 Q 2 [rA 2, rA 7, (0, mo), (0, n + 1)] [] (enc (wu (wu w 7 (w32 n).toNat (codeOf (hr tx (w 2 6).toNat))) 2 6 ((w 2 6) + 1)) t))))))))) : Ev (d + 2) 89 Q 2 [rA 2, rA 7, (0, mo), (0, n)] [] (enc w t) := by
  refine e_ldi (show am_cd 89 2 = (2, 3, 3, 0, []) by decide +kernel) rfl ?_
  refine e_ldi (show am_cd 89 3 = (2, 4, 2, 0, []) by decide +kernel) rfl ?_
  refine e_cmp3 (show am_cd 89 4 = (11, 7, 49, 3, []) by decide +kernel) (fun hc => ?_) (fun hc => ?_)
  · replace h := h.1 hc
    refine e_ldi (show am_cd 89 49 = (2, 50, 3, 0, []) by decide +kernel) rfl ?_
    exact e_reti (show am_cd 89 50 = (36, 51, 0, 0, []) by decide +kernel) (by decide +kernel) h
  · replace h := h.2 hc
    refine e_ldi (show am_cd 89 7 = (2, 8, 3, 0, []) by decide +kernel) rfl ?_
    refine e_lda (v := 7) (show am_cd 89 8 = (2, 9, 1, 2, []) by decide +kernel) rfl ?_
    refine e_alen (a := 7) (n := 6) (show am_cd 89 9 = (27, 10, 0, 0, []) by decide +kernel) (by decide +kernel) (by decide +kernel) ?_
    refine e_cmp3 (show am_cd 89 10 = (11, 13, 49, 3, []) by decide +kernel) (fun hc => ?_) (fun hc => ?_)
    · replace h := h.1 hc
      refine e_ldi (show am_cd 89 49 = (2, 50, 3, 0, []) by decide +kernel) rfl ?_
      exact e_reti (show am_cd 89 50 = (36, 51, 0, 0, []) by decide +kernel) (by decide +kernel) h
    · replace h := h.2 hc
      refine e_lda (v := 2) (show am_cd 89 13 = (2, 14, 0, 2, []) by decide +kernel) rfl ?_
      refine e_cV (z := 0) (a := 2) (as := []) (rest := []) (show am_cd 89 14 = (40, 17, 80, 0, [34]) by decide +kernel) (by decide +kernel) rfl rfl (Nat.le_of_ble_eq_true rfl) rfl ?_
      refine Cl.mono (Cl.up (c_ahd (tx := tx) (d := d) h.1) (by omega)) ?_
      rintro _ _ ⟨rfl, rfl⟩
      refine ⟨fun _ h9 => (by cases h9), ?_⟩
      replace h := h.2
      show Ev _ 89 _ 17 [rA 2, rA 7, (0, mo), (0, n)] [(0, hr tx (w 2 6).toNat)] _
      refine e_cS (z := 0) (as := [(0, hr tx (w 2 6).toNat)]) (rest := []) (show am_cd 89 17 = (40, 20, 161, 4, [38]) by decide +kernel) (by decide) rfl rfl (Nat.le_of_ble_eq_true rfl) rfl ?_
      refine Cl.mono (Cl.up (c_codeOf (d := d) h.1) (by omega)) ?_
      rintro _ _ ⟨rfl, rfl⟩
      refine ⟨fun _ h9 => (by cases h9), ?_⟩
      replace h := h.2
      show Ev _ 89 _ 20 [rA 2, rA 7, (0, mo), (0, n)] [(0, codeOf (hr tx (w 2 6).toNat))] _
      refine e_if5 (show am_cd 89 20 = (10, 23, 49, 5, []) by decide +kernel) (fun hc => ?_) (fun hc => ?_)
      · replace h := h.1 hc
        refine e_ldi (show am_cd 89 49 = (2, 50, 3, 0, []) by decide +kernel) rfl ?_
        exact e_reti (show am_cd 89 50 = (36, 51, 0, 0, []) by decide +kernel) (by decide +kernel) h
      · replace h := h.2 hc
        refine e_lda (v := 7) (show am_cd 89 23 = (2, 24, 1, 2, []) by decide +kernel) rfl ?_
        refine e_ldi (show am_cd 89 24 = (2, 25, 3, 0, []) by decide +kernel) rfl ?_
        refine e_lda (v := 2) (show am_cd 89 25 = (2, 26, 0, 2, []) by decide +kernel) rfl ?_
        refine e_cV (z := 0) (a := 2) (as := []) (rest := [(0, n), rA 7]) (show am_cd 89 26 = (40, 29, 80, 0, [34]) by decide +kernel) (by decide +kernel) rfl rfl (Nat.le_of_ble_eq_true rfl) rfl ?_
        refine Cl.mono (Cl.up (c_ahd (tx := tx) (d := d) h.1) (by omega)) ?_
        rintro _ _ ⟨rfl, rfl⟩
        refine ⟨fun _ h9 => (by cases h9), ?_⟩
        replace h := h.2
        show Ev _ 89 _ 29 [rA 2, rA 7, (0, mo), (0, n)] [(0, hr tx (w 2 6).toNat), (0, n), rA 7] _
        refine e_cS (z := 0) (as := [(0, hr tx (w 2 6).toNat)]) (rest := [(0, n), rA 7]) (show am_cd 89 29 = (40, 32, 161, 4, [38]) by decide +kernel) (by decide) rfl rfl (Nat.le_of_ble_eq_true rfl) rfl ?_
        refine Cl.mono (Cl.up (c_codeOf (d := d) h.1) (by omega)) ?_
        rintro _ _ ⟨rfl, rfl⟩
        refine ⟨fun _ h9 => (by cases h9), ?_⟩
        replace h := h.2
        show Ev _ 89 _ 32 [rA 2, rA 7, (0, mo), (0, n)] [(0, codeOf (hr tx (w 2 6).toNat)), (0, n), rA 7] _
        refine e_iast (a := 7) (n := 6) (show am_cd 89 32 = (24, 33, 0, 0, []) by decide +kernel) (by decide +kernel) (by decide +kernel) (by decide +kernel) h.1 ?_
        replace h := h.2
        refine e_inc (la2 := [rA 2, rA 7, (0, mo), (0, n + 1)]) (show am_cd 89 33 = (4, 36, 3, 1, []) by decide +kernel) rfl rfl ?_
        refine e_lda (v := 2) (show am_cd 89 36 = (2, 37, 0, 2, []) by decide +kernel) rfl ?_
        refine e_dup (show am_cd 89 37 = (13, 38, 0, 0, []) by decide +kernel) (by decide) ?_
        refine e_getfE (a := 2) (tg := 0) (v := w 2 6) (show am_cd 89 38 = (18, 41, 806, 0, [31]) by decide +kernel) (by decide +kernel) (by decide +kernel) rfl rfl ?_
        refine e_ic (show am_cd 89 41 = (0, 42, 0, 1, []) by decide +kernel) ?_
        refine e_iadd (show am_cd 89 42 = (5, 43, 0, 0, []) by decide +kernel) ?_
        refine e_putf (a := 2) (show am_cd 89 43 = (19, 46, 806, 0, [31]) by decide +kernel) (by decide +kernel) (by decide +kernel) rfl (fun h9 => absurd h9 (by decide)) (fun h9 => absurd h9 (by decide +kernel)) ?_
        refine e_go (show am_cd 89 46 = (12, 2, 0, 0, []) by decide +kernel) ?_
        exact h

theorem tl_loop7 {d : Nat} {w0 : eW} {t : eT} {tx : List Int} : ∀ (f p : Nat) (w : eW) (acc : List Int), f + acc.length ≤ 6 → TC w tx → w 2 6 = (p : Int) → LtC w 7 acc → Fc [7] [(2, 6)] w0 w → Ev (d + 2) 89 (tlQ tx w0 t 7 f p acc) 2 [rA 2, rA 7, (0, ((f + acc.length : Nat) : Int)), (0, (acc.length : Int))] [] (enc w t) := by
  intro f
  induction f with
  | zero =>
    intro p w acc hk hT hp hl hF
    refine g_tlr7 (tx := tx) ⟨fun _ => ?_, fun hc => absurd (by rw [Nat.zero_add]; exact Int.le_refl _) hc⟩
    exact ⟨w, rfl, rfl, hF, hT, hp, by unfold ltsF; rw [List.append_nil]; exact hl⟩
  | succ f ih =>
    intro p w acc hk hT hp hl hF
    have hh := hT.hrb p
    have hlen := hT.len
    refine g_tlr7 (tx := tx) ⟨fun hc => absurd hc (by rw [w32_id (by omega), w32_id (by omega)]; omega), fun _ => ⟨fun hc => absurd hc (by rw [w32_id (by omega), w32_id (by omega)]; omega), fun _ => ⟨hT, ?_⟩⟩⟩
    have hco := codeOf_in _ hh
    rw [hp, Int.toNat_natCast, w32_id (x := ((acc.length : Nat) : Int)) (by omega), Int.toNat_natCast]
    simp (disch := omega) only [w32_id]
    rw [codeOf_lt]
    unfold tlQ ltsF
    refine ⟨hh, ?_⟩
    cases hL : ltO (hr tx p) with
    | none =>
      refine ⟨fun _ => ⟨w, rfl, rfl, hF, hT, by rw [hp]; rfl, by rw [List.append_nil]; exact hl⟩, fun h9 => absurd (Int.le_refl 0) h9⟩
    | some l =>
      have hlb := ltO_b hL
      dsimp only
      have hpl := hr_in (c := hr tx p) rfl (by omega)
      refine ⟨fun h9 => absurd h9 (by omega), fun _ => ⟨hT, hh, by omega, ?_⟩⟩
      have := ih (p + 1) (wu (wu w 7 acc.length (l + 1)) 2 6 ((p : Int) + 1)) (acc ++ [l]) (by rw [List.length_append]; show f + (acc.length + 1) ≤ 6; omega) (TC.at (hT.fr rfl rfl rfl) (by omega)) (wu_eq _ _ _ _) ?_ ((hF.tr (Fc.pr (by decide))).tr (Fc.pf (by decide)))
      · rw [List.length_append] at this
        have e : f + (acc.length + [l].length) = f + 1 + acc.length := by show f + (acc.length + 1) = _; omega
        rw [e] at this
        refine Ev.mono this (fun r S2 hq => ?_)
        unfold tlQ at hq
        obtain ⟨w2, e1, e2, e3, e4, e5, e6⟩ := hq
        refine ⟨w2, ?_, e2, e3, e4, ?_, ?_⟩
        · rw [e1]
          simp only [List.length_append, List.length_cons, List.length_nil]
          congr 3
          omega
        · rw [e5, List.length_cons]
          congr 1
          omega
        · rw [List.append_assoc] at e6
          exact e6
      · intro i hi
        rw [List.length_append] at hi
        have hi : i < acc.length + 1 := hi
        rw [wu_na _ _ (by decide)]
        by_cases h9 : i = acc.length
        · subst h9
          rw [wu_eq, gD_last]
        · rw [wu_nk _ _ h9, gD_app (by omega)]
          exact hl i (by omega)
theorem c_tl7 {d p : Nat} {w : eW} {t : eT} {tx : List Int} {mo : Nat} (hT : TC w tx) (hp : w 2 6 = (p : Int)) (hm : mo ≤ 6) : Cl (d + 2) 89 [rA 2, rA 7, (0, (mo : Int))] (enc w t) (tlQ tx w t 7 mo p []) := by
  refine g_tl7 (tx := tx) ?_
  exact tl_loop7 mo p w [] hm hT hp (fun i hi => absurd hi (Nat.not_lt_zero i)) (Fc.rf _ _ _)

