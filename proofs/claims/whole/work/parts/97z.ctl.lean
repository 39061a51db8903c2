/-! The class: tryLetters, seekDoubles. -/

theorem g_tl0 {d : Nat} {Q : Option aV → aS → Prop} {w : eW} {t : eT} {n l : Int} {m : eW} (h : ((w32 l ≤ w32 (n + 1) → Cl (d) 29 [rA 28, (0, n)] (enc w t) (fun r S2 => (∀ x, r ≠ some (6, x)) ∧ Ev (d + 1) 28 Q 19 [rA 28, (0, n), (0, l), (9, 0), (9, 0)] (r.toList ++ []) S2)) ∧ (¬ (w32 l ≤ w32 (n + 1)) → ((w32 (n + 1) < w32 4 → Cl (d) 30 [rA 28, (0, n)] (enc w t) (fun r S2 => (∀ x, r ≠ some (6, x)) ∧ Ev (d + 1) 28 Q 25 [rA 28, (0, n), (0, l), (9, 0), (9, 0)] (r.toList ++ []) S2)) ∧ (¬ (w32 (n + 1) < w32 4) → Cl (d) 29 [rA 28, (0, n)] (enc w t) (fun r S2 => (∀ x, r ≠ some (6, x)) ∧ Ev (d + 1) 28 Q 19 [rA 28, (0, n), (0, l), (9, 0), (9, 0)] (r.toList ++ []) S2)))))) : Cl (d + 1) 28 [rA 28, (0, n), (0, l)] (enc w t) Q := by
  show Ev (d + 1) 28 Q 0 [rA 28, (0, n), (0, l), (9, 0), (9, 0)] [] (enc w t)
  refine e_ldi (show am_cd 28 0 = (2, 1, 1, 0, []) by decide +kernel) rfl ?_
  refine e_ic (show am_cd 28 1 = (0, 2, 0, 1, []) by decide +kernel) ?_
  refine e_iadd (show am_cd 28 2 = (5, 3, 0, 0, []) by decide +kernel) ?_
  refine e_ldi (show am_cd 28 3 = (2, 4, 2, 0, []) by decide +kernel) rfl ?_
  refine e_cmp3 (show am_cd 28 4 = (11, 7, 14, 3, []) by decide +kernel) (fun hc => ?_) (fun hc => ?_)
  · replace h := h.1 hc
    refine e_lda (v := 28) (show am_cd 28 14 = (2, 15, 0, 2, []) by decide +kernel) rfl ?_
    refine e_ldi (show am_cd 28 15 = (2, 16, 1, 0, []) by decide +kernel) rfl ?_
    refine e_cV (z := 0) (a := 28) (as := [(0, n)]) (rest := []) (show am_cd 28 16 = (40, 19, 29, 0, [88]) by decide +kernel) (by decide +kernel) rfl rfl (Nat.le_of_ble_eq_true rfl) rfl ?_
    exact h
  · replace h := h.2 hc
    refine e_ldi (show am_cd 28 7 = (2, 8, 1, 0, []) by decide +kernel) rfl ?_
    refine e_ic (show am_cd 28 8 = (0, 9, 0, 1, []) by decide +kernel) ?_
    refine e_iadd (show am_cd 28 9 = (5, 10, 0, 0, []) by decide +kernel) ?_
    refine e_ic (show am_cd 28 10 = (0, 11, 0, 4, []) by decide +kernel) ?_
    refine e_cmp2 (show am_cd 28 11 = (11, 14, 20, 2, []) by decide +kernel) (fun hc => ?_) (fun hc => ?_)
    · replace h := h.1 hc
      refine e_lda (v := 28) (show am_cd 28 20 = (2, 21, 0, 2, []) by decide +kernel) rfl ?_
      refine e_ldi (show am_cd 28 21 = (2, 22, 1, 0, []) by decide +kernel) rfl ?_
      refine e_cV (z := 0) (a := 28) (as := [(0, n)]) (rest := []) (show am_cd 28 22 = (40, 25, 30, 0, [92]) by decide +kernel) (by decide +kernel) rfl rfl (Nat.le_of_ble_eq_true rfl) rfl ?_
      exact h
    · replace h := h.2 hc
      refine e_lda (v := 28) (show am_cd 28 14 = (2, 15, 0, 2, []) by decide +kernel) rfl ?_
      refine e_ldi (show am_cd 28 15 = (2, 16, 1, 0, []) by decide +kernel) rfl ?_
      refine e_cV (z := 0) (a := 28) (as := [(0, n)]) (rest := []) (show am_cd 28 16 = (40, 19, 29, 0, [88]) by decide +kernel) (by decide +kernel) rfl rfl (Nat.le_of_ble_eq_true rfl) rfl ?_
      exact h

theorem g_tl1 {d : Nat} {Q : Option aV → aS → Prop} {w : eW} {t : eT} {n l y c : Int} {m : eW} (h : ((w32 28 ≤ w32 c → Q none (enc w t)) ∧ (¬ (w32 28 ≤ w32 c) → ((w32 (iand (ishr y c) 1) = 0 → Ev (d + 1) 28 Q 29 [rA 28, (0, n), (0, l), (0, y), (0, c + 1)] [] (enc w t)) ∧ (¬ (w32 (iand (ishr y c) 1) = 0) → Cl (d) 31 [rA 28, (0, n), (0, c)] (enc w t) (fun r S2 => (∀ x, r ≠ some (6, x)) ∧ Ev (d + 1) 28 Q 52 [rA 28, (0, n), (0, l), (0, y), (0, c)] (r.toList ++ []) S2)))))) : Ev (d + 1) 28 Q 29 [rA 28, (0, n), (0, l), (0, y), (0, c)] [] (enc w t) := by
  refine e_ldi (show am_cd 28 29 = (2, 31, 4, 0, []) by decide +kernel) rfl ?_
  refine e_ic (show am_cd 28 31 = (0, 33, 1, 28, []) by decide +kernel) ?_
  refine e_cmp3 (show am_cd 28 33 = (11, 36, 66, 3, []) by decide +kernel) (fun hc => ?_) (fun hc => ?_)
  · replace h := h.1 hc
    exact e_retv (show am_cd 28 66 = (36, 67, 3, 0, []) by decide +kernel) (by decide +kernel) h
  · replace h := h.2 hc
    refine e_ldi (show am_cd 28 36 = (2, 37, 3, 0, []) by decide +kernel) rfl ?_
    refine e_ldi (show am_cd 28 37 = (2, 39, 4, 0, []) by decide +kernel) rfl ?_
    refine e_ishr (show am_cd 28 39 = (5, 40, 7, 0, []) by decide +kernel) ?_
    refine e_ic (show am_cd 28 40 = (0, 41, 0, 1, []) by decide +kernel) ?_
    refine e_iand (show am_cd 28 41 = (5, 42, 3, 0, []) by decide +kernel) ?_
    refine e_if0 (show am_cd 28 42 = (10, 45, 60, 0, []) by decide +kernel) (fun hc => ?_) (fun hc => ?_)
    · replace h := h.1 hc
      refine e_inc (la2 := [rA 28, (0, n), (0, l), (0, y), (0, c + 1)]) (show am_cd 28 60 = (4, 63, 4, 1, []) by decide +kernel) rfl rfl ?_
      refine e_go (show am_cd 28 63 = (12, 29, 0, 0, []) by decide +kernel) ?_
      exact h
    · replace h := h.2 hc
      refine e_lda (v := 28) (show am_cd 28 45 = (2, 46, 0, 2, []) by decide +kernel) rfl ?_
      refine e_ldi (show am_cd 28 46 = (2, 47, 1, 0, []) by decide +kernel) rfl ?_
      refine e_ldi (show am_cd 28 47 = (2, 49, 4, 0, []) by decide +kernel) rfl ?_
      refine e_cV (z := 0) (a := 28) (as := [(0, n), (0, c)]) (rest := []) (show am_cd 28 49 = (40, 52, 31, 0, [95]) by decide +kernel) (by decide +kernel) rfl rfl (Nat.le_of_ble_eq_true rfl) rfl ?_
      exact h

theorem g_sd {d : Nat} {Q : Option aV → aS → Prop} {w : eW} {t : eT} {l : Int} {m : eW} (h : Cl (d) 28 [rA 28, (0, 0), (0, l)] (enc (wu (wu (wu w 28 9 0) 28 10 0) 35 0 1) t) (fun r S2 => (∀ x, r ≠ some (6, x)) ∧ Ev (d + 1) 27 Q 23 [rA 28, (0, l)] (r.toList ++ []) S2)) : Cl (d + 1) 27 [rA 28, (0, l)] (enc w t) Q := by
  show Ev (d + 1) 27 Q 0 [rA 28, (0, l)] [] (enc w t)
  refine e_lda (v := 28) (show am_cd 27 0 = (2, 1, 0, 2, []) by decide +kernel) rfl ?_
  refine e_ic (show am_cd 27 1 = (0, 2, 0, 0, []) by decide +kernel) ?_
  refine e_putf (a := 28) (show am_cd 27 2 = (19, 5, 309, 0, [78]) by decide +kernel) (by decide +kernel) (by decide +kernel) rfl (fun h9 => absurd h9 (by decide)) (fun h9 => absurd h9 (by decide +kernel)) ?_
  refine e_lda (v := 28) (show am_cd 27 5 = (2, 6, 0, 2, []) by decide +kernel) rfl ?_
  refine e_ic (show am_cd 27 6 = (0, 7, 0, 0, []) by decide +kernel) ?_
  refine e_putf (a := 28) (show am_cd 27 7 = (19, 10, 310, 0, [81]) by decide +kernel) (by decide +kernel) (by decide +kernel) rfl (fun h9 => absurd h9 (by decide)) (fun h9 => absurd h9 (by decide +kernel)) ?_
  refine e_lda (v := 28) (show am_cd 27 10 = (2, 11, 0, 2, []) by decide +kernel) rfl ?_
  refine e_getr (a := 28) (r := 35) (show am_cd 27 11 = (18, 14, 306, 2, [31]) by decide +kernel) (by decide +kernel) (by decide +kernel) rfl ?_
  refine e_ic (show am_cd 27 14 = (0, 15, 0, 0, []) by decide +kernel) ?_
  refine e_ic (show am_cd 27 15 = (0, 16, 0, 1, []) by decide +kernel) ?_
  refine e_iastK (a := 35) (n := 16) (j := 0) (show am_cd 27 16 = (24, 17, 0, 0, []) by decide +kernel) (by decide +kernel) (by decide +kernel) (by decide +kernel) (by decide +kernel) (by decide +kernel) ?_
  refine e_lda (v := 28) (show am_cd 27 17 = (2, 18, 0, 2, []) by decide +kernel) rfl ?_
  refine e_ic (show am_cd 27 18 = (0, 19, 0, 0, []) by decide +kernel) ?_
  refine e_ldi (show am_cd 27 19 = (2, 20, 1, 0, []) by decide +kernel) rfl ?_
  refine e_cV (z := 0) (a := 28) (as := [(0, 0), (0, l)]) (rest := []) (show am_cd 27 20 = (40, 23, 28, 0, [84]) by decide +kernel) (by decide +kernel) rfl rfl (Nat.le_of_ble_eq_true rfl) rfl ?_
  exact h

theorem g_ctw {d : Nat} {Q : Option aV → aS → Prop} {w : eW} {t : eT} {n : Int} {m : eW} (h : ((w32 n < w32 1 → Q (some (0, (-1))) (enc w t)) ∧ (¬ (w32 n < w32 1) → ((w32 n ≤ w32 4 → Cl (d) 27 [rA 28, (0, n)] (enc w t) (fun r S2 => (∀ x, r ≠ some (6, x)) ∧ Ev (d + 1) 156 Q 20 [rA 1, (0, n)] (r.toList ++ []) S2)) ∧ (¬ (w32 n ≤ w32 4) → Q (some (0, (-1))) (enc w t)))))) : Cl (d + 1) 156 [rA 1, (0, n)] (enc w t) Q := by
  show Ev (d + 1) 156 Q 0 [rA 1, (0, n)] [] (enc w t)
  refine e_ldi (show am_cd 156 0 = (2, 1, 1, 0, []) by decide +kernel) rfl ?_
  refine e_ic (show am_cd 156 1 = (0, 2, 0, 1, []) by decide +kernel) ?_
  refine e_cmp2 (show am_cd 156 2 = (11, 5, 10, 2, []) by decide +kernel) (fun hc => ?_) (fun hc => ?_)
  · replace h := h.1 hc
    refine e_ic (show am_cd 156 10 = (0, 11, 0, -1, []) by decide +kernel) ?_
    exact e_reti (show am_cd 156 11 = (36, 12, 0, 0, []) by decide +kernel) (by decide +kernel) h
  · replace h := h.2 hc
    refine e_ldi (show am_cd 156 5 = (2, 6, 1, 0, []) by decide +kernel) rfl ?_
    refine e_ic (show am_cd 156 6 = (0, 7, 0, 4, []) by decide +kernel) ?_
    refine e_cmp5 (show am_cd 156 7 = (11, 10, 12, 5, []) by decide +kernel) (fun hc => ?_) (fun hc => ?_)
    · replace h := h.1 hc
      refine e_lda (v := 1) (show am_cd 156 12 = (2, 13, 0, 2, []) by decide +kernel) rfl ?_
      refine e_getr (a := 1) (r := 28) (show am_cd 156 13 = (18, 16, 1103, 2, [33]) by decide +kernel) (by decide +kernel) (by decide +kernel) rfl ?_
      refine e_ldi (show am_cd 156 16 = (2, 17, 1, 0, []) by decide +kernel) rfl ?_
      refine e_cV (z := 0) (a := 28) (as := [(0, n)]) (rest := []) (show am_cd 156 17 = (40, 20, 27, 0, [330]) by decide +kernel) (by decide +kernel) rfl rfl (Nat.le_of_ble_eq_true rfl) rfl ?_
      exact h
    · replace h := h.2 hc
      refine e_ic (show am_cd 156 10 = (0, 11, 0, -1, []) by decide +kernel) ?_
      exact e_reti (show am_cd 156 11 = (36, 12, 0, 0, []) by decide +kernel) (by decide +kernel) h

theorem g_tl2 {d : Nat} {Q : Option aV → aS → Prop} {w : eW} {t : eT} {n l : Int} {m : eW} (h : Q none (enc w t)) : Ev (d + 1) 28 Q 19 [rA 28, (0, n), (0, l), (9, 0), (9, 0)] [] (enc w t) := by
  exact e_retv (show am_cd 28 19 = (36, 20, 3, 0, []) by decide +kernel) (by decide +kernel) h

theorem g_tl3 {d : Nat} {Q : Option aV → aS → Prop} {w : eW} {t : eT} {n l y : Int} {m : eW} (h : Ev (d + 1) 28 Q 29 [rA 28, (0, n), (0, l), (0, y), (0, 1)] [] (enc w t)) : Ev (d + 1) 28 Q 25 [rA 28, (0, n), (0, l), (9, 0), (9, 0)] [(0, y)] (enc w t) := by
  refine e_sti (la2 := [rA 28, (0, n), (0, l), (0, y), (9, 0)]) (show am_cd 28 25 = (3, 26, 3, 0, []) by decide +kernel) rfl ?_
  refine e_ic (show am_cd 28 26 = (0, 27, 0, 1, []) by decide +kernel) ?_
  refine e_sti (la2 := [rA 28, (0, n), (0, l), (0, y), (0, 1)]) (show am_cd 28 27 = (3, 29, 4, 0, []) by decide +kernel) rfl ?_
  exact h

theorem g_tl4 {d : Nat} {Q : Option aV → aS → Prop} {w : eW} {t : eT} {n l y c : Int} {m : eW} (h : Cl (d) 28 [rA 28, (0, n + 1), (0, l)] (enc w t) (fun r S2 => (∀ x, r ≠ some (6, x)) ∧ Ev (d + 1) 28 Q 60 [rA 28, (0, n), (0, l), (0, y), (0, c)] (r.toList ++ []) S2)) : Ev (d + 1) 28 Q 52 [rA 28, (0, n), (0, l), (0, y), (0, c)] [] (enc w t) := by
  refine e_lda (v := 28) (show am_cd 28 52 = (2, 53, 0, 2, []) by decide +kernel) rfl ?_
  refine e_ldi (show am_cd 28 53 = (2, 54, 1, 0, []) by decide +kernel) rfl ?_
  refine e_ic (show am_cd 28 54 = (0, 55, 0, 1, []) by decide +kernel) ?_
  refine e_iadd (show am_cd 28 55 = (5, 56, 0, 0, []) by decide +kernel) ?_
  refine e_ldi (show am_cd 28 56 = (2, 57, 2, 0, []) by decide +kernel) rfl ?_
  refine e_cV (z := 0) (a := 28) (as := [(0, n + 1), (0, l)]) (rest := []) (show am_cd 28 57 = (40, 60, 28, 0, [84]) by decide +kernel) (by decide +kernel) rfl rfl (Nat.le_of_ble_eq_true rfl) rfl ?_
  exact h

theorem g_tl5 {d : Nat} {Q : Option aV → aS → Prop} {w : eW} {t : eT} {n l y c : Int} {m : eW} (h : Ev (d + 1) 28 Q 29 [rA 28, (0, n), (0, l), (0, y), (0, c + 1)] [] (enc w t)) : Ev (d + 1) 28 Q 60 [rA 28, (0, n), (0, l), (0, y), (0, c)] [] (enc w t) := by
  refine e_inc (la2 := [rA 28, (0, n), (0, l), (0, y), (0, c + 1)]) (show am_cd 28 60 = (4, 63, 4, 1, []) by decide +kernel) rfl rfl ?_
  refine e_go (show am_cd 28 63 = (12, 29, 0, 0, []) by decide +kernel) ?_
  exact h

theorem g_sd1 {d : Nat} {Q : Option aV → aS → Prop} {w : eW} {t : eT} {l : Int} {m : eW} (h : Q none (enc w t)) : Ev (d + 1) 27 Q 23 [rA 28, (0, l)] [] (enc w t) := by
  exact e_retv (show am_cd 27 23 = (36, 24, 3, 0, []) by decide +kernel) (by decide +kernel) h

theorem g_ctw1 {d : Nat} {Q : Option aV → aS → Prop} {w : eW} {t : eT} {n : Int} {m : eW} (h : ((0 : Int) ≤ (wu w 1 14 0) 1 14 ∧ (wu w 1 14 0) 1 14 < 24) ∧ (Q (some (0, (tlW (wu w 1 14 0) (w32 (w 28 10))) 28 9)) (enc (tlW (wu w 1 14 0) (w32 (w 28 10))) t))) : Ev (d + 1) 156 Q 20 [rA 1, (0, n)] [] (enc w t) := by
  refine e_lda (v := 1) (show am_cd 156 20 = (2, 21, 0, 2, []) by decide +kernel) rfl ?_
  refine e_ic (show am_cd 156 21 = (0, 22, 0, 0, []) by decide +kernel) ?_
  refine e_putf (a := 1) (show am_cd 156 22 = (19, 25, 1114, 0, [242]) by decide +kernel) (by decide +kernel) (by decide +kernel) rfl (fun h9 => absurd h9 (by decide)) (fun h9 => absurd h9 (by decide +kernel)) ?_
  refine e_lda (v := 1) (show am_cd 156 25 = (2, 26, 0, 2, []) by decide +kernel) rfl ?_
  refine e_lda (v := 1) (show am_cd 156 26 = (2, 27, 0, 2, []) by decide +kernel) rfl ?_
  refine e_getr (a := 1) (r := 28) (show am_cd 156 27 = (18, 30, 1103, 2, [33]) by decide +kernel) (by decide +kernel) (by decide +kernel) rfl ?_
  refine e_getfE (a := 28) (tg := 0) (v := w 28 10) (show am_cd 156 30 = (18, 33, 310, 0, [333]) by decide +kernel) (by decide +kernel) (by decide +kernel) rfl rfl ?_
  refine e_i2l (show am_cd 156 33 = (8, 34, 0, 0, []) by decide +kernel) ?_
  refine e_cV (z := 0) (a := 1) (as := [(1, w32 (w 28 10))]) (rest := []) (show am_cd 156 34 = (40, 37, 137, 0, [245]) by decide +kernel) (by decide +kernel) rfl rfl (Nat.le_of_ble_eq_true rfl) rfl ?_
  refine Cl.mono (Cl.up (c_ctell (d := d) h.1) (by omega)) ?_
  rintro _ _ ⟨rfl, rfl⟩
  refine ⟨fun _ h9 => (by cases h9), ?_⟩
  replace h := h.2
  show Ev _ 156 _ 37 [rA 1, (0, n)] [] _
  refine e_lda (v := 1) (show am_cd 156 37 = (2, 38, 0, 2, []) by decide +kernel) rfl ?_
  refine e_getr (a := 1) (r := 28) (show am_cd 156 38 = (18, 41, 1103, 2, [33]) by decide +kernel) (by decide +kernel) (by decide +kernel) rfl ?_
  refine e_getf (a := 28) (tg := 0) (show am_cd 156 41 = (18, 44, 309, 0, [336]) by decide +kernel) (by decide +kernel) (by decide +kernel) rfl ?_
  exact e_reti (show am_cd 156 44 = (36, 45, 0, 0, []) by decide +kernel) (by decide +kernel) h

