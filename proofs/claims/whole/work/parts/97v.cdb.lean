/-! The class: seekDoubles (leaves). -/

theorem g_whw1 {d : Nat} {Q : Option aV → aS → Prop} {w : eW} {t : eT} {n : Int} {m : eW} (h : Ev (d) 29 Q 4 [rA 28, (0, n), (0, 0), (0, 0)] [] (enc w t)) : Cl (d) 29 [rA 28, (0, n)] (enc w t) Q := by
  show Ev (d) 29 Q 0 [rA 28, (0, n), (9, 0), (9, 0)] [] (enc w t)
  refine e_ic (show am_cd 29 0 = (0, 1, 0, 0, []) by decide +kernel) ?_
  refine e_sti (la2 := [rA 28, (0, n), (0, 0), (9, 0)]) (show am_cd 29 1 = (3, 2, 2, 0, []) by decide +kernel) rfl ?_
  refine e_ic (show am_cd 29 2 = (0, 3, 0, 0, []) by decide +kernel) ?_
  refine e_sti (la2 := [rA 28, (0, n), (0, 0), (0, 0)]) (show am_cd 29 3 = (3, 4, 3, 0, []) by decide +kernel) rfl ?_
  exact h

theorem g_whw2 {d : Nat} {Q : Option aV → aS → Prop} {w : eW} {t : eT} {n y e : Int} {m : eW} (h : ((w32 (w 28 8) ≤ w32 e → ((w32 y < w32 2 → Q none (enc w t)) ∧ (¬ (w32 y < w32 2) → ((¬ w32 (w 28 9) = 0 → Q none (enc (wu w 28 9 ((w 28 9) + 1)) t)) ∧ (¬ (¬ w32 (w 28 9) = 0) → Q none (enc (wu (wu w 28 10 y) 28 9 ((w 28 9) + 1)) t)))))) ∧ (¬ (w32 (w 28 8) ≤ w32 e) → (0 ≤ w32 e ∧ w32 e < 16) ∧ ((¬ w32 (w 30 (w32 e).toNat) = w32 (-1) → Ev (d) 29 Q 4 [rA 28, (0, n), (0, y), (0, e + 1)] [] (enc w t)) ∧ (¬ (¬ w32 (w 30 (w32 e).toNat) = w32 (-1)) → (0 ≤ w32 e ∧ w32 e < 16) ∧ (0 ≤ w32 ((((n * 80) + (e * 5)) + (w 31 (w32 e).toNat)) - 1) ∧ w32 ((((n * 80) + (e * 5)) + (w 31 (w32 e).toNat)) - 1) < 400) ∧ (Ev (d) 29 Q 4 [rA 28, (0, n), (0, y + (w 34 (w32 ((((n * 80) + (e * 5)) + (w 31 (w32 e).toNat)) - 1)).toNat)), (0, e + 1)] [] (enc w t))))))) : Ev (d) 29 Q 4 [rA 28, (0, n), (0, y), (0, e)] [] (enc w t) := by
  refine e_ldi (show am_cd 29 4 = (2, 5, 3, 0, []) by decide +kernel) rfl ?_
  refine e_lda (v := 28) (show am_cd 29 5 = (2, 6, 0, 2, []) by decide +kernel) rfl ?_
  refine e_getf (a := 28) (tg := 0) (show am_cd 29 6 = (18, 9, 308, 0, [37]) by decide +kernel) (by decide +kernel) (by decide +kernel) rfl ?_
  refine e_cmp3 (show am_cd 29 9 = (11, 12, 53, 3, []) by decide +kernel) (fun hc => ?_) (fun hc => ?_)
  · replace h := h.1 hc
    refine e_ldi (show am_cd 29 53 = (2, 54, 2, 0, []) by decide +kernel) rfl ?_
    refine e_ic (show am_cd 29 54 = (0, 55, 0, 2, []) by decide +kernel) ?_
    refine e_cmp2 (show am_cd 29 55 = (11, 58, 80, 2, []) by decide +kernel) (fun hc => ?_) (fun hc => ?_)
    · replace h := h.1 hc
      exact e_retv (show am_cd 29 80 = (36, 81, 3, 0, []) by decide +kernel) (by decide +kernel) h
    · replace h := h.2 hc
      refine e_lda (v := 28) (show am_cd 29 58 = (2, 59, 0, 2, []) by decide +kernel) rfl ?_
      refine e_getf (a := 28) (tg := 0) (show am_cd 29 59 = (18, 62, 309, 0, [75]) by decide +kernel) (by decide +kernel) (by decide +kernel) rfl ?_
      refine e_if1 (show am_cd 29 62 = (10, 65, 70, 1, []) by decide +kernel) (fun hc => ?_) (fun hc => ?_)
      · replace h := h.1 hc
        refine e_lda (v := 28) (show am_cd 29 70 = (2, 71, 0, 2, []) by decide +kernel) rfl ?_
        refine e_dup (show am_cd 29 71 = (13, 72, 0, 0, []) by decide +kernel) (by decide) ?_
        refine e_getf (a := 28) (tg := 0) (show am_cd 29 72 = (18, 75, 309, 0, [75]) by decide +kernel) (by decide +kernel) (by decide +kernel) rfl ?_
        refine e_ic (show am_cd 29 75 = (0, 76, 0, 1, []) by decide +kernel) ?_
        refine e_iadd (show am_cd 29 76 = (5, 77, 0, 0, []) by decide +kernel) ?_
        refine e_putf (a := 28) (show am_cd 29 77 = (19, 80, 309, 0, [75]) by decide +kernel) (by decide +kernel) (by decide +kernel) rfl (fun h9 => absurd h9 (by decide)) (fun h9 => absurd h9 (by decide +kernel)) ?_
        exact e_retv (show am_cd 29 80 = (36, 81, 3, 0, []) by decide +kernel) (by decide +kernel) h
      · replace h := h.2 hc
        refine e_lda (v := 28) (show am_cd 29 65 = (2, 66, 0, 2, []) by decide +kernel) rfl ?_
        refine e_ldi (show am_cd 29 66 = (2, 67, 2, 0, []) by decide +kernel) rfl ?_
        refine e_putf (a := 28) (show am_cd 29 67 = (19, 70, 310, 0, [78]) by decide +kernel) (by decide +kernel) (by decide +kernel) rfl (fun h9 => absurd h9 (by decide)) (fun h9 => absurd h9 (by decide +kernel)) ?_
        refine e_lda (v := 28) (show am_cd 29 70 = (2, 71, 0, 2, []) by decide +kernel) rfl ?_
        refine e_dup (show am_cd 29 71 = (13, 72, 0, 0, []) by decide +kernel) (by decide) ?_
        refine e_getfE (a := 28) (tg := 0) (v := w 28 9) (show am_cd 29 72 = (18, 75, 309, 0, [75]) by decide +kernel) (by decide +kernel) (by decide +kernel) rfl rfl ?_
        refine e_ic (show am_cd 29 75 = (0, 76, 0, 1, []) by decide +kernel) ?_
        refine e_iadd (show am_cd 29 76 = (5, 77, 0, 0, []) by decide +kernel) ?_
        refine e_putf (a := 28) (show am_cd 29 77 = (19, 80, 309, 0, [75]) by decide +kernel) (by decide +kernel) (by decide +kernel) rfl (fun h9 => absurd h9 (by decide)) (fun h9 => absurd h9 (by decide +kernel)) ?_
        exact e_retv (show am_cd 29 80 = (36, 81, 3, 0, []) by decide +kernel) (by decide +kernel) h
  · replace h := h.2 hc
    refine e_lda (v := 28) (show am_cd 29 12 = (2, 13, 0, 2, []) by decide +kernel) rfl ?_
    refine e_getr (a := 28) (r := 30) (show am_cd 29 13 = (18, 16, 301, 2, [15]) by decide +kernel) (by decide +kernel) (by decide +kernel) rfl ?_
    refine e_ldi (show am_cd 29 16 = (2, 17, 3, 0, []) by decide +kernel) rfl ?_
    refine e_iald (a := 30) (n := 16) (show am_cd 29 17 = (21, 18, 0, 0, []) by decide +kernel) (by decide +kernel) (by decide +kernel) (by decide +kernel) h.1 ?_
    replace h := h.2
    refine e_ic (show am_cd 29 18 = (0, 19, 0, -1, []) by decide +kernel) ?_
    refine e_cmp1 (show am_cd 29 19 = (11, 22, 47, 1, []) by decide +kernel) (fun hc => ?_) (fun hc => ?_)
    · replace h := h.1 hc
      refine e_inc (la2 := [rA 28, (0, n), (0, y), (0, e + 1)]) (show am_cd 29 47 = (4, 50, 3, 1, []) by decide +kernel) rfl rfl ?_
      refine e_go (show am_cd 29 50 = (12, 4, 0, 0, []) by decide +kernel) ?_
      exact h
    · replace h := h.2 hc
      refine e_ldi (show am_cd 29 22 = (2, 23, 2, 0, []) by decide +kernel) rfl ?_
      refine e_lda (v := 28) (show am_cd 29 23 = (2, 24, 0, 2, []) by decide +kernel) rfl ?_
      refine e_getr (a := 28) (r := 34) (show am_cd 29 24 = (18, 27, 305, 2, [28]) by decide +kernel) (by decide +kernel) (by decide +kernel) rfl ?_
      refine e_ldi (show am_cd 29 27 = (2, 28, 1, 0, []) by decide +kernel) rfl ?_
      refine e_ic (show am_cd 29 28 = (0, 30, 1, 80, []) by decide +kernel) ?_
      refine e_imul (show am_cd 29 30 = (5, 31, 2, 0, []) by decide +kernel) ?_
      refine e_ldi (show am_cd 29 31 = (2, 32, 3, 0, []) by decide +kernel) rfl ?_
      refine e_ic (show am_cd 29 32 = (0, 33, 0, 5, []) by decide +kernel) ?_
      refine e_imul (show am_cd 29 33 = (5, 34, 2, 0, []) by decide +kernel) ?_
      refine e_iadd (show am_cd 29 34 = (5, 35, 0, 0, []) by decide +kernel) ?_
      refine e_lda (v := 28) (show am_cd 29 35 = (2, 36, 0, 2, []) by decide +kernel) rfl ?_
      refine e_getr (a := 28) (r := 31) (show am_cd 29 36 = (18, 39, 302, 2, [18]) by decide +kernel) (by decide +kernel) (by decide +kernel) rfl ?_
      refine e_ldi (show am_cd 29 39 = (2, 40, 3, 0, []) by decide +kernel) rfl ?_
      refine e_iald (a := 31) (n := 16) (show am_cd 29 40 = (21, 41, 0, 0, []) by decide +kernel) (by decide +kernel) (by decide +kernel) (by decide +kernel) h.1 ?_
      replace h := h.2
      refine e_iadd (show am_cd 29 41 = (5, 42, 0, 0, []) by decide +kernel) ?_
      refine e_ic (show am_cd 29 42 = (0, 43, 0, 1, []) by decide +kernel) ?_
      refine e_isub (show am_cd 29 43 = (5, 44, 1, 0, []) by decide +kernel) ?_
      refine e_iald (a := 34) (n := 400) (show am_cd 29 44 = (21, 45, 0, 0, []) by decide +kernel) (by decide +kernel) (by decide +kernel) (by decide +kernel) h.1 ?_
      replace h := h.2
      refine e_iadd (show am_cd 29 45 = (5, 46, 0, 0, []) by decide +kernel) ?_
      refine e_sti (la2 := [rA 28, (0, n), (0, y + (w 34 (w32 ((((n * 80) + (e * 5)) + (w 31 (w32 e).toNat)) - 1)).toNat)), (0, e)]) (show am_cd 29 46 = (3, 47, 2, 0, []) by decide +kernel) rfl ?_
      refine e_inc (la2 := [rA 28, (0, n), (0, y + (w 34 (w32 ((((n * 80) + (e * 5)) + (w 31 (w32 e).toNat)) - 1)).toNat)), (0, e + 1)]) (show am_cd 29 47 = (4, 50, 3, 1, []) by decide +kernel) rfl rfl ?_
      refine e_go (show am_cd 29 50 = (12, 4, 0, 0, []) by decide +kernel) ?_
      exact h

theorem g_lb1 {d : Nat} {Q : Option aV → aS → Prop} {w : eW} {t : eT} {n : Int} {m : eW} (h : Ev (d) 30 Q 4 [rA 28, (0, n), (0, 0), (0, 0), (9, 0)] [] (enc w t)) : Cl (d) 30 [rA 28, (0, n)] (enc w t) Q := by
  show Ev (d) 30 Q 0 [rA 28, (0, n), (9, 0), (9, 0), (9, 0)] [] (enc w t)
  refine e_ic (show am_cd 30 0 = (0, 1, 0, 0, []) by decide +kernel) ?_
  refine e_sti (la2 := [rA 28, (0, n), (0, 0), (9, 0), (9, 0)]) (show am_cd 30 1 = (3, 2, 2, 0, []) by decide +kernel) rfl ?_
  refine e_ic (show am_cd 30 2 = (0, 3, 0, 0, []) by decide +kernel) ?_
  refine e_sti (la2 := [rA 28, (0, n), (0, 0), (0, 0), (9, 0)]) (show am_cd 30 3 = (3, 4, 3, 0, []) by decide +kernel) rfl ?_
  exact h

theorem g_lb2 {d : Nat} {Q : Option aV → aS → Prop} {w : eW} {t : eT} {n y e : Int} {m : eW} {Jn : aV} (h : ((w32 (w 28 8) ≤ w32 e → Q (some (0, y)) (enc w t)) ∧ (¬ (w32 (w 28 8) ≤ w32 e) → (0 ≤ w32 e ∧ w32 e < 16) ∧ (0 ≤ w32 ((n * 4) + (w 29 (w32 e).toNat)) ∧ w32 ((n * 4) + (w 29 (w32 e).toNat)) < 20) ∧ ((w32 (w 35 (w32 ((n * 4) + (w 29 (w32 e).toNat))).toNat) ≤ 0 → Ev (d) 30 Q 46 [rA 28, (0, n), (0, y), (0, e), (0, 1)] [] (enc w t)) ∧ (¬ (w32 (w 35 (w32 ((n * 4) + (w 29 (w32 e).toNat))).toNat) ≤ 0) → (0 ≤ w32 (e * 5) ∧ w32 (e * 5) < 80) ∧ (Ev (d) 30 Q 46 [rA 28, (0, n), (0, ior y (ishl 1 (w 32 (w32 (e * 5)).toNat))), (0, e), (0, 1)] [] (enc w t))))))) : Ev (d) 30 Q 4 [rA 28, (0, n), (0, y), (0, e), Jn] [] (enc w t) := by
  refine e_ldi (show am_cd 30 4 = (2, 5, 3, 0, []) by decide +kernel) rfl ?_
  refine e_lda (v := 28) (show am_cd 30 5 = (2, 6, 0, 2, []) by decide +kernel) rfl ?_
  refine e_getf (a := 28) (tg := 0) (show am_cd 30 6 = (18, 9, 308, 0, [40]) by decide +kernel) (by decide +kernel) (by decide +kernel) rfl ?_
  refine e_cmp3 (show am_cd 30 9 = (11, 12, 106, 3, []) by decide +kernel) (fun hc => ?_) (fun hc => ?_)
  · replace h := h.1 hc
    refine e_ldi (show am_cd 30 106 = (2, 107, 2, 0, []) by decide +kernel) rfl ?_
    exact e_reti (show am_cd 30 107 = (36, 108, 0, 0, []) by decide +kernel) (by decide +kernel) h
  · replace h := h.2 hc
    refine e_lda (v := 28) (show am_cd 30 12 = (2, 13, 0, 2, []) by decide +kernel) rfl ?_
    refine e_getr (a := 28) (r := 35) (show am_cd 30 13 = (18, 16, 306, 2, [31]) by decide +kernel) (by decide +kernel) (by decide +kernel) rfl ?_
    refine e_ldi (show am_cd 30 16 = (2, 17, 1, 0, []) by decide +kernel) rfl ?_
    refine e_ic (show am_cd 30 17 = (0, 18, 0, 4, []) by decide +kernel) ?_
    refine e_imul (show am_cd 30 18 = (5, 19, 2, 0, []) by decide +kernel) ?_
    refine e_lda (v := 28) (show am_cd 30 19 = (2, 20, 0, 2, []) by decide +kernel) rfl ?_
    refine e_getr (a := 28) (r := 29) (show am_cd 30 20 = (18, 23, 300, 2, [9]) by decide +kernel) (by decide +kernel) (by decide +kernel) rfl ?_
    refine e_ldi (show am_cd 30 23 = (2, 24, 3, 0, []) by decide +kernel) rfl ?_
    refine e_iald (a := 29) (n := 16) (show am_cd 30 24 = (21, 25, 0, 0, []) by decide +kernel) (by decide +kernel) (by decide +kernel) (by decide +kernel) h.1 ?_
    replace h := h.2
    refine e_iadd (show am_cd 30 25 = (5, 26, 0, 0, []) by decide +kernel) ?_
    refine e_iald (a := 35) (n := 20) (show am_cd 30 26 = (21, 27, 0, 0, []) by decide +kernel) (by decide +kernel) (by decide +kernel) (by decide +kernel) h.1 ?_
    replace h := h.2
    refine e_if5 (show am_cd 30 27 = (10, 30, 43, 5, []) by decide +kernel) (fun hc => ?_) (fun hc => ?_)
    · replace h := h.1 hc
      refine e_ic (show am_cd 30 43 = (0, 44, 0, 1, []) by decide +kernel) ?_
      refine e_sti (la2 := [rA 28, (0, n), (0, y), (0, e), (0, 1)]) (show am_cd 30 44 = (3, 46, 4, 0, []) by decide +kernel) rfl ?_
      exact h
    · replace h := h.2 hc
      refine e_ldi (show am_cd 30 30 = (2, 31, 2, 0, []) by decide +kernel) rfl ?_
      refine e_ic (show am_cd 30 31 = (0, 32, 0, 1, []) by decide +kernel) ?_
      refine e_lda (v := 28) (show am_cd 30 32 = (2, 33, 0, 2, []) by decide +kernel) rfl ?_
      refine e_getr (a := 28) (r := 32) (show am_cd 30 33 = (18, 36, 303, 2, [21]) by decide +kernel) (by decide +kernel) (by decide +kernel) rfl ?_
      refine e_ldi (show am_cd 30 36 = (2, 37, 3, 0, []) by decide +kernel) rfl ?_
      refine e_ic (show am_cd 30 37 = (0, 38, 0, 5, []) by decide +kernel) ?_
      refine e_imul (show am_cd 30 38 = (5, 39, 2, 0, []) by decide +kernel) ?_
      refine e_iald (a := 32) (n := 80) (show am_cd 30 39 = (21, 40, 0, 0, []) by decide +kernel) (by decide +kernel) (by decide +kernel) (by decide +kernel) h.1 ?_
      replace h := h.2
      refine e_ishl (show am_cd 30 40 = (5, 41, 6, 0, []) by decide +kernel) ?_
      refine e_ior (show am_cd 30 41 = (5, 42, 4, 0, []) by decide +kernel) ?_
      refine e_sti (la2 := [rA 28, (0, n), (0, ior y (ishl 1 (w 32 (w32 (e * 5)).toNat))), (0, e), Jn]) (show am_cd 30 42 = (3, 43, 2, 0, []) by decide +kernel) rfl ?_
      refine e_ic (show am_cd 30 43 = (0, 44, 0, 1, []) by decide +kernel) ?_
      refine e_sti (la2 := [rA 28, (0, n), (0, ior y (ishl 1 (w 32 (w32 (e * 5)).toNat))), (0, e), (0, 1)]) (show am_cd 30 44 = (3, 46, 4, 0, []) by decide +kernel) rfl ?_
      exact h

theorem g_lb3 {d : Nat} {Q : Option aV → aS → Prop} {w : eW} {t : eT} {n y e k : Int} {m : eW} (h : (0 ≤ w32 e ∧ w32 e < 16) ∧ ((w32 (w 31 (w32 e).toNat) ≤ w32 k → Ev (d) 30 Q 4 [rA 28, (0, n), (0, y), (0, e + 1), (0, k)] [] (enc w t)) ∧ (¬ (w32 (w 31 (w32 e).toNat) ≤ w32 k) → (0 ≤ w32 ((((n * 80) + (e * 5)) + k) - 1) ∧ w32 ((((n * 80) + (e * 5)) + k) - 1) < 400) ∧ ((w32 (w 34 (w32 ((((n * 80) + (e * 5)) + k) - 1)).toNat) ≤ 0 → Ev (d) 30 Q 46 [rA 28, (0, n), (0, y), (0, e), (0, k + 1)] [] (enc w t)) ∧ (¬ (w32 (w 34 (w32 ((((n * 80) + (e * 5)) + k) - 1)).toNat) ≤ 0) → (0 ≤ w32 ((e * 5) + k) ∧ w32 ((e * 5) + k) < 80) ∧ (Ev (d) 30 Q 46 [rA 28, (0, n), (0, ior y (ishl 1 (w 32 (w32 ((e * 5) + k)).toNat))), (0, e), (0, k + 1)] [] (enc w t))))))) : Ev (d) 30 Q 46 [rA 28, (0, n), (0, y), (0, e), (0, k)] [] (enc w t) := by
  refine e_ldi (show am_cd 30 46 = (2, 48, 4, 0, []) by decide +kernel) rfl ?_
  refine e_lda (v := 28) (show am_cd 30 48 = (2, 49, 0, 2, []) by decide +kernel) rfl ?_
  refine e_getr (a := 28) (r := 31) (show am_cd 30 49 = (18, 52, 302, 2, [18]) by decide +kernel) (by decide +kernel) (by decide +kernel) rfl ?_
  refine e_ldi (show am_cd 30 52 = (2, 53, 3, 0, []) by decide +kernel) rfl ?_
  refine e_iald (a := 31) (n := 16) (show am_cd 30 53 = (21, 54, 0, 0, []) by decide +kernel) (by decide +kernel) (by decide +kernel) (by decide +kernel) h.1 ?_
  replace h := h.2
  refine e_cmp3 (show am_cd 30 54 = (11, 57, 100, 3, []) by decide +kernel) (fun hc => ?_) (fun hc => ?_)
  · replace h := h.1 hc
    refine e_inc (la2 := [rA 28, (0, n), (0, y), (0, e + 1), (0, k)]) (show am_cd 30 100 = (4, 103, 3, 1, []) by decide +kernel) rfl rfl ?_
    refine e_go (show am_cd 30 103 = (12, 4, 0, 0, []) by decide +kernel) ?_
    exact h
  · replace h := h.2 hc
    refine e_lda (v := 28) (show am_cd 30 57 = (2, 58, 0, 2, []) by decide +kernel) rfl ?_
    refine e_getr (a := 28) (r := 34) (show am_cd 30 58 = (18, 61, 305, 2, [28]) by decide +kernel) (by decide +kernel) (by decide +kernel) rfl ?_
    refine e_ldi (show am_cd 30 61 = (2, 62, 1, 0, []) by decide +kernel) rfl ?_
    refine e_ic (show am_cd 30 62 = (0, 64, 1, 80, []) by decide +kernel) ?_
    refine e_imul (show am_cd 30 64 = (5, 65, 2, 0, []) by decide +kernel) ?_
    refine e_ldi (show am_cd 30 65 = (2, 66, 3, 0, []) by decide +kernel) rfl ?_
    refine e_ic (show am_cd 30 66 = (0, 67, 0, 5, []) by decide +kernel) ?_
    refine e_imul (show am_cd 30 67 = (5, 68, 2, 0, []) by decide +kernel) ?_
    refine e_iadd (show am_cd 30 68 = (5, 69, 0, 0, []) by decide +kernel) ?_
    refine e_ldi (show am_cd 30 69 = (2, 71, 4, 0, []) by decide +kernel) rfl ?_
    refine e_iadd (show am_cd 30 71 = (5, 72, 0, 0, []) by decide +kernel) ?_
    refine e_ic (show am_cd 30 72 = (0, 73, 0, 1, []) by decide +kernel) ?_
    refine e_isub (show am_cd 30 73 = (5, 74, 1, 0, []) by decide +kernel) ?_
    refine e_iald (a := 34) (n := 400) (show am_cd 30 74 = (21, 75, 0, 0, []) by decide +kernel) (by decide +kernel) (by decide +kernel) (by decide +kernel) h.1 ?_
    replace h := h.2
    refine e_if5 (show am_cd 30 75 = (10, 78, 94, 5, []) by decide +kernel) (fun hc => ?_) (fun hc => ?_)
    · replace h := h.1 hc
      refine e_inc (la2 := [rA 28, (0, n), (0, y), (0, e), (0, k + 1)]) (show am_cd 30 94 = (4, 97, 4, 1, []) by decide +kernel) rfl rfl ?_
      refine e_go (show am_cd 30 97 = (12, 46, 0, 0, []) by decide +kernel) ?_
      exact h
    · replace h := h.2 hc
      refine e_ldi (show am_cd 30 78 = (2, 79, 2, 0, []) by decide +kernel) rfl ?_
      refine e_ic (show am_cd 30 79 = (0, 80, 0, 1, []) by decide +kernel) ?_
      refine e_lda (v := 28) (show am_cd 30 80 = (2, 81, 0, 2, []) by decide +kernel) rfl ?_
      refine e_getr (a := 28) (r := 32) (show am_cd 30 81 = (18, 84, 303, 2, [21]) by decide +kernel) (by decide +kernel) (by decide +kernel) rfl ?_
      refine e_ldi (show am_cd 30 84 = (2, 85, 3, 0, []) by decide +kernel) rfl ?_
      refine e_ic (show am_cd 30 85 = (0, 86, 0, 5, []) by decide +kernel) ?_
      refine e_imul (show am_cd 30 86 = (5, 87, 2, 0, []) by decide +kernel) ?_
      refine e_ldi (show am_cd 30 87 = (2, 89, 4, 0, []) by decide +kernel) rfl ?_
      refine e_iadd (show am_cd 30 89 = (5, 90, 0, 0, []) by decide +kernel) ?_
      refine e_iald (a := 32) (n := 80) (show am_cd 30 90 = (21, 91, 0, 0, []) by decide +kernel) (by decide +kernel) (by decide +kernel) (by decide +kernel) h.1 ?_
      replace h := h.2
      refine e_ishl (show am_cd 30 91 = (5, 92, 6, 0, []) by decide +kernel) ?_
      refine e_ior (show am_cd 30 92 = (5, 93, 4, 0, []) by decide +kernel) ?_
      refine e_sti (la2 := [rA 28, (0, n), (0, ior y (ishl 1 (w 32 (w32 ((e * 5) + k)).toNat))), (0, e), (0, k)]) (show am_cd 30 93 = (3, 94, 2, 0, []) by decide +kernel) rfl ?_
      refine e_inc (la2 := [rA 28, (0, n), (0, ior y (ishl 1 (w 32 (w32 ((e * 5) + k)).toNat))), (0, e), (0, k + 1)]) (show am_cd 30 94 = (4, 97, 4, 1, []) by decide +kernel) rfl rfl ?_
      refine e_go (show am_cd 30 97 = (12, 46, 0, 0, []) by decide +kernel) ?_
      exact h

