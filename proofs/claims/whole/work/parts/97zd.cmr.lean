/-! The class: makeRoom. -/

theorem g_mr0 {d : Nat} {Q : Option aV → aS → Prop} {w : eW} {t : eT} (h : (dyK t (w 37 1) 20 ∨ dyK t (w 37 1) 21) ∧ ((w32 (dyL t (w 37 1) : Int) ≤ w32 (w 37 7) → (dyK t (w 37 1) 20 ∨ dyK t (w 37 1) 21) ∧ (0 ≤ w 37 1) ∧ (Cl (d + 1) 271 [(2, w 37 1), (0, if w32 4369 < w32 (2 * (dyL t (w 37 1) : Int)) then 4369 else (2 * (dyL t (w 37 1) : Int)))] (enc w t) (fun r S2 => (∀ x, r ≠ some (6, x)) ∧ Ev (d + 2) 35 Q 36 [rA 37, (0, if w32 4369 < w32 (2 * (dyL t (w 37 1) : Int)) then 4369 else (2 * (dyL t (w 37 1) : Int)))] (r.toList ++ [rA 37]) S2))) ∧ (¬ (w32 (dyL t (w 37 1) : Int) ≤ w32 (w 37 7)) → Q none (enc w t)))) : Cl (d + 2) 35 [rA 37] (enc w t) Q := by
  show Ev (d + 2) 35 Q 0 [rA 37, (9, 0)] [] (enc w t)
  refine e_lda (v := 37) (show am_cd 35 0 = (2, 1, 0, 2, []) by decide +kernel) rfl ?_
  refine e_getf (a := 37) (tg := 0) (show am_cd 35 1 = (18, 4, 407, 0, [38]) by decide +kernel) (by decide +kernel) (by decide +kernel) rfl ?_
  refine e_lda (v := 37) (show am_cd 35 4 = (2, 5, 0, 2, []) by decide +kernel) rfl ?_
  refine e_getf (a := 37) (tg := 2) (show am_cd 35 5 = (18, 8, 401, 2, [15]) by decide +kernel) (by decide +kernel) (by decide +kernel) rfl ?_
  refine e_alenD (show am_cd 35 8 = (27, 9, 0, 0, []) by decide +kernel) h.1 ?_
  replace h := h.2
  refine e_cmp3 (show am_cd 35 9 = (11, 12, 13, 3, []) by decide +kernel) (fun hc => ?_) (fun hc => ?_)
  · replace h := h.1 hc
    refine e_ic (show am_cd 35 13 = (0, 14, 0, 2, []) by decide +kernel) ?_
    refine e_lda (v := 37) (show am_cd 35 14 = (2, 15, 0, 2, []) by decide +kernel) rfl ?_
    refine e_getf (a := 37) (tg := 2) (show am_cd 35 15 = (18, 18, 401, 2, [15]) by decide +kernel) (by decide +kernel) (by decide +kernel) rfl ?_
    refine e_alenD (show am_cd 35 18 = (27, 19, 0, 0, []) by decide +kernel) h.1 ?_
    replace h := h.2
    refine e_imul (show am_cd 35 19 = (5, 20, 2, 0, []) by decide +kernel) ?_
    refine e_ic (show am_cd 35 20 = (0, 23, 2, 4369, []) by decide +kernel) ?_
    refine e_min (z := 0) (show am_cd 35 23 = (33, 26, 10, 0, [76]) by decide +kernel) (Nat.le_of_ble_eq_true rfl) ?_
    refine e_sti (la2 := [rA 37, (0, if w32 4369 < w32 (2 * (dyL t (w 37 1) : Int)) then 4369 else (2 * (dyL t (w 37 1) : Int)))]) (show am_cd 35 26 = (3, 27, 1, 0, []) by decide +kernel) rfl ?_
    refine e_lda (v := 37) (show am_cd 35 27 = (2, 28, 0, 2, []) by decide +kernel) rfl ?_
    refine e_lda (v := 37) (show am_cd 35 28 = (2, 29, 0, 2, []) by decide +kernel) rfl ?_
    refine e_getf (a := 37) (tg := 2) (show am_cd 35 29 = (18, 32, 401, 2, [15]) by decide +kernel) (by decide +kernel) (by decide +kernel) rfl ?_
    refine e_ldi (show am_cd 35 32 = (2, 33, 1, 0, []) by decide +kernel) rfl ?_
    have h8_0 := h.1
    replace h := h.2
    refine e_cS (z := 0) (as := [(2, w 37 1), (0, if w32 4369 < w32 (2 * (dyL t (w 37 1) : Int)) then 4369 else (2 * (dyL t (w 37 1) : Int)))]) (rest := [rA 37]) (show am_cd 35 33 = (40, 36, 271, 1, [81]) by decide +kernel) (by decide) rfl rfl (Nat.le_of_ble_eq_true rfl) (by simp [h8_0]) ?_
    exact h
  · replace h := h.2 hc
    exact e_retv (show am_cd 35 12 = (36, 13, 3, 0, []) by decide +kernel) (by decide +kernel) h

theorem g_mr1 {d : Nat} {Q : Option aV → aS → Prop} {w : eW} {t : eT} {n A : Int} (h : (0 ≤ A) ∧ (0 ≤ w 37 2) ∧ (Cl (d + 1) 270 [(2, w 37 2), (0, n)] (enc (wu w 37 1 A) t) (fun r S2 => (∀ x, r ≠ some (6, x)) ∧ Ev (d + 2) 35 Q 48 [rA 37, (0, n)] (r.toList ++ [rA 37]) S2))) : Ev (d + 2) 35 Q 36 [rA 37, (0, n)] [(2, A), rA 37] (enc w t) := by
  refine e_putr (a := 37) (show am_cd 35 36 = (19, 39, 401, 2, [15]) by decide +kernel) (by decide +kernel) (by decide +kernel) rfl h.1 (by decide +kernel) ?_
  replace h := h.2
  refine e_lda (v := 37) (show am_cd 35 39 = (2, 40, 0, 2, []) by decide +kernel) rfl ?_
  refine e_lda (v := 37) (show am_cd 35 40 = (2, 41, 0, 2, []) by decide +kernel) rfl ?_
  refine e_getfE (a := 37) (tg := 2) (v := w 37 2) (show am_cd 35 41 = (18, 44, 402, 2, [19]) by decide +kernel) (by decide +kernel) (by decide +kernel) rfl rfl ?_
  refine e_ldi (show am_cd 35 44 = (2, 45, 1, 0, []) by decide +kernel) rfl ?_
  have h8_0 := h.1
  replace h := h.2
  refine e_cS (z := 0) (as := [(2, w 37 2), (0, n)]) (rest := [rA 37]) (show am_cd 35 45 = (40, 48, 270, 1, [85]) by decide +kernel) (by decide) rfl rfl (Nat.le_of_ble_eq_true rfl) (by simp [h8_0]) ?_
  exact h

theorem g_mr2 {d : Nat} {Q : Option aV → aS → Prop} {w : eW} {t : eT} {n A : Int} (h : (0 ≤ A) ∧ (0 ≤ w 37 3) ∧ (Cl (d + 1) 270 [(2, w 37 3), (0, n)] (enc (wu w 37 2 A) t) (fun r S2 => (∀ x, r ≠ some (6, x)) ∧ Ev (d + 2) 35 Q 60 [rA 37, (0, n)] (r.toList ++ [rA 37]) S2))) : Ev (d + 2) 35 Q 48 [rA 37, (0, n)] [(2, A), rA 37] (enc w t) := by
  refine e_putr (a := 37) (show am_cd 35 48 = (19, 51, 402, 2, [19]) by decide +kernel) (by decide +kernel) (by decide +kernel) rfl h.1 (by decide +kernel) ?_
  replace h := h.2
  refine e_lda (v := 37) (show am_cd 35 51 = (2, 52, 0, 2, []) by decide +kernel) rfl ?_
  refine e_lda (v := 37) (show am_cd 35 52 = (2, 53, 0, 2, []) by decide +kernel) rfl ?_
  refine e_getfE (a := 37) (tg := 2) (v := w 37 3) (show am_cd 35 53 = (18, 56, 403, 2, [22]) by decide +kernel) (by decide +kernel) (by decide +kernel) rfl rfl ?_
  refine e_ldi (show am_cd 35 56 = (2, 57, 1, 0, []) by decide +kernel) rfl ?_
  have h8_0 := h.1
  replace h := h.2
  refine e_cS (z := 0) (as := [(2, w 37 3), (0, n)]) (rest := [rA 37]) (show am_cd 35 57 = (40, 60, 270, 1, [85]) by decide +kernel) (by decide) rfl rfl (Nat.le_of_ble_eq_true rfl) (by simp [h8_0]) ?_
  exact h

theorem g_mr3 {d : Nat} {Q : Option aV → aS → Prop} {w : eW} {t : eT} {n A : Int} (h : (0 ≤ A) ∧ (0 ≤ w 37 4) ∧ (Cl (d + 1) 270 [(2, w 37 4), (0, n)] (enc (wu w 37 3 A) t) (fun r S2 => (∀ x, r ≠ some (6, x)) ∧ Ev (d + 2) 35 Q 72 [rA 37, (0, n)] (r.toList ++ [rA 37]) S2))) : Ev (d + 2) 35 Q 60 [rA 37, (0, n)] [(2, A), rA 37] (enc w t) := by
  refine e_putr (a := 37) (show am_cd 35 60 = (19, 63, 403, 2, [22]) by decide +kernel) (by decide +kernel) (by decide +kernel) rfl h.1 (by decide +kernel) ?_
  replace h := h.2
  refine e_lda (v := 37) (show am_cd 35 63 = (2, 64, 0, 2, []) by decide +kernel) rfl ?_
  refine e_lda (v := 37) (show am_cd 35 64 = (2, 65, 0, 2, []) by decide +kernel) rfl ?_
  refine e_getfE (a := 37) (tg := 2) (v := w 37 4) (show am_cd 35 65 = (18, 68, 404, 2, [25]) by decide +kernel) (by decide +kernel) (by decide +kernel) rfl rfl ?_
  refine e_ldi (show am_cd 35 68 = (2, 69, 1, 0, []) by decide +kernel) rfl ?_
  have h8_0 := h.1
  replace h := h.2
  refine e_cS (z := 0) (as := [(2, w 37 4), (0, n)]) (rest := [rA 37]) (show am_cd 35 69 = (40, 72, 270, 1, [85]) by decide +kernel) (by decide) rfl rfl (Nat.le_of_ble_eq_true rfl) (by simp [h8_0]) ?_
  exact h

theorem g_mr4 {d : Nat} {Q : Option aV → aS → Prop} {w : eW} {t : eT} {n A : Int} (h : (0 ≤ A) ∧ (0 ≤ w32 n ∧ w32 n ≤ 10000000) ∧ (0 ≤ ((102 + t.2.1 : Nat) : Int)) ∧ (0 ≤ (wz (wu w 37 4 A) (102 + t.2.1)) 37 6) ∧ (Cl (d + 1) 270 [(2, (wz (wu w 37 4 A) (102 + t.2.1)) 37 6), (0, n * 16)] (enc (wu (wz (wu w 37 4 A) (102 + t.2.1)) 37 5 ((102 + t.2.1 : Nat) : Int)) (tn t 20 (w32 n).toNat)) (fun r S2 => (∀ x, r ≠ some (6, x)) ∧ Ev (d + 2) 35 Q 94 [rA 37, (0, n)] (r.toList ++ [rA 37]) S2))) : Ev (d + 2) 35 Q 72 [rA 37, (0, n)] [(2, A), rA 37] (enc w t) := by
  refine e_putr (a := 37) (show am_cd 35 72 = (19, 75, 404, 2, [25]) by decide +kernel) (by decide +kernel) (by decide +kernel) rfl h.1 (by decide +kernel) ?_
  replace h := h.2
  refine e_lda (v := 37) (show am_cd 35 75 = (2, 76, 0, 2, []) by decide +kernel) rfl ?_
  refine e_ldi (show am_cd 35 76 = (2, 77, 1, 0, []) by decide +kernel) rfl ?_
  refine e_newa (show am_cd 35 77 = (28, 79, 20, 0, []) by decide +kernel) h.1 ?_
  replace h := h.2
  refine e_putr (a := 37) (show am_cd 35 79 = (19, 82, 405, 2, [28]) by decide +kernel) (by decide +kernel) (by decide +kernel) rfl h.1 (by decide +kernel) ?_
  replace h := h.2
  refine e_lda (v := 37) (show am_cd 35 82 = (2, 83, 0, 2, []) by decide +kernel) rfl ?_
  refine e_lda (v := 37) (show am_cd 35 83 = (2, 84, 0, 2, []) by decide +kernel) rfl ?_
  refine e_getfE (a := 37) (tg := 2) (v := (wz (wu w 37 4 A) (102 + t.2.1)) 37 6) (show am_cd 35 84 = (18, 87, 406, 2, [31]) by decide +kernel) (by decide +kernel) (by decide +kernel) rfl rfl ?_
  refine e_ldi (show am_cd 35 87 = (2, 88, 1, 0, []) by decide +kernel) rfl ?_
  refine e_ic (show am_cd 35 88 = (0, 90, 1, 16, []) by decide +kernel) ?_
  refine e_imul (show am_cd 35 90 = (5, 91, 2, 0, []) by decide +kernel) ?_
  have h8_0 := h.1
  replace h := h.2
  refine e_cS (z := 0) (as := [(2, (wz (wu w 37 4 A) (102 + t.2.1)) 37 6), (0, n * 16)]) (rest := [rA 37]) (show am_cd 35 91 = (40, 94, 270, 1, [85]) by decide +kernel) (by decide) rfl rfl (Nat.le_of_ble_eq_true rfl) (by simp [h8_0]) ?_
  exact h

theorem g_mr5 {d : Nat} {Q : Option aV → aS → Prop} {w : eW} {t : eT} {n A : Int} (h : (0 ≤ A) ∧ (Q none (enc (wu w 37 6 A) t))) : Ev (d + 2) 35 Q 94 [rA 37, (0, n)] [(2, A), rA 37] (enc w t) := by
  refine e_putr (a := 37) (show am_cd 35 94 = (19, 97, 406, 2, [31]) by decide +kernel) (by decide +kernel) (by decide +kernel) rfl h.1 (by decide +kernel) ?_
  replace h := h.2
  exact e_retv (show am_cd 35 97 = (36, 98, 3, 0, []) by decide +kernel) (by decide +kernel) h

