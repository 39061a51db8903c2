/-! The law: regions. -/


theorem e_scr {d M pc nx b0 : Nat} {l : List Nat} {Q : Option aV → aS → Prop} {la st : List aV} {w : eW} {t : eT} {i z : Int} (hc : am_cd M pc = (21, nx, b0, z, l)) (hi : 0 ≤ w32 i ∧ w32 i < ((t.1 0).2 : Int)) (h : Ev d M Q nx la ((0, w 0 (w32 i).toNat) :: st) (enc w t)) : Ev d M Q pc la ((0, i) :: rA 0 :: st) (enc w t) := by
  refine ev_s hc (Nat.le_of_ble_eq_true rfl) ?_ h
  simp only [am_s1]
  have e1 : am_ix (enc w t) ((0 : Nat) : Int) i = true := by
    unfold am_ix
    have e2 : ((enc w t).2.1 ((0 : Nat) : Int).toNat) = t.1 0 := by
      show (if 1 ≤ 0 ∧ 0 < 102 then en_k 0 else t.1 0) = _
      rw [if_neg (by omega)]
    rw [e2, decide_eq_true hi.1, decide_eq_true hi.2]; rfl
  rw [if_pos ⟨e1, Or.inr rfl⟩]
  rfl
theorem e_slen {d M pc nx b0 : Nat} {l : List Nat} {Q : Option aV → aS → Prop} {la st : List aV} {w : eW} {t : eT} {z : Int} (hc : am_cd M pc = (27, nx, b0, z, l)) (h : Ev d M Q nx la ((0, ((t.1 0).2 : Int)) :: st) (enc w t)) : Ev d M Q pc la (rA 0 :: st) (enc w t) := by
  refine ev_s hc (Nat.le_of_ble_eq_true rfl) ?_ h
  simp only [am_s1]
  rw [if_pos (Or.inr (Or.inr (Or.inr (show ((0 : Nat) : Int) = 0 from rfl))))]
  have e2 : ((enc w t).2.1 ((0 : Nat) : Int).toNat) = t.1 0 := by
    show (if 1 ≤ 0 ∧ 0 < 102 then en_k 0 else t.1 0) = _
    rw [if_neg (by omega)]
  rw [e2]

theorem g_lw {d : Nat} {Q : Option aV → aS → Prop} {w : eW} {t : eT} {i : Int} {J5 J6 J7 : aV} (h : ((w32 (((t.1 0).2 : Int) - 4) < w32 i → Q (some (0, 1)) (enc w t)) ∧ (¬ (w32 (((t.1 0).2 : Int) - 4) < w32 i) → (0 ≤ w32 i ∧ w32 i < ((t.1 0).2 : Int)) ∧ ((w32 (iand (w 0 (w32 i).toNat) 31) = 0 → Ev (d + 120) 272 Q 160 [rA 0, rA 1, rA 67, rA 100, (0, i), J5, J6, J7] [] (enc w t)) ∧ (w32 (iand (w 0 (w32 i).toNat) 31) = 1 → Ev (d + 120) 272 Q 185 [rA 0, rA 1, rA 67, rA 100, (0, i), J5, J6, J7] [] (enc w t)) ∧ (w32 (iand (w 0 (w32 i).toNat) 31) = 2 → Ev (d + 120) 272 Q 210 [rA 0, rA 1, rA 67, rA 100, (0, i), J5, J6, J7] [] (enc w t)) ∧ (w32 (iand (w 0 (w32 i).toNat) 31) = 3 → Ev (d + 120) 272 Q 223 [rA 0, rA 1, rA 67, rA 100, (0, i), J5, J6, J7] [] (enc w t)) ∧ (w32 (iand (w 0 (w32 i).toNat) 31) = 4 → Ev (d + 120) 272 Q 236 [rA 0, rA 1, rA 67, rA 100, (0, i), J5, J6, J7] [] (enc w t)) ∧ (w32 (iand (w 0 (w32 i).toNat) 31) = 5 → Ev (d + 120) 272 Q 249 [rA 0, rA 1, rA 67, rA 100, (0, i), J5, J6, J7] [] (enc w t)) ∧ (w32 (iand (w 0 (w32 i).toNat) 31) = 6 → Ev (d + 120) 272 Q 274 [rA 0, rA 1, rA 67, rA 100, (0, i), J5, J6, J7] [] (enc w t)) ∧ (w32 (iand (w 0 (w32 i).toNat) 31) = 7 → Ev (d + 120) 272 Q 311 [rA 0, rA 1, rA 67, rA 100, (0, i), J5, J6, J7] [] (enc w t)) ∧ (w32 (iand (w 0 (w32 i).toNat) 31) = 8 → Ev (d + 120) 272 Q 324 [rA 0, rA 1, rA 67, rA 100, (0, i), J5, J6, J7] [] (enc w t)) ∧ (w32 (iand (w 0 (w32 i).toNat) 31) = 9 → Ev (d + 120) 272 Q 350 [rA 0, rA 1, rA 67, rA 100, (0, i), J5, J6, J7] [] (enc w t)) ∧ (w32 (iand (w 0 (w32 i).toNat) 31) = 10 → Ev (d + 120) 272 Q 375 [rA 0, rA 1, rA 67, rA 100, (0, i), J5, J6, J7] [] (enc w t)) ∧ (w32 (iand (w 0 (w32 i).toNat) 31) = 11 → Ev (d + 120) 272 Q 388 [rA 0, rA 1, rA 67, rA 100, (0, i), J5, J6, J7] [] (enc w t)) ∧ (w32 (iand (w 0 (w32 i).toNat) 31) = 12 → Ev (d + 120) 272 Q 425 [rA 0, rA 1, rA 67, rA 100, (0, i), J5, J6, J7] [] (enc w t)) ∧ (w32 (iand (w 0 (w32 i).toNat) 31) = 13 → Ev (d + 120) 272 Q 438 [rA 0, rA 1, rA 67, rA 100, (0, i), J5, J6, J7] [] (enc w t)) ∧ (w32 (iand (w 0 (w32 i).toNat) 31) = 14 → Ev (d + 120) 272 Q 452 [rA 0, rA 1, rA 67, rA 100, (0, i), J5, J6, J7] [] (enc w t)) ∧ (w32 (iand (w 0 (w32 i).toNat) 31) = 15 → Ev (d + 120) 272 Q 466 [rA 0, rA 1, rA 67, rA 100, (0, i), J5, J6, J7] [] (enc w t)) ∧ (w32 (iand (w 0 (w32 i).toNat) 31) = 16 → Ev (d + 120) 272 Q 480 [rA 0, rA 1, rA 67, rA 100, (0, i), J5, J6, J7] [] (enc w t)) ∧ (w32 (iand (w 0 (w32 i).toNat) 31) = 17 → Ev (d + 120) 272 Q 493 [rA 0, rA 1, rA 67, rA 100, (0, i), J5, J6, J7] [] (enc w t)) ∧ (w32 (iand (w 0 (w32 i).toNat) 31) = 18 → Ev (d + 120) 272 Q 506 [rA 0, rA 1, rA 67, rA 100, (0, i), J5, J6, J7] [] (enc w t)) ∧ (w32 (iand (w 0 (w32 i).toNat) 31) = 19 → Ev (d + 120) 272 Q 574 [rA 0, rA 1, rA 67, rA 100, (0, i), J5, J6, J7] [] (enc w t)) ∧ (w32 (iand (w 0 (w32 i).toNat) 31) = 20 → Ev (d + 120) 272 Q 654 [rA 0, rA 1, rA 67, rA 100, (0, i), J5, J6, J7] [] (enc w t)) ∧ (w32 (iand (w 0 (w32 i).toNat) 31) = 21 → Ev (d + 120) 272 Q 722 [rA 0, rA 1, rA 67, rA 100, (0, i), J5, J6, J7] [] (enc w t)) ∧ (w32 (iand (w 0 (w32 i).toNat) 31) = 22 → Ev (d + 120) 272 Q 748 [rA 0, rA 1, rA 67, rA 100, (0, i), J5, J6, J7] [] (enc w t)) ∧ (w32 (iand (w 0 (w32 i).toNat) 31) = 23 → Ev (d + 120) 272 Q 773 [rA 0, rA 1, rA 67, rA 100, (0, i), J5, J6, J7] [] (enc w t)) ∧ (w32 (iand (w 0 (w32 i).toNat) 31) = 24 → Ev (d + 120) 272 Q 811 [rA 0, rA 1, rA 67, rA 100, (0, i), J5, J6, J7] [] (enc w t)) ∧ (w32 (iand (w 0 (w32 i).toNat) 31) = 25 → Ev (d + 120) 272 Q 849 [rA 0, rA 1, rA 67, rA 100, (0, i), J5, J6, J7] [] (enc w t)) ∧ (w32 (iand (w 0 (w32 i).toNat) 31) = 26 → Ev (d + 120) 272 Q 874 [rA 0, rA 1, rA 67, rA 100, (0, i), J5, J6, J7] [] (enc w t)) ∧ ((w32 (iand (w 0 (w32 i).toNat) 31) < 0 ∨ 27 ≤ w32 (iand (w 0 (w32 i).toNat) 31)) → Ev (d + 120) 272 Q 929 [rA 0, rA 1, rA 67, rA 100, (0, i), J5, J6, J7] [] (enc w t)))))) : Ev (d + 120) 272 Q 23 [rA 0, rA 1, rA 67, rA 100, (0, i), J5, J6, J7] [] (enc w t) := by
  refine e_ldi (show am_cd 272 23 = (2, 25, 4, 0, []) by decide +kernel) rfl ?_
  refine e_lda (v := 0) (show am_cd 272 25 = (2, 26, 0, 2, []) by decide +kernel) rfl ?_
  refine e_slen (show am_cd 272 26 = (27, 27, 0, 0, []) by decide +kernel) ?_
  refine e_ic (show am_cd 272 27 = (0, 28, 0, 4, []) by decide +kernel) ?_
  refine e_isub (show am_cd 272 28 = (5, 29, 1, 0, []) by decide +kernel) ?_
  refine e_cmp4 (show am_cd 272 29 = (11, 32, 935, 4, []) by decide +kernel) (fun hc => ?_) (fun hc => ?_)
  · replace h := h.1 hc
    refine e_ic (show am_cd 272 935 = (0, 936, 0, 1, []) by decide +kernel) ?_
    exact e_retz (show am_cd 272 936 = (36, 937, 0, 0, []) by decide +kernel) (by decide +kernel) (Or.inr rfl) h
  · replace h := h.2 hc
    refine e_lda (v := 0) (show am_cd 272 32 = (2, 33, 0, 2, []) by decide +kernel) rfl ?_
    refine e_ldi (show am_cd 272 33 = (2, 35, 4, 0, []) by decide +kernel) rfl ?_
    refine e_scr (show am_cd 272 35 = (21, 36, 0, 0, []) by decide +kernel) h.1 ?_
    replace h := h.2
    refine e_ic (show am_cd 272 36 = (0, 38, 1, 31, []) by decide +kernel) ?_
    refine e_iand (show am_cd 272 38 = (5, 39, 3, 0, []) by decide +kernel) ?_
    refine e_tsw (x := iand (w 0 (w32 i).toNat) 31) (show am_cd 272 39 = (30, 929, 121, 0, [160, 185, 210, 223, 236, 249, 274, 311, 324, 350, 375, 388, 425, 438, 452, 466, 480, 493, 506, 574, 654, 722, 748, 773, 811, 849, 874]) by decide +kernel) (fun i tg hi hx => ?_) (fun hx => ?_)
    · match i, hi with
      | 0, hi =>
        cases hi
        replace h := h.1 (by omega)
        exact h
      | 1, hi =>
        cases hi
        replace h := h.2.1 (by omega)
        exact h
      | 2, hi =>
        cases hi
        replace h := h.2.2.1 (by omega)
        exact h
      | 3, hi =>
        cases hi
        replace h := h.2.2.2.1 (by omega)
        exact h
      | 4, hi =>
        cases hi
        replace h := h.2.2.2.2.1 (by omega)
        exact h
      | 5, hi =>
        cases hi
        replace h := h.2.2.2.2.2.1 (by omega)
        exact h
      | 6, hi =>
        cases hi
        replace h := h.2.2.2.2.2.2.1 (by omega)
        exact h
      | 7, hi =>
        cases hi
        replace h := h.2.2.2.2.2.2.2.1 (by omega)
        exact h
      | 8, hi =>
        cases hi
        replace h := h.2.2.2.2.2.2.2.2.1 (by omega)
        exact h
      | 9, hi =>
        cases hi
        replace h := h.2.2.2.2.2.2.2.2.2.1 (by omega)
        exact h
      | 10, hi =>
        cases hi
        replace h := h.2.2.2.2.2.2.2.2.2.2.1 (by omega)
        exact h
      | 11, hi =>
        cases hi
        replace h := h.2.2.2.2.2.2.2.2.2.2.2.1 (by omega)
        exact h
      | 12, hi =>
        cases hi
        replace h := h.2.2.2.2.2.2.2.2.2.2.2.2.1 (by omega)
        exact h
      | 13, hi =>
        cases hi
        replace h := h.2.2.2.2.2.2.2.2.2.2.2.2.2.1 (by omega)
        exact h
      | 14, hi =>
        cases hi
        replace h := h.2.2.2.2.2.2.2.2.2.2.2.2.2.2.1 (by omega)
        exact h
      | 15, hi =>
        cases hi
        replace h := h.2.2.2.2.2.2.2.2.2.2.2.2.2.2.2.1 (by omega)
        exact h
      | 16, hi =>
        cases hi
        replace h := h.2.2.2.2.2.2.2.2.2.2.2.2.2.2.2.2.1 (by omega)
        exact h
      | 17, hi =>
        cases hi
        replace h := h.2.2.2.2.2.2.2.2.2.2.2.2.2.2.2.2.2.1 (by omega)
        exact h
      | 18, hi =>
        cases hi
        replace h := h.2.2.2.2.2.2.2.2.2.2.2.2.2.2.2.2.2.2.1 (by omega)
        exact h
      | 19, hi =>
        cases hi
        replace h := h.2.2.2.2.2.2.2.2.2.2.2.2.2.2.2.2.2.2.2.1 (by omega)
        exact h
      | 20, hi =>
        cases hi
        replace h := h.2.2.2.2.2.2.2.2.2.2.2.2.2.2.2.2.2.2.2.2.1 (by omega)
        exact h
      | 21, hi =>
        cases hi
        replace h := h.2.2.2.2.2.2.2.2.2.2.2.2.2.2.2.2.2.2.2.2.2.1 (by omega)
        exact h
      | 22, hi =>
        cases hi
        replace h := h.2.2.2.2.2.2.2.2.2.2.2.2.2.2.2.2.2.2.2.2.2.2.1 (by omega)
        exact h
      | 23, hi =>
        cases hi
        replace h := h.2.2.2.2.2.2.2.2.2.2.2.2.2.2.2.2.2.2.2.2.2.2.2.1 (by omega)
        exact h
      | 24, hi =>
        cases hi
        replace h := h.2.2.2.2.2.2.2.2.2.2.2.2.2.2.2.2.2.2.2.2.2.2.2.2.1 (by omega)
        exact h
      | 25, hi =>
        cases hi
        replace h := h.2.2.2.2.2.2.2.2.2.2.2.2.2.2.2.2.2.2.2.2.2.2.2.2.2.1 (by omega)
        exact h
      | 26, hi =>
        cases hi
        replace h := h.2.2.2.2.2.2.2.2.2.2.2.2.2.2.2.2.2.2.2.2.2.2.2.2.2.2.1 (by omega)
        exact h
      | i + 27, hi => cases hi
    · replace h := h.2.2.2.2.2.2.2.2.2.2.2.2.2.2.2.2.2.2.2.2.2.2.2.2.2.2.2 (by simp only [List.length_cons, List.length_nil] at hx; omega)
      exact h

theorem g_lwn {d : Nat} {Q : Option aV → aS → Prop} {w : eW} {t : eT} {i : Int} {J5 J6 J7 : aV} (h : Ev (d + 120) 272 Q 23 [rA 0, rA 1, rA 67, rA 100, (0, i + 4), J5, J6, J7] [] (enc w t)) : Ev (d + 120) 272 Q 929 [rA 0, rA 1, rA 67, rA 100, (0, i), J5, J6, J7] [] (enc w t) := by
  refine e_inc (la2 := [rA 0, rA 1, rA 67, rA 100, (0, i + 4), J5, J6, J7]) (show am_cd 272 929 = (4, 932, 4, 4, []) by decide +kernel) rfl rfl ?_
  refine e_go (show am_cd 272 932 = (12, 23, 0, 0, []) by decide +kernel) ?_
  exact h

theorem g_lA122 {d : Nat} {Q : Option aV → aS → Prop} {w : eW} {t : eT} {i : Int} {J5 J6 J7 : aV} (h : (0 ≤ w32 (i + 1) ∧ w32 (i + 1) < ((t.1 0).2 : Int)) ∧ (Cl (d + 119) 122 [rA 1, (0, w 0 (w32 (i + 1)).toNat)] (enc w t) (fun r S2 => (∀ x, r ≠ some (6, x)) ∧ Ev (d + 120) 272 Q 170 [rA 0, rA 1, rA 67, rA 100, (0, i), J5, J6, J7] (r.toList ++ []) S2))) : Ev (d + 120) 272 Q 160 [rA 0, rA 1, rA 67, rA 100, (0, i), J5, J6, J7] [] (enc w t) := by
  refine e_lda (v := 1) (show am_cd 272 160 = (2, 161, 1, 2, []) by decide +kernel) rfl ?_
  refine e_lda (v := 0) (show am_cd 272 161 = (2, 162, 0, 2, []) by decide +kernel) rfl ?_
  refine e_ldi (show am_cd 272 162 = (2, 164, 4, 0, []) by decide +kernel) rfl ?_
  refine e_ic (show am_cd 272 164 = (0, 165, 0, 1, []) by decide +kernel) ?_
  refine e_iadd (show am_cd 272 165 = (5, 166, 0, 0, []) by decide +kernel) ?_
  refine e_scr (show am_cd 272 166 = (21, 167, 0, 0, []) by decide +kernel) h.1 ?_
  replace h := h.2
  refine e_cV (z := 0) (a := 1) (as := [(0, w 0 (w32 (i + 1)).toNat)]) (rest := []) (show am_cd 272 167 = (40, 170, 122, 0, [30]) by decide +kernel) (by decide +kernel) rfl rfl (Nat.le_of_ble_eq_true rfl) rfl ?_
  exact h

theorem g_lB122 {d : Nat} {Q : Option aV → aS → Prop} {w : eW} {t : eT} {i v : Int} {J5 J6 J7 : aV} (h : (0 ≤ w32 (i + 1) ∧ w32 (i + 1) < ((t.1 0).2 : Int)) ∧ (Cl (d + 119) 168 [rA 67, (0, w 0 (w32 (i + 1)).toNat)] (enc w t) (fun r S2 => (∀ x, r ≠ some (6, x)) ∧ Ev (d + 120) 272 Q 180 [rA 0, rA 1, rA 67, rA 100, (0, i), J5, J6, J7] (r.toList ++ [(0, v)]) S2))) : Ev (d + 120) 272 Q 170 [rA 0, rA 1, rA 67, rA 100, (0, i), J5, J6, J7] [(0, v)] (enc w t) := by
  refine e_lda (v := 67) (show am_cd 272 170 = (2, 171, 2, 2, []) by decide +kernel) rfl ?_
  refine e_lda (v := 0) (show am_cd 272 171 = (2, 172, 0, 2, []) by decide +kernel) rfl ?_
  refine e_ldi (show am_cd 272 172 = (2, 174, 4, 0, []) by decide +kernel) rfl ?_
  refine e_ic (show am_cd 272 174 = (0, 175, 0, 1, []) by decide +kernel) ?_
  refine e_iadd (show am_cd 272 175 = (5, 176, 0, 0, []) by decide +kernel) ?_
  refine e_scr (show am_cd 272 176 = (21, 177, 0, 0, []) by decide +kernel) h.1 ?_
  replace h := h.2
  refine e_cV (z := 0) (a := 67) (as := [(0, w 0 (w32 (i + 1)).toNat)]) (rest := [(0, v)]) (show am_cd 272 177 = (40, 180, 168, 0, [34]) by decide +kernel) (by decide +kernel) rfl rfl (Nat.le_of_ble_eq_true rfl) rfl ?_
  exact h

theorem g_lC122 {d : Nat} {Q : Option aV → aS → Prop} {w : eW} {t : eT} {i v u : Int} {J5 J6 J7 : aV} (h : ((w32 v = w32 u → Ev (d + 120) 272 Q 929 [rA 0, rA 1, rA 67, rA 100, (0, i), J5, J6, J7] [] (enc w t)) ∧ (¬ (w32 v = w32 u) → Q (some (0, 0)) (enc w t)))) : Ev (d + 120) 272 Q 180 [rA 0, rA 1, rA 67, rA 100, (0, i), J5, J6, J7] [(0, u), (0, v)] (enc w t) := by
  refine e_cmp0 (show am_cd 272 180 = (11, 183, 929, 0, []) by decide +kernel) (fun hc => ?_) (fun hc => ?_)
  · replace h := h.1 hc
    exact h
  · replace h := h.2 hc
    refine e_ic (show am_cd 272 183 = (0, 184, 0, 0, []) by decide +kernel) ?_
    exact e_retz (show am_cd 272 184 = (36, 185, 0, 0, []) by decide +kernel) (by decide +kernel) (Or.inl rfl) h

theorem g_lA123 {d : Nat} {Q : Option aV → aS → Prop} {w : eW} {t : eT} {i : Int} {J5 J6 J7 : aV} (h : (0 ≤ w32 (i + 1) ∧ w32 (i + 1) < ((t.1 0).2 : Int)) ∧ (Cl (d + 119) 123 [rA 1, (0, w 0 (w32 (i + 1)).toNat)] (enc w t) (fun r S2 => (∀ x, r ≠ some (6, x)) ∧ Ev (d + 120) 272 Q 195 [rA 0, rA 1, rA 67, rA 100, (0, i), J5, J6, J7] (r.toList ++ []) S2))) : Ev (d + 120) 272 Q 185 [rA 0, rA 1, rA 67, rA 100, (0, i), J5, J6, J7] [] (enc w t) := by
  refine e_lda (v := 1) (show am_cd 272 185 = (2, 186, 1, 2, []) by decide +kernel) rfl ?_
  refine e_lda (v := 0) (show am_cd 272 186 = (2, 187, 0, 2, []) by decide +kernel) rfl ?_
  refine e_ldi (show am_cd 272 187 = (2, 189, 4, 0, []) by decide +kernel) rfl ?_
  refine e_ic (show am_cd 272 189 = (0, 190, 0, 1, []) by decide +kernel) ?_
  refine e_iadd (show am_cd 272 190 = (5, 191, 0, 0, []) by decide +kernel) ?_
  refine e_scr (show am_cd 272 191 = (21, 192, 0, 0, []) by decide +kernel) h.1 ?_
  replace h := h.2
  refine e_cV (z := 0) (a := 1) (as := [(0, w 0 (w32 (i + 1)).toNat)]) (rest := []) (show am_cd 272 192 = (40, 195, 123, 0, [35]) by decide +kernel) (by decide +kernel) rfl rfl (Nat.le_of_ble_eq_true rfl) rfl ?_
  exact h

theorem g_lB123 {d : Nat} {Q : Option aV → aS → Prop} {w : eW} {t : eT} {i v : Int} {J5 J6 J7 : aV} (h : (0 ≤ w32 (i + 1) ∧ w32 (i + 1) < ((t.1 0).2 : Int)) ∧ (Cl (d + 119) 169 [rA 67, (0, w 0 (w32 (i + 1)).toNat)] (enc w t) (fun r S2 => (∀ x, r ≠ some (6, x)) ∧ Ev (d + 120) 272 Q 205 [rA 0, rA 1, rA 67, rA 100, (0, i), J5, J6, J7] (r.toList ++ [(0, v)]) S2))) : Ev (d + 120) 272 Q 195 [rA 0, rA 1, rA 67, rA 100, (0, i), J5, J6, J7] [(0, v)] (enc w t) := by
  refine e_lda (v := 67) (show am_cd 272 195 = (2, 196, 2, 2, []) by decide +kernel) rfl ?_
  refine e_lda (v := 0) (show am_cd 272 196 = (2, 197, 0, 2, []) by decide +kernel) rfl ?_
  refine e_ldi (show am_cd 272 197 = (2, 199, 4, 0, []) by decide +kernel) rfl ?_
  refine e_ic (show am_cd 272 199 = (0, 200, 0, 1, []) by decide +kernel) ?_
  refine e_iadd (show am_cd 272 200 = (5, 201, 0, 0, []) by decide +kernel) ?_
  refine e_scr (show am_cd 272 201 = (21, 202, 0, 0, []) by decide +kernel) h.1 ?_
  replace h := h.2
  refine e_cV (z := 0) (a := 67) (as := [(0, w 0 (w32 (i + 1)).toNat)]) (rest := [(0, v)]) (show am_cd 272 202 = (40, 205, 169, 0, [39]) by decide +kernel) (by decide +kernel) rfl rfl (Nat.le_of_ble_eq_true rfl) rfl ?_
  exact h

theorem g_lC123 {d : Nat} {Q : Option aV → aS → Prop} {w : eW} {t : eT} {i v u : Int} {J5 J6 J7 : aV} (h : ((w32 v = w32 u → Ev (d + 120) 272 Q 929 [rA 0, rA 1, rA 67, rA 100, (0, i), J5, J6, J7] [] (enc w t)) ∧ (¬ (w32 v = w32 u) → Q (some (0, 0)) (enc w t)))) : Ev (d + 120) 272 Q 205 [rA 0, rA 1, rA 67, rA 100, (0, i), J5, J6, J7] [(0, u), (0, v)] (enc w t) := by
  refine e_cmp0 (show am_cd 272 205 = (11, 208, 929, 0, []) by decide +kernel) (fun hc => ?_) (fun hc => ?_)
  · replace h := h.1 hc
    exact h
  · replace h := h.2 hc
    refine e_ic (show am_cd 272 208 = (0, 209, 0, 0, []) by decide +kernel) ?_
    exact e_retz (show am_cd 272 209 = (36, 210, 0, 0, []) by decide +kernel) (by decide +kernel) (Or.inl rfl) h

theorem g_lA124 {d : Nat} {Q : Option aV → aS → Prop} {w : eW} {t : eT} {i : Int} {J5 J6 J7 : aV} (h : Cl (d + 119) 124 [rA 1] (enc w t) (fun r S2 => (∀ x, r ≠ some (6, x)) ∧ Ev (d + 120) 272 Q 214 [rA 0, rA 1, rA 67, rA 100, (0, i), J5, J6, J7] (r.toList ++ []) S2)) : Ev (d + 120) 272 Q 210 [rA 0, rA 1, rA 67, rA 100, (0, i), J5, J6, J7] [] (enc w t) := by
  refine e_lda (v := 1) (show am_cd 272 210 = (2, 211, 1, 2, []) by decide +kernel) rfl ?_
  refine e_cV (z := 0) (a := 1) (as := []) (rest := []) (show am_cd 272 211 = (40, 214, 124, 0, [40]) by decide +kernel) (by decide +kernel) rfl rfl (Nat.le_of_ble_eq_true rfl) rfl ?_
  exact h

theorem g_lB124 {d : Nat} {Q : Option aV → aS → Prop} {w : eW} {t : eT} {i v : Int} {J5 J6 J7 : aV} (h : Cl (d + 119) 184 [rA 67] (enc w t) (fun r S2 => (∀ x, r ≠ some (6, x)) ∧ Ev (d + 120) 272 Q 218 [rA 0, rA 1, rA 67, rA 100, (0, i), J5, J6, J7] (r.toList ++ [(0, v)]) S2)) : Ev (d + 120) 272 Q 214 [rA 0, rA 1, rA 67, rA 100, (0, i), J5, J6, J7] [(0, v)] (enc w t) := by
  refine e_lda (v := 67) (show am_cd 272 214 = (2, 215, 2, 2, []) by decide +kernel) rfl ?_
  refine e_cV (z := 0) (a := 67) (as := []) (rest := [(0, v)]) (show am_cd 272 215 = (40, 218, 184, 0, [44]) by decide +kernel) (by decide +kernel) rfl rfl (Nat.le_of_ble_eq_true rfl) rfl ?_
  exact h

theorem g_lC124 {d : Nat} {Q : Option aV → aS → Prop} {w : eW} {t : eT} {i v u : Int} {J5 J6 J7 : aV} (h : ((w32 v = w32 u → Ev (d + 120) 272 Q 929 [rA 0, rA 1, rA 67, rA 100, (0, i), J5, J6, J7] [] (enc w t)) ∧ (¬ (w32 v = w32 u) → Q (some (0, 0)) (enc w t)))) : Ev (d + 120) 272 Q 218 [rA 0, rA 1, rA 67, rA 100, (0, i), J5, J6, J7] [(0, u), (0, v)] (enc w t) := by
  refine e_cmp0 (show am_cd 272 218 = (11, 221, 929, 0, []) by decide +kernel) (fun hc => ?_) (fun hc => ?_)
  · replace h := h.1 hc
    exact h
  · replace h := h.2 hc
    refine e_ic (show am_cd 272 221 = (0, 222, 0, 0, []) by decide +kernel) ?_
    exact e_retz (show am_cd 272 222 = (36, 223, 0, 0, []) by decide +kernel) (by decide +kernel) (Or.inl rfl) h

theorem g_lA127 {d : Nat} {Q : Option aV → aS → Prop} {w : eW} {t : eT} {i : Int} {J5 J6 J7 : aV} (h : Cl (d + 119) 127 [rA 1] (enc w t) (fun r S2 => (∀ x, r ≠ some (6, x)) ∧ Ev (d + 120) 272 Q 227 [rA 0, rA 1, rA 67, rA 100, (0, i), J5, J6, J7] (r.toList ++ []) S2)) : Ev (d + 120) 272 Q 223 [rA 0, rA 1, rA 67, rA 100, (0, i), J5, J6, J7] [] (enc w t) := by
  refine e_lda (v := 1) (show am_cd 272 223 = (2, 224, 1, 2, []) by decide +kernel) rfl ?_
  refine e_cV (z := 0) (a := 1) (as := []) (rest := []) (show am_cd 272 224 = (40, 227, 127, 0, [45]) by decide +kernel) (by decide +kernel) rfl rfl (Nat.le_of_ble_eq_true rfl) rfl ?_
  exact h

theorem g_lB127 {d : Nat} {Q : Option aV → aS → Prop} {w : eW} {t : eT} {i v : Int} {J5 J6 J7 : aV} (h : Cl (d + 119) 186 [rA 67] (enc w t) (fun r S2 => (∀ x, r ≠ some (6, x)) ∧ Ev (d + 120) 272 Q 231 [rA 0, rA 1, rA 67, rA 100, (0, i), J5, J6, J7] (r.toList ++ [(0, v)]) S2)) : Ev (d + 120) 272 Q 227 [rA 0, rA 1, rA 67, rA 100, (0, i), J5, J6, J7] [(0, v)] (enc w t) := by
  refine e_lda (v := 67) (show am_cd 272 227 = (2, 228, 2, 2, []) by decide +kernel) rfl ?_
  refine e_cV (z := 0) (a := 67) (as := []) (rest := [(0, v)]) (show am_cd 272 228 = (40, 231, 186, 0, [48]) by decide +kernel) (by decide +kernel) rfl rfl (Nat.le_of_ble_eq_true rfl) rfl ?_
  exact h

theorem g_lC127 {d : Nat} {Q : Option aV → aS → Prop} {w : eW} {t : eT} {i v u : Int} {J5 J6 J7 : aV} (h : ((w32 v = w32 u → Ev (d + 120) 272 Q 929 [rA 0, rA 1, rA 67, rA 100, (0, i), J5, J6, J7] [] (enc w t)) ∧ (¬ (w32 v = w32 u) → Q (some (0, 0)) (enc w t)))) : Ev (d + 120) 272 Q 231 [rA 0, rA 1, rA 67, rA 100, (0, i), J5, J6, J7] [(0, u), (0, v)] (enc w t) := by
  refine e_cmp0 (show am_cd 272 231 = (11, 234, 929, 0, []) by decide +kernel) (fun hc => ?_) (fun hc => ?_)
  · replace h := h.1 hc
    exact h
  · replace h := h.2 hc
    refine e_ic (show am_cd 272 234 = (0, 235, 0, 0, []) by decide +kernel) ?_
    exact e_retz (show am_cd 272 235 = (36, 236, 0, 0, []) by decide +kernel) (by decide +kernel) (Or.inl rfl) h

theorem g_lA129 {d : Nat} {Q : Option aV → aS → Prop} {w : eW} {t : eT} {i : Int} {J5 J6 J7 : aV} (h : Cl (d + 119) 129 [rA 1] (enc w t) (fun r S2 => (∀ x, r ≠ some (6, x)) ∧ Ev (d + 120) 272 Q 240 [rA 0, rA 1, rA 67, rA 100, (0, i), J5, J6, J7] (r.toList ++ []) S2)) : Ev (d + 120) 272 Q 236 [rA 0, rA 1, rA 67, rA 100, (0, i), J5, J6, J7] [] (enc w t) := by
  refine e_lda (v := 1) (show am_cd 272 236 = (2, 237, 1, 2, []) by decide +kernel) rfl ?_
  refine e_cV (z := 0) (a := 1) (as := []) (rest := []) (show am_cd 272 237 = (40, 240, 129, 0, [49]) by decide +kernel) (by decide +kernel) rfl rfl (Nat.le_of_ble_eq_true rfl) rfl ?_
  exact h

theorem g_lB129 {d : Nat} {Q : Option aV → aS → Prop} {w : eW} {t : eT} {i v : Int} {J5 J6 J7 : aV} (h : Cl (d + 119) 191 [rA 67] (enc w t) (fun r S2 => (∀ x, r ≠ some (6, x)) ∧ Ev (d + 120) 272 Q 244 [rA 0, rA 1, rA 67, rA 100, (0, i), J5, J6, J7] (r.toList ++ [(0, v)]) S2)) : Ev (d + 120) 272 Q 240 [rA 0, rA 1, rA 67, rA 100, (0, i), J5, J6, J7] [(0, v)] (enc w t) := by
  refine e_lda (v := 67) (show am_cd 272 240 = (2, 241, 2, 2, []) by decide +kernel) rfl ?_
  refine e_cV (z := 0) (a := 67) (as := []) (rest := [(0, v)]) (show am_cd 272 241 = (40, 244, 191, 0, [52]) by decide +kernel) (by decide +kernel) rfl rfl (Nat.le_of_ble_eq_true rfl) rfl ?_
  exact h

theorem g_lC129 {d : Nat} {Q : Option aV → aS → Prop} {w : eW} {t : eT} {i v u : Int} {J5 J6 J7 : aV} (h : ((w32 v = w32 u → Ev (d + 120) 272 Q 929 [rA 0, rA 1, rA 67, rA 100, (0, i), J5, J6, J7] [] (enc w t)) ∧ (¬ (w32 v = w32 u) → Q (some (0, 0)) (enc w t)))) : Ev (d + 120) 272 Q 244 [rA 0, rA 1, rA 67, rA 100, (0, i), J5, J6, J7] [(0, u), (0, v)] (enc w t) := by
  refine e_cmp0 (show am_cd 272 244 = (11, 247, 929, 0, []) by decide +kernel) (fun hc => ?_) (fun hc => ?_)
  · replace h := h.1 hc
    exact h
  · replace h := h.2 hc
    refine e_ic (show am_cd 272 247 = (0, 248, 0, 0, []) by decide +kernel) ?_
    exact e_retz (show am_cd 272 248 = (36, 249, 0, 0, []) by decide +kernel) (by decide +kernel) (Or.inl rfl) h

theorem g_lA131 {d : Nat} {Q : Option aV → aS → Prop} {w : eW} {t : eT} {i : Int} {J5 J6 J7 : aV} (h : (0 ≤ w32 (i + 1) ∧ w32 (i + 1) < ((t.1 0).2 : Int)) ∧ (Cl (d + 119) 131 [rA 1, (0, w 0 (w32 (i + 1)).toNat)] (enc w t) (fun r S2 => (∀ x, r ≠ some (6, x)) ∧ Ev (d + 120) 272 Q 259 [rA 0, rA 1, rA 67, rA 100, (0, i), J5, J6, J7] (r.toList ++ []) S2))) : Ev (d + 120) 272 Q 249 [rA 0, rA 1, rA 67, rA 100, (0, i), J5, J6, J7] [] (enc w t) := by
  refine e_lda (v := 1) (show am_cd 272 249 = (2, 250, 1, 2, []) by decide +kernel) rfl ?_
  refine e_lda (v := 0) (show am_cd 272 250 = (2, 251, 0, 2, []) by decide +kernel) rfl ?_
  refine e_ldi (show am_cd 272 251 = (2, 253, 4, 0, []) by decide +kernel) rfl ?_
  refine e_ic (show am_cd 272 253 = (0, 254, 0, 1, []) by decide +kernel) ?_
  refine e_iadd (show am_cd 272 254 = (5, 255, 0, 0, []) by decide +kernel) ?_
  refine e_scr (show am_cd 272 255 = (21, 256, 0, 0, []) by decide +kernel) h.1 ?_
  replace h := h.2
  refine e_cV (z := 0) (a := 1) (as := [(0, w 0 (w32 (i + 1)).toNat)]) (rest := []) (show am_cd 272 256 = (40, 259, 131, 0, [53]) by decide +kernel) (by decide +kernel) rfl rfl (Nat.le_of_ble_eq_true rfl) rfl ?_
  exact h

theorem g_lB131 {d : Nat} {Q : Option aV → aS → Prop} {w : eW} {t : eT} {i v : Int} {J5 J6 J7 : aV} (h : (0 ≤ w32 (i + 1) ∧ w32 (i + 1) < ((t.1 0).2 : Int)) ∧ (Cl (d + 119) 192 [rA 67, (0, w 0 (w32 (i + 1)).toNat)] (enc w t) (fun r S2 => (∀ x, r ≠ some (6, x)) ∧ Ev (d + 120) 272 Q 269 [rA 0, rA 1, rA 67, rA 100, (0, i), J5, J6, J7] (r.toList ++ [(0, v)]) S2))) : Ev (d + 120) 272 Q 259 [rA 0, rA 1, rA 67, rA 100, (0, i), J5, J6, J7] [(0, v)] (enc w t) := by
  refine e_lda (v := 67) (show am_cd 272 259 = (2, 260, 2, 2, []) by decide +kernel) rfl ?_
  refine e_lda (v := 0) (show am_cd 272 260 = (2, 261, 0, 2, []) by decide +kernel) rfl ?_
  refine e_ldi (show am_cd 272 261 = (2, 263, 4, 0, []) by decide +kernel) rfl ?_
  refine e_ic (show am_cd 272 263 = (0, 264, 0, 1, []) by decide +kernel) ?_
  refine e_iadd (show am_cd 272 264 = (5, 265, 0, 0, []) by decide +kernel) ?_
  refine e_scr (show am_cd 272 265 = (21, 266, 0, 0, []) by decide +kernel) h.1 ?_
  replace h := h.2
  refine e_cV (z := 0) (a := 67) (as := [(0, w 0 (w32 (i + 1)).toNat)]) (rest := [(0, v)]) (show am_cd 272 266 = (40, 269, 192, 0, [56]) by decide +kernel) (by decide +kernel) rfl rfl (Nat.le_of_ble_eq_true rfl) rfl ?_
  exact h

theorem g_lC131 {d : Nat} {Q : Option aV → aS → Prop} {w : eW} {t : eT} {i v u : Int} {J5 J6 J7 : aV} (h : ((w32 v = w32 u → Ev (d + 120) 272 Q 929 [rA 0, rA 1, rA 67, rA 100, (0, i), J5, J6, J7] [] (enc w t)) ∧ (¬ (w32 v = w32 u) → Q (some (0, 0)) (enc w t)))) : Ev (d + 120) 272 Q 269 [rA 0, rA 1, rA 67, rA 100, (0, i), J5, J6, J7] [(0, u), (0, v)] (enc w t) := by
  refine e_cmp0 (show am_cd 272 269 = (11, 272, 929, 0, []) by decide +kernel) (fun hc => ?_) (fun hc => ?_)
  · replace h := h.1 hc
    exact h
  · replace h := h.2 hc
    refine e_ic (show am_cd 272 272 = (0, 273, 0, 0, []) by decide +kernel) ?_
    exact e_retz (show am_cd 272 273 = (36, 274, 0, 0, []) by decide +kernel) (by decide +kernel) (Or.inl rfl) h

theorem g_lA132 {d : Nat} {Q : Option aV → aS → Prop} {w : eW} {t : eT} {i : Int} {J5 J6 J7 : aV} (h : (0 ≤ w32 (i + 1) ∧ w32 (i + 1) < ((t.1 0).2 : Int)) ∧ (0 ≤ w32 (i + 2) ∧ w32 (i + 2) < ((t.1 0).2 : Int)) ∧ (Cl (d + 119) 132 [rA 1, (0, w 0 (w32 (i + 1)).toNat), (0, w 0 (w32 (i + 2)).toNat)] (enc w t) (fun r S2 => (∀ x, r ≠ some (6, x)) ∧ Ev (d + 120) 272 Q 290 [rA 0, rA 1, rA 67, rA 100, (0, i), J5, J6, J7] (r.toList ++ []) S2))) : Ev (d + 120) 272 Q 274 [rA 0, rA 1, rA 67, rA 100, (0, i), J5, J6, J7] [] (enc w t) := by
  refine e_lda (v := 1) (show am_cd 272 274 = (2, 275, 1, 2, []) by decide +kernel) rfl ?_
  refine e_lda (v := 0) (show am_cd 272 275 = (2, 276, 0, 2, []) by decide +kernel) rfl ?_
  refine e_ldi (show am_cd 272 276 = (2, 278, 4, 0, []) by decide +kernel) rfl ?_
  refine e_ic (show am_cd 272 278 = (0, 279, 0, 1, []) by decide +kernel) ?_
  refine e_iadd (show am_cd 272 279 = (5, 280, 0, 0, []) by decide +kernel) ?_
  refine e_scr (show am_cd 272 280 = (21, 281, 0, 0, []) by decide +kernel) h.1 ?_
  replace h := h.2
  refine e_lda (v := 0) (show am_cd 272 281 = (2, 282, 0, 2, []) by decide +kernel) rfl ?_
  refine e_ldi (show am_cd 272 282 = (2, 284, 4, 0, []) by decide +kernel) rfl ?_
  refine e_ic (show am_cd 272 284 = (0, 285, 0, 2, []) by decide +kernel) ?_
  refine e_iadd (show am_cd 272 285 = (5, 286, 0, 0, []) by decide +kernel) ?_
  refine e_scr (show am_cd 272 286 = (21, 287, 0, 0, []) by decide +kernel) h.1 ?_
  replace h := h.2
  refine e_cV (z := 0) (a := 1) (as := [(0, w 0 (w32 (i + 1)).toNat), (0, w 0 (w32 (i + 2)).toNat)]) (rest := []) (show am_cd 272 287 = (40, 290, 132, 0, [57]) by decide +kernel) (by decide +kernel) rfl rfl (Nat.le_of_ble_eq_true rfl) rfl ?_
  exact h

theorem g_lB132 {d : Nat} {Q : Option aV → aS → Prop} {w : eW} {t : eT} {i v : Int} {J5 J6 J7 : aV} (h : (0 ≤ w32 (i + 1) ∧ w32 (i + 1) < ((t.1 0).2 : Int)) ∧ (0 ≤ w32 (i + 2) ∧ w32 (i + 2) < ((t.1 0).2 : Int)) ∧ (Cl (d + 119) 195 [rA 67, (0, w 0 (w32 (i + 1)).toNat), (0, w 0 (w32 (i + 2)).toNat)] (enc w t) (fun r S2 => (∀ x, r ≠ some (6, x)) ∧ Ev (d + 120) 272 Q 306 [rA 0, rA 1, rA 67, rA 100, (0, i), J5, J6, J7] (r.toList ++ [(0, v)]) S2))) : Ev (d + 120) 272 Q 290 [rA 0, rA 1, rA 67, rA 100, (0, i), J5, J6, J7] [(0, v)] (enc w t) := by
  refine e_lda (v := 67) (show am_cd 272 290 = (2, 291, 2, 2, []) by decide +kernel) rfl ?_
  refine e_lda (v := 0) (show am_cd 272 291 = (2, 292, 0, 2, []) by decide +kernel) rfl ?_
  refine e_ldi (show am_cd 272 292 = (2, 294, 4, 0, []) by decide +kernel) rfl ?_
  refine e_ic (show am_cd 272 294 = (0, 295, 0, 1, []) by decide +kernel) ?_
  refine e_iadd (show am_cd 272 295 = (5, 296, 0, 0, []) by decide +kernel) ?_
  refine e_scr (show am_cd 272 296 = (21, 297, 0, 0, []) by decide +kernel) h.1 ?_
  replace h := h.2
  refine e_lda (v := 0) (show am_cd 272 297 = (2, 298, 0, 2, []) by decide +kernel) rfl ?_
  refine e_ldi (show am_cd 272 298 = (2, 300, 4, 0, []) by decide +kernel) rfl ?_
  refine e_ic (show am_cd 272 300 = (0, 301, 0, 2, []) by decide +kernel) ?_
  refine e_iadd (show am_cd 272 301 = (5, 302, 0, 0, []) by decide +kernel) ?_
  refine e_scr (show am_cd 272 302 = (21, 303, 0, 0, []) by decide +kernel) h.1 ?_
  replace h := h.2
  refine e_cV (z := 0) (a := 67) (as := [(0, w 0 (w32 (i + 1)).toNat), (0, w 0 (w32 (i + 2)).toNat)]) (rest := [(0, v)]) (show am_cd 272 303 = (40, 306, 195, 0, [60]) by decide +kernel) (by decide +kernel) rfl rfl (Nat.le_of_ble_eq_true rfl) rfl ?_
  exact h

theorem g_lC132 {d : Nat} {Q : Option aV → aS → Prop} {w : eW} {t : eT} {i v u : Int} {J5 J6 J7 : aV} (h : ((w32 v = w32 u → Ev (d + 120) 272 Q 929 [rA 0, rA 1, rA 67, rA 100, (0, i), J5, J6, J7] [] (enc w t)) ∧ (¬ (w32 v = w32 u) → Q (some (0, 0)) (enc w t)))) : Ev (d + 120) 272 Q 306 [rA 0, rA 1, rA 67, rA 100, (0, i), J5, J6, J7] [(0, u), (0, v)] (enc w t) := by
  refine e_cmp0 (show am_cd 272 306 = (11, 309, 929, 0, []) by decide +kernel) (fun hc => ?_) (fun hc => ?_)
  · replace h := h.1 hc
    exact h
  · replace h := h.2 hc
    refine e_ic (show am_cd 272 309 = (0, 310, 0, 0, []) by decide +kernel) ?_
    exact e_retz (show am_cd 272 310 = (36, 311, 0, 0, []) by decide +kernel) (by decide +kernel) (Or.inl rfl) h

theorem g_lA134 {d : Nat} {Q : Option aV → aS → Prop} {w : eW} {t : eT} {i : Int} {J5 J6 J7 : aV} (h : Cl (d + 119) 134 [rA 1] (enc w t) (fun r S2 => (∀ x, r ≠ some (6, x)) ∧ Ev (d + 120) 272 Q 315 [rA 0, rA 1, rA 67, rA 100, (0, i), J5, J6, J7] (r.toList ++ []) S2)) : Ev (d + 120) 272 Q 311 [rA 0, rA 1, rA 67, rA 100, (0, i), J5, J6, J7] [] (enc w t) := by
  refine e_lda (v := 1) (show am_cd 272 311 = (2, 312, 1, 2, []) by decide +kernel) rfl ?_
  refine e_cV (z := 0) (a := 1) (as := []) (rest := []) (show am_cd 272 312 = (40, 315, 134, 0, [61]) by decide +kernel) (by decide +kernel) rfl rfl (Nat.le_of_ble_eq_true rfl) rfl ?_
  exact h

theorem g_lB134 {d : Nat} {Q : Option aV → aS → Prop} {w : eW} {t : eT} {i v : Int} {J5 J6 J7 : aV} (h : Cl (d + 119) 202 [rA 67] (enc w t) (fun r S2 => (∀ x, r ≠ some (6, x)) ∧ Ev (d + 120) 272 Q 319 [rA 0, rA 1, rA 67, rA 100, (0, i), J5, J6, J7] (r.toList ++ [(0, v)]) S2)) : Ev (d + 120) 272 Q 315 [rA 0, rA 1, rA 67, rA 100, (0, i), J5, J6, J7] [(0, v)] (enc w t) := by
  refine e_lda (v := 67) (show am_cd 272 315 = (2, 316, 2, 2, []) by decide +kernel) rfl ?_
  refine e_cV (z := 0) (a := 67) (as := []) (rest := [(0, v)]) (show am_cd 272 316 = (40, 319, 202, 0, [64]) by decide +kernel) (by decide +kernel) rfl rfl (Nat.le_of_ble_eq_true rfl) rfl ?_
  exact h

theorem g_lC134 {d : Nat} {Q : Option aV → aS → Prop} {w : eW} {t : eT} {i v u : Int} {J5 J6 J7 : aV} (h : ((w32 v = w32 u → Ev (d + 120) 272 Q 929 [rA 0, rA 1, rA 67, rA 100, (0, i), J5, J6, J7] [] (enc w t)) ∧ (¬ (w32 v = w32 u) → Q (some (0, 0)) (enc w t)))) : Ev (d + 120) 272 Q 319 [rA 0, rA 1, rA 67, rA 100, (0, i), J5, J6, J7] [(0, u), (0, v)] (enc w t) := by
  refine e_cmp0 (show am_cd 272 319 = (11, 322, 929, 0, []) by decide +kernel) (fun hc => ?_) (fun hc => ?_)
  · replace h := h.1 hc
    exact h
  · replace h := h.2 hc
    refine e_ic (show am_cd 272 322 = (0, 323, 0, 0, []) by decide +kernel) ?_
    exact e_retz (show am_cd 272 323 = (36, 324, 0, 0, []) by decide +kernel) (by decide +kernel) (Or.inl rfl) h

theorem g_lA139 {d : Nat} {Q : Option aV → aS → Prop} {w : eW} {t : eT} {i : Int} {J5 J6 J7 : aV} (h : (0 ≤ w32 (i + 1) ∧ w32 (i + 1) < ((t.1 0).2 : Int)) ∧ (Cl (d + 119) 139 [rA 1, (0, w 0 (w32 (i + 1)).toNat)] (enc w t) (fun r S2 => (∀ x, r ≠ some (6, x)) ∧ Ev (d + 120) 272 Q 334 [rA 0, rA 1, rA 67, rA 100, (0, i), J5, J6, J7] (r.toList ++ []) S2))) : Ev (d + 120) 272 Q 324 [rA 0, rA 1, rA 67, rA 100, (0, i), J5, J6, J7] [] (enc w t) := by
  refine e_lda (v := 1) (show am_cd 272 324 = (2, 325, 1, 2, []) by decide +kernel) rfl ?_
  refine e_lda (v := 0) (show am_cd 272 325 = (2, 326, 0, 2, []) by decide +kernel) rfl ?_
  refine e_ldi (show am_cd 272 326 = (2, 328, 4, 0, []) by decide +kernel) rfl ?_
  refine e_ic (show am_cd 272 328 = (0, 329, 0, 1, []) by decide +kernel) ?_
  refine e_iadd (show am_cd 272 329 = (5, 330, 0, 0, []) by decide +kernel) ?_
  refine e_scr (show am_cd 272 330 = (21, 331, 0, 0, []) by decide +kernel) h.1 ?_
  replace h := h.2
  refine e_cV (z := 0) (a := 1) (as := [(0, w 0 (w32 (i + 1)).toNat)]) (rest := []) (show am_cd 272 331 = (40, 334, 139, 0, [65]) by decide +kernel) (by decide +kernel) rfl rfl (Nat.le_of_ble_eq_true rfl) rfl ?_
  exact h

theorem g_lB139 {d : Nat} {Q : Option aV → aS → Prop} {w : eW} {t : eT} {i v : Int} {J5 J6 J7 : aV} (h : (0 ≤ w32 (i + 1) ∧ w32 (i + 1) < ((t.1 0).2 : Int)) ∧ (Cl (d + 119) 215 [rA 67, (0, w 0 (w32 (i + 1)).toNat)] (enc w t) (fun r S2 => (∀ x, r ≠ some (6, x)) ∧ Ev (d + 120) 272 Q 344 [rA 0, rA 1, rA 67, rA 100, (0, i), J5, J6, J7] (r.toList ++ [(1, v)]) S2))) : Ev (d + 120) 272 Q 334 [rA 0, rA 1, rA 67, rA 100, (0, i), J5, J6, J7] [(1, v)] (enc w t) := by
  refine e_lda (v := 67) (show am_cd 272 334 = (2, 335, 2, 2, []) by decide +kernel) rfl ?_
  refine e_lda (v := 0) (show am_cd 272 335 = (2, 336, 0, 2, []) by decide +kernel) rfl ?_
  refine e_ldi (show am_cd 272 336 = (2, 338, 4, 0, []) by decide +kernel) rfl ?_
  refine e_ic (show am_cd 272 338 = (0, 339, 0, 1, []) by decide +kernel) ?_
  refine e_iadd (show am_cd 272 339 = (5, 340, 0, 0, []) by decide +kernel) ?_
  refine e_scr (show am_cd 272 340 = (21, 341, 0, 0, []) by decide +kernel) h.1 ?_
  replace h := h.2
  refine e_cV (z := 0) (a := 67) (as := [(0, w 0 (w32 (i + 1)).toNat)]) (rest := [(1, v)]) (show am_cd 272 341 = (40, 344, 215, 0, [68]) by decide +kernel) (by decide +kernel) rfl rfl (Nat.le_of_ble_eq_true rfl) rfl ?_
  exact h

theorem g_lC139 {d : Nat} {Q : Option aV → aS → Prop} {w : eW} {t : eT} {i v u : Int} {J5 J6 J7 : aV} (h : ((w64 v = w64 u → Ev (d + 120) 272 Q 929 [rA 0, rA 1, rA 67, rA 100, (0, i), J5, J6, J7] [] (enc w t)) ∧ (¬ (w64 v = w64 u) → Q (some (0, 0)) (enc w t)))) : Ev (d + 120) 272 Q 344 [rA 0, rA 1, rA 67, rA 100, (0, i), J5, J6, J7] [(1, u), (1, v)] (enc w t) := by
  refine e_lcb0 (show am_cd 272 344 = (9, 345, 0, 0, []) by decide +kernel) (show am_cd 272 345 = (10, 348, 929, 0, []) by decide +kernel) (fun hc => ?_) (fun hc => ?_)
  · replace h := h.1 hc
    exact h
  · replace h := h.2 hc
    refine e_ic (show am_cd 272 348 = (0, 349, 0, 0, []) by decide +kernel) ?_
    exact e_retz (show am_cd 272 349 = (36, 350, 0, 0, []) by decide +kernel) (by decide +kernel) (Or.inl rfl) h

theorem g_lA140 {d : Nat} {Q : Option aV → aS → Prop} {w : eW} {t : eT} {i : Int} {J5 J6 J7 : aV} (h : (0 ≤ w32 (i + 1) ∧ w32 (i + 1) < ((t.1 0).2 : Int)) ∧ (Cl (d + 119) 140 [rA 1, (0, w 0 (w32 (i + 1)).toNat)] (enc w t) (fun r S2 => (∀ x, r ≠ some (6, x)) ∧ Ev (d + 120) 272 Q 360 [rA 0, rA 1, rA 67, rA 100, (0, i), J5, J6, J7] (r.toList ++ []) S2))) : Ev (d + 120) 272 Q 350 [rA 0, rA 1, rA 67, rA 100, (0, i), J5, J6, J7] [] (enc w t) := by
  refine e_lda (v := 1) (show am_cd 272 350 = (2, 351, 1, 2, []) by decide +kernel) rfl ?_
  refine e_lda (v := 0) (show am_cd 272 351 = (2, 352, 0, 2, []) by decide +kernel) rfl ?_
  refine e_ldi (show am_cd 272 352 = (2, 354, 4, 0, []) by decide +kernel) rfl ?_
  refine e_ic (show am_cd 272 354 = (0, 355, 0, 1, []) by decide +kernel) ?_
  refine e_iadd (show am_cd 272 355 = (5, 356, 0, 0, []) by decide +kernel) ?_
  refine e_scr (show am_cd 272 356 = (21, 357, 0, 0, []) by decide +kernel) h.1 ?_
  replace h := h.2
  refine e_cV (z := 0) (a := 1) (as := [(0, w 0 (w32 (i + 1)).toNat)]) (rest := []) (show am_cd 272 357 = (40, 360, 140, 0, [69]) by decide +kernel) (by decide +kernel) rfl rfl (Nat.le_of_ble_eq_true rfl) rfl ?_
  exact h

theorem g_lB140 {d : Nat} {Q : Option aV → aS → Prop} {w : eW} {t : eT} {i v : Int} {J5 J6 J7 : aV} (h : (0 ≤ w32 (i + 1) ∧ w32 (i + 1) < ((t.1 0).2 : Int)) ∧ (Cl (d + 119) 218 [rA 67, (0, w 0 (w32 (i + 1)).toNat)] (enc w t) (fun r S2 => (∀ x, r ≠ some (6, x)) ∧ Ev (d + 120) 272 Q 370 [rA 0, rA 1, rA 67, rA 100, (0, i), J5, J6, J7] (r.toList ++ [(0, v)]) S2))) : Ev (d + 120) 272 Q 360 [rA 0, rA 1, rA 67, rA 100, (0, i), J5, J6, J7] [(0, v)] (enc w t) := by
  refine e_lda (v := 67) (show am_cd 272 360 = (2, 361, 2, 2, []) by decide +kernel) rfl ?_
  refine e_lda (v := 0) (show am_cd 272 361 = (2, 362, 0, 2, []) by decide +kernel) rfl ?_
  refine e_ldi (show am_cd 272 362 = (2, 364, 4, 0, []) by decide +kernel) rfl ?_
  refine e_ic (show am_cd 272 364 = (0, 365, 0, 1, []) by decide +kernel) ?_
  refine e_iadd (show am_cd 272 365 = (5, 366, 0, 0, []) by decide +kernel) ?_
  refine e_scr (show am_cd 272 366 = (21, 367, 0, 0, []) by decide +kernel) h.1 ?_
  replace h := h.2
  refine e_cV (z := 0) (a := 67) (as := [(0, w 0 (w32 (i + 1)).toNat)]) (rest := [(0, v)]) (show am_cd 272 367 = (40, 370, 218, 0, [72]) by decide +kernel) (by decide +kernel) rfl rfl (Nat.le_of_ble_eq_true rfl) rfl ?_
  exact h

theorem g_lC140 {d : Nat} {Q : Option aV → aS → Prop} {w : eW} {t : eT} {i v u : Int} {J5 J6 J7 : aV} (h : ((w32 v = w32 u → Ev (d + 120) 272 Q 929 [rA 0, rA 1, rA 67, rA 100, (0, i), J5, J6, J7] [] (enc w t)) ∧ (¬ (w32 v = w32 u) → Q (some (0, 0)) (enc w t)))) : Ev (d + 120) 272 Q 370 [rA 0, rA 1, rA 67, rA 100, (0, i), J5, J6, J7] [(0, u), (0, v)] (enc w t) := by
  refine e_cmp0 (show am_cd 272 370 = (11, 373, 929, 0, []) by decide +kernel) (fun hc => ?_) (fun hc => ?_)
  · replace h := h.1 hc
    exact h
  · replace h := h.2 hc
    refine e_ic (show am_cd 272 373 = (0, 374, 0, 0, []) by decide +kernel) ?_
    exact e_retz (show am_cd 272 374 = (36, 375, 0, 0, []) by decide +kernel) (by decide +kernel) (Or.inl rfl) h

theorem g_lA141 {d : Nat} {Q : Option aV → aS → Prop} {w : eW} {t : eT} {i : Int} {J5 J6 J7 : aV} (h : Cl (d + 119) 141 [rA 1] (enc w t) (fun r S2 => (∀ x, r ≠ some (6, x)) ∧ Ev (d + 120) 272 Q 379 [rA 0, rA 1, rA 67, rA 100, (0, i), J5, J6, J7] (r.toList ++ []) S2)) : Ev (d + 120) 272 Q 375 [rA 0, rA 1, rA 67, rA 100, (0, i), J5, J6, J7] [] (enc w t) := by
  refine e_lda (v := 1) (show am_cd 272 375 = (2, 376, 1, 2, []) by decide +kernel) rfl ?_
  refine e_cV (z := 0) (a := 1) (as := []) (rest := []) (show am_cd 272 376 = (40, 379, 141, 0, [73]) by decide +kernel) (by decide +kernel) rfl rfl (Nat.le_of_ble_eq_true rfl) rfl ?_
  exact h

theorem g_lB141 {d : Nat} {Q : Option aV → aS → Prop} {w : eW} {t : eT} {i v : Int} {J5 J6 J7 : aV} (h : Cl (d + 119) 219 [rA 67] (enc w t) (fun r S2 => (∀ x, r ≠ some (6, x)) ∧ Ev (d + 120) 272 Q 383 [rA 0, rA 1, rA 67, rA 100, (0, i), J5, J6, J7] (r.toList ++ [(0, v)]) S2)) : Ev (d + 120) 272 Q 379 [rA 0, rA 1, rA 67, rA 100, (0, i), J5, J6, J7] [(0, v)] (enc w t) := by
  refine e_lda (v := 67) (show am_cd 272 379 = (2, 380, 2, 2, []) by decide +kernel) rfl ?_
  refine e_cV (z := 0) (a := 67) (as := []) (rest := [(0, v)]) (show am_cd 272 380 = (40, 383, 219, 0, [76]) by decide +kernel) (by decide +kernel) rfl rfl (Nat.le_of_ble_eq_true rfl) rfl ?_
  exact h

theorem g_lC141 {d : Nat} {Q : Option aV → aS → Prop} {w : eW} {t : eT} {i v u : Int} {J5 J6 J7 : aV} (h : ((w32 v = w32 u → Ev (d + 120) 272 Q 929 [rA 0, rA 1, rA 67, rA 100, (0, i), J5, J6, J7] [] (enc w t)) ∧ (¬ (w32 v = w32 u) → Q (some (0, 0)) (enc w t)))) : Ev (d + 120) 272 Q 383 [rA 0, rA 1, rA 67, rA 100, (0, i), J5, J6, J7] [(0, u), (0, v)] (enc w t) := by
  refine e_cmp0 (show am_cd 272 383 = (11, 386, 929, 0, []) by decide +kernel) (fun hc => ?_) (fun hc => ?_)
  · replace h := h.1 hc
    exact h
  · replace h := h.2 hc
    refine e_ic (show am_cd 272 386 = (0, 387, 0, 0, []) by decide +kernel) ?_
    exact e_retz (show am_cd 272 387 = (36, 388, 0, 0, []) by decide +kernel) (by decide +kernel) (Or.inl rfl) h

theorem g_lA142 {d : Nat} {Q : Option aV → aS → Prop} {w : eW} {t : eT} {i : Int} {J5 J6 J7 : aV} (h : (0 ≤ w32 (i + 1) ∧ w32 (i + 1) < ((t.1 0).2 : Int)) ∧ (0 ≤ w32 (i + 2) ∧ w32 (i + 2) < ((t.1 0).2 : Int)) ∧ (Cl (d + 119) 142 [rA 1, (0, w 0 (w32 (i + 1)).toNat), (0, w 0 (w32 (i + 2)).toNat)] (enc w t) (fun r S2 => (∀ x, r ≠ some (6, x)) ∧ Ev (d + 120) 272 Q 404 [rA 0, rA 1, rA 67, rA 100, (0, i), J5, J6, J7] (r.toList ++ []) S2))) : Ev (d + 120) 272 Q 388 [rA 0, rA 1, rA 67, rA 100, (0, i), J5, J6, J7] [] (enc w t) := by
  refine e_lda (v := 1) (show am_cd 272 388 = (2, 389, 1, 2, []) by decide +kernel) rfl ?_
  refine e_lda (v := 0) (show am_cd 272 389 = (2, 390, 0, 2, []) by decide +kernel) rfl ?_
  refine e_ldi (show am_cd 272 390 = (2, 392, 4, 0, []) by decide +kernel) rfl ?_
  refine e_ic (show am_cd 272 392 = (0, 393, 0, 1, []) by decide +kernel) ?_
  refine e_iadd (show am_cd 272 393 = (5, 394, 0, 0, []) by decide +kernel) ?_
  refine e_scr (show am_cd 272 394 = (21, 395, 0, 0, []) by decide +kernel) h.1 ?_
  replace h := h.2
  refine e_lda (v := 0) (show am_cd 272 395 = (2, 396, 0, 2, []) by decide +kernel) rfl ?_
  refine e_ldi (show am_cd 272 396 = (2, 398, 4, 0, []) by decide +kernel) rfl ?_
  refine e_ic (show am_cd 272 398 = (0, 399, 0, 2, []) by decide +kernel) ?_
  refine e_iadd (show am_cd 272 399 = (5, 400, 0, 0, []) by decide +kernel) ?_
  refine e_scr (show am_cd 272 400 = (21, 401, 0, 0, []) by decide +kernel) h.1 ?_
  replace h := h.2
  refine e_cV (z := 0) (a := 1) (as := [(0, w 0 (w32 (i + 1)).toNat), (0, w 0 (w32 (i + 2)).toNat)]) (rest := []) (show am_cd 272 401 = (40, 404, 142, 0, [77]) by decide +kernel) (by decide +kernel) rfl rfl (Nat.le_of_ble_eq_true rfl) rfl ?_
  exact h

theorem g_lB142 {d : Nat} {Q : Option aV → aS → Prop} {w : eW} {t : eT} {i v : Int} {J5 J6 J7 : aV} (h : (0 ≤ w32 (i + 1) ∧ w32 (i + 1) < ((t.1 0).2 : Int)) ∧ (0 ≤ w32 (i + 2) ∧ w32 (i + 2) < ((t.1 0).2 : Int)) ∧ (Cl (d + 119) 226 [rA 67, (0, w 0 (w32 (i + 1)).toNat), (0, w 0 (w32 (i + 2)).toNat)] (enc w t) (fun r S2 => (∀ x, r ≠ some (6, x)) ∧ Ev (d + 120) 272 Q 420 [rA 0, rA 1, rA 67, rA 100, (0, i), J5, J6, J7] (r.toList ++ [(0, v)]) S2))) : Ev (d + 120) 272 Q 404 [rA 0, rA 1, rA 67, rA 100, (0, i), J5, J6, J7] [(0, v)] (enc w t) := by
  refine e_lda (v := 67) (show am_cd 272 404 = (2, 405, 2, 2, []) by decide +kernel) rfl ?_
  refine e_lda (v := 0) (show am_cd 272 405 = (2, 406, 0, 2, []) by decide +kernel) rfl ?_
  refine e_ldi (show am_cd 272 406 = (2, 408, 4, 0, []) by decide +kernel) rfl ?_
  refine e_ic (show am_cd 272 408 = (0, 409, 0, 1, []) by decide +kernel) ?_
  refine e_iadd (show am_cd 272 409 = (5, 410, 0, 0, []) by decide +kernel) ?_
  refine e_scr (show am_cd 272 410 = (21, 411, 0, 0, []) by decide +kernel) h.1 ?_
  replace h := h.2
  refine e_lda (v := 0) (show am_cd 272 411 = (2, 412, 0, 2, []) by decide +kernel) rfl ?_
  refine e_ldi (show am_cd 272 412 = (2, 414, 4, 0, []) by decide +kernel) rfl ?_
  refine e_ic (show am_cd 272 414 = (0, 415, 0, 2, []) by decide +kernel) ?_
  refine e_iadd (show am_cd 272 415 = (5, 416, 0, 0, []) by decide +kernel) ?_
  refine e_scr (show am_cd 272 416 = (21, 417, 0, 0, []) by decide +kernel) h.1 ?_
  replace h := h.2
  refine e_cV (z := 0) (a := 67) (as := [(0, w 0 (w32 (i + 1)).toNat), (0, w 0 (w32 (i + 2)).toNat)]) (rest := [(0, v)]) (show am_cd 272 417 = (40, 420, 226, 0, [80]) by decide +kernel) (by decide +kernel) rfl rfl (Nat.le_of_ble_eq_true rfl) rfl ?_
  exact h

theorem g_lC142 {d : Nat} {Q : Option aV → aS → Prop} {w : eW} {t : eT} {i v u : Int} {J5 J6 J7 : aV} (h : ((w32 v = w32 u → Ev (d + 120) 272 Q 929 [rA 0, rA 1, rA 67, rA 100, (0, i), J5, J6, J7] [] (enc w t)) ∧ (¬ (w32 v = w32 u) → Q (some (0, 0)) (enc w t)))) : Ev (d + 120) 272 Q 420 [rA 0, rA 1, rA 67, rA 100, (0, i), J5, J6, J7] [(0, u), (0, v)] (enc w t) := by
  refine e_cmp0 (show am_cd 272 420 = (11, 423, 929, 0, []) by decide +kernel) (fun hc => ?_) (fun hc => ?_)
  · replace h := h.1 hc
    exact h
  · replace h := h.2 hc
    refine e_ic (show am_cd 272 423 = (0, 424, 0, 0, []) by decide +kernel) ?_
    exact e_retz (show am_cd 272 424 = (36, 425, 0, 0, []) by decide +kernel) (by decide +kernel) (Or.inl rfl) h

theorem g_lA143 {d : Nat} {Q : Option aV → aS → Prop} {w : eW} {t : eT} {i : Int} {J5 J6 J7 : aV} (h : Cl (d + 119) 143 [rA 1] (enc w t) (fun r S2 => (∀ x, r ≠ some (6, x)) ∧ Ev (d + 120) 272 Q 429 [rA 0, rA 1, rA 67, rA 100, (0, i), J5, J6, J7] (r.toList ++ []) S2)) : Ev (d + 120) 272 Q 425 [rA 0, rA 1, rA 67, rA 100, (0, i), J5, J6, J7] [] (enc w t) := by
  refine e_lda (v := 1) (show am_cd 272 425 = (2, 426, 1, 2, []) by decide +kernel) rfl ?_
  refine e_cV (z := 0) (a := 1) (as := []) (rest := []) (show am_cd 272 426 = (40, 429, 143, 0, [81]) by decide +kernel) (by decide +kernel) rfl rfl (Nat.le_of_ble_eq_true rfl) rfl ?_
  exact h

theorem g_lB143 {d : Nat} {Q : Option aV → aS → Prop} {w : eW} {t : eT} {i v : Int} {J5 J6 J7 : aV} (h : Cl (d + 119) 227 [rA 67] (enc w t) (fun r S2 => (∀ x, r ≠ some (6, x)) ∧ Ev (d + 120) 272 Q 433 [rA 0, rA 1, rA 67, rA 100, (0, i), J5, J6, J7] (r.toList ++ [(0, v)]) S2)) : Ev (d + 120) 272 Q 429 [rA 0, rA 1, rA 67, rA 100, (0, i), J5, J6, J7] [(0, v)] (enc w t) := by
  refine e_lda (v := 67) (show am_cd 272 429 = (2, 430, 2, 2, []) by decide +kernel) rfl ?_
  refine e_cV (z := 0) (a := 67) (as := []) (rest := [(0, v)]) (show am_cd 272 430 = (40, 433, 227, 0, [84]) by decide +kernel) (by decide +kernel) rfl rfl (Nat.le_of_ble_eq_true rfl) rfl ?_
  exact h

theorem g_lC143 {d : Nat} {Q : Option aV → aS → Prop} {w : eW} {t : eT} {i v u : Int} {J5 J6 J7 : aV} (h : ((w32 v = w32 u → Ev (d + 120) 272 Q 929 [rA 0, rA 1, rA 67, rA 100, (0, i), J5, J6, J7] [] (enc w t)) ∧ (¬ (w32 v = w32 u) → Q (some (0, 0)) (enc w t)))) : Ev (d + 120) 272 Q 433 [rA 0, rA 1, rA 67, rA 100, (0, i), J5, J6, J7] [(0, u), (0, v)] (enc w t) := by
  refine e_cmp0 (show am_cd 272 433 = (11, 436, 929, 0, []) by decide +kernel) (fun hc => ?_) (fun hc => ?_)
  · replace h := h.1 hc
    exact h
  · replace h := h.2 hc
    refine e_ic (show am_cd 272 436 = (0, 437, 0, 0, []) by decide +kernel) ?_
    exact e_retz (show am_cd 272 437 = (36, 438, 0, 0, []) by decide +kernel) (by decide +kernel) (Or.inl rfl) h

theorem g_lA144 {d : Nat} {Q : Option aV → aS → Prop} {w : eW} {t : eT} {i : Int} {J5 J6 J7 : aV} (h : Cl (d + 119) 144 [rA 1] (enc w t) (fun r S2 => (∀ x, r ≠ some (6, x)) ∧ Ev (d + 120) 272 Q 442 [rA 0, rA 1, rA 67, rA 100, (0, i), J5, J6, J7] (r.toList ++ []) S2)) : Ev (d + 120) 272 Q 438 [rA 0, rA 1, rA 67, rA 100, (0, i), J5, J6, J7] [] (enc w t) := by
  refine e_lda (v := 1) (show am_cd 272 438 = (2, 439, 1, 2, []) by decide +kernel) rfl ?_
  refine e_cV (z := 0) (a := 1) (as := []) (rest := []) (show am_cd 272 439 = (40, 442, 144, 0, [85]) by decide +kernel) (by decide +kernel) rfl rfl (Nat.le_of_ble_eq_true rfl) rfl ?_
  exact h

theorem g_lB144 {d : Nat} {Q : Option aV → aS → Prop} {w : eW} {t : eT} {i v : Int} {J5 J6 J7 : aV} (h : Cl (d + 119) 236 [rA 67] (enc w t) (fun r S2 => (∀ x, r ≠ some (6, x)) ∧ Ev (d + 120) 272 Q 446 [rA 0, rA 1, rA 67, rA 100, (0, i), J5, J6, J7] (r.toList ++ [(1, v)]) S2)) : Ev (d + 120) 272 Q 442 [rA 0, rA 1, rA 67, rA 100, (0, i), J5, J6, J7] [(1, v)] (enc w t) := by
  refine e_lda (v := 67) (show am_cd 272 442 = (2, 443, 2, 2, []) by decide +kernel) rfl ?_
  refine e_cV (z := 0) (a := 67) (as := []) (rest := [(1, v)]) (show am_cd 272 443 = (40, 446, 236, 0, [89]) by decide +kernel) (by decide +kernel) rfl rfl (Nat.le_of_ble_eq_true rfl) rfl ?_
  exact h

theorem g_lC144 {d : Nat} {Q : Option aV → aS → Prop} {w : eW} {t : eT} {i v u : Int} {J5 J6 J7 : aV} (h : ((w64 v = w64 u → Ev (d + 120) 272 Q 929 [rA 0, rA 1, rA 67, rA 100, (0, i), J5, J6, J7] [] (enc w t)) ∧ (¬ (w64 v = w64 u) → Q (some (0, 0)) (enc w t)))) : Ev (d + 120) 272 Q 446 [rA 0, rA 1, rA 67, rA 100, (0, i), J5, J6, J7] [(1, u), (1, v)] (enc w t) := by
  refine e_lcb0 (show am_cd 272 446 = (9, 447, 0, 0, []) by decide +kernel) (show am_cd 272 447 = (10, 450, 929, 0, []) by decide +kernel) (fun hc => ?_) (fun hc => ?_)
  · replace h := h.1 hc
    exact h
  · replace h := h.2 hc
    refine e_ic (show am_cd 272 450 = (0, 451, 0, 0, []) by decide +kernel) ?_
    exact e_retz (show am_cd 272 451 = (36, 452, 0, 0, []) by decide +kernel) (by decide +kernel) (Or.inl rfl) h

theorem g_lA145 {d : Nat} {Q : Option aV → aS → Prop} {w : eW} {t : eT} {i : Int} {J5 J6 J7 : aV} (h : Cl (d + 119) 145 [rA 1] (enc w t) (fun r S2 => (∀ x, r ≠ some (6, x)) ∧ Ev (d + 120) 272 Q 456 [rA 0, rA 1, rA 67, rA 100, (0, i), J5, J6, J7] (r.toList ++ []) S2)) : Ev (d + 120) 272 Q 452 [rA 0, rA 1, rA 67, rA 100, (0, i), J5, J6, J7] [] (enc w t) := by
  refine e_lda (v := 1) (show am_cd 272 452 = (2, 453, 1, 2, []) by decide +kernel) rfl ?_
  refine e_cV (z := 0) (a := 1) (as := []) (rest := []) (show am_cd 272 453 = (40, 456, 145, 0, [90]) by decide +kernel) (by decide +kernel) rfl rfl (Nat.le_of_ble_eq_true rfl) rfl ?_
  exact h

theorem g_lB145 {d : Nat} {Q : Option aV → aS → Prop} {w : eW} {t : eT} {i v : Int} {J5 J6 J7 : aV} (h : Cl (d + 119) 237 [rA 67] (enc w t) (fun r S2 => (∀ x, r ≠ some (6, x)) ∧ Ev (d + 120) 272 Q 460 [rA 0, rA 1, rA 67, rA 100, (0, i), J5, J6, J7] (r.toList ++ [(1, v)]) S2)) : Ev (d + 120) 272 Q 456 [rA 0, rA 1, rA 67, rA 100, (0, i), J5, J6, J7] [(1, v)] (enc w t) := by
  refine e_lda (v := 67) (show am_cd 272 456 = (2, 457, 2, 2, []) by decide +kernel) rfl ?_
  refine e_cV (z := 0) (a := 67) (as := []) (rest := [(1, v)]) (show am_cd 272 457 = (40, 460, 237, 0, [93]) by decide +kernel) (by decide +kernel) rfl rfl (Nat.le_of_ble_eq_true rfl) rfl ?_
  exact h

theorem g_lC145 {d : Nat} {Q : Option aV → aS → Prop} {w : eW} {t : eT} {i v u : Int} {J5 J6 J7 : aV} (h : ((w64 v = w64 u → Ev (d + 120) 272 Q 929 [rA 0, rA 1, rA 67, rA 100, (0, i), J5, J6, J7] [] (enc w t)) ∧ (¬ (w64 v = w64 u) → Q (some (0, 0)) (enc w t)))) : Ev (d + 120) 272 Q 460 [rA 0, rA 1, rA 67, rA 100, (0, i), J5, J6, J7] [(1, u), (1, v)] (enc w t) := by
  refine e_lcb0 (show am_cd 272 460 = (9, 461, 0, 0, []) by decide +kernel) (show am_cd 272 461 = (10, 464, 929, 0, []) by decide +kernel) (fun hc => ?_) (fun hc => ?_)
  · replace h := h.1 hc
    exact h
  · replace h := h.2 hc
    refine e_ic (show am_cd 272 464 = (0, 465, 0, 0, []) by decide +kernel) ?_
    exact e_retz (show am_cd 272 465 = (36, 466, 0, 0, []) by decide +kernel) (by decide +kernel) (Or.inl rfl) h

theorem g_lA146 {d : Nat} {Q : Option aV → aS → Prop} {w : eW} {t : eT} {i : Int} {J5 J6 J7 : aV} (h : Cl (d + 119) 146 [rA 1] (enc w t) (fun r S2 => (∀ x, r ≠ some (6, x)) ∧ Ev (d + 120) 272 Q 470 [rA 0, rA 1, rA 67, rA 100, (0, i), J5, J6, J7] (r.toList ++ []) S2)) : Ev (d + 120) 272 Q 466 [rA 0, rA 1, rA 67, rA 100, (0, i), J5, J6, J7] [] (enc w t) := by
  refine e_lda (v := 1) (show am_cd 272 466 = (2, 467, 1, 2, []) by decide +kernel) rfl ?_
  refine e_cV (z := 0) (a := 1) (as := []) (rest := []) (show am_cd 272 467 = (40, 470, 146, 0, [94]) by decide +kernel) (by decide +kernel) rfl rfl (Nat.le_of_ble_eq_true rfl) rfl ?_
  exact h

theorem g_lB146 {d : Nat} {Q : Option aV → aS → Prop} {w : eW} {t : eT} {i v : Int} {J5 J6 J7 : aV} (h : Cl (d + 119) 249 [rA 67] (enc w t) (fun r S2 => (∀ x, r ≠ some (6, x)) ∧ Ev (d + 120) 272 Q 474 [rA 0, rA 1, rA 67, rA 100, (0, i), J5, J6, J7] (r.toList ++ [(1, v)]) S2)) : Ev (d + 120) 272 Q 470 [rA 0, rA 1, rA 67, rA 100, (0, i), J5, J6, J7] [(1, v)] (enc w t) := by
  refine e_lda (v := 67) (show am_cd 272 470 = (2, 471, 2, 2, []) by decide +kernel) rfl ?_
  refine e_cV (z := 0) (a := 67) (as := []) (rest := [(1, v)]) (show am_cd 272 471 = (40, 474, 249, 0, [97]) by decide +kernel) (by decide +kernel) rfl rfl (Nat.le_of_ble_eq_true rfl) rfl ?_
  exact h

theorem g_lC146 {d : Nat} {Q : Option aV → aS → Prop} {w : eW} {t : eT} {i v u : Int} {J5 J6 J7 : aV} (h : ((w64 v = w64 u → Ev (d + 120) 272 Q 929 [rA 0, rA 1, rA 67, rA 100, (0, i), J5, J6, J7] [] (enc w t)) ∧ (¬ (w64 v = w64 u) → Q (some (0, 0)) (enc w t)))) : Ev (d + 120) 272 Q 474 [rA 0, rA 1, rA 67, rA 100, (0, i), J5, J6, J7] [(1, u), (1, v)] (enc w t) := by
  refine e_lcb0 (show am_cd 272 474 = (9, 475, 0, 0, []) by decide +kernel) (show am_cd 272 475 = (10, 478, 929, 0, []) by decide +kernel) (fun hc => ?_) (fun hc => ?_)
  · replace h := h.1 hc
    exact h
  · replace h := h.2 hc
    refine e_ic (show am_cd 272 478 = (0, 479, 0, 0, []) by decide +kernel) ?_
    exact e_retz (show am_cd 272 479 = (36, 480, 0, 0, []) by decide +kernel) (by decide +kernel) (Or.inl rfl) h

theorem g_lA148 {d : Nat} {Q : Option aV → aS → Prop} {w : eW} {t : eT} {i : Int} {J5 J6 J7 : aV} (h : Cl (d + 119) 148 [rA 1] (enc w t) (fun r S2 => (∀ x, r ≠ some (6, x)) ∧ Ev (d + 120) 272 Q 484 [rA 0, rA 1, rA 67, rA 100, (0, i), J5, J6, J7] (r.toList ++ []) S2)) : Ev (d + 120) 272 Q 480 [rA 0, rA 1, rA 67, rA 100, (0, i), J5, J6, J7] [] (enc w t) := by
  refine e_lda (v := 1) (show am_cd 272 480 = (2, 481, 1, 2, []) by decide +kernel) rfl ?_
  refine e_cV (z := 0) (a := 1) (as := []) (rest := []) (show am_cd 272 481 = (40, 484, 148, 0, [98]) by decide +kernel) (by decide +kernel) rfl rfl (Nat.le_of_ble_eq_true rfl) rfl ?_
  exact h

theorem g_lB148 {d : Nat} {Q : Option aV → aS → Prop} {w : eW} {t : eT} {i v : Int} {J5 J6 J7 : aV} (h : Cl (d + 119) 253 [rA 67] (enc w t) (fun r S2 => (∀ x, r ≠ some (6, x)) ∧ Ev (d + 120) 272 Q 488 [rA 0, rA 1, rA 67, rA 100, (0, i), J5, J6, J7] (r.toList ++ [(0, v)]) S2)) : Ev (d + 120) 272 Q 484 [rA 0, rA 1, rA 67, rA 100, (0, i), J5, J6, J7] [(0, v)] (enc w t) := by
  refine e_lda (v := 67) (show am_cd 272 484 = (2, 485, 2, 2, []) by decide +kernel) rfl ?_
  refine e_cV (z := 0) (a := 67) (as := []) (rest := [(0, v)]) (show am_cd 272 485 = (40, 488, 253, 0, [101]) by decide +kernel) (by decide +kernel) rfl rfl (Nat.le_of_ble_eq_true rfl) rfl ?_
  exact h

theorem g_lC148 {d : Nat} {Q : Option aV → aS → Prop} {w : eW} {t : eT} {i v u : Int} {J5 J6 J7 : aV} (h : ((w32 v = w32 u → Ev (d + 120) 272 Q 929 [rA 0, rA 1, rA 67, rA 100, (0, i), J5, J6, J7] [] (enc w t)) ∧ (¬ (w32 v = w32 u) → Q (some (0, 0)) (enc w t)))) : Ev (d + 120) 272 Q 488 [rA 0, rA 1, rA 67, rA 100, (0, i), J5, J6, J7] [(0, u), (0, v)] (enc w t) := by
  refine e_cmp0 (show am_cd 272 488 = (11, 491, 929, 0, []) by decide +kernel) (fun hc => ?_) (fun hc => ?_)
  · replace h := h.1 hc
    exact h
  · replace h := h.2 hc
    refine e_ic (show am_cd 272 491 = (0, 492, 0, 0, []) by decide +kernel) ?_
    exact e_retz (show am_cd 272 492 = (36, 493, 0, 0, []) by decide +kernel) (by decide +kernel) (Or.inl rfl) h

theorem g_lA150 {d : Nat} {Q : Option aV → aS → Prop} {w : eW} {t : eT} {i : Int} {J5 J6 J7 : aV} (h : Cl (d + 119) 150 [rA 1] (enc w t) (fun r S2 => (∀ x, r ≠ some (6, x)) ∧ Ev (d + 120) 272 Q 497 [rA 0, rA 1, rA 67, rA 100, (0, i), J5, J6, J7] (r.toList ++ []) S2)) : Ev (d + 120) 272 Q 493 [rA 0, rA 1, rA 67, rA 100, (0, i), J5, J6, J7] [] (enc w t) := by
  refine e_lda (v := 1) (show am_cd 272 493 = (2, 494, 1, 2, []) by decide +kernel) rfl ?_
  refine e_cV (z := 0) (a := 1) (as := []) (rest := []) (show am_cd 272 494 = (40, 497, 150, 0, [102]) by decide +kernel) (by decide +kernel) rfl rfl (Nat.le_of_ble_eq_true rfl) rfl ?_
  exact h

theorem g_lB150 {d : Nat} {Q : Option aV → aS → Prop} {w : eW} {t : eT} {i v : Int} {J5 J6 J7 : aV} (h : Cl (d + 119) 240 [rA 67] (enc w t) (fun r S2 => (∀ x, r ≠ some (6, x)) ∧ Ev (d + 120) 272 Q 501 [rA 0, rA 1, rA 67, rA 100, (0, i), J5, J6, J7] (r.toList ++ [(0, v)]) S2)) : Ev (d + 120) 272 Q 497 [rA 0, rA 1, rA 67, rA 100, (0, i), J5, J6, J7] [(0, v)] (enc w t) := by
  refine e_lda (v := 67) (show am_cd 272 497 = (2, 498, 2, 2, []) by decide +kernel) rfl ?_
  refine e_cV (z := 0) (a := 67) (as := []) (rest := [(0, v)]) (show am_cd 272 498 = (40, 501, 240, 0, [105]) by decide +kernel) (by decide +kernel) rfl rfl (Nat.le_of_ble_eq_true rfl) rfl ?_
  exact h

theorem g_lC150 {d : Nat} {Q : Option aV → aS → Prop} {w : eW} {t : eT} {i v u : Int} {J5 J6 J7 : aV} (h : ((w32 v = w32 u → Ev (d + 120) 272 Q 929 [rA 0, rA 1, rA 67, rA 100, (0, i), J5, J6, J7] [] (enc w t)) ∧ (¬ (w32 v = w32 u) → Q (some (0, 0)) (enc w t)))) : Ev (d + 120) 272 Q 501 [rA 0, rA 1, rA 67, rA 100, (0, i), J5, J6, J7] [(0, u), (0, v)] (enc w t) := by
  refine e_cmp0 (show am_cd 272 501 = (11, 504, 929, 0, []) by decide +kernel) (fun hc => ?_) (fun hc => ?_)
  · replace h := h.1 hc
    exact h
  · replace h := h.2 hc
    refine e_ic (show am_cd 272 504 = (0, 505, 0, 0, []) by decide +kernel) ?_
    exact e_retz (show am_cd 272 505 = (36, 506, 0, 0, []) by decide +kernel) (by decide +kernel) (Or.inl rfl) h

theorem g_lA155 {d : Nat} {Q : Option aV → aS → Prop} {w : eW} {t : eT} {i : Int} {J5 J6 J7 : aV} (h : (0 ≤ w32 (i + 1) ∧ w32 (i + 1) < ((t.1 0).2 : Int)) ∧ (Cl (d + 119) 155 [rA 1, (0, w 0 (w32 (i + 1)).toNat)] (enc w t) (fun r S2 => (∀ x, r ≠ some (6, x)) ∧ Ev (d + 120) 272 Q 732 [rA 0, rA 1, rA 67, rA 100, (0, i), J5, J6, J7] (r.toList ++ []) S2))) : Ev (d + 120) 272 Q 722 [rA 0, rA 1, rA 67, rA 100, (0, i), J5, J6, J7] [] (enc w t) := by
  refine e_lda (v := 1) (show am_cd 272 722 = (2, 723, 1, 2, []) by decide +kernel) rfl ?_
  refine e_lda (v := 0) (show am_cd 272 723 = (2, 724, 0, 2, []) by decide +kernel) rfl ?_
  refine e_ldi (show am_cd 272 724 = (2, 726, 4, 0, []) by decide +kernel) rfl ?_
  refine e_ic (show am_cd 272 726 = (0, 727, 0, 1, []) by decide +kernel) ?_
  refine e_iadd (show am_cd 272 727 = (5, 728, 0, 0, []) by decide +kernel) ?_
  refine e_scr (show am_cd 272 728 = (21, 729, 0, 0, []) by decide +kernel) h.1 ?_
  replace h := h.2
  refine e_cV (z := 0) (a := 1) (as := [(0, w 0 (w32 (i + 1)).toNat)]) (rest := []) (show am_cd 272 729 = (40, 732, 155, 0, [122]) by decide +kernel) (by decide +kernel) rfl rfl (Nat.le_of_ble_eq_true rfl) rfl ?_
  exact h

theorem g_lB155 {d : Nat} {Q : Option aV → aS → Prop} {w : eW} {t : eT} {i v : Int} {J5 J6 J7 : aV} (h : (0 ≤ w32 (i + 1) ∧ w32 (i + 1) < ((t.1 0).2 : Int)) ∧ (Cl (d + 119) 258 [rA 67, (0, w 0 (w32 (i + 1)).toNat)] (enc w t) (fun r S2 => (∀ x, r ≠ some (6, x)) ∧ Ev (d + 120) 272 Q 742 [rA 0, rA 1, rA 67, rA 100, (0, i), J5, J6, J7] (r.toList ++ [(1, v)]) S2))) : Ev (d + 120) 272 Q 732 [rA 0, rA 1, rA 67, rA 100, (0, i), J5, J6, J7] [(1, v)] (enc w t) := by
  refine e_lda (v := 67) (show am_cd 272 732 = (2, 733, 2, 2, []) by decide +kernel) rfl ?_
  refine e_lda (v := 0) (show am_cd 272 733 = (2, 734, 0, 2, []) by decide +kernel) rfl ?_
  refine e_ldi (show am_cd 272 734 = (2, 736, 4, 0, []) by decide +kernel) rfl ?_
  refine e_ic (show am_cd 272 736 = (0, 737, 0, 1, []) by decide +kernel) ?_
  refine e_iadd (show am_cd 272 737 = (5, 738, 0, 0, []) by decide +kernel) ?_
  refine e_scr (show am_cd 272 738 = (21, 739, 0, 0, []) by decide +kernel) h.1 ?_
  replace h := h.2
  refine e_cV (z := 0) (a := 67) (as := [(0, w 0 (w32 (i + 1)).toNat)]) (rest := [(1, v)]) (show am_cd 272 739 = (40, 742, 258, 0, [125]) by decide +kernel) (by decide +kernel) rfl rfl (Nat.le_of_ble_eq_true rfl) rfl ?_
  exact h

theorem g_lC155 {d : Nat} {Q : Option aV → aS → Prop} {w : eW} {t : eT} {i v u : Int} {J5 J6 J7 : aV} (h : ((w64 v = w64 u → Ev (d + 120) 272 Q 929 [rA 0, rA 1, rA 67, rA 100, (0, i), J5, J6, J7] [] (enc w t)) ∧ (¬ (w64 v = w64 u) → Q (some (0, 0)) (enc w t)))) : Ev (d + 120) 272 Q 742 [rA 0, rA 1, rA 67, rA 100, (0, i), J5, J6, J7] [(1, u), (1, v)] (enc w t) := by
  refine e_lcb0 (show am_cd 272 742 = (9, 743, 0, 0, []) by decide +kernel) (show am_cd 272 743 = (10, 746, 929, 0, []) by decide +kernel) (fun hc => ?_) (fun hc => ?_)
  · replace h := h.1 hc
    exact h
  · replace h := h.2 hc
    refine e_ic (show am_cd 272 746 = (0, 747, 0, 0, []) by decide +kernel) ?_
    exact e_retz (show am_cd 272 747 = (36, 748, 0, 0, []) by decide +kernel) (by decide +kernel) (Or.inl rfl) h

theorem g_lA156 {d : Nat} {Q : Option aV → aS → Prop} {w : eW} {t : eT} {i : Int} {J5 J6 J7 : aV} (h : (0 ≤ w32 (i + 1) ∧ w32 (i + 1) < ((t.1 0).2 : Int)) ∧ (Cl (d + 119) 156 [rA 1, (0, w 0 (w32 (i + 1)).toNat)] (enc w t) (fun r S2 => (∀ x, r ≠ some (6, x)) ∧ Ev (d + 120) 272 Q 758 [rA 0, rA 1, rA 67, rA 100, (0, i), J5, J6, J7] (r.toList ++ []) S2))) : Ev (d + 120) 272 Q 748 [rA 0, rA 1, rA 67, rA 100, (0, i), J5, J6, J7] [] (enc w t) := by
  refine e_lda (v := 1) (show am_cd 272 748 = (2, 749, 1, 2, []) by decide +kernel) rfl ?_
  refine e_lda (v := 0) (show am_cd 272 749 = (2, 750, 0, 2, []) by decide +kernel) rfl ?_
  refine e_ldi (show am_cd 272 750 = (2, 752, 4, 0, []) by decide +kernel) rfl ?_
  refine e_ic (show am_cd 272 752 = (0, 753, 0, 1, []) by decide +kernel) ?_
  refine e_iadd (show am_cd 272 753 = (5, 754, 0, 0, []) by decide +kernel) ?_
  refine e_scr (show am_cd 272 754 = (21, 755, 0, 0, []) by decide +kernel) h.1 ?_
  replace h := h.2
  refine e_cV (z := 0) (a := 1) (as := [(0, w 0 (w32 (i + 1)).toNat)]) (rest := []) (show am_cd 272 755 = (40, 758, 156, 0, [126]) by decide +kernel) (by decide +kernel) rfl rfl (Nat.le_of_ble_eq_true rfl) rfl ?_
  exact h

theorem g_lB156 {d : Nat} {Q : Option aV → aS → Prop} {w : eW} {t : eT} {i v : Int} {J5 J6 J7 : aV} (h : (0 ≤ w32 (i + 1) ∧ w32 (i + 1) < ((t.1 0).2 : Int)) ∧ (Cl (d + 119) 260 [rA 67, (0, w 0 (w32 (i + 1)).toNat)] (enc w t) (fun r S2 => (∀ x, r ≠ some (6, x)) ∧ Ev (d + 120) 272 Q 768 [rA 0, rA 1, rA 67, rA 100, (0, i), J5, J6, J7] (r.toList ++ [(0, v)]) S2))) : Ev (d + 120) 272 Q 758 [rA 0, rA 1, rA 67, rA 100, (0, i), J5, J6, J7] [(0, v)] (enc w t) := by
  refine e_lda (v := 67) (show am_cd 272 758 = (2, 759, 2, 2, []) by decide +kernel) rfl ?_
  refine e_lda (v := 0) (show am_cd 272 759 = (2, 760, 0, 2, []) by decide +kernel) rfl ?_
  refine e_ldi (show am_cd 272 760 = (2, 762, 4, 0, []) by decide +kernel) rfl ?_
  refine e_ic (show am_cd 272 762 = (0, 763, 0, 1, []) by decide +kernel) ?_
  refine e_iadd (show am_cd 272 763 = (5, 764, 0, 0, []) by decide +kernel) ?_
  refine e_scr (show am_cd 272 764 = (21, 765, 0, 0, []) by decide +kernel) h.1 ?_
  replace h := h.2
  refine e_cV (z := 0) (a := 67) (as := [(0, w 0 (w32 (i + 1)).toNat)]) (rest := [(0, v)]) (show am_cd 272 765 = (40, 768, 260, 0, [129]) by decide +kernel) (by decide +kernel) rfl rfl (Nat.le_of_ble_eq_true rfl) rfl ?_
  exact h

theorem g_lC156 {d : Nat} {Q : Option aV → aS → Prop} {w : eW} {t : eT} {i v u : Int} {J5 J6 J7 : aV} (h : ((w32 v = w32 u → Ev (d + 120) 272 Q 929 [rA 0, rA 1, rA 67, rA 100, (0, i), J5, J6, J7] [] (enc w t)) ∧ (¬ (w32 v = w32 u) → Q (some (0, 0)) (enc w t)))) : Ev (d + 120) 272 Q 768 [rA 0, rA 1, rA 67, rA 100, (0, i), J5, J6, J7] [(0, u), (0, v)] (enc w t) := by
  refine e_cmp0 (show am_cd 272 768 = (11, 771, 929, 0, []) by decide +kernel) (fun hc => ?_) (fun hc => ?_)
  · replace h := h.1 hc
    exact h
  · replace h := h.2 hc
    refine e_ic (show am_cd 272 771 = (0, 772, 0, 0, []) by decide +kernel) ?_
    exact e_retz (show am_cd 272 772 = (36, 773, 0, 0, []) by decide +kernel) (by decide +kernel) (Or.inl rfl) h

theorem g_lA157 {d : Nat} {Q : Option aV → aS → Prop} {w : eW} {t : eT} {i : Int} {J5 J6 J7 : aV} (h : (0 ≤ w32 (i + 1) ∧ w32 (i + 1) < ((t.1 0).2 : Int)) ∧ (0 ≤ w32 (i + 2) ∧ w32 (i + 2) < ((t.1 0).2 : Int)) ∧ (Cl (d + 119) 157 [rA 1, (0, w 0 (w32 (i + 1)).toNat), (0, w 0 (w32 (i + 2)).toNat)] (enc w t) (fun r S2 => (∀ x, r ≠ some (6, x)) ∧ Ev (d + 120) 272 Q 789 [rA 0, rA 1, rA 67, rA 100, (0, i), J5, J6, J7] (r.toList ++ []) S2))) : Ev (d + 120) 272 Q 773 [rA 0, rA 1, rA 67, rA 100, (0, i), J5, J6, J7] [] (enc w t) := by
  refine e_lda (v := 1) (show am_cd 272 773 = (2, 774, 1, 2, []) by decide +kernel) rfl ?_
  refine e_lda (v := 0) (show am_cd 272 774 = (2, 775, 0, 2, []) by decide +kernel) rfl ?_
  refine e_ldi (show am_cd 272 775 = (2, 777, 4, 0, []) by decide +kernel) rfl ?_
  refine e_ic (show am_cd 272 777 = (0, 778, 0, 1, []) by decide +kernel) ?_
  refine e_iadd (show am_cd 272 778 = (5, 779, 0, 0, []) by decide +kernel) ?_
  refine e_scr (show am_cd 272 779 = (21, 780, 0, 0, []) by decide +kernel) h.1 ?_
  replace h := h.2
  refine e_lda (v := 0) (show am_cd 272 780 = (2, 781, 0, 2, []) by decide +kernel) rfl ?_
  refine e_ldi (show am_cd 272 781 = (2, 783, 4, 0, []) by decide +kernel) rfl ?_
  refine e_ic (show am_cd 272 783 = (0, 784, 0, 2, []) by decide +kernel) ?_
  refine e_iadd (show am_cd 272 784 = (5, 785, 0, 0, []) by decide +kernel) ?_
  refine e_scr (show am_cd 272 785 = (21, 786, 0, 0, []) by decide +kernel) h.1 ?_
  replace h := h.2
  refine e_cV (z := 0) (a := 1) (as := [(0, w 0 (w32 (i + 1)).toNat), (0, w 0 (w32 (i + 2)).toNat)]) (rest := []) (show am_cd 272 786 = (40, 789, 157, 0, [130]) by decide +kernel) (by decide +kernel) rfl rfl (Nat.le_of_ble_eq_true rfl) rfl ?_
  exact h

theorem g_lB157 {d : Nat} {Q : Option aV → aS → Prop} {w : eW} {t : eT} {i v : Int} {J5 J6 J7 : aV} (h : (0 ≤ w32 (i + 1) ∧ w32 (i + 1) < ((t.1 0).2 : Int)) ∧ (0 ≤ w32 (i + 2) ∧ w32 (i + 2) < ((t.1 0).2 : Int)) ∧ (Cl (d + 119) 262 [rA 67, (0, w 0 (w32 (i + 1)).toNat), (0, w 0 (w32 (i + 2)).toNat)] (enc w t) (fun r S2 => (∀ x, r ≠ some (6, x)) ∧ Ev (d + 120) 272 Q 805 [rA 0, rA 1, rA 67, rA 100, (0, i), J5, J6, J7] (r.toList ++ [(1, v)]) S2))) : Ev (d + 120) 272 Q 789 [rA 0, rA 1, rA 67, rA 100, (0, i), J5, J6, J7] [(1, v)] (enc w t) := by
  refine e_lda (v := 67) (show am_cd 272 789 = (2, 790, 2, 2, []) by decide +kernel) rfl ?_
  refine e_lda (v := 0) (show am_cd 272 790 = (2, 791, 0, 2, []) by decide +kernel) rfl ?_
  refine e_ldi (show am_cd 272 791 = (2, 793, 4, 0, []) by decide +kernel) rfl ?_
  refine e_ic (show am_cd 272 793 = (0, 794, 0, 1, []) by decide +kernel) ?_
  refine e_iadd (show am_cd 272 794 = (5, 795, 0, 0, []) by decide +kernel) ?_
  refine e_scr (show am_cd 272 795 = (21, 796, 0, 0, []) by decide +kernel) h.1 ?_
  replace h := h.2
  refine e_lda (v := 0) (show am_cd 272 796 = (2, 797, 0, 2, []) by decide +kernel) rfl ?_
  refine e_ldi (show am_cd 272 797 = (2, 799, 4, 0, []) by decide +kernel) rfl ?_
  refine e_ic (show am_cd 272 799 = (0, 800, 0, 2, []) by decide +kernel) ?_
  refine e_iadd (show am_cd 272 800 = (5, 801, 0, 0, []) by decide +kernel) ?_
  refine e_scr (show am_cd 272 801 = (21, 802, 0, 0, []) by decide +kernel) h.1 ?_
  replace h := h.2
  refine e_cV (z := 0) (a := 67) (as := [(0, w 0 (w32 (i + 1)).toNat), (0, w 0 (w32 (i + 2)).toNat)]) (rest := [(1, v)]) (show am_cd 272 802 = (40, 805, 262, 0, [134]) by decide +kernel) (by decide +kernel) rfl rfl (Nat.le_of_ble_eq_true rfl) rfl ?_
  exact h

theorem g_lC157 {d : Nat} {Q : Option aV → aS → Prop} {w : eW} {t : eT} {i v u : Int} {J5 J6 J7 : aV} (h : ((w64 v = w64 u → Ev (d + 120) 272 Q 929 [rA 0, rA 1, rA 67, rA 100, (0, i), J5, J6, J7] [] (enc w t)) ∧ (¬ (w64 v = w64 u) → Q (some (0, 0)) (enc w t)))) : Ev (d + 120) 272 Q 805 [rA 0, rA 1, rA 67, rA 100, (0, i), J5, J6, J7] [(1, u), (1, v)] (enc w t) := by
  refine e_lcb0 (show am_cd 272 805 = (9, 806, 0, 0, []) by decide +kernel) (show am_cd 272 806 = (10, 809, 929, 0, []) by decide +kernel) (fun hc => ?_) (fun hc => ?_)
  · replace h := h.1 hc
    exact h
  · replace h := h.2 hc
    refine e_ic (show am_cd 272 809 = (0, 810, 0, 0, []) by decide +kernel) ?_
    exact e_retz (show am_cd 272 810 = (36, 811, 0, 0, []) by decide +kernel) (by decide +kernel) (Or.inl rfl) h

theorem g_lA158 {d : Nat} {Q : Option aV → aS → Prop} {w : eW} {t : eT} {i : Int} {J5 J6 J7 : aV} (h : (0 ≤ w32 (i + 1) ∧ w32 (i + 1) < ((t.1 0).2 : Int)) ∧ (0 ≤ w32 (i + 2) ∧ w32 (i + 2) < ((t.1 0).2 : Int)) ∧ (Cl (d + 119) 158 [rA 1, (0, w 0 (w32 (i + 1)).toNat), (0, w 0 (w32 (i + 2)).toNat)] (enc w t) (fun r S2 => (∀ x, r ≠ some (6, x)) ∧ Ev (d + 120) 272 Q 827 [rA 0, rA 1, rA 67, rA 100, (0, i), J5, J6, J7] (r.toList ++ []) S2))) : Ev (d + 120) 272 Q 811 [rA 0, rA 1, rA 67, rA 100, (0, i), J5, J6, J7] [] (enc w t) := by
  refine e_lda (v := 1) (show am_cd 272 811 = (2, 812, 1, 2, []) by decide +kernel) rfl ?_
  refine e_lda (v := 0) (show am_cd 272 812 = (2, 813, 0, 2, []) by decide +kernel) rfl ?_
  refine e_ldi (show am_cd 272 813 = (2, 815, 4, 0, []) by decide +kernel) rfl ?_
  refine e_ic (show am_cd 272 815 = (0, 816, 0, 1, []) by decide +kernel) ?_
  refine e_iadd (show am_cd 272 816 = (5, 817, 0, 0, []) by decide +kernel) ?_
  refine e_scr (show am_cd 272 817 = (21, 818, 0, 0, []) by decide +kernel) h.1 ?_
  replace h := h.2
  refine e_lda (v := 0) (show am_cd 272 818 = (2, 819, 0, 2, []) by decide +kernel) rfl ?_
  refine e_ldi (show am_cd 272 819 = (2, 821, 4, 0, []) by decide +kernel) rfl ?_
  refine e_ic (show am_cd 272 821 = (0, 822, 0, 2, []) by decide +kernel) ?_
  refine e_iadd (show am_cd 272 822 = (5, 823, 0, 0, []) by decide +kernel) ?_
  refine e_scr (show am_cd 272 823 = (21, 824, 0, 0, []) by decide +kernel) h.1 ?_
  replace h := h.2
  refine e_cV (z := 0) (a := 1) (as := [(0, w 0 (w32 (i + 1)).toNat), (0, w 0 (w32 (i + 2)).toNat)]) (rest := []) (show am_cd 272 824 = (40, 827, 158, 0, [135]) by decide +kernel) (by decide +kernel) rfl rfl (Nat.le_of_ble_eq_true rfl) rfl ?_
  exact h

theorem g_lB158 {d : Nat} {Q : Option aV → aS → Prop} {w : eW} {t : eT} {i v : Int} {J5 J6 J7 : aV} (h : (0 ≤ w32 (i + 1) ∧ w32 (i + 1) < ((t.1 0).2 : Int)) ∧ (0 ≤ w32 (i + 2) ∧ w32 (i + 2) < ((t.1 0).2 : Int)) ∧ (Cl (d + 119) 264 [rA 67, (0, w 0 (w32 (i + 1)).toNat), (0, w 0 (w32 (i + 2)).toNat)] (enc w t) (fun r S2 => (∀ x, r ≠ some (6, x)) ∧ Ev (d + 120) 272 Q 843 [rA 0, rA 1, rA 67, rA 100, (0, i), J5, J6, J7] (r.toList ++ [(1, v)]) S2))) : Ev (d + 120) 272 Q 827 [rA 0, rA 1, rA 67, rA 100, (0, i), J5, J6, J7] [(1, v)] (enc w t) := by
  refine e_lda (v := 67) (show am_cd 272 827 = (2, 828, 2, 2, []) by decide +kernel) rfl ?_
  refine e_lda (v := 0) (show am_cd 272 828 = (2, 829, 0, 2, []) by decide +kernel) rfl ?_
  refine e_ldi (show am_cd 272 829 = (2, 831, 4, 0, []) by decide +kernel) rfl ?_
  refine e_ic (show am_cd 272 831 = (0, 832, 0, 1, []) by decide +kernel) ?_
  refine e_iadd (show am_cd 272 832 = (5, 833, 0, 0, []) by decide +kernel) ?_
  refine e_scr (show am_cd 272 833 = (21, 834, 0, 0, []) by decide +kernel) h.1 ?_
  replace h := h.2
  refine e_lda (v := 0) (show am_cd 272 834 = (2, 835, 0, 2, []) by decide +kernel) rfl ?_
  refine e_ldi (show am_cd 272 835 = (2, 837, 4, 0, []) by decide +kernel) rfl ?_
  refine e_ic (show am_cd 272 837 = (0, 838, 0, 2, []) by decide +kernel) ?_
  refine e_iadd (show am_cd 272 838 = (5, 839, 0, 0, []) by decide +kernel) ?_
  refine e_scr (show am_cd 272 839 = (21, 840, 0, 0, []) by decide +kernel) h.1 ?_
  replace h := h.2
  refine e_cV (z := 0) (a := 67) (as := [(0, w 0 (w32 (i + 1)).toNat), (0, w 0 (w32 (i + 2)).toNat)]) (rest := [(1, v)]) (show am_cd 272 840 = (40, 843, 264, 0, [138]) by decide +kernel) (by decide +kernel) rfl rfl (Nat.le_of_ble_eq_true rfl) rfl ?_
  exact h

theorem g_lC158 {d : Nat} {Q : Option aV → aS → Prop} {w : eW} {t : eT} {i v u : Int} {J5 J6 J7 : aV} (h : ((w64 v = w64 u → Ev (d + 120) 272 Q 929 [rA 0, rA 1, rA 67, rA 100, (0, i), J5, J6, J7] [] (enc w t)) ∧ (¬ (w64 v = w64 u) → Q (some (0, 0)) (enc w t)))) : Ev (d + 120) 272 Q 843 [rA 0, rA 1, rA 67, rA 100, (0, i), J5, J6, J7] [(1, u), (1, v)] (enc w t) := by
  refine e_lcb0 (show am_cd 272 843 = (9, 844, 0, 0, []) by decide +kernel) (show am_cd 272 844 = (10, 847, 929, 0, []) by decide +kernel) (fun hc => ?_) (fun hc => ?_)
  · replace h := h.1 hc
    exact h
  · replace h := h.2 hc
    refine e_ic (show am_cd 272 847 = (0, 848, 0, 0, []) by decide +kernel) ?_
    exact e_retz (show am_cd 272 848 = (36, 849, 0, 0, []) by decide +kernel) (by decide +kernel) (Or.inl rfl) h

theorem g_lA159 {d : Nat} {Q : Option aV → aS → Prop} {w : eW} {t : eT} {i : Int} {J5 J6 J7 : aV} (h : (0 ≤ w32 (i + 1) ∧ w32 (i + 1) < ((t.1 0).2 : Int)) ∧ (Cl (d + 119) 159 [rA 1, (0, w 0 (w32 (i + 1)).toNat)] (enc w t) (fun r S2 => (∀ x, r ≠ some (6, x)) ∧ Ev (d + 120) 272 Q 859 [rA 0, rA 1, rA 67, rA 100, (0, i), J5, J6, J7] (r.toList ++ []) S2))) : Ev (d + 120) 272 Q 849 [rA 0, rA 1, rA 67, rA 100, (0, i), J5, J6, J7] [] (enc w t) := by
  refine e_lda (v := 1) (show am_cd 272 849 = (2, 850, 1, 2, []) by decide +kernel) rfl ?_
  refine e_lda (v := 0) (show am_cd 272 850 = (2, 851, 0, 2, []) by decide +kernel) rfl ?_
  refine e_ldi (show am_cd 272 851 = (2, 853, 4, 0, []) by decide +kernel) rfl ?_
  refine e_ic (show am_cd 272 853 = (0, 854, 0, 1, []) by decide +kernel) ?_
  refine e_iadd (show am_cd 272 854 = (5, 855, 0, 0, []) by decide +kernel) ?_
  refine e_scr (show am_cd 272 855 = (21, 856, 0, 0, []) by decide +kernel) h.1 ?_
  replace h := h.2
  refine e_cV (z := 0) (a := 1) (as := [(0, w 0 (w32 (i + 1)).toNat)]) (rest := []) (show am_cd 272 856 = (40, 859, 159, 0, [139]) by decide +kernel) (by decide +kernel) rfl rfl (Nat.le_of_ble_eq_true rfl) rfl ?_
  exact h

theorem g_lB159 {d : Nat} {Q : Option aV → aS → Prop} {w : eW} {t : eT} {i v : Int} {J5 J6 J7 : aV} (h : (0 ≤ w32 (i + 1) ∧ w32 (i + 1) < ((t.1 0).2 : Int)) ∧ (Cl (d + 119) 265 [rA 67, (0, w 0 (w32 (i + 1)).toNat)] (enc w t) (fun r S2 => (∀ x, r ≠ some (6, x)) ∧ Ev (d + 120) 272 Q 869 [rA 0, rA 1, rA 67, rA 100, (0, i), J5, J6, J7] (r.toList ++ [(0, v)]) S2))) : Ev (d + 120) 272 Q 859 [rA 0, rA 1, rA 67, rA 100, (0, i), J5, J6, J7] [(0, v)] (enc w t) := by
  refine e_lda (v := 67) (show am_cd 272 859 = (2, 860, 2, 2, []) by decide +kernel) rfl ?_
  refine e_lda (v := 0) (show am_cd 272 860 = (2, 861, 0, 2, []) by decide +kernel) rfl ?_
  refine e_ldi (show am_cd 272 861 = (2, 863, 4, 0, []) by decide +kernel) rfl ?_
  refine e_ic (show am_cd 272 863 = (0, 864, 0, 1, []) by decide +kernel) ?_
  refine e_iadd (show am_cd 272 864 = (5, 865, 0, 0, []) by decide +kernel) ?_
  refine e_scr (show am_cd 272 865 = (21, 866, 0, 0, []) by decide +kernel) h.1 ?_
  replace h := h.2
  refine e_cV (z := 0) (a := 67) (as := [(0, w 0 (w32 (i + 1)).toNat)]) (rest := [(0, v)]) (show am_cd 272 866 = (40, 869, 265, 0, [142]) by decide +kernel) (by decide +kernel) rfl rfl (Nat.le_of_ble_eq_true rfl) rfl ?_
  exact h

theorem g_lC159 {d : Nat} {Q : Option aV → aS → Prop} {w : eW} {t : eT} {i v u : Int} {J5 J6 J7 : aV} (h : ((w32 v = w32 u → Ev (d + 120) 272 Q 929 [rA 0, rA 1, rA 67, rA 100, (0, i), J5, J6, J7] [] (enc w t)) ∧ (¬ (w32 v = w32 u) → Q (some (0, 0)) (enc w t)))) : Ev (d + 120) 272 Q 869 [rA 0, rA 1, rA 67, rA 100, (0, i), J5, J6, J7] [(0, u), (0, v)] (enc w t) := by
  refine e_cmp0 (show am_cd 272 869 = (11, 872, 929, 0, []) by decide +kernel) (fun hc => ?_) (fun hc => ?_)
  · replace h := h.1 hc
    exact h
  · replace h := h.2 hc
    refine e_ic (show am_cd 272 872 = (0, 873, 0, 0, []) by decide +kernel) ?_
    exact e_retz (show am_cd 272 873 = (36, 874, 0, 0, []) by decide +kernel) (by decide +kernel) (Or.inl rfl) h

