/-! The class: stateOf. -/

theorem g_so0 {d : Nat} {Q : Option aV → aS → Prop} {w : eW} {t : eT} {x z : Int} {m : eW} (h : ∃ g1, (LN w m ∧ RC w m ∧ WFp m ∧ WFr m ∧ x = ((trG m g1 : Nat) : Int) ∧ gL g1 ≤ 16) ∧ (∀ x2, (x2 = ((mfG m g1 : Nat) : Int)) → ((¬ w32 x2 = 0 → (0 ≤ w32 (iand x 31) ∧ w32 (iand x 31) < 17) ∧ (Ev (d + 3) 34 Q 46 [rA 37, rA 15, (0, x), (0, z), (0, x2), (1, lor (lor (w32 x2) (lshl (w32 (iand (ishr x 13) 255)) 17)) (lshl (w32 (w 23 (w32 (iand x 31)).toNat)) 25)), (9, 0), (9, 0), (9, 0), (9, 0)] [] (enc w t))) ∧ (¬ (¬ w32 x2 = 0) → Q (some (0, (-1))) (enc w t))))) : Cl (d + 3) 34 [rA 37, rA 15, (0, x), (0, z)] (enc w t) Q := by
  show Ev (d + 3) 34 Q 0 [rA 37, rA 15, (0, x), (0, z), (9, 0), (9, 0), (9, 0), (9, 0), (9, 0), (9, 0)] [] (enc w t)
  refine e_lda (v := 15) (show am_cd 34 0 = (2, 1, 1, 2, []) by decide +kernel) rfl ?_
  refine e_ldi (show am_cd 34 1 = (2, 2, 2, 0, []) by decide +kernel) rfl ?_
  refine e_cV (z := 0) (a := 15) (as := [(0, x)]) (rest := []) (show am_cd 34 2 = (40, 5, 76, 0, [69]) by decide +kernel) (by decide +kernel) rfl rfl (Nat.le_of_ble_eq_true rfl) rfl ?_
  obtain ⟨g1, h⟩ := h
  refine Cl.mono (Cl.up (c_rmayU (d := d) g1 h.1) (by omega)) ?_
  rintro _ _ ⟨x2, rfl, rfl, hp⟩
  refine ⟨fun _ h9 => (by cases h9), ?_⟩
  replace h := h.2 x2 hp
  show Ev _ 34 _ 5 [rA 37, rA 15, (0, x), (0, z), (9, 0), (9, 0), (9, 0), (9, 0), (9, 0), (9, 0)] [(0, x2)] _
  refine e_sti (la2 := [rA 37, rA 15, (0, x), (0, z), (0, x2), (9, 0), (9, 0), (9, 0), (9, 0), (9, 0)]) (show am_cd 34 5 = (3, 7, 4, 0, []) by decide +kernel) rfl ?_
  refine e_ldi (show am_cd 34 7 = (2, 9, 4, 0, []) by decide +kernel) rfl ?_
  refine e_if1 (show am_cd 34 9 = (10, 12, 14, 1, []) by decide +kernel) (fun hc => ?_) (fun hc => ?_)
  · replace h := h.1 hc
    refine e_ldi (show am_cd 34 14 = (2, 16, 4, 0, []) by decide +kernel) rfl ?_
    refine e_i2l (show am_cd 34 16 = (8, 17, 0, 0, []) by decide +kernel) ?_
    refine e_ldi (show am_cd 34 17 = (2, 18, 2, 0, []) by decide +kernel) rfl ?_
    refine e_ic (show am_cd 34 18 = (0, 20, 1, 13, []) by decide +kernel) ?_
    refine e_ishr (show am_cd 34 20 = (5, 21, 7, 0, []) by decide +kernel) ?_
    refine e_ic (show am_cd 34 21 = (0, 24, 2, 255, []) by decide +kernel) ?_
    refine e_iand (show am_cd 34 24 = (5, 25, 3, 0, []) by decide +kernel) ?_
    refine e_i2l (show am_cd 34 25 = (8, 26, 0, 0, []) by decide +kernel) ?_
    refine e_ic (show am_cd 34 26 = (0, 28, 1, 17, []) by decide +kernel) ?_
    refine e_lshl (show am_cd 34 28 = (7, 29, 0, 0, []) by decide +kernel) ?_
    refine e_lor (show am_cd 34 29 = (6, 30, 2, 0, []) by decide +kernel) ?_
    refine e_lda (v := 15) (show am_cd 34 30 = (2, 31, 1, 2, []) by decide +kernel) rfl ?_
    refine e_getr (a := 15) (r := 23) (show am_cd 34 31 = (18, 34, 707, 2, [70]) by decide +kernel) (by decide +kernel) (by decide +kernel) rfl ?_
    refine e_ldi (show am_cd 34 34 = (2, 35, 2, 0, []) by decide +kernel) rfl ?_
    refine e_ic (show am_cd 34 35 = (0, 37, 1, 31, []) by decide +kernel) ?_
    refine e_iand (show am_cd 34 37 = (5, 38, 3, 0, []) by decide +kernel) ?_
    refine e_iald (a := 23) (n := 17) (show am_cd 34 38 = (21, 39, 0, 0, []) by decide +kernel) (by decide +kernel) (by decide +kernel) (by decide +kernel) h.1 ?_
    replace h := h.2
    refine e_i2l (show am_cd 34 39 = (8, 40, 0, 0, []) by decide +kernel) ?_
    refine e_ic (show am_cd 34 40 = (0, 42, 1, 25, []) by decide +kernel) ?_
    refine e_lshl (show am_cd 34 42 = (7, 43, 0, 0, []) by decide +kernel) ?_
    refine e_lor (show am_cd 34 43 = (6, 44, 2, 0, []) by decide +kernel) ?_
    refine e_stl (la2 := [rA 37, rA 15, (0, x), (0, z), (0, x2), (1, lor (lor (w32 x2) (lshl (w32 (iand (ishr x 13) 255)) 17)) (lshl (w32 (w 23 (w32 (iand x 31)).toNat)) 25)), (9, 0), (9, 0), (9, 0), (9, 0)]) (show am_cd 34 44 = (3, 46, 5, 1, []) by decide +kernel) rfl ?_
    exact h
  · replace h := h.2 hc
    refine e_ic (show am_cd 34 12 = (0, 13, 0, -1, []) by decide +kernel) ?_
    exact e_reti (show am_cd 34 13 = (36, 14, 0, 0, []) by decide +kernel) (by decide +kernel) h

theorem g_so1 {d : Nat} {Q : Option aV → aS → Prop} {w : eW} {t : eT} {x z y k : Int} {m : eW} (h : (0 ≤ w32 (iand (lxor (lxor (lxor k (lshr k 7)) (lshr k 17)) (lshr k 25)) 63) ∧ w32 (iand (lxor (lxor (lxor k (lshr k 7)) (lshr k 17)) (lshr k 25)) 63) < 64) ∧ (Ev (d + 3) 34 Q 84 [rA 37, rA 15, (0, x), (0, z), (0, y), (1, k), (9, 0), (0, iand (lxor (lxor (lxor k (lshr k 7)) (lshr k 17)) (lshr k 25)) 63), (0, w 38 (w32 (iand (lxor (lxor (lxor k (lshr k 7)) (lshr k 17)) (lshr k 25)) 63)).toNat), (0, 0)] [] (enc w t))) : Ev (d + 3) 34 Q 46 [rA 37, rA 15, (0, x), (0, z), (0, y), (1, k), (9, 0), (9, 0), (9, 0), (9, 0)] [] (enc w t) := by
  refine e_ldl (show am_cd 34 46 = (2, 48, 5, 1, []) by decide +kernel) rfl ?_
  refine e_ldl (show am_cd 34 48 = (2, 50, 5, 1, []) by decide +kernel) rfl ?_
  refine e_ic (show am_cd 34 50 = (0, 52, 1, 7, []) by decide +kernel) ?_
  refine e_lshr (show am_cd 34 52 = (7, 53, 1, 0, []) by decide +kernel) ?_
  refine e_lxor (show am_cd 34 53 = (6, 54, 3, 0, []) by decide +kernel) ?_
  refine e_ldl (show am_cd 34 54 = (2, 56, 5, 1, []) by decide +kernel) rfl ?_
  refine e_ic (show am_cd 34 56 = (0, 58, 1, 17, []) by decide +kernel) ?_
  refine e_lshr (show am_cd 34 58 = (7, 59, 1, 0, []) by decide +kernel) ?_
  refine e_lxor (show am_cd 34 59 = (6, 60, 3, 0, []) by decide +kernel) ?_
  refine e_ldl (show am_cd 34 60 = (2, 62, 5, 1, []) by decide +kernel) rfl ?_
  refine e_ic (show am_cd 34 62 = (0, 64, 1, 25, []) by decide +kernel) ?_
  refine e_lshr (show am_cd 34 64 = (7, 65, 1, 0, []) by decide +kernel) ?_
  refine e_lxor (show am_cd 34 65 = (6, 66, 3, 0, []) by decide +kernel) ?_
  refine e_l2i (show am_cd 34 66 = (8, 67, 1, 0, []) by decide +kernel) ?_
  refine e_ic (show am_cd 34 67 = (0, 69, 1, 63, []) by decide +kernel) ?_
  refine e_iand (show am_cd 34 69 = (5, 70, 3, 0, []) by decide +kernel) ?_
  refine e_sti (la2 := [rA 37, rA 15, (0, x), (0, z), (0, y), (1, k), (9, 0), (0, iand (lxor (lxor (lxor k (lshr k 7)) (lshr k 17)) (lshr k 25)) 63), (9, 0), (9, 0)]) (show am_cd 34 70 = (3, 72, 7, 0, []) by decide +kernel) rfl ?_
  refine e_lda (v := 37) (show am_cd 34 72 = (2, 73, 0, 2, []) by decide +kernel) rfl ?_
  refine e_getr (a := 37) (r := 38) (show am_cd 34 73 = (18, 76, 400, 2, [9]) by decide +kernel) (by decide +kernel) (by decide +kernel) rfl ?_
  refine e_ldi (show am_cd 34 76 = (2, 78, 7, 0, []) by decide +kernel) rfl ?_
  refine e_iald (a := 38) (n := 64) (show am_cd 34 78 = (21, 79, 0, 0, []) by decide +kernel) (by decide +kernel) (by decide +kernel) (by decide +kernel) h.1 ?_
  replace h := h.2
  refine e_sti (la2 := [rA 37, rA 15, (0, x), (0, z), (0, y), (1, k), (9, 0), (0, iand (lxor (lxor (lxor k (lshr k 7)) (lshr k 17)) (lshr k 25)) 63), (0, w 38 (w32 (iand (lxor (lxor (lxor k (lshr k 7)) (lshr k 17)) (lshr k 25)) 63)).toNat), (9, 0)]) (show am_cd 34 79 = (3, 81, 8, 0, []) by decide +kernel) rfl ?_
  refine e_ic (show am_cd 34 81 = (0, 82, 0, 0, []) by decide +kernel) ?_
  refine e_sti (la2 := [rA 37, rA 15, (0, x), (0, z), (0, y), (1, k), (9, 0), (0, iand (lxor (lxor (lxor k (lshr k 7)) (lshr k 17)) (lshr k 25)) 63), (0, w 38 (w32 (iand (lxor (lxor (lxor k (lshr k 7)) (lshr k 17)) (lshr k 25)) 63)).toNat), (0, 0)]) (show am_cd 34 82 = (3, 84, 9, 0, []) by decide +kernel) rfl ?_
  exact h

theorem g_so2 {d : Nat} {Q : Option aV → aS → Prop} {w : eW} {t : eT} {x z y k bk s i : Int} {m : eW} (h : ((w32 (w 37 7) ≤ w32 i → Ev (d + 3) 34 Q 130 [rA 37, rA 15, (0, x), (0, z), (0, y), (1, k), (9, 0), (0, bk), (0, s), (0, i)] [] (enc w t)) ∧ (¬ (w32 (w 37 7) ≤ w32 i) → ((w32 s = w32 (-1) → Ev (d + 3) 34 Q 130 [rA 37, rA 15, (0, x), (0, z), (0, y), (1, k), (9, 0), (0, bk), (0, s), (0, i)] [] (enc w t)) ∧ (¬ (w32 s = w32 (-1)) → (dyK t (w 37 1) 21 ∧ 0 ≤ w32 s ∧ w32 s < dyL t (w 37 1)) ∧ ((¬ w64 (w (w 37 1).toNat (w32 s).toNat) = w64 k → (dyK t (w 37 2) 20 ∧ 0 ≤ w32 s ∧ w32 s < dyL t (w 37 2)) ∧ (Ev (d + 3) 34 Q 84 [rA 37, rA 15, (0, x), (0, z), (0, y), (1, k), (9, 0), (0, bk), (0, w (w 37 2).toNat (w32 s).toNat), (0, i + 1)] [] (enc w t))) ∧ (¬ (¬ w64 (w (w 37 1).toNat (w32 s).toNat) = w64 k) → Q (some (0, s)) (enc w t)))))))) : Ev (d + 3) 34 Q 84 [rA 37, rA 15, (0, x), (0, z), (0, y), (1, k), (9, 0), (0, bk), (0, s), (0, i)] [] (enc w t) := by
  refine e_ldi (show am_cd 34 84 = (2, 86, 9, 0, []) by decide +kernel) rfl ?_
  refine e_lda (v := 37) (show am_cd 34 86 = (2, 87, 0, 2, []) by decide +kernel) rfl ?_
  refine e_getf (a := 37) (tg := 0) (show am_cd 34 87 = (18, 90, 407, 0, [38]) by decide +kernel) (by decide +kernel) (by decide +kernel) rfl ?_
  refine e_cmp3 (show am_cd 34 90 = (11, 93, 130, 3, []) by decide +kernel) (fun hc => ?_) (fun hc => ?_)
  · replace h := h.1 hc
    exact h
  · replace h := h.2 hc
    refine e_ldi (show am_cd 34 93 = (2, 95, 8, 0, []) by decide +kernel) rfl ?_
    refine e_ic (show am_cd 34 95 = (0, 96, 0, -1, []) by decide +kernel) ?_
    refine e_cmp0 (show am_cd 34 96 = (11, 99, 130, 0, []) by decide +kernel) (fun hc => ?_) (fun hc => ?_)
    · replace h := h.1 hc
      exact h
    · replace h := h.2 hc
      refine e_lda (v := 37) (show am_cd 34 99 = (2, 100, 0, 2, []) by decide +kernel) rfl ?_
      refine e_getf (a := 37) (tg := 2) (show am_cd 34 100 = (18, 103, 401, 2, [15]) by decide +kernel) (by decide +kernel) (by decide +kernel) rfl ?_
      refine e_ldi (show am_cd 34 103 = (2, 105, 8, 0, []) by decide +kernel) rfl ?_
      refine e_laldD (show am_cd 34 105 = (22, 106, 0, 0, []) by decide +kernel) h.1 ?_
      replace h := h.2
      refine e_ldl (show am_cd 34 106 = (2, 108, 5, 1, []) by decide +kernel) rfl ?_
      refine e_lcb1 (show am_cd 34 108 = (9, 109, 0, 0, []) by decide +kernel) (show am_cd 34 109 = (10, 112, 115, 1, []) by decide +kernel) (fun hc => ?_) (fun hc => ?_)
      · replace h := h.1 hc
        refine e_lda (v := 37) (show am_cd 34 115 = (2, 116, 0, 2, []) by decide +kernel) rfl ?_
        refine e_getf (a := 37) (tg := 2) (show am_cd 34 116 = (18, 119, 402, 2, [19]) by decide +kernel) (by decide +kernel) (by decide +kernel) rfl ?_
        refine e_ldi (show am_cd 34 119 = (2, 121, 8, 0, []) by decide +kernel) rfl ?_
        refine e_ialdD (show am_cd 34 121 = (21, 122, 0, 0, []) by decide +kernel) h.1 ?_
        replace h := h.2
        refine e_sti (la2 := [rA 37, rA 15, (0, x), (0, z), (0, y), (1, k), (9, 0), (0, bk), (0, w (w 37 2).toNat (w32 s).toNat), (0, i)]) (show am_cd 34 122 = (3, 124, 8, 0, []) by decide +kernel) rfl ?_
        refine e_inc (la2 := [rA 37, rA 15, (0, x), (0, z), (0, y), (1, k), (9, 0), (0, bk), (0, w (w 37 2).toNat (w32 s).toNat), (0, i + 1)]) (show am_cd 34 124 = (4, 127, 9, 1, []) by decide +kernel) rfl rfl ?_
        refine e_go (show am_cd 34 127 = (12, 84, 0, 0, []) by decide +kernel) ?_
        exact h
      · replace h := h.2 hc
        refine e_ldi (show am_cd 34 112 = (2, 114, 8, 0, []) by decide +kernel) rfl ?_
        exact e_reti (show am_cd 34 114 = (36, 115, 0, 0, []) by decide +kernel) (by decide +kernel) h

theorem g_so3 {d : Nat} {Q : Option aV → aS → Prop} {w : eW} {t : eT} {x z y k bk s i : Int} {m : eW} (h : ((w32 (w 37 7) < w32 4369 → Cl (d + 2) 35 [rA 37] (enc w t) (fun r S2 => (∀ x, r ≠ some (6, x)) ∧ Ev (d + 3) 34 Q 146 [rA 37, rA 15, (0, x), (0, z), (0, y), (1, k), (9, 0), (0, bk), (0, s), (0, i)] (r.toList ++ []) S2)) ∧ (¬ (w32 (w 37 7) < w32 4369) → Q (some (0, (-1))) (enc w t)))) : Ev (d + 3) 34 Q 130 [rA 37, rA 15, (0, x), (0, z), (0, y), (1, k), (9, 0), (0, bk), (0, s), (0, i)] [] (enc w t) := by
  refine e_lda (v := 37) (show am_cd 34 130 = (2, 131, 0, 2, []) by decide +kernel) rfl ?_
  refine e_getf (a := 37) (tg := 0) (show am_cd 34 131 = (18, 134, 407, 0, [38]) by decide +kernel) (by decide +kernel) (by decide +kernel) rfl ?_
  refine e_ic (show am_cd 34 134 = (0, 137, 2, 4369, []) by decide +kernel) ?_
  refine e_cmp2 (show am_cd 34 137 = (11, 140, 142, 2, []) by decide +kernel) (fun hc => ?_) (fun hc => ?_)
  · replace h := h.1 hc
    refine e_lda (v := 37) (show am_cd 34 142 = (2, 143, 0, 2, []) by decide +kernel) rfl ?_
    refine e_cV (z := 0) (a := 37) (as := []) (rest := []) (show am_cd 34 143 = (40, 146, 35, 0, [73]) by decide +kernel) (by decide +kernel) rfl rfl (Nat.le_of_ble_eq_true rfl) rfl ?_
    exact h
  · replace h := h.2 hc
    refine e_ic (show am_cd 34 140 = (0, 141, 0, -1, []) by decide +kernel) ?_
    exact e_reti (show am_cd 34 141 = (36, 142, 0, 0, []) by decide +kernel) (by decide +kernel) h

theorem g_so4 {d : Nat} {Q : Option aV → aS → Prop} {w : eW} {t : eT} {x z y k bk s i : Int} {m : eW} (h : (dyK t (w 37 1) 21 ∧ 0 ≤ w32 (w 37 7) ∧ w32 (w 37 7) < dyL t (w 37 1)) ∧ (Ev (d + 3) 34 Q 157 [rA 37, rA 15, (0, x), (0, z), (0, y), (1, k), (9, 0), (0, bk), (0, s), (0, i)] [] (enc (wu w (w 37 1).toNat (w32 (w 37 7)).toNat k) t))) : Ev (d + 3) 34 Q 146 [rA 37, rA 15, (0, x), (0, z), (0, y), (1, k), (9, 0), (0, bk), (0, s), (0, i)] [] (enc w t) := by
  refine e_lda (v := 37) (show am_cd 34 146 = (2, 147, 0, 2, []) by decide +kernel) rfl ?_
  refine e_getf (a := 37) (tg := 2) (show am_cd 34 147 = (18, 150, 401, 2, [15]) by decide +kernel) (by decide +kernel) (by decide +kernel) rfl ?_
  refine e_lda (v := 37) (show am_cd 34 150 = (2, 151, 0, 2, []) by decide +kernel) rfl ?_
  refine e_getf (a := 37) (tg := 0) (show am_cd 34 151 = (18, 154, 407, 0, [38]) by decide +kernel) (by decide +kernel) (by decide +kernel) rfl ?_
  refine e_ldl (show am_cd 34 154 = (2, 156, 5, 1, []) by decide +kernel) rfl ?_
  refine e_lastD (show am_cd 34 156 = (25, 157, 0, 0, []) by decide +kernel) h.1 ?_
  replace h := h.2
  exact h

theorem g_so5 {d : Nat} {Q : Option aV → aS → Prop} {w : eW} {t : eT} {x z y k bk s i : Int} {m : eW} (h : (dyK t (w 37 3) 20 ∧ 0 ≤ w32 (w 37 7) ∧ w32 (w 37 7) < dyL t (w 37 3)) ∧ (Ev (d + 3) 34 Q 167 [rA 37, rA 15, (0, x), (0, z), (0, y), (1, k), (9, 0), (0, bk), (0, s), (0, i)] [] (enc (wu w (w 37 3).toNat (w32 (w 37 7)).toNat x) t))) : Ev (d + 3) 34 Q 157 [rA 37, rA 15, (0, x), (0, z), (0, y), (1, k), (9, 0), (0, bk), (0, s), (0, i)] [] (enc w t) := by
  refine e_lda (v := 37) (show am_cd 34 157 = (2, 158, 0, 2, []) by decide +kernel) rfl ?_
  refine e_getf (a := 37) (tg := 2) (show am_cd 34 158 = (18, 161, 403, 2, [22]) by decide +kernel) (by decide +kernel) (by decide +kernel) rfl ?_
  refine e_lda (v := 37) (show am_cd 34 161 = (2, 162, 0, 2, []) by decide +kernel) rfl ?_
  refine e_getf (a := 37) (tg := 0) (show am_cd 34 162 = (18, 165, 407, 0, [38]) by decide +kernel) (by decide +kernel) (by decide +kernel) rfl ?_
  refine e_ldi (show am_cd 34 165 = (2, 166, 2, 0, []) by decide +kernel) rfl ?_
  refine e_iastD (show am_cd 34 166 = (24, 167, 0, 0, []) by decide +kernel) h.1 ?_
  replace h := h.2
  exact h

theorem g_so6 {d : Nat} {Q : Option aV → aS → Prop} {w : eW} {t : eT} {x z y k bk s i : Int} {m : eW} (h : (dyK t (w 37 4) 20 ∧ 0 ≤ w32 (w 37 7) ∧ w32 (w 37 7) < dyL t (w 37 4)) ∧ (Ev (d + 3) 34 Q 177 [rA 37, rA 15, (0, x), (0, z), (0, y), (1, k), (9, 0), (0, bk), (0, s), (0, i)] [] (enc (wu w (w 37 4).toNat (w32 (w 37 7)).toNat z) t))) : Ev (d + 3) 34 Q 167 [rA 37, rA 15, (0, x), (0, z), (0, y), (1, k), (9, 0), (0, bk), (0, s), (0, i)] [] (enc w t) := by
  refine e_lda (v := 37) (show am_cd 34 167 = (2, 168, 0, 2, []) by decide +kernel) rfl ?_
  refine e_getf (a := 37) (tg := 2) (show am_cd 34 168 = (18, 171, 404, 2, [25]) by decide +kernel) (by decide +kernel) (by decide +kernel) rfl ?_
  refine e_lda (v := 37) (show am_cd 34 171 = (2, 172, 0, 2, []) by decide +kernel) rfl ?_
  refine e_getf (a := 37) (tg := 0) (show am_cd 34 172 = (18, 175, 407, 0, [38]) by decide +kernel) (by decide +kernel) (by decide +kernel) rfl ?_
  refine e_ldi (show am_cd 34 175 = (2, 176, 3, 0, []) by decide +kernel) rfl ?_
  refine e_iastD (show am_cd 34 176 = (24, 177, 0, 0, []) by decide +kernel) h.1 ?_
  replace h := h.2
  exact h

theorem g_so7 {d : Nat} {Q : Option aV → aS → Prop} {w : eW} {t : eT} {x z y k bk s i : Int} {m : eW} (h : (0 ≤ w32 bk ∧ w32 bk < 64) ∧ (dyK t (w 37 2) 20 ∧ 0 ≤ w32 (w 37 7) ∧ w32 (w 37 7) < dyL t (w 37 2)) ∧ (Ev (d + 3) 34 Q 193 [rA 37, rA 15, (0, x), (0, z), (0, y), (1, k), (9, 0), (0, bk), (0, s), (0, i)] [] (enc (wu w (w 37 2).toNat (w32 (w 37 7)).toNat (w 38 (w32 bk).toNat)) t))) : Ev (d + 3) 34 Q 177 [rA 37, rA 15, (0, x), (0, z), (0, y), (1, k), (9, 0), (0, bk), (0, s), (0, i)] [] (enc w t) := by
  refine e_lda (v := 37) (show am_cd 34 177 = (2, 178, 0, 2, []) by decide +kernel) rfl ?_
  refine e_getf (a := 37) (tg := 2) (show am_cd 34 178 = (18, 181, 402, 2, [19]) by decide +kernel) (by decide +kernel) (by decide +kernel) rfl ?_
  refine e_lda (v := 37) (show am_cd 34 181 = (2, 182, 0, 2, []) by decide +kernel) rfl ?_
  refine e_getf (a := 37) (tg := 0) (show am_cd 34 182 = (18, 185, 407, 0, [38]) by decide +kernel) (by decide +kernel) (by decide +kernel) rfl ?_
  refine e_lda (v := 37) (show am_cd 34 185 = (2, 186, 0, 2, []) by decide +kernel) rfl ?_
  refine e_getr (a := 37) (r := 38) (show am_cd 34 186 = (18, 189, 400, 2, [9]) by decide +kernel) (by decide +kernel) (by decide +kernel) rfl ?_
  refine e_ldi (show am_cd 34 189 = (2, 191, 7, 0, []) by decide +kernel) rfl ?_
  refine e_iald (a := 38) (n := 64) (show am_cd 34 191 = (21, 192, 0, 0, []) by decide +kernel) (by decide +kernel) (by decide +kernel) (by decide +kernel) h.1 ?_
  replace h := h.2
  refine e_iastD (show am_cd 34 192 = (24, 193, 0, 0, []) by decide +kernel) h.1 ?_
  replace h := h.2
  exact h

theorem g_so8 {d : Nat} {Q : Option aV → aS → Prop} {w : eW} {t : eT} {x z y k bk s i : Int} {m : eW} (h : (0 ≤ w32 bk ∧ w32 bk < 64) ∧ (Q (some (0, ((w 37 7) + 1) - 1)) (enc (wu (wu w 38 (w32 bk).toNat (w 37 7)) 37 7 ((w 37 7) + 1)) t))) : Ev (d + 3) 34 Q 193 [rA 37, rA 15, (0, x), (0, z), (0, y), (1, k), (9, 0), (0, bk), (0, s), (0, i)] [] (enc w t) := by
  refine e_lda (v := 37) (show am_cd 34 193 = (2, 194, 0, 2, []) by decide +kernel) rfl ?_
  refine e_getr (a := 37) (r := 38) (show am_cd 34 194 = (18, 197, 400, 2, [9]) by decide +kernel) (by decide +kernel) (by decide +kernel) rfl ?_
  refine e_ldi (show am_cd 34 197 = (2, 199, 7, 0, []) by decide +kernel) rfl ?_
  refine e_lda (v := 37) (show am_cd 34 199 = (2, 200, 0, 2, []) by decide +kernel) rfl ?_
  refine e_getf (a := 37) (tg := 0) (show am_cd 34 200 = (18, 203, 407, 0, [38]) by decide +kernel) (by decide +kernel) (by decide +kernel) rfl ?_
  refine e_iast (a := 38) (n := 64) (show am_cd 34 203 = (24, 204, 0, 0, []) by decide +kernel) (by decide +kernel) (by decide +kernel) (by decide +kernel) h.1 ?_
  replace h := h.2
  refine e_lda (v := 37) (show am_cd 34 204 = (2, 205, 0, 2, []) by decide +kernel) rfl ?_
  refine e_dup (show am_cd 34 205 = (13, 206, 0, 0, []) by decide +kernel) (by decide) ?_
  refine e_getfE (a := 37) (tg := 0) (v := w 37 7) (show am_cd 34 206 = (18, 209, 407, 0, [38]) by decide +kernel) (by decide +kernel) (by decide +kernel) rfl rfl ?_
  refine e_ic (show am_cd 34 209 = (0, 210, 0, 1, []) by decide +kernel) ?_
  refine e_iadd (show am_cd 34 210 = (5, 211, 0, 0, []) by decide +kernel) ?_
  refine e_putf (a := 37) (show am_cd 34 211 = (19, 214, 407, 0, [38]) by decide +kernel) (by decide +kernel) (by decide +kernel) rfl (fun h9 => absurd h9 (by decide)) (fun h9 => absurd h9 (by decide +kernel)) ?_
  refine e_lda (v := 37) (show am_cd 34 214 = (2, 215, 0, 2, []) by decide +kernel) rfl ?_
  refine e_getfE (a := 37) (tg := 0) (v := (w 37 7) + 1) (show am_cd 34 215 = (18, 218, 407, 0, [38]) by decide +kernel) (by decide +kernel) (by decide +kernel) rfl rfl ?_
  refine e_ic (show am_cd 34 218 = (0, 219, 0, 1, []) by decide +kernel) ?_
  refine e_isub (show am_cd 34 219 = (5, 220, 1, 0, []) by decide +kernel) ?_
  exact e_reti (show am_cd 34 220 = (36, 221, 0, 0, []) by decide +kernel) (by decide +kernel) h

