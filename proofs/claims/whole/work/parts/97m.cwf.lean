/-! The class: the first row that fits. -/

theorem c_loZ {d : Nat} {w : eW} {t : eT} {f : Int} (h : (0 : Int) ≤ f ∧ (f : Int) < 2147483648) : Cl d 14 [(0, f)] (enc w t) (fun r S2 => r = some (0, loI f.toNat) ∧ S2 = enc w t) := by
  obtain ⟨F, rfl⟩ := Int.eq_ofNat_of_zero_le h.1
  exact c_lo (by omega)

theorem g_wf {d : Nat} {Q : Option aV → aS → Prop} {w : eW} {t : eT} {n : Int} {m : eW} (h : Ev (d + 1) 13 Q 4 [rA 61, (0, n), (0, n - 2), (9, 0)] [] (enc w t)) : Cl (d + 1) 13 [rA 61, (0, n)] (enc w t) Q := by
  show Ev (d + 1) 13 Q 0 [rA 61, (0, n), (9, 0), (9, 0)] [] (enc w t)
  refine e_ldi (show am_cd 13 0 = (2, 1, 1, 0, []) by decide +kernel) rfl ?_
  refine e_ic (show am_cd 13 1 = (0, 2, 0, 2, []) by decide +kernel) ?_
  refine e_isub (show am_cd 13 2 = (5, 3, 1, 0, []) by decide +kernel) ?_
  refine e_sti (la2 := [rA 61, (0, n), (0, n - 2), (9, 0)]) (show am_cd 13 3 = (3, 4, 2, 0, []) by decide +kernel) rfl ?_
  exact h

theorem g_wf1 {d : Nat} {Q : Option aV → aS → Prop} {w : eW} {t : eT} {n i : Int} {m : eW} (h : ((w32 i < 0 → Ev (d + 1) 13 Q 57 [rA 61, (0, n), (0, (-1)), (0, 0)] [] (enc w t)) ∧ (¬ (w32 i < 0) → (0 ≤ w32 (i + 1) ∧ w32 (i + 1) < 4) ∧ ((¬ w32 (iand (w 62 (w32 (i + 1)).toNat) (ixor (w 8 8) (-1))) = 0 → Ev (d + 1) 13 Q 4 [rA 61, (0, n), (0, i + (-1)), (9, 0)] [] (enc w t)) ∧ (¬ (¬ w32 (iand (w 62 (w32 (i + 1)).toNat) (ixor (w 8 8) (-1))) = 0) → (0 ≤ w32 i ∧ w32 i < 4) ∧ (0 ≤ w32 i ∧ w32 i < 4) ∧ (Ev (d + 1) 13 Q 4 [rA 61, (0, n), (0, i + (-1)), (9, 0)] [] (enc (wu w 62 (w32 i).toNat (iand (w 62 (w32 i).toNat) (ixor (w 8 8) (-1)))) t))))))) : Ev (d + 1) 13 Q 4 [rA 61, (0, n), (0, i), (9, 0)] [] (enc w t) := by
  refine e_ldi (show am_cd 13 4 = (2, 5, 2, 0, []) by decide +kernel) rfl ?_
  refine e_if2 (show am_cd 13 5 = (10, 8, 53, 2, []) by decide +kernel) (fun hc => ?_) (fun hc => ?_)
  · replace h := h.1 hc
    refine e_ic (show am_cd 13 53 = (0, 54, 0, -1, []) by decide +kernel) ?_
    refine e_sti (la2 := [rA 61, (0, n), (0, (-1)), (9, 0)]) (show am_cd 13 54 = (3, 55, 2, 0, []) by decide +kernel) rfl ?_
    refine e_ic (show am_cd 13 55 = (0, 56, 0, 0, []) by decide +kernel) ?_
    refine e_sti (la2 := [rA 61, (0, n), (0, (-1)), (0, 0)]) (show am_cd 13 56 = (3, 57, 3, 0, []) by decide +kernel) rfl ?_
    exact h
  · replace h := h.2 hc
    refine e_lda (v := 61) (show am_cd 13 8 = (2, 9, 0, 2, []) by decide +kernel) rfl ?_
    refine e_getr (a := 61) (r := 62) (show am_cd 13 9 = (18, 12, 102, 2, [9]) by decide +kernel) (by decide +kernel) (by decide +kernel) rfl ?_
    refine e_ldi (show am_cd 13 12 = (2, 13, 2, 0, []) by decide +kernel) rfl ?_
    refine e_ic (show am_cd 13 13 = (0, 14, 0, 1, []) by decide +kernel) ?_
    refine e_iadd (show am_cd 13 14 = (5, 15, 0, 0, []) by decide +kernel) ?_
    refine e_iald (a := 62) (n := 4) (show am_cd 13 15 = (21, 16, 0, 0, []) by decide +kernel) (by decide +kernel) (by decide +kernel) (by decide +kernel) h.1 ?_
    replace h := h.2
    refine e_lda (v := 61) (show am_cd 13 16 = (2, 17, 0, 2, []) by decide +kernel) rfl ?_
    refine e_getr (a := 61) (r := 8) (show am_cd 13 17 = (18, 20, 100, 2, [18]) by decide +kernel) (by decide +kernel) (by decide +kernel) rfl ?_
    refine e_getf (a := 8) (tg := 0) (show am_cd 13 20 = (18, 23, 8, 0, [80]) by decide +kernel) (by decide +kernel) (by decide +kernel) rfl ?_
    refine e_ic (show am_cd 13 23 = (0, 24, 0, -1, []) by decide +kernel) ?_
    refine e_ixor (show am_cd 13 24 = (5, 25, 5, 0, []) by decide +kernel) ?_
    refine e_iand (show am_cd 13 25 = (5, 26, 3, 0, []) by decide +kernel) ?_
    refine e_if1 (show am_cd 13 26 = (10, 29, 47, 1, []) by decide +kernel) (fun hc => ?_) (fun hc => ?_)
    · replace h := h.1 hc
      refine e_inc (la2 := [rA 61, (0, n), (0, i + (-1)), (9, 0)]) (show am_cd 13 47 = (4, 50, 2, -1, []) by decide +kernel) rfl rfl ?_
      refine e_go (show am_cd 13 50 = (12, 4, 0, 0, []) by decide +kernel) ?_
      exact h
    · replace h := h.2 hc
      refine e_lda (v := 61) (show am_cd 13 29 = (2, 30, 0, 2, []) by decide +kernel) rfl ?_
      refine e_getr (a := 61) (r := 62) (show am_cd 13 30 = (18, 33, 102, 2, [9]) by decide +kernel) (by decide +kernel) (by decide +kernel) rfl ?_
      refine e_ldi (show am_cd 13 33 = (2, 34, 2, 0, []) by decide +kernel) rfl ?_
      refine e_dup2 (show am_cd 13 34 = (14, 35, 0, 0, []) by decide +kernel) (by decide) ?_
      refine e_iald (a := 62) (n := 4) (show am_cd 13 35 = (21, 36, 0, 0, []) by decide +kernel) (by decide +kernel) (by decide +kernel) (by decide +kernel) h.1 ?_
      replace h := h.2
      refine e_lda (v := 61) (show am_cd 13 36 = (2, 37, 0, 2, []) by decide +kernel) rfl ?_
      refine e_getr (a := 61) (r := 8) (show am_cd 13 37 = (18, 40, 100, 2, [18]) by decide +kernel) (by decide +kernel) (by decide +kernel) rfl ?_
      refine e_getf (a := 8) (tg := 0) (show am_cd 13 40 = (18, 43, 8, 0, [80]) by decide +kernel) (by decide +kernel) (by decide +kernel) rfl ?_
      refine e_ic (show am_cd 13 43 = (0, 44, 0, -1, []) by decide +kernel) ?_
      refine e_ixor (show am_cd 13 44 = (5, 45, 5, 0, []) by decide +kernel) ?_
      refine e_iand (show am_cd 13 45 = (5, 46, 3, 0, []) by decide +kernel) ?_
      refine e_iast (a := 62) (n := 4) (show am_cd 13 46 = (24, 47, 0, 0, []) by decide +kernel) (by decide +kernel) (by decide +kernel) (by decide +kernel) h.1 ?_
      replace h := h.2
      refine e_inc (la2 := [rA 61, (0, n), (0, i + (-1)), (9, 0)]) (show am_cd 13 47 = (4, 50, 2, -1, []) by decide +kernel) rfl rfl ?_
      refine e_go (show am_cd 13 50 = (12, 4, 0, 0, []) by decide +kernel) ?_
      exact h

theorem g_wf2 {d : Nat} {Q : Option aV → aS → Prop} {w : eW} {t : eT} {n y i : Int} {m : eW} (h : ((w32 n ≤ w32 i → Q (some (0, 1)) (enc w t)) ∧ (¬ (w32 n ≤ w32 i) → (0 ≤ w32 i ∧ w32 i < 4) ∧ ((0 : Int) ≤ iand (w 62 (w32 i).toNat) y ∧ (iand (w 62 (w32 i).toNat) y : Int) < 2147483648) ∧ (0 ≤ w32 i ∧ w32 i < 4) ∧ (0 ≤ w32 i ∧ w32 i < 4) ∧ ((¬ w32 (loI (iand (w 62 (w32 i).toNat) y).toNat) = w32 (-1) → (0 ≤ w32 i ∧ w32 i < 4) ∧ (AC (wu w 63 (w32 i).toNat (loI (iand (w 62 (w32 i).toNat) y).toNat)) m ∧ WFp m ∧ ((0 : Int) ≤ loI (iand (w 62 (w32 i).toNat) y).toNat ∧ (loI (iand (w 62 (w32 i).toNat) y).toNat : Int) < 32)) ∧ (((isI m (loI (iand (w 62 (w32 i).toNat) y).toNat).toNat) = false → Ev (d + 1) 13 Q 57 [rA 61, (0, n), (0, (-1)), (0, i + 1)] [] (enc (wu w 63 (w32 i).toNat (loI (iand (w 62 (w32 i).toNat) y).toNat)) t)) ∧ ((isI m (loI (iand (w 62 (w32 i).toNat) y).toNat).toNat) = true → Ev (d + 1) 13 Q 57 [rA 61, (0, n), (0, ixor (w 8 8) (-1)), (0, i + 1)] [] (enc (wu w 63 (w32 i).toNat (loI (iand (w 62 (w32 i).toNat) y).toNat)) t)))) ∧ (¬ (¬ w32 (loI (iand (w 62 (w32 i).toNat) y).toNat) = w32 (-1)) → Q (some (0, 0)) (enc (wu w 63 (w32 i).toNat (loI (iand (w 62 (w32 i).toNat) y).toNat)) t)))))) : Ev (d + 1) 13 Q 57 [rA 61, (0, n), (0, y), (0, i)] [] (enc w t) := by
  refine e_ldi (show am_cd 13 57 = (2, 58, 3, 0, []) by decide +kernel) rfl ?_
  refine e_ldi (show am_cd 13 58 = (2, 59, 1, 0, []) by decide +kernel) rfl ?_
  refine e_cmp3 (show am_cd 13 59 = (11, 62, 127, 3, []) by decide +kernel) (fun hc => ?_) (fun hc => ?_)
  · replace h := h.1 hc
    refine e_ic (show am_cd 13 127 = (0, 128, 0, 1, []) by decide +kernel) ?_
    exact e_retz (show am_cd 13 128 = (36, 129, 0, 0, []) by decide +kernel) (by decide +kernel) (Or.inr rfl) h
  · replace h := h.2 hc
    refine e_lda (v := 61) (show am_cd 13 62 = (2, 63, 0, 2, []) by decide +kernel) rfl ?_
    refine e_getr (a := 61) (r := 63) (show am_cd 13 63 = (18, 66, 103, 2, [15]) by decide +kernel) (by decide +kernel) (by decide +kernel) rfl ?_
    refine e_ldi (show am_cd 13 66 = (2, 67, 3, 0, []) by decide +kernel) rfl ?_
    refine e_lda (v := 61) (show am_cd 13 67 = (2, 68, 0, 2, []) by decide +kernel) rfl ?_
    refine e_getr (a := 61) (r := 62) (show am_cd 13 68 = (18, 71, 102, 2, [9]) by decide +kernel) (by decide +kernel) (by decide +kernel) rfl ?_
    refine e_ldi (show am_cd 13 71 = (2, 72, 3, 0, []) by decide +kernel) rfl ?_
    refine e_iald (a := 62) (n := 4) (show am_cd 13 72 = (21, 73, 0, 0, []) by decide +kernel) (by decide +kernel) (by decide +kernel) (by decide +kernel) h.1 ?_
    replace h := h.2
    refine e_ldi (show am_cd 13 73 = (2, 74, 2, 0, []) by decide +kernel) rfl ?_
    refine e_iand (show am_cd 13 74 = (5, 75, 3, 0, []) by decide +kernel) ?_
    refine e_cS (z := 0) (as := [(0, iand (w 62 (w32 i).toNat) y)]) (rest := [(0, i), rA 63]) (show am_cd 13 75 = (40, 78, 14, 1, [83]) by decide +kernel) (by decide) rfl rfl (Nat.le_of_ble_eq_true rfl) rfl ?_
    refine Cl.mono (Cl.up (c_loZ (d := d) h.1) (by omega)) ?_
    rintro _ _ ⟨rfl, rfl⟩
    refine ⟨fun _ h9 => (by cases h9), ?_⟩
    replace h := h.2
    show Ev _ 13 _ 78 [rA 61, (0, n), (0, y), (0, i)] [(0, loI (iand (w 62 (w32 i).toNat) y).toNat), (0, i), rA 63] _
    refine e_iast (a := 63) (n := 4) (show am_cd 13 78 = (24, 79, 0, 0, []) by decide +kernel) (by decide +kernel) (by decide +kernel) (by decide +kernel) h.1 ?_
    replace h := h.2
    refine e_lda (v := 61) (show am_cd 13 79 = (2, 80, 0, 2, []) by decide +kernel) rfl ?_
    refine e_getr (a := 61) (r := 63) (show am_cd 13 80 = (18, 83, 103, 2, [15]) by decide +kernel) (by decide +kernel) (by decide +kernel) rfl ?_
    refine e_ldi (show am_cd 13 83 = (2, 84, 3, 0, []) by decide +kernel) rfl ?_
    refine e_ialdE (a := 63) (n := 4) (v := loI (iand (w 62 (w32 i).toNat) y).toNat) (show am_cd 13 84 = (21, 85, 0, 0, []) by decide +kernel) (by decide +kernel) (by decide +kernel) (by decide +kernel) h.1 (by simp [wu]) ?_
    replace h := h.2
    refine e_ic (show am_cd 13 85 = (0, 86, 0, -1, []) by decide +kernel) ?_
    refine e_cmp1 (show am_cd 13 86 = (11, 89, 91, 1, []) by decide +kernel) (fun hc => ?_) (fun hc => ?_)
    · replace h := h.1 hc
      refine e_lda (v := 61) (show am_cd 13 91 = (2, 92, 0, 2, []) by decide +kernel) rfl ?_
      refine e_getr (a := 61) (r := 8) (show am_cd 13 92 = (18, 95, 100, 2, [18]) by decide +kernel) (by decide +kernel) (by decide +kernel) rfl ?_
      refine e_lda (v := 61) (show am_cd 13 95 = (2, 96, 0, 2, []) by decide +kernel) rfl ?_
      refine e_getr (a := 61) (r := 63) (show am_cd 13 96 = (18, 99, 103, 2, [15]) by decide +kernel) (by decide +kernel) (by decide +kernel) rfl ?_
      refine e_ldi (show am_cd 13 99 = (2, 100, 3, 0, []) by decide +kernel) rfl ?_
      refine e_ialdE (a := 63) (n := 4) (v := loI (iand (w 62 (w32 i).toNat) y).toNat) (show am_cd 13 100 = (21, 101, 0, 0, []) by decide +kernel) (by decide +kernel) (by decide +kernel) (by decide +kernel) h.1 (by simp [wu]) ?_
      replace h := h.2
      refine e_cV (z := 0) (a := 8) (as := [(0, loI (iand (w 62 (w32 i).toNat) y).toNat)]) (rest := []) (show am_cd 13 101 = (40, 104, 3, 0, [87]) by decide +kernel) (by decide +kernel) rfl rfl (Nat.le_of_ble_eq_true rfl) rfl ?_
      refine Cl.mono (Cl.up (c_isIc (d := d) h.1) (by omega)) ?_
      rintro _ _ ⟨rfl, rfl⟩
      refine ⟨fun _ h9 => (by cases h9), ?_⟩
      replace h := h.2
      show Ev _ 13 _ 104 [rA 61, (0, n), (0, y), (0, i)] [(0, bI (isI m (loI (iand (w 62 (w32 i).toNat) y).toNat).toNat))] _
      refine e_ifb0 (show am_cd 13 104 = (10, 107, 119, 0, []) by decide +kernel) (fun hc => ?_) (fun hc => ?_)
      · replace h := h.1 hc
        refine e_ic (show am_cd 13 119 = (0, 120, 0, -1, []) by decide +kernel) ?_
        refine e_sti (la2 := [rA 61, (0, n), (0, (-1)), (0, i)]) (show am_cd 13 120 = (3, 121, 2, 0, []) by decide +kernel) rfl ?_
        refine e_inc (la2 := [rA 61, (0, n), (0, (-1)), (0, i + 1)]) (show am_cd 13 121 = (4, 124, 3, 1, []) by decide +kernel) rfl rfl ?_
        refine e_go (show am_cd 13 124 = (12, 57, 0, 0, []) by decide +kernel) ?_
        exact h
      · replace h := h.2 hc
        refine e_lda (v := 61) (show am_cd 13 107 = (2, 108, 0, 2, []) by decide +kernel) rfl ?_
        refine e_getr (a := 61) (r := 8) (show am_cd 13 108 = (18, 111, 100, 2, [18]) by decide +kernel) (by decide +kernel) (by decide +kernel) rfl ?_
        refine e_getfE (a := 8) (tg := 0) (v := w 8 8) (show am_cd 13 111 = (18, 114, 8, 0, [80]) by decide +kernel) (by decide +kernel) (by decide +kernel) rfl rfl ?_
        refine e_ic (show am_cd 13 114 = (0, 115, 0, -1, []) by decide +kernel) ?_
        refine e_ixor (show am_cd 13 115 = (5, 116, 5, 0, []) by decide +kernel) ?_
        refine e_go (show am_cd 13 116 = (12, 120, 0, 0, []) by decide +kernel) ?_
        refine e_sti (la2 := [rA 61, (0, n), (0, ixor (w 8 8) (-1)), (0, i)]) (show am_cd 13 120 = (3, 121, 2, 0, []) by decide +kernel) rfl ?_
        refine e_inc (la2 := [rA 61, (0, n), (0, ixor (w 8 8) (-1)), (0, i + 1)]) (show am_cd 13 121 = (4, 124, 3, 1, []) by decide +kernel) rfl rfl ?_
        refine e_go (show am_cd 13 124 = (12, 57, 0, 0, []) by decide +kernel) ?_
        exact h
    · replace h := h.2 hc
      refine e_ic (show am_cd 13 89 = (0, 90, 0, 0, []) by decide +kernel) ?_
      exact e_retz (show am_cd 13 90 = (36, 91, 0, 0, []) by decide +kernel) (by decide +kernel) (Or.inl rfl) h

