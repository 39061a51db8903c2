/-! The class: goOnWith. -/

theorem g_gw0 {d : Nat} {Q : Option aV → aS → Prop} {w : eW} {t : eT} {n c : Int} {m : eW} (h : Ev (d + 1) 31 Q 17 [rA 28, (0, n), (0, c), (0, (n + 1) * 80), (0, (n + 1) * 4), (0, 0), (9, 0), (9, 0)] [] (enc w t)) : Cl (d + 1) 31 [rA 28, (0, n), (0, c)] (enc w t) Q := by
  show Ev (d + 1) 31 Q 0 [rA 28, (0, n), (0, c), (9, 0), (9, 0), (9, 0), (9, 0), (9, 0)] [] (enc w t)
  refine e_ldi (show am_cd 31 0 = (2, 1, 1, 0, []) by decide +kernel) rfl ?_
  refine e_ic (show am_cd 31 1 = (0, 2, 0, 1, []) by decide +kernel) ?_
  refine e_iadd (show am_cd 31 2 = (5, 3, 0, 0, []) by decide +kernel) ?_
  refine e_ic (show am_cd 31 3 = (0, 5, 1, 80, []) by decide +kernel) ?_
  refine e_imul (show am_cd 31 5 = (5, 6, 2, 0, []) by decide +kernel) ?_
  refine e_sti (la2 := [rA 28, (0, n), (0, c), (0, (n + 1) * 80), (9, 0), (9, 0), (9, 0), (9, 0)]) (show am_cd 31 6 = (3, 7, 3, 0, []) by decide +kernel) rfl ?_
  refine e_ldi (show am_cd 31 7 = (2, 8, 1, 0, []) by decide +kernel) rfl ?_
  refine e_ic (show am_cd 31 8 = (0, 9, 0, 1, []) by decide +kernel) ?_
  refine e_iadd (show am_cd 31 9 = (5, 10, 0, 0, []) by decide +kernel) ?_
  refine e_ic (show am_cd 31 10 = (0, 11, 0, 4, []) by decide +kernel) ?_
  refine e_imul (show am_cd 31 11 = (5, 12, 2, 0, []) by decide +kernel) ?_
  refine e_sti (la2 := [rA 28, (0, n), (0, c), (0, (n + 1) * 80), (0, (n + 1) * 4), (9, 0), (9, 0), (9, 0)]) (show am_cd 31 12 = (3, 14, 4, 0, []) by decide +kernel) rfl ?_
  refine e_ic (show am_cd 31 14 = (0, 15, 0, 0, []) by decide +kernel) ?_
  refine e_sti (la2 := [rA 28, (0, n), (0, c), (0, (n + 1) * 80), (0, (n + 1) * 4), (0, 0), (9, 0), (9, 0)]) (show am_cd 31 15 = (3, 17, 5, 0, []) by decide +kernel) rfl ?_
  exact h

theorem g_gw1 {d : Nat} {Q : Option aV → aS → Prop} {w : eW} {t : eT} {n c a1 a2 q : Int} {m : eW} {J1 J2 : aV} (h : ((w32 4 ≤ w32 q → Ev (d + 1) 31 Q 43 [rA 28, (0, n), (0, c), (0, a1), (0, a2), (0, 0), J1, J2] [] (enc w t)) ∧ (¬ (w32 4 ≤ w32 q) → (0 ≤ w32 (a2 + q) ∧ w32 (a2 + q) < 16) ∧ (Ev (d + 1) 31 Q 17 [rA 28, (0, n), (0, c), (0, a1), (0, a2), (0, q + 1), J1, J2] [] (enc (wu w 35 (w32 (a2 + q)).toNat 0) t))))) : Ev (d + 1) 31 Q 17 [rA 28, (0, n), (0, c), (0, a1), (0, a2), (0, q), J1, J2] [] (enc w t) := by
  refine e_ldi (show am_cd 31 17 = (2, 19, 5, 0, []) by decide +kernel) rfl ?_
  refine e_ic (show am_cd 31 19 = (0, 20, 0, 4, []) by decide +kernel) ?_
  refine e_cmp3 (show am_cd 31 20 = (11, 23, 40, 3, []) by decide +kernel) (fun hc => ?_) (fun hc => ?_)
  · replace h := h.1 hc
    refine e_ic (show am_cd 31 40 = (0, 41, 0, 0, []) by decide +kernel) ?_
    refine e_sti (la2 := [rA 28, (0, n), (0, c), (0, a1), (0, a2), (0, 0), J1, J2]) (show am_cd 31 41 = (3, 43, 5, 0, []) by decide +kernel) rfl ?_
    exact h
  · replace h := h.2 hc
    refine e_lda (v := 28) (show am_cd 31 23 = (2, 24, 0, 2, []) by decide +kernel) rfl ?_
    refine e_getr (a := 28) (r := 35) (show am_cd 31 24 = (18, 27, 306, 2, [31]) by decide +kernel) (by decide +kernel) (by decide +kernel) rfl ?_
    refine e_ldi (show am_cd 31 27 = (2, 29, 4, 0, []) by decide +kernel) rfl ?_
    refine e_ldi (show am_cd 31 29 = (2, 31, 5, 0, []) by decide +kernel) rfl ?_
    refine e_iadd (show am_cd 31 31 = (5, 32, 0, 0, []) by decide +kernel) ?_
    refine e_ic (show am_cd 31 32 = (0, 33, 0, 0, []) by decide +kernel) ?_
    refine e_iast (a := 35) (n := 16) (show am_cd 31 33 = (24, 34, 0, 0, []) by decide +kernel) (by decide +kernel) (by decide +kernel) (by decide +kernel) h.1 ?_
    replace h := h.2
    refine e_inc (la2 := [rA 28, (0, n), (0, c), (0, a1), (0, a2), (0, q + 1), J1, J2]) (show am_cd 31 34 = (4, 37, 5, 1, []) by decide +kernel) rfl rfl ?_
    refine e_go (show am_cd 31 37 = (12, 17, 0, 0, []) by decide +kernel) ?_
    exact h

theorem g_gw2 {d : Nat} {Q : Option aV → aS → Prop} {w : eW} {t : eT} {n c a1 a2 e : Int} {m : eW} {J1 J2 : aV} (h : ((w32 (w 28 8) ≤ w32 e → Q none (enc w t)) ∧ (¬ (w32 (w 28 8) ≤ w32 e) → Ev (d + 1) 31 Q 55 [rA 28, (0, n), (0, c), (0, a1), (0, a2), (0, e), (0, 0), J2] [] (enc w t)))) : Ev (d + 1) 31 Q 43 [rA 28, (0, n), (0, c), (0, a1), (0, a2), (0, e), J1, J2] [] (enc w t) := by
  refine e_ldi (show am_cd 31 43 = (2, 45, 5, 0, []) by decide +kernel) rfl ?_
  refine e_lda (v := 28) (show am_cd 31 45 = (2, 46, 0, 2, []) by decide +kernel) rfl ?_
  refine e_getf (a := 28) (tg := 0) (show am_cd 31 46 = (18, 49, 308, 0, [40]) by decide +kernel) (by decide +kernel) (by decide +kernel) rfl ?_
  refine e_cmp3 (show am_cd 31 49 = (11, 52, 171, 3, []) by decide +kernel) (fun hc => ?_) (fun hc => ?_)
  · replace h := h.1 hc
    exact e_retv (show am_cd 31 171 = (36, 172, 3, 0, []) by decide +kernel) (by decide +kernel) h
  · replace h := h.2 hc
    refine e_ic (show am_cd 31 52 = (0, 53, 0, 0, []) by decide +kernel) ?_
    refine e_sti (la2 := [rA 28, (0, n), (0, c), (0, a1), (0, a2), (0, e), (0, 0), J2]) (show am_cd 31 53 = (3, 55, 6, 0, []) by decide +kernel) rfl ?_
    exact h

theorem g_gw3 {d : Nat} {Q : Option aV → aS → Prop} {w : eW} {t : eT} {n c a1 a2 e k : Int} {m : eW} {s : (Nat → Nat) × (Nat → Nat → Nat)} {D : Nat} {J2 : aV} (h : (0 ≤ w32 e ∧ w32 e < 16) ∧ ((w32 (w 31 (w32 e).toNat) ≤ w32 k → (0 ≤ w32 e ∧ w32 e < 16) ∧ ((w32 (w 30 (w32 e).toNat) = w32 (-1) → Ev (d + 1) 31 Q 43 [rA 28, (0, n), (0, c), (0, a1), (0, a2), (0, e + 1), (0, k), J2] [] (enc w t)) ∧ (¬ (w32 (w 30 (w32 e).toNat) = w32 (-1)) → (0 ≤ w32 e ∧ w32 e < 16) ∧ (0 ≤ w32 (a2 + (w 30 (w32 e).toNat)) ∧ w32 (a2 + (w 30 (w32 e).toNat)) < 16) ∧ (0 ≤ w32 e ∧ w32 e < 16) ∧ (0 ≤ w32 (((a1 + (e * 5)) + (w 31 (w32 e).toNat)) - 1) ∧ w32 (((a1 + (e * 5)) + (w 31 (w32 e).toNat)) - 1) < 320) ∧ (0 ≤ w32 (a2 + (w 30 (w32 e).toNat)) ∧ w32 (a2 + (w 30 (w32 e).toNat)) < 16) ∧ (Ev (d + 1) 31 Q 43 [rA 28, (0, n), (0, c), (0, a1), (0, a2), (0, e + 1), (0, k), J2] [] (enc (wu w 35 (w32 (a2 + (w 30 (w32 e).toNat))).toNat ((w 35 (w32 (a2 + (w 30 (w32 e).toNat))).toNat) + (w 34 (w32 (((a1 + (e * 5)) + (w 31 (w32 e).toNat)) - 1)).toNat))) t))))) ∧ (¬ (w32 (w 31 (w32 e).toNat) ≤ w32 k) → (0 ≤ w32 ((e * 5) + k) ∧ w32 ((e * 5) + k) < 80) ∧ ((¬ w32 (w 32 (w32 ((e * 5) + k)).toNat) = w32 c → (0 ≤ w32 (a1 + ((e * 5) + k)) ∧ w32 (a1 + ((e * 5) + k)) < 320) ∧ (Ev (d + 1) 31 Q 55 [rA 28, (0, n), (0, c), (0, a1), (0, a2), (0, e), (0, k + 1), (0, (e * 5) + k)] [] (enc (wu w 34 (w32 (a1 + ((e * 5) + k))).toNat 0) t))) ∧ (¬ (¬ w32 (w 32 (w32 ((e * 5) + k)).toNat) = w32 c) → ((XC w m ∧ WFe m ∧ TwD w m D s ∧ D ≤ 3) ∧ n = (D : Int) ∧ (0 ≤ e ∧ e < (nE m : Int)) ∧ (0 ≤ k ∧ k < (fmN m e.toNat : Int))) ∧ (0 ≤ w32 (a1 + ((e * 5) + k)) ∧ w32 (a1 + ((e * 5) + k)) < 320) ∧ (Ev (d + 1) 31 Q 55 [rA 28, (0, n), (0, c), (0, a1), (0, a2), (0, e), (0, k + 1), (0, (e * 5) + k)] [] (enc (wu w 34 (w32 (a1 + ((e * 5) + k))).toNat ((lbW m s e.toNat k.toNat : Nat) : Int)) t))))))) : Ev (d + 1) 31 Q 55 [rA 28, (0, n), (0, c), (0, a1), (0, a2), (0, e), (0, k), J2] [] (enc w t) := by
  refine e_ldi (show am_cd 31 55 = (2, 57, 6, 0, []) by decide +kernel) rfl ?_
  refine e_lda (v := 28) (show am_cd 31 57 = (2, 58, 0, 2, []) by decide +kernel) rfl ?_
  refine e_getr (a := 28) (r := 31) (show am_cd 31 58 = (18, 61, 302, 2, [18]) by decide +kernel) (by decide +kernel) (by decide +kernel) rfl ?_
  refine e_ldi (show am_cd 31 61 = (2, 63, 5, 0, []) by decide +kernel) rfl ?_
  refine e_iald (a := 31) (n := 16) (show am_cd 31 63 = (21, 64, 0, 0, []) by decide +kernel) (by decide +kernel) (by decide +kernel) (by decide +kernel) h.1 ?_
  replace h := h.2
  refine e_cmp3 (show am_cd 31 64 = (11, 67, 115, 3, []) by decide +kernel) (fun hc => ?_) (fun hc => ?_)
  · replace h := h.1 hc
    refine e_lda (v := 28) (show am_cd 31 115 = (2, 116, 0, 2, []) by decide +kernel) rfl ?_
    refine e_getr (a := 28) (r := 30) (show am_cd 31 116 = (18, 119, 301, 2, [15]) by decide +kernel) (by decide +kernel) (by decide +kernel) rfl ?_
    refine e_ldi (show am_cd 31 119 = (2, 121, 5, 0, []) by decide +kernel) rfl ?_
    refine e_iald (a := 30) (n := 16) (show am_cd 31 121 = (21, 122, 0, 0, []) by decide +kernel) (by decide +kernel) (by decide +kernel) (by decide +kernel) h.1 ?_
    replace h := h.2
    refine e_ic (show am_cd 31 122 = (0, 123, 0, -1, []) by decide +kernel) ?_
    refine e_cmp0 (show am_cd 31 123 = (11, 126, 165, 0, []) by decide +kernel) (fun hc => ?_) (fun hc => ?_)
    · replace h := h.1 hc
      refine e_inc (la2 := [rA 28, (0, n), (0, c), (0, a1), (0, a2), (0, e + 1), (0, k), J2]) (show am_cd 31 165 = (4, 168, 5, 1, []) by decide +kernel) rfl rfl ?_
      refine e_go (show am_cd 31 168 = (12, 43, 0, 0, []) by decide +kernel) ?_
      exact h
    · replace h := h.2 hc
      refine e_lda (v := 28) (show am_cd 31 126 = (2, 127, 0, 2, []) by decide +kernel) rfl ?_
      refine e_getr (a := 28) (r := 35) (show am_cd 31 127 = (18, 130, 306, 2, [31]) by decide +kernel) (by decide +kernel) (by decide +kernel) rfl ?_
      refine e_ldi (show am_cd 31 130 = (2, 132, 4, 0, []) by decide +kernel) rfl ?_
      refine e_lda (v := 28) (show am_cd 31 132 = (2, 133, 0, 2, []) by decide +kernel) rfl ?_
      refine e_getr (a := 28) (r := 30) (show am_cd 31 133 = (18, 136, 301, 2, [15]) by decide +kernel) (by decide +kernel) (by decide +kernel) rfl ?_
      refine e_ldi (show am_cd 31 136 = (2, 138, 5, 0, []) by decide +kernel) rfl ?_
      refine e_iald (a := 30) (n := 16) (show am_cd 31 138 = (21, 139, 0, 0, []) by decide +kernel) (by decide +kernel) (by decide +kernel) (by decide +kernel) h.1 ?_
      replace h := h.2
      refine e_iadd (show am_cd 31 139 = (5, 140, 0, 0, []) by decide +kernel) ?_
      refine e_dup2 (show am_cd 31 140 = (14, 141, 0, 0, []) by decide +kernel) (by decide) ?_
      refine e_iald (a := 35) (n := 16) (show am_cd 31 141 = (21, 142, 0, 0, []) by decide +kernel) (by decide +kernel) (by decide +kernel) (by decide +kernel) h.1 ?_
      replace h := h.2
      refine e_lda (v := 28) (show am_cd 31 142 = (2, 143, 0, 2, []) by decide +kernel) rfl ?_
      refine e_getr (a := 28) (r := 34) (show am_cd 31 143 = (18, 146, 305, 2, [28]) by decide +kernel) (by decide +kernel) (by decide +kernel) rfl ?_
      refine e_ldi (show am_cd 31 146 = (2, 147, 3, 0, []) by decide +kernel) rfl ?_
      refine e_ldi (show am_cd 31 147 = (2, 149, 5, 0, []) by decide +kernel) rfl ?_
      refine e_ic (show am_cd 31 149 = (0, 150, 0, 5, []) by decide +kernel) ?_
      refine e_imul (show am_cd 31 150 = (5, 151, 2, 0, []) by decide +kernel) ?_
      refine e_iadd (show am_cd 31 151 = (5, 152, 0, 0, []) by decide +kernel) ?_
      refine e_lda (v := 28) (show am_cd 31 152 = (2, 153, 0, 2, []) by decide +kernel) rfl ?_
      refine e_getr (a := 28) (r := 31) (show am_cd 31 153 = (18, 156, 302, 2, [18]) by decide +kernel) (by decide +kernel) (by decide +kernel) rfl ?_
      refine e_ldi (show am_cd 31 156 = (2, 158, 5, 0, []) by decide +kernel) rfl ?_
      refine e_iald (a := 31) (n := 16) (show am_cd 31 158 = (21, 159, 0, 0, []) by decide +kernel) (by decide +kernel) (by decide +kernel) (by decide +kernel) h.1 ?_
      replace h := h.2
      refine e_iadd (show am_cd 31 159 = (5, 160, 0, 0, []) by decide +kernel) ?_
      refine e_ic (show am_cd 31 160 = (0, 161, 0, 1, []) by decide +kernel) ?_
      refine e_isub (show am_cd 31 161 = (5, 162, 1, 0, []) by decide +kernel) ?_
      refine e_iald (a := 34) (n := 320) (show am_cd 31 162 = (21, 163, 0, 0, []) by decide +kernel) (by decide +kernel) (by decide +kernel) (by decide +kernel) h.1 ?_
      replace h := h.2
      refine e_iadd (show am_cd 31 163 = (5, 164, 0, 0, []) by decide +kernel) ?_
      refine e_iast (a := 35) (n := 16) (show am_cd 31 164 = (24, 165, 0, 0, []) by decide +kernel) (by decide +kernel) (by decide +kernel) (by decide +kernel) h.1 ?_
      replace h := h.2
      refine e_inc (la2 := [rA 28, (0, n), (0, c), (0, a1), (0, a2), (0, e + 1), (0, k), J2]) (show am_cd 31 165 = (4, 168, 5, 1, []) by decide +kernel) rfl rfl ?_
      refine e_go (show am_cd 31 168 = (12, 43, 0, 0, []) by decide +kernel) ?_
      exact h
  · replace h := h.2 hc
    refine e_ldi (show am_cd 31 67 = (2, 69, 5, 0, []) by decide +kernel) rfl ?_
    refine e_ic (show am_cd 31 69 = (0, 70, 0, 5, []) by decide +kernel) ?_
    refine e_imul (show am_cd 31 70 = (5, 71, 2, 0, []) by decide +kernel) ?_
    refine e_ldi (show am_cd 31 71 = (2, 73, 6, 0, []) by decide +kernel) rfl ?_
    refine e_iadd (show am_cd 31 73 = (5, 74, 0, 0, []) by decide +kernel) ?_
    refine e_sti (la2 := [rA 28, (0, n), (0, c), (0, a1), (0, a2), (0, e), (0, k), (0, (e * 5) + k)]) (show am_cd 31 74 = (3, 76, 7, 0, []) by decide +kernel) rfl ?_
    refine e_lda (v := 28) (show am_cd 31 76 = (2, 77, 0, 2, []) by decide +kernel) rfl ?_
    refine e_getr (a := 28) (r := 34) (show am_cd 31 77 = (18, 80, 305, 2, [28]) by decide +kernel) (by decide +kernel) (by decide +kernel) rfl ?_
    refine e_ldi (show am_cd 31 80 = (2, 81, 3, 0, []) by decide +kernel) rfl ?_
    refine e_ldi (show am_cd 31 81 = (2, 83, 7, 0, []) by decide +kernel) rfl ?_
    refine e_iadd (show am_cd 31 83 = (5, 84, 0, 0, []) by decide +kernel) ?_
    refine e_lda (v := 28) (show am_cd 31 84 = (2, 85, 0, 2, []) by decide +kernel) rfl ?_
    refine e_getr (a := 28) (r := 32) (show am_cd 31 85 = (18, 88, 303, 2, [21]) by decide +kernel) (by decide +kernel) (by decide +kernel) rfl ?_
    refine e_ldi (show am_cd 31 88 = (2, 90, 7, 0, []) by decide +kernel) rfl ?_
    refine e_iald (a := 32) (n := 80) (show am_cd 31 90 = (21, 91, 0, 0, []) by decide +kernel) (by decide +kernel) (by decide +kernel) (by decide +kernel) h.1 ?_
    replace h := h.2
    refine e_ldi (show am_cd 31 91 = (2, 92, 2, 0, []) by decide +kernel) rfl ?_
    refine e_cmp1 (show am_cd 31 92 = (11, 95, 107, 1, []) by decide +kernel) (fun hc => ?_) (fun hc => ?_)
    · replace h := h.1 hc
      refine e_ic (show am_cd 31 107 = (0, 108, 0, 0, []) by decide +kernel) ?_
      refine e_iast (a := 34) (n := 320) (show am_cd 31 108 = (24, 109, 0, 0, []) by decide +kernel) (by decide +kernel) (by decide +kernel) (by decide +kernel) h.1 ?_
      replace h := h.2
      refine e_inc (la2 := [rA 28, (0, n), (0, c), (0, a1), (0, a2), (0, e), (0, k + 1), (0, (e * 5) + k)]) (show am_cd 31 109 = (4, 112, 6, 1, []) by decide +kernel) rfl rfl ?_
      refine e_go (show am_cd 31 112 = (12, 55, 0, 0, []) by decide +kernel) ?_
      exact h
    · replace h := h.2 hc
      refine e_lda (v := 28) (show am_cd 31 95 = (2, 96, 0, 2, []) by decide +kernel) rfl ?_
      refine e_ldi (show am_cd 31 96 = (2, 97, 1, 0, []) by decide +kernel) rfl ?_
      refine e_ldi (show am_cd 31 97 = (2, 99, 5, 0, []) by decide +kernel) rfl ?_
      refine e_ldi (show am_cd 31 99 = (2, 101, 6, 0, []) by decide +kernel) rfl ?_
      refine e_cV (z := 0) (a := 28) (as := [(0, n), (0, e), (0, k)]) (rest := [(0, a1 + ((e * 5) + k)), rA 34]) (show am_cd 31 101 = (40, 104, 44, 0, [98]) by decide +kernel) (by decide +kernel) rfl rfl (Nat.le_of_ble_eq_true rfl) rfl ?_
      refine Cl.mono (Cl.up (c_wt (m := m) (s := s) (D := D) (d := d) h.1) (by omega)) ?_
      rintro _ _ ⟨rfl, rfl⟩
      refine ⟨fun _ h9 => (by cases h9), ?_⟩
      replace h := h.2
      show Ev _ 31 _ 104 [rA 28, (0, n), (0, c), (0, a1), (0, a2), (0, e), (0, k), (0, (e * 5) + k)] [(0, ((lbW m s e.toNat k.toNat : Nat) : Int)), (0, a1 + ((e * 5) + k)), rA 34] _
      refine e_go (show am_cd 31 104 = (12, 108, 0, 0, []) by decide +kernel) ?_
      refine e_iast (a := 34) (n := 320) (show am_cd 31 108 = (24, 109, 0, 0, []) by decide +kernel) (by decide +kernel) (by decide +kernel) (by decide +kernel) h.1 ?_
      replace h := h.2
      refine e_inc (la2 := [rA 28, (0, n), (0, c), (0, a1), (0, a2), (0, e), (0, k + 1), (0, (e * 5) + k)]) (show am_cd 31 109 = (4, 112, 6, 1, []) by decide +kernel) rfl rfl ?_
      refine e_go (show am_cd 31 112 = (12, 55, 0, 0, []) by decide +kernel) ?_
      exact h

