/-! The class: goOnWith. -/

theorem g_gw0 {d : Nat} {Q : Option aV → aS → Prop} {w : eW} {t : eT} {n c : Int} {m : eW} (h : Ev (d) 31 Q 17 [rA 28, (0, n), (0, c), (0, (n + 1) * 80), (0, (n + 1) * 4), (0, 0), (9, 0), (9, 0), (9, 0)] [] (enc w t)) : Cl (d) 31 [rA 28, (0, n), (0, c)] (enc w t) Q := by
  show Ev (d) 31 Q 0 [rA 28, (0, n), (0, c), (9, 0), (9, 0), (9, 0), (9, 0), (9, 0), (9, 0)] [] (enc w t)
  refine e_ldi (show am_cd 31 0 = (2, 1, 1, 0, []) by decide +kernel) rfl ?_
  refine e_ic (show am_cd 31 1 = (0, 2, 0, 1, []) by decide +kernel) ?_
  refine e_iadd (show am_cd 31 2 = (5, 3, 0, 0, []) by decide +kernel) ?_
  refine e_ic (show am_cd 31 3 = (0, 5, 1, 80, []) by decide +kernel) ?_
  refine e_imul (show am_cd 31 5 = (5, 6, 2, 0, []) by decide +kernel) ?_
  refine e_sti (la2 := [rA 28, (0, n), (0, c), (0, (n + 1) * 80), (9, 0), (9, 0), (9, 0), (9, 0), (9, 0)]) (show am_cd 31 6 = (3, 7, 3, 0, []) by decide +kernel) rfl ?_
  refine e_ldi (show am_cd 31 7 = (2, 8, 1, 0, []) by decide +kernel) rfl ?_
  refine e_ic (show am_cd 31 8 = (0, 9, 0, 1, []) by decide +kernel) ?_
  refine e_iadd (show am_cd 31 9 = (5, 10, 0, 0, []) by decide +kernel) ?_
  refine e_ic (show am_cd 31 10 = (0, 11, 0, 4, []) by decide +kernel) ?_
  refine e_imul (show am_cd 31 11 = (5, 12, 2, 0, []) by decide +kernel) ?_
  refine e_sti (la2 := [rA 28, (0, n), (0, c), (0, (n + 1) * 80), (0, (n + 1) * 4), (9, 0), (9, 0), (9, 0), (9, 0)]) (show am_cd 31 12 = (3, 14, 4, 0, []) by decide +kernel) rfl ?_
  refine e_ic (show am_cd 31 14 = (0, 15, 0, 0, []) by decide +kernel) ?_
  refine e_sti (la2 := [rA 28, (0, n), (0, c), (0, (n + 1) * 80), (0, (n + 1) * 4), (0, 0), (9, 0), (9, 0), (9, 0)]) (show am_cd 31 15 = (3, 17, 5, 0, []) by decide +kernel) rfl ?_
  exact h

theorem g_gw1 {d : Nat} {Q : Option aV → aS → Prop} {w : eW} {t : eT} {n c a1 a2 q : Int} {m : eW} {J1 J2 J3 : aV} (h : ((w32 4 ≤ w32 q → Ev (d) 31 Q 43 [rA 28, (0, n), (0, c), (0, a1), (0, a2), (0, 0), J1, J2, J3] [] (enc w t)) ∧ (¬ (w32 4 ≤ w32 q) → (0 ≤ w32 (a2 + q) ∧ w32 (a2 + q) < 20) ∧ (Ev (d) 31 Q 17 [rA 28, (0, n), (0, c), (0, a1), (0, a2), (0, q + 1), J1, J2, J3] [] (enc (wu w 35 (w32 (a2 + q)).toNat 0) t))))) : Ev (d) 31 Q 17 [rA 28, (0, n), (0, c), (0, a1), (0, a2), (0, q), J1, J2, J3] [] (enc w t) := by
  refine e_ldi (show am_cd 31 17 = (2, 19, 5, 0, []) by decide +kernel) rfl ?_
  refine e_ic (show am_cd 31 19 = (0, 20, 0, 4, []) by decide +kernel) ?_
  refine e_cmp3 (show am_cd 31 20 = (11, 23, 40, 3, []) by decide +kernel) (fun hc => ?_) (fun hc => ?_)
  · replace h := h.1 hc
    refine e_ic (show am_cd 31 40 = (0, 41, 0, 0, []) by decide +kernel) ?_
    refine e_sti (la2 := [rA 28, (0, n), (0, c), (0, a1), (0, a2), (0, 0), J1, J2, J3]) (show am_cd 31 41 = (3, 43, 5, 0, []) by decide +kernel) rfl ?_
    exact h
  · replace h := h.2 hc
    refine e_lda (v := 28) (show am_cd 31 23 = (2, 24, 0, 2, []) by decide +kernel) rfl ?_
    refine e_getr (a := 28) (r := 35) (show am_cd 31 24 = (18, 27, 306, 2, [31]) by decide +kernel) (by decide +kernel) (by decide +kernel) rfl ?_
    refine e_ldi (show am_cd 31 27 = (2, 29, 4, 0, []) by decide +kernel) rfl ?_
    refine e_ldi (show am_cd 31 29 = (2, 31, 5, 0, []) by decide +kernel) rfl ?_
    refine e_iadd (show am_cd 31 31 = (5, 32, 0, 0, []) by decide +kernel) ?_
    refine e_ic (show am_cd 31 32 = (0, 33, 0, 0, []) by decide +kernel) ?_
    refine e_iast (a := 35) (n := 20) (show am_cd 31 33 = (24, 34, 0, 0, []) by decide +kernel) (by decide +kernel) (by decide +kernel) (by decide +kernel) h.1 ?_
    replace h := h.2
    refine e_inc (la2 := [rA 28, (0, n), (0, c), (0, a1), (0, a2), (0, q + 1), J1, J2, J3]) (show am_cd 31 34 = (4, 37, 5, 1, []) by decide +kernel) rfl rfl ?_
    refine e_go (show am_cd 31 37 = (12, 17, 0, 0, []) by decide +kernel) ?_
    exact h

theorem g_gw2 {d : Nat} {Q : Option aV → aS → Prop} {w : eW} {t : eT} {n c a1 a2 e : Int} {m : eW} {J1 J2 J3 : aV} (h : ((w32 (w 28 8) ≤ w32 e → Q none (enc w t)) ∧ (¬ (w32 (w 28 8) ≤ w32 e) → Ev (d) 31 Q 55 [rA 28, (0, n), (0, c), (0, a1), (0, a2), (0, e), (0, 0), J2, J3] [] (enc w t)))) : Ev (d) 31 Q 43 [rA 28, (0, n), (0, c), (0, a1), (0, a2), (0, e), J1, J2, J3] [] (enc w t) := by
  refine e_ldi (show am_cd 31 43 = (2, 45, 5, 0, []) by decide +kernel) rfl ?_
  refine e_lda (v := 28) (show am_cd 31 45 = (2, 46, 0, 2, []) by decide +kernel) rfl ?_
  refine e_getf (a := 28) (tg := 0) (show am_cd 31 46 = (18, 49, 308, 0, [40]) by decide +kernel) (by decide +kernel) (by decide +kernel) rfl ?_
  refine e_cmp3 (show am_cd 31 49 = (11, 52, 203, 3, []) by decide +kernel) (fun hc => ?_) (fun hc => ?_)
  · replace h := h.1 hc
    exact e_retv (show am_cd 31 203 = (36, 204, 3, 0, []) by decide +kernel) (by decide +kernel) h
  · replace h := h.2 hc
    refine e_ic (show am_cd 31 52 = (0, 53, 0, 0, []) by decide +kernel) ?_
    refine e_sti (la2 := [rA 28, (0, n), (0, c), (0, a1), (0, a2), (0, e), (0, 0), J2, J3]) (show am_cd 31 53 = (3, 55, 6, 0, []) by decide +kernel) rfl ?_
    exact h

theorem g_gw3 {d : Nat} {Q : Option aV → aS → Prop} {w : eW} {t : eT} {n c a1 a2 e k : Int} {m : eW} {J2 J3 : aV} (h : (0 ≤ w32 e ∧ w32 e < 16) ∧ ((w32 (w 31 (w32 e).toNat) ≤ w32 k → (0 ≤ w32 e ∧ w32 e < 16) ∧ ((w32 (w 30 (w32 e).toNat) = w32 (-1) → Ev (d) 31 Q 43 [rA 28, (0, n), (0, c), (0, a1), (0, a2), (0, e + 1), (0, k), J2, J3] [] (enc w t)) ∧ (¬ (w32 (w 30 (w32 e).toNat) = w32 (-1)) → (0 ≤ w32 e ∧ w32 e < 16) ∧ (0 ≤ w32 (a2 + (w 30 (w32 e).toNat)) ∧ w32 (a2 + (w 30 (w32 e).toNat)) < 20) ∧ (0 ≤ w32 e ∧ w32 e < 16) ∧ (0 ≤ w32 (((a1 + (e * 5)) + (w 31 (w32 e).toNat)) - 1) ∧ w32 (((a1 + (e * 5)) + (w 31 (w32 e).toNat)) - 1) < 400) ∧ (0 ≤ w32 (a2 + (w 30 (w32 e).toNat)) ∧ w32 (a2 + (w 30 (w32 e).toNat)) < 20) ∧ (Ev (d) 31 Q 43 [rA 28, (0, n), (0, c), (0, a1), (0, a2), (0, e + 1), (0, k), J2, J3] [] (enc (wu w 35 (w32 (a2 + (w 30 (w32 e).toNat))).toNat ((w 35 (w32 (a2 + (w 30 (w32 e).toNat))).toNat) + (w 34 (w32 (((a1 + (e * 5)) + (w 31 (w32 e).toNat)) - 1)).toNat))) t))))) ∧ (¬ (w32 (w 31 (w32 e).toNat) ≤ w32 k) → (0 ≤ w32 ((e * 5) + k) ∧ w32 ((e * 5) + k) < 80) ∧ ((¬ w32 (w 32 (w32 ((e * 5) + k)).toNat) = w32 c → (0 ≤ w32 (a1 + ((e * 5) + k)) ∧ w32 (a1 + ((e * 5) + k)) < 400) ∧ (Ev (d) 31 Q 55 [rA 28, (0, n), (0, c), (0, a1), (0, a2), (0, e), (0, k + 1), (0, (e * 5) + k), (0, 0)] [] (enc (wu w 34 (w32 (a1 + ((e * 5) + k))).toNat 0) t))) ∧ (¬ (¬ w32 (w 32 (w32 ((e * 5) + k)).toNat) = w32 c) → ((¬ w32 k = 0 → (0 ≤ w32 (((n * 80) + ((e * 5) + k)) - 1) ∧ w32 (((n * 80) + ((e * 5) + k)) - 1) < 400) ∧ (0 ≤ w32 (a1 + ((e * 5) + k)) ∧ w32 (a1 + ((e * 5) + k)) < 400) ∧ (Ev (d) 31 Q 55 [rA 28, (0, n), (0, c), (0, a1), (0, a2), (0, e), (0, k + 1), (0, (e * 5) + k), (0, w 34 (w32 (((n * 80) + ((e * 5) + k)) - 1)).toNat)] [] (enc (wu w 34 (w32 (a1 + ((e * 5) + k))).toNat (w 34 (w32 (((n * 80) + ((e * 5) + k)) - 1)).toNat)) t))) ∧ (¬ (¬ w32 k = 0) → (0 ≤ w32 e ∧ w32 e < 16) ∧ (0 ≤ w32 ((n * 4) + (w 29 (w32 e).toNat)) ∧ w32 ((n * 4) + (w 29 (w32 e).toNat)) < 20) ∧ (0 ≤ w32 (a1 + ((e * 5) + k)) ∧ w32 (a1 + ((e * 5) + k)) < 400) ∧ (Ev (d) 31 Q 55 [rA 28, (0, n), (0, c), (0, a1), (0, a2), (0, e), (0, k + 1), (0, (e * 5) + k), (0, w 35 (w32 ((n * 4) + (w 29 (w32 e).toNat))).toNat)] [] (enc (wu w 34 (w32 (a1 + ((e * 5) + k))).toNat (w 35 (w32 ((n * 4) + (w 29 (w32 e).toNat))).toNat)) t))))))))) : Ev (d) 31 Q 55 [rA 28, (0, n), (0, c), (0, a1), (0, a2), (0, e), (0, k), J2, J3] [] (enc w t) := by
  refine e_ldi (show am_cd 31 55 = (2, 57, 6, 0, []) by decide +kernel) rfl ?_
  refine e_lda (v := 28) (show am_cd 31 57 = (2, 58, 0, 2, []) by decide +kernel) rfl ?_
  refine e_getr (a := 28) (r := 31) (show am_cd 31 58 = (18, 61, 302, 2, [18]) by decide +kernel) (by decide +kernel) (by decide +kernel) rfl ?_
  refine e_ldi (show am_cd 31 61 = (2, 63, 5, 0, []) by decide +kernel) rfl ?_
  refine e_iald (a := 31) (n := 16) (show am_cd 31 63 = (21, 64, 0, 0, []) by decide +kernel) (by decide +kernel) (by decide +kernel) (by decide +kernel) h.1 ?_
  replace h := h.2
  refine e_cmp3 (show am_cd 31 64 = (11, 67, 147, 3, []) by decide +kernel) (fun hc => ?_) (fun hc => ?_)
  · replace h := h.1 hc
    refine e_lda (v := 28) (show am_cd 31 147 = (2, 148, 0, 2, []) by decide +kernel) rfl ?_
    refine e_getr (a := 28) (r := 30) (show am_cd 31 148 = (18, 151, 301, 2, [15]) by decide +kernel) (by decide +kernel) (by decide +kernel) rfl ?_
    refine e_ldi (show am_cd 31 151 = (2, 153, 5, 0, []) by decide +kernel) rfl ?_
    refine e_iald (a := 30) (n := 16) (show am_cd 31 153 = (21, 154, 0, 0, []) by decide +kernel) (by decide +kernel) (by decide +kernel) (by decide +kernel) h.1 ?_
    replace h := h.2
    refine e_ic (show am_cd 31 154 = (0, 155, 0, -1, []) by decide +kernel) ?_
    refine e_cmp0 (show am_cd 31 155 = (11, 158, 197, 0, []) by decide +kernel) (fun hc => ?_) (fun hc => ?_)
    · replace h := h.1 hc
      refine e_inc (la2 := [rA 28, (0, n), (0, c), (0, a1), (0, a2), (0, e + 1), (0, k), J2, J3]) (show am_cd 31 197 = (4, 200, 5, 1, []) by decide +kernel) rfl rfl ?_
      refine e_go (show am_cd 31 200 = (12, 43, 0, 0, []) by decide +kernel) ?_
      exact h
    · replace h := h.2 hc
      refine e_lda (v := 28) (show am_cd 31 158 = (2, 159, 0, 2, []) by decide +kernel) rfl ?_
      refine e_getr (a := 28) (r := 35) (show am_cd 31 159 = (18, 162, 306, 2, [31]) by decide +kernel) (by decide +kernel) (by decide +kernel) rfl ?_
      refine e_ldi (show am_cd 31 162 = (2, 164, 4, 0, []) by decide +kernel) rfl ?_
      refine e_lda (v := 28) (show am_cd 31 164 = (2, 165, 0, 2, []) by decide +kernel) rfl ?_
      refine e_getr (a := 28) (r := 30) (show am_cd 31 165 = (18, 168, 301, 2, [15]) by decide +kernel) (by decide +kernel) (by decide +kernel) rfl ?_
      refine e_ldi (show am_cd 31 168 = (2, 170, 5, 0, []) by decide +kernel) rfl ?_
      refine e_iald (a := 30) (n := 16) (show am_cd 31 170 = (21, 171, 0, 0, []) by decide +kernel) (by decide +kernel) (by decide +kernel) (by decide +kernel) h.1 ?_
      replace h := h.2
      refine e_iadd (show am_cd 31 171 = (5, 172, 0, 0, []) by decide +kernel) ?_
      refine e_dup2 (show am_cd 31 172 = (14, 173, 0, 0, []) by decide +kernel) (by decide) ?_
      refine e_iald (a := 35) (n := 20) (show am_cd 31 173 = (21, 174, 0, 0, []) by decide +kernel) (by decide +kernel) (by decide +kernel) (by decide +kernel) h.1 ?_
      replace h := h.2
      refine e_lda (v := 28) (show am_cd 31 174 = (2, 175, 0, 2, []) by decide +kernel) rfl ?_
      refine e_getr (a := 28) (r := 34) (show am_cd 31 175 = (18, 178, 305, 2, [28]) by decide +kernel) (by decide +kernel) (by decide +kernel) rfl ?_
      refine e_ldi (show am_cd 31 178 = (2, 179, 3, 0, []) by decide +kernel) rfl ?_
      refine e_ldi (show am_cd 31 179 = (2, 181, 5, 0, []) by decide +kernel) rfl ?_
      refine e_ic (show am_cd 31 181 = (0, 182, 0, 5, []) by decide +kernel) ?_
      refine e_imul (show am_cd 31 182 = (5, 183, 2, 0, []) by decide +kernel) ?_
      refine e_iadd (show am_cd 31 183 = (5, 184, 0, 0, []) by decide +kernel) ?_
      refine e_lda (v := 28) (show am_cd 31 184 = (2, 185, 0, 2, []) by decide +kernel) rfl ?_
      refine e_getr (a := 28) (r := 31) (show am_cd 31 185 = (18, 188, 302, 2, [18]) by decide +kernel) (by decide +kernel) (by decide +kernel) rfl ?_
      refine e_ldi (show am_cd 31 188 = (2, 190, 5, 0, []) by decide +kernel) rfl ?_
      refine e_iald (a := 31) (n := 16) (show am_cd 31 190 = (21, 191, 0, 0, []) by decide +kernel) (by decide +kernel) (by decide +kernel) (by decide +kernel) h.1 ?_
      replace h := h.2
      refine e_iadd (show am_cd 31 191 = (5, 192, 0, 0, []) by decide +kernel) ?_
      refine e_ic (show am_cd 31 192 = (0, 193, 0, 1, []) by decide +kernel) ?_
      refine e_isub (show am_cd 31 193 = (5, 194, 1, 0, []) by decide +kernel) ?_
      refine e_iald (a := 34) (n := 400) (show am_cd 31 194 = (21, 195, 0, 0, []) by decide +kernel) (by decide +kernel) (by decide +kernel) (by decide +kernel) h.1 ?_
      replace h := h.2
      refine e_iadd (show am_cd 31 195 = (5, 196, 0, 0, []) by decide +kernel) ?_
      refine e_iast (a := 35) (n := 20) (show am_cd 31 196 = (24, 197, 0, 0, []) by decide +kernel) (by decide +kernel) (by decide +kernel) (by decide +kernel) h.1 ?_
      replace h := h.2
      refine e_inc (la2 := [rA 28, (0, n), (0, c), (0, a1), (0, a2), (0, e + 1), (0, k), J2, J3]) (show am_cd 31 197 = (4, 200, 5, 1, []) by decide +kernel) rfl rfl ?_
      refine e_go (show am_cd 31 200 = (12, 43, 0, 0, []) by decide +kernel) ?_
      exact h
  · replace h := h.2 hc
    refine e_ldi (show am_cd 31 67 = (2, 69, 5, 0, []) by decide +kernel) rfl ?_
    refine e_ic (show am_cd 31 69 = (0, 70, 0, 5, []) by decide +kernel) ?_
    refine e_imul (show am_cd 31 70 = (5, 71, 2, 0, []) by decide +kernel) ?_
    refine e_ldi (show am_cd 31 71 = (2, 73, 6, 0, []) by decide +kernel) rfl ?_
    refine e_iadd (show am_cd 31 73 = (5, 74, 0, 0, []) by decide +kernel) ?_
    refine e_sti (la2 := [rA 28, (0, n), (0, c), (0, a1), (0, a2), (0, e), (0, k), (0, (e * 5) + k), J3]) (show am_cd 31 74 = (3, 76, 7, 0, []) by decide +kernel) rfl ?_
    refine e_ic (show am_cd 31 76 = (0, 77, 0, 0, []) by decide +kernel) ?_
    refine e_sti (la2 := [rA 28, (0, n), (0, c), (0, a1), (0, a2), (0, e), (0, k), (0, (e * 5) + k), (0, 0)]) (show am_cd 31 77 = (3, 79, 8, 0, []) by decide +kernel) rfl ?_
    refine e_lda (v := 28) (show am_cd 31 79 = (2, 80, 0, 2, []) by decide +kernel) rfl ?_
    refine e_getr (a := 28) (r := 32) (show am_cd 31 80 = (18, 83, 303, 2, [21]) by decide +kernel) (by decide +kernel) (by decide +kernel) rfl ?_
    refine e_ldi (show am_cd 31 83 = (2, 85, 7, 0, []) by decide +kernel) rfl ?_
    refine e_iald (a := 32) (n := 80) (show am_cd 31 85 = (21, 86, 0, 0, []) by decide +kernel) (by decide +kernel) (by decide +kernel) (by decide +kernel) h.1 ?_
    replace h := h.2
    refine e_ldi (show am_cd 31 86 = (2, 87, 2, 0, []) by decide +kernel) rfl ?_
    refine e_cmp1 (show am_cd 31 87 = (11, 90, 130, 1, []) by decide +kernel) (fun hc => ?_) (fun hc => ?_)
    · replace h := h.1 hc
      refine e_lda (v := 28) (show am_cd 31 130 = (2, 131, 0, 2, []) by decide +kernel) rfl ?_
      refine e_getr (a := 28) (r := 34) (show am_cd 31 131 = (18, 134, 305, 2, [28]) by decide +kernel) (by decide +kernel) (by decide +kernel) rfl ?_
      refine e_ldi (show am_cd 31 134 = (2, 135, 3, 0, []) by decide +kernel) rfl ?_
      refine e_ldi (show am_cd 31 135 = (2, 137, 7, 0, []) by decide +kernel) rfl ?_
      refine e_iadd (show am_cd 31 137 = (5, 138, 0, 0, []) by decide +kernel) ?_
      refine e_ldi (show am_cd 31 138 = (2, 140, 8, 0, []) by decide +kernel) rfl ?_
      refine e_iast (a := 34) (n := 400) (show am_cd 31 140 = (24, 141, 0, 0, []) by decide +kernel) (by decide +kernel) (by decide +kernel) (by decide +kernel) h.1 ?_
      replace h := h.2
      refine e_inc (la2 := [rA 28, (0, n), (0, c), (0, a1), (0, a2), (0, e), (0, k + 1), (0, (e * 5) + k), (0, 0)]) (show am_cd 31 141 = (4, 144, 6, 1, []) by decide +kernel) rfl rfl ?_
      refine e_go (show am_cd 31 144 = (12, 55, 0, 0, []) by decide +kernel) ?_
      exact h
    · replace h := h.2 hc
      refine e_ldi (show am_cd 31 90 = (2, 92, 6, 0, []) by decide +kernel) rfl ?_
      refine e_if1 (show am_cd 31 92 = (10, 95, 114, 1, []) by decide +kernel) (fun hc => ?_) (fun hc => ?_)
      · replace h := h.1 hc
        refine e_lda (v := 28) (show am_cd 31 114 = (2, 115, 0, 2, []) by decide +kernel) rfl ?_
        refine e_getr (a := 28) (r := 34) (show am_cd 31 115 = (18, 118, 305, 2, [28]) by decide +kernel) (by decide +kernel) (by decide +kernel) rfl ?_
        refine e_ldi (show am_cd 31 118 = (2, 119, 1, 0, []) by decide +kernel) rfl ?_
        refine e_ic (show am_cd 31 119 = (0, 121, 1, 80, []) by decide +kernel) ?_
        refine e_imul (show am_cd 31 121 = (5, 122, 2, 0, []) by decide +kernel) ?_
        refine e_ldi (show am_cd 31 122 = (2, 124, 7, 0, []) by decide +kernel) rfl ?_
        refine e_iadd (show am_cd 31 124 = (5, 125, 0, 0, []) by decide +kernel) ?_
        refine e_ic (show am_cd 31 125 = (0, 126, 0, 1, []) by decide +kernel) ?_
        refine e_isub (show am_cd 31 126 = (5, 127, 1, 0, []) by decide +kernel) ?_
        refine e_iald (a := 34) (n := 400) (show am_cd 31 127 = (21, 128, 0, 0, []) by decide +kernel) (by decide +kernel) (by decide +kernel) (by decide +kernel) h.1 ?_
        replace h := h.2
        refine e_sti (la2 := [rA 28, (0, n), (0, c), (0, a1), (0, a2), (0, e), (0, k), (0, (e * 5) + k), (0, w 34 (w32 (((n * 80) + ((e * 5) + k)) - 1)).toNat)]) (show am_cd 31 128 = (3, 130, 8, 0, []) by decide +kernel) rfl ?_
        refine e_lda (v := 28) (show am_cd 31 130 = (2, 131, 0, 2, []) by decide +kernel) rfl ?_
        refine e_getr (a := 28) (r := 34) (show am_cd 31 131 = (18, 134, 305, 2, [28]) by decide +kernel) (by decide +kernel) (by decide +kernel) rfl ?_
        refine e_ldi (show am_cd 31 134 = (2, 135, 3, 0, []) by decide +kernel) rfl ?_
        refine e_ldi (show am_cd 31 135 = (2, 137, 7, 0, []) by decide +kernel) rfl ?_
        refine e_iadd (show am_cd 31 137 = (5, 138, 0, 0, []) by decide +kernel) ?_
        refine e_ldi (show am_cd 31 138 = (2, 140, 8, 0, []) by decide +kernel) rfl ?_
        refine e_iast (a := 34) (n := 400) (show am_cd 31 140 = (24, 141, 0, 0, []) by decide +kernel) (by decide +kernel) (by decide +kernel) (by decide +kernel) h.1 ?_
        replace h := h.2
        refine e_inc (la2 := [rA 28, (0, n), (0, c), (0, a1), (0, a2), (0, e), (0, k + 1), (0, (e * 5) + k), (0, w 34 (w32 (((n * 80) + ((e * 5) + k)) - 1)).toNat)]) (show am_cd 31 141 = (4, 144, 6, 1, []) by decide +kernel) rfl rfl ?_
        refine e_go (show am_cd 31 144 = (12, 55, 0, 0, []) by decide +kernel) ?_
        exact h
      · replace h := h.2 hc
        refine e_lda (v := 28) (show am_cd 31 95 = (2, 96, 0, 2, []) by decide +kernel) rfl ?_
        refine e_getr (a := 28) (r := 35) (show am_cd 31 96 = (18, 99, 306, 2, [31]) by decide +kernel) (by decide +kernel) (by decide +kernel) rfl ?_
        refine e_ldi (show am_cd 31 99 = (2, 100, 1, 0, []) by decide +kernel) rfl ?_
        refine e_ic (show am_cd 31 100 = (0, 101, 0, 4, []) by decide +kernel) ?_
        refine e_imul (show am_cd 31 101 = (5, 102, 2, 0, []) by decide +kernel) ?_
        refine e_lda (v := 28) (show am_cd 31 102 = (2, 103, 0, 2, []) by decide +kernel) rfl ?_
        refine e_getr (a := 28) (r := 29) (show am_cd 31 103 = (18, 106, 300, 2, [9]) by decide +kernel) (by decide +kernel) (by decide +kernel) rfl ?_
        refine e_ldi (show am_cd 31 106 = (2, 108, 5, 0, []) by decide +kernel) rfl ?_
        refine e_iald (a := 29) (n := 16) (show am_cd 31 108 = (21, 109, 0, 0, []) by decide +kernel) (by decide +kernel) (by decide +kernel) (by decide +kernel) h.1 ?_
        replace h := h.2
        refine e_iadd (show am_cd 31 109 = (5, 110, 0, 0, []) by decide +kernel) ?_
        refine e_iald (a := 35) (n := 20) (show am_cd 31 110 = (21, 111, 0, 0, []) by decide +kernel) (by decide +kernel) (by decide +kernel) (by decide +kernel) h.1 ?_
        replace h := h.2
        refine e_go (show am_cd 31 111 = (12, 128, 0, 0, []) by decide +kernel) ?_
        refine e_sti (la2 := [rA 28, (0, n), (0, c), (0, a1), (0, a2), (0, e), (0, k), (0, (e * 5) + k), (0, w 35 (w32 ((n * 4) + (w 29 (w32 e).toNat))).toNat)]) (show am_cd 31 128 = (3, 130, 8, 0, []) by decide +kernel) rfl ?_
        refine e_lda (v := 28) (show am_cd 31 130 = (2, 131, 0, 2, []) by decide +kernel) rfl ?_
        refine e_getr (a := 28) (r := 34) (show am_cd 31 131 = (18, 134, 305, 2, [28]) by decide +kernel) (by decide +kernel) (by decide +kernel) rfl ?_
        refine e_ldi (show am_cd 31 134 = (2, 135, 3, 0, []) by decide +kernel) rfl ?_
        refine e_ldi (show am_cd 31 135 = (2, 137, 7, 0, []) by decide +kernel) rfl ?_
        refine e_iadd (show am_cd 31 137 = (5, 138, 0, 0, []) by decide +kernel) ?_
        refine e_ldi (show am_cd 31 138 = (2, 140, 8, 0, []) by decide +kernel) rfl ?_
        refine e_iast (a := 34) (n := 400) (show am_cd 31 140 = (24, 141, 0, 0, []) by decide +kernel) (by decide +kernel) (by decide +kernel) (by decide +kernel) h.1 ?_
        replace h := h.2
        refine e_inc (la2 := [rA 28, (0, n), (0, c), (0, a1), (0, a2), (0, e), (0, k + 1), (0, (e * 5) + k), (0, w 35 (w32 ((n * 4) + (w 29 (w32 e).toNat))).toNat)]) (show am_cd 31 141 = (4, 144, 6, 1, []) by decide +kernel) rfl rfl ?_
        refine e_go (show am_cd 31 144 = (12, 55, 0, 0, []) by decide +kernel) ?_
        exact h

