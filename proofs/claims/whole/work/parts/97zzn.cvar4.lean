/-! The class: unlike spellings: regions (2). -/

theorem g_vput0 {d : Nat} {Q : Option aV → aS → Prop} {w : eW} {t : eT} {n s i : Int} {m : eW} {b : Nat × Nat} {P : Int → Int → Prop} (h : ((w32 s = w32 (-1) → Q none (enc w t)) ∧ (¬ (w32 s = w32 (-1)) → (0 ≤ w32 n ∧ w32 n < 7) ∧ ((w32 200 ≤ w32 (w 60 (w32 n).toNat) → Q none (enc w t)) ∧ (¬ (w32 200 ≤ w32 (w 60 (w32 n).toNat)) → (MC P b m w t ∧ 0 ≤ (s * 7) + i ∧ (s * 7) + i < 2147483648) ∧ (∀ x1, ((x1 = -1 ∧ ¬ Fnd w t ((s * 7) + i)) ∨ (P ((s * 7) + i) x1 ∧ ∃ j, j < mM w t ∧ tF (w 45 2) (mTag w) j ∧ tK (mTag w) j = (s * 7) + i)) → ((w64 ((w32 n) + x1) ≤ w64 6 → Ev (d + 21) 99 Q 48 [rA 58, (0, n), (0, s), (0, i), (0, (s * 7) + i), (0, 0)] [] (enc w t)) ∧ (¬ (w64 ((w32 n) + x1) ≤ w64 6) → Q none (enc w t))))))))) : Cl (d + 21) 99 [rA 58, (0, n), (0, s), (0, i)] (enc w t) Q := by
  show Ev (d + 21) 99 Q 0 [rA 58, (0, n), (0, s), (0, i), (9, 0), (9, 0)] [] (enc w t)
  refine e_ldi (show am_cd 99 0 = (2, 1, 2, 0, []) by decide +kernel) rfl ?_
  refine e_ic (show am_cd 99 1 = (0, 3, 1, 7, []) by decide +kernel) ?_
  refine e_imul (show am_cd 99 3 = (5, 4, 2, 0, []) by decide +kernel) ?_
  refine e_ldi (show am_cd 99 4 = (2, 5, 3, 0, []) by decide +kernel) rfl ?_
  refine e_iadd (show am_cd 99 5 = (5, 6, 0, 0, []) by decide +kernel) ?_
  refine e_sti (la2 := [rA 58, (0, n), (0, s), (0, i), (0, (s * 7) + i), (9, 0)]) (show am_cd 99 6 = (3, 8, 4, 0, []) by decide +kernel) rfl ?_
  refine e_ldi (show am_cd 99 8 = (2, 9, 2, 0, []) by decide +kernel) rfl ?_
  refine e_ic (show am_cd 99 9 = (0, 10, 0, -1, []) by decide +kernel) ?_
  refine e_cmp0 (show am_cd 99 10 = (11, 13, 44, 0, []) by decide +kernel) (fun hc => ?_) (fun hc => ?_)
  · replace h := h.1 hc
    exact e_retv (show am_cd 99 44 = (36, 45, 3, 0, []) by decide +kernel) (by decide +kernel) h
  · replace h := h.2 hc
    refine e_lda (v := 58) (show am_cd 99 13 = (2, 14, 0, 2, []) by decide +kernel) rfl ?_
    refine e_getr (a := 58) (r := 60) (show am_cd 99 14 = (18, 17, 905, 2, [15]) by decide +kernel) (by decide +kernel) (by decide +kernel) rfl ?_
    refine e_ldi (show am_cd 99 17 = (2, 18, 1, 0, []) by decide +kernel) rfl ?_
    refine e_iald (a := 60) (n := 7) (show am_cd 99 18 = (21, 19, 0, 0, []) by decide +kernel) (by decide +kernel) (by decide +kernel) (by decide +kernel) h.1 ?_
    replace h := h.2
    refine e_ic (show am_cd 99 19 = (0, 22, 2, 200, []) by decide +kernel) ?_
    refine e_cmp3 (show am_cd 99 22 = (11, 25, 44, 3, []) by decide +kernel) (fun hc => ?_) (fun hc => ?_)
    · replace h := h.1 hc
      exact e_retv (show am_cd 99 44 = (36, 45, 3, 0, []) by decide +kernel) (by decide +kernel) h
    · replace h := h.2 hc
      refine e_ldi (show am_cd 99 25 = (2, 26, 1, 0, []) by decide +kernel) rfl ?_
      refine e_i2l (show am_cd 99 26 = (8, 27, 0, 0, []) by decide +kernel) ?_
      refine e_lda (v := 58) (show am_cd 99 27 = (2, 28, 0, 2, []) by decide +kernel) rfl ?_
      refine e_getr (a := 58) (r := 45) (show am_cd 99 28 = (18, 31, 903, 2, [30]) by decide +kernel) (by decide +kernel) (by decide +kernel) rfl ?_
      refine e_ldi (show am_cd 99 31 = (2, 33, 4, 0, []) by decide +kernel) rfl ?_
      refine e_cV (z := 0) (a := 45) (as := [(0, (s * 7) + i)]) (rest := [(1, w32 n)]) (show am_cd 99 33 = (40, 36, 46, 0, [113]) by decide +kernel) (by decide +kernel) rfl rfl (Nat.le_of_ble_eq_true rfl) rfl ?_
      refine Cl.mono (Cl.up (m_findF (P := P) (m := m) (b := b) (d := d) h.1) (by omega)) ?_
      rintro _ _ ⟨x1, rfl, rfl, hp⟩
      refine ⟨fun _ h9 => (by cases h9), ?_⟩
      replace h := h.2 x1 hp
      show Ev _ 99 _ 36 [rA 58, (0, n), (0, s), (0, i), (0, (s * 7) + i), (9, 0)] [(1, x1), (1, w32 n)] _
      refine e_ladd (show am_cd 99 36 = (6, 37, 0, 0, []) by decide +kernel) ?_
      refine e_lc (show am_cd 99 37 = (1, 40, 1, 6, [117]) by decide +kernel) ?_
      refine e_lcb5 (show am_cd 99 40 = (9, 41, 0, 0, []) by decide +kernel) (show am_cd 99 41 = (10, 44, 45, 5, []) by decide +kernel) (fun hc => ?_) (fun hc => ?_)
      · replace h := h.1 hc
        refine e_ic (show am_cd 99 45 = (0, 46, 0, 0, []) by decide +kernel) ?_
        refine e_sti (la2 := [rA 58, (0, n), (0, s), (0, i), (0, (s * 7) + i), (0, 0)]) (show am_cd 99 46 = (3, 48, 5, 0, []) by decide +kernel) rfl ?_
        exact h
      · replace h := h.2 hc
        exact e_retv (show am_cd 99 44 = (36, 45, 3, 0, []) by decide +kernel) (by decide +kernel) h

theorem g_vput1 {d : Nat} {Q : Option aV → aS → Prop} {w : eW} {t : eT} {n s i sp k : Int} (h : (0 ≤ w32 n ∧ w32 n < 7) ∧ ((w32 (w 60 (w32 n).toNat) ≤ w32 k → (0 ≤ w32 n ∧ w32 n < 7) ∧ (0 ≤ w32 ((n * 200) + (w 60 (w32 n).toNat)) ∧ w32 ((n * 200) + (w 60 (w32 n).toNat)) < 1400) ∧ (0 ≤ w32 n ∧ w32 n < 7) ∧ (0 ≤ w32 n ∧ w32 n < 7) ∧ (Q none (enc (wu (wu w 59 (w32 ((n * 200) + (w 60 (w32 n).toNat))).toNat sp) 60 (w32 n).toNat ((w 60 (w32 n).toNat) + 1)) t))) ∧ (¬ (w32 (w 60 (w32 n).toNat) ≤ w32 k) → (0 ≤ w32 ((n * 200) + k) ∧ w32 ((n * 200) + k) < 1400) ∧ ((¬ w32 (w 59 (w32 ((n * 200) + k)).toNat) = w32 sp → Ev (d + 21) 99 Q 48 [rA 58, (0, n), (0, s), (0, i), (0, sp), (0, k + 1)] [] (enc w t)) ∧ (¬ (¬ w32 (w 59 (w32 ((n * 200) + k)).toNat) = w32 sp) → Q none (enc w t)))))) : Ev (d + 21) 99 Q 48 [rA 58, (0, n), (0, s), (0, i), (0, sp), (0, k)] [] (enc w t) := by
  refine e_ldi (show am_cd 99 48 = (2, 50, 5, 0, []) by decide +kernel) rfl ?_
  refine e_lda (v := 58) (show am_cd 99 50 = (2, 51, 0, 2, []) by decide +kernel) rfl ?_
  refine e_getr (a := 58) (r := 60) (show am_cd 99 51 = (18, 54, 905, 2, [15]) by decide +kernel) (by decide +kernel) (by decide +kernel) rfl ?_
  refine e_ldi (show am_cd 99 54 = (2, 55, 1, 0, []) by decide +kernel) rfl ?_
  refine e_iald (a := 60) (n := 7) (show am_cd 99 55 = (21, 56, 0, 0, []) by decide +kernel) (by decide +kernel) (by decide +kernel) (by decide +kernel) h.1 ?_
  replace h := h.2
  refine e_cmp3 (show am_cd 99 56 = (11, 59, 84, 3, []) by decide +kernel) (fun hc => ?_) (fun hc => ?_)
  · replace h := h.1 hc
    refine e_lda (v := 58) (show am_cd 99 84 = (2, 85, 0, 2, []) by decide +kernel) rfl ?_
    refine e_getr (a := 58) (r := 59) (show am_cd 99 85 = (18, 88, 904, 2, [11]) by decide +kernel) (by decide +kernel) (by decide +kernel) rfl ?_
    refine e_ldi (show am_cd 99 88 = (2, 89, 1, 0, []) by decide +kernel) rfl ?_
    refine e_ic (show am_cd 99 89 = (0, 92, 2, 200, []) by decide +kernel) ?_
    refine e_imul (show am_cd 99 92 = (5, 93, 2, 0, []) by decide +kernel) ?_
    refine e_lda (v := 58) (show am_cd 99 93 = (2, 94, 0, 2, []) by decide +kernel) rfl ?_
    refine e_getr (a := 58) (r := 60) (show am_cd 99 94 = (18, 97, 905, 2, [15]) by decide +kernel) (by decide +kernel) (by decide +kernel) rfl ?_
    refine e_ldi (show am_cd 99 97 = (2, 98, 1, 0, []) by decide +kernel) rfl ?_
    refine e_iald (a := 60) (n := 7) (show am_cd 99 98 = (21, 99, 0, 0, []) by decide +kernel) (by decide +kernel) (by decide +kernel) (by decide +kernel) h.1 ?_
    replace h := h.2
    refine e_iadd (show am_cd 99 99 = (5, 100, 0, 0, []) by decide +kernel) ?_
    refine e_ldi (show am_cd 99 100 = (2, 102, 4, 0, []) by decide +kernel) rfl ?_
    refine e_iast (a := 59) (n := 1400) (show am_cd 99 102 = (24, 103, 0, 0, []) by decide +kernel) (by decide +kernel) (by decide +kernel) (by decide +kernel) h.1 ?_
    replace h := h.2
    refine e_lda (v := 58) (show am_cd 99 103 = (2, 104, 0, 2, []) by decide +kernel) rfl ?_
    refine e_getr (a := 58) (r := 60) (show am_cd 99 104 = (18, 107, 905, 2, [15]) by decide +kernel) (by decide +kernel) (by decide +kernel) rfl ?_
    refine e_ldi (show am_cd 99 107 = (2, 108, 1, 0, []) by decide +kernel) rfl ?_
    refine e_dup2 (show am_cd 99 108 = (14, 109, 0, 0, []) by decide +kernel) (by decide) ?_
    refine e_ialdE (a := 60) (n := 7) (v := w 60 (w32 n).toNat) (show am_cd 99 109 = (21, 110, 0, 0, []) by decide +kernel) (by decide +kernel) (by decide +kernel) (by decide +kernel) h.1 rfl ?_
    replace h := h.2
    refine e_ic (show am_cd 99 110 = (0, 111, 0, 1, []) by decide +kernel) ?_
    refine e_iadd (show am_cd 99 111 = (5, 112, 0, 0, []) by decide +kernel) ?_
    refine e_iast (a := 60) (n := 7) (show am_cd 99 112 = (24, 113, 0, 0, []) by decide +kernel) (by decide +kernel) (by decide +kernel) (by decide +kernel) h.1 ?_
    replace h := h.2
    exact e_retv (show am_cd 99 113 = (36, 114, 3, 0, []) by decide +kernel) (by decide +kernel) h
  · replace h := h.2 hc
    refine e_lda (v := 58) (show am_cd 99 59 = (2, 60, 0, 2, []) by decide +kernel) rfl ?_
    refine e_getr (a := 58) (r := 59) (show am_cd 99 60 = (18, 63, 904, 2, [11]) by decide +kernel) (by decide +kernel) (by decide +kernel) rfl ?_
    refine e_ldi (show am_cd 99 63 = (2, 64, 1, 0, []) by decide +kernel) rfl ?_
    refine e_ic (show am_cd 99 64 = (0, 67, 2, 200, []) by decide +kernel) ?_
    refine e_imul (show am_cd 99 67 = (5, 68, 2, 0, []) by decide +kernel) ?_
    refine e_ldi (show am_cd 99 68 = (2, 70, 5, 0, []) by decide +kernel) rfl ?_
    refine e_iadd (show am_cd 99 70 = (5, 71, 0, 0, []) by decide +kernel) ?_
    refine e_iald (a := 59) (n := 1400) (show am_cd 99 71 = (21, 72, 0, 0, []) by decide +kernel) (by decide +kernel) (by decide +kernel) (by decide +kernel) h.1 ?_
    replace h := h.2
    refine e_ldi (show am_cd 99 72 = (2, 74, 4, 0, []) by decide +kernel) rfl ?_
    refine e_cmp1 (show am_cd 99 74 = (11, 77, 78, 1, []) by decide +kernel) (fun hc => ?_) (fun hc => ?_)
    · replace h := h.1 hc
      refine e_inc (la2 := [rA 58, (0, n), (0, s), (0, i), (0, sp), (0, k + 1)]) (show am_cd 99 78 = (4, 81, 5, 1, []) by decide +kernel) rfl rfl ?_
      refine e_go (show am_cd 99 81 = (12, 48, 0, 0, []) by decide +kernel) ?_
      exact h
    · replace h := h.2 hc
      exact e_retv (show am_cd 99 77 = (36, 78, 3, 0, []) by decide +kernel) (by decide +kernel) h

theorem g_adb0 {d : Nat} {Q : Option aV → aS → Prop} {w : eW} {t : eT} {sp c n : Int} {m : eW} {l : List Int} {b : Nat × Nat} (h : ∃ g1, (VpP m l g1 (idiv sp 7) (irem sp 7) w t) ∧ (∀ x2, (x2 = ((spP m l (irem sp 7).toNat &&& mfG m g1 : Nat) : Int)) → (0 ≤ w32 c ∧ w32 c < 28) ∧ (Ev (d + 22) 98 Q 35 [rA 58, (0, sp), (0, c), (0, n), (0, idiv sp 7), (0, irem sp 7), (0, iand x2 (w 12 (w32 c).toNat)), (0, 0)] [] (enc w t)))) : Cl (d + 22) 98 [rA 58, (0, sp), (0, c), (0, n)] (enc w t) Q := by
  show Ev (d + 22) 98 Q 0 [rA 58, (0, sp), (0, c), (0, n), (9, 0), (9, 0), (9, 0), (9, 0)] [] (enc w t)
  refine e_ldi (show am_cd 98 0 = (2, 1, 1, 0, []) by decide +kernel) rfl ?_
  refine e_ic (show am_cd 98 1 = (0, 3, 1, 7, []) by decide +kernel) ?_
  refine e_idiv (show am_cd 98 3 = (5, 4, 9, 0, []) by decide +kernel) (by decide) ?_
  refine e_sti (la2 := [rA 58, (0, sp), (0, c), (0, n), (0, idiv sp 7), (9, 0), (9, 0), (9, 0)]) (show am_cd 98 4 = (3, 6, 4, 0, []) by decide +kernel) rfl ?_
  refine e_ldi (show am_cd 98 6 = (2, 7, 1, 0, []) by decide +kernel) rfl ?_
  refine e_ic (show am_cd 98 7 = (0, 9, 1, 7, []) by decide +kernel) ?_
  refine e_irem (show am_cd 98 9 = (5, 10, 10, 0, []) by decide +kernel) (by decide) ?_
  refine e_sti (la2 := [rA 58, (0, sp), (0, c), (0, n), (0, idiv sp 7), (0, irem sp 7), (9, 0), (9, 0)]) (show am_cd 98 10 = (3, 12, 5, 0, []) by decide +kernel) rfl ?_
  refine e_lda (v := 58) (show am_cd 98 12 = (2, 13, 0, 2, []) by decide +kernel) rfl ?_
  refine e_ldi (show am_cd 98 13 = (2, 15, 4, 0, []) by decide +kernel) rfl ?_
  refine e_ldi (show am_cd 98 15 = (2, 17, 5, 0, []) by decide +kernel) rfl ?_
  refine e_cV (z := 0) (a := 58) (as := [(0, idiv sp 7), (0, irem sp 7)]) (rest := []) (show am_cd 98 17 = (40, 20, 94, 0, [94]) by decide +kernel) (by decide +kernel) rfl rfl (Nat.le_of_ble_eq_true rfl) rfl ?_
  obtain ⟨g1, h⟩ := h
  refine Cl.mono (Cl.up (c_vpa (m := m) (l := l) (d := d) g1 h.1) (by omega)) ?_
  rintro _ _ ⟨x2, rfl, rfl, hp⟩
  refine ⟨fun _ h9 => (by cases h9), ?_⟩
  replace h := h.2 x2 hp
  show Ev _ 98 _ 20 [rA 58, (0, sp), (0, c), (0, n), (0, idiv sp 7), (0, irem sp 7), (9, 0), (9, 0)] [(0, x2)] _
  refine e_lda (v := 58) (show am_cd 98 20 = (2, 21, 0, 2, []) by decide +kernel) rfl ?_
  refine e_getr (a := 58) (r := 8) (show am_cd 98 21 = (18, 24, 901, 2, [22]) by decide +kernel) (by decide +kernel) (by decide +kernel) rfl ?_
  refine e_getr (a := 8) (r := 12) (show am_cd 98 24 = (18, 27, 3, 2, [104]) by decide +kernel) (by decide +kernel) (by decide +kernel) rfl ?_
  refine e_ldi (show am_cd 98 27 = (2, 28, 2, 0, []) by decide +kernel) rfl ?_
  refine e_iald (a := 12) (n := 28) (show am_cd 98 28 = (21, 29, 0, 0, []) by decide +kernel) (by decide +kernel) (by decide +kernel) (by decide +kernel) h.1 ?_
  replace h := h.2
  refine e_iand (show am_cd 98 29 = (5, 30, 3, 0, []) by decide +kernel) ?_
  refine e_sti (la2 := [rA 58, (0, sp), (0, c), (0, n), (0, idiv sp 7), (0, irem sp 7), (0, iand x2 (w 12 (w32 c).toNat)), (9, 0)]) (show am_cd 98 30 = (3, 32, 6, 0, []) by decide +kernel) rfl ?_
  refine e_ic (show am_cd 98 32 = (0, 33, 0, 0, []) by decide +kernel) ?_
  refine e_sti (la2 := [rA 58, (0, sp), (0, c), (0, n), (0, idiv sp 7), (0, irem sp 7), (0, iand x2 (w 12 (w32 c).toNat)), (0, 0)]) (show am_cd 98 33 = (3, 35, 7, 0, []) by decide +kernel) rfl ?_
  exact h

theorem g_adb1 {d : Nat} {Q : Option aV → aS → Prop} {w : eW} {t : eT} {sp c n s i ft p : Int} {m : eW} {l : List Int} {b : Nat × Nat} {γU : Type} {PRU : γU → Int → Int → Int → eW → eT → Prop} {POU : γU → Int → Int → Int → eW → eT → eW → eT → Prop} (hrU : ∀ (g : γU) (a1 a2 a3 : Int) (w : eW) (t : eT), PRU g a1 a2 a3 w t → Cl (d + 21) 99 [rA 58, (0, a1), (0, a2), (0, a3)] (enc w t) (fun r S2 => ∃ w2 t2, r = none ∧ S2 = enc w2 t2 ∧ POU g a1 a2 a3 w t w2 t2)) (h : ((w32 16 ≤ w32 p → Q none (enc w t)) ∧ (¬ (w32 16 ≤ w32 p) → ((w32 (ishr ft p) = 0 → Q none (enc w t)) ∧ (¬ (w32 (ishr ft p) = 0) → ((w32 (iand (ishr ft p) 1) = 0 → Ev (d + 22) 98 Q 35 [rA 58, (0, sp), (0, c), (0, n), (0, s), (0, i), (0, ft), (0, p + 1)] [] (enc w t)) ∧ (¬ (w32 (iand (ishr ft p) 1) = 0) → (RgM w t (w 37 7).toNat ∧ ((0 : Int) ≤ s ∧ (s : Int) < w 37 7) ∧ (0 : Int) ≤ p ∧ (p : Int) < 16) ∧ (∀ x1, (x1 = mA w s.toNat p.toNat) → (AC w m ∧ WFp m ∧ ((0 : Int) ≤ p ∧ (p : Int) < 32)) ∧ (((isI m p.toNat) = false → ∃ g2, (PRU g2 n x1 (i + 1) w t) ∧ (∀ w3 t4, (POU g2 n x1 (i + 1) w t w3 t4) → Ev (d + 22) 98 Q 35 [rA 58, (0, sp), (0, c), (0, n), (0, s), (0, i), (0, ft), (0, p + 1)] [] (enc w3 t4))) ∧ ((isI m p.toNat) = true → ∃ g5, (PRU g5 n x1 i w t) ∧ (∀ w6 t7, (POU g5 n x1 i w t w6 t7) → Ev (d + 22) 98 Q 35 [rA 58, (0, sp), (0, c), (0, n), (0, s), (0, i), (0, ft), (0, p + 1)] [] (enc w6 t7)))))))))))) : Ev (d + 22) 98 Q 35 [rA 58, (0, sp), (0, c), (0, n), (0, s), (0, i), (0, ft), (0, p)] [] (enc w t) := by
  refine e_ldi (show am_cd 98 35 = (2, 37, 7, 0, []) by decide +kernel) rfl ?_
  refine e_ic (show am_cd 98 37 = (0, 39, 1, 16, []) by decide +kernel) ?_
  refine e_cmp3 (show am_cd 98 39 = (11, 42, 103, 3, []) by decide +kernel) (fun hc => ?_) (fun hc => ?_)
  · replace h := h.1 hc
    exact e_retv (show am_cd 98 103 = (36, 104, 3, 0, []) by decide +kernel) (by decide +kernel) h
  · replace h := h.2 hc
    refine e_ldi (show am_cd 98 42 = (2, 44, 6, 0, []) by decide +kernel) rfl ?_
    refine e_ldi (show am_cd 98 44 = (2, 46, 7, 0, []) by decide +kernel) rfl ?_
    refine e_ishr (show am_cd 98 46 = (5, 47, 7, 0, []) by decide +kernel) ?_
    refine e_if0 (show am_cd 98 47 = (10, 50, 103, 0, []) by decide +kernel) (fun hc => ?_) (fun hc => ?_)
    · replace h := h.1 hc
      exact e_retv (show am_cd 98 103 = (36, 104, 3, 0, []) by decide +kernel) (by decide +kernel) h
    · replace h := h.2 hc
      refine e_ldi (show am_cd 98 50 = (2, 52, 6, 0, []) by decide +kernel) rfl ?_
      refine e_ldi (show am_cd 98 52 = (2, 54, 7, 0, []) by decide +kernel) rfl ?_
      refine e_ishr (show am_cd 98 54 = (5, 55, 7, 0, []) by decide +kernel) ?_
      refine e_ic (show am_cd 98 55 = (0, 56, 0, 1, []) by decide +kernel) ?_
      refine e_iand (show am_cd 98 56 = (5, 57, 3, 0, []) by decide +kernel) ?_
      refine e_if0 (show am_cd 98 57 = (10, 60, 97, 0, []) by decide +kernel) (fun hc => ?_) (fun hc => ?_)
      · replace h := h.1 hc
        refine e_inc (la2 := [rA 58, (0, sp), (0, c), (0, n), (0, s), (0, i), (0, ft), (0, p + 1)]) (show am_cd 98 97 = (4, 100, 7, 1, []) by decide +kernel) rfl rfl ?_
        refine e_go (show am_cd 98 100 = (12, 35, 0, 0, []) by decide +kernel) ?_
        exact h
      · replace h := h.2 hc
        refine e_lda (v := 58) (show am_cd 98 60 = (2, 61, 0, 2, []) by decide +kernel) rfl ?_
        refine e_ldi (show am_cd 98 61 = (2, 62, 3, 0, []) by decide +kernel) rfl ?_
        refine e_lda (v := 58) (show am_cd 98 62 = (2, 63, 0, 2, []) by decide +kernel) rfl ?_
        refine e_getr (a := 58) (r := 37) (show am_cd 98 63 = (18, 66, 902, 2, [26]) by decide +kernel) (by decide +kernel) (by decide +kernel) rfl ?_
        refine e_ldi (show am_cd 98 66 = (2, 68, 4, 0, []) by decide +kernel) rfl ?_
        refine e_ldi (show am_cd 98 68 = (2, 70, 7, 0, []) by decide +kernel) rfl ?_
        refine e_cV (z := 0) (a := 37) (as := [(0, s), (0, p)]) (rest := [(0, n), rA 58]) (show am_cd 98 70 = (40, 73, 41, 0, [107]) by decide +kernel) (by decide +kernel) rfl rfl (Nat.le_of_ble_eq_true rfl) rfl ?_
        refine Cl.mono (Cl.up (c_behU (d := d) h.1) (by omega)) ?_
        rintro _ _ ⟨x1, rfl, rfl, hp⟩
        refine ⟨fun _ h9 => (by cases h9), ?_⟩
        replace h := h.2 x1 hp
        show Ev _ 98 _ 73 [rA 58, (0, sp), (0, c), (0, n), (0, s), (0, i), (0, ft), (0, p)] [(0, x1), (0, n), rA 58] _
        refine e_lda (v := 58) (show am_cd 98 73 = (2, 74, 0, 2, []) by decide +kernel) rfl ?_
        refine e_getr (a := 58) (r := 8) (show am_cd 98 74 = (18, 77, 901, 2, [22]) by decide +kernel) (by decide +kernel) (by decide +kernel) rfl ?_
        refine e_ldi (show am_cd 98 77 = (2, 79, 7, 0, []) by decide +kernel) rfl ?_
        refine e_cV (z := 0) (a := 8) (as := [(0, p)]) (rest := [(0, x1), (0, n), rA 58]) (show am_cd 98 79 = (40, 82, 3, 0, [110]) by decide +kernel) (by decide +kernel) rfl rfl (Nat.le_of_ble_eq_true rfl) rfl ?_
        refine Cl.mono (Cl.up (c_isIc (d := d) h.1) (by omega)) ?_
        rintro _ _ ⟨rfl, rfl⟩
        refine ⟨fun _ h9 => (by cases h9), ?_⟩
        replace h := h.2
        show Ev _ 98 _ 82 [rA 58, (0, sp), (0, c), (0, n), (0, s), (0, i), (0, ft), (0, p)] [(0, bI (isI m p.toNat)), (0, x1), (0, n), rA 58] _
        refine e_ifb0 (show am_cd 98 82 = (10, 85, 90, 0, []) by decide +kernel) (fun hc => ?_) (fun hc => ?_)
        · replace h := h.1 hc
          refine e_ldi (show am_cd 98 90 = (2, 92, 5, 0, []) by decide +kernel) rfl ?_
          refine e_ic (show am_cd 98 92 = (0, 93, 0, 1, []) by decide +kernel) ?_
          refine e_iadd (show am_cd 98 93 = (5, 94, 0, 0, []) by decide +kernel) ?_
          refine e_cV (z := 0) (a := 58) (as := [(0, n), (0, x1), (0, i + 1)]) (rest := []) (show am_cd 98 94 = (40, 97, 99, 0, [47]) by decide +kernel) (by decide +kernel) rfl rfl (Nat.le_of_ble_eq_true rfl) rfl ?_
          obtain ⟨g2, h⟩ := h
          refine Cl.mono (Cl.up (hrU g2 _ _ _ _ _ h.1) (by omega)) ?_
          rintro _ _ ⟨w3, t4, rfl, rfl, hp⟩
          refine ⟨fun _ h9 => (by cases h9), ?_⟩
          replace h := h.2 w3 t4 hp
          show Ev _ 98 _ 97 [rA 58, (0, sp), (0, c), (0, n), (0, s), (0, i), (0, ft), (0, p)] [] _
          refine e_inc (la2 := [rA 58, (0, sp), (0, c), (0, n), (0, s), (0, i), (0, ft), (0, p + 1)]) (show am_cd 98 97 = (4, 100, 7, 1, []) by decide +kernel) rfl rfl ?_
          refine e_go (show am_cd 98 100 = (12, 35, 0, 0, []) by decide +kernel) ?_
          exact h
        · replace h := h.2 hc
          refine e_ldi (show am_cd 98 85 = (2, 87, 5, 0, []) by decide +kernel) rfl ?_
          refine e_go (show am_cd 98 87 = (12, 94, 0, 0, []) by decide +kernel) ?_
          refine e_cV (z := 0) (a := 58) (as := [(0, n), (0, x1), (0, i)]) (rest := []) (show am_cd 98 94 = (40, 97, 99, 0, [47]) by decide +kernel) (by decide +kernel) rfl rfl (Nat.le_of_ble_eq_true rfl) rfl ?_
          obtain ⟨g5, h⟩ := h
          refine Cl.mono (Cl.up (hrU g5 _ _ _ _ _ h.1) (by omega)) ?_
          rintro _ _ ⟨w6, t7, rfl, rfl, hp⟩
          refine ⟨fun _ h9 => (by cases h9), ?_⟩
          replace h := h.2 w6 t7 hp
          show Ev _ 98 _ 97 [rA 58, (0, sp), (0, c), (0, n), (0, s), (0, i), (0, ft), (0, p)] [] _
          refine e_inc (la2 := [rA 58, (0, sp), (0, c), (0, n), (0, s), (0, i), (0, ft), (0, p + 1)]) (show am_cd 98 97 = (4, 100, 7, 1, []) by decide +kernel) rfl rfl ?_
          refine e_go (show am_cd 98 100 = (12, 35, 0, 0, []) by decide +kernel) ?_
          exact h

theorem g_ads0 {d : Nat} {Q : Option aV → aS → Prop} {w : eW} {t : eT} {n : Int} (h : Ev (d + 23) 97 Q 2 [rA 58, (0, n), (0, 0)] [] (enc w t)) : Cl (d + 23) 97 [rA 58, (0, n)] (enc w t) Q := by
  show Ev (d + 23) 97 Q 0 [rA 58, (0, n), (9, 0)] [] (enc w t)
  refine e_ic (show am_cd 97 0 = (0, 1, 0, 0, []) by decide +kernel) ?_
  refine e_sti (la2 := [rA 58, (0, n), (0, 0)]) (show am_cd 97 1 = (3, 2, 2, 0, []) by decide +kernel) rfl ?_
  exact h

theorem g_ads1 {d : Nat} {Q : Option aV → aS → Prop} {w : eW} {t : eT} {n i : Int} {γB : Type} {PRB : γB → Int → Int → Int → eW → eT → Prop} {POB : γB → Int → Int → Int → eW → eT → eW → eT → Prop} (hrB : ∀ (g : γB) (a1 a2 a3 : Int) (w : eW) (t : eT), PRB g a1 a2 a3 w t → Cl (d + 22) 98 [rA 58, (0, a1), (0, a2), (0, a3)] (enc w t) (fun r S2 => ∃ w2 t2, r = none ∧ S2 = enc w2 t2 ∧ POB g a1 a2 a3 w t w2 t2)) (h : (0 ≤ w32 n ∧ w32 n < 7) ∧ ((w32 (w 60 (w32 n).toNat) ≤ w32 i → Q none (enc w t)) ∧ (¬ (w32 (w 60 (w32 n).toNat) ≤ w32 i) → ((w32 200 ≤ w32 i → Q none (enc w t)) ∧ (¬ (w32 200 ≤ w32 i) → (0 ≤ w32 ((n * 200) + i) ∧ w32 ((n * 200) + i) < 1400) ∧ (∃ g1, (PRB g1 (w 59 (w32 ((n * 200) + i)).toNat) 0 n w t) ∧ (∀ w2 t3, (POB g1 (w 59 (w32 ((n * 200) + i)).toNat) 0 n w t w2 t3) → Ev (d + 23) 97 Q 2 [rA 58, (0, n), (0, i + 1)] [] (enc w2 t3)))))))) : Ev (d + 23) 97 Q 2 [rA 58, (0, n), (0, i)] [] (enc w t) := by
  refine e_ldi (show am_cd 97 2 = (2, 3, 2, 0, []) by decide +kernel) rfl ?_
  refine e_lda (v := 58) (show am_cd 97 3 = (2, 4, 0, 2, []) by decide +kernel) rfl ?_
  refine e_getr (a := 58) (r := 60) (show am_cd 97 4 = (18, 7, 905, 2, [15]) by decide +kernel) (by decide +kernel) (by decide +kernel) rfl ?_
  refine e_ldi (show am_cd 97 7 = (2, 8, 1, 0, []) by decide +kernel) rfl ?_
  refine e_iald (a := 60) (n := 7) (show am_cd 97 8 = (21, 9, 0, 0, []) by decide +kernel) (by decide +kernel) (by decide +kernel) (by decide +kernel) h.1 ?_
  replace h := h.2
  refine e_cmp3 (show am_cd 97 9 = (11, 12, 43, 3, []) by decide +kernel) (fun hc => ?_) (fun hc => ?_)
  · replace h := h.1 hc
    exact e_retv (show am_cd 97 43 = (36, 44, 3, 0, []) by decide +kernel) (by decide +kernel) h
  · replace h := h.2 hc
    refine e_ldi (show am_cd 97 12 = (2, 13, 2, 0, []) by decide +kernel) rfl ?_
    refine e_ic (show am_cd 97 13 = (0, 16, 2, 200, []) by decide +kernel) ?_
    refine e_cmp3 (show am_cd 97 16 = (11, 19, 43, 3, []) by decide +kernel) (fun hc => ?_) (fun hc => ?_)
    · replace h := h.1 hc
      exact e_retv (show am_cd 97 43 = (36, 44, 3, 0, []) by decide +kernel) (by decide +kernel) h
    · replace h := h.2 hc
      refine e_lda (v := 58) (show am_cd 97 19 = (2, 20, 0, 2, []) by decide +kernel) rfl ?_
      refine e_lda (v := 58) (show am_cd 97 20 = (2, 21, 0, 2, []) by decide +kernel) rfl ?_
      refine e_getr (a := 58) (r := 59) (show am_cd 97 21 = (18, 24, 904, 2, [11]) by decide +kernel) (by decide +kernel) (by decide +kernel) rfl ?_
      refine e_ldi (show am_cd 97 24 = (2, 25, 1, 0, []) by decide +kernel) rfl ?_
      refine e_ic (show am_cd 97 25 = (0, 28, 2, 200, []) by decide +kernel) ?_
      refine e_imul (show am_cd 97 28 = (5, 29, 2, 0, []) by decide +kernel) ?_
      refine e_ldi (show am_cd 97 29 = (2, 30, 2, 0, []) by decide +kernel) rfl ?_
      refine e_iadd (show am_cd 97 30 = (5, 31, 0, 0, []) by decide +kernel) ?_
      refine e_iald (a := 59) (n := 1400) (show am_cd 97 31 = (21, 32, 0, 0, []) by decide +kernel) (by decide +kernel) (by decide +kernel) (by decide +kernel) h.1 ?_
      replace h := h.2
      refine e_ic (show am_cd 97 32 = (0, 33, 0, 0, []) by decide +kernel) ?_
      refine e_ldi (show am_cd 97 33 = (2, 34, 1, 0, []) by decide +kernel) rfl ?_
      refine e_cV (z := 0) (a := 58) (as := [(0, w 59 (w32 ((n * 200) + i)).toNat), (0, 0), (0, n)]) (rest := []) (show am_cd 97 34 = (40, 37, 98, 0, [101]) by decide +kernel) (by decide +kernel) rfl rfl (Nat.le_of_ble_eq_true rfl) rfl ?_
      obtain ⟨g1, h⟩ := h
      refine Cl.mono (Cl.up (hrB g1 _ _ _ _ _ h.1) (by omega)) ?_
      rintro _ _ ⟨w2, t3, rfl, rfl, hp⟩
      refine ⟨fun _ h9 => (by cases h9), ?_⟩
      replace h := h.2 w2 t3 hp
      show Ev _ 97 _ 37 [rA 58, (0, n), (0, i)] [] _
      refine e_inc (la2 := [rA 58, (0, n), (0, i + 1)]) (show am_cd 97 37 = (4, 40, 2, 1, []) by decide +kernel) rfl rfl ?_
      refine e_go (show am_cd 97 40 = (12, 2, 0, 0, []) by decide +kernel) ?_
      exact h

