/-! The class: unlike spellings: regions (2). -/

theorem g_vput0 {d : Nat} {Q : Option aV → aS → Prop} {w : eW} {t : eT} {n s i : Int} {m : eW} {l : List Int} {b : Nat × Nat} {γV : Type} {PRV : γV → Int → Int → Int → eW → eT → Prop} {POV : γV → Int → Int → Int → eW → eT → Int → eW → eT → Prop} (hrV : ∀ (g : γV) (a1 a2 a3 : Int) (w : eW) (t : eT), PRV g a1 a2 a3 w t → Cl (d + 20) 100 [rA 58, (0, a1), (0, a2), (0, a3)] (enc w t) (fun r S2 => ∃ x w2 t2, r = some (0, x) ∧ S2 = enc w2 t2 ∧ POV g a1 a2 a3 w t x w2 t2)) (h : ((w32 s = w32 (-1) → Q none (enc w t)) ∧ (¬ (w32 s = w32 (-1)) → (0 ≤ w32 n ∧ w32 n < 7) ∧ ((w32 200 ≤ w32 (w 60 (w32 n).toNat) → Q none (enc w t)) ∧ (¬ (w32 200 ≤ w32 (w 60 (w32 n).toNat)) → ∃ g1, (PRV g1 s i 0 w t) ∧ (∀ x2 w3 t4, (POV g1 s i 0 w t x2 w3 t4) → ((w32 (n + x2) ≤ w32 6 → Ev (d + 21) 99 Q 43 [rA 58, (0, n), (0, s), (0, i), (0, (s * 7) + i), (0, 0)] [] (enc w3 t4)) ∧ (¬ (w32 (n + x2) ≤ w32 6) → Q none (enc w3 t4))))))))) : Cl (d + 21) 99 [rA 58, (0, n), (0, s), (0, i)] (enc w t) Q := by
  show Ev (d + 21) 99 Q 0 [rA 58, (0, n), (0, s), (0, i), (9, 0), (9, 0)] [] (enc w t)
  refine e_ldi (show am_cd 99 0 = (2, 1, 2, 0, []) by decide +kernel) rfl ?_
  refine e_ic (show am_cd 99 1 = (0, 2, 0, -1, []) by decide +kernel) ?_
  refine e_cmp0 (show am_cd 99 2 = (11, 5, 31, 0, []) by decide +kernel) (fun hc => ?_) (fun hc => ?_)
  · replace h := h.1 hc
    exact e_retv (show am_cd 99 31 = (36, 32, 3, 0, []) by decide +kernel) (by decide +kernel) h
  · replace h := h.2 hc
    refine e_lda (v := 58) (show am_cd 99 5 = (2, 6, 0, 2, []) by decide +kernel) rfl ?_
    refine e_getr (a := 58) (r := 60) (show am_cd 99 6 = (18, 9, 905, 2, [15]) by decide +kernel) (by decide +kernel) (by decide +kernel) rfl ?_
    refine e_ldi (show am_cd 99 9 = (2, 10, 1, 0, []) by decide +kernel) rfl ?_
    refine e_iald (a := 60) (n := 7) (show am_cd 99 10 = (21, 11, 0, 0, []) by decide +kernel) (by decide +kernel) (by decide +kernel) (by decide +kernel) h.1 ?_
    replace h := h.2
    refine e_ic (show am_cd 99 11 = (0, 14, 2, 200, []) by decide +kernel) ?_
    refine e_cmp3 (show am_cd 99 14 = (11, 17, 31, 3, []) by decide +kernel) (fun hc => ?_) (fun hc => ?_)
    · replace h := h.1 hc
      exact e_retv (show am_cd 99 31 = (36, 32, 3, 0, []) by decide +kernel) (by decide +kernel) h
    · replace h := h.2 hc
      refine e_ldi (show am_cd 99 17 = (2, 18, 1, 0, []) by decide +kernel) rfl ?_
      refine e_lda (v := 58) (show am_cd 99 18 = (2, 19, 0, 2, []) by decide +kernel) rfl ?_
      refine e_ldi (show am_cd 99 19 = (2, 20, 2, 0, []) by decide +kernel) rfl ?_
      refine e_ldi (show am_cd 99 20 = (2, 21, 3, 0, []) by decide +kernel) rfl ?_
      refine e_ic (show am_cd 99 21 = (0, 22, 0, 0, []) by decide +kernel) ?_
      refine e_cV (z := 0) (a := 58) (as := [(0, s), (0, i), (0, 0)]) (rest := [(0, n)]) (show am_cd 99 22 = (40, 25, 100, 0, [109]) by decide +kernel) (by decide +kernel) rfl rfl (Nat.le_of_ble_eq_true rfl) rfl ?_
      obtain ⟨g1, h⟩ := h
      refine Cl.mono (Cl.up (hrV g1 _ _ _ _ _ h.1) (by omega)) ?_
      rintro _ _ ⟨x2, w3, t4, rfl, rfl, hp⟩
      refine ⟨fun _ h9 => (by cases h9), ?_⟩
      replace h := h.2 x2 w3 t4 hp
      show Ev _ 99 _ 25 [rA 58, (0, n), (0, s), (0, i), (9, 0), (9, 0)] [(0, x2), (0, n)] _
      refine e_iadd (show am_cd 99 25 = (5, 26, 0, 0, []) by decide +kernel) ?_
      refine e_ic (show am_cd 99 26 = (0, 28, 1, 6, []) by decide +kernel) ?_
      refine e_cmp5 (show am_cd 99 28 = (11, 31, 32, 5, []) by decide +kernel) (fun hc => ?_) (fun hc => ?_)
      · replace h := h.1 hc
        refine e_ldi (show am_cd 99 32 = (2, 33, 2, 0, []) by decide +kernel) rfl ?_
        refine e_ic (show am_cd 99 33 = (0, 35, 1, 7, []) by decide +kernel) ?_
        refine e_imul (show am_cd 99 35 = (5, 36, 2, 0, []) by decide +kernel) ?_
        refine e_ldi (show am_cd 99 36 = (2, 37, 3, 0, []) by decide +kernel) rfl ?_
        refine e_iadd (show am_cd 99 37 = (5, 38, 0, 0, []) by decide +kernel) ?_
        refine e_sti (la2 := [rA 58, (0, n), (0, s), (0, i), (0, (s * 7) + i), (9, 0)]) (show am_cd 99 38 = (3, 40, 4, 0, []) by decide +kernel) rfl ?_
        refine e_ic (show am_cd 99 40 = (0, 41, 0, 0, []) by decide +kernel) ?_
        refine e_sti (la2 := [rA 58, (0, n), (0, s), (0, i), (0, (s * 7) + i), (0, 0)]) (show am_cd 99 41 = (3, 43, 5, 0, []) by decide +kernel) rfl ?_
        exact h
      · replace h := h.2 hc
        exact e_retv (show am_cd 99 31 = (36, 32, 3, 0, []) by decide +kernel) (by decide +kernel) h

theorem g_vput1 {d : Nat} {Q : Option aV → aS → Prop} {w : eW} {t : eT} {n s i sp k : Int} (h : (0 ≤ w32 n ∧ w32 n < 7) ∧ ((w32 (w 60 (w32 n).toNat) ≤ w32 k → (0 ≤ w32 n ∧ w32 n < 7) ∧ (0 ≤ w32 ((n * 200) + (w 60 (w32 n).toNat)) ∧ w32 ((n * 200) + (w 60 (w32 n).toNat)) < 1400) ∧ (0 ≤ w32 n ∧ w32 n < 7) ∧ (0 ≤ w32 n ∧ w32 n < 7) ∧ (Q none (enc (wu (wu w 59 (w32 ((n * 200) + (w 60 (w32 n).toNat))).toNat sp) 60 (w32 n).toNat ((w 60 (w32 n).toNat) + 1)) t))) ∧ (¬ (w32 (w 60 (w32 n).toNat) ≤ w32 k) → (0 ≤ w32 ((n * 200) + k) ∧ w32 ((n * 200) + k) < 1400) ∧ ((¬ w32 (w 59 (w32 ((n * 200) + k)).toNat) = w32 sp → Ev (d + 21) 99 Q 43 [rA 58, (0, n), (0, s), (0, i), (0, sp), (0, k + 1)] [] (enc w t)) ∧ (¬ (¬ w32 (w 59 (w32 ((n * 200) + k)).toNat) = w32 sp) → Q none (enc w t)))))) : Ev (d + 21) 99 Q 43 [rA 58, (0, n), (0, s), (0, i), (0, sp), (0, k)] [] (enc w t) := by
  refine e_ldi (show am_cd 99 43 = (2, 45, 5, 0, []) by decide +kernel) rfl ?_
  refine e_lda (v := 58) (show am_cd 99 45 = (2, 46, 0, 2, []) by decide +kernel) rfl ?_
  refine e_getr (a := 58) (r := 60) (show am_cd 99 46 = (18, 49, 905, 2, [15]) by decide +kernel) (by decide +kernel) (by decide +kernel) rfl ?_
  refine e_ldi (show am_cd 99 49 = (2, 50, 1, 0, []) by decide +kernel) rfl ?_
  refine e_iald (a := 60) (n := 7) (show am_cd 99 50 = (21, 51, 0, 0, []) by decide +kernel) (by decide +kernel) (by decide +kernel) (by decide +kernel) h.1 ?_
  replace h := h.2
  refine e_cmp3 (show am_cd 99 51 = (11, 54, 79, 3, []) by decide +kernel) (fun hc => ?_) (fun hc => ?_)
  · replace h := h.1 hc
    refine e_lda (v := 58) (show am_cd 99 79 = (2, 80, 0, 2, []) by decide +kernel) rfl ?_
    refine e_getr (a := 58) (r := 59) (show am_cd 99 80 = (18, 83, 904, 2, [11]) by decide +kernel) (by decide +kernel) (by decide +kernel) rfl ?_
    refine e_ldi (show am_cd 99 83 = (2, 84, 1, 0, []) by decide +kernel) rfl ?_
    refine e_ic (show am_cd 99 84 = (0, 87, 2, 200, []) by decide +kernel) ?_
    refine e_imul (show am_cd 99 87 = (5, 88, 2, 0, []) by decide +kernel) ?_
    refine e_lda (v := 58) (show am_cd 99 88 = (2, 89, 0, 2, []) by decide +kernel) rfl ?_
    refine e_getr (a := 58) (r := 60) (show am_cd 99 89 = (18, 92, 905, 2, [15]) by decide +kernel) (by decide +kernel) (by decide +kernel) rfl ?_
    refine e_ldi (show am_cd 99 92 = (2, 93, 1, 0, []) by decide +kernel) rfl ?_
    refine e_iald (a := 60) (n := 7) (show am_cd 99 93 = (21, 94, 0, 0, []) by decide +kernel) (by decide +kernel) (by decide +kernel) (by decide +kernel) h.1 ?_
    replace h := h.2
    refine e_iadd (show am_cd 99 94 = (5, 95, 0, 0, []) by decide +kernel) ?_
    refine e_ldi (show am_cd 99 95 = (2, 97, 4, 0, []) by decide +kernel) rfl ?_
    refine e_iast (a := 59) (n := 1400) (show am_cd 99 97 = (24, 98, 0, 0, []) by decide +kernel) (by decide +kernel) (by decide +kernel) (by decide +kernel) h.1 ?_
    replace h := h.2
    refine e_lda (v := 58) (show am_cd 99 98 = (2, 99, 0, 2, []) by decide +kernel) rfl ?_
    refine e_getr (a := 58) (r := 60) (show am_cd 99 99 = (18, 102, 905, 2, [15]) by decide +kernel) (by decide +kernel) (by decide +kernel) rfl ?_
    refine e_ldi (show am_cd 99 102 = (2, 103, 1, 0, []) by decide +kernel) rfl ?_
    refine e_dup2 (show am_cd 99 103 = (14, 104, 0, 0, []) by decide +kernel) (by decide) ?_
    refine e_ialdE (a := 60) (n := 7) (v := w 60 (w32 n).toNat) (show am_cd 99 104 = (21, 105, 0, 0, []) by decide +kernel) (by decide +kernel) (by decide +kernel) (by decide +kernel) h.1 rfl ?_
    replace h := h.2
    refine e_ic (show am_cd 99 105 = (0, 106, 0, 1, []) by decide +kernel) ?_
    refine e_iadd (show am_cd 99 106 = (5, 107, 0, 0, []) by decide +kernel) ?_
    refine e_iast (a := 60) (n := 7) (show am_cd 99 107 = (24, 108, 0, 0, []) by decide +kernel) (by decide +kernel) (by decide +kernel) (by decide +kernel) h.1 ?_
    replace h := h.2
    exact e_retv (show am_cd 99 108 = (36, 109, 3, 0, []) by decide +kernel) (by decide +kernel) h
  · replace h := h.2 hc
    refine e_lda (v := 58) (show am_cd 99 54 = (2, 55, 0, 2, []) by decide +kernel) rfl ?_
    refine e_getr (a := 58) (r := 59) (show am_cd 99 55 = (18, 58, 904, 2, [11]) by decide +kernel) (by decide +kernel) (by decide +kernel) rfl ?_
    refine e_ldi (show am_cd 99 58 = (2, 59, 1, 0, []) by decide +kernel) rfl ?_
    refine e_ic (show am_cd 99 59 = (0, 62, 2, 200, []) by decide +kernel) ?_
    refine e_imul (show am_cd 99 62 = (5, 63, 2, 0, []) by decide +kernel) ?_
    refine e_ldi (show am_cd 99 63 = (2, 65, 5, 0, []) by decide +kernel) rfl ?_
    refine e_iadd (show am_cd 99 65 = (5, 66, 0, 0, []) by decide +kernel) ?_
    refine e_iald (a := 59) (n := 1400) (show am_cd 99 66 = (21, 67, 0, 0, []) by decide +kernel) (by decide +kernel) (by decide +kernel) (by decide +kernel) h.1 ?_
    replace h := h.2
    refine e_ldi (show am_cd 99 67 = (2, 69, 4, 0, []) by decide +kernel) rfl ?_
    refine e_cmp1 (show am_cd 99 69 = (11, 72, 73, 1, []) by decide +kernel) (fun hc => ?_) (fun hc => ?_)
    · replace h := h.1 hc
      refine e_inc (la2 := [rA 58, (0, n), (0, s), (0, i), (0, sp), (0, k + 1)]) (show am_cd 99 73 = (4, 76, 5, 1, []) by decide +kernel) rfl rfl ?_
      refine e_go (show am_cd 99 76 = (12, 43, 0, 0, []) by decide +kernel) ?_
      exact h
    · replace h := h.2 hc
      exact e_retv (show am_cd 99 72 = (36, 73, 3, 0, []) by decide +kernel) (by decide +kernel) h

theorem g_adb0 {d : Nat} {Q : Option aV → aS → Prop} {w : eW} {t : eT} {sp c n : Int} {m : eW} {l : List Int} {b : Nat × Nat} (h : ∃ g1, (VpP m l g1 (idiv sp 7) (irem sp 7) w t) ∧ (∀ x2, (x2 = ((spP m l (irem sp 7).toNat &&& mfG m g1 : Nat) : Int)) → (0 ≤ w32 c ∧ w32 c < 28) ∧ (Ev (d + 22) 98 Q 35 [rA 58, (0, sp), (0, c), (0, n), (0, idiv sp 7), (0, irem sp 7), (0, iand x2 (w 12 (w32 c).toNat)), (0, 0)] [] (enc w t)))) : Cl (d + 22) 98 [rA 58, (0, sp), (0, c), (0, n)] (enc w t) Q := by
  show Ev (d + 22) 98 Q 0 [rA 58, (0, sp), (0, c), (0, n), (9, 0), (9, 0), (9, 0), (9, 0)] [] (enc w t)
  refine e_ldi (show am_cd 98 0 = (2, 1, 1, 0, []) by decide +kernel) rfl ?_
  refine e_ic (show am_cd 98 1 = (0, 3, 1, 7, []) by decide +kernel) ?_
  refine e_idiv (show am_cd 98 3 = (5, 4, 9, 0, []) by decide +kernel) (by decide) ?_
  refine e_sti (la2 := [rA 58, (0, sp), (0, c), (0, n), (0, idiv sp 7), (9, 0), (9, 0), (9, 0)]) (show am_cd 98 4 = (3, 6, 4, 0, []) by decide +kernel) rfl ?_
  refine e_ldi (show am_cd 98 6 = (2, 7, 1, 0, []) by decide +kernel) rfl ?_
  refine e_ic (show am_cd 98 7 = (0, 9, 1, 7, []) by decide +kernel) ?_
  refine e_irem (show am_cd 98 9 = (5, 10, 10, 0, []) by decide +kernel) (by decide) ?_
  refine e_sti (la2 := [rA 58, (0, sp), (0, c), (0, n), (0, idiv sp 7), (0, irem sp 7), (9, 0), (9, 0)]) (show am_cd 98 10 = (3, 12, 5, 0, []) by decide +kernel) rfl ?_
  refine e_lda (v := 58) (show am_cd 98 12 = (2, 13, 0, 2, []) by decide +kernel) rfl ?_
  refine e_ldi (show am_cd 98 13 = (2, 15, 4, 0, []) by decide +kernel) rfl ?_
  refine e_ldi (show am_cd 98 15 = (2, 17, 5, 0, []) by decide +kernel) rfl ?_
  refine e_cV (z := 0) (a := 58) (as := [(0, idiv sp 7), (0, irem sp 7)]) (rest := []) (show am_cd 98 17 = (40, 20, 94, 0, [94]) by decide +kernel) (by decide +kernel) rfl rfl (Nat.le_of_ble_eq_true rfl) rfl ?_
  obtain ⟨g1, h⟩ := h
  refine Cl.mono (Cl.up (c_vpa (m := m) (l := l) (d := d) g1 h.1) (by omega)) ?_
  rintro _ _ ⟨x2, rfl, rfl, hp⟩
  refine ⟨fun _ h9 => (by cases h9), ?_⟩
  replace h := h.2 x2 hp
  show Ev _ 98 _ 20 [rA 58, (0, sp), (0, c), (0, n), (0, idiv sp 7), (0, irem sp 7), (9, 0), (9, 0)] [(0, x2)] _
  refine e_lda (v := 58) (show am_cd 98 20 = (2, 21, 0, 2, []) by decide +kernel) rfl ?_
  refine e_getr (a := 58) (r := 8) (show am_cd 98 21 = (18, 24, 901, 2, [22]) by decide +kernel) (by decide +kernel) (by decide +kernel) rfl ?_
  refine e_getr (a := 8) (r := 12) (show am_cd 98 24 = (18, 27, 3, 2, [104]) by decide +kernel) (by decide +kernel) (by decide +kernel) rfl ?_
  refine e_ldi (show am_cd 98 27 = (2, 28, 2, 0, []) by decide +kernel) rfl ?_
  refine e_iald (a := 12) (n := 28) (show am_cd 98 28 = (21, 29, 0, 0, []) by decide +kernel) (by decide +kernel) (by decide +kernel) (by decide +kernel) h.1 ?_
  replace h := h.2
  refine e_iand (show am_cd 98 29 = (5, 30, 3, 0, []) by decide +kernel) ?_
  refine e_sti (la2 := [rA 58, (0, sp), (0, c), (0, n), (0, idiv sp 7), (0, irem sp 7), (0, iand x2 (w 12 (w32 c).toNat)), (9, 0)]) (show am_cd 98 30 = (3, 32, 6, 0, []) by decide +kernel) rfl ?_
  refine e_ic (show am_cd 98 32 = (0, 33, 0, 0, []) by decide +kernel) ?_
  refine e_sti (la2 := [rA 58, (0, sp), (0, c), (0, n), (0, idiv sp 7), (0, irem sp 7), (0, iand x2 (w 12 (w32 c).toNat)), (0, 0)]) (show am_cd 98 33 = (3, 35, 7, 0, []) by decide +kernel) rfl ?_
  exact h

theorem g_adb1 {d : Nat} {Q : Option aV → aS → Prop} {w : eW} {t : eT} {sp c n s i ft p : Int} {m : eW} {l : List Int} {b : Nat × Nat} {γU : Type} {PRU : γU → Int → Int → Int → eW → eT → Prop} {POU : γU → Int → Int → Int → eW → eT → eW → eT → Prop} (hrU : ∀ (g : γU) (a1 a2 a3 : Int) (w : eW) (t : eT), PRU g a1 a2 a3 w t → Cl (d + 21) 99 [rA 58, (0, a1), (0, a2), (0, a3)] (enc w t) (fun r S2 => ∃ w2 t2, r = none ∧ S2 = enc w2 t2 ∧ POU g a1 a2 a3 w t w2 t2)) (h : ((w32 16 ≤ w32 p → Q none (enc w t)) ∧ (¬ (w32 16 ≤ w32 p) → ((w32 (ishr ft p) = 0 → Q none (enc w t)) ∧ (¬ (w32 (ishr ft p) = 0) → ((w32 (iand (ishr ft p) 1) = 0 → Ev (d + 22) 98 Q 35 [rA 58, (0, sp), (0, c), (0, n), (0, s), (0, i), (0, ft), (0, p + 1)] [] (enc w t)) ∧ (¬ (w32 (iand (ishr ft p) 1) = 0) → (RgM w t (w 37 7).toNat ∧ ((0 : Int) ≤ s ∧ (s : Int) < w 37 7) ∧ (0 : Int) ≤ p ∧ (p : Int) < 16) ∧ (∀ x1, (x1 = mA w s.toNat p.toNat) → (AC w m ∧ WFp m ∧ ((0 : Int) ≤ p ∧ (p : Int) < 32)) ∧ (((isI m p.toNat) = false → ∃ g2, (PRU g2 n x1 (i + 1) w t) ∧ (∀ w3 t4, (POU g2 n x1 (i + 1) w t w3 t4) → Ev (d + 22) 98 Q 35 [rA 58, (0, sp), (0, c), (0, n), (0, s), (0, i), (0, ft), (0, p + 1)] [] (enc w3 t4))) ∧ ((isI m p.toNat) = true → ∃ g5, (PRU g5 n x1 i w t) ∧ (∀ w6 t7, (POU g5 n x1 i w t w6 t7) → Ev (d + 22) 98 Q 35 [rA 58, (0, sp), (0, c), (0, n), (0, s), (0, i), (0, ft), (0, p + 1)] [] (enc w6 t7)))))))))))) : Ev (d + 22) 98 Q 35 [rA 58, (0, sp), (0, c), (0, n), (0, s), (0, i), (0, ft), (0, p)] [] (enc w t) := by
  refine e_ldi (show am_cd 98 35 = (2, 37, 7, 0, []) by decide +kernel) rfl ?_
  refine e_ic (show am_cd 98 37 = (0, 39, 1, 16, []) by decide +kernel) ?_
  refine e_cmp3 (show am_cd 98 39 = (11, 42, 103, 3, []) by decide +kernel) (fun hc => ?_) (fun hc => ?_)
  · replace h := h.1 hc
    exact e_retv (show am_cd 98 103 = (36, 104, 3, 0, []) by decide +kernel) (by decide +kernel) h
  · replace h := h.2 hc
    refine e_ldi (show am_cd 98 42 = (2, 44, 6, 0, []) by decide +kernel) rfl ?_
    refine e_ldi (show am_cd 98 44 = (2, 46, 7, 0, []) by decide +kernel) rfl ?_
    refine e_ishr (show am_cd 98 46 = (5, 47, 7, 0, []) by decide +kernel) ?_
    refine e_if0 (show am_cd 98 47 = (10, 50, 103, 0, []) by decide +kernel) (fun hc => ?_) (fun hc => ?_)
    · replace h := h.1 hc
      exact e_retv (show am_cd 98 103 = (36, 104, 3, 0, []) by decide +kernel) (by decide +kernel) h
    · replace h := h.2 hc
      refine e_ldi (show am_cd 98 50 = (2, 52, 6, 0, []) by decide +kernel) rfl ?_
      refine e_ldi (show am_cd 98 52 = (2, 54, 7, 0, []) by decide +kernel) rfl ?_
      refine e_ishr (show am_cd 98 54 = (5, 55, 7, 0, []) by decide +kernel) ?_
      refine e_ic (show am_cd 98 55 = (0, 56, 0, 1, []) by decide +kernel) ?_
      refine e_iand (show am_cd 98 56 = (5, 57, 3, 0, []) by decide +kernel) ?_
      refine e_if0 (show am_cd 98 57 = (10, 60, 97, 0, []) by decide +kernel) (fun hc => ?_) (fun hc => ?_)
      · replace h := h.1 hc
        refine e_inc (la2 := [rA 58, (0, sp), (0, c), (0, n), (0, s), (0, i), (0, ft), (0, p + 1)]) (show am_cd 98 97 = (4, 100, 7, 1, []) by decide +kernel) rfl rfl ?_
        refine e_go (show am_cd 98 100 = (12, 35, 0, 0, []) by decide +kernel) ?_
        exact h
      · replace h := h.2 hc
        refine e_lda (v := 58) (show am_cd 98 60 = (2, 61, 0, 2, []) by decide +kernel) rfl ?_
        refine e_ldi (show am_cd 98 61 = (2, 62, 3, 0, []) by decide +kernel) rfl ?_
        refine e_lda (v := 58) (show am_cd 98 62 = (2, 63, 0, 2, []) by decide +kernel) rfl ?_
        refine e_getr (a := 58) (r := 37) (show am_cd 98 63 = (18, 66, 902, 2, [26]) by decide +kernel) (by decide +kernel) (by decide +kernel) rfl ?_
        refine e_ldi (show am_cd 98 66 = (2, 68, 4, 0, []) by decide +kernel) rfl ?_
        refine e_ldi (show am_cd 98 68 = (2, 70, 7, 0, []) by decide +kernel) rfl ?_
        refine e_cV (z := 0) (a := 37) (as := [(0, s), (0, p)]) (rest := [(0, n), rA 58]) (show am_cd 98 70 = (40, 73, 41, 0, [107]) by decide +kernel) (by decide +kernel) rfl rfl (Nat.le_of_ble_eq_true rfl) rfl ?_
        refine Cl.mono (Cl.up (c_behU (d := d) h.1) (by omega)) ?_
        rintro _ _ ⟨x1, rfl, rfl, hp⟩
        refine ⟨fun _ h9 => (by cases h9), ?_⟩
        replace h := h.2 x1 hp
        show Ev _ 98 _ 73 [rA 58, (0, sp), (0, c), (0, n), (0, s), (0, i), (0, ft), (0, p)] [(0, x1), (0, n), rA 58] _
        refine e_lda (v := 58) (show am_cd 98 73 = (2, 74, 0, 2, []) by decide +kernel) rfl ?_
        refine e_getr (a := 58) (r := 8) (show am_cd 98 74 = (18, 77, 901, 2, [22]) by decide +kernel) (by decide +kernel) (by decide +kernel) rfl ?_
        refine e_ldi (show am_cd 98 77 = (2, 79, 7, 0, []) by decide +kernel) rfl ?_
        refine e_cV (z := 0) (a := 8) (as := [(0, p)]) (rest := [(0, x1), (0, n), rA 58]) (show am_cd 98 79 = (40, 82, 3, 0, [110]) by decide +kernel) (by decide +kernel) rfl rfl (Nat.le_of_ble_eq_true rfl) rfl ?_
        refine Cl.mono (Cl.up (c_isIc (d := d) h.1) (by omega)) ?_
        rintro _ _ ⟨rfl, rfl⟩
        refine ⟨fun _ h9 => (by cases h9), ?_⟩
        replace h := h.2
        show Ev _ 98 _ 82 [rA 58, (0, sp), (0, c), (0, n), (0, s), (0, i), (0, ft), (0, p)] [(0, bI (isI m p.toNat)), (0, x1), (0, n), rA 58] _
        refine e_ifb0 (show am_cd 98 82 = (10, 85, 90, 0, []) by decide +kernel) (fun hc => ?_) (fun hc => ?_)
        · replace h := h.1 hc
          refine e_ldi (show am_cd 98 90 = (2, 92, 5, 0, []) by decide +kernel) rfl ?_
          refine e_ic (show am_cd 98 92 = (0, 93, 0, 1, []) by decide +kernel) ?_
          refine e_iadd (show am_cd 98 93 = (5, 94, 0, 0, []) by decide +kernel) ?_
          refine e_cV (z := 0) (a := 58) (as := [(0, n), (0, x1), (0, i + 1)]) (rest := []) (show am_cd 98 94 = (40, 97, 99, 0, [47]) by decide +kernel) (by decide +kernel) rfl rfl (Nat.le_of_ble_eq_true rfl) rfl ?_
          obtain ⟨g2, h⟩ := h
          refine Cl.mono (Cl.up (hrU g2 _ _ _ _ _ h.1) (by omega)) ?_
          rintro _ _ ⟨w3, t4, rfl, rfl, hp⟩
          refine ⟨fun _ h9 => (by cases h9), ?_⟩
          replace h := h.2 w3 t4 hp
          show Ev _ 98 _ 97 [rA 58, (0, sp), (0, c), (0, n), (0, s), (0, i), (0, ft), (0, p)] [] _
          refine e_inc (la2 := [rA 58, (0, sp), (0, c), (0, n), (0, s), (0, i), (0, ft), (0, p + 1)]) (show am_cd 98 97 = (4, 100, 7, 1, []) by decide +kernel) rfl rfl ?_
          refine e_go (show am_cd 98 100 = (12, 35, 0, 0, []) by decide +kernel) ?_
          exact h
        · replace h := h.2 hc
          refine e_ldi (show am_cd 98 85 = (2, 87, 5, 0, []) by decide +kernel) rfl ?_
          refine e_go (show am_cd 98 87 = (12, 94, 0, 0, []) by decide +kernel) ?_
          refine e_cV (z := 0) (a := 58) (as := [(0, n), (0, x1), (0, i)]) (rest := []) (show am_cd 98 94 = (40, 97, 99, 0, [47]) by decide +kernel) (by decide +kernel) rfl rfl (Nat.le_of_ble_eq_true rfl) rfl ?_
          obtain ⟨g5, h⟩ := h
          refine Cl.mono (Cl.up (hrU g5 _ _ _ _ _ h.1) (by omega)) ?_
          rintro _ _ ⟨w6, t7, rfl, rfl, hp⟩
          refine ⟨fun _ h9 => (by cases h9), ?_⟩
          replace h := h.2 w6 t7 hp
          show Ev _ 98 _ 97 [rA 58, (0, sp), (0, c), (0, n), (0, s), (0, i), (0, ft), (0, p)] [] _
          refine e_inc (la2 := [rA 58, (0, sp), (0, c), (0, n), (0, s), (0, i), (0, ft), (0, p + 1)]) (show am_cd 98 97 = (4, 100, 7, 1, []) by decide +kernel) rfl rfl ?_
          refine e_go (show am_cd 98 100 = (12, 35, 0, 0, []) by decide +kernel) ?_
          exact h

theorem g_ads0 {d : Nat} {Q : Option aV → aS → Prop} {w : eW} {t : eT} {n : Int} (h : Ev (d + 23) 97 Q 2 [rA 58, (0, n), (0, 0)] [] (enc w t)) : Cl (d + 23) 97 [rA 58, (0, n)] (enc w t) Q := by
  show Ev (d + 23) 97 Q 0 [rA 58, (0, n), (9, 0)] [] (enc w t)
  refine e_ic (show am_cd 97 0 = (0, 1, 0, 0, []) by decide +kernel) ?_
  refine e_sti (la2 := [rA 58, (0, n), (0, 0)]) (show am_cd 97 1 = (3, 2, 2, 0, []) by decide +kernel) rfl ?_
  exact h

theorem g_ads1 {d : Nat} {Q : Option aV → aS → Prop} {w : eW} {t : eT} {n i : Int} {γB : Type} {PRB : γB → Int → Int → Int → eW → eT → Prop} {POB : γB → Int → Int → Int → eW → eT → eW → eT → Prop} (hrB : ∀ (g : γB) (a1 a2 a3 : Int) (w : eW) (t : eT), PRB g a1 a2 a3 w t → Cl (d + 22) 98 [rA 58, (0, a1), (0, a2), (0, a3)] (enc w t) (fun r S2 => ∃ w2 t2, r = none ∧ S2 = enc w2 t2 ∧ POB g a1 a2 a3 w t w2 t2)) (h : (0 ≤ w32 n ∧ w32 n < 7) ∧ ((w32 (w 60 (w32 n).toNat) ≤ w32 i → Q none (enc w t)) ∧ (¬ (w32 (w 60 (w32 n).toNat) ≤ w32 i) → ((w32 200 ≤ w32 i → Q none (enc w t)) ∧ (¬ (w32 200 ≤ w32 i) → (0 ≤ w32 ((n * 200) + i) ∧ w32 ((n * 200) + i) < 1400) ∧ (∃ g1, (PRB g1 (w 59 (w32 ((n * 200) + i)).toNat) 0 n w t) ∧ (∀ w2 t3, (POB g1 (w 59 (w32 ((n * 200) + i)).toNat) 0 n w t w2 t3) → Ev (d + 23) 97 Q 2 [rA 58, (0, n), (0, i + 1)] [] (enc w2 t3)))))))) : Ev (d + 23) 97 Q 2 [rA 58, (0, n), (0, i)] [] (enc w t) := by
  refine e_ldi (show am_cd 97 2 = (2, 3, 2, 0, []) by decide +kernel) rfl ?_
  refine e_lda (v := 58) (show am_cd 97 3 = (2, 4, 0, 2, []) by decide +kernel) rfl ?_
  refine e_getr (a := 58) (r := 60) (show am_cd 97 4 = (18, 7, 905, 2, [15]) by decide +kernel) (by decide +kernel) (by decide +kernel) rfl ?_
  refine e_ldi (show am_cd 97 7 = (2, 8, 1, 0, []) by decide +kernel) rfl ?_
  refine e_iald (a := 60) (n := 7) (show am_cd 97 8 = (21, 9, 0, 0, []) by decide +kernel) (by decide +kernel) (by decide +kernel) (by decide +kernel) h.1 ?_
  replace h := h.2
  refine e_cmp3 (show am_cd 97 9 = (11, 12, 43, 3, []) by decide +kernel) (fun hc => ?_) (fun hc => ?_)
  · replace h := h.1 hc
    exact e_retv (show am_cd 97 43 = (36, 44, 3, 0, []) by decide +kernel) (by decide +kernel) h
  · replace h := h.2 hc
    refine e_ldi (show am_cd 97 12 = (2, 13, 2, 0, []) by decide +kernel) rfl ?_
    refine e_ic (show am_cd 97 13 = (0, 16, 2, 200, []) by decide +kernel) ?_
    refine e_cmp3 (show am_cd 97 16 = (11, 19, 43, 3, []) by decide +kernel) (fun hc => ?_) (fun hc => ?_)
    · replace h := h.1 hc
      exact e_retv (show am_cd 97 43 = (36, 44, 3, 0, []) by decide +kernel) (by decide +kernel) h
    · replace h := h.2 hc
      refine e_lda (v := 58) (show am_cd 97 19 = (2, 20, 0, 2, []) by decide +kernel) rfl ?_
      refine e_lda (v := 58) (show am_cd 97 20 = (2, 21, 0, 2, []) by decide +kernel) rfl ?_
      refine e_getr (a := 58) (r := 59) (show am_cd 97 21 = (18, 24, 904, 2, [11]) by decide +kernel) (by decide +kernel) (by decide +kernel) rfl ?_
      refine e_ldi (show am_cd 97 24 = (2, 25, 1, 0, []) by decide +kernel) rfl ?_
      refine e_ic (show am_cd 97 25 = (0, 28, 2, 200, []) by decide +kernel) ?_
      refine e_imul (show am_cd 97 28 = (5, 29, 2, 0, []) by decide +kernel) ?_
      refine e_ldi (show am_cd 97 29 = (2, 30, 2, 0, []) by decide +kernel) rfl ?_
      refine e_iadd (show am_cd 97 30 = (5, 31, 0, 0, []) by decide +kernel) ?_
      refine e_iald (a := 59) (n := 1400) (show am_cd 97 31 = (21, 32, 0, 0, []) by decide +kernel) (by decide +kernel) (by decide +kernel) (by decide +kernel) h.1 ?_
      replace h := h.2
      refine e_ic (show am_cd 97 32 = (0, 33, 0, 0, []) by decide +kernel) ?_
      refine e_ldi (show am_cd 97 33 = (2, 34, 1, 0, []) by decide +kernel) rfl ?_
      refine e_cV (z := 0) (a := 58) (as := [(0, w 59 (w32 ((n * 200) + i)).toNat), (0, 0), (0, n)]) (rest := []) (show am_cd 97 34 = (40, 37, 98, 0, [101]) by decide +kernel) (by decide +kernel) rfl rfl (Nat.le_of_ble_eq_true rfl) rfl ?_
      obtain ⟨g1, h⟩ := h
      refine Cl.mono (Cl.up (hrB g1 _ _ _ _ _ h.1) (by omega)) ?_
      rintro _ _ ⟨w2, t3, rfl, rfl, hp⟩
      refine ⟨fun _ h9 => (by cases h9), ?_⟩
      replace h := h.2 w2 t3 hp
      show Ev _ 97 _ 37 [rA 58, (0, n), (0, i)] [] _
      refine e_inc (la2 := [rA 58, (0, n), (0, i + 1)]) (show am_cd 97 37 = (4, 40, 2, 1, []) by decide +kernel) rfl rfl ?_
      refine e_go (show am_cd 97 40 = (12, 2, 0, 0, []) by decide +kernel) ?_
      exact h

