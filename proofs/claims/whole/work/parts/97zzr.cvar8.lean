/-! The class: unlike spellings: regions (3). -/

theorem g_stp0 {d : Nat} {Q : Option aV → aS → Prop} {w : eW} {t : eT} {n c : Int} (h : (0 ≤ w32 (n + 1) ∧ w32 (n + 1) < 7) ∧ (Ev (d + 24) 96 Q 11 [rA 58, (0, n), (0, c), (0, 0)] [] (enc (wu w 60 (w32 (n + 1)).toNat 0) t))) : Cl (d + 24) 96 [rA 58, (0, n), (0, c)] (enc w t) Q := by
  show Ev (d + 24) 96 Q 0 [rA 58, (0, n), (0, c), (9, 0)] [] (enc w t)
  refine e_lda (v := 58) (show am_cd 96 0 = (2, 1, 0, 2, []) by decide +kernel) rfl ?_
  refine e_getr (a := 58) (r := 60) (show am_cd 96 1 = (18, 4, 905, 2, [15]) by decide +kernel) (by decide +kernel) (by decide +kernel) rfl ?_
  refine e_ldi (show am_cd 96 4 = (2, 5, 1, 0, []) by decide +kernel) rfl ?_
  refine e_ic (show am_cd 96 5 = (0, 6, 0, 1, []) by decide +kernel) ?_
  refine e_iadd (show am_cd 96 6 = (5, 7, 0, 0, []) by decide +kernel) ?_
  refine e_ic (show am_cd 96 7 = (0, 8, 0, 0, []) by decide +kernel) ?_
  refine e_iast (a := 60) (n := 7) (show am_cd 96 8 = (24, 9, 0, 0, []) by decide +kernel) (by decide +kernel) (by decide +kernel) (by decide +kernel) h.1 ?_
  replace h := h.2
  refine e_ic (show am_cd 96 9 = (0, 10, 0, 0, []) by decide +kernel) ?_
  refine e_sti (la2 := [rA 58, (0, n), (0, c), (0, 0)]) (show am_cd 96 10 = (3, 11, 3, 0, []) by decide +kernel) rfl ?_
  exact h

theorem g_stp1 {d : Nat} {Q : Option aV → aS → Prop} {w : eW} {t : eT} {n c i : Int} {γB : Type} {PRB : γB → Int → Int → Int → eW → eT → Prop} {POB : γB → Int → Int → Int → eW → eT → eW → eT → Prop} (hrB : ∀ (g : γB) (a1 a2 a3 : Int) (w : eW) (t : eT), PRB g a1 a2 a3 w t → Cl (d + 23) 98 [rA 58, (0, a1), (0, a2), (0, a3)] (enc w t) (fun r S2 => ∃ w2 t2, r = none ∧ S2 = enc w2 t2 ∧ POB g a1 a2 a3 w t w2 t2)) (h : (0 ≤ w32 n ∧ w32 n < 7) ∧ ((w32 (w 60 (w32 n).toNat) ≤ w32 i → Q none (enc w t)) ∧ (¬ (w32 (w 60 (w32 n).toNat) ≤ w32 i) → (0 ≤ w32 ((n * 200) + i) ∧ w32 ((n * 200) + i) < 1400) ∧ (∃ g1, (PRB g1 (w 59 (w32 ((n * 200) + i)).toNat) c (n + 1) w t) ∧ (∀ w2 t3, (POB g1 (w 59 (w32 ((n * 200) + i)).toNat) c (n + 1) w t w2 t3) → Ev (d + 24) 96 Q 11 [rA 58, (0, n), (0, c), (0, i + 1)] [] (enc w2 t3)))))) : Ev (d + 24) 96 Q 11 [rA 58, (0, n), (0, c), (0, i)] [] (enc w t) := by
  refine e_ldi (show am_cd 96 11 = (2, 12, 3, 0, []) by decide +kernel) rfl ?_
  refine e_lda (v := 58) (show am_cd 96 12 = (2, 13, 0, 2, []) by decide +kernel) rfl ?_
  refine e_getr (a := 58) (r := 60) (show am_cd 96 13 = (18, 16, 905, 2, [15]) by decide +kernel) (by decide +kernel) (by decide +kernel) rfl ?_
  refine e_ldi (show am_cd 96 16 = (2, 17, 1, 0, []) by decide +kernel) rfl ?_
  refine e_iald (a := 60) (n := 7) (show am_cd 96 17 = (21, 18, 0, 0, []) by decide +kernel) (by decide +kernel) (by decide +kernel) (by decide +kernel) h.1 ?_
  replace h := h.2
  refine e_cmp3 (show am_cd 96 18 = (11, 21, 47, 3, []) by decide +kernel) (fun hc => ?_) (fun hc => ?_)
  · replace h := h.1 hc
    exact e_retv (show am_cd 96 47 = (36, 48, 3, 0, []) by decide +kernel) (by decide +kernel) h
  · replace h := h.2 hc
    refine e_lda (v := 58) (show am_cd 96 21 = (2, 22, 0, 2, []) by decide +kernel) rfl ?_
    refine e_lda (v := 58) (show am_cd 96 22 = (2, 23, 0, 2, []) by decide +kernel) rfl ?_
    refine e_getr (a := 58) (r := 59) (show am_cd 96 23 = (18, 26, 904, 2, [11]) by decide +kernel) (by decide +kernel) (by decide +kernel) rfl ?_
    refine e_ldi (show am_cd 96 26 = (2, 27, 1, 0, []) by decide +kernel) rfl ?_
    refine e_ic (show am_cd 96 27 = (0, 30, 2, 200, []) by decide +kernel) ?_
    refine e_imul (show am_cd 96 30 = (5, 31, 2, 0, []) by decide +kernel) ?_
    refine e_ldi (show am_cd 96 31 = (2, 32, 3, 0, []) by decide +kernel) rfl ?_
    refine e_iadd (show am_cd 96 32 = (5, 33, 0, 0, []) by decide +kernel) ?_
    refine e_iald (a := 59) (n := 1400) (show am_cd 96 33 = (21, 34, 0, 0, []) by decide +kernel) (by decide +kernel) (by decide +kernel) (by decide +kernel) h.1 ?_
    replace h := h.2
    refine e_ldi (show am_cd 96 34 = (2, 35, 2, 0, []) by decide +kernel) rfl ?_
    refine e_ldi (show am_cd 96 35 = (2, 36, 1, 0, []) by decide +kernel) rfl ?_
    refine e_ic (show am_cd 96 36 = (0, 37, 0, 1, []) by decide +kernel) ?_
    refine e_iadd (show am_cd 96 37 = (5, 38, 0, 0, []) by decide +kernel) ?_
    refine e_cV (z := 0) (a := 58) (as := [(0, w 59 (w32 ((n * 200) + i)).toNat), (0, c), (0, n + 1)]) (rest := []) (show am_cd 96 38 = (40, 41, 98, 0, [101]) by decide +kernel) (by decide +kernel) rfl rfl (Nat.le_of_ble_eq_true rfl) rfl ?_
    obtain ⟨g1, h⟩ := h
    refine Cl.mono (Cl.up (hrB g1 _ _ _ _ _ h.1) (by omega)) ?_
    rintro _ _ ⟨w2, t3, rfl, rfl, hp⟩
    refine ⟨fun _ h9 => (by cases h9), ?_⟩
    replace h := h.2 w2 t3 hp
    show Ev _ 96 _ 41 [rA 58, (0, n), (0, c), (0, i)] [] _
    refine e_inc (la2 := [rA 58, (0, n), (0, c), (0, i + 1)]) (show am_cd 96 41 = (4, 44, 3, 1, []) by decide +kernel) rfl rfl ?_
    refine e_go (show am_cd 96 44 = (12, 11, 0, 0, []) by decide +kernel) ?_
    exact h

theorem g_hw0 {d : Nat} {Q : Option aV → aS → Prop} {w : eW} {t : eT} {n : Int} {m : eW} {l : List Int} {b : Nat × Nat} (h : Ev (d + 3) 93 Q 2 [rA 58, (0, n), (0, 0), (9, 0)] [] (enc w t)) : Cl (d + 3) 93 [rA 58, (0, n)] (enc w t) Q := by
  show Ev (d + 3) 93 Q 0 [rA 58, (0, n), (9, 0), (9, 0)] [] (enc w t)
  refine e_ic (show am_cd 93 0 = (0, 1, 0, 0, []) by decide +kernel) ?_
  refine e_sti (la2 := [rA 58, (0, n), (0, 0), (9, 0)]) (show am_cd 93 1 = (3, 2, 2, 0, []) by decide +kernel) rfl ?_
  exact h

theorem g_hw1 {d : Nat} {Q : Option aV → aS → Prop} {w : eW} {t : eT} {n i : Int} {m : eW} {l : List Int} {b : Nat × Nat} {J : aV} (h : (0 ≤ w32 n ∧ w32 n < 7) ∧ ((w32 (w 60 (w32 n).toNat) ≤ w32 i → Q (some (0, 0)) (enc w t)) ∧ (¬ (w32 (w 60 (w32 n).toNat) ≤ w32 i) → (0 ≤ w32 ((n * 200) + i) ∧ w32 ((n * 200) + i) < 1400) ∧ ((¬ w32 (irem (w 59 (w32 ((n * 200) + i)).toNat) 7) = w32 (w 2 8) → Ev (d + 3) 93 Q 2 [rA 58, (0, n), (0, i + 1), (0, w 59 (w32 ((n * 200) + i)).toNat)] [] (enc w t)) ∧ (¬ (¬ w32 (irem (w 59 (w32 ((n * 200) + i)).toNat) 7) = w32 (w 2 8)) → ∃ g1, ((RgM w t (w 37 7).toNat ∧ (0 : Int) ≤ idiv (w 59 (w32 ((n * 200) + i)).toNat) 7 ∧ (idiv (w 59 (w32 ((n * 200) + i)).toNat) 7 : Int) < w 37 7) ∧ mK w (idiv (w 59 (w32 ((n * 200) + i)).toNat) 7).toNat = ((kyG m g1 : Nat) : Int)) ∧ (∀ x2, (x2 = bI (isE m (-1) g1.1 g1.2.1 g1.2.2)) → ((w32 x2 = 0 → Ev (d + 3) 93 Q 2 [rA 58, (0, n), (0, i + 1), (0, w 59 (w32 ((n * 200) + i)).toNat)] [] (enc w t)) ∧ (¬ (w32 x2 = 0) → Q (some (0, 1)) (enc w t))))))))) : Ev (d + 3) 93 Q 2 [rA 58, (0, n), (0, i), J] [] (enc w t) := by
  refine e_ldi (show am_cd 93 2 = (2, 3, 2, 0, []) by decide +kernel) rfl ?_
  refine e_lda (v := 58) (show am_cd 93 3 = (2, 4, 0, 2, []) by decide +kernel) rfl ?_
  refine e_getr (a := 58) (r := 60) (show am_cd 93 4 = (18, 7, 905, 2, [15]) by decide +kernel) (by decide +kernel) (by decide +kernel) rfl ?_
  refine e_ldi (show am_cd 93 7 = (2, 8, 1, 0, []) by decide +kernel) rfl ?_
  refine e_iald (a := 60) (n := 7) (show am_cd 93 8 = (21, 9, 0, 0, []) by decide +kernel) (by decide +kernel) (by decide +kernel) (by decide +kernel) h.1 ?_
  replace h := h.2
  refine e_cmp3 (show am_cd 93 9 = (11, 12, 61, 3, []) by decide +kernel) (fun hc => ?_) (fun hc => ?_)
  · replace h := h.1 hc
    refine e_ic (show am_cd 93 61 = (0, 62, 0, 0, []) by decide +kernel) ?_
    exact e_retz (show am_cd 93 62 = (36, 63, 0, 0, []) by decide +kernel) (by decide +kernel) (Or.inl rfl) h
  · replace h := h.2 hc
    refine e_lda (v := 58) (show am_cd 93 12 = (2, 13, 0, 2, []) by decide +kernel) rfl ?_
    refine e_getr (a := 58) (r := 59) (show am_cd 93 13 = (18, 16, 904, 2, [11]) by decide +kernel) (by decide +kernel) (by decide +kernel) rfl ?_
    refine e_ldi (show am_cd 93 16 = (2, 17, 1, 0, []) by decide +kernel) rfl ?_
    refine e_ic (show am_cd 93 17 = (0, 20, 2, 200, []) by decide +kernel) ?_
    refine e_imul (show am_cd 93 20 = (5, 21, 2, 0, []) by decide +kernel) ?_
    refine e_ldi (show am_cd 93 21 = (2, 22, 2, 0, []) by decide +kernel) rfl ?_
    refine e_iadd (show am_cd 93 22 = (5, 23, 0, 0, []) by decide +kernel) ?_
    refine e_iald (a := 59) (n := 1400) (show am_cd 93 23 = (21, 24, 0, 0, []) by decide +kernel) (by decide +kernel) (by decide +kernel) (by decide +kernel) h.1 ?_
    replace h := h.2
    refine e_sti (la2 := [rA 58, (0, n), (0, i), (0, w 59 (w32 ((n * 200) + i)).toNat)]) (show am_cd 93 24 = (3, 25, 3, 0, []) by decide +kernel) rfl ?_
    refine e_ldi (show am_cd 93 25 = (2, 26, 3, 0, []) by decide +kernel) rfl ?_
    refine e_ic (show am_cd 93 26 = (0, 28, 1, 7, []) by decide +kernel) ?_
    refine e_irem (show am_cd 93 28 = (5, 29, 10, 0, []) by decide +kernel) (by decide) ?_
    refine e_lda (v := 58) (show am_cd 93 29 = (2, 30, 0, 2, []) by decide +kernel) rfl ?_
    refine e_getr (a := 58) (r := 2) (show am_cd 93 30 = (18, 33, 900, 2, [18]) by decide +kernel) (by decide +kernel) (by decide +kernel) rfl ?_
    refine e_getf (a := 2) (tg := 0) (show am_cd 93 33 = (18, 36, 808, 0, [70]) by decide +kernel) (by decide +kernel) (by decide +kernel) rfl ?_
    refine e_cmp1 (show am_cd 93 36 = (11, 39, 55, 1, []) by decide +kernel) (fun hc => ?_) (fun hc => ?_)
    · replace h := h.1 hc
      refine e_inc (la2 := [rA 58, (0, n), (0, i + 1), (0, w 59 (w32 ((n * 200) + i)).toNat)]) (show am_cd 93 55 = (4, 58, 2, 1, []) by decide +kernel) rfl rfl ?_
      refine e_go (show am_cd 93 58 = (12, 2, 0, 0, []) by decide +kernel) ?_
      exact h
    · replace h := h.2 hc
      refine e_lda (v := 58) (show am_cd 93 39 = (2, 40, 0, 2, []) by decide +kernel) rfl ?_
      refine e_getr (a := 58) (r := 37) (show am_cd 93 40 = (18, 43, 902, 2, [26]) by decide +kernel) (by decide +kernel) (by decide +kernel) rfl ?_
      refine e_ldi (show am_cd 93 43 = (2, 44, 3, 0, []) by decide +kernel) rfl ?_
      refine e_ic (show am_cd 93 44 = (0, 46, 1, 7, []) by decide +kernel) ?_
      refine e_idiv (show am_cd 93 46 = (5, 47, 9, 0, []) by decide +kernel) (by decide) ?_
      refine e_cV (z := 0) (a := 37) (as := [(0, idiv (w 59 (w32 ((n * 200) + i)).toNat) 7)]) (rest := []) (show am_cd 93 47 = (40, 50, 40, 0, [75]) by decide +kernel) (by decide +kernel) rfl rfl (Nat.le_of_ble_eq_true rfl) rfl ?_
      obtain ⟨g1, h⟩ := h
      refine Cl.mono (Cl.up (c_meU (m := m) (d := d) g1 h.1) (by omega)) ?_
      rintro _ _ ⟨x2, rfl, rfl, hp⟩
      refine ⟨fun _ h9 => (by cases h9), ?_⟩
      replace h := h.2 x2 hp
      show Ev _ 93 _ 50 [rA 58, (0, n), (0, i), (0, w 59 (w32 ((n * 200) + i)).toNat)] [(0, x2)] _
      refine e_if0 (show am_cd 93 50 = (10, 53, 55, 0, []) by decide +kernel) (fun hc => ?_) (fun hc => ?_)
      · replace h := h.1 hc
        refine e_inc (la2 := [rA 58, (0, n), (0, i + 1), (0, w 59 (w32 ((n * 200) + i)).toNat)]) (show am_cd 93 55 = (4, 58, 2, 1, []) by decide +kernel) rfl rfl ?_
        refine e_go (show am_cd 93 58 = (12, 2, 0, 0, []) by decide +kernel) ?_
        exact h
      · replace h := h.2 hc
        refine e_ic (show am_cd 93 53 = (0, 54, 0, 1, []) by decide +kernel) ?_
        exact e_retz (show am_cd 93 54 = (36, 55, 0, 0, []) by decide +kernel) (by decide +kernel) (Or.inr rfl) h

theorem g_vlb0 {d : Nat} {Q : Option aV → aS → Prop} {w : eW} {t : eT} {n : Int} {m : eW} {l : List Int} {b : Nat × Nat} (h : Ev (d + 3) 95 Q 4 [rA 58, (0, n), (0, 0), (0, 0), (9, 0), (9, 0), (9, 0)] [] (enc w t)) : Cl (d + 3) 95 [rA 58, (0, n)] (enc w t) Q := by
  show Ev (d + 3) 95 Q 0 [rA 58, (0, n), (9, 0), (9, 0), (9, 0), (9, 0), (9, 0)] [] (enc w t)
  refine e_ic (show am_cd 95 0 = (0, 1, 0, 0, []) by decide +kernel) ?_
  refine e_sti (la2 := [rA 58, (0, n), (0, 0), (9, 0), (9, 0), (9, 0), (9, 0)]) (show am_cd 95 1 = (3, 2, 2, 0, []) by decide +kernel) rfl ?_
  refine e_ic (show am_cd 95 2 = (0, 3, 0, 0, []) by decide +kernel) ?_
  refine e_sti (la2 := [rA 58, (0, n), (0, 0), (0, 0), (9, 0), (9, 0), (9, 0)]) (show am_cd 95 3 = (3, 4, 3, 0, []) by decide +kernel) rfl ?_
  exact h

theorem g_vlb1 {d : Nat} {Q : Option aV → aS → Prop} {w : eW} {t : eT} {n le i : Int} {m : eW} {l : List Int} {b : Nat × Nat} {J1 J2 J3 : aV} (h : (0 ≤ w32 n ∧ w32 n < 7) ∧ ((w32 (w 60 (w32 n).toNat) ≤ w32 i → Q (some (0, le)) (enc w t)) ∧ (¬ (w32 (w 60 (w32 n).toNat) ≤ w32 i) → (0 ≤ w32 ((n * 200) + i) ∧ w32 ((n * 200) + i) < 1400) ∧ (∃ g1, (VpP m l g1 (idiv (w 59 (w32 ((n * 200) + i)).toNat) 7) (irem (w 59 (w32 ((n * 200) + i)).toNat) 7) w t) ∧ (∀ x2, (x2 = ((spP m l (irem (w 59 (w32 ((n * 200) + i)).toNat) 7).toNat &&& mfG m g1 : Nat) : Int)) → Ev (d + 3) 95 Q 47 [rA 58, (0, n), (0, le), (0, i), (0, w 59 (w32 ((n * 200) + i)).toNat), (0, x2), (0, 0)] [] (enc w t)))))) : Ev (d + 3) 95 Q 4 [rA 58, (0, n), (0, le), (0, i), J1, J2, J3] [] (enc w t) := by
  refine e_ldi (show am_cd 95 4 = (2, 5, 3, 0, []) by decide +kernel) rfl ?_
  refine e_lda (v := 58) (show am_cd 95 5 = (2, 6, 0, 2, []) by decide +kernel) rfl ?_
  refine e_getr (a := 58) (r := 60) (show am_cd 95 6 = (18, 9, 905, 2, [15]) by decide +kernel) (by decide +kernel) (by decide +kernel) rfl ?_
  refine e_ldi (show am_cd 95 9 = (2, 10, 1, 0, []) by decide +kernel) rfl ?_
  refine e_iald (a := 60) (n := 7) (show am_cd 95 10 = (21, 11, 0, 0, []) by decide +kernel) (by decide +kernel) (by decide +kernel) (by decide +kernel) h.1 ?_
  replace h := h.2
  refine e_cmp3 (show am_cd 95 11 = (11, 14, 99, 3, []) by decide +kernel) (fun hc => ?_) (fun hc => ?_)
  · replace h := h.1 hc
    refine e_ldi (show am_cd 95 99 = (2, 100, 2, 0, []) by decide +kernel) rfl ?_
    exact e_reti (show am_cd 95 100 = (36, 101, 0, 0, []) by decide +kernel) (by decide +kernel) h
  · replace h := h.2 hc
    refine e_lda (v := 58) (show am_cd 95 14 = (2, 15, 0, 2, []) by decide +kernel) rfl ?_
    refine e_getr (a := 58) (r := 59) (show am_cd 95 15 = (18, 18, 904, 2, [11]) by decide +kernel) (by decide +kernel) (by decide +kernel) rfl ?_
    refine e_ldi (show am_cd 95 18 = (2, 19, 1, 0, []) by decide +kernel) rfl ?_
    refine e_ic (show am_cd 95 19 = (0, 22, 2, 200, []) by decide +kernel) ?_
    refine e_imul (show am_cd 95 22 = (5, 23, 2, 0, []) by decide +kernel) ?_
    refine e_ldi (show am_cd 95 23 = (2, 24, 3, 0, []) by decide +kernel) rfl ?_
    refine e_iadd (show am_cd 95 24 = (5, 25, 0, 0, []) by decide +kernel) ?_
    refine e_iald (a := 59) (n := 1400) (show am_cd 95 25 = (21, 26, 0, 0, []) by decide +kernel) (by decide +kernel) (by decide +kernel) (by decide +kernel) h.1 ?_
    replace h := h.2
    refine e_sti (la2 := [rA 58, (0, n), (0, le), (0, i), (0, w 59 (w32 ((n * 200) + i)).toNat), J2, J3]) (show am_cd 95 26 = (3, 28, 4, 0, []) by decide +kernel) rfl ?_
    refine e_lda (v := 58) (show am_cd 95 28 = (2, 29, 0, 2, []) by decide +kernel) rfl ?_
    refine e_ldi (show am_cd 95 29 = (2, 31, 4, 0, []) by decide +kernel) rfl ?_
    refine e_ic (show am_cd 95 31 = (0, 33, 1, 7, []) by decide +kernel) ?_
    refine e_idiv (show am_cd 95 33 = (5, 34, 9, 0, []) by decide +kernel) (by decide) ?_
    refine e_ldi (show am_cd 95 34 = (2, 36, 4, 0, []) by decide +kernel) rfl ?_
    refine e_ic (show am_cd 95 36 = (0, 38, 1, 7, []) by decide +kernel) ?_
    refine e_irem (show am_cd 95 38 = (5, 39, 10, 0, []) by decide +kernel) (by decide) ?_
    refine e_cV (z := 0) (a := 58) (as := [(0, idiv (w 59 (w32 ((n * 200) + i)).toNat) 7), (0, irem (w 59 (w32 ((n * 200) + i)).toNat) 7)]) (rest := []) (show am_cd 95 39 = (40, 42, 94, 0, [94]) by decide +kernel) (by decide +kernel) rfl rfl (Nat.le_of_ble_eq_true rfl) rfl ?_
    obtain ⟨g1, h⟩ := h
    refine Cl.mono (Cl.up (c_vpa (m := m) (l := l) (d := d) g1 h.1) (by omega)) ?_
    rintro _ _ ⟨x2, rfl, rfl, hp⟩
    refine ⟨fun _ h9 => (by cases h9), ?_⟩
    replace h := h.2 x2 hp
    show Ev _ 95 _ 42 [rA 58, (0, n), (0, le), (0, i), (0, w 59 (w32 ((n * 200) + i)).toNat), J2, J3] [(0, x2)] _
    refine e_sti (la2 := [rA 58, (0, n), (0, le), (0, i), (0, w 59 (w32 ((n * 200) + i)).toNat), (0, x2), J3]) (show am_cd 95 42 = (3, 44, 5, 0, []) by decide +kernel) rfl ?_
    refine e_ic (show am_cd 95 44 = (0, 45, 0, 0, []) by decide +kernel) ?_
    refine e_sti (la2 := [rA 58, (0, n), (0, le), (0, i), (0, w 59 (w32 ((n * 200) + i)).toNat), (0, x2), (0, 0)]) (show am_cd 95 45 = (3, 47, 6, 0, []) by decide +kernel) rfl ?_
    exact h

theorem g_vlb2 {d : Nat} {Q : Option aV → aS → Prop} {w : eW} {t : eT} {n le i sp ft p : Int} {m : eW} {l : List Int} {b : Nat × Nat} (h : ((w32 16 ≤ w32 p → Ev (d + 3) 95 Q 4 [rA 58, (0, n), (0, le), (0, i + 1), (0, sp), (0, ft), (0, p)] [] (enc w t)) ∧ (¬ (w32 16 ≤ w32 p) → ((w32 (ishr ft p) = 0 → Ev (d + 3) 95 Q 4 [rA 58, (0, n), (0, le), (0, i + 1), (0, sp), (0, ft), (0, p)] [] (enc w t)) ∧ (¬ (w32 (ishr ft p) = 0) → ((w32 (iand (ishr ft p) 1) = 0 → Ev (d + 3) 95 Q 47 [rA 58, (0, n), (0, le), (0, i), (0, sp), (0, ft), (0, p + 1)] [] (enc w t)) ∧ (¬ (w32 (iand (ishr ft p) 1) = 0) → (0 ≤ w32 p ∧ w32 p < 16) ∧ (Ev (d + 3) 95 Q 47 [rA 58, (0, n), (0, ior le (ishl 1 (w 10 (w32 p).toNat))), (0, i), (0, sp), (0, ft), (0, p + 1)] [] (enc w t))))))))) : Ev (d + 3) 95 Q 47 [rA 58, (0, n), (0, le), (0, i), (0, sp), (0, ft), (0, p)] [] (enc w t) := by
  refine e_ldi (show am_cd 95 47 = (2, 49, 6, 0, []) by decide +kernel) rfl ?_
  refine e_ic (show am_cd 95 49 = (0, 51, 1, 16, []) by decide +kernel) ?_
  refine e_cmp3 (show am_cd 95 51 = (11, 54, 93, 3, []) by decide +kernel) (fun hc => ?_) (fun hc => ?_)
  · replace h := h.1 hc
    refine e_inc (la2 := [rA 58, (0, n), (0, le), (0, i + 1), (0, sp), (0, ft), (0, p)]) (show am_cd 95 93 = (4, 96, 3, 1, []) by decide +kernel) rfl rfl ?_
    refine e_go (show am_cd 95 96 = (12, 4, 0, 0, []) by decide +kernel) ?_
    exact h
  · replace h := h.2 hc
    refine e_ldi (show am_cd 95 54 = (2, 56, 5, 0, []) by decide +kernel) rfl ?_
    refine e_ldi (show am_cd 95 56 = (2, 58, 6, 0, []) by decide +kernel) rfl ?_
    refine e_ishr (show am_cd 95 58 = (5, 59, 7, 0, []) by decide +kernel) ?_
    refine e_if0 (show am_cd 95 59 = (10, 62, 93, 0, []) by decide +kernel) (fun hc => ?_) (fun hc => ?_)
    · replace h := h.1 hc
      refine e_inc (la2 := [rA 58, (0, n), (0, le), (0, i + 1), (0, sp), (0, ft), (0, p)]) (show am_cd 95 93 = (4, 96, 3, 1, []) by decide +kernel) rfl rfl ?_
      refine e_go (show am_cd 95 96 = (12, 4, 0, 0, []) by decide +kernel) ?_
      exact h
    · replace h := h.2 hc
      refine e_ldi (show am_cd 95 62 = (2, 64, 5, 0, []) by decide +kernel) rfl ?_
      refine e_ldi (show am_cd 95 64 = (2, 66, 6, 0, []) by decide +kernel) rfl ?_
      refine e_ishr (show am_cd 95 66 = (5, 67, 7, 0, []) by decide +kernel) ?_
      refine e_ic (show am_cd 95 67 = (0, 68, 0, 1, []) by decide +kernel) ?_
      refine e_iand (show am_cd 95 68 = (5, 69, 3, 0, []) by decide +kernel) ?_
      refine e_if0 (show am_cd 95 69 = (10, 72, 87, 0, []) by decide +kernel) (fun hc => ?_) (fun hc => ?_)
      · replace h := h.1 hc
        refine e_inc (la2 := [rA 58, (0, n), (0, le), (0, i), (0, sp), (0, ft), (0, p + 1)]) (show am_cd 95 87 = (4, 90, 6, 1, []) by decide +kernel) rfl rfl ?_
        refine e_go (show am_cd 95 90 = (12, 47, 0, 0, []) by decide +kernel) ?_
        exact h
      · replace h := h.2 hc
        refine e_ldi (show am_cd 95 72 = (2, 73, 2, 0, []) by decide +kernel) rfl ?_
        refine e_ic (show am_cd 95 73 = (0, 74, 0, 1, []) by decide +kernel) ?_
        refine e_lda (v := 58) (show am_cd 95 74 = (2, 75, 0, 2, []) by decide +kernel) rfl ?_
        refine e_getr (a := 58) (r := 8) (show am_cd 95 75 = (18, 78, 901, 2, [22]) by decide +kernel) (by decide +kernel) (by decide +kernel) rfl ?_
        refine e_getr (a := 8) (r := 10) (show am_cd 95 78 = (18, 81, 1, 2, [98]) by decide +kernel) (by decide +kernel) (by decide +kernel) rfl ?_
        refine e_ldi (show am_cd 95 81 = (2, 83, 6, 0, []) by decide +kernel) rfl ?_
        refine e_iald (a := 10) (n := 16) (show am_cd 95 83 = (21, 84, 0, 0, []) by decide +kernel) (by decide +kernel) (by decide +kernel) (by decide +kernel) h.1 ?_
        replace h := h.2
        refine e_ishl (show am_cd 95 84 = (5, 85, 6, 0, []) by decide +kernel) ?_
        refine e_ior (show am_cd 95 85 = (5, 86, 4, 0, []) by decide +kernel) ?_
        refine e_sti (la2 := [rA 58, (0, n), (0, ior le (ishl 1 (w 10 (w32 p).toNat))), (0, i), (0, sp), (0, ft), (0, p)]) (show am_cd 95 86 = (3, 87, 2, 0, []) by decide +kernel) rfl ?_
        refine e_inc (la2 := [rA 58, (0, n), (0, ior le (ishl 1 (w 10 (w32 p).toNat))), (0, i), (0, sp), (0, ft), (0, p + 1)]) (show am_cd 95 87 = (4, 90, 6, 1, []) by decide +kernel) rfl rfl ?_
        refine e_go (show am_cd 95 90 = (12, 47, 0, 0, []) by decide +kernel) ?_
        exact h

theorem g_go0 {d : Nat} {Q : Option aV → aS → Prop} {w : eW} {t : eT} {n : Int} {m : eW} {l : List Int} {b : Nat × Nat} {γS : Type} {PRS : γS → Int → eW → eT → Prop} {POS : γS → Int → eW → eT → eW → eT → Prop} (hrS : ∀ (g : γS) (a1 : Int) (w : eW) (t : eT), PRS g a1 w t → Cl (d + 29) 97 [rA 58, (0, a1)] (enc w t) (fun r S2 => ∃ w2 t2, r = none ∧ S2 = enc w2 t2 ∧ POS g a1 w t w2 t2)) {γW : Type} {PRW : γW → Int → eW → eT → Prop} {POW : γW → Int → eW → eT → Int → eW → eT → Prop} (hrW : ∀ (g : γW) (a1 : Int) (w : eW) (t : eT), PRW g a1 w t → Cl (d + 29) 93 [rA 58, (0, a1)] (enc w t) (fun r S2 => ∃ x w2 t2, r = some (0, x) ∧ S2 = enc w2 t2 ∧ POW g a1 w t x w2 t2)) (h : ∃ g1, (PRS g1 n w t) ∧ (∀ w2 t3, (POS g1 n w t w2 t3) → ∃ g4, (PRW g4 n w2 t3) ∧ (∀ x5 w6 t7, (POW g4 n w2 t3 x5 w6 t7) → ((w32 x5 = 0 → Ev (d + 30) 92 Q 23 [rA 58, (0, n), (9, 0), (9, 0)] [] (enc w6 t7)) ∧ (¬ (w32 x5 = 0) → Ev (d + 30) 92 Q 23 [rA 58, (0, n), (9, 0), (9, 0)] [] (enc (wu w6 58 6 ((w6 58 6) + 1)) t7)))))) : Cl (d + 30) 92 [rA 58, (0, n)] (enc w t) Q := by
  show Ev (d + 30) 92 Q 0 [rA 58, (0, n), (9, 0), (9, 0)] [] (enc w t)
  refine e_lda (v := 58) (show am_cd 92 0 = (2, 1, 0, 2, []) by decide +kernel) rfl ?_
  refine e_ldi (show am_cd 92 1 = (2, 2, 1, 0, []) by decide +kernel) rfl ?_
  refine e_cV (z := 0) (a := 58) (as := [(0, n)]) (rest := []) (show am_cd 92 2 = (40, 5, 97, 0, [55]) by decide +kernel) (by decide +kernel) rfl rfl (Nat.le_of_ble_eq_true rfl) rfl ?_
  obtain ⟨g1, h⟩ := h
  refine Cl.mono (Cl.up (hrS g1 _ _ _ h.1) (by omega)) ?_
  rintro _ _ ⟨w2, t3, rfl, rfl, hp⟩
  refine ⟨fun _ h9 => (by cases h9), ?_⟩
  replace h := h.2 w2 t3 hp
  show Ev _ 92 _ 5 [rA 58, (0, n), (9, 0), (9, 0)] [] _
  refine e_lda (v := 58) (show am_cd 92 5 = (2, 6, 0, 2, []) by decide +kernel) rfl ?_
  refine e_ldi (show am_cd 92 6 = (2, 7, 1, 0, []) by decide +kernel) rfl ?_
  refine e_cV (z := 0) (a := 58) (as := [(0, n)]) (rest := []) (show am_cd 92 7 = (40, 10, 93, 0, [58]) by decide +kernel) (by decide +kernel) rfl rfl (Nat.le_of_ble_eq_true rfl) rfl ?_
  obtain ⟨g4, h⟩ := h
  refine Cl.mono (Cl.up (hrW g4 _ _ _ h.1) (by omega)) ?_
  rintro _ _ ⟨x5, w6, t7, rfl, rfl, hp⟩
  refine ⟨fun _ h9 => (by cases h9), ?_⟩
  replace h := h.2 x5 w6 t7 hp
  show Ev _ 92 _ 10 [rA 58, (0, n), (9, 0), (9, 0)] [(0, x5)] _
  refine e_if0 (show am_cd 92 10 = (10, 13, 23, 0, []) by decide +kernel) (fun hc => ?_) (fun hc => ?_)
  · replace h := h.1 hc
    exact h
  · replace h := h.2 hc
    refine e_lda (v := 58) (show am_cd 92 13 = (2, 14, 0, 2, []) by decide +kernel) rfl ?_
    refine e_dup (show am_cd 92 14 = (13, 15, 0, 0, []) by decide +kernel) (by decide) ?_
    refine e_getf (a := 58) (tg := 0) (show am_cd 92 15 = (18, 18, 906, 0, [43]) by decide +kernel) (by decide +kernel) (by decide +kernel) rfl ?_
    refine e_ic (show am_cd 92 18 = (0, 19, 0, 1, []) by decide +kernel) ?_
    refine e_iadd (show am_cd 92 19 = (5, 20, 0, 0, []) by decide +kernel) ?_
    refine e_putf (a := 58) (show am_cd 92 20 = (19, 23, 906, 0, [43]) by decide +kernel) (by decide +kernel) (by decide +kernel) rfl (fun h9 => absurd h9 (by decide)) (fun h9 => absurd h9 (by decide +kernel)) ?_
    exact h

theorem g_go1 {d : Nat} {Q : Option aV → aS → Prop} {w : eW} {t : eT} {n : Int} {m : eW} {l : List Int} {b : Nat × Nat} {γL : Type} {PRL : γL → Int → eW → eT → Prop} {POL : γL → Int → eW → eT → Int → eW → eT → Prop} (hrL : ∀ (g : γL) (a1 : Int) (w : eW) (t : eT), PRL g a1 w t → Cl (d + 29) 95 [rA 58, (0, a1)] (enc w t) (fun r S2 => ∃ x w2 t2, r = some (0, x) ∧ S2 = enc w2 t2 ∧ POL g a1 w t x w2 t2)) (h : ((w32 n < w32 6 → ∃ g1, (PRL g1 n w t) ∧ (∀ x2 w3 t4, (POL g1 n w t x2 w3 t4) → Ev (d + 30) 92 Q 38 [rA 58, (0, n), (0, x2), (0, 1)] [] (enc w3 t4))) ∧ (¬ (w32 n < w32 6) → Q none (enc w t)))) : Ev (d + 30) 92 Q 23 [rA 58, (0, n), (9, 0), (9, 0)] [] (enc w t) := by
  refine e_ldi (show am_cd 92 23 = (2, 24, 1, 0, []) by decide +kernel) rfl ?_
  refine e_ic (show am_cd 92 24 = (0, 26, 1, 6, []) by decide +kernel) ?_
  refine e_cmp2 (show am_cd 92 26 = (11, 29, 30, 2, []) by decide +kernel) (fun hc => ?_) (fun hc => ?_)
  · replace h := h.1 hc
    refine e_lda (v := 58) (show am_cd 92 30 = (2, 31, 0, 2, []) by decide +kernel) rfl ?_
    refine e_ldi (show am_cd 92 31 = (2, 32, 1, 0, []) by decide +kernel) rfl ?_
    refine e_cV (z := 0) (a := 58) (as := [(0, n)]) (rest := []) (show am_cd 92 32 = (40, 35, 95, 0, [62]) by decide +kernel) (by decide +kernel) rfl rfl (Nat.le_of_ble_eq_true rfl) rfl ?_
    obtain ⟨g1, h⟩ := h
    refine Cl.mono (Cl.up (hrL g1 _ _ _ h.1) (by omega)) ?_
    rintro _ _ ⟨x2, w3, t4, rfl, rfl, hp⟩
    refine ⟨fun _ h9 => (by cases h9), ?_⟩
    replace h := h.2 x2 w3 t4 hp
    show Ev _ 92 _ 35 [rA 58, (0, n), (9, 0), (9, 0)] [(0, x2)] _
    refine e_sti (la2 := [rA 58, (0, n), (0, x2), (9, 0)]) (show am_cd 92 35 = (3, 36, 2, 0, []) by decide +kernel) rfl ?_
    refine e_ic (show am_cd 92 36 = (0, 37, 0, 1, []) by decide +kernel) ?_
    refine e_sti (la2 := [rA 58, (0, n), (0, x2), (0, 1)]) (show am_cd 92 37 = (3, 38, 3, 0, []) by decide +kernel) rfl ?_
    exact h
  · replace h := h.2 hc
    exact e_retv (show am_cd 92 29 = (36, 30, 3, 0, []) by decide +kernel) (by decide +kernel) h

theorem g_go2 {d : Nat} {Q : Option aV → aS → Prop} {w : eW} {t : eT} {n le c : Int} {m : eW} {l : List Int} {b : Nat × Nat} {γP : Type} {PRP : γP → Int → Int → eW → eT → Prop} {POP : γP → Int → Int → eW → eT → eW → eT → Prop} (hrP : ∀ (g : γP) (a1 a2 : Int) (w : eW) (t : eT), PRP g a1 a2 w t → Cl (d + 29) 96 [rA 58, (0, a1), (0, a2)] (enc w t) (fun r S2 => ∃ w2 t2, r = none ∧ S2 = enc w2 t2 ∧ POP g a1 a2 w t w2 t2)) {γG : Type} {PRG : γG → Int → eW → eT → Prop} {POG : γG → Int → eW → eT → eW → eT → Prop} (hrG : ∀ (g : γG) (a1 : Int) (w : eW) (t : eT), PRG g a1 w t → Cl (d + 29) 92 [rA 58, (0, a1)] (enc w t) (fun r S2 => ∃ w2 t2, r = none ∧ S2 = enc w2 t2 ∧ POG g a1 w t w2 t2)) (h : ((w32 28 ≤ w32 c → Q none (enc w t)) ∧ (¬ (w32 28 ≤ w32 c) → ((w32 200 < w32 (w 58 6) → Q none (enc w t)) ∧ (¬ (w32 200 < w32 (w 58 6)) → ((w32 (iand (ishr le c) 1) = 0 → Ev (d + 30) 92 Q 38 [rA 58, (0, n), (0, le), (0, c + 1)] [] (enc w t)) ∧ (¬ (w32 (iand (ishr le c) 1) = 0) → ∃ g1, (PRP g1 n c w t) ∧ (∀ w2 t3, (POP g1 n c w t w2 t3) → (0 ≤ w32 (n + 1) ∧ w32 (n + 1) < 7) ∧ ((w32 (w2 60 (w32 (n + 1)).toNat) ≤ 0 → Ev (d + 30) 92 Q 38 [rA 58, (0, n), (0, le), (0, c + 1)] [] (enc w2 t3)) ∧ (¬ (w32 (w2 60 (w32 (n + 1)).toNat) ≤ 0) → ∃ g4, (PRG g4 (n + 1) w2 t3) ∧ (∀ w5 t6, (POG g4 (n + 1) w2 t3 w5 t6) → Ev (d + 30) 92 Q 38 [rA 58, (0, n), (0, le), (0, c + 1)] [] (enc w5 t6)))))))))))) : Ev (d + 30) 92 Q 38 [rA 58, (0, n), (0, le), (0, c)] [] (enc w t) := by
  refine e_ldi (show am_cd 92 38 = (2, 39, 3, 0, []) by decide +kernel) rfl ?_
  refine e_ic (show am_cd 92 39 = (0, 41, 1, 28, []) by decide +kernel) ?_
  refine e_cmp3 (show am_cd 92 41 = (11, 44, 92, 3, []) by decide +kernel) (fun hc => ?_) (fun hc => ?_)
  · replace h := h.1 hc
    exact e_retv (show am_cd 92 92 = (36, 93, 3, 0, []) by decide +kernel) (by decide +kernel) h
  · replace h := h.2 hc
    refine e_lda (v := 58) (show am_cd 92 44 = (2, 45, 0, 2, []) by decide +kernel) rfl ?_
    refine e_getf (a := 58) (tg := 0) (show am_cd 92 45 = (18, 48, 906, 0, [43]) by decide +kernel) (by decide +kernel) (by decide +kernel) rfl ?_
    refine e_ic (show am_cd 92 48 = (0, 51, 2, 200, []) by decide +kernel) ?_
    refine e_cmp4 (show am_cd 92 51 = (11, 54, 92, 4, []) by decide +kernel) (fun hc => ?_) (fun hc => ?_)
    · replace h := h.1 hc
      exact e_retv (show am_cd 92 92 = (36, 93, 3, 0, []) by decide +kernel) (by decide +kernel) h
    · replace h := h.2 hc
      refine e_ldi (show am_cd 92 54 = (2, 55, 2, 0, []) by decide +kernel) rfl ?_
      refine e_ldi (show am_cd 92 55 = (2, 56, 3, 0, []) by decide +kernel) rfl ?_
      refine e_ishr (show am_cd 92 56 = (5, 57, 7, 0, []) by decide +kernel) ?_
      refine e_ic (show am_cd 92 57 = (0, 58, 0, 1, []) by decide +kernel) ?_
      refine e_iand (show am_cd 92 58 = (5, 59, 3, 0, []) by decide +kernel) ?_
      refine e_if0 (show am_cd 92 59 = (10, 62, 86, 0, []) by decide +kernel) (fun hc => ?_) (fun hc => ?_)
      · replace h := h.1 hc
        refine e_inc (la2 := [rA 58, (0, n), (0, le), (0, c + 1)]) (show am_cd 92 86 = (4, 89, 3, 1, []) by decide +kernel) rfl rfl ?_
        refine e_go (show am_cd 92 89 = (12, 38, 0, 0, []) by decide +kernel) ?_
        exact h
      · replace h := h.2 hc
        refine e_lda (v := 58) (show am_cd 92 62 = (2, 63, 0, 2, []) by decide +kernel) rfl ?_
        refine e_ldi (show am_cd 92 63 = (2, 64, 1, 0, []) by decide +kernel) rfl ?_
        refine e_ldi (show am_cd 92 64 = (2, 65, 3, 0, []) by decide +kernel) rfl ?_
        refine e_cV (z := 0) (a := 58) (as := [(0, n), (0, c)]) (rest := []) (show am_cd 92 65 = (40, 68, 96, 0, [66]) by decide +kernel) (by decide +kernel) rfl rfl (Nat.le_of_ble_eq_true rfl) rfl ?_
        obtain ⟨g1, h⟩ := h
        refine Cl.mono (Cl.up (hrP g1 _ _ _ _ h.1) (by omega)) ?_
        rintro _ _ ⟨w2, t3, rfl, rfl, hp⟩
        refine ⟨fun _ h9 => (by cases h9), ?_⟩
        replace h := h.2 w2 t3 hp
        show Ev _ 92 _ 68 [rA 58, (0, n), (0, le), (0, c)] [] _
        refine e_lda (v := 58) (show am_cd 92 68 = (2, 69, 0, 2, []) by decide +kernel) rfl ?_
        refine e_getr (a := 58) (r := 60) (show am_cd 92 69 = (18, 72, 905, 2, [15]) by decide +kernel) (by decide +kernel) (by decide +kernel) rfl ?_
        refine e_ldi (show am_cd 92 72 = (2, 73, 1, 0, []) by decide +kernel) rfl ?_
        refine e_ic (show am_cd 92 73 = (0, 74, 0, 1, []) by decide +kernel) ?_
        refine e_iadd (show am_cd 92 74 = (5, 75, 0, 0, []) by decide +kernel) ?_
        refine e_iald (a := 60) (n := 7) (show am_cd 92 75 = (21, 76, 0, 0, []) by decide +kernel) (by decide +kernel) (by decide +kernel) (by decide +kernel) h.1 ?_
        replace h := h.2
        refine e_if5 (show am_cd 92 76 = (10, 79, 86, 5, []) by decide +kernel) (fun hc => ?_) (fun hc => ?_)
        · replace h := h.1 hc
          refine e_inc (la2 := [rA 58, (0, n), (0, le), (0, c + 1)]) (show am_cd 92 86 = (4, 89, 3, 1, []) by decide +kernel) rfl rfl ?_
          refine e_go (show am_cd 92 89 = (12, 38, 0, 0, []) by decide +kernel) ?_
          exact h
        · replace h := h.2 hc
          refine e_lda (v := 58) (show am_cd 92 79 = (2, 80, 0, 2, []) by decide +kernel) rfl ?_
          refine e_ldi (show am_cd 92 80 = (2, 81, 1, 0, []) by decide +kernel) rfl ?_
          refine e_ic (show am_cd 92 81 = (0, 82, 0, 1, []) by decide +kernel) ?_
          refine e_iadd (show am_cd 92 82 = (5, 83, 0, 0, []) by decide +kernel) ?_
          refine e_cV (z := 0) (a := 58) (as := [(0, n + 1)]) (rest := []) (show am_cd 92 83 = (40, 86, 92, 0, [51]) by decide +kernel) (by decide +kernel) rfl rfl (Nat.le_of_ble_eq_true rfl) rfl ?_
          obtain ⟨g4, h⟩ := h
          refine Cl.mono (Cl.up (hrG g4 _ _ _ h.1) (by omega)) ?_
          rintro _ _ ⟨w5, t6, rfl, rfl, hp⟩
          refine ⟨fun _ h9 => (by cases h9), ?_⟩
          replace h := h.2 w5 t6 hp
          show Ev _ 92 _ 86 [rA 58, (0, n), (0, le), (0, c)] [] _
          refine e_inc (la2 := [rA 58, (0, n), (0, le), (0, c + 1)]) (show am_cd 92 86 = (4, 89, 3, 1, []) by decide +kernel) rfl rfl ?_
          refine e_go (show am_cd 92 89 = (12, 38, 0, 0, []) by decide +kernel) ?_
          exact h

theorem g_cal {d : Nat} {Q : Option aV → aS → Prop} {w : eW} {t : eT} {m : eW} {l : List Int} {b : Nat × Nat} {γF : Type} {PRF : γF → Int → Int → Int → eW → eT → Prop} {POF : γF → Int → Int → Int → eW → eT → Int → eW → eT → Prop} (hrF : ∀ (g : γF) (a1 a2 a3 : Int) (w : eW) (t : eT), PRF g a1 a2 a3 w t → Cl (d + 40) 100 [rA 58, (0, a1), (0, a2), (0, a3)] (enc w t) (fun r S2 => ∃ x w2 t2, r = some (0, x) ∧ S2 = enc w2 t2 ∧ POF g a1 a2 a3 w t x w2 t2)) {γU : Type} {PRU : γU → Int → Int → Int → eW → eT → Prop} {POU : γU → Int → Int → Int → eW → eT → eW → eT → Prop} (hrU : ∀ (g : γU) (a1 a2 a3 : Int) (w : eW) (t : eT), PRU g a1 a2 a3 w t → Cl (d + 40) 99 [rA 58, (0, a1), (0, a2), (0, a3)] (enc w t) (fun r S2 => ∃ w2 t2, r = none ∧ S2 = enc w2 t2 ∧ POU g a1 a2 a3 w t w2 t2)) {γG : Type} {PRG : γG → Int → eW → eT → Prop} {POG : γG → Int → eW → eT → eW → eT → Prop} (hrG : ∀ (g : γG) (a1 : Int) (w : eW) (t : eT), PRG g a1 w t → Cl (d + 40) 92 [rA 58, (0, a1)] (enc w t) (fun r S2 => ∃ w2 t2, r = none ∧ S2 = enc w2 t2 ∧ POG g a1 w t w2 t2)) (h : ∃ g1, (PRF g1 0 0 0 (wu (wu w 45 2 ((w 45 2) + 1)) 45 3 0) t) ∧ (∀ x2 w3 t4, (POF g1 0 0 0 (wu (wu w 45 2 ((w 45 2) + 1)) 45 3 0) t x2 w3 t4) → ∃ g5, (PRU g5 0 0 0 (wu (wu w3 58 6 0) 60 0 0) t4) ∧ (∀ w6 t7, (POU g5 0 0 0 (wu (wu w3 58 6 0) 60 0 0) t4 w6 t7) → ∃ g8, (PRG g8 0 w6 t7) ∧ (∀ w9 t10, (POG g8 0 w6 t7 w9 t10) → Q (some (0, w9 58 6)) (enc w9 t10))))) : Cl (d + 41) 91 [rA 58] (enc w t) Q := by
  show Ev (d + 41) 91 Q 0 [rA 58] [] (enc w t)
  refine e_lda (v := 58) (show am_cd 91 0 = (2, 1, 0, 2, []) by decide +kernel) rfl ?_
  refine e_getr (a := 58) (r := 45) (show am_cd 91 1 = (18, 4, 903, 2, [30]) by decide +kernel) (by decide +kernel) (by decide +kernel) rfl ?_
  refine e_cV (z := 0) (a := 45) (as := []) (rest := []) (show am_cd 91 4 = (40, 7, 43, 0, [34]) by decide +kernel) (by decide +kernel) rfl rfl (Nat.le_of_ble_eq_true rfl) rfl ?_
  show Ev _ 43 _ 0 [rA 45] [] _
  refine e_lda (v := 45) (show am_cd 43 0 = (2, 1, 0, 2, []) by decide +kernel) rfl ?_
  refine e_dup (show am_cd 43 1 = (13, 2, 0, 0, []) by decide +kernel) (by decide) ?_
  refine e_getf (a := 45) (tg := 0) (show am_cd 43 2 = (18, 5, 502, 0, [18]) by decide +kernel) (by decide +kernel) (by decide +kernel) rfl ?_
  refine e_ic (show am_cd 43 5 = (0, 6, 0, 1, []) by decide +kernel) ?_
  refine e_iadd (show am_cd 43 6 = (5, 7, 0, 0, []) by decide +kernel) ?_
  refine e_putf (a := 45) (show am_cd 43 7 = (19, 10, 502, 0, [18]) by decide +kernel) (by decide +kernel) (by decide +kernel) rfl (fun h9 => absurd h9 (by decide)) (fun h9 => absurd h9 (by decide +kernel)) ?_
  refine e_lda (v := 45) (show am_cd 43 10 = (2, 11, 0, 2, []) by decide +kernel) rfl ?_
  refine e_ic (show am_cd 43 11 = (0, 12, 0, 0, []) by decide +kernel) ?_
  refine e_putf (a := 45) (show am_cd 43 12 = (19, 15, 503, 0, [22]) by decide +kernel) (by decide +kernel) (by decide +kernel) rfl (fun h9 => absurd h9 (by decide)) (fun h9 => absurd h9 (by decide +kernel)) ?_
  refine e_retv (show am_cd 43 15 = (36, 16, 3, 0, []) by decide +kernel) (by decide +kernel) ⟨fun _ h9 => (by cases h9), ?_⟩
  show Ev _ 91 _ 7 [rA 58] [] _
  refine e_lda (v := 58) (show am_cd 91 7 = (2, 8, 0, 2, []) by decide +kernel) rfl ?_
  refine e_ic (show am_cd 91 8 = (0, 9, 0, 0, []) by decide +kernel) ?_
  refine e_ic (show am_cd 91 9 = (0, 10, 0, 0, []) by decide +kernel) ?_
  refine e_ic (show am_cd 91 10 = (0, 11, 0, 0, []) by decide +kernel) ?_
  refine e_cV (z := 0) (a := 58) (as := [(0, 0), (0, 0), (0, 0)]) (rest := []) (show am_cd 91 11 = (40, 14, 100, 0, [39]) by decide +kernel) (by decide +kernel) rfl rfl (Nat.le_of_ble_eq_true rfl) rfl ?_
  obtain ⟨g1, h⟩ := h
  refine Cl.mono (Cl.up (hrF g1 _ _ _ _ _ h.1) (by omega)) ?_
  rintro _ _ ⟨x2, w3, t4, rfl, rfl, hp⟩
  refine ⟨fun _ h9 => (by cases h9), ?_⟩
  replace h := h.2 x2 w3 t4 hp
  show Ev _ 91 _ 14 [rA 58] [(0, x2)] _
  refine e_pop (show am_cd 91 14 = (16, 15, 0, 0, []) by decide +kernel) (by decide) ?_
  refine e_lda (v := 58) (show am_cd 91 15 = (2, 16, 0, 2, []) by decide +kernel) rfl ?_
  refine e_ic (show am_cd 91 16 = (0, 17, 0, 0, []) by decide +kernel) ?_
  refine e_putf (a := 58) (show am_cd 91 17 = (19, 20, 906, 0, [43]) by decide +kernel) (by decide +kernel) (by decide +kernel) rfl (fun h9 => absurd h9 (by decide)) (fun h9 => absurd h9 (by decide +kernel)) ?_
  refine e_lda (v := 58) (show am_cd 91 20 = (2, 21, 0, 2, []) by decide +kernel) rfl ?_
  refine e_getr (a := 58) (r := 60) (show am_cd 91 21 = (18, 24, 905, 2, [15]) by decide +kernel) (by decide +kernel) (by decide +kernel) rfl ?_
  refine e_ic (show am_cd 91 24 = (0, 25, 0, 0, []) by decide +kernel) ?_
  refine e_ic (show am_cd 91 25 = (0, 26, 0, 0, []) by decide +kernel) ?_
  refine e_iastK (a := 60) (n := 7) (j := 0) (show am_cd 91 26 = (24, 27, 0, 0, []) by decide +kernel) (by decide +kernel) (by decide +kernel) (by decide +kernel) (by decide +kernel) (by decide +kernel) ?_
  refine e_lda (v := 58) (show am_cd 91 27 = (2, 28, 0, 2, []) by decide +kernel) rfl ?_
  refine e_ic (show am_cd 91 28 = (0, 29, 0, 0, []) by decide +kernel) ?_
  refine e_ic (show am_cd 91 29 = (0, 30, 0, 0, []) by decide +kernel) ?_
  refine e_ic (show am_cd 91 30 = (0, 31, 0, 0, []) by decide +kernel) ?_
  refine e_cV (z := 0) (a := 58) (as := [(0, 0), (0, 0), (0, 0)]) (rest := []) (show am_cd 91 31 = (40, 34, 99, 0, [47]) by decide +kernel) (by decide +kernel) rfl rfl (Nat.le_of_ble_eq_true rfl) rfl ?_
  obtain ⟨g5, h⟩ := h
  refine Cl.mono (Cl.up (hrU g5 _ _ _ _ _ h.1) (by omega)) ?_
  rintro _ _ ⟨w6, t7, rfl, rfl, hp⟩
  refine ⟨fun _ h9 => (by cases h9), ?_⟩
  replace h := h.2 w6 t7 hp
  show Ev _ 91 _ 34 [rA 58] [] _
  refine e_lda (v := 58) (show am_cd 91 34 = (2, 35, 0, 2, []) by decide +kernel) rfl ?_
  refine e_ic (show am_cd 91 35 = (0, 36, 0, 0, []) by decide +kernel) ?_
  refine e_cV (z := 0) (a := 58) (as := [(0, 0)]) (rest := []) (show am_cd 91 36 = (40, 39, 92, 0, [51]) by decide +kernel) (by decide +kernel) rfl rfl (Nat.le_of_ble_eq_true rfl) rfl ?_
  obtain ⟨g8, h⟩ := h
  refine Cl.mono (Cl.up (hrG g8 _ _ _ h.1) (by omega)) ?_
  rintro _ _ ⟨w9, t10, rfl, rfl, hp⟩
  refine ⟨fun _ h9 => (by cases h9), ?_⟩
  replace h := h.2 w9 t10 hp
  show Ev _ 91 _ 39 [rA 58] [] _
  refine e_lda (v := 58) (show am_cd 91 39 = (2, 40, 0, 2, []) by decide +kernel) rfl ?_
  refine e_getf (a := 58) (tg := 0) (show am_cd 91 40 = (18, 43, 906, 0, [43]) by decide +kernel) (by decide +kernel) (by decide +kernel) rfl ?_
  exact e_reti (show am_cd 91 43 = (36, 44, 0, 0, []) by decide +kernel) (by decide +kernel) h
