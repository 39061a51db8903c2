/-! The class: holds, never: regions. -/

theorem g_chold2 {d : Nat} {Q : Option aV → aS → Prop} {w : eW} {t : eT} {p : Int} {m : eW} {b : Nat × Nat} {γT : Type} {PRT : γT → Int → Int → Int → Int → eW → eT → Prop} {POT : γT → Int → Int → Int → Int → eW → eT → eW → eT → Prop} (hrT : ∀ (g : γT) (a1 a2 a3 a4 : Int) (w : eW) (t : eT), PRT g a1 a2 a3 a4 w t → Cl (d + 98) 106 [rA 53, (0, a1), (0, a2), (0, a3), (0, a4)] (enc w t) (fun r S2 => ∃ w2 t2, r = none ∧ S2 = enc w2 t2 ∧ POT g a1 a2 a3 a4 w t w2 t2)) (h : ((w32 p < 0 → Q (some (0, (-1))) (enc w t)) ∧ (¬ (w32 p < 0) → ((w32 p < w32 (w 8 6) → ((LN w m ∧ RC w m ∧ WFp m ∧ WFr m) ∧ DynQ w t b m) ∧ (∀ w1 t2, (Lo w w1 ∧ DynQ w1 t2 b m ∧ w1 37 8 = 0) → ((RgM w1 t2 (w1 37 7).toNat ∧ MaC w1 m) ∧ (WFp m ∧ WFr m) ∧ (0 : Int) ≤ p ∧ (p : Int) < (nP m : Int)) ∧ (∀ x3, (x3 = ((fw m p.toNat : Nat) : Int)) → ((w32 x3 ≤ w32 6 → ((0 : Int) ≤ 1 ∧ (1 : Int) ≤ 4) ∧ (∃ g4, (PRT g4 (2 * x3) 0 0 0 (wu (wu (begW w1 1) 53 10 p) 48 4 0) t2) ∧ (∀ w5 t6, (POT g4 (2 * x3) 0 0 0 (wu (wu (begW w1 1) 53 10 p) 48 4 0) t2 w5 t6) → Q (some (0, x3)) (enc w5 t6)))) ∧ (¬ (w32 x3 ≤ w32 6) → Q (some (0, (-2))) (enc w1 t2)))))) ∧ (¬ (w32 p < w32 (w 8 6)) → Q (some (0, (-1))) (enc w t)))))) : Cl (d + 100) 140 [rA 1, (0, p)] (enc w t) Q := by
  show Ev (d + 100) 140 Q 0 [rA 1, (0, p), (9, 0)] [] (enc w t)
  refine e_ldi (show am_cd 140 0 = (2, 1, 1, 0, []) by decide +kernel) rfl ?_
  refine e_if2 (show am_cd 140 1 = (10, 4, 15, 2, []) by decide +kernel) (fun hc => ?_) (fun hc => ?_)
  · replace h := h.1 hc
    refine e_ic (show am_cd 140 15 = (0, 16, 0, -1, []) by decide +kernel) ?_
    exact e_reti (show am_cd 140 16 = (36, 17, 0, 0, []) by decide +kernel) (by decide +kernel) h
  · replace h := h.2 hc
    refine e_ldi (show am_cd 140 4 = (2, 5, 1, 0, []) by decide +kernel) rfl ?_
    refine e_lda (v := 1) (show am_cd 140 5 = (2, 6, 0, 2, []) by decide +kernel) rfl ?_
    refine e_getr (a := 1) (r := 8) (show am_cd 140 6 = (18, 9, 1101, 2, [19]) by decide +kernel) (by decide +kernel) (by decide +kernel) rfl ?_
    refine e_getf (a := 8) (tg := 0) (show am_cd 140 9 = (18, 12, 6, 0, [145]) by decide +kernel) (by decide +kernel) (by decide +kernel) rfl ?_
    refine e_cmp2 (show am_cd 140 12 = (11, 15, 17, 2, []) by decide +kernel) (fun hc => ?_) (fun hc => ?_)
    · replace h := h.1 hc
      refine e_lda (v := 1) (show am_cd 140 17 = (2, 18, 0, 2, []) by decide +kernel) rfl ?_
      refine e_cV (z := 0) (a := 1) (as := []) (rest := []) (show am_cd 140 18 = (40, 21, 138, 0, [255]) by decide +kernel) (by decide +kernel) rfl rfl (Nat.le_of_ble_eq_true rfl) rfl ?_
      refine Cl.mono (Cl.up (c_prep (m := m) (b := b) (d := d) h.1) (by omega)) ?_
      rintro _ _ ⟨w1, t2, rfl, rfl, hp⟩
      refine ⟨fun _ h9 => (by cases h9), ?_⟩
      replace h := h.2 w1 t2 hp
      show Ev _ 140 _ 21 [rA 1, (0, p), (9, 0)] [] _
      refine e_lda (v := 1) (show am_cd 140 21 = (2, 22, 0, 2, []) by decide +kernel) rfl ?_
      refine e_getr (a := 1) (r := 37) (show am_cd 140 22 = (18, 25, 1104, 2, [40]) by decide +kernel) (by decide +kernel) (by decide +kernel) rfl ?_
      refine e_ldi (show am_cd 140 25 = (2, 26, 1, 0, []) by decide +kernel) rfl ?_
      refine e_cV (z := 0) (a := 37) (as := [(0, p)]) (rest := []) (show am_cd 140 26 = (40, 29, 38, 0, [265]) by decide +kernel) (by decide +kernel) rfl rfl (Nat.le_of_ble_eq_true rfl) rfl ?_
      refine Cl.mono (Cl.up (c_fewW (m := m) (d := d) h.1) (by omega)) ?_
      rintro _ _ ⟨x3, rfl, rfl, hp⟩
      refine ⟨fun _ h9 => (by cases h9), ?_⟩
      replace h := h.2 x3 hp
      show Ev _ 140 _ 29 [rA 1, (0, p), (9, 0)] [(0, x3)] _
      refine e_sti (la2 := [rA 1, (0, p), (0, x3)]) (show am_cd 140 29 = (3, 30, 2, 0, []) by decide +kernel) rfl ?_
      refine e_ldi (show am_cd 140 30 = (2, 31, 2, 0, []) by decide +kernel) rfl ?_
      refine e_ic (show am_cd 140 31 = (0, 33, 1, 6, []) by decide +kernel) ?_
      refine e_cmp5 (show am_cd 140 33 = (11, 36, 39, 5, []) by decide +kernel) (fun hc => ?_) (fun hc => ?_)
      · replace h := h.1 hc
        refine e_lda (v := 1) (show am_cd 140 39 = (2, 40, 0, 2, []) by decide +kernel) rfl ?_
        refine e_getr (a := 1) (r := 53) (show am_cd 140 40 = (18, 43, 1107, 2, [63]) by decide +kernel) (by decide +kernel) (by decide +kernel) rfl ?_
        refine e_ic (show am_cd 140 43 = (0, 44, 0, 1, []) by decide +kernel) ?_
        refine e_cV (z := 0) (a := 53) (as := [(0, 1)]) (rest := []) (show am_cd 140 44 = (40, 47, 102, 0, [258]) by decide +kernel) (by decide +kernel) rfl rfl (Nat.le_of_ble_eq_true rfl) rfl ?_
        refine Cl.mono (Cl.up (c_beg (d := d) h.1) (by omega)) ?_
        rintro _ _ ⟨rfl, rfl⟩
        refine ⟨fun _ h9 => (by cases h9), ?_⟩
        replace h := h.2
        show Ev _ 140 _ 47 [rA 1, (0, p), (0, x3)] [] _
        refine e_lda (v := 1) (show am_cd 140 47 = (2, 48, 0, 2, []) by decide +kernel) rfl ?_
        refine e_getr (a := 1) (r := 53) (show am_cd 140 48 = (18, 51, 1107, 2, [63]) by decide +kernel) (by decide +kernel) (by decide +kernel) rfl ?_
        refine e_ldi (show am_cd 140 51 = (2, 52, 1, 0, []) by decide +kernel) rfl ?_
        refine e_putf (a := 53) (show am_cd 140 52 = (19, 55, 1010, 0, [268]) by decide +kernel) (by decide +kernel) (by decide +kernel) rfl (fun h9 => absurd h9 (by decide)) (fun h9 => absurd h9 (by decide +kernel)) ?_
        refine e_lda (v := 1) (show am_cd 140 55 = (2, 56, 0, 2, []) by decide +kernel) rfl ?_
        refine e_getr (a := 1) (r := 48) (show am_cd 140 56 = (18, 59, 1106, 2, [54]) by decide +kernel) (by decide +kernel) (by decide +kernel) rfl ?_
        refine e_ic (show am_cd 140 59 = (0, 60, 0, 0, []) by decide +kernel) ?_
        refine e_putf (a := 48) (show am_cd 140 60 = (19, 63, 204, 0, [140]) by decide +kernel) (by decide +kernel) (by decide +kernel) rfl (fun h9 => absurd h9 (by decide)) (fun h9 => absurd h9 (by decide +kernel)) ?_
        refine e_lda (v := 1) (show am_cd 140 63 = (2, 64, 0, 2, []) by decide +kernel) rfl ?_
        refine e_getr (a := 1) (r := 53) (show am_cd 140 64 = (18, 67, 1107, 2, [63]) by decide +kernel) (by decide +kernel) (by decide +kernel) rfl ?_
        refine e_ic (show am_cd 140 67 = (0, 68, 0, 2, []) by decide +kernel) ?_
        refine e_ldi (show am_cd 140 68 = (2, 69, 2, 0, []) by decide +kernel) rfl ?_
        refine e_imul (show am_cd 140 69 = (5, 70, 2, 0, []) by decide +kernel) ?_
        refine e_cV (z := 0) (a := 53) (as := [(0, 2 * x3)]) (rest := []) (show am_cd 140 70 = (40, 73, 104, 0, [271]) by decide +kernel) (by decide +kernel) rfl rfl (Nat.le_of_ble_eq_true rfl) rfl ?_
        show Ev _ 104 _ 0 [rA 53, (0, 2 * x3)] [] _
        refine e_lda (v := 53) (show am_cd 104 0 = (2, 1, 0, 2, []) by decide +kernel) rfl ?_
        refine e_ldi (show am_cd 104 1 = (2, 2, 1, 0, []) by decide +kernel) rfl ?_
        refine e_ic (show am_cd 104 2 = (0, 3, 0, 0, []) by decide +kernel) ?_
        refine e_ic (show am_cd 104 3 = (0, 4, 0, 0, []) by decide +kernel) ?_
        refine e_ic (show am_cd 104 4 = (0, 5, 0, 0, []) by decide +kernel) ?_
        refine e_cV (z := 0) (a := 53) (as := [(0, 2 * x3), (0, 0), (0, 0), (0, 0)]) (rest := []) (show am_cd 104 5 = (40, 8, 106, 0, [58]) by decide +kernel) (by decide +kernel) rfl rfl (Nat.le_of_ble_eq_true rfl) rfl ?_
        obtain ⟨g4, h⟩ := h
        refine Cl.mono (Cl.up (hrT g4 _ _ _ _ _ _ h.1) (by omega)) ?_
        rintro _ _ ⟨w5, t6, rfl, rfl, hp⟩
        refine ⟨fun _ h9 => (by cases h9), ?_⟩
        replace h := h.2 w5 t6 hp
        show Ev _ 104 _ 8 [rA 53, (0, 2 * x3)] [] _
        refine e_retv (show am_cd 104 8 = (36, 9, 3, 0, []) by decide +kernel) (by decide +kernel) ⟨fun _ h9 => (by cases h9), ?_⟩
        show Ev _ 140 _ 73 [rA 1, (0, p), (0, x3)] [] _
        refine e_ldi (show am_cd 140 73 = (2, 74, 2, 0, []) by decide +kernel) rfl ?_
        exact e_reti (show am_cd 140 74 = (36, 75, 0, 0, []) by decide +kernel) (by decide +kernel) h
      · replace h := h.2 hc
        refine e_ic (show am_cd 140 36 = (0, 38, 1, -2, []) by decide +kernel) ?_
        exact e_reti (show am_cd 140 38 = (36, 39, 0, 0, []) by decide +kernel) (by decide +kernel) h
    · replace h := h.2 hc
      refine e_ic (show am_cd 140 15 = (0, 16, 0, -1, []) by decide +kernel) ?_
      exact e_reti (show am_cd 140 16 = (36, 17, 0, 0, []) by decide +kernel) (by decide +kernel) h

theorem g_cnev0 {d : Nat} {Q : Option aV → aS → Prop} {w : eW} {t : eT} {m : eW} {b : Nat × Nat} (h : ((LN w m ∧ RC w m ∧ WFp m ∧ WFr m) ∧ DynQ w t b m) ∧ (∀ w1 t2, (Lo w w1 ∧ DynQ w1 t2 b m ∧ w1 37 8 = 0) → Ev (d + 10) 141 Q 8 [rA 1, (0, 0), (0, 0)] [] (enc w1 t2))) : Cl (d + 10) 141 [rA 1] (enc w t) Q := by
  show Ev (d + 10) 141 Q 0 [rA 1, (9, 0), (9, 0)] [] (enc w t)
  refine e_lda (v := 1) (show am_cd 141 0 = (2, 1, 0, 2, []) by decide +kernel) rfl ?_
  refine e_cV (z := 0) (a := 1) (as := []) (rest := []) (show am_cd 141 1 = (40, 4, 138, 0, [255]) by decide +kernel) (by decide +kernel) rfl rfl (Nat.le_of_ble_eq_true rfl) rfl ?_
  refine Cl.mono (Cl.up (c_prep (m := m) (b := b) (d := d) h.1) (by omega)) ?_
  rintro _ _ ⟨w1, t2, rfl, rfl, hp⟩
  refine ⟨fun _ h9 => (by cases h9), ?_⟩
  replace h := h.2 w1 t2 hp
  show Ev _ 141 _ 4 [rA 1, (9, 0), (9, 0)] [] _
  refine e_ic (show am_cd 141 4 = (0, 5, 0, 0, []) by decide +kernel) ?_
  refine e_sti (la2 := [rA 1, (0, 0), (9, 0)]) (show am_cd 141 5 = (3, 6, 1, 0, []) by decide +kernel) rfl ?_
  refine e_ic (show am_cd 141 6 = (0, 7, 0, 0, []) by decide +kernel) ?_
  refine e_sti (la2 := [rA 1, (0, 0), (0, 0)]) (show am_cd 141 7 = (3, 8, 2, 0, []) by decide +kernel) rfl ?_
  exact h

theorem g_cnev1 {d : Nat} {Q : Option aV → aS → Prop} {w : eW} {t : eT} {bi p : Int} {m : eW} {b : Nat × Nat} (h : ((w32 (w 8 6) ≤ w32 p → Q (some (0, bi)) (enc w t)) ∧ (¬ (w32 (w 8 6) ≤ w32 p) → ((RgM w t (w 37 7).toNat ∧ MaC w m) ∧ (WFp m ∧ WFr m) ∧ (0 : Int) ≤ p ∧ (p : Int) < (nP m : Int)) ∧ (∀ x1, (x1 = ((fw m p.toNat : Nat) : Int)) → ((w32 x1 ≤ w32 6 → Ev (d + 10) 141 Q 8 [rA 1, (0, bi), (0, p + 1)] [] (enc w t)) ∧ (¬ (w32 x1 ≤ w32 6) → Ev (d + 10) 141 Q 8 [rA 1, (0, ior bi (ishl 1 p)), (0, p + 1)] [] (enc w t))))))) : Ev (d + 10) 141 Q 8 [rA 1, (0, bi), (0, p)] [] (enc w t) := by
  refine e_ldi (show am_cd 141 8 = (2, 9, 2, 0, []) by decide +kernel) rfl ?_
  refine e_lda (v := 1) (show am_cd 141 9 = (2, 10, 0, 2, []) by decide +kernel) rfl ?_
  refine e_getr (a := 1) (r := 8) (show am_cd 141 10 = (18, 13, 1101, 2, [19]) by decide +kernel) (by decide +kernel) (by decide +kernel) rfl ?_
  refine e_getf (a := 8) (tg := 0) (show am_cd 141 13 = (18, 16, 6, 0, [145]) by decide +kernel) (by decide +kernel) (by decide +kernel) rfl ?_
  refine e_cmp3 (show am_cd 141 16 = (11, 19, 44, 3, []) by decide +kernel) (fun hc => ?_) (fun hc => ?_)
  · replace h := h.1 hc
    refine e_ldi (show am_cd 141 44 = (2, 45, 1, 0, []) by decide +kernel) rfl ?_
    exact e_reti (show am_cd 141 45 = (36, 46, 0, 0, []) by decide +kernel) (by decide +kernel) h
  · replace h := h.2 hc
    refine e_lda (v := 1) (show am_cd 141 19 = (2, 20, 0, 2, []) by decide +kernel) rfl ?_
    refine e_getr (a := 1) (r := 37) (show am_cd 141 20 = (18, 23, 1104, 2, [40]) by decide +kernel) (by decide +kernel) (by decide +kernel) rfl ?_
    refine e_ldi (show am_cd 141 23 = (2, 24, 2, 0, []) by decide +kernel) rfl ?_
    refine e_cV (z := 0) (a := 37) (as := [(0, p)]) (rest := []) (show am_cd 141 24 = (40, 27, 38, 0, [265]) by decide +kernel) (by decide +kernel) rfl rfl (Nat.le_of_ble_eq_true rfl) rfl ?_
    refine Cl.mono (Cl.up (c_fewW (m := m) (d := d) h.1) (by omega)) ?_
    rintro _ _ ⟨x1, rfl, rfl, hp⟩
    refine ⟨fun _ h9 => (by cases h9), ?_⟩
    replace h := h.2 x1 hp
    show Ev _ 141 _ 27 [rA 1, (0, bi), (0, p)] [(0, x1)] _
    refine e_ic (show am_cd 141 27 = (0, 29, 1, 6, []) by decide +kernel) ?_
    refine e_cmp5 (show am_cd 141 29 = (11, 32, 38, 5, []) by decide +kernel) (fun hc => ?_) (fun hc => ?_)
    · replace h := h.1 hc
      refine e_inc (la2 := [rA 1, (0, bi), (0, p + 1)]) (show am_cd 141 38 = (4, 41, 2, 1, []) by decide +kernel) rfl rfl ?_
      refine e_go (show am_cd 141 41 = (12, 8, 0, 0, []) by decide +kernel) ?_
      exact h
    · replace h := h.2 hc
      refine e_ldi (show am_cd 141 32 = (2, 33, 1, 0, []) by decide +kernel) rfl ?_
      refine e_ic (show am_cd 141 33 = (0, 34, 0, 1, []) by decide +kernel) ?_
      refine e_ldi (show am_cd 141 34 = (2, 35, 2, 0, []) by decide +kernel) rfl ?_
      refine e_ishl (show am_cd 141 35 = (5, 36, 6, 0, []) by decide +kernel) ?_
      refine e_ior (show am_cd 141 36 = (5, 37, 4, 0, []) by decide +kernel) ?_
      refine e_sti (la2 := [rA 1, (0, ior bi (ishl 1 p)), (0, p)]) (show am_cd 141 37 = (3, 38, 1, 0, []) by decide +kernel) rfl ?_
      refine e_inc (la2 := [rA 1, (0, ior bi (ishl 1 p)), (0, p + 1)]) (show am_cd 141 38 = (4, 41, 2, 1, []) by decide +kernel) rfl rfl ?_
      refine e_go (show am_cd 141 41 = (12, 8, 0, 0, []) by decide +kernel) ?_
      exact h

