/-! The model: the closest row is laid. -/
theorem g_laysC0 {d : Nat} {Q : Option aV → aS → Prop} {w : eW} {t : eT} (h : Ev (d + 20) 251 Q 20 [rA 67, (0, 0), (0, 0), (0, 16), (0, 16), (0, 16), (9, 0), (9, 0), (9, 0)] [] (enc (wu w 67 40 0) t)) : Cl (d + 20) 251 [rA 67] (enc w t) Q := by
  show Ev (d + 20) 251 Q 0 [rA 67, (9, 0), (9, 0), (9, 0), (9, 0), (9, 0), (9, 0), (9, 0), (9, 0)] [] (enc w t)
  refine e_ic (show am_cd 251 0 = (0, 1, 0, 0, []) by decide +kernel) ?_
  refine e_sti (la2 := [rA 67, (0, 0), (9, 0), (9, 0), (9, 0), (9, 0), (9, 0), (9, 0), (9, 0)]) (show am_cd 251 1 = (3, 2, 1, 0, []) by decide +kernel) rfl ?_
  refine e_ic (show am_cd 251 2 = (0, 3, 0, 0, []) by decide +kernel) ?_
  refine e_sti (la2 := [rA 67, (0, 0), (0, 0), (9, 0), (9, 0), (9, 0), (9, 0), (9, 0), (9, 0)]) (show am_cd 251 3 = (3, 4, 2, 0, []) by decide +kernel) rfl ?_
  refine e_ic (show am_cd 251 4 = (0, 6, 1, 16, []) by decide +kernel) ?_
  refine e_sti (la2 := [rA 67, (0, 0), (0, 0), (0, 16), (9, 0), (9, 0), (9, 0), (9, 0), (9, 0)]) (show am_cd 251 6 = (3, 7, 3, 0, []) by decide +kernel) rfl ?_
  refine e_ic (show am_cd 251 7 = (0, 9, 1, 16, []) by decide +kernel) ?_
  refine e_sti (la2 := [rA 67, (0, 0), (0, 0), (0, 16), (0, 16), (9, 0), (9, 0), (9, 0), (9, 0)]) (show am_cd 251 9 = (3, 11, 4, 0, []) by decide +kernel) rfl ?_
  refine e_ic (show am_cd 251 11 = (0, 13, 1, 16, []) by decide +kernel) ?_
  refine e_sti (la2 := [rA 67, (0, 0), (0, 0), (0, 16), (0, 16), (0, 16), (9, 0), (9, 0), (9, 0)]) (show am_cd 251 13 = (3, 15, 5, 0, []) by decide +kernel) rfl ?_
  refine e_lda (v := 67) (show am_cd 251 15 = (2, 16, 0, 2, []) by decide +kernel) rfl ?_
  refine e_ic (show am_cd 251 16 = (0, 17, 0, 0, []) by decide +kernel) ?_
  refine e_putf (a := 67) (show am_cd 251 17 = (19, 20, 1240, 0, [272]) by decide +kernel) (by decide +kernel) (by decide +kernel) rfl (fun h9 => absurd h9 (by decide)) (fun h9 => absurd h9 (by decide +kernel)) ?_
  exact h

theorem g_laysC1 {d : Nat} {Q : Option aV → aS → Prop} {w : eW} {t : eT} {i j a b c : Int} {m : eW} {lu ll : Nat → Int} {nu nl : Nat} {wo : Int} {J J2 J3 : aV} (hw : w32 wo = wo) (h : ((w32 i < w32 (w 67 47) → (LPR m lu nu ll nl 13 i j a b c w t) ∧ (∀ x1 w2 t3, (LPO m lu nu ll nl i j a b c w t x1 w2 t3) → Ev (d + 20) 251 Q 79 [rA 67, (0, i), (0, j), (0, a), (0, b), (0, c), (1, x1), (9, 0), (0, 0)] [] (enc w2 t3))) ∧ (¬ (w32 i < w32 (w 67 47)) → ((w32 j < w32 (w 67 48) → (LPR m lu nu ll nl 13 i j a b c w t) ∧ (∀ x4 w5 t6, (LPO m lu nu ll nl i j a b c w t x4 w5 t6) → Ev (d + 20) 251 Q 79 [rA 67, (0, i), (0, j), (0, a), (0, b), (0, c), (1, x4), (9, 0), (0, 0)] [] (enc w5 t6))) ∧ (¬ (w32 j < w32 (w 67 48)) → (MG w m ∧ w 67 35 = wo ∧ gE a ∧ gE b ∧ gC m c ∧ gE 16) ∧ (LPR m lu nu ll nl 13 i j a b c w t) ∧ (∀ x7 w8 t9, (LPO m lu nu ll nl i j a b c w t x7 w8 t9) → ((w64 (w32 ((brs m wo a.toNat b.toNat c.toNat 16 : Nat) : Int)) = w64 x7 → Q none (enc w8 t9)) ∧ (¬ (w64 (w32 ((brs m wo a.toNat b.toNat c.toNat 16 : Nat) : Int)) = w64 x7) → (LPR m lu nu ll nl 13 i j a b c w8 t9) ∧ (∀ x10 w11 t12, (LPO m lu nu ll nl i j a b c w8 t9 x10 w11 t12) → Ev (d + 20) 251 Q 79 [rA 67, (0, i), (0, j), (0, a), (0, b), (0, c), (1, x10), (9, 0), (0, 0)] [] (enc w11 t12)))))))))) : Ev (d + 20) 251 Q 20 [rA 67, (0, i), (0, j), (0, a), (0, b), (0, c), J, J2, J3] [] (enc w t) := by
  refine e_ldi (show am_cd 251 20 = (2, 21, 1, 0, []) by decide +kernel) rfl ?_
  refine e_lda (v := 67) (show am_cd 251 21 = (2, 22, 0, 2, []) by decide +kernel) rfl ?_
  refine e_getf (a := 67) (tg := 0) (show am_cd 251 22 = (18, 25, 1247, 0, [345]) by decide +kernel) (by decide +kernel) (by decide +kernel) rfl ?_
  refine e_cmp2 (show am_cd 251 25 = (11, 28, 63, 2, []) by decide +kernel) (fun hc => ?_) (fun hc => ?_)
  · replace h := h.1 hc
    refine e_lda (v := 67) (show am_cd 251 63 = (2, 64, 0, 2, []) by decide +kernel) rfl ?_
    refine e_ldi (show am_cd 251 64 = (2, 65, 1, 0, []) by decide +kernel) rfl ?_
    refine e_ldi (show am_cd 251 65 = (2, 66, 2, 0, []) by decide +kernel) rfl ?_
    refine e_ldi (show am_cd 251 66 = (2, 67, 3, 0, []) by decide +kernel) rfl ?_
    refine e_ldi (show am_cd 251 67 = (2, 69, 4, 0, []) by decide +kernel) rfl ?_
    refine e_ldi (show am_cd 251 69 = (2, 71, 5, 0, []) by decide +kernel) rfl ?_
    refine e_cV (z := 0) (a := 67) (as := [(0, i), (0, j), (0, a), (0, b), (0, c)]) (rest := []) (show am_cd 251 71 = (40, 74, 250, 0, [420]) by decide +kernel) (by decide +kernel) rfl rfl (Nat.le_of_ble_eq_true rfl) rfl ?_
    refine Cl.mono (Cl.up (c_leastB (d := d) 13 _ _ _ _ _ _ _ h.1) (by omega)) ?_
    rintro _ _ ⟨x1, w2, t3, rfl, rfl, hp⟩
    refine ⟨fun _ h9 => (by cases h9), ?_⟩
    replace h := h.2 x1 w2 t3 hp
    show Ev _ 251 _ 74 [rA 67, (0, i), (0, j), (0, a), (0, b), (0, c), J, J2, J3] [(1, x1)] _
    refine e_stl (la2 := [rA 67, (0, i), (0, j), (0, a), (0, b), (0, c), (1, x1), (9, 0), J3]) (show am_cd 251 74 = (3, 76, 6, 1, []) by decide +kernel) rfl ?_
    refine e_ic (show am_cd 251 76 = (0, 77, 0, 0, []) by decide +kernel) ?_
    refine e_sti (la2 := [rA 67, (0, i), (0, j), (0, a), (0, b), (0, c), (1, x1), (9, 0), (0, 0)]) (show am_cd 251 77 = (3, 79, 8, 0, []) by decide +kernel) rfl ?_
    exact h
  · replace h := h.2 hc
    refine e_ldi (show am_cd 251 28 = (2, 29, 2, 0, []) by decide +kernel) rfl ?_
    refine e_lda (v := 67) (show am_cd 251 29 = (2, 30, 0, 2, []) by decide +kernel) rfl ?_
    refine e_getf (a := 67) (tg := 0) (show am_cd 251 30 = (18, 33, 1248, 0, [348]) by decide +kernel) (by decide +kernel) (by decide +kernel) rfl ?_
    refine e_cmp2 (show am_cd 251 33 = (11, 36, 63, 2, []) by decide +kernel) (fun hc => ?_) (fun hc => ?_)
    · replace h := h.1 hc
      refine e_lda (v := 67) (show am_cd 251 63 = (2, 64, 0, 2, []) by decide +kernel) rfl ?_
      refine e_ldi (show am_cd 251 64 = (2, 65, 1, 0, []) by decide +kernel) rfl ?_
      refine e_ldi (show am_cd 251 65 = (2, 66, 2, 0, []) by decide +kernel) rfl ?_
      refine e_ldi (show am_cd 251 66 = (2, 67, 3, 0, []) by decide +kernel) rfl ?_
      refine e_ldi (show am_cd 251 67 = (2, 69, 4, 0, []) by decide +kernel) rfl ?_
      refine e_ldi (show am_cd 251 69 = (2, 71, 5, 0, []) by decide +kernel) rfl ?_
      refine e_cV (z := 0) (a := 67) (as := [(0, i), (0, j), (0, a), (0, b), (0, c)]) (rest := []) (show am_cd 251 71 = (40, 74, 250, 0, [420]) by decide +kernel) (by decide +kernel) rfl rfl (Nat.le_of_ble_eq_true rfl) rfl ?_
      refine Cl.mono (Cl.up (c_leastB (d := d) 13 _ _ _ _ _ _ _ h.1) (by omega)) ?_
      rintro _ _ ⟨x4, w5, t6, rfl, rfl, hp⟩
      refine ⟨fun _ h9 => (by cases h9), ?_⟩
      replace h := h.2 x4 w5 t6 hp
      show Ev _ 251 _ 74 [rA 67, (0, i), (0, j), (0, a), (0, b), (0, c), J, J2, J3] [(1, x4)] _
      refine e_stl (la2 := [rA 67, (0, i), (0, j), (0, a), (0, b), (0, c), (1, x4), (9, 0), J3]) (show am_cd 251 74 = (3, 76, 6, 1, []) by decide +kernel) rfl ?_
      refine e_ic (show am_cd 251 76 = (0, 77, 0, 0, []) by decide +kernel) ?_
      refine e_sti (la2 := [rA 67, (0, i), (0, j), (0, a), (0, b), (0, c), (1, x4), (9, 0), (0, 0)]) (show am_cd 251 77 = (3, 79, 8, 0, []) by decide +kernel) rfl ?_
      exact h
    · replace h := h.2 hc
      refine e_lda (v := 67) (show am_cd 251 36 = (2, 37, 0, 2, []) by decide +kernel) rfl ?_
      refine e_ldi (show am_cd 251 37 = (2, 38, 3, 0, []) by decide +kernel) rfl ?_
      refine e_ldi (show am_cd 251 38 = (2, 40, 4, 0, []) by decide +kernel) rfl ?_
      refine e_ldi (show am_cd 251 40 = (2, 42, 5, 0, []) by decide +kernel) rfl ?_
      refine e_ic (show am_cd 251 42 = (0, 44, 1, 16, []) by decide +kernel) ?_
      refine e_cV (z := 0) (a := 67) (as := [(0, a), (0, b), (0, c), (0, 16)]) (rest := []) (show am_cd 251 44 = (40, 47, 199, 0, [268]) by decide +kernel) (by decide +kernel) rfl rfl (Nat.le_of_ble_eq_true rfl) rfl ?_
      refine Cl.mono (Cl.up (c_broken (hw := hw) (d := d) h.1) (by omega)) ?_
      rintro _ _ ⟨rfl, rfl⟩
      refine ⟨fun _ h9 => (by cases h9), ?_⟩
      replace h := h.2
      show Ev _ 251 _ 47 [rA 67, (0, i), (0, j), (0, a), (0, b), (0, c), J, J2, J3] [(0, ((brs m wo a.toNat b.toNat c.toNat 16 : Nat) : Int))] _
      refine e_i2l (show am_cd 251 47 = (8, 48, 0, 0, []) by decide +kernel) ?_
      refine e_lda (v := 67) (show am_cd 251 48 = (2, 49, 0, 2, []) by decide +kernel) rfl ?_
      refine e_ldi (show am_cd 251 49 = (2, 50, 1, 0, []) by decide +kernel) rfl ?_
      refine e_ldi (show am_cd 251 50 = (2, 51, 2, 0, []) by decide +kernel) rfl ?_
      refine e_ldi (show am_cd 251 51 = (2, 52, 3, 0, []) by decide +kernel) rfl ?_
      refine e_ldi (show am_cd 251 52 = (2, 54, 4, 0, []) by decide +kernel) rfl ?_
      refine e_ldi (show am_cd 251 54 = (2, 56, 5, 0, []) by decide +kernel) rfl ?_
      refine e_cV (z := 0) (a := 67) (as := [(0, i), (0, j), (0, a), (0, b), (0, c)]) (rest := [(1, w32 ((brs m wo a.toNat b.toNat c.toNat 16 : Nat) : Int))]) (show am_cd 251 56 = (40, 59, 250, 0, [420]) by decide +kernel) (by decide +kernel) rfl rfl (Nat.le_of_ble_eq_true rfl) rfl ?_
      refine Cl.mono (Cl.up (c_leastB (d := d) 13 _ _ _ _ _ _ _ h.1) (by omega)) ?_
      rintro _ _ ⟨x7, w8, t9, rfl, rfl, hp⟩
      refine ⟨fun _ h9 => (by cases h9), ?_⟩
      replace h := h.2 x7 w8 t9 hp
      show Ev _ 251 _ 59 [rA 67, (0, i), (0, j), (0, a), (0, b), (0, c), J, J2, J3] [(1, x7), (1, w32 ((brs m wo a.toNat b.toNat c.toNat 16 : Nat) : Int))] _
      refine e_lcb0 (show am_cd 251 59 = (9, 60, 0, 0, []) by decide +kernel) (show am_cd 251 60 = (10, 63, 139, 0, []) by decide +kernel) (fun hc => ?_) (fun hc => ?_)
      · replace h := h.1 hc
        exact e_retv (show am_cd 251 139 = (36, 140, 3, 0, []) by decide +kernel) (by decide +kernel) h
      · replace h := h.2 hc
        refine e_lda (v := 67) (show am_cd 251 63 = (2, 64, 0, 2, []) by decide +kernel) rfl ?_
        refine e_ldi (show am_cd 251 64 = (2, 65, 1, 0, []) by decide +kernel) rfl ?_
        refine e_ldi (show am_cd 251 65 = (2, 66, 2, 0, []) by decide +kernel) rfl ?_
        refine e_ldi (show am_cd 251 66 = (2, 67, 3, 0, []) by decide +kernel) rfl ?_
        refine e_ldi (show am_cd 251 67 = (2, 69, 4, 0, []) by decide +kernel) rfl ?_
        refine e_ldi (show am_cd 251 69 = (2, 71, 5, 0, []) by decide +kernel) rfl ?_
        refine e_cV (z := 0) (a := 67) (as := [(0, i), (0, j), (0, a), (0, b), (0, c)]) (rest := []) (show am_cd 251 71 = (40, 74, 250, 0, [420]) by decide +kernel) (by decide +kernel) rfl rfl (Nat.le_of_ble_eq_true rfl) rfl ?_
        refine Cl.mono (Cl.up (c_leastB (d := d) 13 _ _ _ _ _ _ _ h.1) (by omega)) ?_
        rintro _ _ ⟨x10, w11, t12, rfl, rfl, hp⟩
        refine ⟨fun _ h9 => (by cases h9), ?_⟩
        replace h := h.2 x10 w11 t12 hp
        show Ev _ 251 _ 74 [rA 67, (0, i), (0, j), (0, a), (0, b), (0, c), J, J2, J3] [(1, x10)] _
        refine e_stl (la2 := [rA 67, (0, i), (0, j), (0, a), (0, b), (0, c), (1, x10), (9, 0), J3]) (show am_cd 251 74 = (3, 76, 6, 1, []) by decide +kernel) rfl ?_
        refine e_ic (show am_cd 251 76 = (0, 77, 0, 0, []) by decide +kernel) ?_
        refine e_sti (la2 := [rA 67, (0, i), (0, j), (0, a), (0, b), (0, c), (1, x10), (9, 0), (0, 0)]) (show am_cd 251 77 = (3, 79, 8, 0, []) by decide +kernel) rfl ?_
        exact h

theorem g_laysC2 {d : Nat} {Q : Option aV → aS → Prop} {w : eW} {t : eT} {i j a b c v p : Int} {m : eW} {lu ll : Nat → Int} {nu nl : Nat} {wo : Int} {J J2 J3 : aV} (hw : w32 wo = wo) (h : (LCx m lu nu ll nl w ∧ KnW (PmL m lu nu ll nl) w ∧ (0 ≤ i ∧ i ≤ nu) ∧ (0 ≤ j ∧ j ≤ nl) ∧ gABC m a b c ∧ gP m p ∧ (0 ≤ v ∧ v < 1000000)) ∧ (∀ w1, (FrT w w1 ∧ KnW (PmL m lu nu ll nl) w1) → (((decide ((clG m lu nu ll nl i.toNat j.toNat a.toNat b.toNat c.toNat p.toNat : Int) = v)) = true → (0 ≤ w32 (w1 67 40) ∧ w32 (w1 67 40) < 16) ∧ (MG (wu (wu w1 94 (w32 (w1 67 40)).toNat p) 67 40 ((w1 67 40) + 1)) m ∧ UpM (wu (wu w1 94 (w32 (w1 67 40)).toNat p) 67 40 ((w1 67 40) + 1)) lu nu ∧ (0 ≤ i ∧ i ≤ nu) ∧ gP m p) ∧ (MG (wu (wu w1 94 (w32 (w1 67 40)).toNat p) 67 40 ((w1 67 40) + 1)) m ∧ LoM (wu (wu w1 94 (w32 (w1 67 40)).toNat p) 67 40 ((w1 67 40) + 1)) ll nl ∧ (0 ≤ j ∧ j ≤ nl) ∧ gP m p) ∧ (Ev (d + 20) 251 Q 20 [rA 67, (0, oI (upT m lu nu i.toNat p.toNat)), (0, oI (loT m ll nl j.toNat p.toNat)), (0, b), (0, c), (0, p), (1, v), (9, 0), (0, p)] [] (enc (wu (wu w1 94 (w32 (w1 67 40)).toNat p) 67 40 ((w1 67 40) + 1)) t))) ∧ ((decide ((clG m lu nu ll nl i.toNat j.toNat a.toNat b.toNat c.toNat p.toNat : Int) = v)) = false → Ev (d + 20) 251 Q 79 [rA 67, (0, i), (0, j), (0, a), (0, b), (0, c), (1, v), (9, 0), (0, p + 1)] [] (enc w1 t))))) : Ev (d + 20) 251 Q 79 [rA 67, (0, i), (0, j), (0, a), (0, b), (0, c), (1, v), (9, 0), (0, p)] [] (enc w t) := by
  refine e_lda (v := 67) (show am_cd 251 79 = (2, 80, 0, 2, []) by decide +kernel) rfl ?_
  refine e_ldi (show am_cd 251 80 = (2, 81, 1, 0, []) by decide +kernel) rfl ?_
  refine e_ldi (show am_cd 251 81 = (2, 82, 2, 0, []) by decide +kernel) rfl ?_
  refine e_ldi (show am_cd 251 82 = (2, 83, 3, 0, []) by decide +kernel) rfl ?_
  refine e_ldi (show am_cd 251 83 = (2, 85, 4, 0, []) by decide +kernel) rfl ?_
  refine e_ldi (show am_cd 251 85 = (2, 87, 5, 0, []) by decide +kernel) rfl ?_
  refine e_ldi (show am_cd 251 87 = (2, 89, 8, 0, []) by decide +kernel) rfl ?_
  refine e_ldl (show am_cd 251 89 = (2, 91, 6, 1, []) by decide +kernel) rfl ?_
  refine e_cV (z := 0) (a := 67) (as := [(0, i), (0, j), (0, a), (0, b), (0, c), (0, p), (1, v)]) (rest := []) (show am_cd 251 91 = (40, 94, 252, 0, [430]) by decide +kernel) (by decide +kernel) rfl rfl (Nat.le_of_ble_eq_true rfl) rfl ?_
  refine Cl.mono (Cl.up (c_isClosest (d := d) h.1) (by omega)) ?_
  rintro _ _ ⟨w1, rfl, rfl, hp⟩
  refine ⟨fun _ h9 => (by cases h9), ?_⟩
  replace h := h.2 w1 hp
  show Ev _ 251 _ 94 [rA 67, (0, i), (0, j), (0, a), (0, b), (0, c), (1, v), (9, 0), (0, p)] [(0, bI (decide ((clG m lu nu ll nl i.toNat j.toNat a.toNat b.toNat c.toNat p.toNat : Int) = v)))] _
  refine e_ifb1 (show am_cd 251 94 = (10, 97, 103, 1, []) by decide +kernel) (fun hc => ?_) (fun hc => ?_)
  · replace h := h.1 hc
    refine e_lda (v := 67) (show am_cd 251 103 = (2, 104, 0, 2, []) by decide +kernel) rfl ?_
    refine e_ldi (show am_cd 251 104 = (2, 106, 8, 0, []) by decide +kernel) rfl ?_
    refine e_cV (z := 0) (a := 67) (as := [(0, p)]) (rest := []) (show am_cd 251 106 = (40, 109, 213, 0, [317]) by decide +kernel) (by decide +kernel) rfl rfl (Nat.le_of_ble_eq_true rfl) rfl ?_
    show Ev _ 213 _ 0 [rA 67, (0, p)] [] _
    refine e_lda (v := 67) (show am_cd 213 0 = (2, 1, 0, 2, []) by decide +kernel) rfl ?_
    refine e_getr (a := 67) (r := 94) (show am_cd 213 1 = (18, 4, 1239, 2, [95]) by decide +kernel) (by decide +kernel) (by decide +kernel) rfl ?_
    refine e_lda (v := 67) (show am_cd 213 4 = (2, 5, 0, 2, []) by decide +kernel) rfl ?_
    refine e_getf (a := 67) (tg := 0) (show am_cd 213 5 = (18, 8, 1240, 0, [272]) by decide +kernel) (by decide +kernel) (by decide +kernel) rfl ?_
    refine e_ldi (show am_cd 213 8 = (2, 9, 1, 0, []) by decide +kernel) rfl ?_
    refine e_iast (a := 94) (n := 16) (show am_cd 213 9 = (24, 10, 0, 0, []) by decide +kernel) (by decide +kernel) (by decide +kernel) (by decide +kernel) h.1 ?_
    replace h := h.2
    refine e_lda (v := 67) (show am_cd 213 10 = (2, 11, 0, 2, []) by decide +kernel) rfl ?_
    refine e_dup (show am_cd 213 11 = (13, 12, 0, 0, []) by decide +kernel) (by decide) ?_
    refine e_getfE (a := 67) (tg := 0) (v := w1 67 40) (show am_cd 213 12 = (18, 15, 1240, 0, [272]) by decide +kernel) (by decide +kernel) (by decide +kernel) rfl rfl ?_
    refine e_ic (show am_cd 213 15 = (0, 16, 0, 1, []) by decide +kernel) ?_
    refine e_iadd (show am_cd 213 16 = (5, 17, 0, 0, []) by decide +kernel) ?_
    refine e_putf (a := 67) (show am_cd 213 17 = (19, 20, 1240, 0, [272]) by decide +kernel) (by decide +kernel) (by decide +kernel) rfl (fun h9 => absurd h9 (by decide)) (fun h9 => absurd h9 (by decide +kernel)) ?_
    refine e_retv (show am_cd 213 20 = (36, 21, 3, 0, []) by decide +kernel) (by decide +kernel) ⟨fun _ h9 => (by cases h9), ?_⟩
    show Ev _ 251 _ 109 [rA 67, (0, i), (0, j), (0, a), (0, b), (0, c), (1, v), (9, 0), (0, p)] [] _
    refine e_lda (v := 67) (show am_cd 251 109 = (2, 110, 0, 2, []) by decide +kernel) rfl ?_
    refine e_ldi (show am_cd 251 110 = (2, 111, 1, 0, []) by decide +kernel) rfl ?_
    refine e_ldi (show am_cd 251 111 = (2, 113, 8, 0, []) by decide +kernel) rfl ?_
    refine e_cV (z := 0) (a := 67) (as := [(0, i), (0, p)]) (rest := []) (show am_cd 251 113 = (40, 116, 228, 0, [357]) by decide +kernel) (by decide +kernel) rfl rfl (Nat.le_of_ble_eq_true rfl) rfl ?_
    refine Cl.mono (Cl.up (c_upperThen (d := d) h.1) (by omega)) ?_
    rintro _ _ ⟨rfl, rfl⟩
    refine ⟨fun _ h9 => (by cases h9), ?_⟩
    replace h := h.2
    show Ev _ 251 _ 116 [rA 67, (0, i), (0, j), (0, a), (0, b), (0, c), (1, v), (9, 0), (0, p)] [(0, oI (upT m lu nu i.toNat p.toNat))] _
    refine e_sti (la2 := [rA 67, (0, oI (upT m lu nu i.toNat p.toNat)), (0, j), (0, a), (0, b), (0, c), (1, v), (9, 0), (0, p)]) (show am_cd 251 116 = (3, 117, 1, 0, []) by decide +kernel) rfl ?_
    refine e_lda (v := 67) (show am_cd 251 117 = (2, 118, 0, 2, []) by decide +kernel) rfl ?_
    refine e_ldi (show am_cd 251 118 = (2, 119, 2, 0, []) by decide +kernel) rfl ?_
    refine e_ldi (show am_cd 251 119 = (2, 121, 8, 0, []) by decide +kernel) rfl ?_
    refine e_cV (z := 0) (a := 67) (as := [(0, j), (0, p)]) (rest := []) (show am_cd 251 121 = (40, 124, 229, 0, [354]) by decide +kernel) (by decide +kernel) rfl rfl (Nat.le_of_ble_eq_true rfl) rfl ?_
    refine Cl.mono (Cl.up (c_lowerThen (d := d) h.1) (by omega)) ?_
    rintro _ _ ⟨rfl, rfl⟩
    refine ⟨fun _ h9 => (by cases h9), ?_⟩
    replace h := h.2
    show Ev _ 251 _ 124 [rA 67, (0, oI (upT m lu nu i.toNat p.toNat)), (0, j), (0, a), (0, b), (0, c), (1, v), (9, 0), (0, p)] [(0, oI (loT m ll nl j.toNat p.toNat))] _
    refine e_sti (la2 := [rA 67, (0, oI (upT m lu nu i.toNat p.toNat)), (0, oI (loT m ll nl j.toNat p.toNat)), (0, a), (0, b), (0, c), (1, v), (9, 0), (0, p)]) (show am_cd 251 124 = (3, 125, 2, 0, []) by decide +kernel) rfl ?_
    refine e_ldi (show am_cd 251 125 = (2, 127, 4, 0, []) by decide +kernel) rfl ?_
    refine e_sti (la2 := [rA 67, (0, oI (upT m lu nu i.toNat p.toNat)), (0, oI (loT m ll nl j.toNat p.toNat)), (0, b), (0, b), (0, c), (1, v), (9, 0), (0, p)]) (show am_cd 251 127 = (3, 128, 3, 0, []) by decide +kernel) rfl ?_
    refine e_ldi (show am_cd 251 128 = (2, 130, 5, 0, []) by decide +kernel) rfl ?_
    refine e_sti (la2 := [rA 67, (0, oI (upT m lu nu i.toNat p.toNat)), (0, oI (loT m ll nl j.toNat p.toNat)), (0, b), (0, c), (0, c), (1, v), (9, 0), (0, p)]) (show am_cd 251 130 = (3, 132, 4, 0, []) by decide +kernel) rfl ?_
    refine e_ldi (show am_cd 251 132 = (2, 134, 8, 0, []) by decide +kernel) rfl ?_
    refine e_sti (la2 := [rA 67, (0, oI (upT m lu nu i.toNat p.toNat)), (0, oI (loT m ll nl j.toNat p.toNat)), (0, b), (0, c), (0, p), (1, v), (9, 0), (0, p)]) (show am_cd 251 134 = (3, 136, 5, 0, []) by decide +kernel) rfl ?_
    refine e_go (show am_cd 251 136 = (12, 20, 0, 0, []) by decide +kernel) ?_
    exact h
  · replace h := h.2 hc
    refine e_inc (la2 := [rA 67, (0, i), (0, j), (0, a), (0, b), (0, c), (1, v), (9, 0), (0, p + 1)]) (show am_cd 251 97 = (4, 100, 8, 1, []) by decide +kernel) rfl rfl ?_
    refine e_go (show am_cd 251 100 = (12, 79, 0, 0, []) by decide +kernel) ?_
    exact h

theorem cl_ge0 {m : eW} {lu ll : Nat → Int} {nu nl i j a b c : Nat} : 0 ≤ (cl m lu nu ll nl i j a b c : Int) := Int.natCast_nonneg _
theorem c_laysC {d : Nat} {m : eW} {lu ll : Nat → Int} {nu nl : Nat} {w : eW} {t : eT} (h : LCx m lu nu ll nl w ∧ KnW (PmL m lu nu ll nl) w ∧ cl m lu nu ll nl 0 0 16 16 16 < 1000000) : Cl (d + 20) 251 [rA 67] (enc w t) (fun r S2 => ∃ w2, r = none ∧ S2 = enc w2 t ∧ Fm [92, 93, 94] [38, 40] w w2 ∧ KnW (PmL m lu nu ll nl) w2 ∧ MdM w2 (pth m lu nu ll nl 13 0 0 16 16 16)) := by
  obtain ⟨hX, hK, hc0⟩ := h
  have hnu := hX.2.2.1.2.1
  have hnl := hX.2.2.2.2.1
  have hp := hX.1.1
  have hpn := hp.n
  have hrn := hX.1.2.1.n
  have main : ∀ (f i j a b c : Nat) (ml : List Nat) (w1 : eW) (J J2 J3 : aV), i ≤ nu → j ≤ nl → a ≤ 16 → b ≤ 16 → (c < nP m ∨ c = 16) → (nu - i) + (nl - j) < f → ml.length + (nu - i) + (nl - j) ≤ 12 → cl m lu nu ll nl i j a b c < 1000000 → Fm [92, 93, 94] [38, 40] w w1 → KnW (PmL m lu nu ll nl) w1 → MdM w1 ml → (∀ w2, Fm [92, 93, 94] [38, 40] w w2 → KnW (PmL m lu nu ll nl) w2 → MdM w2 (ml ++ pth m lu nu ll nl f i j a b c) → MdM w2 (pth m lu nu ll nl 13 0 0 16 16 16)) → Ev (d + 20) 251 (fun r S2 => ∃ w2, r = none ∧ S2 = enc w2 t ∧ Fm [92, 93, 94] [38, 40] w w2 ∧ KnW (PmL m lu nu ll nl) w2 ∧ MdM w2 (pth m lu nu ll nl 13 0 0 16 16 16)) 20 [rA 67, (0, (i : Int)), (0, (j : Int)), (0, (a : Int)), (0, (b : Int)), (0, (c : Int)), J, J2, J3] [] (enc w1 t) := by
    intro f
    induction f with
    | zero => intro i j a b c ml w1 J J2 J3 _ _ _ _ _ h9; omega
    | succ f ih =>
      intro i j a b c ml w1 J J2 J3 hi hj ha hb hc hf hml hcl q1 q2 q3 hfin
      have hX1 := hX.m q1 (by decide) (by decide)
      have hgabc : gABC m (a : Int) (b : Int) (c : Int) := ⟨⟨by omega, by omega⟩, ⟨by omega, by omega⟩, ⟨by omega, by omega⟩⟩
      have hle := cl_le (m := m) hrn.2 (lu := lu) (nu := nu) (ll := ll) (nl := nl) (i := i) (j := j) (a := a) (b := b) (c := c)
      have hpre : ∀ w9 : eW, Fm [92, 93, 94] [38, 40] w w9 → KnW (PmL m lu nu ll nl) w9 → LPR m lu nu ll nl 13 (i : Int) (j : Int) (a : Int) (b : Int) (c : Int) w9 t := fun w9 h1 h2 => ⟨hX.m h1 (by decide) (by decide), h2, ⟨by omega, by omega⟩, ⟨by omega, by omega⟩, hgabc, by rw [Int.toNat_natCast, Int.toNat_natCast]; omega⟩
      have body : ¬ (i = nu ∧ j = nl) → ∀ (x : Int) (w2 : eW) (t2 : eT) (w9 : eW), Fm [92, 93, 94] [38, 40] w w9 → MdM w9 ml → LPO m lu nu ll nl (i : Int) (j : Int) (a : Int) (b : Int) (c : Int) w9 t x w2 t2 → Ev (d + 20) 251 (fun r S2 => ∃ w2, r = none ∧ S2 = enc w2 t ∧ Fm [92, 93, 94] [38, 40] w w2 ∧ KnW (PmL m lu nu ll nl) w2 ∧ MdM w2 (pth m lu nu ll nl 13 0 0 16 16 16)) 79 [rA 67, (0, (i : Int)), (0, (j : Int)), (0, (a : Int)), (0, (b : Int)), (0, (c : Int)), (1, x), (9, 0), (0, 0)] [] (enc w2 t2) := by
        intro hne x w2 t2 w9 hf9 hm9 hpo
        obtain ⟨p1, p2, p3, p4⟩ := hpo
        subst p2
        simp only [Int.toNat_natCast] at p1
        subst p1
        have q1b : Fm [92, 93, 94] [38, 40] w w2 := hf9.tr (p3.m.mo (by decide) (by decide))
        have q3b : MdM w2 ml := hm9.fr (p3.2 40 (by decide)) (p3.1 94 (by decide) (by decide) (by decide))
        obtain ⟨r1, r2, r3, u, l, r4, r5, r6⟩ := frs_ok hp (lu := lu) (ll := ll) (a := a) (b := b) (c := c) hnu hnl hi hj hne hcl
        have hdn := both_down hp r1 hi hj r4 r5
        have step : ∀ (p : Nat) (w3 : eW), p ≤ frs m lu nu ll nl i j a b c → Fm [92, 93, 94] [38, 40] w w3 → KnW (PmL m lu nu ll nl) w3 → MdM w3 ml → Ev (d + 20) 251 (fun r S2 => ∃ w2, r = none ∧ S2 = enc w2 t2 ∧ Fm [92, 93, 94] [38, 40] w w2 ∧ KnW (PmL m lu nu ll nl) w2 ∧ MdM w2 (pth m lu nu ll nl 13 0 0 16 16 16)) 79 [rA 67, (0, (i : Int)), (0, (j : Int)), (0, (a : Int)), (0, (b : Int)), (0, (c : Int)), (1, (cl m lu nu ll nl i j a b c : Int)), (9, 0), (0, (p : Int))] [] (enc w3 t2) := by
          intro p w3 hp0
          have := lp0 (fun p => ∀ w3, Fm [92, 93, 94] [38, 40] w w3 → KnW (PmL m lu nu ll nl) w3 → MdM w3 ml → Ev (d + 20) 251 (fun r S2 => ∃ w2, r = none ∧ S2 = enc w2 t2 ∧ Fm [92, 93, 94] [38, 40] w w2 ∧ KnW (PmL m lu nu ll nl) w2 ∧ MdM w2 (pth m lu nu ll nl 13 0 0 16 16 16)) 79 [rA 67, (0, (i : Int)), (0, (j : Int)), (0, (a : Int)), (0, (b : Int)), (0, (c : Int)), (1, (cl m lu nu ll nl i j a b c : Int)), (9, 0), (0, (p : Int))] [] (enc w3 t2)) (frs m lu nu ll nl i j a b c) ?_ ?_ p hp0 w3
          · exact this
          · intro p hpl hE w4 z1 z2 z3
            refine g_laysC2 (m := m) (lu := lu) (ll := ll) (nu := nu) (nl := nl) (J := (9, 0)) (J2 := (9, 0)) (J3 := (9, 0)) hm1 ?_
            simp only [Int.toNat_natCast]
            refine ⟨⟨hX.m z1 (by decide) (by decide), z2, ⟨by omega, by omega⟩, ⟨by omega, by omega⟩, hgabc, ⟨by omega, by omega⟩, ⟨cl_ge0, by omega⟩⟩, fun w5 h5 => ⟨fun h6 => absurd (of_decide_eq_true h6) (fun h9 => r3 p hpl (by omega)), fun h6 => ?_⟩⟩
            exact hE w5 (z1.tr (h5.1.m.mo (by decide) (by decide))) h5.2 (z3.fr (h5.1.2 40 (by decide)) (h5.1.1 94 (by decide) (by decide) (by decide)))
          · intro w4 z1 z2 z3
            refine g_laysC2 (m := m) (lu := lu) (ll := ll) (nu := nu) (nl := nl) (J := (9, 0)) (J2 := (9, 0)) (J3 := (9, 0)) hm1 ?_
            simp only [Int.toNat_natCast]
            refine ⟨⟨hX.m z1 (by decide) (by decide), z2, ⟨by omega, by omega⟩, ⟨by omega, by omega⟩, hgabc, ⟨by omega, by omega⟩, ⟨cl_ge0, by omega⟩⟩, fun w5 h5 => ⟨fun h6 => ?_, fun h6 => absurd (congrArg (fun z : Nat => (z : Int)) r2) (of_decide_eq_false h6)⟩⟩
            have z1b : Fm [92, 93, 94] [38, 40] w w5 := z1.tr (h5.1.m.mo (by decide) (by decide))
            have z3b : MdM w5 ml := z3.fr (h5.1.2 40 (by decide)) (h5.1.1 94 (by decide) (by decide) (by decide))
            rw [z3b.1, r4, r5]
            simp (disch := omega) only [w32_id, Int.toNat_natCast, oI_s]
            have hlay : Fm [92, 93, 94] [38, 40] w (wu (wu w5 94 ml.length ((frs m lu nu ll nl i j a b c : Nat) : Int)) 67 40 ((ml.length : Int) + 1)) := z1b.tr ((Fm.pr (by decide) (by decide)).tr (Fm.pf (by decide)))
            have hX6 := hX.m hlay (by decide) (by decide)
            refine ⟨by omega, ⟨hX6.1, hX6.2.2.1, ⟨by omega, by omega⟩, ⟨by omega, by omega⟩⟩, ⟨hX6.1, hX6.2.2.2, ⟨by omega, by omega⟩, ⟨by omega, by omega⟩⟩, ?_⟩
            refine ih u l b c (frs m lu nu ll nl i j a b c) (ml ++ [frs m lu nu ll nl i j a b c]) _ _ _ _ hdn.2.1 hdn.2.2 hb (by omega) (Or.inl r1) (by omega) (by rw [List.length_append, List.length_singleton]; omega) r6 hlay h5.2.lay (z3b.lay (by omega)) (fun w7 y1 y2 y3 => hfin w7 y1 y2 ?_)
            rw [pth, if_neg hne, r4, r5, Option.getD_some, Option.getD_some]
            rw [List.append_assoc] at y3
            exact y3
        exact step 0 w2 (Nat.zero_le _) q1b p4 q3b
      refine g_laysC1 (m := m) (lu := lu) (ll := ll) (nu := nu) (nl := nl) hm1 ?_
      rw [hX1.2.2.1.1, hX1.2.2.2.1]
      have hbl := brs_le m (-1) a b c 16
      simp (disch := omega) only [w32_id, Int.toNat_natCast]
      refine ⟨fun h1 => ⟨hpre w1 q1 q2, fun x w2 t2 hpo => body (by omega) x w2 t2 w1 q1 q3 hpo⟩, fun h1 => ⟨fun h2 => ⟨hpre w1 q1 q2, fun x w2 t2 hpo => body (by omega) x w2 t2 w1 q1 q3 hpo⟩, fun h2 => ⟨⟨hX1.1, hX1.2.1, hgabc.1, hgabc.2.1, hgabc.2.2, gE16⟩, hpre w1 q1 q2, fun x w2 t2 hpo => ?_⟩⟩⟩
      obtain ⟨p1, p2, p3, p4⟩ := hpo
      subst p2
      simp only [Int.toNat_natCast] at p1
      have ei : i = nu := by omega
      have ej : j = nl := by omega
      subst ei ej
      rw [cl_end hp hrn.2 hnu hnl] at p1
      rw [p1]
      refine ⟨fun _ => ⟨w2, by trivial, rfl, q1.tr (p3.m.mo (by decide) (by decide)), p4, hfin w2 (q1.tr (p3.m.mo (by decide) (by decide))) p4 ?_⟩, fun h9 => absurd rfl h9⟩
      rw [pth, if_pos ⟨rfl, rfl⟩, List.append_nil]
      exact q3.fr (p3.2 40 (by decide)) (p3.1 94 (by decide) (by decide) (by decide))
  refine g_laysC0 ?_
  have q0 : Fm [92, 93, 94] [38, 40] w (wu w 67 40 0) := Fm.pf (by decide)
  exact main 13 0 0 16 16 16 [] (wu w 67 40 0) (9, 0) (9, 0) (9, 0) (Nat.zero_le _) (Nat.zero_le _) (by decide) (by decide) (Or.inr rfl) (by omega) (by simp only [List.length_nil]; omega) hc0 q0 (hK.fld (by decide)) (MdM.nil (wu_eq _ _ _ _)) (fun w2 _ _ h3 => h3)

