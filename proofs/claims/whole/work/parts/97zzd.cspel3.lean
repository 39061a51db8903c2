/-! The class: spells, reads, finds: regions. -/

theorem g_cspel {d : Nat} {Q : Option aV → aS → Prop} {w : eW} {t : eT} {tx : List Int} (h : (TC w tx ∧ w 2 6 = 0 ∧ (0 : Int) ≤ 6 ∧ (6 : Int) ≤ 6) ∧ (∀ x1 w2, (torP tx w (lsR tx (6 : Int).toNat) x1 w2) → ((w32 x1 = 0 → Q (some (1, w32 ((-21) - (w2 2 6)))) (enc (wu (wu w2 2 5 0) 2 6 0) t)) ∧ (¬ (w32 x1 = 0) → Cl (d + 104) 147 [rA 1, (0, 2), (0, 0)] (enc w2 t) (fun r S2 => (∀ x, r ≠ some (6, x)) ∧ Ev (d + 105) 144 Q 18 [rA 1, (9, 0), (9, 0)] (r.toList ++ []) S2))))) : Cl (d + 105) 144 [rA 1] (enc w t) Q := by
  show Ev (d + 105) 144 Q 0 [rA 1, (9, 0), (9, 0)] [] (enc w t)
  refine e_lda (v := 1) (show am_cd 144 0 = (2, 1, 0, 2, []) by decide +kernel) rfl ?_
  refine e_getr (a := 1) (r := 2) (show am_cd 144 1 = (18, 4, 1100, 2, [12]) by decide +kernel) (by decide +kernel) (by decide +kernel) rfl ?_
  refine e_ic (show am_cd 144 4 = (0, 6, 1, 6, []) by decide +kernel) ?_
  refine e_cV (z := 0) (a := 2) (as := [(0, 6)]) (rest := []) (show am_cd 144 6 = (40, 9, 87, 0, [198]) by decide +kernel) (by decide +kernel) rfl rfl (Nat.le_of_ble_eq_true rfl) rfl ?_
  refine Cl.mono (Cl.up (c_torU (d := d) h.1) (by omega)) ?_
  rintro _ _ ⟨x1, w2, rfl, rfl, hp⟩
  refine ⟨fun _ h9 => (by cases h9), ?_⟩
  replace h := h.2 x1 w2 hp
  show Ev _ 144 _ 9 [rA 1, (9, 0), (9, 0)] [(0, x1)] _
  refine e_if0 (show am_cd 144 9 = (10, 12, 21, 0, []) by decide +kernel) (fun hc => ?_) (fun hc => ?_)
  · replace h := h.1 hc
    refine e_lda (v := 1) (show am_cd 144 21 = (2, 22, 0, 2, []) by decide +kernel) rfl ?_
    refine e_cV (z := 0) (a := 1) (as := []) (rest := []) (show am_cd 144 22 = (40, 25, 126, 0, [124]) by decide +kernel) (by decide +kernel) rfl rfl (Nat.le_of_ble_eq_true rfl) rfl ?_
    show Ev _ 126 _ 0 [rA 1] [] _
    refine e_ic (show am_cd 126 0 = (0, 2, 1, -21, []) by decide +kernel) ?_
    refine e_lda (v := 1) (show am_cd 126 2 = (2, 3, 0, 2, []) by decide +kernel) rfl ?_
    refine e_getr (a := 1) (r := 2) (show am_cd 126 3 = (18, 6, 1100, 2, [12]) by decide +kernel) (by decide +kernel) (by decide +kernel) rfl ?_
    refine e_getf (a := 2) (tg := 0) (show am_cd 126 6 = (18, 9, 806, 0, [146]) by decide +kernel) (by decide +kernel) (by decide +kernel) rfl ?_
    refine e_isub (show am_cd 126 9 = (5, 10, 1, 0, []) by decide +kernel) ?_
    refine e_reti (show am_cd 126 10 = (36, 11, 0, 0, []) by decide +kernel) (by decide +kernel) ⟨fun _ h9 => (by cases h9), ?_⟩
    show Ev _ 144 _ 25 [rA 1, (9, 0), (9, 0)] [(0, (-21) - (w2 2 6))] _
    refine e_i2l (show am_cd 144 25 = (8, 26, 0, 0, []) by decide +kernel) ?_
    refine e_stl (la2 := [rA 1, (1, w32 ((-21) - (w2 2 6))), (9, 0)]) (show am_cd 144 26 = (3, 27, 1, 1, []) by decide +kernel) rfl ?_
    refine e_lda (v := 1) (show am_cd 144 27 = (2, 28, 0, 2, []) by decide +kernel) rfl ?_
    refine e_getr (a := 1) (r := 2) (show am_cd 144 28 = (18, 31, 1100, 2, [12]) by decide +kernel) (by decide +kernel) (by decide +kernel) rfl ?_
    refine e_cV (z := 0) (a := 2) (as := []) (rest := []) (show am_cd 144 31 = (40, 34, 79, 0, [117]) by decide +kernel) (by decide +kernel) rfl rfl (Nat.le_of_ble_eq_true rfl) rfl ?_
    show Ev _ 79 _ 0 [rA 2] [] _
    refine e_lda (v := 2) (show am_cd 79 0 = (2, 1, 0, 2, []) by decide +kernel) rfl ?_
    refine e_ic (show am_cd 79 1 = (0, 2, 0, 0, []) by decide +kernel) ?_
    refine e_putf (a := 2) (show am_cd 79 2 = (19, 5, 805, 0, [27]) by decide +kernel) (by decide +kernel) (by decide +kernel) rfl (fun h9 => absurd h9 (by decide)) (fun h9 => absurd h9 (by decide +kernel)) ?_
    refine e_lda (v := 2) (show am_cd 79 5 = (2, 6, 0, 2, []) by decide +kernel) rfl ?_
    refine e_ic (show am_cd 79 6 = (0, 7, 0, 0, []) by decide +kernel) ?_
    refine e_putf (a := 2) (show am_cd 79 7 = (19, 10, 806, 0, [31]) by decide +kernel) (by decide +kernel) (by decide +kernel) rfl (fun h9 => absurd h9 (by decide)) (fun h9 => absurd h9 (by decide +kernel)) ?_
    refine e_retv (show am_cd 79 10 = (36, 11, 3, 0, []) by decide +kernel) (by decide +kernel) ⟨fun _ h9 => (by cases h9), ?_⟩
    show Ev _ 144 _ 34 [rA 1, (1, w32 ((-21) - (w2 2 6))), (9, 0)] [] _
    refine e_ldl (show am_cd 144 34 = (2, 35, 1, 1, []) by decide +kernel) rfl ?_
    exact e_retl (show am_cd 144 35 = (36, 36, 1, 0, []) by decide +kernel) (by decide +kernel) h
  · replace h := h.2 hc
    refine e_lda (v := 1) (show am_cd 144 12 = (2, 13, 0, 2, []) by decide +kernel) rfl ?_
    refine e_ic (show am_cd 144 13 = (0, 14, 0, 2, []) by decide +kernel) ?_
    refine e_ic (show am_cd 144 14 = (0, 15, 0, 0, []) by decide +kernel) ?_
    refine e_cV (z := 0) (a := 1) (as := [(0, 2), (0, 0)]) (rest := []) (show am_cd 144 15 = (40, 18, 147, 0, [286]) by decide +kernel) (by decide +kernel) rfl rfl (Nat.le_of_ble_eq_true rfl) rfl ?_
    exact h

theorem g_cspelb {d : Nat} {Q : Option aV → aS → Prop} {w : eW} {t : eT} {y : Int} (h : Q (some (1, y)) (enc (wu (wu w 2 5 0) 2 6 0) t)) : Ev (d + 105) 144 Q 18 [rA 1, (9, 0), (9, 0)] [(1, y)] (enc w t) := by
  refine e_go (show am_cd 144 18 = (12, 26, 0, 0, []) by decide +kernel) ?_
  refine e_stl (la2 := [rA 1, (1, y), (9, 0)]) (show am_cd 144 26 = (3, 27, 1, 1, []) by decide +kernel) rfl ?_
  refine e_lda (v := 1) (show am_cd 144 27 = (2, 28, 0, 2, []) by decide +kernel) rfl ?_
  refine e_getr (a := 1) (r := 2) (show am_cd 144 28 = (18, 31, 1100, 2, [12]) by decide +kernel) (by decide +kernel) (by decide +kernel) rfl ?_
  refine e_cV (z := 0) (a := 2) (as := []) (rest := []) (show am_cd 144 31 = (40, 34, 79, 0, [117]) by decide +kernel) (by decide +kernel) rfl rfl (Nat.le_of_ble_eq_true rfl) rfl ?_
  show Ev _ 79 _ 0 [rA 2] [] _
  refine e_lda (v := 2) (show am_cd 79 0 = (2, 1, 0, 2, []) by decide +kernel) rfl ?_
  refine e_ic (show am_cd 79 1 = (0, 2, 0, 0, []) by decide +kernel) ?_
  refine e_putf (a := 2) (show am_cd 79 2 = (19, 5, 805, 0, [27]) by decide +kernel) (by decide +kernel) (by decide +kernel) rfl (fun h9 => absurd h9 (by decide)) (fun h9 => absurd h9 (by decide +kernel)) ?_
  refine e_lda (v := 2) (show am_cd 79 5 = (2, 6, 0, 2, []) by decide +kernel) rfl ?_
  refine e_ic (show am_cd 79 6 = (0, 7, 0, 0, []) by decide +kernel) ?_
  refine e_putf (a := 2) (show am_cd 79 7 = (19, 10, 806, 0, [31]) by decide +kernel) (by decide +kernel) (by decide +kernel) rfl (fun h9 => absurd h9 (by decide)) (fun h9 => absurd h9 (by decide +kernel)) ?_
  refine e_retv (show am_cd 79 10 = (36, 11, 3, 0, []) by decide +kernel) (by decide +kernel) ⟨fun _ h9 => (by cases h9), ?_⟩
  show Ev _ 144 _ 34 [rA 1, (1, y), (9, 0)] [] _
  refine e_ldl (show am_cd 144 34 = (2, 35, 1, 1, []) by decide +kernel) rfl ?_
  exact e_retl (show am_cd 144 35 = (36, 36, 1, 0, []) by decide +kernel) (by decide +kernel) h

theorem g_cread {d : Nat} {Q : Option aV → aS → Prop} {w : eW} {t : eT} {tx : List Int} (h : (TC w tx ∧ w 2 6 = 0 ∧ (0 : Int) ≤ 6 ∧ (6 : Int) ≤ 6) ∧ (∀ x1 w2, (torP tx w (lsR tx (6 : Int).toNat) x1 w2) → ((w32 x1 = 0 → Q (some (1, w32 ((-21) - (w2 2 6)))) (enc (wu (wu w2 2 5 0) 2 6 0) t)) ∧ (¬ (w32 x1 = 0) → Cl (d + 104) 147 [rA 1, (0, 3), (0, 0)] (enc w2 t) (fun r S2 => (∀ x, r ≠ some (6, x)) ∧ Ev (d + 105) 145 Q 18 [rA 1, (9, 0), (9, 0)] (r.toList ++ []) S2))))) : Cl (d + 105) 145 [rA 1] (enc w t) Q := by
  show Ev (d + 105) 145 Q 0 [rA 1, (9, 0), (9, 0)] [] (enc w t)
  refine e_lda (v := 1) (show am_cd 145 0 = (2, 1, 0, 2, []) by decide +kernel) rfl ?_
  refine e_getr (a := 1) (r := 2) (show am_cd 145 1 = (18, 4, 1100, 2, [12]) by decide +kernel) (by decide +kernel) (by decide +kernel) rfl ?_
  refine e_ic (show am_cd 145 4 = (0, 6, 1, 6, []) by decide +kernel) ?_
  refine e_cV (z := 0) (a := 2) (as := [(0, 6)]) (rest := []) (show am_cd 145 6 = (40, 9, 87, 0, [198]) by decide +kernel) (by decide +kernel) rfl rfl (Nat.le_of_ble_eq_true rfl) rfl ?_
  refine Cl.mono (Cl.up (c_torU (d := d) h.1) (by omega)) ?_
  rintro _ _ ⟨x1, w2, rfl, rfl, hp⟩
  refine ⟨fun _ h9 => (by cases h9), ?_⟩
  replace h := h.2 x1 w2 hp
  show Ev _ 145 _ 9 [rA 1, (9, 0), (9, 0)] [(0, x1)] _
  refine e_if0 (show am_cd 145 9 = (10, 12, 21, 0, []) by decide +kernel) (fun hc => ?_) (fun hc => ?_)
  · replace h := h.1 hc
    refine e_lda (v := 1) (show am_cd 145 21 = (2, 22, 0, 2, []) by decide +kernel) rfl ?_
    refine e_cV (z := 0) (a := 1) (as := []) (rest := []) (show am_cd 145 22 = (40, 25, 126, 0, [124]) by decide +kernel) (by decide +kernel) rfl rfl (Nat.le_of_ble_eq_true rfl) rfl ?_
    show Ev _ 126 _ 0 [rA 1] [] _
    refine e_ic (show am_cd 126 0 = (0, 2, 1, -21, []) by decide +kernel) ?_
    refine e_lda (v := 1) (show am_cd 126 2 = (2, 3, 0, 2, []) by decide +kernel) rfl ?_
    refine e_getr (a := 1) (r := 2) (show am_cd 126 3 = (18, 6, 1100, 2, [12]) by decide +kernel) (by decide +kernel) (by decide +kernel) rfl ?_
    refine e_getf (a := 2) (tg := 0) (show am_cd 126 6 = (18, 9, 806, 0, [146]) by decide +kernel) (by decide +kernel) (by decide +kernel) rfl ?_
    refine e_isub (show am_cd 126 9 = (5, 10, 1, 0, []) by decide +kernel) ?_
    refine e_reti (show am_cd 126 10 = (36, 11, 0, 0, []) by decide +kernel) (by decide +kernel) ⟨fun _ h9 => (by cases h9), ?_⟩
    show Ev _ 145 _ 25 [rA 1, (9, 0), (9, 0)] [(0, (-21) - (w2 2 6))] _
    refine e_i2l (show am_cd 145 25 = (8, 26, 0, 0, []) by decide +kernel) ?_
    refine e_stl (la2 := [rA 1, (1, w32 ((-21) - (w2 2 6))), (9, 0)]) (show am_cd 145 26 = (3, 27, 1, 1, []) by decide +kernel) rfl ?_
    refine e_lda (v := 1) (show am_cd 145 27 = (2, 28, 0, 2, []) by decide +kernel) rfl ?_
    refine e_getr (a := 1) (r := 2) (show am_cd 145 28 = (18, 31, 1100, 2, [12]) by decide +kernel) (by decide +kernel) (by decide +kernel) rfl ?_
    refine e_cV (z := 0) (a := 2) (as := []) (rest := []) (show am_cd 145 31 = (40, 34, 79, 0, [117]) by decide +kernel) (by decide +kernel) rfl rfl (Nat.le_of_ble_eq_true rfl) rfl ?_
    show Ev _ 79 _ 0 [rA 2] [] _
    refine e_lda (v := 2) (show am_cd 79 0 = (2, 1, 0, 2, []) by decide +kernel) rfl ?_
    refine e_ic (show am_cd 79 1 = (0, 2, 0, 0, []) by decide +kernel) ?_
    refine e_putf (a := 2) (show am_cd 79 2 = (19, 5, 805, 0, [27]) by decide +kernel) (by decide +kernel) (by decide +kernel) rfl (fun h9 => absurd h9 (by decide)) (fun h9 => absurd h9 (by decide +kernel)) ?_
    refine e_lda (v := 2) (show am_cd 79 5 = (2, 6, 0, 2, []) by decide +kernel) rfl ?_
    refine e_ic (show am_cd 79 6 = (0, 7, 0, 0, []) by decide +kernel) ?_
    refine e_putf (a := 2) (show am_cd 79 7 = (19, 10, 806, 0, [31]) by decide +kernel) (by decide +kernel) (by decide +kernel) rfl (fun h9 => absurd h9 (by decide)) (fun h9 => absurd h9 (by decide +kernel)) ?_
    refine e_retv (show am_cd 79 10 = (36, 11, 3, 0, []) by decide +kernel) (by decide +kernel) ⟨fun _ h9 => (by cases h9), ?_⟩
    show Ev _ 145 _ 34 [rA 1, (1, w32 ((-21) - (w2 2 6))), (9, 0)] [] _
    refine e_ldl (show am_cd 145 34 = (2, 35, 1, 1, []) by decide +kernel) rfl ?_
    exact e_retl (show am_cd 145 35 = (36, 36, 1, 0, []) by decide +kernel) (by decide +kernel) h
  · replace h := h.2 hc
    refine e_lda (v := 1) (show am_cd 145 12 = (2, 13, 0, 2, []) by decide +kernel) rfl ?_
    refine e_ic (show am_cd 145 13 = (0, 14, 0, 3, []) by decide +kernel) ?_
    refine e_ic (show am_cd 145 14 = (0, 15, 0, 0, []) by decide +kernel) ?_
    refine e_cV (z := 0) (a := 1) (as := [(0, 3), (0, 0)]) (rest := []) (show am_cd 145 15 = (40, 18, 147, 0, [286]) by decide +kernel) (by decide +kernel) rfl rfl (Nat.le_of_ble_eq_true rfl) rfl ?_
    exact h

theorem g_creadb {d : Nat} {Q : Option aV → aS → Prop} {w : eW} {t : eT} {y : Int} (h : Q (some (1, y)) (enc (wu (wu w 2 5 0) 2 6 0) t)) : Ev (d + 105) 145 Q 18 [rA 1, (9, 0), (9, 0)] [(1, y)] (enc w t) := by
  refine e_go (show am_cd 145 18 = (12, 26, 0, 0, []) by decide +kernel) ?_
  refine e_stl (la2 := [rA 1, (1, y), (9, 0)]) (show am_cd 145 26 = (3, 27, 1, 1, []) by decide +kernel) rfl ?_
  refine e_lda (v := 1) (show am_cd 145 27 = (2, 28, 0, 2, []) by decide +kernel) rfl ?_
  refine e_getr (a := 1) (r := 2) (show am_cd 145 28 = (18, 31, 1100, 2, [12]) by decide +kernel) (by decide +kernel) (by decide +kernel) rfl ?_
  refine e_cV (z := 0) (a := 2) (as := []) (rest := []) (show am_cd 145 31 = (40, 34, 79, 0, [117]) by decide +kernel) (by decide +kernel) rfl rfl (Nat.le_of_ble_eq_true rfl) rfl ?_
  show Ev _ 79 _ 0 [rA 2] [] _
  refine e_lda (v := 2) (show am_cd 79 0 = (2, 1, 0, 2, []) by decide +kernel) rfl ?_
  refine e_ic (show am_cd 79 1 = (0, 2, 0, 0, []) by decide +kernel) ?_
  refine e_putf (a := 2) (show am_cd 79 2 = (19, 5, 805, 0, [27]) by decide +kernel) (by decide +kernel) (by decide +kernel) rfl (fun h9 => absurd h9 (by decide)) (fun h9 => absurd h9 (by decide +kernel)) ?_
  refine e_lda (v := 2) (show am_cd 79 5 = (2, 6, 0, 2, []) by decide +kernel) rfl ?_
  refine e_ic (show am_cd 79 6 = (0, 7, 0, 0, []) by decide +kernel) ?_
  refine e_putf (a := 2) (show am_cd 79 7 = (19, 10, 806, 0, [31]) by decide +kernel) (by decide +kernel) (by decide +kernel) rfl (fun h9 => absurd h9 (by decide)) (fun h9 => absurd h9 (by decide +kernel)) ?_
  refine e_retv (show am_cd 79 10 = (36, 11, 3, 0, []) by decide +kernel) (by decide +kernel) ⟨fun _ h9 => (by cases h9), ?_⟩
  show Ev _ 145 _ 34 [rA 1, (1, y), (9, 0)] [] _
  refine e_ldl (show am_cd 145 34 = (2, 35, 1, 1, []) by decide +kernel) rfl ?_
  exact e_retl (show am_cd 145 35 = (36, 36, 1, 0, []) by decide +kernel) (by decide +kernel) h

theorem g_cfind {d : Nat} {Q : Option aV → aS → Prop} {w : eW} {t : eT} {tx : List Int} (h : (TC w tx ∧ w 2 6 = 0 ∧ (0 : Int) ≤ 6 ∧ (6 : Int) ≤ 6) ∧ (∀ x1 w2, (torP tx w (lsR tx (6 : Int).toNat) x1 w2) → ((w32 x1 = 0 → Q (some (1, w32 ((-21) - (w2 2 6)))) (enc (wu (wu w2 2 5 0) 2 6 0) t)) ∧ (¬ (w32 x1 = 0) → Cl (d + 104) 147 [rA 1, (0, 4), (0, 4704)] (enc w2 t) (fun r S2 => (∀ x, r ≠ some (6, x)) ∧ Ev (d + 105) 146 Q 20 [rA 1, (9, 0), (9, 0)] (r.toList ++ []) S2))))) : Cl (d + 105) 146 [rA 1] (enc w t) Q := by
  show Ev (d + 105) 146 Q 0 [rA 1, (9, 0), (9, 0)] [] (enc w t)
  refine e_lda (v := 1) (show am_cd 146 0 = (2, 1, 0, 2, []) by decide +kernel) rfl ?_
  refine e_getr (a := 1) (r := 2) (show am_cd 146 1 = (18, 4, 1100, 2, [12]) by decide +kernel) (by decide +kernel) (by decide +kernel) rfl ?_
  refine e_ic (show am_cd 146 4 = (0, 6, 1, 6, []) by decide +kernel) ?_
  refine e_cV (z := 0) (a := 2) (as := [(0, 6)]) (rest := []) (show am_cd 146 6 = (40, 9, 87, 0, [198]) by decide +kernel) (by decide +kernel) rfl rfl (Nat.le_of_ble_eq_true rfl) rfl ?_
  refine Cl.mono (Cl.up (c_torU (d := d) h.1) (by omega)) ?_
  rintro _ _ ⟨x1, w2, rfl, rfl, hp⟩
  refine ⟨fun _ h9 => (by cases h9), ?_⟩
  replace h := h.2 x1 w2 hp
  show Ev _ 146 _ 9 [rA 1, (9, 0), (9, 0)] [(0, x1)] _
  refine e_if0 (show am_cd 146 9 = (10, 12, 23, 0, []) by decide +kernel) (fun hc => ?_) (fun hc => ?_)
  · replace h := h.1 hc
    refine e_lda (v := 1) (show am_cd 146 23 = (2, 24, 0, 2, []) by decide +kernel) rfl ?_
    refine e_cV (z := 0) (a := 1) (as := []) (rest := []) (show am_cd 146 24 = (40, 27, 126, 0, [124]) by decide +kernel) (by decide +kernel) rfl rfl (Nat.le_of_ble_eq_true rfl) rfl ?_
    show Ev _ 126 _ 0 [rA 1] [] _
    refine e_ic (show am_cd 126 0 = (0, 2, 1, -21, []) by decide +kernel) ?_
    refine e_lda (v := 1) (show am_cd 126 2 = (2, 3, 0, 2, []) by decide +kernel) rfl ?_
    refine e_getr (a := 1) (r := 2) (show am_cd 126 3 = (18, 6, 1100, 2, [12]) by decide +kernel) (by decide +kernel) (by decide +kernel) rfl ?_
    refine e_getf (a := 2) (tg := 0) (show am_cd 126 6 = (18, 9, 806, 0, [146]) by decide +kernel) (by decide +kernel) (by decide +kernel) rfl ?_
    refine e_isub (show am_cd 126 9 = (5, 10, 1, 0, []) by decide +kernel) ?_
    refine e_reti (show am_cd 126 10 = (36, 11, 0, 0, []) by decide +kernel) (by decide +kernel) ⟨fun _ h9 => (by cases h9), ?_⟩
    show Ev _ 146 _ 27 [rA 1, (9, 0), (9, 0)] [(0, (-21) - (w2 2 6))] _
    refine e_i2l (show am_cd 146 27 = (8, 28, 0, 0, []) by decide +kernel) ?_
    refine e_stl (la2 := [rA 1, (1, w32 ((-21) - (w2 2 6))), (9, 0)]) (show am_cd 146 28 = (3, 29, 1, 1, []) by decide +kernel) rfl ?_
    refine e_lda (v := 1) (show am_cd 146 29 = (2, 30, 0, 2, []) by decide +kernel) rfl ?_
    refine e_getr (a := 1) (r := 2) (show am_cd 146 30 = (18, 33, 1100, 2, [12]) by decide +kernel) (by decide +kernel) (by decide +kernel) rfl ?_
    refine e_cV (z := 0) (a := 2) (as := []) (rest := []) (show am_cd 146 33 = (40, 36, 79, 0, [117]) by decide +kernel) (by decide +kernel) rfl rfl (Nat.le_of_ble_eq_true rfl) rfl ?_
    show Ev _ 79 _ 0 [rA 2] [] _
    refine e_lda (v := 2) (show am_cd 79 0 = (2, 1, 0, 2, []) by decide +kernel) rfl ?_
    refine e_ic (show am_cd 79 1 = (0, 2, 0, 0, []) by decide +kernel) ?_
    refine e_putf (a := 2) (show am_cd 79 2 = (19, 5, 805, 0, [27]) by decide +kernel) (by decide +kernel) (by decide +kernel) rfl (fun h9 => absurd h9 (by decide)) (fun h9 => absurd h9 (by decide +kernel)) ?_
    refine e_lda (v := 2) (show am_cd 79 5 = (2, 6, 0, 2, []) by decide +kernel) rfl ?_
    refine e_ic (show am_cd 79 6 = (0, 7, 0, 0, []) by decide +kernel) ?_
    refine e_putf (a := 2) (show am_cd 79 7 = (19, 10, 806, 0, [31]) by decide +kernel) (by decide +kernel) (by decide +kernel) rfl (fun h9 => absurd h9 (by decide)) (fun h9 => absurd h9 (by decide +kernel)) ?_
    refine e_retv (show am_cd 79 10 = (36, 11, 3, 0, []) by decide +kernel) (by decide +kernel) ⟨fun _ h9 => (by cases h9), ?_⟩
    show Ev _ 146 _ 36 [rA 1, (1, w32 ((-21) - (w2 2 6))), (9, 0)] [] _
    refine e_ldl (show am_cd 146 36 = (2, 37, 1, 1, []) by decide +kernel) rfl ?_
    exact e_retl (show am_cd 146 37 = (36, 38, 1, 0, []) by decide +kernel) (by decide +kernel) h
  · replace h := h.2 hc
    refine e_lda (v := 1) (show am_cd 146 12 = (2, 13, 0, 2, []) by decide +kernel) rfl ?_
    refine e_ic (show am_cd 146 13 = (0, 14, 0, 4, []) by decide +kernel) ?_
    refine e_ic (show am_cd 146 14 = (0, 17, 2, 4704, []) by decide +kernel) ?_
    refine e_cV (z := 0) (a := 1) (as := [(0, 4), (0, 4704)]) (rest := []) (show am_cd 146 17 = (40, 20, 147, 0, [286]) by decide +kernel) (by decide +kernel) rfl rfl (Nat.le_of_ble_eq_true rfl) rfl ?_
    exact h

theorem g_cfindb {d : Nat} {Q : Option aV → aS → Prop} {w : eW} {t : eT} {y : Int} (h : Q (some (1, y)) (enc (wu (wu w 2 5 0) 2 6 0) t)) : Ev (d + 105) 146 Q 20 [rA 1, (9, 0), (9, 0)] [(1, y)] (enc w t) := by
  refine e_go (show am_cd 146 20 = (12, 28, 0, 0, []) by decide +kernel) ?_
  refine e_stl (la2 := [rA 1, (1, y), (9, 0)]) (show am_cd 146 28 = (3, 29, 1, 1, []) by decide +kernel) rfl ?_
  refine e_lda (v := 1) (show am_cd 146 29 = (2, 30, 0, 2, []) by decide +kernel) rfl ?_
  refine e_getr (a := 1) (r := 2) (show am_cd 146 30 = (18, 33, 1100, 2, [12]) by decide +kernel) (by decide +kernel) (by decide +kernel) rfl ?_
  refine e_cV (z := 0) (a := 2) (as := []) (rest := []) (show am_cd 146 33 = (40, 36, 79, 0, [117]) by decide +kernel) (by decide +kernel) rfl rfl (Nat.le_of_ble_eq_true rfl) rfl ?_
  show Ev _ 79 _ 0 [rA 2] [] _
  refine e_lda (v := 2) (show am_cd 79 0 = (2, 1, 0, 2, []) by decide +kernel) rfl ?_
  refine e_ic (show am_cd 79 1 = (0, 2, 0, 0, []) by decide +kernel) ?_
  refine e_putf (a := 2) (show am_cd 79 2 = (19, 5, 805, 0, [27]) by decide +kernel) (by decide +kernel) (by decide +kernel) rfl (fun h9 => absurd h9 (by decide)) (fun h9 => absurd h9 (by decide +kernel)) ?_
  refine e_lda (v := 2) (show am_cd 79 5 = (2, 6, 0, 2, []) by decide +kernel) rfl ?_
  refine e_ic (show am_cd 79 6 = (0, 7, 0, 0, []) by decide +kernel) ?_
  refine e_putf (a := 2) (show am_cd 79 7 = (19, 10, 806, 0, [31]) by decide +kernel) (by decide +kernel) (by decide +kernel) rfl (fun h9 => absurd h9 (by decide)) (fun h9 => absurd h9 (by decide +kernel)) ?_
  refine e_retv (show am_cd 79 10 = (36, 11, 3, 0, []) by decide +kernel) (by decide +kernel) ⟨fun _ h9 => (by cases h9), ?_⟩
  show Ev _ 146 _ 36 [rA 1, (1, y), (9, 0)] [] _
  refine e_ldl (show am_cd 146 36 = (2, 37, 1, 1, []) by decide +kernel) rfl ?_
  exact e_retl (show am_cd 146 37 = (36, 38, 1, 0, []) by decide +kernel) (by decide +kernel) h

