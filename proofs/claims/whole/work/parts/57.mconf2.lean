/-! The model: conflict, conflicts (calls). -/
theorem g_conflict {d : Nat} {Q : Option aV → aS → Prop} {w : eW} {t : eT} {a b : Int} {m : eW} {ks : kT} {ml : List Nat} (h : (((decide (w64 0 ≤ w64 (w32 a) ∧ w64 (w32 a) ≤ w64 (w32 ((w 67 6) - 1)))) = false → Q (some (0, (-1))) (enc (wu w 67 26 0) t)) ∧ ((decide (w64 0 ≤ w64 (w32 a) ∧ w64 (w32 a) ≤ w64 (w32 ((w 67 6) - 1)))) = true → (((decide (w64 0 ≤ w64 (w32 b) ∧ w64 (w32 b) ≤ w64 (w32 ((w 67 6) - 1)))) = false → Q (some (0, (-1))) (enc (wu w 67 26 0) t)) ∧ ((decide (w64 0 ≤ w64 (w32 b) ∧ w64 (w32 b) ≤ w64 (w32 ((w 67 6) - 1)))) = true → ((¬ w32 a = w32 b → (MG (wu w 67 26 0) m ∧ gR m a ∧ gR m b) ∧ (∀ w1, (Fm [94] [40, 46] (wu w 67 26 0) w1 ∧ (fcN m a.toNat b.toNat ≠ 5 → MdM w1 (fcR m a.toNat b.toNat) ∧ w1 67 46 = clI m a.toNat b.toNat (fcR m a.toNat b.toNat))) → ((0 ≤ w32 (fcI m a.toNat b.toNat) → (KM (wu w1 67 17 0) ks ∧ MdM (wu w1 67 17 0) ml) ∧ (∀ w2, (FrK (wu w1 67 17 0) w2 ∧ KM w2 ((ks ++ [(ml, [])]).take 20)) → Q (some (0, fcI m a.toNat b.toNat)) (enc (wu (wu (wu w2 67 25 0) 86 0 (w32 (w2 67 46))) 67 25 1) t))) ∧ (¬ (0 ≤ w32 (fcI m a.toNat b.toNat)) → Q (some (0, fcI m a.toNat b.toNat)) (enc w1 t))))) ∧ (¬ (¬ w32 a = w32 b) → Q (some (0, (-1))) (enc (wu w 67 26 0) t)))))))) : Cl (d + 11) 226 [rA 67, (0, a), (0, b)] (enc w t) Q := by
  show Ev (d + 11) 226 Q 0 [rA 67, (0, a), (0, b), (9, 0)] [] (enc w t)
  refine e_lda (v := 67) (show am_cd 226 0 = (2, 1, 0, 2, []) by decide +kernel) rfl ?_
  refine e_ic (show am_cd 226 1 = (0, 2, 0, 0, []) by decide +kernel) ?_
  refine e_putf (a := 67) (show am_cd 226 2 = (19, 5, 1226, 0, [113]) by decide +kernel) (by decide +kernel) (by decide +kernel) rfl (fun h9 => absurd h9 (by decide)) (fun h9 => absurd h9 (by decide +kernel)) ?_
  refine e_ldi (show am_cd 226 5 = (2, 6, 1, 0, []) by decide +kernel) rfl ?_
  refine e_i2l (show am_cd 226 6 = (8, 7, 0, 0, []) by decide +kernel) ?_
  refine e_lc (show am_cd 226 7 = (1, 8, 0, 0, []) by decide +kernel) ?_
  refine e_lda (v := 67) (show am_cd 226 8 = (2, 9, 0, 2, []) by decide +kernel) rfl ?_
  refine e_getfE (a := 67) (tg := 0) (v := w 67 6) (show am_cd 226 9 = (18, 12, 1206, 0, [183]) by decide +kernel) (by decide +kernel) (by decide +kernel) rfl rfl ?_
  refine e_ic (show am_cd 226 12 = (0, 13, 0, 1, []) by decide +kernel) ?_
  refine e_isub (show am_cd 226 13 = (5, 14, 1, 0, []) by decide +kernel) ?_
  refine e_i2l (show am_cd 226 14 = (8, 15, 0, 0, []) by decide +kernel) ?_
  refine e_cS (z := 0) (as := [(1, w32 a), (1, 0), (1, w32 ((w 67 6) - 1))]) (rest := []) (show am_cd 226 15 = (40, 18, 165, 1, [122]) by decide +kernel) (by decide) rfl rfl (Nat.le_of_ble_eq_true rfl) rfl ?_
  refine Cl.mono (Cl.up (c_in (d := d)) (by omega)) ?_
  rintro _ _ ⟨rfl, rfl⟩
  refine ⟨fun _ h9 => (by cases h9), ?_⟩
  show Ev _ 226 _ 18 [rA 67, (0, a), (0, b), (9, 0)] [(0, bI (decide (w64 0 ≤ w64 (w32 a) ∧ w64 (w32 a) ≤ w64 (w32 ((w 67 6) - 1)))))] _
  refine e_ifb0 (show am_cd 226 18 = (10, 21, 42, 0, []) by decide +kernel) (fun hc => ?_) (fun hc => ?_)
  · replace h := h.1 hc
    refine e_ic (show am_cd 226 42 = (0, 43, 0, -1, []) by decide +kernel) ?_
    exact e_reti (show am_cd 226 43 = (36, 44, 0, 0, []) by decide +kernel) (by decide +kernel) h
  · replace h := h.2 hc
    refine e_ldi (show am_cd 226 21 = (2, 22, 2, 0, []) by decide +kernel) rfl ?_
    refine e_i2l (show am_cd 226 22 = (8, 23, 0, 0, []) by decide +kernel) ?_
    refine e_lc (show am_cd 226 23 = (1, 24, 0, 0, []) by decide +kernel) ?_
    refine e_lda (v := 67) (show am_cd 226 24 = (2, 25, 0, 2, []) by decide +kernel) rfl ?_
    refine e_getfE (a := 67) (tg := 0) (v := w 67 6) (show am_cd 226 25 = (18, 28, 1206, 0, [183]) by decide +kernel) (by decide +kernel) (by decide +kernel) rfl rfl ?_
    refine e_ic (show am_cd 226 28 = (0, 29, 0, 1, []) by decide +kernel) ?_
    refine e_isub (show am_cd 226 29 = (5, 30, 1, 0, []) by decide +kernel) ?_
    refine e_i2l (show am_cd 226 30 = (8, 31, 0, 0, []) by decide +kernel) ?_
    refine e_cS (z := 0) (as := [(1, w32 b), (1, 0), (1, w32 ((w 67 6) - 1))]) (rest := []) (show am_cd 226 31 = (40, 34, 165, 1, [122]) by decide +kernel) (by decide) rfl rfl (Nat.le_of_ble_eq_true rfl) rfl ?_
    refine Cl.mono (Cl.up (c_in (d := d)) (by omega)) ?_
    rintro _ _ ⟨rfl, rfl⟩
    refine ⟨fun _ h9 => (by cases h9), ?_⟩
    show Ev _ 226 _ 34 [rA 67, (0, a), (0, b), (9, 0)] [(0, bI (decide (w64 0 ≤ w64 (w32 b) ∧ w64 (w32 b) ≤ w64 (w32 ((w 67 6) - 1)))))] _
    refine e_ifb0 (show am_cd 226 34 = (10, 37, 42, 0, []) by decide +kernel) (fun hc => ?_) (fun hc => ?_)
    · replace h := h.1 hc
      refine e_ic (show am_cd 226 42 = (0, 43, 0, -1, []) by decide +kernel) ?_
      exact e_reti (show am_cd 226 43 = (36, 44, 0, 0, []) by decide +kernel) (by decide +kernel) h
    · replace h := h.2 hc
      refine e_ldi (show am_cd 226 37 = (2, 38, 1, 0, []) by decide +kernel) rfl ?_
      refine e_ldi (show am_cd 226 38 = (2, 39, 2, 0, []) by decide +kernel) rfl ?_
      refine e_cmp1 (show am_cd 226 39 = (11, 42, 44, 1, []) by decide +kernel) (fun hc => ?_) (fun hc => ?_)
      · replace h := h.1 hc
        refine e_lda (v := 67) (show am_cd 226 44 = (2, 45, 0, 2, []) by decide +kernel) rfl ?_
        refine e_ldi (show am_cd 226 45 = (2, 46, 1, 0, []) by decide +kernel) rfl ?_
        refine e_ldi (show am_cd 226 46 = (2, 47, 2, 0, []) by decide +kernel) rfl ?_
        refine e_cV (z := 0) (a := 67) (as := [(0, a), (0, b)]) (rest := []) (show am_cd 226 47 = (40, 50, 225, 0, [342]) by decide +kernel) (by decide +kernel) rfl rfl (Nat.le_of_ble_eq_true rfl) rfl ?_
        refine Cl.mono (Cl.up (c_fewestClash (d := d) h.1) (by omega)) ?_
        rintro _ _ ⟨w1, rfl, rfl, hp⟩
        refine ⟨fun _ h9 => (by cases h9), ?_⟩
        replace h := h.2 w1 hp
        show Ev _ 226 _ 50 [rA 67, (0, a), (0, b), (9, 0)] [(0, fcI m a.toNat b.toNat)] _
        refine e_sti (la2 := [rA 67, (0, a), (0, b), (0, fcI m a.toNat b.toNat)]) (show am_cd 226 50 = (3, 51, 3, 0, []) by decide +kernel) rfl ?_
        refine e_ldi (show am_cd 226 51 = (2, 52, 3, 0, []) by decide +kernel) rfl ?_
        refine e_if3 (show am_cd 226 52 = (10, 55, 57, 3, []) by decide +kernel) (fun hc => ?_) (fun hc => ?_)
        · replace h := h.1 hc
          refine e_lda (v := 67) (show am_cd 226 57 = (2, 58, 0, 2, []) by decide +kernel) rfl ?_
          refine e_ic (show am_cd 226 58 = (0, 59, 0, 0, []) by decide +kernel) ?_
          refine e_putf (a := 67) (show am_cd 226 59 = (19, 62, 1217, 0, [189]) by decide +kernel) (by decide +kernel) (by decide +kernel) rfl (fun h9 => absurd h9 (by decide)) (fun h9 => absurd h9 (by decide +kernel)) ?_
          refine e_lda (v := 67) (show am_cd 226 62 = (2, 63, 0, 2, []) by decide +kernel) rfl ?_
          refine e_ic (show am_cd 226 63 = (0, 64, 0, 0, []) by decide +kernel) ?_
          refine e_cV (z := 0) (a := 67) (as := [(0, 0)]) (rest := []) (show am_cd 226 64 = (40, 67, 212, 0, [320]) by decide +kernel) (by decide +kernel) rfl rfl (Nat.le_of_ble_eq_true rfl) rfl ?_
          refine Cl.mono (Cl.up (c_keepsF (d := d) h.1) (by omega)) ?_
          rintro _ _ ⟨w2, rfl, rfl, hp⟩
          refine ⟨fun _ h9 => (by cases h9), ?_⟩
          replace h := h.2 w2 hp
          show Ev _ 226 _ 67 [rA 67, (0, a), (0, b), (0, fcI m a.toNat b.toNat)] [] _
          refine e_lda (v := 67) (show am_cd 226 67 = (2, 68, 0, 2, []) by decide +kernel) rfl ?_
          refine e_ic (show am_cd 226 68 = (0, 69, 0, 0, []) by decide +kernel) ?_
          refine e_putf (a := 67) (show am_cd 226 69 = (19, 72, 1225, 0, [116]) by decide +kernel) (by decide +kernel) (by decide +kernel) rfl (fun h9 => absurd h9 (by decide)) (fun h9 => absurd h9 (by decide +kernel)) ?_
          refine e_lda (v := 67) (show am_cd 226 72 = (2, 73, 0, 2, []) by decide +kernel) rfl ?_
          refine e_lda (v := 67) (show am_cd 226 73 = (2, 74, 0, 2, []) by decide +kernel) rfl ?_
          refine e_getfE (a := 67) (tg := 0) (v := w2 67 46) (show am_cd 226 74 = (18, 77, 1246, 0, [333]) by decide +kernel) (by decide +kernel) (by decide +kernel) rfl rfl ?_
          refine e_i2l (show am_cd 226 77 = (8, 78, 0, 0, []) by decide +kernel) ?_
          refine e_cV (z := 0) (a := 67) (as := [(1, w32 (w2 67 46))]) (rest := []) (show am_cd 226 78 = (40, 81, 167, 0, [252]) by decide +kernel) (by decide +kernel) rfl rfl (Nat.le_of_ble_eq_true rfl) rfl ?_
          show Ev _ 167 _ 0 [rA 67, (1, w32 (w2 67 46)), (9, 0)] [] _
          refine e_lda (v := 67) (show am_cd 167 0 = (2, 1, 0, 2, []) by decide +kernel) rfl ?_
          refine e_getr (a := 67) (r := 86) (show am_cd 167 1 = (18, 4, 1224, 2, [65]) by decide +kernel) (by decide +kernel) (by decide +kernel) rfl ?_
          refine e_lda (v := 67) (show am_cd 167 4 = (2, 5, 0, 2, []) by decide +kernel) rfl ?_
          refine e_getfE (a := 67) (tg := 0) (v := 0) (show am_cd 167 5 = (18, 8, 1225, 0, [116]) by decide +kernel) (by decide +kernel) (by decide +kernel) rfl rfl ?_
          refine e_ldl (show am_cd 167 8 = (2, 9, 1, 1, []) by decide +kernel) rfl ?_
          refine e_lastK (a := 86) (n := 32) (j := 0) (show am_cd 167 9 = (25, 10, 0, 0, []) by decide +kernel) (by decide +kernel) (by decide +kernel) (by decide +kernel) (by decide +kernel) (by decide +kernel) ?_
          refine e_lda (v := 67) (show am_cd 167 10 = (2, 11, 0, 2, []) by decide +kernel) rfl ?_
          refine e_dup (show am_cd 167 11 = (13, 12, 0, 0, []) by decide +kernel) (by decide) ?_
          refine e_getfE (a := 67) (tg := 0) (v := 0) (show am_cd 167 12 = (18, 15, 1225, 0, [116]) by decide +kernel) (by decide +kernel) (by decide +kernel) rfl rfl ?_
          refine e_ic (show am_cd 167 15 = (0, 16, 0, 1, []) by decide +kernel) ?_
          refine e_iok (r := 1) (show am_cd 167 16 = (5, 17, 0, 0, []) by decide +kernel) (by decide +kernel) (by decide +kernel) ?_
          refine e_putf (a := 67) (show am_cd 167 17 = (19, 20, 1225, 0, [116]) by decide +kernel) (by decide +kernel) (by decide +kernel) rfl (fun h9 => absurd h9 (by decide)) (fun h9 => absurd h9 (by decide +kernel)) ?_
          refine e_retv (show am_cd 167 20 = (36, 21, 3, 0, []) by decide +kernel) (by decide +kernel) ⟨fun _ h9 => (by cases h9), ?_⟩
          show Ev _ 226 _ 81 [rA 67, (0, a), (0, b), (0, fcI m a.toNat b.toNat)] [] _
          refine e_ldi (show am_cd 226 81 = (2, 82, 3, 0, []) by decide +kernel) rfl ?_
          exact e_reti (show am_cd 226 82 = (36, 83, 0, 0, []) by decide +kernel) (by decide +kernel) h
        · replace h := h.2 hc
          refine e_ldi (show am_cd 226 55 = (2, 56, 3, 0, []) by decide +kernel) rfl ?_
          exact e_reti (show am_cd 226 56 = (36, 57, 0, 0, []) by decide +kernel) (by decide +kernel) h
      · replace h := h.2 hc
        refine e_ic (show am_cd 226 42 = (0, 43, 0, -1, []) by decide +kernel) ?_
        exact e_reti (show am_cd 226 43 = (36, 44, 0, 0, []) by decide +kernel) (by decide +kernel) h

theorem g_conflicts0 {d : Nat} {Q : Option aV → aS → Prop} {w : eW} {t : eT} {m : eW} {ks : kT} {ml : List Nat} (h : Ev (d + 11) 227 Q 11 [rA 67, (0, 0), (0, (-1)), (0, 0), (9, 0)] [] (enc (wu w 67 26 0) t)) : Cl (d + 11) 227 [rA 67] (enc w t) Q := by
  show Ev (d + 11) 227 Q 0 [rA 67, (9, 0), (9, 0), (9, 0), (9, 0)] [] (enc w t)
  refine e_lda (v := 67) (show am_cd 227 0 = (2, 1, 0, 2, []) by decide +kernel) rfl ?_
  refine e_ic (show am_cd 227 1 = (0, 2, 0, 0, []) by decide +kernel) ?_
  refine e_putf (a := 67) (show am_cd 227 2 = (19, 5, 1226, 0, [113]) by decide +kernel) (by decide +kernel) (by decide +kernel) rfl (fun h9 => absurd h9 (by decide)) (fun h9 => absurd h9 (by decide +kernel)) ?_
  refine e_ic (show am_cd 227 5 = (0, 6, 0, 0, []) by decide +kernel) ?_
  refine e_sti (la2 := [rA 67, (0, 0), (9, 0), (9, 0), (9, 0)]) (show am_cd 227 6 = (3, 7, 1, 0, []) by decide +kernel) rfl ?_
  refine e_ic (show am_cd 227 7 = (0, 8, 0, -1, []) by decide +kernel) ?_
  refine e_sti (la2 := [rA 67, (0, 0), (0, (-1)), (9, 0), (9, 0)]) (show am_cd 227 8 = (3, 9, 2, 0, []) by decide +kernel) rfl ?_
  refine e_ic (show am_cd 227 9 = (0, 10, 0, 0, []) by decide +kernel) ?_
  refine e_sti (la2 := [rA 67, (0, 0), (0, (-1)), (0, 0), (9, 0)]) (show am_cd 227 10 = (3, 11, 3, 0, []) by decide +kernel) rfl ?_
  exact h

theorem g_conflicts1 {d : Nat} {Q : Option aV → aS → Prop} {w : eW} {t : eT} {n x a : Int} {m : eW} {ks : kT} {ml : List Nat} {J : aV} (h : ((w32 (w 67 6) ≤ w32 a → ((w32 n ≤ 0 → Q (some (0, n)) (enc (wu w 67 25 0) t)) ∧ (¬ (w32 n ≤ 0) → Q (some (0, n)) (enc (wu (wu (wu (wu (wu w 67 25 0) 86 0 (w32 (idiv x 8))) 67 25 1) 86 1 (w32 (irem x 8))) 67 25 2) t)))) ∧ (¬ (w32 (w 67 6) ≤ w32 a) → Ev (d + 11) 227 Q 24 [rA 67, (0, n), (0, x), (0, a), (0, a + 1)] [] (enc w t)))) : Ev (d + 11) 227 Q 11 [rA 67, (0, n), (0, x), (0, a), J] [] (enc w t) := by
  refine e_ldi (show am_cd 227 11 = (2, 12, 3, 0, []) by decide +kernel) rfl ?_
  refine e_lda (v := 67) (show am_cd 227 12 = (2, 13, 0, 2, []) by decide +kernel) rfl ?_
  refine e_getf (a := 67) (tg := 0) (show am_cd 227 13 = (18, 16, 1206, 0, [183]) by decide +kernel) (by decide +kernel) (by decide +kernel) rfl ?_
  refine e_cmp3 (show am_cd 227 16 = (11, 19, 77, 3, []) by decide +kernel) (fun hc => ?_) (fun hc => ?_)
  · replace h := h.1 hc
    refine e_lda (v := 67) (show am_cd 227 77 = (2, 78, 0, 2, []) by decide +kernel) rfl ?_
    refine e_ic (show am_cd 227 78 = (0, 79, 0, 0, []) by decide +kernel) ?_
    refine e_putf (a := 67) (show am_cd 227 79 = (19, 82, 1225, 0, [116]) by decide +kernel) (by decide +kernel) (by decide +kernel) rfl (fun h9 => absurd h9 (by decide)) (fun h9 => absurd h9 (by decide +kernel)) ?_
    refine e_ldi (show am_cd 227 82 = (2, 83, 1, 0, []) by decide +kernel) rfl ?_
    refine e_if5 (show am_cd 227 83 = (10, 86, 104, 5, []) by decide +kernel) (fun hc => ?_) (fun hc => ?_)
    · replace h := h.1 hc
      refine e_ldi (show am_cd 227 104 = (2, 105, 1, 0, []) by decide +kernel) rfl ?_
      exact e_reti (show am_cd 227 105 = (36, 106, 0, 0, []) by decide +kernel) (by decide +kernel) h
    · replace h := h.2 hc
      refine e_lda (v := 67) (show am_cd 227 86 = (2, 87, 0, 2, []) by decide +kernel) rfl ?_
      refine e_ldi (show am_cd 227 87 = (2, 88, 2, 0, []) by decide +kernel) rfl ?_
      refine e_ic (show am_cd 227 88 = (0, 90, 1, 8, []) by decide +kernel) ?_
      refine e_idiv (show am_cd 227 90 = (5, 91, 9, 0, []) by decide +kernel) (by decide) ?_
      refine e_i2l (show am_cd 227 91 = (8, 92, 0, 0, []) by decide +kernel) ?_
      refine e_cV (z := 0) (a := 67) (as := [(1, w32 (idiv x 8))]) (rest := []) (show am_cd 227 92 = (40, 95, 167, 0, [252]) by decide +kernel) (by decide +kernel) rfl rfl (Nat.le_of_ble_eq_true rfl) rfl ?_
      show Ev _ 167 _ 0 [rA 67, (1, w32 (idiv x 8)), (9, 0)] [] _
      refine e_lda (v := 67) (show am_cd 167 0 = (2, 1, 0, 2, []) by decide +kernel) rfl ?_
      refine e_getr (a := 67) (r := 86) (show am_cd 167 1 = (18, 4, 1224, 2, [65]) by decide +kernel) (by decide +kernel) (by decide +kernel) rfl ?_
      refine e_lda (v := 67) (show am_cd 167 4 = (2, 5, 0, 2, []) by decide +kernel) rfl ?_
      refine e_getfE (a := 67) (tg := 0) (v := 0) (show am_cd 167 5 = (18, 8, 1225, 0, [116]) by decide +kernel) (by decide +kernel) (by decide +kernel) rfl rfl ?_
      refine e_ldl (show am_cd 167 8 = (2, 9, 1, 1, []) by decide +kernel) rfl ?_
      refine e_lastK (a := 86) (n := 32) (j := 0) (show am_cd 167 9 = (25, 10, 0, 0, []) by decide +kernel) (by decide +kernel) (by decide +kernel) (by decide +kernel) (by decide +kernel) (by decide +kernel) ?_
      refine e_lda (v := 67) (show am_cd 167 10 = (2, 11, 0, 2, []) by decide +kernel) rfl ?_
      refine e_dup (show am_cd 167 11 = (13, 12, 0, 0, []) by decide +kernel) (by decide) ?_
      refine e_getfE (a := 67) (tg := 0) (v := 0) (show am_cd 167 12 = (18, 15, 1225, 0, [116]) by decide +kernel) (by decide +kernel) (by decide +kernel) rfl rfl ?_
      refine e_ic (show am_cd 167 15 = (0, 16, 0, 1, []) by decide +kernel) ?_
      refine e_iok (r := 1) (show am_cd 167 16 = (5, 17, 0, 0, []) by decide +kernel) (by decide +kernel) (by decide +kernel) ?_
      refine e_putf (a := 67) (show am_cd 167 17 = (19, 20, 1225, 0, [116]) by decide +kernel) (by decide +kernel) (by decide +kernel) rfl (fun h9 => absurd h9 (by decide)) (fun h9 => absurd h9 (by decide +kernel)) ?_
      refine e_retv (show am_cd 167 20 = (36, 21, 3, 0, []) by decide +kernel) (by decide +kernel) ⟨fun _ h9 => (by cases h9), ?_⟩
      show Ev _ 227 _ 95 [rA 67, (0, n), (0, x), (0, a), J] [] _
      refine e_lda (v := 67) (show am_cd 227 95 = (2, 96, 0, 2, []) by decide +kernel) rfl ?_
      refine e_ldi (show am_cd 227 96 = (2, 97, 2, 0, []) by decide +kernel) rfl ?_
      refine e_ic (show am_cd 227 97 = (0, 99, 1, 8, []) by decide +kernel) ?_
      refine e_irem (show am_cd 227 99 = (5, 100, 10, 0, []) by decide +kernel) (by decide) ?_
      refine e_i2l (show am_cd 227 100 = (8, 101, 0, 0, []) by decide +kernel) ?_
      refine e_cV (z := 0) (a := 67) (as := [(1, w32 (irem x 8))]) (rest := []) (show am_cd 227 101 = (40, 104, 167, 0, [252]) by decide +kernel) (by decide +kernel) rfl rfl (Nat.le_of_ble_eq_true rfl) rfl ?_
      show Ev _ 167 _ 0 [rA 67, (1, w32 (irem x 8)), (9, 0)] [] _
      refine e_lda (v := 67) (show am_cd 167 0 = (2, 1, 0, 2, []) by decide +kernel) rfl ?_
      refine e_getr (a := 67) (r := 86) (show am_cd 167 1 = (18, 4, 1224, 2, [65]) by decide +kernel) (by decide +kernel) (by decide +kernel) rfl ?_
      refine e_lda (v := 67) (show am_cd 167 4 = (2, 5, 0, 2, []) by decide +kernel) rfl ?_
      refine e_getfE (a := 67) (tg := 0) (v := 1) (show am_cd 167 5 = (18, 8, 1225, 0, [116]) by decide +kernel) (by decide +kernel) (by decide +kernel) rfl rfl ?_
      refine e_ldl (show am_cd 167 8 = (2, 9, 1, 1, []) by decide +kernel) rfl ?_
      refine e_lastK (a := 86) (n := 32) (j := 1) (show am_cd 167 9 = (25, 10, 0, 0, []) by decide +kernel) (by decide +kernel) (by decide +kernel) (by decide +kernel) (by decide +kernel) (by decide +kernel) ?_
      refine e_lda (v := 67) (show am_cd 167 10 = (2, 11, 0, 2, []) by decide +kernel) rfl ?_
      refine e_dup (show am_cd 167 11 = (13, 12, 0, 0, []) by decide +kernel) (by decide) ?_
      refine e_getfE (a := 67) (tg := 0) (v := 1) (show am_cd 167 12 = (18, 15, 1225, 0, [116]) by decide +kernel) (by decide +kernel) (by decide +kernel) rfl rfl ?_
      refine e_ic (show am_cd 167 15 = (0, 16, 0, 1, []) by decide +kernel) ?_
      refine e_iok (r := 2) (show am_cd 167 16 = (5, 17, 0, 0, []) by decide +kernel) (by decide +kernel) (by decide +kernel) ?_
      refine e_putf (a := 67) (show am_cd 167 17 = (19, 20, 1225, 0, [116]) by decide +kernel) (by decide +kernel) (by decide +kernel) rfl (fun h9 => absurd h9 (by decide)) (fun h9 => absurd h9 (by decide +kernel)) ?_
      refine e_retv (show am_cd 167 20 = (36, 21, 3, 0, []) by decide +kernel) (by decide +kernel) ⟨fun _ h9 => (by cases h9), ?_⟩
      show Ev _ 227 _ 104 [rA 67, (0, n), (0, x), (0, a), J] [] _
      refine e_ldi (show am_cd 227 104 = (2, 105, 1, 0, []) by decide +kernel) rfl ?_
      exact e_reti (show am_cd 227 105 = (36, 106, 0, 0, []) by decide +kernel) (by decide +kernel) h
  · replace h := h.2 hc
    refine e_ldi (show am_cd 227 19 = (2, 20, 3, 0, []) by decide +kernel) rfl ?_
    refine e_ic (show am_cd 227 20 = (0, 21, 0, 1, []) by decide +kernel) ?_
    refine e_iadd (show am_cd 227 21 = (5, 22, 0, 0, []) by decide +kernel) ?_
    refine e_sti (la2 := [rA 67, (0, n), (0, x), (0, a), (0, a + 1)]) (show am_cd 227 22 = (3, 24, 4, 0, []) by decide +kernel) rfl ?_
    exact h

theorem g_conflicts2 {d : Nat} {Q : Option aV → aS → Prop} {w : eW} {t : eT} {n x a b : Int} {m : eW} {ks : kT} {ml : List Nat} (h : ((w32 (w 67 6) ≤ w32 b → Ev (d + 11) 227 Q 11 [rA 67, (0, n), (0, x), (0, a + 1), (0, b)] [] (enc w t)) ∧ (¬ (w32 (w 67 6) ≤ w32 b) → (MG w m ∧ gR m a ∧ gR m b) ∧ (∀ w1, (Fm [94] [40, 46] w w1 ∧ (fcN m a.toNat b.toNat ≠ 5 → MdM w1 (fcR m a.toNat b.toNat) ∧ w1 67 46 = clI m a.toNat b.toNat (fcR m a.toNat b.toNat))) → ((0 ≤ w32 (fcI m a.toNat b.toNat) → ((¬ w32 n = 0 → Ev (d + 11) 227 Q 24 [rA 67, (0, n + 1), (0, x), (0, a), (0, b + 1)] [] (enc w1 t)) ∧ (¬ (¬ w32 n = 0) → Ev (d + 11) 227 Q 24 [rA 67, (0, n + 1), (0, (8 * a) + b), (0, a), (0, b + 1)] [] (enc w1 t)))) ∧ (¬ (0 ≤ w32 (fcI m a.toNat b.toNat)) → Ev (d + 11) 227 Q 24 [rA 67, (0, n), (0, x), (0, a), (0, b + 1)] [] (enc w1 t))))))) : Ev (d + 11) 227 Q 24 [rA 67, (0, n), (0, x), (0, a), (0, b)] [] (enc w t) := by
  refine e_ldi (show am_cd 227 24 = (2, 26, 4, 0, []) by decide +kernel) rfl ?_
  refine e_lda (v := 67) (show am_cd 227 26 = (2, 27, 0, 2, []) by decide +kernel) rfl ?_
  refine e_getf (a := 67) (tg := 0) (show am_cd 227 27 = (18, 30, 1206, 0, [183]) by decide +kernel) (by decide +kernel) (by decide +kernel) rfl ?_
  refine e_cmp3 (show am_cd 227 30 = (11, 33, 71, 3, []) by decide +kernel) (fun hc => ?_) (fun hc => ?_)
  · replace h := h.1 hc
    refine e_inc (la2 := [rA 67, (0, n), (0, x), (0, a + 1), (0, b)]) (show am_cd 227 71 = (4, 74, 3, 1, []) by decide +kernel) rfl rfl ?_
    refine e_go (show am_cd 227 74 = (12, 11, 0, 0, []) by decide +kernel) ?_
    exact h
  · replace h := h.2 hc
    refine e_lda (v := 67) (show am_cd 227 33 = (2, 34, 0, 2, []) by decide +kernel) rfl ?_
    refine e_ldi (show am_cd 227 34 = (2, 35, 3, 0, []) by decide +kernel) rfl ?_
    refine e_ldi (show am_cd 227 35 = (2, 37, 4, 0, []) by decide +kernel) rfl ?_
    refine e_cV (z := 0) (a := 67) (as := [(0, a), (0, b)]) (rest := []) (show am_cd 227 37 = (40, 40, 225, 0, [342]) by decide +kernel) (by decide +kernel) rfl rfl (Nat.le_of_ble_eq_true rfl) rfl ?_
    refine Cl.mono (Cl.up (c_fewestClash (d := d) h.1) (by omega)) ?_
    rintro _ _ ⟨w1, rfl, rfl, hp⟩
    refine ⟨fun _ h9 => (by cases h9), ?_⟩
    replace h := h.2 w1 hp
    show Ev _ 227 _ 40 [rA 67, (0, n), (0, x), (0, a), (0, b)] [(0, fcI m a.toNat b.toNat)] _
    refine e_if3 (show am_cd 227 40 = (10, 43, 46, 3, []) by decide +kernel) (fun hc => ?_) (fun hc => ?_)
    · replace h := h.1 hc
      refine e_ldi (show am_cd 227 46 = (2, 47, 1, 0, []) by decide +kernel) rfl ?_
      refine e_if1 (show am_cd 227 47 = (10, 50, 60, 1, []) by decide +kernel) (fun hc => ?_) (fun hc => ?_)
      · replace h := h.1 hc
        refine e_ldi (show am_cd 227 60 = (2, 61, 2, 0, []) by decide +kernel) rfl ?_
        refine e_sti (la2 := [rA 67, (0, n), (0, x), (0, a), (0, b)]) (show am_cd 227 61 = (3, 62, 2, 0, []) by decide +kernel) rfl ?_
        refine e_inc (la2 := [rA 67, (0, n + 1), (0, x), (0, a), (0, b)]) (show am_cd 227 62 = (4, 65, 1, 1, []) by decide +kernel) rfl rfl ?_
        refine e_inc (la2 := [rA 67, (0, n + 1), (0, x), (0, a), (0, b + 1)]) (show am_cd 227 65 = (4, 68, 4, 1, []) by decide +kernel) rfl rfl ?_
        refine e_go (show am_cd 227 68 = (12, 24, 0, 0, []) by decide +kernel) ?_
        exact h
      · replace h := h.2 hc
        refine e_ic (show am_cd 227 50 = (0, 52, 1, 8, []) by decide +kernel) ?_
        refine e_ldi (show am_cd 227 52 = (2, 53, 3, 0, []) by decide +kernel) rfl ?_
        refine e_imul (show am_cd 227 53 = (5, 54, 2, 0, []) by decide +kernel) ?_
        refine e_ldi (show am_cd 227 54 = (2, 56, 4, 0, []) by decide +kernel) rfl ?_
        refine e_iadd (show am_cd 227 56 = (5, 57, 0, 0, []) by decide +kernel) ?_
        refine e_go (show am_cd 227 57 = (12, 61, 0, 0, []) by decide +kernel) ?_
        refine e_sti (la2 := [rA 67, (0, n), (0, (8 * a) + b), (0, a), (0, b)]) (show am_cd 227 61 = (3, 62, 2, 0, []) by decide +kernel) rfl ?_
        refine e_inc (la2 := [rA 67, (0, n + 1), (0, (8 * a) + b), (0, a), (0, b)]) (show am_cd 227 62 = (4, 65, 1, 1, []) by decide +kernel) rfl rfl ?_
        refine e_inc (la2 := [rA 67, (0, n + 1), (0, (8 * a) + b), (0, a), (0, b + 1)]) (show am_cd 227 65 = (4, 68, 4, 1, []) by decide +kernel) rfl rfl ?_
        refine e_go (show am_cd 227 68 = (12, 24, 0, 0, []) by decide +kernel) ?_
        exact h
    · replace h := h.2 hc
      refine e_go (show am_cd 227 43 = (12, 65, 0, 0, []) by decide +kernel) ?_
      refine e_inc (la2 := [rA 67, (0, n), (0, x), (0, a), (0, b + 1)]) (show am_cd 227 65 = (4, 68, 4, 1, []) by decide +kernel) rfl rfl ?_
      refine e_go (show am_cd 227 68 = (12, 24, 0, 0, []) by decide +kernel) ?_
      exact h

def vR2 (m : eW) (a b : Int) : Prop := (0 ≤ a ∧ a < nR m) ∧ (0 ≤ b ∧ b < nR m) ∧ ¬ a = b
def conV (m : eW) (a b : Int) : Int := if (0 ≤ a ∧ a < nR m) ∧ (0 ≤ b ∧ b < nR m) ∧ ¬ a = b then fcI m a.toNat b.toNat else -1
def conK (m : eW) (ks : kT) (a b : Int) : kT := if 0 ≤ conV m a b then [(fcR m a.toNat b.toNat, [])] else ks
def conR (m : eW) (rl : List Int) (a b : Int) : List Int := if 0 ≤ conV m a b then [clI m a.toNat b.toNat (fcR m a.toNat b.toNat)] else rl
theorem RowM.fr {w w2 : eW} {rl : List Int} (h : RowM w rl) (h0 : w2 67 25 = w 67 25) (h1 : w2 86 = w 86) : RowM w2 rl := by
  unfold RowM at *
  rw [h0, h1]
  exact h
theorem fcI_5 {m : eW} {a b : Nat} : 0 ≤ fcI m a b ↔ fcN m a b ≠ 5 := by
  unfold fcI
  split
  · next h => exact ⟨fun h9 => by omega, fun h9 => absurd h h9⟩
  · next h => exact ⟨fun _ => h, fun _ => by omega⟩
theorem fcI_b (m : eW) (a b : Nat) : -2 ≤ fcI m a b ∧ fcI m a b ≤ 5 := by
  have := fcN_le m a b
  unfold fcI
  split <;> omega
theorem clI_b (m : eW) (a b : Nat) (l : List Nat) (hl : l.length ≤ 20) : -1 ≤ clI m a b l ∧ clI m a b l ≤ 20 := by
  have := fsN_le (P := clP m a b l) l.length 0
  unfold clI clF
  split <;> omega
theorem c_mconflict {d : Nat} {m w : eW} {t : eT} {ks : kT} {rl : List Int} {a b : Int} (h : MG w m ∧ KM w ks ∧ RowM w rl ∧ okI a ∧ okI b) : Cl (d + 11) 226 [rA 67, (0, a), (0, b)] (enc w t) (fun r S2 => ∃ w2, r = some (0, conV m a b) ∧ S2 = enc w2 t ∧ Fm [81, 82, 83, 84, 86, 94] [17, 25, 26, 40, 46] w w2 ∧ KM w2 (conK m ks a b) ∧ RowM w2 (conR m rl a b) ∧ w2 67 26 = 0) := by
  obtain ⟨hm, hK, hR, ha, hb⟩ := h
  have hrn := hm.2.1.n
  unfold okI at ha hb
  have q0 : Fm [81, 82, 83, 84, 86, 94] [17, 25, 26, 40, 46] w (wu w 67 26 0) := Fm.pf (by decide)
  have no : ¬ ((0 ≤ a ∧ a < nR m) ∧ (0 ≤ b ∧ b < nR m) ∧ ¬ a = b) → ∃ w2, some ((0 : Nat), (-1 : Int)) = some (0, conV m a b) ∧ enc (wu w 67 26 0) t = enc w2 t ∧ Fm [81, 82, 83, 84, 86, 94] [17, 25, 26, 40, 46] w w2 ∧ KM w2 (conK m ks a b) ∧ RowM w2 (conR m rl a b) ∧ w2 67 26 = 0 := by
    intro hno
    have hv : conV m a b = -1 := if_neg hno
    refine ⟨_, by rw [hv], rfl, q0, ?_, ?_, wu_eq _ _ _ _⟩
    · unfold conK; rw [hv, if_neg (by decide)]
      exact hK.fr (wu_nk _ _ (by decide)) (fun a a1 a2 => wu_row (by omega))
    · unfold conR; rw [hv, if_neg (by decide)]
      exact hR.fr (wu_nk _ _ (by decide)) (wu_row (by decide))
  refine g_conflict (m := m) (ks := []) (ml := fcR m a.toNat b.toNat) ?_
  rw [hm.2.2.2.1]
  have hfb := fcI_b m a.toNat b.toNat
  simp (disch := omega) only [w32_id, w64_id]
  refine ⟨fun h1 => no ?_, fun h1 => ⟨fun h2 => no ?_, fun h2 => ⟨fun h3 => ⟨⟨hm.m q0 (by decide) (by decide), ?_, ?_⟩, fun w1 hw1 => ?_⟩, fun h3 => no ?_⟩⟩⟩
  · have := of_decide_eq_false h1; omega
  · have := of_decide_eq_false h2; omega
  · have := of_decide_eq_true h1; exact ⟨by omega, by omega⟩
  · have := of_decide_eq_true h2; exact ⟨by omega, by omega⟩
  · have k1 := of_decide_eq_true h1
    have k2 := of_decide_eq_true h2
    have hv : conV m a b = fcI m a.toNat b.toNat := if_pos ⟨by omega, by omega, h3⟩
    have q1 : Fm [81, 82, 83, 84, 86, 94] [17, 25, 26, 40, 46] w w1 := q0.tr (hw1.1.mo (by decide) (by decide))
    have ht : w1 67 26 = 0 := by rw [hw1.1.2 26 (by decide)]; exact wu_eq _ _ _ _
    refine ⟨fun h4 => ?_, fun h4 => ⟨w1, by rw [hv], rfl, q1, ?_, ?_, ht⟩⟩
    · have h5 := fcI_5.mp h4
      obtain ⟨hM, h46⟩ := hw1.2 h5
      have hMl := hM.2.1
      have hcb := clI_b m a.toNat b.toNat (fcR m a.toNat b.toNat) (by omega)
      refine ⟨⟨KM.nil (wu_eq _ _ _ _), hM.fr (wu_nk _ _ (by decide)) (wu_row (by decide))⟩, fun w2 hw2 => ?_⟩
      have e46 : w2 67 46 = clI m a.toNat b.toNat (fcR m a.toNat b.toNat) := by rw [hw2.1.2 46 (by decide), wu_nk _ _ (by decide)]; exact h46
      rw [e46, w32_id (by omega)]
      have q2 : Fm [81, 82, 83, 84, 86, 94] [17, 25, 26, 40, 46] w w2 := (q1.tr (Fm.pf (k := 17) (by decide))).tr ⟨fun a a1 a2 => hw2.1.1 a a1 (by simp at a2; omega), fun k hk => hw2.1.2 k (fun h9 => hk (by simp [h9]))⟩
      refine ⟨_, by rw [hv], rfl, q2.tr ((Fm.pf (by decide)).tr ((Fm.pr (by decide) (by decide)).tr (Fm.pf (by decide)))), ?_, ?_, ?_⟩
      · unfold conK; rw [hv, if_pos h4]
        exact KM.fr (w := w2) hw2.2 (by rw [wu_nk _ _ (by decide), wu_row (by decide), wu_nk _ _ (by decide)]) (fun a a1 a2 => by rw [wu_row (by omega), wu_row (by omega), wu_row (by omega)])
      · unfold conR; rw [hv, if_pos h4]
        refine ⟨wu_eq _ _ _ _, by simp, fun i hi => ?_⟩
        have : i = 0 := by simp at hi; omega
        subst this
        rfl
      · rw [wu_nk _ _ (by decide), wu_row (by decide), wu_nk _ _ (by decide), hw2.1.2 26 (by decide), wu_nk _ _ (by decide)]; exact ht
    · unfold conK; rw [hv, if_neg h4]
      exact hK.fr (by rw [hw1.1.2 17 (by decide)]; rfl) (fun a a1 a2 => by rw [hw1.1.1 a (by omega) (by simp; omega), wu_row (by omega)])
    · unfold conR; rw [hv, if_neg h4]
      exact hR.fr (by rw [hw1.1.2 25 (by decide)]; rfl) (by rw [hw1.1.1 86 (by decide) (by decide), wu_row (by decide)])
  · omega
/-- couples of rules that have a conflict -/
def cpB (m : eW) (a b : Nat) : List (Nat × Nat) := if a < b ∧ fcN m a b ≠ 5 then [(a, b)] else []
def cpL (m : eW) : List (Nat × Nat) := lsD (fun a => lsD (cpB m a) (nR m)) (nR m)
def cpR (l : List (Nat × Nat)) : List Int := match l with
  | [] => []
  | x :: _ => [(x.1 : Int), (x.2 : Int)]
def cpX (l : List (Nat × Nat)) : Int := match l with
  | [] => -1
  | x :: _ => 8 * (x.1 : Int) + (x.2 : Int)
theorem cpX_app (l l2 : List (Nat × Nat)) (h : l ≠ []) : cpX (l ++ l2) = cpX l := by
  cases l with
  | nil => exact absurd rfl h
  | cons x l => rfl
theorem cpB_0 (m : eW) (a n : Nat) (h : n ≤ a + 1) : lsD (cpB m a) n = [] := by
  induction n with
  | zero => rfl
  | succ n ih =>
    unfold lsD
    rw [ih (by omega)]
    unfold cpB
    rw [if_neg (by omega)]
    rfl
theorem cp_len (m : eW) (k : Nat) : (lsD (fun a => lsD (cpB m a) (nR m)) k).length ≤ k * nR m := by
  rw [lsD_len]
  refine sm_bound (fun a _ => ?_)
  rw [lsD_len]
  have := sm_bound (f := fun b => (cpB m a b).length) (n := nR m) (c := 1) (fun b _ => by unfold cpB; split <;> simp)
  omega
theorem cpL_mem {m : eW} {x : Nat × Nat} {k : Nat} (h : x ∈ lsD (fun a => lsD (cpB m a) (nR m)) k) : x.1 < k ∧ x.2 < nR m := by
  induction k with
  | zero => cases h
  | succ k ih =>
    unfold lsD at h
    rw [List.mem_append] at h
    rcases h with h | h
    · have := ih h; omega
    · have : ∀ n, x ∈ lsD (cpB m k) n → x.1 = k ∧ x.2 < n := by
        intro n
        induction n with
        | zero => intro h; cases h
        | succ n ihn =>
          intro h
          unfold lsD at h
          rw [List.mem_append] at h
          rcases h with h | h
          · have := ihn h; omega
          · unfold cpB at h
            split at h
            · rw [List.mem_singleton] at h; subst h; exact ⟨rfl, by show n < n + 1; omega⟩
            · cases h
      have := this _ h
      omega
theorem c_mconflicts {d : Nat} {m w : eW} {t : eT} (h : MG w m) : Cl (d + 11) 227 [rA 67] (enc w t) (fun r S2 => ∃ w2, r = some (0, ((cpL m).length : Int)) ∧ S2 = enc w2 t ∧ Fm [86, 94] [25, 26, 40, 46] w w2 ∧ RowM w2 (cpR (cpL m)) ∧ w2 67 26 = 0) := by
  have hm := h
  have hrn := hm.2.1.n
  refine g_conflicts0 (m := m) (ks := []) (ml := []) ?_
  have hlen : ∀ k, k ≤ nR m → (lsD (fun a => lsD (cpB m a) (nR m)) k).length ≤ 64 := fun k hk => Nat.le_trans (cp_len m k) (Nat.le_trans (Nat.mul_le_mul_right _ hk) (Nat.le_trans (Nat.mul_le_mul hrn.2 hrn.2) (by decide)))
  refine lq1 (fun a (σ : eW × aV) => Ev (d + 11) 227 (fun r S2 => ∃ w2, r = some (0, ((cpL m).length : Int)) ∧ S2 = enc w2 t ∧ Fm [86, 94] [25, 26, 40, 46] w w2 ∧ RowM w2 (cpR (cpL m)) ∧ w2 67 26 = 0) 11 [rA 67, (0, ((lsD (fun a => lsD (cpB m a) (nR m)) a).length : Int)), (0, cpX (lsD (fun a => lsD (cpB m a) (nR m)) a)), (0, (a : Int)), σ.2] [] (enc σ.1 t)) (fun a σ => Fm [86, 94] [25, 26, 40, 46] w σ.1 ∧ σ.1 67 26 = 0) (nR m) ?_ ?_ 0 (wu w 67 26 0, (9, 0)) (Nat.zero_le _) ⟨Fm.pf (by decide), wu_eq w 67 26 0⟩
  · intro a σ ha hI hE
    refine g_conflicts1 (m := m) (ks := []) (ml := []) ?_
    rw [(hm.m hI.1 (by decide) (by decide)).2.2.2.1]
    simp (disch := omega) only [w32_id]
    refine ⟨fun h9 => (by omega), fun _ => ?_⟩
    rw [show lsD (fun a => lsD (cpB m a) (nR m)) (a + 1) = lsD (fun a => lsD (cpB m a) (nR m)) a ++ lsD (cpB m a) (nR m) from rfl] at hE
    have hl2 : ∀ b, (lsD (fun a => lsD (cpB m a) (nR m)) a ++ lsD (cpB m a) b).length ≤ 64 + b := fun b => by
      rw [List.length_append, lsD_len (cpB m a)]
      have := hlen a (by omega)
      have := sm_bound (f := fun b => (cpB m a b).length) (n := b) (c := 1) (fun b _ => by unfold cpB; split <;> simp)
      omega
    generalize lsD (fun a => lsD (cpB m a) (nR m)) a = L at *
    have inner : ∀ b, b ≤ nR m → ∀ σ2 : eW, Fm [86, 94] [25, 26, 40, 46] w σ2 → σ2 67 26 = 0 → Ev (d + 11) 227 (fun r S2 => ∃ w2, r = some (0, ((cpL m).length : Int)) ∧ S2 = enc w2 t ∧ Fm [86, 94] [25, 26, 40, 46] w w2 ∧ RowM w2 (cpR (cpL m)) ∧ w2 67 26 = 0) 24 [rA 67, (0, ((L ++ lsD (cpB m a) b).length : Int)), (0, cpX (L ++ lsD (cpB m a) b)), (0, (a : Int)), (0, (b : Int))] [] (enc σ2 t) ∨ b ≤ a := by
      intro b hb
      refine lp0 (fun b => ∀ σ2 : eW, Fm [86, 94] [25, 26, 40, 46] w σ2 → σ2 67 26 = 0 → Ev (d + 11) 227 (fun r S2 => ∃ w2, r = some (0, ((cpL m).length : Int)) ∧ S2 = enc w2 t ∧ Fm [86, 94] [25, 26, 40, 46] w w2 ∧ RowM w2 (cpR (cpL m)) ∧ w2 67 26 = 0) 24 [rA 67, (0, ((L ++ lsD (cpB m a) b).length : Int)), (0, cpX (L ++ lsD (cpB m a) b)), (0, (a : Int)), (0, (b : Int))] [] (enc σ2 t) ∨ b ≤ a) (nR m) ?_ ?_ b hb
      · intro b hb hE2 σ2 z1 z2
        by_cases hba : b ≤ a
        · exact Or.inr hba
        · left
          refine g_conflicts2 (m := m) (ks := []) (ml := []) ?_
          rw [(hm.m z1 (by decide) (by decide)).2.2.2.1]
          have hfb := fcI_b m a b
          have hlb := hl2 b
          simp (disch := omega) only [w32_id, Int.toNat_natCast]
          refine ⟨fun h9 => (by omega), fun _ => ⟨⟨hm.m z1 (by decide) (by decide), ⟨by omega, by omega⟩, ⟨by omega, by omega⟩⟩, fun w1 hw1 => ?_⟩⟩
          have z1b : Fm [86, 94] [25, 26, 40, 46] w w1 := z1.tr (hw1.1.mo (by decide) (by decide))
          have z2b : w1 67 26 = 0 := by rw [hw1.1.2 26 (by decide)]; exact z2
          have hnext := (hE2 w1 z1b z2b).resolve_right (by omega)
          rw [show lsD (cpB m a) (b + 1) = lsD (cpB m a) b ++ cpB m a b from rfl, ← List.append_assoc] at hnext
          refine ⟨fun h4 => ?_, fun h4 => ?_⟩
          · have hc : cpB m a b = [(a, b)] := if_pos ⟨by omega, fcI_5.mp h4⟩
            rw [hc] at hnext
            rw [List.length_append (bs := [(a, b)]), List.length_singleton] at hnext
            refine ⟨fun h5 => ?_, fun h5 => ?_⟩
            · rw [cpX_app _ _ (fun h9 => h5 (by rw [h9]; rfl))] at hnext
              exact hnext
            · have hz : L ++ lsD (cpB m a) b = [] := List.length_eq_zero_iff.mp (by omega)
              rw [hz] at hnext ⊢
              exact hnext
          · have hc : cpB m a b = [] := if_neg (fun h9 => h4 (fcI_5.mpr h9.2))
            rw [hc, List.append_nil] at hnext
            exact hnext
      · intro σ2 z1 z2
        left
        refine g_conflicts2 (m := m) (ks := []) (ml := []) ?_
        rw [(hm.m z1 (by decide) (by decide)).2.2.2.1]
        simp (disch := omega) only [w32_id]
        exact ⟨fun _ => hE (σ2, _) ⟨z1, z2⟩, fun h9 => (by omega)⟩
    have hst := (inner (a + 1) (by omega) σ.1 hI.1 hI.2).resolve_right (by omega)
    rw [cpB_0 m a (a + 1) (Nat.le_refl _), List.append_nil] at hst
    exact hst
  · intro σ hI
    refine g_conflicts1 (m := m) (ks := []) (ml := []) ?_
    rw [(hm.m hI.1 (by decide) (by decide)).2.2.2.1]
    have hl := hlen (nR m) (Nat.le_refl _)
    have hmem : ∀ x ∈ cpL m, x.1 < nR m ∧ x.2 < nR m := fun x hx => cpL_mem hx
    rw [show lsD (fun a => lsD (cpB m a) (nR m)) (nR m) = cpL m from rfl] at hl ⊢
    simp (disch := omega) only [w32_id]
    refine ⟨fun _ => ⟨fun h1 => ⟨_, by trivial, rfl, hI.1.tr (Fm.pf (by decide)), ?_, ?_⟩, fun h1 => ?_⟩, fun h9 => (by omega)⟩
    · have hz : cpL m = [] := List.length_eq_zero_iff.mp (by omega)
      rw [hz]
      exact ⟨wu_eq _ _ _ _, by decide, fun i hi => absurd hi (Nat.not_lt_zero i)⟩
    · rw [wu_nk _ _ (by decide)]; exact hI.2
    · cases hc : cpL m with
      | nil => rw [hc] at h1; exact absurd (by decide) h1
      | cons x l =>
        have hx := hmem x (by rw [hc]; exact List.mem_cons_self)
        have e1 : idiv (cpX (x :: l)) 8 = (x.1 : Int) := by
          show idiv (8 * (x.1 : Int) + (x.2 : Int)) 8 = _
          rw [i_div (by omega) (by omega)]
          omega
        have e2 : irem (cpX (x :: l)) 8 = (x.2 : Int) := by
          show irem (8 * (x.1 : Int) + (x.2 : Int)) 8 = _
          rw [i_rem (by omega) (by omega)]
          omega
        rw [e1, e2, w32_id (by omega), w32_id (by omega)]
        refine ⟨_, by trivial, rfl, hI.1.tr ((Fm.pf (by decide)).tr ((Fm.pr (by decide) (by decide)).tr ((Fm.pf (by decide)).tr ((Fm.pr (by decide) (by decide)).tr (Fm.pf (by decide)))))), ⟨wu_eq _ _ _ _, (by show 2 ≤ 24; decide), fun i hi => ?_⟩, ?_⟩
        · match i, hi with
          | 0, _ => rfl
          | 1, _ => rfl
          | i + 2, hi => exact absurd hi (by show ¬ i + 2 < 2; omega)
        · rw [wu_nk _ _ (by decide), wu_row (by decide), wu_nk _ _ (by decide), wu_row (by decide), wu_nk _ _ (by decide)]; exact hI.2

