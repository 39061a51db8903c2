/-! The model: holds, never (calls). -/
theorem g_holds0 {d : Nat} {Q : Option aV → aS → Prop} {w : eW} {t : eT} {p : Int} {m : eW} {wt : Nat} {ks : kT} {ml : List Nat} {wo : Int} {J : aV} (hw : w32 wo = wo) (h : (((decide (w64 0 ≤ w64 (w32 p) ∧ w64 (w32 p) ≤ w64 (w32 ((w 67 0) - 1)))) = true → (MG (wu w 67 26 0) m ∧ (wu w 67 26 0) 67 35 = -1 ∧ gP m p) ∧ (∀ w1, (Fm [92, 93] [38, 45] (wu w 67 26 0) w1 ∧ KnW (PmH m p.toNat) w1 ∧ w1 67 45 = p) → ((¬ w32 (fwI m p.toNat) = w32 (-1) → Ev (d + 14) 218 Q 66 [rA 67, (0, p), (0, fwI m p.toNat), (0, 16), (0, 16), (0, 16), (0, 0), (0, (fwI m p.toNat) - 1), (9, 0)] [] (enc (wu (wu w1 67 17 0) 67 40 0) t)) ∧ (¬ (¬ w32 (fwI m p.toNat) = w32 (-1)) → Q (some (0, (-2))) (enc w1 t))))) ∧ ((decide (w64 0 ≤ w64 (w32 p) ∧ w64 (w32 p) ≤ w64 (w32 ((w 67 0) - 1)))) = false → Q (some (0, (-1))) (enc (wu w 67 26 0) t)))) : Cl (d + 14) 218 [rA 67, (0, p)] (enc w t) Q := by
  show Ev (d + 14) 218 Q 0 [rA 67, (0, p), (9, 0), (9, 0), (9, 0), (9, 0), (9, 0), (9, 0), (9, 0)] [] (enc w t)
  refine e_lda (v := 67) (show am_cd 218 0 = (2, 1, 0, 2, []) by decide +kernel) rfl ?_
  refine e_ic (show am_cd 218 1 = (0, 2, 0, 0, []) by decide +kernel) ?_
  refine e_putf (a := 67) (show am_cd 218 2 = (19, 5, 1226, 0, [113]) by decide +kernel) (by decide +kernel) (by decide +kernel) rfl (fun h9 => absurd h9 (by decide)) (fun h9 => absurd h9 (by decide +kernel)) ?_
  refine e_ldi (show am_cd 218 5 = (2, 6, 1, 0, []) by decide +kernel) rfl ?_
  refine e_i2l (show am_cd 218 6 = (8, 7, 0, 0, []) by decide +kernel) ?_
  refine e_lc (show am_cd 218 7 = (1, 8, 0, 0, []) by decide +kernel) ?_
  refine e_lda (v := 67) (show am_cd 218 8 = (2, 9, 0, 2, []) by decide +kernel) rfl ?_
  refine e_getfE (a := 67) (tg := 0) (v := w 67 0) (show am_cd 218 9 = (18, 12, 1200, 0, [168]) by decide +kernel) (by decide +kernel) (by decide +kernel) rfl rfl ?_
  refine e_ic (show am_cd 218 12 = (0, 13, 0, 1, []) by decide +kernel) ?_
  refine e_isub (show am_cd 218 13 = (5, 14, 1, 0, []) by decide +kernel) ?_
  refine e_i2l (show am_cd 218 14 = (8, 15, 0, 0, []) by decide +kernel) ?_
  refine e_cS (z := 0) (as := [(1, w32 p), (1, 0), (1, w32 ((w 67 0) - 1))]) (rest := []) (show am_cd 218 15 = (40, 18, 165, 1, [122]) by decide +kernel) (by decide) rfl rfl (Nat.le_of_ble_eq_true rfl) rfl ?_
  refine Cl.mono (Cl.up (c_in (d := d)) (by omega)) ?_
  rintro _ _ ⟨rfl, rfl⟩
  refine ⟨fun _ h9 => (by cases h9), ?_⟩
  show Ev _ 218 _ 18 [rA 67, (0, p), (9, 0), (9, 0), (9, 0), (9, 0), (9, 0), (9, 0), (9, 0)] [(0, bI (decide (w64 0 ≤ w64 (w32 p) ∧ w64 (w32 p) ≤ w64 (w32 ((w 67 0) - 1)))))] _
  refine e_ifb1 (show am_cd 218 18 = (10, 21, 23, 1, []) by decide +kernel) (fun hc => ?_) (fun hc => ?_)
  · replace h := h.1 hc
    refine e_lda (v := 67) (show am_cd 218 23 = (2, 24, 0, 2, []) by decide +kernel) rfl ?_
    refine e_ldi (show am_cd 218 24 = (2, 25, 1, 0, []) by decide +kernel) rfl ?_
    refine e_cV (z := 0) (a := 67) (as := [(0, p)]) (rest := []) (show am_cd 218 25 = (40, 28, 217, 0, [314]) by decide +kernel) (by decide +kernel) rfl rfl (Nat.le_of_ble_eq_true rfl) rfl ?_
    refine Cl.mono (Cl.up (c_fewestWith (d := d) h.1) (by omega)) ?_
    rintro _ _ ⟨w1, rfl, rfl, hp⟩
    refine ⟨fun _ h9 => (by cases h9), ?_⟩
    replace h := h.2 w1 hp
    show Ev _ 218 _ 28 [rA 67, (0, p), (9, 0), (9, 0), (9, 0), (9, 0), (9, 0), (9, 0), (9, 0)] [(0, fwI m p.toNat)] _
    refine e_sti (la2 := [rA 67, (0, p), (0, fwI m p.toNat), (9, 0), (9, 0), (9, 0), (9, 0), (9, 0), (9, 0)]) (show am_cd 218 28 = (3, 29, 2, 0, []) by decide +kernel) rfl ?_
    refine e_ldi (show am_cd 218 29 = (2, 30, 2, 0, []) by decide +kernel) rfl ?_
    refine e_ic (show am_cd 218 30 = (0, 31, 0, -1, []) by decide +kernel) ?_
    refine e_cmp1 (show am_cd 218 31 = (11, 34, 37, 1, []) by decide +kernel) (fun hc => ?_) (fun hc => ?_)
    · replace h := h.1 hc
      refine e_ic (show am_cd 218 37 = (0, 39, 1, 16, []) by decide +kernel) ?_
      refine e_sti (la2 := [rA 67, (0, p), (0, fwI m p.toNat), (0, 16), (9, 0), (9, 0), (9, 0), (9, 0), (9, 0)]) (show am_cd 218 39 = (3, 40, 3, 0, []) by decide +kernel) rfl ?_
      refine e_ic (show am_cd 218 40 = (0, 42, 1, 16, []) by decide +kernel) ?_
      refine e_sti (la2 := [rA 67, (0, p), (0, fwI m p.toNat), (0, 16), (0, 16), (9, 0), (9, 0), (9, 0), (9, 0)]) (show am_cd 218 42 = (3, 44, 4, 0, []) by decide +kernel) rfl ?_
      refine e_ic (show am_cd 218 44 = (0, 46, 1, 16, []) by decide +kernel) ?_
      refine e_sti (la2 := [rA 67, (0, p), (0, fwI m p.toNat), (0, 16), (0, 16), (0, 16), (9, 0), (9, 0), (9, 0)]) (show am_cd 218 46 = (3, 48, 5, 0, []) by decide +kernel) rfl ?_
      refine e_ic (show am_cd 218 48 = (0, 49, 0, 0, []) by decide +kernel) ?_
      refine e_sti (la2 := [rA 67, (0, p), (0, fwI m p.toNat), (0, 16), (0, 16), (0, 16), (0, 0), (9, 0), (9, 0)]) (show am_cd 218 49 = (3, 51, 6, 0, []) by decide +kernel) rfl ?_
      refine e_lda (v := 67) (show am_cd 218 51 = (2, 52, 0, 2, []) by decide +kernel) rfl ?_
      refine e_ic (show am_cd 218 52 = (0, 53, 0, 0, []) by decide +kernel) ?_
      refine e_putf (a := 67) (show am_cd 218 53 = (19, 56, 1217, 0, [189]) by decide +kernel) (by decide +kernel) (by decide +kernel) rfl (fun h9 => absurd h9 (by decide)) (fun h9 => absurd h9 (by decide +kernel)) ?_
      refine e_lda (v := 67) (show am_cd 218 56 = (2, 57, 0, 2, []) by decide +kernel) rfl ?_
      refine e_ic (show am_cd 218 57 = (0, 58, 0, 0, []) by decide +kernel) ?_
      refine e_putf (a := 67) (show am_cd 218 58 = (19, 61, 1240, 0, [272]) by decide +kernel) (by decide +kernel) (by decide +kernel) rfl (fun h9 => absurd h9 (by decide)) (fun h9 => absurd h9 (by decide +kernel)) ?_
      refine e_ldi (show am_cd 218 61 = (2, 62, 2, 0, []) by decide +kernel) rfl ?_
      refine e_ic (show am_cd 218 62 = (0, 63, 0, 1, []) by decide +kernel) ?_
      refine e_isub (show am_cd 218 63 = (5, 64, 1, 0, []) by decide +kernel) ?_
      refine e_sti (la2 := [rA 67, (0, p), (0, fwI m p.toNat), (0, 16), (0, 16), (0, 16), (0, 0), (0, (fwI m p.toNat) - 1), (9, 0)]) (show am_cd 218 64 = (3, 66, 7, 0, []) by decide +kernel) rfl ?_
      exact h
    · replace h := h.2 hc
      refine e_ic (show am_cd 218 34 = (0, 36, 1, -2, []) by decide +kernel) ?_
      exact e_reti (show am_cd 218 36 = (36, 37, 0, 0, []) by decide +kernel) (by decide +kernel) h
  · replace h := h.2 hc
    refine e_ic (show am_cd 218 21 = (0, 22, 0, -1, []) by decide +kernel) ?_
    exact e_reti (show am_cd 218 22 = (36, 23, 0, 0, []) by decide +kernel) (by decide +kernel) h

theorem g_holds1 {d : Nat} {Q : Option aV → aS → Prop} {w : eW} {t : eT} {p n a b c z l : Int} {m : eW} {wt : Nat} {ks : kT} {ml : List Nat} {wo : Int} {J : aV} (hw : w32 wo = wo) (h : ((w32 l < 0 → (KM w ks ∧ MdM w ml) ∧ (∀ w1, (FrK w w1 ∧ KM w1 ((ks ++ [(ml, [])]).take 20)) → Q (some (0, n)) (enc w1 t))) ∧ (¬ (w32 l < 0) → Ev (d + 14) 218 Q 74 [rA 67, (0, p), (0, n), (0, a), (0, b), (0, c), (0, z), (0, l), (0, 0)] [] (enc w t)))) : Ev (d + 14) 218 Q 66 [rA 67, (0, p), (0, n), (0, a), (0, b), (0, c), (0, z), (0, l), J] [] (enc w t) := by
  refine e_ldi (show am_cd 218 66 = (2, 68, 7, 0, []) by decide +kernel) rfl ?_
  refine e_if2 (show am_cd 218 68 = (10, 71, 158, 2, []) by decide +kernel) (fun hc => ?_) (fun hc => ?_)
  · replace h := h.1 hc
    refine e_lda (v := 67) (show am_cd 218 158 = (2, 159, 0, 2, []) by decide +kernel) rfl ?_
    refine e_ic (show am_cd 218 159 = (0, 160, 0, 0, []) by decide +kernel) ?_
    refine e_cV (z := 0) (a := 67) (as := [(0, 0)]) (rest := []) (show am_cd 218 160 = (40, 163, 212, 0, [320]) by decide +kernel) (by decide +kernel) rfl rfl (Nat.le_of_ble_eq_true rfl) rfl ?_
    refine Cl.mono (Cl.up (c_keepsF (d := d) h.1) (by omega)) ?_
    rintro _ _ ⟨w1, rfl, rfl, hp⟩
    refine ⟨fun _ h9 => (by cases h9), ?_⟩
    replace h := h.2 w1 hp
    show Ev _ 218 _ 163 [rA 67, (0, p), (0, n), (0, a), (0, b), (0, c), (0, z), (0, l), J] [] _
    refine e_ldi (show am_cd 218 163 = (2, 164, 2, 0, []) by decide +kernel) rfl ?_
    exact e_reti (show am_cd 218 164 = (36, 165, 0, 0, []) by decide +kernel) (by decide +kernel) h
  · replace h := h.2 hc
    refine e_ic (show am_cd 218 71 = (0, 72, 0, 0, []) by decide +kernel) ?_
    refine e_sti (la2 := [rA 67, (0, p), (0, n), (0, a), (0, b), (0, c), (0, z), (0, l), (0, 0)]) (show am_cd 218 72 = (3, 74, 8, 0, []) by decide +kernel) rfl ?_
    exact h

theorem g_holds2 {d : Nat} {Q : Option aV → aS → Prop} {w : eW} {t : eT} {p n a b c z l q : Int} {m : eW} {wt : Nat} {ks : kT} {ml : List Nat} {wo : Int} {J : aV} (hw : w32 wo = wo) (h : (MG w m ∧ w 67 35 = wo ∧ gE a ∧ gE b ∧ gC m c ∧ gC m q) ∧ (((goes m wo a.toNat b.toNat c.toNat q.toNat) = false → Ev (d + 14) 218 Q 115 [rA 67, (0, p), (0, n), (0, a), (0, b), (0, c), (0, z), (0, l), (0, q)] [] (enc w t)) ∧ ((goes m wo a.toNat b.toNat c.toNat q.toNat) = true → ((¬ w32 q = w32 p → (HPR m wt 7 l z b c q w t) ∧ (∀ x1 w2 t3, (HPO m wt l z b c q w t x1 w2 t3) → ((¬ w32 x1 = 0 → Ev (d + 14) 218 Q 121 [rA 67, (0, p), (0, n), (0, a), (0, b), (0, c), (0, z), (0, l), (0, q)] [] (enc w2 t3)) ∧ (¬ (¬ w32 x1 = 0) → Ev (d + 14) 218 Q 115 [rA 67, (0, p), (0, n), (0, a), (0, b), (0, c), (0, z), (0, l), (0, q)] [] (enc w2 t3))))) ∧ (¬ (¬ w32 q = w32 p) → (HPR m wt 7 l 1 b c q w t) ∧ (∀ x4 w5 t6, (HPO m wt l 1 b c q w t x4 w5 t6) → ((¬ w32 x4 = 0 → Ev (d + 14) 218 Q 121 [rA 67, (0, p), (0, n), (0, a), (0, b), (0, c), (0, z), (0, l), (0, q)] [] (enc w5 t6)) ∧ (¬ (¬ w32 x4 = 0) → Ev (d + 14) 218 Q 115 [rA 67, (0, p), (0, n), (0, a), (0, b), (0, c), (0, z), (0, l), (0, q)] [] (enc w5 t6))))))))) : Ev (d + 14) 218 Q 74 [rA 67, (0, p), (0, n), (0, a), (0, b), (0, c), (0, z), (0, l), (0, q)] [] (enc w t) := by
  refine e_lda (v := 67) (show am_cd 218 74 = (2, 75, 0, 2, []) by decide +kernel) rfl ?_
  refine e_ldi (show am_cd 218 75 = (2, 76, 3, 0, []) by decide +kernel) rfl ?_
  refine e_ldi (show am_cd 218 76 = (2, 78, 4, 0, []) by decide +kernel) rfl ?_
  refine e_ldi (show am_cd 218 78 = (2, 80, 5, 0, []) by decide +kernel) rfl ?_
  refine e_ldi (show am_cd 218 80 = (2, 82, 8, 0, []) by decide +kernel) rfl ?_
  refine e_cV (z := 0) (a := 67) (as := [(0, a), (0, b), (0, c), (0, q)]) (rest := []) (show am_cd 218 82 = (40, 85, 210, 0, [282]) by decide +kernel) (by decide +kernel) rfl rfl (Nat.le_of_ble_eq_true rfl) rfl ?_
  refine Cl.mono (Cl.up (c_goes (hw := hw) (d := d) h.1) (by omega)) ?_
  rintro _ _ ⟨rfl, rfl⟩
  refine ⟨fun _ h9 => (by cases h9), ?_⟩
  replace h := h.2
  show Ev _ 218 _ 85 [rA 67, (0, p), (0, n), (0, a), (0, b), (0, c), (0, z), (0, l), (0, q)] [(0, bI (goes m wo a.toNat b.toNat c.toNat q.toNat))] _
  refine e_ifb0 (show am_cd 218 85 = (10, 88, 115, 0, []) by decide +kernel) (fun hc => ?_) (fun hc => ?_)
  · replace h := h.1 hc
    exact h
  · replace h := h.2 hc
    refine e_lda (v := 67) (show am_cd 218 88 = (2, 89, 0, 2, []) by decide +kernel) rfl ?_
    refine e_ldi (show am_cd 218 89 = (2, 91, 7, 0, []) by decide +kernel) rfl ?_
    refine e_ldi (show am_cd 218 91 = (2, 93, 8, 0, []) by decide +kernel) rfl ?_
    refine e_ldi (show am_cd 218 93 = (2, 94, 1, 0, []) by decide +kernel) rfl ?_
    refine e_cmp1 (show am_cd 218 94 = (11, 97, 101, 1, []) by decide +kernel) (fun hc => ?_) (fun hc => ?_)
    · replace h := h.1 hc
      refine e_ldi (show am_cd 218 101 = (2, 103, 6, 0, []) by decide +kernel) rfl ?_
      refine e_ldi (show am_cd 218 103 = (2, 105, 4, 0, []) by decide +kernel) rfl ?_
      refine e_ldi (show am_cd 218 105 = (2, 107, 5, 0, []) by decide +kernel) rfl ?_
      refine e_ldi (show am_cd 218 107 = (2, 109, 8, 0, []) by decide +kernel) rfl ?_
      refine e_cV (z := 0) (a := 67) (as := [(0, l), (0, z), (0, b), (0, c), (0, q)]) (rest := []) (show am_cd 218 109 = (40, 112, 216, 0, [304]) by decide +kernel) (by decide +kernel) rfl rfl (Nat.le_of_ble_eq_true rfl) rfl ?_
      refine Cl.mono (Cl.up (c_holdsFromB (d := d) 7 _ _ _ _ _ _ _ h.1) (by omega)) ?_
      rintro _ _ ⟨x1, w2, t3, rfl, rfl, hp⟩
      refine ⟨fun _ h9 => (by cases h9), ?_⟩
      replace h := h.2 x1 w2 t3 hp
      show Ev _ 218 _ 112 [rA 67, (0, p), (0, n), (0, a), (0, b), (0, c), (0, z), (0, l), (0, q)] [(0, x1)] _
      refine e_if1 (show am_cd 218 112 = (10, 115, 121, 1, []) by decide +kernel) (fun hc => ?_) (fun hc => ?_)
      · replace h := h.1 hc
        exact h
      · replace h := h.2 hc
        exact h
    · replace h := h.2 hc
      refine e_ic (show am_cd 218 97 = (0, 98, 0, 1, []) by decide +kernel) ?_
      refine e_go (show am_cd 218 98 = (12, 103, 0, 0, []) by decide +kernel) ?_
      refine e_ldi (show am_cd 218 103 = (2, 105, 4, 0, []) by decide +kernel) rfl ?_
      refine e_ldi (show am_cd 218 105 = (2, 107, 5, 0, []) by decide +kernel) rfl ?_
      refine e_ldi (show am_cd 218 107 = (2, 109, 8, 0, []) by decide +kernel) rfl ?_
      refine e_cV (z := 0) (a := 67) (as := [(0, l), (0, 1), (0, b), (0, c), (0, q)]) (rest := []) (show am_cd 218 109 = (40, 112, 216, 0, [304]) by decide +kernel) (by decide +kernel) rfl rfl (Nat.le_of_ble_eq_true rfl) rfl ?_
      refine Cl.mono (Cl.up (c_holdsFromB (d := d) 7 _ _ _ _ _ _ _ h.1) (by omega)) ?_
      rintro _ _ ⟨x4, w5, t6, rfl, rfl, hp⟩
      refine ⟨fun _ h9 => (by cases h9), ?_⟩
      replace h := h.2 x4 w5 t6 hp
      show Ev _ 218 _ 112 [rA 67, (0, p), (0, n), (0, a), (0, b), (0, c), (0, z), (0, l), (0, q)] [(0, x4)] _
      refine e_if1 (show am_cd 218 112 = (10, 115, 121, 1, []) by decide +kernel) (fun hc => ?_) (fun hc => ?_)
      · replace h := h.1 hc
        exact h
      · replace h := h.2 hc
        exact h

theorem g_holds3 {d : Nat} {Q : Option aV → aS → Prop} {w : eW} {t : eT} {p n a b c z l q : Int} {m : eW} {wt : Nat} {ks : kT} {ml : List Nat} {wo : Int} {J : aV} (hw : w32 wo = wo) (h : ((¬ w32 q = w32 p → (0 ≤ w32 (w 67 40) ∧ w32 (w 67 40) < 16) ∧ (Ev (d + 14) 218 Q 66 [rA 67, (0, p), (0, n), (0, b), (0, c), (0, q), (0, z), (0, l + (-1)), (0, q)] [] (enc (wu (wu w 94 (w32 (w 67 40)).toNat q) 67 40 ((w 67 40) + 1)) t))) ∧ (¬ (¬ w32 q = w32 p) → (0 ≤ w32 (w 67 40) ∧ w32 (w 67 40) < 16) ∧ (Ev (d + 14) 218 Q 66 [rA 67, (0, p), (0, n), (0, b), (0, c), (0, q), (0, 1), (0, l + (-1)), (0, q)] [] (enc (wu (wu w 94 (w32 (w 67 40)).toNat q) 67 40 ((w 67 40) + 1)) t))))) : Ev (d + 14) 218 Q 121 [rA 67, (0, p), (0, n), (0, a), (0, b), (0, c), (0, z), (0, l), (0, q)] [] (enc w t) := by
  refine e_ldi (show am_cd 218 121 = (2, 123, 8, 0, []) by decide +kernel) rfl ?_
  refine e_ldi (show am_cd 218 123 = (2, 124, 1, 0, []) by decide +kernel) rfl ?_
  refine e_cmp1 (show am_cd 218 124 = (11, 127, 131, 1, []) by decide +kernel) (fun hc => ?_) (fun hc => ?_)
  · replace h := h.1 hc
    refine e_ldi (show am_cd 218 131 = (2, 133, 6, 0, []) by decide +kernel) rfl ?_
    refine e_sti (la2 := [rA 67, (0, p), (0, n), (0, a), (0, b), (0, c), (0, z), (0, l), (0, q)]) (show am_cd 218 133 = (3, 135, 6, 0, []) by decide +kernel) rfl ?_
    refine e_ldi (show am_cd 218 135 = (2, 137, 4, 0, []) by decide +kernel) rfl ?_
    refine e_sti (la2 := [rA 67, (0, p), (0, n), (0, b), (0, b), (0, c), (0, z), (0, l), (0, q)]) (show am_cd 218 137 = (3, 138, 3, 0, []) by decide +kernel) rfl ?_
    refine e_ldi (show am_cd 218 138 = (2, 140, 5, 0, []) by decide +kernel) rfl ?_
    refine e_sti (la2 := [rA 67, (0, p), (0, n), (0, b), (0, c), (0, c), (0, z), (0, l), (0, q)]) (show am_cd 218 140 = (3, 142, 4, 0, []) by decide +kernel) rfl ?_
    refine e_ldi (show am_cd 218 142 = (2, 144, 8, 0, []) by decide +kernel) rfl ?_
    refine e_sti (la2 := [rA 67, (0, p), (0, n), (0, b), (0, c), (0, q), (0, z), (0, l), (0, q)]) (show am_cd 218 144 = (3, 146, 5, 0, []) by decide +kernel) rfl ?_
    refine e_lda (v := 67) (show am_cd 218 146 = (2, 147, 0, 2, []) by decide +kernel) rfl ?_
    refine e_ldi (show am_cd 218 147 = (2, 149, 8, 0, []) by decide +kernel) rfl ?_
    refine e_cV (z := 0) (a := 67) (as := [(0, q)]) (rest := []) (show am_cd 218 149 = (40, 152, 213, 0, [317]) by decide +kernel) (by decide +kernel) rfl rfl (Nat.le_of_ble_eq_true rfl) rfl ?_
    show Ev _ 213 _ 0 [rA 67, (0, q)] [] _
    refine e_lda (v := 67) (show am_cd 213 0 = (2, 1, 0, 2, []) by decide +kernel) rfl ?_
    refine e_getr (a := 67) (r := 94) (show am_cd 213 1 = (18, 4, 1239, 2, [95]) by decide +kernel) (by decide +kernel) (by decide +kernel) rfl ?_
    refine e_lda (v := 67) (show am_cd 213 4 = (2, 5, 0, 2, []) by decide +kernel) rfl ?_
    refine e_getf (a := 67) (tg := 0) (show am_cd 213 5 = (18, 8, 1240, 0, [272]) by decide +kernel) (by decide +kernel) (by decide +kernel) rfl ?_
    refine e_ldi (show am_cd 213 8 = (2, 9, 1, 0, []) by decide +kernel) rfl ?_
    refine e_iast (a := 94) (n := 16) (show am_cd 213 9 = (24, 10, 0, 0, []) by decide +kernel) (by decide +kernel) (by decide +kernel) (by decide +kernel) h.1 ?_
    replace h := h.2
    refine e_lda (v := 67) (show am_cd 213 10 = (2, 11, 0, 2, []) by decide +kernel) rfl ?_
    refine e_dup (show am_cd 213 11 = (13, 12, 0, 0, []) by decide +kernel) (by decide) ?_
    refine e_getfE (a := 67) (tg := 0) (v := w 67 40) (show am_cd 213 12 = (18, 15, 1240, 0, [272]) by decide +kernel) (by decide +kernel) (by decide +kernel) rfl rfl ?_
    refine e_ic (show am_cd 213 15 = (0, 16, 0, 1, []) by decide +kernel) ?_
    refine e_iadd (show am_cd 213 16 = (5, 17, 0, 0, []) by decide +kernel) ?_
    refine e_putf (a := 67) (show am_cd 213 17 = (19, 20, 1240, 0, [272]) by decide +kernel) (by decide +kernel) (by decide +kernel) rfl (fun h9 => absurd h9 (by decide)) (fun h9 => absurd h9 (by decide +kernel)) ?_
    refine e_retv (show am_cd 213 20 = (36, 21, 3, 0, []) by decide +kernel) (by decide +kernel) ⟨fun _ h9 => (by cases h9), ?_⟩
    show Ev _ 218 _ 152 [rA 67, (0, p), (0, n), (0, b), (0, c), (0, q), (0, z), (0, l), (0, q)] [] _
    refine e_inc (la2 := [rA 67, (0, p), (0, n), (0, b), (0, c), (0, q), (0, z), (0, l + (-1)), (0, q)]) (show am_cd 218 152 = (4, 155, 7, -1, []) by decide +kernel) rfl rfl ?_
    refine e_go (show am_cd 218 155 = (12, 66, 0, 0, []) by decide +kernel) ?_
    exact h
  · replace h := h.2 hc
    refine e_ic (show am_cd 218 127 = (0, 128, 0, 1, []) by decide +kernel) ?_
    refine e_go (show am_cd 218 128 = (12, 133, 0, 0, []) by decide +kernel) ?_
    refine e_sti (la2 := [rA 67, (0, p), (0, n), (0, a), (0, b), (0, c), (0, 1), (0, l), (0, q)]) (show am_cd 218 133 = (3, 135, 6, 0, []) by decide +kernel) rfl ?_
    refine e_ldi (show am_cd 218 135 = (2, 137, 4, 0, []) by decide +kernel) rfl ?_
    refine e_sti (la2 := [rA 67, (0, p), (0, n), (0, b), (0, b), (0, c), (0, 1), (0, l), (0, q)]) (show am_cd 218 137 = (3, 138, 3, 0, []) by decide +kernel) rfl ?_
    refine e_ldi (show am_cd 218 138 = (2, 140, 5, 0, []) by decide +kernel) rfl ?_
    refine e_sti (la2 := [rA 67, (0, p), (0, n), (0, b), (0, c), (0, c), (0, 1), (0, l), (0, q)]) (show am_cd 218 140 = (3, 142, 4, 0, []) by decide +kernel) rfl ?_
    refine e_ldi (show am_cd 218 142 = (2, 144, 8, 0, []) by decide +kernel) rfl ?_
    refine e_sti (la2 := [rA 67, (0, p), (0, n), (0, b), (0, c), (0, q), (0, 1), (0, l), (0, q)]) (show am_cd 218 144 = (3, 146, 5, 0, []) by decide +kernel) rfl ?_
    refine e_lda (v := 67) (show am_cd 218 146 = (2, 147, 0, 2, []) by decide +kernel) rfl ?_
    refine e_ldi (show am_cd 218 147 = (2, 149, 8, 0, []) by decide +kernel) rfl ?_
    refine e_cV (z := 0) (a := 67) (as := [(0, q)]) (rest := []) (show am_cd 218 149 = (40, 152, 213, 0, [317]) by decide +kernel) (by decide +kernel) rfl rfl (Nat.le_of_ble_eq_true rfl) rfl ?_
    show Ev _ 213 _ 0 [rA 67, (0, q)] [] _
    refine e_lda (v := 67) (show am_cd 213 0 = (2, 1, 0, 2, []) by decide +kernel) rfl ?_
    refine e_getr (a := 67) (r := 94) (show am_cd 213 1 = (18, 4, 1239, 2, [95]) by decide +kernel) (by decide +kernel) (by decide +kernel) rfl ?_
    refine e_lda (v := 67) (show am_cd 213 4 = (2, 5, 0, 2, []) by decide +kernel) rfl ?_
    refine e_getf (a := 67) (tg := 0) (show am_cd 213 5 = (18, 8, 1240, 0, [272]) by decide +kernel) (by decide +kernel) (by decide +kernel) rfl ?_
    refine e_ldi (show am_cd 213 8 = (2, 9, 1, 0, []) by decide +kernel) rfl ?_
    refine e_iast (a := 94) (n := 16) (show am_cd 213 9 = (24, 10, 0, 0, []) by decide +kernel) (by decide +kernel) (by decide +kernel) (by decide +kernel) h.1 ?_
    replace h := h.2
    refine e_lda (v := 67) (show am_cd 213 10 = (2, 11, 0, 2, []) by decide +kernel) rfl ?_
    refine e_dup (show am_cd 213 11 = (13, 12, 0, 0, []) by decide +kernel) (by decide) ?_
    refine e_getfE (a := 67) (tg := 0) (v := w 67 40) (show am_cd 213 12 = (18, 15, 1240, 0, [272]) by decide +kernel) (by decide +kernel) (by decide +kernel) rfl rfl ?_
    refine e_ic (show am_cd 213 15 = (0, 16, 0, 1, []) by decide +kernel) ?_
    refine e_iadd (show am_cd 213 16 = (5, 17, 0, 0, []) by decide +kernel) ?_
    refine e_putf (a := 67) (show am_cd 213 17 = (19, 20, 1240, 0, [272]) by decide +kernel) (by decide +kernel) (by decide +kernel) rfl (fun h9 => absurd h9 (by decide)) (fun h9 => absurd h9 (by decide +kernel)) ?_
    refine e_retv (show am_cd 213 20 = (36, 21, 3, 0, []) by decide +kernel) (by decide +kernel) ⟨fun _ h9 => (by cases h9), ?_⟩
    show Ev _ 218 _ 152 [rA 67, (0, p), (0, n), (0, b), (0, c), (0, q), (0, 1), (0, l), (0, q)] [] _
    refine e_inc (la2 := [rA 67, (0, p), (0, n), (0, b), (0, c), (0, q), (0, 1), (0, l + (-1)), (0, q)]) (show am_cd 218 152 = (4, 155, 7, -1, []) by decide +kernel) rfl rfl ?_
    refine e_go (show am_cd 218 155 = (12, 66, 0, 0, []) by decide +kernel) ?_
    exact h

theorem g_holds4 {d : Nat} {Q : Option aV → aS → Prop} {w : eW} {t : eT} {p n a b c z l q : Int} {m : eW} {wt : Nat} {ks : kT} {ml : List Nat} {wo : Int} {J : aV} (hw : w32 wo = wo) (h : Ev (d + 14) 218 Q 74 [rA 67, (0, p), (0, n), (0, a), (0, b), (0, c), (0, z), (0, l), (0, q + 1)] [] (enc w t)) : Ev (d + 14) 218 Q 115 [rA 67, (0, p), (0, n), (0, a), (0, b), (0, c), (0, z), (0, l), (0, q)] [] (enc w t) := by
  refine e_inc (la2 := [rA 67, (0, p), (0, n), (0, a), (0, b), (0, c), (0, z), (0, l), (0, q + 1)]) (show am_cd 218 115 = (4, 118, 8, 1, []) by decide +kernel) rfl rfl ?_
  refine e_go (show am_cd 218 118 = (12, 74, 0, 0, []) by decide +kernel) ?_
  exact h

theorem g_never0 {d : Nat} {Q : Option aV → aS → Prop} {w : eW} {t : eT} {m : eW} {wt : Nat} {ks : kT} {ml : List Nat} {wo : Int} {J : aV} (hw : w32 wo = wo) (h : Ev (d + 14) 219 Q 9 [rA 67, (0, 0), (0, 0)] [] (enc (wu w 67 26 0) t)) : Cl (d + 14) 219 [rA 67] (enc w t) Q := by
  show Ev (d + 14) 219 Q 0 [rA 67, (9, 0), (9, 0)] [] (enc w t)
  refine e_lda (v := 67) (show am_cd 219 0 = (2, 1, 0, 2, []) by decide +kernel) rfl ?_
  refine e_ic (show am_cd 219 1 = (0, 2, 0, 0, []) by decide +kernel) ?_
  refine e_putf (a := 67) (show am_cd 219 2 = (19, 5, 1226, 0, [113]) by decide +kernel) (by decide +kernel) (by decide +kernel) rfl (fun h9 => absurd h9 (by decide)) (fun h9 => absurd h9 (by decide +kernel)) ?_
  refine e_ic (show am_cd 219 5 = (0, 6, 0, 0, []) by decide +kernel) ?_
  refine e_sti (la2 := [rA 67, (0, 0), (9, 0)]) (show am_cd 219 6 = (3, 7, 1, 0, []) by decide +kernel) rfl ?_
  refine e_ic (show am_cd 219 7 = (0, 8, 0, 0, []) by decide +kernel) ?_
  refine e_sti (la2 := [rA 67, (0, 0), (0, 0)]) (show am_cd 219 8 = (3, 9, 2, 0, []) by decide +kernel) rfl ?_
  exact h

theorem g_never1 {d : Nat} {Q : Option aV → aS → Prop} {w : eW} {t : eT} {x i : Int} {m : eW} {wt : Nat} {ks : kT} {ml : List Nat} {wo : Int} {J : aV} (hw : w32 wo = wo) (h : ((w32 (w 67 0) ≤ w32 i → Q (some (0, x)) (enc w t)) ∧ (¬ (w32 (w 67 0) ≤ w32 i) → (MG w m ∧ w 67 35 = -1 ∧ gP m i) ∧ (∀ w1, (Fm [92, 93] [38, 45] w w1 ∧ KnW (PmH m i.toNat) w1 ∧ w1 67 45 = i) → ((¬ w32 (fwI m i.toNat) = w32 (-1) → Ev (d + 14) 219 Q 9 [rA 67, (0, ior x 0), (0, i + 1)] [] (enc w1 t)) ∧ (¬ (¬ w32 (fwI m i.toNat) = w32 (-1)) → Ev (d + 14) 219 Q 9 [rA 67, (0, ior x (ishl 1 i)), (0, i + 1)] [] (enc w1 t))))))) : Ev (d + 14) 219 Q 9 [rA 67, (0, x), (0, i)] [] (enc w t) := by
  refine e_ldi (show am_cd 219 9 = (2, 10, 2, 0, []) by decide +kernel) rfl ?_
  refine e_lda (v := 67) (show am_cd 219 10 = (2, 11, 0, 2, []) by decide +kernel) rfl ?_
  refine e_getf (a := 67) (tg := 0) (show am_cd 219 11 = (18, 14, 1200, 0, [168]) by decide +kernel) (by decide +kernel) (by decide +kernel) rfl ?_
  refine e_cmp3 (show am_cd 219 14 = (11, 17, 42, 3, []) by decide +kernel) (fun hc => ?_) (fun hc => ?_)
  · replace h := h.1 hc
    refine e_ldi (show am_cd 219 42 = (2, 43, 1, 0, []) by decide +kernel) rfl ?_
    exact e_reti (show am_cd 219 43 = (36, 44, 0, 0, []) by decide +kernel) (by decide +kernel) h
  · replace h := h.2 hc
    refine e_ldi (show am_cd 219 17 = (2, 18, 1, 0, []) by decide +kernel) rfl ?_
    refine e_lda (v := 67) (show am_cd 219 18 = (2, 19, 0, 2, []) by decide +kernel) rfl ?_
    refine e_ldi (show am_cd 219 19 = (2, 20, 2, 0, []) by decide +kernel) rfl ?_
    refine e_cV (z := 0) (a := 67) (as := [(0, i)]) (rest := [(0, x)]) (show am_cd 219 20 = (40, 23, 217, 0, [314]) by decide +kernel) (by decide +kernel) rfl rfl (Nat.le_of_ble_eq_true rfl) rfl ?_
    refine Cl.mono (Cl.up (c_fewestWith (d := d) h.1) (by omega)) ?_
    rintro _ _ ⟨w1, rfl, rfl, hp⟩
    refine ⟨fun _ h9 => (by cases h9), ?_⟩
    replace h := h.2 w1 hp
    show Ev _ 219 _ 23 [rA 67, (0, x), (0, i)] [(0, fwI m i.toNat), (0, x)] _
    refine e_ic (show am_cd 219 23 = (0, 24, 0, -1, []) by decide +kernel) ?_
    refine e_cmp1 (show am_cd 219 24 = (11, 27, 33, 1, []) by decide +kernel) (fun hc => ?_) (fun hc => ?_)
    · replace h := h.1 hc
      refine e_ic (show am_cd 219 33 = (0, 34, 0, 0, []) by decide +kernel) ?_
      refine e_ior (show am_cd 219 34 = (5, 35, 4, 0, []) by decide +kernel) ?_
      refine e_sti (la2 := [rA 67, (0, ior x 0), (0, i)]) (show am_cd 219 35 = (3, 36, 1, 0, []) by decide +kernel) rfl ?_
      refine e_inc (la2 := [rA 67, (0, ior x 0), (0, i + 1)]) (show am_cd 219 36 = (4, 39, 2, 1, []) by decide +kernel) rfl rfl ?_
      refine e_go (show am_cd 219 39 = (12, 9, 0, 0, []) by decide +kernel) ?_
      exact h
    · replace h := h.2 hc
      refine e_ic (show am_cd 219 27 = (0, 28, 0, 1, []) by decide +kernel) ?_
      refine e_ldi (show am_cd 219 28 = (2, 29, 2, 0, []) by decide +kernel) rfl ?_
      refine e_ishl (show am_cd 219 29 = (5, 30, 6, 0, []) by decide +kernel) ?_
      refine e_go (show am_cd 219 30 = (12, 34, 0, 0, []) by decide +kernel) ?_
      refine e_ior (show am_cd 219 34 = (5, 35, 4, 0, []) by decide +kernel) ?_
      refine e_sti (la2 := [rA 67, (0, ior x (ishl 1 i)), (0, i)]) (show am_cd 219 35 = (3, 36, 1, 0, []) by decide +kernel) rfl ?_
      refine e_inc (la2 := [rA 67, (0, ior x (ishl 1 i)), (0, i + 1)]) (show am_cd 219 36 = (4, 39, 2, 1, []) by decide +kernel) rfl rfl ?_
      refine e_go (show am_cd 219 39 = (12, 9, 0, 0, []) by decide +kernel) ?_
      exact h

