/-! The model: twice, closed; the plain questions. -/
theorem c_mtwice {d : Nat} {m w : eW} {t : eT} {rl : List Int} {n : Int} (h : MX w m ∧ RowM w rl ∧ okI n) : Cl (d + 8) 260 [rA 67, (0, n)] (enc w t) (fun r S2 => ∃ w2, r = some (0, twiceV m n) ∧ S2 = enc w2 t ∧ Fm [86, 92, 93] [25, 26, 38] w w2 ∧ RowM w2 (twiceR m rl n) ∧ w2 67 26 = 0) := by
  obtain ⟨hX, hR, hn⟩ := h
  have he := hX.2.1
  unfold okI at hn
  have q0 : Fm [86, 92, 93] [25, 26, 38] w (wu w 67 26 0) := Fm.pf (by decide)
  refine g_twice0 (m := m) (D := fun _ => none) ?_
  simp (disch := omega) only [w32_id, w64_id]
  refine ⟨fun h1 => ?_, fun h1 => ?_⟩
  · have h1 := of_decide_eq_true h1
    have hV : twiceV m n = ((twM m n.toNat).1 : Int) := if_pos (by omega)
    have hRR : twiceR m rl n = [((twM m n.toNat).2 : Int)] := if_pos (by omega)
    rw [hV, hRR]
    obtain ⟨N, rfl⟩ : ∃ N : Nat, n = (N : Int) := ⟨n.toNat, by omega⟩
    rw [Int.toNat_natCast]
    have h27 := p27 (show N ≤ 4 by omega)
    refine lp0 (fun i => Ev (d + 8) 260 (fun r S2 => ∃ w2, r = some (0, ((twM m N).1 : Int)) ∧ S2 = enc w2 t ∧ Fm [86, 92, 93] [25, 26, 38] w w2 ∧ RowM w2 [((twM m N).2 : Int)] ∧ w2 67 26 = 0) 23 [rA 67, (0, (N : Int)), (0, ((27 ^ i : Nat) : Int)), (0, (i : Int)), (9, 0), (9, 0), (9, 0)] [] (enc (wu w 67 26 0) t)) N ?_ ?_ 0 (Nat.zero_le _)
    · intro i hi hE
      refine g_twice1 (m := m) (D := fun _ => none) ?_
      simp (disch := omega) only [w32_id]
      refine ⟨fun h9 => (by omega), fun _ => ?_⟩
      rw [show ((27 ^ i : Nat) : Int) * 27 = ((27 ^ (i + 1) : Nat) : Int) by rw [Nat.pow_succ]; omega]
      exact hE
    · refine g_twice1 (m := m) (D := fun _ => none) ?_
      simp (disch := omega) only [w32_id]
      refine ⟨fun _ => fun w1 hw1 => ?_, fun h9 => (by omega)⟩
      obtain ⟨f1, f2, f3⟩ := hw1
      have q1 : Fm [86, 92, 93] [25, 26, 38] w w1 := q0.tr (f1.m.mo (by decide) (by decide))
      have hlen := Nat.le_trans (tlL_len he 5 N 0 0) (Nat.le_trans (Nat.pow_le_pow_right (n := 16) (by decide) (show N ≤ 4 by omega)) (show 16 ^ 4 ≤ 65536 by decide))
      refine ⟨[], ⟨hX.m q1 (by decide) (by decide), f3, by rw [f2]; exact Int.le_refl _, ?_, ⟨by decide, by decide⟩, ⟨by omega, by omega, by rw [Int.toNat_natCast]; omega⟩, by decide, Nat.pow_pos (by decide)⟩, fun w3 t4 hp => ?_⟩
      · rw [Int.toNat_natCast]
        show 0 + (tlL m 5 N 0 0).length ≤ 400000
        omega
      · obtain ⟨p1, p2, p3, p4⟩ := hp
        subst p1
        rw [Int.toNat_natCast, show (0 : Int).toNat = 0 from rfl, List.nil_append] at p3
        have q2 : Fm [86, 92, 93] [25, 26, 38] w w3 := q1.tr (p2.mo (by decide) (by decide))
        have ht : w3 67 26 = 0 := by rw [p2.2 26 (by decide), f1.2 26 (by decide)]; exact wu_eq _ _ _ _
        have hL : (tl m N 0 0).length ≤ 65536 := hlen
        unfold twM
        generalize tl m N 0 0 = L at *
        generalize 27 ^ N = P at *
        refine lp0 (fun i => Ev (d + 8) 260 (fun r S2 => ∃ w2, r = some (0, ((tw1 L P).1 : Int)) ∧ S2 = enc w2 t4 ∧ Fm [86, 92, 93] [25, 26, 38] w w2 ∧ RowM w2 [((tw1 L P).2 : Int)] ∧ w2 67 26 = 0) 58 [rA 67, (0, (N : Int)), (0, (P : Int)), (0, ((tw1 L i).1 : Int)), (1, ((tw1 L i).2 : Int)), (9, 0), (0, (i : Int))] [] (enc w3 t4)) P ?_ ?_ 0 (Nat.zero_le _)
        · intro i hi hE
          have hb := tw1_b L i
          refine g_twice2 (m := m) (D := cD L) ?_
          simp (disch := omega) only [w32_id]
          refine ⟨fun h9 => (by omega), fun _ => ⟨⟨p3, by omega, by omega⟩, fun h2 => ?_, fun h2 => ⟨⟨p3, ⟨by omega, by omega⟩, h2⟩, ?_⟩⟩⟩
          · have hz := cD_none h2
            rw [tw1, if_neg (by omega)] at hE
            exact hE
          · rw [cD_some h2]
            have hcl : L.count i ≤ L.length := List.count_le_length
            simp (disch := omega) only [w64_id]
            refine ⟨fun h3 => ?_, fun h3 => ?_⟩
            · rw [tw1, if_pos (by omega)] at hE
              dsimp only at hE
              refine ⟨fun h4 => ?_, fun h4 => ⟨⟨p3, ⟨by omega, by omega⟩, h2⟩, ?_⟩⟩
              · rw [if_neg (by omega)] at hE; exact hE
              · rw [if_pos (by omega)] at hE; exact hE
            · rw [tw1, if_neg (by omega)] at hE
              exact hE
        · have hb := tw1_b L P
          refine g_twice2 (m := m) (D := cD L) ?_
          simp (disch := omega) only [w32_id]
          refine ⟨fun _ => ⟨_, by trivial, rfl, q2.tr ((Fm.pf (by decide)).tr ((Fm.pr (by decide) (by decide)).tr (Fm.pf (by decide)))), ⟨wu_eq _ _ _ _, by simp, fun j hj => ?_⟩, ?_⟩, fun h9 => (by omega)⟩
          · have : j = 0 := by simp at hj; omega
            subst this
            rfl
          · rw [wu_nk _ _ (by decide), wu_row (by decide), wu_nk _ _ (by decide)]; exact ht
  · have h1 := of_decide_eq_false h1
    have hV : twiceV m n = -1 := if_neg (by omega)
    have hRR : twiceR m rl n = rl := if_neg (by omega)
    rw [hV, hRR]
    exact ⟨_, by trivial, rfl, q0, hR.fr (wu_nk _ _ (by decide)) (wu_row (by decide)), wu_eq _ _ _ _⟩

theorem g_mkept {d : Nat} {Q : Option aV → aS → Prop} {w : eW} {t : eT} {i q : Int} (h : (((decide (w64 0 ≤ w64 (w32 i) ∧ w64 (w32 i) ≤ w64 (w32 ((w 67 17) - 1)))) = true → ((¬ w32 q = w32 (-1) → (0 ≤ w32 i ∧ w32 i < 20) ∧ (((decide (w64 0 ≤ w64 (w32 q) ∧ w64 (w32 q) ≤ w64 (w32 ((w 81 (w32 i).toNat) - 1)))) = false → Q (some (0, 0)) (enc (wu (wu w 67 26 0) 67 26 1) t)) ∧ ((decide (w64 0 ≤ w64 (w32 q) ∧ w64 (w32 q) ≤ w64 (w32 ((w 81 (w32 i).toNat) - 1)))) = true → (0 ≤ w32 ((16 * i) + q) ∧ w32 ((16 * i) + q) < 320) ∧ (Q (some (0, w 82 (w32 ((16 * i) + q)).toNat)) (enc (wu w 67 26 0) t))))) ∧ (¬ (¬ w32 q = w32 (-1)) → (0 ≤ w32 i ∧ w32 i < 20) ∧ (Q (some (0, w 81 (w32 i).toNat)) (enc (wu w 67 26 0) t))))) ∧ ((decide (w64 0 ≤ w64 (w32 i) ∧ w64 (w32 i) ≤ w64 (w32 ((w 67 17) - 1)))) = false → Q (some (0, 0)) (enc (wu (wu w 67 26 0) 67 26 1) t)))) : Cl (d + 1) 254 [rA 67, (0, i), (0, q)] (enc w t) Q := by
  show Ev (d + 1) 254 Q 0 [rA 67, (0, i), (0, q)] [] (enc w t)
  refine e_lda (v := 67) (show am_cd 254 0 = (2, 1, 0, 2, []) by decide +kernel) rfl ?_
  refine e_ic (show am_cd 254 1 = (0, 2, 0, 0, []) by decide +kernel) ?_
  refine e_putf (a := 67) (show am_cd 254 2 = (19, 5, 1226, 0, [113]) by decide +kernel) (by decide +kernel) (by decide +kernel) rfl (fun h9 => absurd h9 (by decide)) (fun h9 => absurd h9 (by decide +kernel)) ?_
  refine e_ldi (show am_cd 254 5 = (2, 6, 1, 0, []) by decide +kernel) rfl ?_
  refine e_i2l (show am_cd 254 6 = (8, 7, 0, 0, []) by decide +kernel) ?_
  refine e_lc (show am_cd 254 7 = (1, 8, 0, 0, []) by decide +kernel) ?_
  refine e_lda (v := 67) (show am_cd 254 8 = (2, 9, 0, 2, []) by decide +kernel) rfl ?_
  refine e_getfE (a := 67) (tg := 0) (v := w 67 17) (show am_cd 254 9 = (18, 12, 1217, 0, [189]) by decide +kernel) (by decide +kernel) (by decide +kernel) rfl rfl ?_
  refine e_ic (show am_cd 254 12 = (0, 13, 0, 1, []) by decide +kernel) ?_
  refine e_isub (show am_cd 254 13 = (5, 14, 1, 0, []) by decide +kernel) ?_
  refine e_i2l (show am_cd 254 14 = (8, 15, 0, 0, []) by decide +kernel) ?_
  refine e_cS (z := 0) (as := [(1, w32 i), (1, 0), (1, w32 ((w 67 17) - 1))]) (rest := []) (show am_cd 254 15 = (40, 18, 165, 1, [122]) by decide +kernel) (by decide) rfl rfl (Nat.le_of_ble_eq_true rfl) rfl ?_
  refine Cl.mono (Cl.up (c_in (d := d)) (by omega)) ?_
  rintro _ _ ⟨rfl, rfl⟩
  refine ⟨fun _ h9 => (by cases h9), ?_⟩
  show Ev _ 254 _ 18 [rA 67, (0, i), (0, q)] [(0, bI (decide (w64 0 ≤ w64 (w32 i) ∧ w64 (w32 i) ≤ w64 (w32 ((w 67 17) - 1)))))] _
  refine e_ifb1 (show am_cd 254 18 = (10, 21, 26, 1, []) by decide +kernel) (fun hc => ?_) (fun hc => ?_)
  · replace h := h.1 hc
    refine e_ldi (show am_cd 254 26 = (2, 27, 2, 0, []) by decide +kernel) rfl ?_
    refine e_ic (show am_cd 254 27 = (0, 28, 0, -1, []) by decide +kernel) ?_
    refine e_cmp1 (show am_cd 254 28 = (11, 31, 38, 1, []) by decide +kernel) (fun hc => ?_) (fun hc => ?_)
    · replace h := h.1 hc
      refine e_ldi (show am_cd 254 38 = (2, 39, 2, 0, []) by decide +kernel) rfl ?_
      refine e_i2l (show am_cd 254 39 = (8, 40, 0, 0, []) by decide +kernel) ?_
      refine e_lc (show am_cd 254 40 = (1, 41, 0, 0, []) by decide +kernel) ?_
      refine e_lda (v := 67) (show am_cd 254 41 = (2, 42, 0, 2, []) by decide +kernel) rfl ?_
      refine e_getr (a := 67) (r := 81) (show am_cd 254 42 = (18, 45, 1218, 2, [49]) by decide +kernel) (by decide +kernel) (by decide +kernel) rfl ?_
      refine e_ldi (show am_cd 254 45 = (2, 46, 1, 0, []) by decide +kernel) rfl ?_
      refine e_ialdE (a := 81) (n := 20) (v := w 81 (w32 i).toNat) (show am_cd 254 46 = (21, 47, 0, 0, []) by decide +kernel) (by decide +kernel) (by decide +kernel) (by decide +kernel) h.1 rfl ?_
      replace h := h.2
      refine e_ic (show am_cd 254 47 = (0, 48, 0, 1, []) by decide +kernel) ?_
      refine e_isub (show am_cd 254 48 = (5, 49, 1, 0, []) by decide +kernel) ?_
      refine e_i2l (show am_cd 254 49 = (8, 50, 0, 0, []) by decide +kernel) ?_
      refine e_cS (z := 0) (as := [(1, w32 q), (1, 0), (1, w32 ((w 81 (w32 i).toNat) - 1))]) (rest := []) (show am_cd 254 50 = (40, 53, 165, 1, [122]) by decide +kernel) (by decide) rfl rfl (Nat.le_of_ble_eq_true rfl) rfl ?_
      refine Cl.mono (Cl.up (c_in (d := d)) (by omega)) ?_
      rintro _ _ ⟨rfl, rfl⟩
      refine ⟨fun _ h9 => (by cases h9), ?_⟩
      show Ev _ 254 _ 53 [rA 67, (0, i), (0, q)] [(0, bI (decide (w64 0 ≤ w64 (w32 q) ∧ w64 (w32 q) ≤ w64 (w32 ((w 81 (w32 i).toNat) - 1)))))] _
      refine e_ifb0 (show am_cd 254 53 = (10, 56, 70, 0, []) by decide +kernel) (fun hc => ?_) (fun hc => ?_)
      · replace h := h.1 hc
        refine e_lda (v := 67) (show am_cd 254 70 = (2, 71, 0, 2, []) by decide +kernel) rfl ?_
        refine e_cV (z := 0) (a := 67) (as := []) (rest := []) (show am_cd 254 71 = (40, 74, 166, 0, [437]) by decide +kernel) (by decide +kernel) rfl rfl (Nat.le_of_ble_eq_true rfl) rfl ?_
        show Ev _ 166 _ 0 [rA 67] [] _
        refine e_lda (v := 67) (show am_cd 166 0 = (2, 1, 0, 2, []) by decide +kernel) rfl ?_
        refine e_ic (show am_cd 166 1 = (0, 2, 0, 1, []) by decide +kernel) ?_
        refine e_putf (a := 67) (show am_cd 166 2 = (19, 5, 1226, 0, [113]) by decide +kernel) (by decide +kernel) (by decide +kernel) rfl (fun h9 => absurd h9 (by decide)) (fun h9 => absurd h9 (by decide +kernel)) ?_
        refine e_ic (show am_cd 166 5 = (0, 6, 0, 0, []) by decide +kernel) ?_
        refine e_reti (show am_cd 166 6 = (36, 7, 0, 0, []) by decide +kernel) (by decide +kernel) ⟨fun _ h9 => (by cases h9), ?_⟩
        show Ev _ 254 _ 74 [rA 67, (0, i), (0, q)] [(0, 0)] _
        exact e_reti (show am_cd 254 74 = (36, 75, 0, 0, []) by decide +kernel) (by decide +kernel) h
      · replace h := h.2 hc
        refine e_lda (v := 67) (show am_cd 254 56 = (2, 57, 0, 2, []) by decide +kernel) rfl ?_
        refine e_getr (a := 67) (r := 82) (show am_cd 254 57 = (18, 60, 1219, 2, [52]) by decide +kernel) (by decide +kernel) (by decide +kernel) rfl ?_
        refine e_ic (show am_cd 254 60 = (0, 62, 1, 16, []) by decide +kernel) ?_
        refine e_ldi (show am_cd 254 62 = (2, 63, 1, 0, []) by decide +kernel) rfl ?_
        refine e_imul (show am_cd 254 63 = (5, 64, 2, 0, []) by decide +kernel) ?_
        refine e_ldi (show am_cd 254 64 = (2, 65, 2, 0, []) by decide +kernel) rfl ?_
        refine e_iadd (show am_cd 254 65 = (5, 66, 0, 0, []) by decide +kernel) ?_
        refine e_ialdE (a := 82) (n := 320) (v := w 82 (w32 ((16 * i) + q)).toNat) (show am_cd 254 66 = (21, 67, 0, 0, []) by decide +kernel) (by decide +kernel) (by decide +kernel) (by decide +kernel) h.1 rfl ?_
        replace h := h.2
        refine e_go (show am_cd 254 67 = (12, 74, 0, 0, []) by decide +kernel) ?_
        exact e_reti (show am_cd 254 74 = (36, 75, 0, 0, []) by decide +kernel) (by decide +kernel) h
    · replace h := h.2 hc
      refine e_lda (v := 67) (show am_cd 254 31 = (2, 32, 0, 2, []) by decide +kernel) rfl ?_
      refine e_getr (a := 67) (r := 81) (show am_cd 254 32 = (18, 35, 1218, 2, [49]) by decide +kernel) (by decide +kernel) (by decide +kernel) rfl ?_
      refine e_ldi (show am_cd 254 35 = (2, 36, 1, 0, []) by decide +kernel) rfl ?_
      refine e_ialdE (a := 81) (n := 20) (v := w 81 (w32 i).toNat) (show am_cd 254 36 = (21, 37, 0, 0, []) by decide +kernel) (by decide +kernel) (by decide +kernel) (by decide +kernel) h.1 rfl ?_
      replace h := h.2
      exact e_reti (show am_cd 254 37 = (36, 38, 0, 0, []) by decide +kernel) (by decide +kernel) h
  · replace h := h.2 hc
    refine e_lda (v := 67) (show am_cd 254 21 = (2, 22, 0, 2, []) by decide +kernel) rfl ?_
    refine e_cV (z := 0) (a := 67) (as := []) (rest := []) (show am_cd 254 22 = (40, 25, 166, 0, [437]) by decide +kernel) (by decide +kernel) rfl rfl (Nat.le_of_ble_eq_true rfl) rfl ?_
    show Ev _ 166 _ 0 [rA 67] [] _
    refine e_lda (v := 67) (show am_cd 166 0 = (2, 1, 0, 2, []) by decide +kernel) rfl ?_
    refine e_ic (show am_cd 166 1 = (0, 2, 0, 1, []) by decide +kernel) ?_
    refine e_putf (a := 67) (show am_cd 166 2 = (19, 5, 1226, 0, [113]) by decide +kernel) (by decide +kernel) (by decide +kernel) rfl (fun h9 => absurd h9 (by decide)) (fun h9 => absurd h9 (by decide +kernel)) ?_
    refine e_ic (show am_cd 166 5 = (0, 6, 0, 0, []) by decide +kernel) ?_
    refine e_reti (show am_cd 166 6 = (36, 7, 0, 0, []) by decide +kernel) (by decide +kernel) ⟨fun _ h9 => (by cases h9), ?_⟩
    show Ev _ 254 _ 25 [rA 67, (0, i), (0, q)] [(0, 0)] _
    exact e_reti (show am_cd 254 25 = (36, 26, 0, 0, []) by decide +kernel) (by decide +kernel) h

theorem g_mword {d : Nat} {Q : Option aV → aS → Prop} {w : eW} {t : eT} {i q : Int} (h : (((decide (w64 0 ≤ w64 (w32 i) ∧ w64 (w32 i) ≤ w64 (w32 ((w 67 17) - 1)))) = false → Q (some (0, 0)) (enc (wu (wu w 67 26 0) 67 26 1) t)) ∧ ((decide (w64 0 ≤ w64 (w32 i) ∧ w64 (w32 i) ≤ w64 (w32 ((w 67 17) - 1)))) = true → (0 ≤ w32 i ∧ w32 i < 20) ∧ ((¬ w32 (w 83 (w32 i).toNat) = w32 (-1) → ((¬ w32 q = w32 (-1) → (0 ≤ w32 i ∧ w32 i < 20) ∧ (((decide (w64 0 ≤ w64 (w32 q) ∧ w64 (w32 q) ≤ w64 (w32 ((w 83 (w32 i).toNat) - 1)))) = false → Q (some (0, 0)) (enc (wu (wu w 67 26 0) 67 26 1) t)) ∧ ((decide (w64 0 ≤ w64 (w32 q) ∧ w64 (w32 q) ≤ w64 (w32 ((w 83 (w32 i).toNat) - 1)))) = true → (0 ≤ w32 ((6 * i) + q) ∧ w32 ((6 * i) + q) < 120) ∧ (Q (some (0, w 84 (w32 ((6 * i) + q)).toNat)) (enc (wu w 67 26 0) t))))) ∧ (¬ (¬ w32 q = w32 (-1)) → (0 ≤ w32 i ∧ w32 i < 20) ∧ (Q (some (0, w 83 (w32 i).toNat)) (enc (wu w 67 26 0) t))))) ∧ (¬ (¬ w32 (w 83 (w32 i).toNat) = w32 (-1)) → Q (some (0, 0)) (enc (wu (wu w 67 26 0) 67 26 1) t)))))) : Cl (d + 1) 256 [rA 67, (0, i), (0, q)] (enc w t) Q := by
  show Ev (d + 1) 256 Q 0 [rA 67, (0, i), (0, q)] [] (enc w t)
  refine e_lda (v := 67) (show am_cd 256 0 = (2, 1, 0, 2, []) by decide +kernel) rfl ?_
  refine e_ic (show am_cd 256 1 = (0, 2, 0, 0, []) by decide +kernel) ?_
  refine e_putf (a := 67) (show am_cd 256 2 = (19, 5, 1226, 0, [113]) by decide +kernel) (by decide +kernel) (by decide +kernel) rfl (fun h9 => absurd h9 (by decide)) (fun h9 => absurd h9 (by decide +kernel)) ?_
  refine e_ldi (show am_cd 256 5 = (2, 6, 1, 0, []) by decide +kernel) rfl ?_
  refine e_i2l (show am_cd 256 6 = (8, 7, 0, 0, []) by decide +kernel) ?_
  refine e_lc (show am_cd 256 7 = (1, 8, 0, 0, []) by decide +kernel) ?_
  refine e_lda (v := 67) (show am_cd 256 8 = (2, 9, 0, 2, []) by decide +kernel) rfl ?_
  refine e_getfE (a := 67) (tg := 0) (v := w 67 17) (show am_cd 256 9 = (18, 12, 1217, 0, [189]) by decide +kernel) (by decide +kernel) (by decide +kernel) rfl rfl ?_
  refine e_ic (show am_cd 256 12 = (0, 13, 0, 1, []) by decide +kernel) ?_
  refine e_isub (show am_cd 256 13 = (5, 14, 1, 0, []) by decide +kernel) ?_
  refine e_i2l (show am_cd 256 14 = (8, 15, 0, 0, []) by decide +kernel) ?_
  refine e_cS (z := 0) (as := [(1, w32 i), (1, 0), (1, w32 ((w 67 17) - 1))]) (rest := []) (show am_cd 256 15 = (40, 18, 165, 1, [122]) by decide +kernel) (by decide) rfl rfl (Nat.le_of_ble_eq_true rfl) rfl ?_
  refine Cl.mono (Cl.up (c_in (d := d)) (by omega)) ?_
  rintro _ _ ⟨rfl, rfl⟩
  refine ⟨fun _ h9 => (by cases h9), ?_⟩
  show Ev _ 256 _ 18 [rA 67, (0, i), (0, q)] [(0, bI (decide (w64 0 ≤ w64 (w32 i) ∧ w64 (w32 i) ≤ w64 (w32 ((w 67 17) - 1)))))] _
  refine e_ifb0 (show am_cd 256 18 = (10, 21, 31, 0, []) by decide +kernel) (fun hc => ?_) (fun hc => ?_)
  · replace h := h.1 hc
    refine e_lda (v := 67) (show am_cd 256 31 = (2, 32, 0, 2, []) by decide +kernel) rfl ?_
    refine e_cV (z := 0) (a := 67) (as := []) (rest := []) (show am_cd 256 32 = (40, 35, 166, 0, [437]) by decide +kernel) (by decide +kernel) rfl rfl (Nat.le_of_ble_eq_true rfl) rfl ?_
    show Ev _ 166 _ 0 [rA 67] [] _
    refine e_lda (v := 67) (show am_cd 166 0 = (2, 1, 0, 2, []) by decide +kernel) rfl ?_
    refine e_ic (show am_cd 166 1 = (0, 2, 0, 1, []) by decide +kernel) ?_
    refine e_putf (a := 67) (show am_cd 166 2 = (19, 5, 1226, 0, [113]) by decide +kernel) (by decide +kernel) (by decide +kernel) rfl (fun h9 => absurd h9 (by decide)) (fun h9 => absurd h9 (by decide +kernel)) ?_
    refine e_ic (show am_cd 166 5 = (0, 6, 0, 0, []) by decide +kernel) ?_
    refine e_reti (show am_cd 166 6 = (36, 7, 0, 0, []) by decide +kernel) (by decide +kernel) ⟨fun _ h9 => (by cases h9), ?_⟩
    show Ev _ 256 _ 35 [rA 67, (0, i), (0, q)] [(0, 0)] _
    exact e_reti (show am_cd 256 35 = (36, 36, 0, 0, []) by decide +kernel) (by decide +kernel) h
  · replace h := h.2 hc
    refine e_lda (v := 67) (show am_cd 256 21 = (2, 22, 0, 2, []) by decide +kernel) rfl ?_
    refine e_getr (a := 67) (r := 83) (show am_cd 256 22 = (18, 25, 1220, 2, [55]) by decide +kernel) (by decide +kernel) (by decide +kernel) rfl ?_
    refine e_ldi (show am_cd 256 25 = (2, 26, 1, 0, []) by decide +kernel) rfl ?_
    refine e_ialdE (a := 83) (n := 20) (v := w 83 (w32 i).toNat) (show am_cd 256 26 = (21, 27, 0, 0, []) by decide +kernel) (by decide +kernel) (by decide +kernel) (by decide +kernel) h.1 rfl ?_
    replace h := h.2
    refine e_ic (show am_cd 256 27 = (0, 28, 0, -1, []) by decide +kernel) ?_
    refine e_cmp1 (show am_cd 256 28 = (11, 31, 36, 1, []) by decide +kernel) (fun hc => ?_) (fun hc => ?_)
    · replace h := h.1 hc
      refine e_ldi (show am_cd 256 36 = (2, 37, 2, 0, []) by decide +kernel) rfl ?_
      refine e_ic (show am_cd 256 37 = (0, 38, 0, -1, []) by decide +kernel) ?_
      refine e_cmp1 (show am_cd 256 38 = (11, 41, 48, 1, []) by decide +kernel) (fun hc => ?_) (fun hc => ?_)
      · replace h := h.1 hc
        refine e_ldi (show am_cd 256 48 = (2, 49, 2, 0, []) by decide +kernel) rfl ?_
        refine e_i2l (show am_cd 256 49 = (8, 50, 0, 0, []) by decide +kernel) ?_
        refine e_lc (show am_cd 256 50 = (1, 51, 0, 0, []) by decide +kernel) ?_
        refine e_lda (v := 67) (show am_cd 256 51 = (2, 52, 0, 2, []) by decide +kernel) rfl ?_
        refine e_getr (a := 67) (r := 83) (show am_cd 256 52 = (18, 55, 1220, 2, [55]) by decide +kernel) (by decide +kernel) (by decide +kernel) rfl ?_
        refine e_ldi (show am_cd 256 55 = (2, 56, 1, 0, []) by decide +kernel) rfl ?_
        refine e_ialdE (a := 83) (n := 20) (v := w 83 (w32 i).toNat) (show am_cd 256 56 = (21, 57, 0, 0, []) by decide +kernel) (by decide +kernel) (by decide +kernel) (by decide +kernel) h.1 rfl ?_
        replace h := h.2
        refine e_ic (show am_cd 256 57 = (0, 58, 0, 1, []) by decide +kernel) ?_
        refine e_isub (show am_cd 256 58 = (5, 59, 1, 0, []) by decide +kernel) ?_
        refine e_i2l (show am_cd 256 59 = (8, 60, 0, 0, []) by decide +kernel) ?_
        refine e_cS (z := 0) (as := [(1, w32 q), (1, 0), (1, w32 ((w 83 (w32 i).toNat) - 1))]) (rest := []) (show am_cd 256 60 = (40, 63, 165, 1, [122]) by decide +kernel) (by decide) rfl rfl (Nat.le_of_ble_eq_true rfl) rfl ?_
        refine Cl.mono (Cl.up (c_in (d := d)) (by omega)) ?_
        rintro _ _ ⟨rfl, rfl⟩
        refine ⟨fun _ h9 => (by cases h9), ?_⟩
        show Ev _ 256 _ 63 [rA 67, (0, i), (0, q)] [(0, bI (decide (w64 0 ≤ w64 (w32 q) ∧ w64 (w32 q) ≤ w64 (w32 ((w 83 (w32 i).toNat) - 1)))))] _
        refine e_ifb0 (show am_cd 256 63 = (10, 66, 80, 0, []) by decide +kernel) (fun hc => ?_) (fun hc => ?_)
        · replace h := h.1 hc
          refine e_lda (v := 67) (show am_cd 256 80 = (2, 81, 0, 2, []) by decide +kernel) rfl ?_
          refine e_cV (z := 0) (a := 67) (as := []) (rest := []) (show am_cd 256 81 = (40, 84, 166, 0, [437]) by decide +kernel) (by decide +kernel) rfl rfl (Nat.le_of_ble_eq_true rfl) rfl ?_
          show Ev _ 166 _ 0 [rA 67] [] _
          refine e_lda (v := 67) (show am_cd 166 0 = (2, 1, 0, 2, []) by decide +kernel) rfl ?_
          refine e_ic (show am_cd 166 1 = (0, 2, 0, 1, []) by decide +kernel) ?_
          refine e_putf (a := 67) (show am_cd 166 2 = (19, 5, 1226, 0, [113]) by decide +kernel) (by decide +kernel) (by decide +kernel) rfl (fun h9 => absurd h9 (by decide)) (fun h9 => absurd h9 (by decide +kernel)) ?_
          refine e_ic (show am_cd 166 5 = (0, 6, 0, 0, []) by decide +kernel) ?_
          refine e_reti (show am_cd 166 6 = (36, 7, 0, 0, []) by decide +kernel) (by decide +kernel) ⟨fun _ h9 => (by cases h9), ?_⟩
          show Ev _ 256 _ 84 [rA 67, (0, i), (0, q)] [(0, 0)] _
          exact e_reti (show am_cd 256 84 = (36, 85, 0, 0, []) by decide +kernel) (by decide +kernel) h
        · replace h := h.2 hc
          refine e_lda (v := 67) (show am_cd 256 66 = (2, 67, 0, 2, []) by decide +kernel) rfl ?_
          refine e_getr (a := 67) (r := 84) (show am_cd 256 67 = (18, 70, 1221, 2, [58]) by decide +kernel) (by decide +kernel) (by decide +kernel) rfl ?_
          refine e_ic (show am_cd 256 70 = (0, 72, 1, 6, []) by decide +kernel) ?_
          refine e_ldi (show am_cd 256 72 = (2, 73, 1, 0, []) by decide +kernel) rfl ?_
          refine e_imul (show am_cd 256 73 = (5, 74, 2, 0, []) by decide +kernel) ?_
          refine e_ldi (show am_cd 256 74 = (2, 75, 2, 0, []) by decide +kernel) rfl ?_
          refine e_iadd (show am_cd 256 75 = (5, 76, 0, 0, []) by decide +kernel) ?_
          refine e_ialdE (a := 84) (n := 120) (v := w 84 (w32 ((6 * i) + q)).toNat) (show am_cd 256 76 = (21, 77, 0, 0, []) by decide +kernel) (by decide +kernel) (by decide +kernel) (by decide +kernel) h.1 rfl ?_
          replace h := h.2
          refine e_go (show am_cd 256 77 = (12, 84, 0, 0, []) by decide +kernel) ?_
          exact e_reti (show am_cd 256 84 = (36, 85, 0, 0, []) by decide +kernel) (by decide +kernel) h
      · replace h := h.2 hc
        refine e_lda (v := 67) (show am_cd 256 41 = (2, 42, 0, 2, []) by decide +kernel) rfl ?_
        refine e_getr (a := 67) (r := 83) (show am_cd 256 42 = (18, 45, 1220, 2, [55]) by decide +kernel) (by decide +kernel) (by decide +kernel) rfl ?_
        refine e_ldi (show am_cd 256 45 = (2, 46, 1, 0, []) by decide +kernel) rfl ?_
        refine e_ialdE (a := 83) (n := 20) (v := w 83 (w32 i).toNat) (show am_cd 256 46 = (21, 47, 0, 0, []) by decide +kernel) (by decide +kernel) (by decide +kernel) (by decide +kernel) h.1 rfl ?_
        replace h := h.2
        exact e_reti (show am_cd 256 47 = (36, 48, 0, 0, []) by decide +kernel) (by decide +kernel) h
    · replace h := h.2 hc
      refine e_lda (v := 67) (show am_cd 256 31 = (2, 32, 0, 2, []) by decide +kernel) rfl ?_
      refine e_cV (z := 0) (a := 67) (as := []) (rest := []) (show am_cd 256 32 = (40, 35, 166, 0, [437]) by decide +kernel) (by decide +kernel) rfl rfl (Nat.le_of_ble_eq_true rfl) rfl ?_
      show Ev _ 166 _ 0 [rA 67] [] _
      refine e_lda (v := 67) (show am_cd 166 0 = (2, 1, 0, 2, []) by decide +kernel) rfl ?_
      refine e_ic (show am_cd 166 1 = (0, 2, 0, 1, []) by decide +kernel) ?_
      refine e_putf (a := 67) (show am_cd 166 2 = (19, 5, 1226, 0, [113]) by decide +kernel) (by decide +kernel) (by decide +kernel) rfl (fun h9 => absurd h9 (by decide)) (fun h9 => absurd h9 (by decide +kernel)) ?_
      refine e_ic (show am_cd 166 5 = (0, 6, 0, 0, []) by decide +kernel) ?_
      refine e_reti (show am_cd 166 6 = (36, 7, 0, 0, []) by decide +kernel) (by decide +kernel) ⟨fun _ h9 => (by cases h9), ?_⟩
      show Ev _ 256 _ 35 [rA 67, (0, i), (0, q)] [(0, 0)] _
      exact e_reti (show am_cd 256 35 = (36, 36, 0, 0, []) by decide +kernel) (by decide +kernel) h

theorem g_mrow {d : Nat} {Q : Option aV → aS → Prop} {w : eW} {t : eT} {i : Int} (h : (((decide (w64 0 ≤ w64 (w32 i) ∧ w64 (w32 i) ≤ w64 (w32 ((w 67 25) - 1)))) = false → Q (some (1, 0)) (enc (wu (wu w 67 26 0) 67 26 1) t)) ∧ ((decide (w64 0 ≤ w64 (w32 i) ∧ w64 (w32 i) ≤ w64 (w32 ((w 67 25) - 1)))) = true → (0 ≤ w32 i ∧ w32 i < 32) ∧ (Q (some (1, w 86 (w32 i).toNat)) (enc (wu w 67 26 0) t))))) : Cl (d + 1) 266 [rA 67, (0, i)] (enc w t) Q := by
  show Ev (d + 1) 266 Q 0 [rA 67, (0, i)] [] (enc w t)
  refine e_lda (v := 67) (show am_cd 266 0 = (2, 1, 0, 2, []) by decide +kernel) rfl ?_
  refine e_ic (show am_cd 266 1 = (0, 2, 0, 0, []) by decide +kernel) ?_
  refine e_putf (a := 67) (show am_cd 266 2 = (19, 5, 1226, 0, [113]) by decide +kernel) (by decide +kernel) (by decide +kernel) rfl (fun h9 => absurd h9 (by decide)) (fun h9 => absurd h9 (by decide +kernel)) ?_
  refine e_ldi (show am_cd 266 5 = (2, 6, 1, 0, []) by decide +kernel) rfl ?_
  refine e_i2l (show am_cd 266 6 = (8, 7, 0, 0, []) by decide +kernel) ?_
  refine e_lc (show am_cd 266 7 = (1, 8, 0, 0, []) by decide +kernel) ?_
  refine e_lda (v := 67) (show am_cd 266 8 = (2, 9, 0, 2, []) by decide +kernel) rfl ?_
  refine e_getfE (a := 67) (tg := 0) (v := w 67 25) (show am_cd 266 9 = (18, 12, 1225, 0, [116]) by decide +kernel) (by decide +kernel) (by decide +kernel) rfl rfl ?_
  refine e_ic (show am_cd 266 12 = (0, 13, 0, 1, []) by decide +kernel) ?_
  refine e_isub (show am_cd 266 13 = (5, 14, 1, 0, []) by decide +kernel) ?_
  refine e_i2l (show am_cd 266 14 = (8, 15, 0, 0, []) by decide +kernel) ?_
  refine e_cS (z := 0) (as := [(1, w32 i), (1, 0), (1, w32 ((w 67 25) - 1))]) (rest := []) (show am_cd 266 15 = (40, 18, 165, 1, [122]) by decide +kernel) (by decide) rfl rfl (Nat.le_of_ble_eq_true rfl) rfl ?_
  refine Cl.mono (Cl.up (c_in (d := d)) (by omega)) ?_
  rintro _ _ ⟨rfl, rfl⟩
  refine ⟨fun _ h9 => (by cases h9), ?_⟩
  show Ev _ 266 _ 18 [rA 67, (0, i)] [(0, bI (decide (w64 0 ≤ w64 (w32 i) ∧ w64 (w32 i) ≤ w64 (w32 ((w 67 25) - 1)))))] _
  refine e_ifb0 (show am_cd 266 18 = (10, 21, 30, 0, []) by decide +kernel) (fun hc => ?_) (fun hc => ?_)
  · replace h := h.1 hc
    refine e_lda (v := 67) (show am_cd 266 30 = (2, 31, 0, 2, []) by decide +kernel) rfl ?_
    refine e_cV (z := 0) (a := 67) (as := []) (rest := []) (show am_cd 266 31 = (40, 34, 166, 0, [437]) by decide +kernel) (by decide +kernel) rfl rfl (Nat.le_of_ble_eq_true rfl) rfl ?_
    show Ev _ 166 _ 0 [rA 67] [] _
    refine e_lda (v := 67) (show am_cd 166 0 = (2, 1, 0, 2, []) by decide +kernel) rfl ?_
    refine e_ic (show am_cd 166 1 = (0, 2, 0, 1, []) by decide +kernel) ?_
    refine e_putf (a := 67) (show am_cd 166 2 = (19, 5, 1226, 0, [113]) by decide +kernel) (by decide +kernel) (by decide +kernel) rfl (fun h9 => absurd h9 (by decide)) (fun h9 => absurd h9 (by decide +kernel)) ?_
    refine e_ic (show am_cd 166 5 = (0, 6, 0, 0, []) by decide +kernel) ?_
    refine e_reti (show am_cd 166 6 = (36, 7, 0, 0, []) by decide +kernel) (by decide +kernel) ⟨fun _ h9 => (by cases h9), ?_⟩
    show Ev _ 266 _ 34 [rA 67, (0, i)] [(0, 0)] _
    refine e_i2lK (r := 0) (show am_cd 266 34 = (8, 35, 0, 0, []) by decide +kernel) (by decide +kernel) ?_
    exact e_retl (show am_cd 266 35 = (36, 36, 1, 0, []) by decide +kernel) (by decide +kernel) h
  · replace h := h.2 hc
    refine e_lda (v := 67) (show am_cd 266 21 = (2, 22, 0, 2, []) by decide +kernel) rfl ?_
    refine e_getr (a := 67) (r := 86) (show am_cd 266 22 = (18, 25, 1224, 2, [65]) by decide +kernel) (by decide +kernel) (by decide +kernel) rfl ?_
    refine e_ldi (show am_cd 266 25 = (2, 26, 1, 0, []) by decide +kernel) rfl ?_
    refine e_laldE (a := 86) (n := 32) (v := w 86 (w32 i).toNat) (show am_cd 266 26 = (22, 27, 0, 0, []) by decide +kernel) (by decide +kernel) (by decide +kernel) (by decide +kernel) h.1 rfl ?_
    replace h := h.2
    refine e_go (show am_cd 266 27 = (12, 35, 0, 0, []) by decide +kernel) ?_
    exact e_retl (show am_cd 266 35 = (36, 36, 1, 0, []) by decide +kernel) (by decide +kernel) h

