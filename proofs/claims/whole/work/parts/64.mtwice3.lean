/-! The model: twice. -/
theorem tw1_b (L : List Nat) (k : Nat) : (tw1 L k).1 ≤ k ∧ (tw1 L k).2 ≤ L.length := by
  induction k with
  | zero => exact ⟨Nat.le_refl _, Nat.zero_le _⟩
  | succ k ih =>
    unfold tw1
    split
    · refine ⟨by show _ + 1 ≤ _; omega, ?_⟩
      show (if _ then _ else _) ≤ _
      split
      · exact List.count_le_length
      · exact ih.2
    · omega
def twM (m : eW) (n : Nat) : Nat × Nat := tw1 (tl m n 0 0) (27 ^ n)
def twiceV (m : eW) (n : Int) : Int := if 1 ≤ n ∧ n ≤ 4 then ((twM m n.toNat).1 : Int) else -1
def twiceR (m : eW) (rl : List Int) (n : Int) : List Int := if 1 ≤ n ∧ n ≤ 4 then [((twM m n.toNat).2 : Int)] else rl

theorem g_twice0 {d : Nat} {Q : Option aV → aS → Prop} {w : eW} {t : eT} {n : Int} {m : eW} {D : Int → Option Int} (h : (((decide (w64 1 ≤ w64 (w32 n) ∧ w64 (w32 n) ≤ w64 4)) = true → Ev (d + 8) 260 Q 23 [rA 67, (0, n), (0, 1), (0, 0), (9, 0), (9, 0), (9, 0)] [] (enc (wu w 67 26 0) t)) ∧ ((decide (w64 1 ≤ w64 (w32 n) ∧ w64 (w32 n) ≤ w64 4)) = false → Q (some (0, (-1))) (enc (wu w 67 26 0) t)))) : Cl (d + 8) 260 [rA 67, (0, n)] (enc w t) Q := by
  show Ev (d + 8) 260 Q 0 [rA 67, (0, n), (9, 0), (9, 0), (9, 0), (9, 0), (9, 0)] [] (enc w t)
  refine e_lda (v := 67) (show am_cd 260 0 = (2, 1, 0, 2, []) by decide +kernel) rfl ?_
  refine e_ic (show am_cd 260 1 = (0, 2, 0, 0, []) by decide +kernel) ?_
  refine e_putf (a := 67) (show am_cd 260 2 = (19, 5, 1226, 0, [113]) by decide +kernel) (by decide +kernel) (by decide +kernel) rfl (fun h9 => absurd h9 (by decide)) (fun h9 => absurd h9 (by decide +kernel)) ?_
  refine e_ldi (show am_cd 260 5 = (2, 6, 1, 0, []) by decide +kernel) rfl ?_
  refine e_i2l (show am_cd 260 6 = (8, 7, 0, 0, []) by decide +kernel) ?_
  refine e_lc (show am_cd 260 7 = (1, 8, 0, 1, []) by decide +kernel) ?_
  refine e_lc (show am_cd 260 8 = (1, 11, 1, 4, [453]) by decide +kernel) ?_
  refine e_cS (z := 0) (as := [(1, w32 n), (1, 1), (1, 4)]) (rest := []) (show am_cd 260 11 = (40, 14, 165, 1, [122]) by decide +kernel) (by decide) rfl rfl (Nat.le_of_ble_eq_true rfl) rfl ?_
  refine Cl.mono (Cl.up (c_in (d := d)) (by omega)) ?_
  rintro _ _ ⟨rfl, rfl⟩
  refine ⟨fun _ h9 => (by cases h9), ?_⟩
  show Ev _ 260 _ 14 [rA 67, (0, n), (9, 0), (9, 0), (9, 0), (9, 0), (9, 0)] [(0, bI (decide (w64 1 ≤ w64 (w32 n) ∧ w64 (w32 n) ≤ w64 4)))] _
  refine e_ifb1 (show am_cd 260 14 = (10, 17, 19, 1, []) by decide +kernel) (fun hc => ?_) (fun hc => ?_)
  · replace h := h.1 hc
    refine e_ic (show am_cd 260 19 = (0, 20, 0, 1, []) by decide +kernel) ?_
    refine e_sti (la2 := [rA 67, (0, n), (0, 1), (9, 0), (9, 0), (9, 0), (9, 0)]) (show am_cd 260 20 = (3, 21, 2, 0, []) by decide +kernel) rfl ?_
    refine e_ic (show am_cd 260 21 = (0, 22, 0, 0, []) by decide +kernel) ?_
    refine e_sti (la2 := [rA 67, (0, n), (0, 1), (0, 0), (9, 0), (9, 0), (9, 0)]) (show am_cd 260 22 = (3, 23, 3, 0, []) by decide +kernel) rfl ?_
    exact h
  · replace h := h.2 hc
    refine e_ic (show am_cd 260 17 = (0, 18, 0, -1, []) by decide +kernel) ?_
    exact e_reti (show am_cd 260 18 = (36, 19, 0, 0, []) by decide +kernel) (by decide +kernel) h

theorem g_twice1 {d : Nat} {Q : Option aV → aS → Prop} {w : eW} {t : eT} {n x i : Int} {m : eW} {D : Int → Option Int} (h : ((w32 n ≤ w32 i → ∀ w1, (FrT w w1 ∧ w1 67 38 = 0 ∧ DV w1 (fun _ => none)) → ∃ g2, (TPR m 5 g2 0 n 0 w1 t) ∧ (∀ w3 t4, (TPO m g2 0 n 0 w1 t w3 t4) → Ev (d + 8) 260 Q 58 [rA 67, (0, n), (0, x), (0, 0), (1, 0), (9, 0), (0, 0)] [] (enc w3 t4))) ∧ (¬ (w32 n ≤ w32 i) → Ev (d + 8) 260 Q 23 [rA 67, (0, n), (0, x * 27), (0, i + 1), (9, 0), (9, 0), (9, 0)] [] (enc w t)))) : Ev (d + 8) 260 Q 23 [rA 67, (0, n), (0, x), (0, i), (9, 0), (9, 0), (9, 0)] [] (enc w t) := by
  refine e_ldi (show am_cd 260 23 = (2, 24, 3, 0, []) by decide +kernel) rfl ?_
  refine e_ldi (show am_cd 260 24 = (2, 25, 1, 0, []) by decide +kernel) rfl ?_
  refine e_cmp3 (show am_cd 260 25 = (11, 28, 39, 3, []) by decide +kernel) (fun hc => ?_) (fun hc => ?_)
  · replace h := h.1 hc
    refine e_lda (v := 67) (show am_cd 260 39 = (2, 40, 0, 2, []) by decide +kernel) rfl ?_
    refine e_cV (z := 0) (a := 67) (as := []) (rest := []) (show am_cd 260 40 = (40, 43, 208, 0, [311]) by decide +kernel) (by decide +kernel) rfl rfl (Nat.le_of_ble_eq_true rfl) rfl ?_
    refine Cl.mono (Cl.up (c_forget (d := d)) (by omega)) ?_
    rintro _ _ ⟨w1, rfl, rfl, hp⟩
    refine ⟨fun _ h9 => (by cases h9), ?_⟩
    replace h := h w1 hp
    show Ev _ 260 _ 43 [rA 67, (0, n), (0, x), (0, i), (9, 0), (9, 0), (9, 0)] [] _
    refine e_lda (v := 67) (show am_cd 260 43 = (2, 44, 0, 2, []) by decide +kernel) rfl ?_
    refine e_ic (show am_cd 260 44 = (0, 45, 0, 0, []) by decide +kernel) ?_
    refine e_ldi (show am_cd 260 45 = (2, 46, 1, 0, []) by decide +kernel) rfl ?_
    refine e_ic (show am_cd 260 46 = (0, 47, 0, 0, []) by decide +kernel) ?_
    refine e_cV (z := 0) (a := 67) (as := [(0, 0), (0, n), (0, 0)]) (rest := []) (show am_cd 260 47 = (40, 50, 259, 0, [449]) by decide +kernel) (by decide +kernel) rfl rfl (Nat.le_of_ble_eq_true rfl) rfl ?_
    obtain ⟨g2, h⟩ := h
    refine Cl.mono (Cl.up (c_talB (d := d) 5 g2 _ _ _ _ _ h.1) (by omega)) ?_
    rintro _ _ ⟨w3, t4, rfl, rfl, hp⟩
    refine ⟨fun _ h9 => (by cases h9), ?_⟩
    replace h := h.2 w3 t4 hp
    show Ev _ 260 _ 50 [rA 67, (0, n), (0, x), (0, i), (9, 0), (9, 0), (9, 0)] [] _
    refine e_ic (show am_cd 260 50 = (0, 51, 0, 0, []) by decide +kernel) ?_
    refine e_sti (la2 := [rA 67, (0, n), (0, x), (0, 0), (9, 0), (9, 0), (9, 0)]) (show am_cd 260 51 = (3, 52, 3, 0, []) by decide +kernel) rfl ?_
    refine e_lc (show am_cd 260 52 = (1, 53, 0, 0, []) by decide +kernel) ?_
    refine e_stl (la2 := [rA 67, (0, n), (0, x), (0, 0), (1, 0), (9, 0), (9, 0)]) (show am_cd 260 53 = (3, 55, 4, 1, []) by decide +kernel) rfl ?_
    refine e_ic (show am_cd 260 55 = (0, 56, 0, 0, []) by decide +kernel) ?_
    refine e_sti (la2 := [rA 67, (0, n), (0, x), (0, 0), (1, 0), (9, 0), (0, 0)]) (show am_cd 260 56 = (3, 58, 6, 0, []) by decide +kernel) rfl ?_
    exact h
  · replace h := h.2 hc
    refine e_ldi (show am_cd 260 28 = (2, 29, 2, 0, []) by decide +kernel) rfl ?_
    refine e_ic (show am_cd 260 29 = (0, 31, 1, 27, []) by decide +kernel) ?_
    refine e_imul (show am_cd 260 31 = (5, 32, 2, 0, []) by decide +kernel) ?_
    refine e_sti (la2 := [rA 67, (0, n), (0, x * 27), (0, i), (9, 0), (9, 0), (9, 0)]) (show am_cd 260 32 = (3, 33, 2, 0, []) by decide +kernel) rfl ?_
    refine e_inc (la2 := [rA 67, (0, n), (0, x * 27), (0, i + 1), (9, 0), (9, 0), (9, 0)]) (show am_cd 260 33 = (4, 36, 3, 1, []) by decide +kernel) rfl rfl ?_
    refine e_go (show am_cd 260 36 = (12, 23, 0, 0, []) by decide +kernel) ?_
    exact h

theorem g_twice2 {d : Nat} {Q : Option aV → aS → Prop} {w : eW} {t : eT} {n x c f i : Int} {m : eW} {D : Int → Option Int} (h : ((w32 x ≤ w32 i → Q (some (0, c)) (enc (wu (wu (wu w 67 25 0) 86 0 f) 67 25 1) t)) ∧ (¬ (w32 x ≤ w32 i) → (DV w D ∧ 0 ≤ i ∧ i ≤ 2147483647) ∧ ((((D i).isSome) = false → Ev (d + 8) 260 Q 58 [rA 67, (0, n), (0, x), (0, c), (1, f), (9, 0), (0, i + 1)] [] (enc w t)) ∧ (((D i).isSome) = true → (DV w D ∧ (0 ≤ i ∧ i ≤ 2147483647) ∧ (D i).isSome = true) ∧ ((w64 2 ≤ w64 ((D i).getD 0) → ((¬ w32 c = 0 → Ev (d + 8) 260 Q 58 [rA 67, (0, n), (0, x), (0, c + 1), (1, f), (9, 0), (0, i + 1)] [] (enc w t)) ∧ (¬ (¬ w32 c = 0) → (DV w D ∧ (0 ≤ i ∧ i ≤ 2147483647) ∧ (D i).isSome = true) ∧ (Ev (d + 8) 260 Q 58 [rA 67, (0, n), (0, x), (0, c + 1), (1, (D i).getD 0), (9, 0), (0, i + 1)] [] (enc w t))))) ∧ (¬ (w64 2 ≤ w64 ((D i).getD 0)) → Ev (d + 8) 260 Q 58 [rA 67, (0, n), (0, x), (0, c), (1, f), (9, 0), (0, i + 1)] [] (enc w t)))))))) : Ev (d + 8) 260 Q 58 [rA 67, (0, n), (0, x), (0, c), (1, f), (9, 0), (0, i)] [] (enc w t) := by
  refine e_ldi (show am_cd 260 58 = (2, 60, 6, 0, []) by decide +kernel) rfl ?_
  refine e_ldi (show am_cd 260 60 = (2, 61, 2, 0, []) by decide +kernel) rfl ?_
  refine e_cmp3 (show am_cd 260 61 = (11, 64, 115, 3, []) by decide +kernel) (fun hc => ?_) (fun hc => ?_)
  · replace h := h.1 hc
    refine e_lda (v := 67) (show am_cd 260 115 = (2, 116, 0, 2, []) by decide +kernel) rfl ?_
    refine e_ic (show am_cd 260 116 = (0, 117, 0, 0, []) by decide +kernel) ?_
    refine e_putf (a := 67) (show am_cd 260 117 = (19, 120, 1225, 0, [116]) by decide +kernel) (by decide +kernel) (by decide +kernel) rfl (fun h9 => absurd h9 (by decide)) (fun h9 => absurd h9 (by decide +kernel)) ?_
    refine e_lda (v := 67) (show am_cd 260 120 = (2, 121, 0, 2, []) by decide +kernel) rfl ?_
    refine e_ldl (show am_cd 260 121 = (2, 123, 4, 1, []) by decide +kernel) rfl ?_
    refine e_cV (z := 0) (a := 67) (as := [(1, f)]) (rest := []) (show am_cd 260 123 = (40, 126, 167, 0, [252]) by decide +kernel) (by decide +kernel) rfl rfl (Nat.le_of_ble_eq_true rfl) rfl ?_
    show Ev _ 167 _ 0 [rA 67, (1, f), (9, 0)] [] _
    refine e_lda (v := 67) (show am_cd 167 0 = (2, 1, 0, 2, []) by decide +kernel) rfl ?_
    refine e_getr (a := 67) (r := 86) (show am_cd 167 1 = (18, 4, 1224, 2, [65]) by decide +kernel) (by decide +kernel) (by decide +kernel) rfl ?_
    refine e_lda (v := 67) (show am_cd 167 4 = (2, 5, 0, 2, []) by decide +kernel) rfl ?_
    refine e_getfE (a := 67) (tg := 0) (v := 0) (show am_cd 167 5 = (18, 8, 1225, 0, [116]) by decide +kernel) (by decide +kernel) (by decide +kernel) rfl rfl ?_
    refine e_ldl (show am_cd 167 8 = (2, 9, 1, 1, []) by decide +kernel) rfl ?_
    refine e_lastK (a := 86) (n := 32) (j := 0) (show am_cd 167 9 = (25, 10, 0, 0, []) by decide +kernel) (by decide +kernel) (by decide +kernel) (by decide +kernel) (by decide +kernel) (by decide +kernel) ?_
    refine e_lda (v := 67) (show am_cd 167 10 = (2, 11, 0, 2, []) by decide +kernel) rfl ?_
    refine e_dup (show am_cd 167 11 = (13, 12, 0, 0, []) by decide +kernel) (by decide) ?_
    refine e_getfE (a := 67) (tg := 0) (v := 0) (show am_cd 167 12 = (18, 15, 1225, 0, [116]) by decide +kernel) (by decide +kernel) (by decide +kernel) rfl rfl ?_
    refine e_ic (show am_cd 167 15 = (0, 16, 0, 1, []) by decide +kernel) ?_
    refine e_iok (r := 1) (show am_cd 167 16 = (5, 17, 0, 0, []) by decide +kernel) (by decide +kernel) (by decide +kernel) ?_
    refine e_putf (a := 67) (show am_cd 167 17 = (19, 20, 1225, 0, [116]) by decide +kernel) (by decide +kernel) (by decide +kernel) rfl (fun h9 => absurd h9 (by decide)) (fun h9 => absurd h9 (by decide +kernel)) ?_
    refine e_retv (show am_cd 167 20 = (36, 21, 3, 0, []) by decide +kernel) (by decide +kernel) ⟨fun _ h9 => (by cases h9), ?_⟩
    show Ev _ 260 _ 126 [rA 67, (0, n), (0, x), (0, c), (1, f), (9, 0), (0, i)] [] _
    refine e_ldi (show am_cd 260 126 = (2, 127, 3, 0, []) by decide +kernel) rfl ?_
    exact e_reti (show am_cd 260 127 = (36, 128, 0, 0, []) by decide +kernel) (by decide +kernel) h
  · replace h := h.2 hc
    refine e_lda (v := 67) (show am_cd 260 64 = (2, 65, 0, 2, []) by decide +kernel) rfl ?_
    refine e_ldi (show am_cd 260 65 = (2, 67, 6, 0, []) by decide +kernel) rfl ?_
    refine e_cV (z := 0) (a := 67) (as := [(0, i)]) (rest := []) (show am_cd 260 67 = (40, 70, 205, 0, [295]) by decide +kernel) (by decide +kernel) rfl rfl (Nat.le_of_ble_eq_true rfl) rfl ?_
    refine Cl.mono (Cl.up (c_isKnown (d := d) h.1) (by omega)) ?_
    rintro _ _ ⟨rfl, rfl⟩
    refine ⟨fun _ h9 => (by cases h9), ?_⟩
    replace h := h.2
    show Ev _ 260 _ 70 [rA 67, (0, n), (0, x), (0, c), (1, f), (9, 0), (0, i)] [(0, bI ((D i).isSome))] _
    refine e_ifb0 (show am_cd 260 70 = (10, 73, 109, 0, []) by decide +kernel) (fun hc => ?_) (fun hc => ?_)
    · replace h := h.1 hc
      refine e_inc (la2 := [rA 67, (0, n), (0, x), (0, c), (1, f), (9, 0), (0, i + 1)]) (show am_cd 260 109 = (4, 112, 6, 1, []) by decide +kernel) rfl rfl ?_
      refine e_go (show am_cd 260 112 = (12, 58, 0, 0, []) by decide +kernel) ?_
      exact h
    · replace h := h.2 hc
      refine e_lda (v := 67) (show am_cd 260 73 = (2, 74, 0, 2, []) by decide +kernel) rfl ?_
      refine e_ldi (show am_cd 260 74 = (2, 76, 6, 0, []) by decide +kernel) rfl ?_
      refine e_cV (z := 0) (a := 67) (as := [(0, i)]) (rest := []) (show am_cd 260 76 = (40, 79, 206, 0, [298]) by decide +kernel) (by decide +kernel) rfl rfl (Nat.le_of_ble_eq_true rfl) rfl ?_
      refine Cl.mono (Cl.up (c_knownD (d := d) h.1) (by omega)) ?_
      rintro _ _ ⟨rfl, rfl⟩
      refine ⟨fun _ h9 => (by cases h9), ?_⟩
      replace h := h.2
      show Ev _ 260 _ 79 [rA 67, (0, n), (0, x), (0, c), (1, f), (9, 0), (0, i)] [(1, (D i).getD 0)] _
      refine e_lc (show am_cd 260 79 = (1, 82, 1, 2, [455]) by decide +kernel) ?_
      refine e_lcb3 (show am_cd 260 82 = (9, 83, 0, 0, []) by decide +kernel) (show am_cd 260 83 = (10, 86, 89, 3, []) by decide +kernel) (fun hc => ?_) (fun hc => ?_)
      · replace h := h.1 hc
        refine e_ldi (show am_cd 260 89 = (2, 90, 3, 0, []) by decide +kernel) rfl ?_
        refine e_if1 (show am_cd 260 90 = (10, 93, 102, 1, []) by decide +kernel) (fun hc => ?_) (fun hc => ?_)
        · replace h := h.1 hc
          refine e_ldl (show am_cd 260 102 = (2, 104, 4, 1, []) by decide +kernel) rfl ?_
          refine e_stl (la2 := [rA 67, (0, n), (0, x), (0, c), (1, f), (9, 0), (0, i)]) (show am_cd 260 104 = (3, 106, 4, 1, []) by decide +kernel) rfl ?_
          refine e_inc (la2 := [rA 67, (0, n), (0, x), (0, c + 1), (1, f), (9, 0), (0, i)]) (show am_cd 260 106 = (4, 109, 3, 1, []) by decide +kernel) rfl rfl ?_
          refine e_inc (la2 := [rA 67, (0, n), (0, x), (0, c + 1), (1, f), (9, 0), (0, i + 1)]) (show am_cd 260 109 = (4, 112, 6, 1, []) by decide +kernel) rfl rfl ?_
          refine e_go (show am_cd 260 112 = (12, 58, 0, 0, []) by decide +kernel) ?_
          exact h
        · replace h := h.2 hc
          refine e_lda (v := 67) (show am_cd 260 93 = (2, 94, 0, 2, []) by decide +kernel) rfl ?_
          refine e_ldi (show am_cd 260 94 = (2, 96, 6, 0, []) by decide +kernel) rfl ?_
          refine e_cV (z := 0) (a := 67) (as := [(0, i)]) (rest := []) (show am_cd 260 96 = (40, 99, 206, 0, [298]) by decide +kernel) (by decide +kernel) rfl rfl (Nat.le_of_ble_eq_true rfl) rfl ?_
          refine Cl.mono (Cl.up (c_knownD (d := d) h.1) (by omega)) ?_
          rintro _ _ ⟨rfl, rfl⟩
          refine ⟨fun _ h9 => (by cases h9), ?_⟩
          replace h := h.2
          show Ev _ 260 _ 99 [rA 67, (0, n), (0, x), (0, c), (1, f), (9, 0), (0, i)] [(1, (D i).getD 0)] _
          refine e_go (show am_cd 260 99 = (12, 104, 0, 0, []) by decide +kernel) ?_
          refine e_stl (la2 := [rA 67, (0, n), (0, x), (0, c), (1, (D i).getD 0), (9, 0), (0, i)]) (show am_cd 260 104 = (3, 106, 4, 1, []) by decide +kernel) rfl ?_
          refine e_inc (la2 := [rA 67, (0, n), (0, x), (0, c + 1), (1, (D i).getD 0), (9, 0), (0, i)]) (show am_cd 260 106 = (4, 109, 3, 1, []) by decide +kernel) rfl rfl ?_
          refine e_inc (la2 := [rA 67, (0, n), (0, x), (0, c + 1), (1, (D i).getD 0), (9, 0), (0, i + 1)]) (show am_cd 260 109 = (4, 112, 6, 1, []) by decide +kernel) rfl rfl ?_
          refine e_go (show am_cd 260 112 = (12, 58, 0, 0, []) by decide +kernel) ?_
          exact h
      · replace h := h.2 hc
        refine e_go (show am_cd 260 86 = (12, 109, 0, 0, []) by decide +kernel) ?_
        refine e_inc (la2 := [rA 67, (0, n), (0, x), (0, c), (1, f), (9, 0), (0, i + 1)]) (show am_cd 260 109 = (4, 112, 6, 1, []) by decide +kernel) rfl rfl ?_
        refine e_go (show am_cd 260 112 = (12, 58, 0, 0, []) by decide +kernel) ?_
        exact h

