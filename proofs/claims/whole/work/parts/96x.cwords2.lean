/-! The class: the calls words and entryOf. -/
theorem c_woU {d : Nat} {w m : eW} {t : eT} {n q : Int} (h : XC w m ∧ WFe m ∧ ((1 : Int) ≤ n ∧ (n : Int) ≤ 6) ∧ okI q) : Cl (d + 1) 25 [rA 28, (0, n), (0, q)] (enc w t) (fun r S2 => ∃ w2, r = some (1, ((wv m q n.toNat 0 : Nat) : Int)) ∧ S2 = enc w2 t ∧ Fc [33] [] w w2) := by
  have := c_wo (d := d) (t := t) (n := n.toNat) h.1 h.2.1 (by omega) h.2.2.2
  rw [show ((n.toNat : Nat) : Int) = n by omega] at this
  exact this

theorem g_ww {d : Nat} {Q : Option aV → aS → Prop} {w : eW} {t : eT} {q k : Int} {m : eW} (h : Ev (d + 2) 26 Q 5 [rA 28, (0, q), (0, k), (1, 0), (9, 0), (0, 1)] [] (enc w t)) : Cl (d + 2) 26 [rA 28, (0, q), (0, k)] (enc w t) Q := by
  show Ev (d + 2) 26 Q 0 [rA 28, (0, q), (0, k), (9, 0), (9, 0), (9, 0)] [] (enc w t)
  refine e_lc (show am_cd 26 0 = (1, 1, 0, 0, []) by decide +kernel) ?_
  refine e_stl (la2 := [rA 28, (0, q), (0, k), (1, 0), (9, 0), (9, 0)]) (show am_cd 26 1 = (3, 2, 3, 1, []) by decide +kernel) rfl ?_
  refine e_ic (show am_cd 26 2 = (0, 3, 0, 1, []) by decide +kernel) ?_
  refine e_sti (la2 := [rA 28, (0, q), (0, k), (1, 0), (9, 0), (0, 1)]) (show am_cd 26 3 = (3, 5, 5, 0, []) by decide +kernel) rfl ?_
  exact h

theorem g_ww1 {d : Nat} {Q : Option aV → aS → Prop} {w : eW} {t : eT} {q k s n : Int} {m : eW} (h : ((w32 k < w32 n → Q (some (1, s)) (enc w t)) ∧ (¬ (w32 k < w32 n) → (XC w m ∧ WFe m ∧ ((1 : Int) ≤ n ∧ (n : Int) ≤ 6) ∧ okI (-1)) ∧ (∀ w1, (Fc [33] [] w w1) → (XC w1 m ∧ WFe m ∧ ((1 : Int) ≤ n ∧ (n : Int) ≤ 6) ∧ okI q) ∧ (∀ w2, (Fc [33] [] w1 w2) → Ev (d + 2) 26 Q 5 [rA 28, (0, q), (0, k), (1, s + (((wv m (-1) n.toNat 0 : Nat) : Int) - ((wv m q n.toNat 0 : Nat) : Int))), (9, 0), (0, n + 1)] [] (enc w2 t)))))) : Ev (d + 2) 26 Q 5 [rA 28, (0, q), (0, k), (1, s), (9, 0), (0, n)] [] (enc w t) := by
  refine e_ldi (show am_cd 26 5 = (2, 7, 5, 0, []) by decide +kernel) rfl ?_
  refine e_ldi (show am_cd 26 7 = (2, 8, 2, 0, []) by decide +kernel) rfl ?_
  refine e_cmp4 (show am_cd 26 8 = (11, 11, 35, 4, []) by decide +kernel) (fun hc => ?_) (fun hc => ?_)
  · replace h := h.1 hc
    refine e_ldl (show am_cd 26 35 = (2, 36, 3, 1, []) by decide +kernel) rfl ?_
    exact e_retl (show am_cd 26 36 = (36, 37, 1, 0, []) by decide +kernel) (by decide +kernel) h
  · replace h := h.2 hc
    refine e_ldl (show am_cd 26 11 = (2, 12, 3, 1, []) by decide +kernel) rfl ?_
    refine e_lda (v := 28) (show am_cd 26 12 = (2, 13, 0, 2, []) by decide +kernel) rfl ?_
    refine e_ldi (show am_cd 26 13 = (2, 15, 5, 0, []) by decide +kernel) rfl ?_
    refine e_ic (show am_cd 26 15 = (0, 16, 0, -1, []) by decide +kernel) ?_
    refine e_cV (z := 0) (a := 28) (as := [(0, n), (0, (-1))]) (rest := [(1, s)]) (show am_cd 26 16 = (40, 19, 25, 0, [74]) by decide +kernel) (by decide +kernel) rfl rfl (Nat.le_of_ble_eq_true rfl) rfl ?_
    refine Cl.mono (Cl.up (c_woU (m := m) (d := d) h.1) (by omega)) ?_
    rintro _ _ ⟨w1, rfl, rfl, hp⟩
    refine ⟨fun _ h9 => (by cases h9), ?_⟩
    replace h := h.2 w1 hp
    show Ev _ 26 _ 19 [rA 28, (0, q), (0, k), (1, s), (9, 0), (0, n)] [(1, ((wv m (-1) n.toNat 0 : Nat) : Int)), (1, s)] _
    refine e_lda (v := 28) (show am_cd 26 19 = (2, 20, 0, 2, []) by decide +kernel) rfl ?_
    refine e_ldi (show am_cd 26 20 = (2, 22, 5, 0, []) by decide +kernel) rfl ?_
    refine e_ldi (show am_cd 26 22 = (2, 23, 1, 0, []) by decide +kernel) rfl ?_
    refine e_cV (z := 0) (a := 28) (as := [(0, n), (0, q)]) (rest := [(1, ((wv m (-1) n.toNat 0 : Nat) : Int)), (1, s)]) (show am_cd 26 23 = (40, 26, 25, 0, [74]) by decide +kernel) (by decide +kernel) rfl rfl (Nat.le_of_ble_eq_true rfl) rfl ?_
    refine Cl.mono (Cl.up (c_woU (m := m) (d := d) h.1) (by omega)) ?_
    rintro _ _ ⟨w2, rfl, rfl, hp⟩
    refine ⟨fun _ h9 => (by cases h9), ?_⟩
    replace h := h.2 w2 hp
    show Ev _ 26 _ 26 [rA 28, (0, q), (0, k), (1, s), (9, 0), (0, n)] [(1, ((wv m q n.toNat 0 : Nat) : Int)), (1, ((wv m (-1) n.toNat 0 : Nat) : Int)), (1, s)] _
    refine e_lsub (show am_cd 26 26 = (6, 27, 1, 0, []) by decide +kernel) ?_
    refine e_ladd (show am_cd 26 27 = (6, 28, 0, 0, []) by decide +kernel) ?_
    refine e_stl (la2 := [rA 28, (0, q), (0, k), (1, s + (((wv m (-1) n.toNat 0 : Nat) : Int) - ((wv m q n.toNat 0 : Nat) : Int))), (9, 0), (0, n)]) (show am_cd 26 28 = (3, 29, 3, 1, []) by decide +kernel) rfl ?_
    refine e_inc (la2 := [rA 28, (0, q), (0, k), (1, s + (((wv m (-1) n.toNat 0 : Nat) : Int) - ((wv m q n.toNat 0 : Nat) : Int))), (9, 0), (0, n + 1)]) (show am_cd 26 29 = (4, 32, 5, 1, []) by decide +kernel) rfl rfl ?_
    refine e_go (show am_cd 26 32 = (12, 5, 0, 0, []) by decide +kernel) ?_
    exact h

theorem c_ww {d : Nat} {w m : eW} {t : eT} {q k : Int} (h : XC w m ∧ WFe m ∧ okI q ∧ ((0 : Int) ≤ k ∧ (k : Int) ≤ 6)) : Cl (d + 2) 26 [rA 28, (0, q), (0, k)] (enc w t) (fun r S2 => ∃ w2, r = some (1, wwI m q k.toNat) ∧ S2 = enc w2 t ∧ Fc [33] [] w w2) := by
  obtain ⟨hX, he, hq, hk⟩ := h
  obtain ⟨K, rfl⟩ : ∃ K : Nat, k = (K : Int) := ⟨k.toNat, by omega⟩
  rw [Int.toNat_natCast]
  refine g_ww (m := m) ?_
  have key := lq1 (σ := eW) (fun i w1 => Ev (d + 2) 26 (fun r S2 => ∃ w2, r = some (1, wwI m q K) ∧ S2 = enc w2 t ∧ Fc [33] [] w w2) 5 [rA 28, (0, q), (0, (K : Int)), (1, wwI m q i), (9, 0), (0, (i : Int) + 1)] [] (enc w1 t)) (fun i w1 => Fc [33] [] w w1) K ?_ ?_ 0 w (Nat.zero_le _) (Fc.rf _ _ _)
  · exact key
  · rintro i w1 hi f1 hE
    refine g_ww1 (m := m) ⟨fun h9 => absurd h9 (by rw [w32_id (by omega), w32_id (by omega)]; omega), fun _ => ⟨⟨hX.fc f1 (by decide) (by decide), he, by omega, (by show -2147483648 ≤ (-1 : Int) ∧ (-1 : Int) ≤ 2147483647; decide)⟩, fun w2 f2 => ⟨⟨(hX.fc f1 (by decide) (by decide)).fc f2 (by decide) (by decide), he, by omega, hq⟩, fun w3 f3 => ?_⟩⟩⟩
    have := hE w3 ((f1.tr f2).tr f3)
    rw [show ((i : Int) + 1).toNat = i + 1 by omega]
    exact this
  · rintro w1 f1
    refine g_ww1 (m := m) ⟨fun _ => ⟨w1, rfl, rfl, f1⟩, fun h9 => absurd (by rw [w32_id (by omega), w32_id (by omega)]; omega) h9⟩

theorem g_cwords {d : Nat} {Q : Option aV → aS → Prop} {w : eW} {t : eT} {n : Int} {m : eW} (h : ((w32 n < w32 1 → Q (some (1, (-1))) (enc w t)) ∧ (¬ (w32 n < w32 1) → ((w32 n ≤ w32 6 → (XC w m ∧ WFe m ∧ ((1 : Int) ≤ n ∧ (n : Int) ≤ 6) ∧ okI (-1)) ∧ (∀ w1, (Fc [33] [] w w1) → Q (some (1, ((wv m (-1) n.toNat 0 : Nat) : Int))) (enc w1 t))) ∧ (¬ (w32 n ≤ w32 6) → Q (some (1, (-1))) (enc w t)))))) : Cl (d + 2) 155 [rA 1, (0, n)] (enc w t) Q := by
  show Ev (d + 2) 155 Q 0 [rA 1, (0, n)] [] (enc w t)
  refine e_ldi (show am_cd 155 0 = (2, 1, 1, 0, []) by decide +kernel) rfl ?_
  refine e_ic (show am_cd 155 1 = (0, 2, 0, 1, []) by decide +kernel) ?_
  refine e_cmp2 (show am_cd 155 2 = (11, 5, 11, 2, []) by decide +kernel) (fun hc => ?_) (fun hc => ?_)
  · replace h := h.1 hc
    refine e_lc (show am_cd 155 11 = (1, 14, 1, -1, [253]) by decide +kernel) ?_
    exact e_retl (show am_cd 155 14 = (36, 15, 1, 0, []) by decide +kernel) (by decide +kernel) h
  · replace h := h.2 hc
    refine e_ldi (show am_cd 155 5 = (2, 6, 1, 0, []) by decide +kernel) rfl ?_
    refine e_ic (show am_cd 155 6 = (0, 8, 1, 6, []) by decide +kernel) ?_
    refine e_cmp5 (show am_cd 155 8 = (11, 11, 15, 5, []) by decide +kernel) (fun hc => ?_) (fun hc => ?_)
    · replace h := h.1 hc
      refine e_lda (v := 1) (show am_cd 155 15 = (2, 16, 0, 2, []) by decide +kernel) rfl ?_
      refine e_getr (a := 1) (r := 28) (show am_cd 155 16 = (18, 19, 1103, 2, [33]) by decide +kernel) (by decide +kernel) (by decide +kernel) rfl ?_
      refine e_ldi (show am_cd 155 19 = (2, 20, 1, 0, []) by decide +kernel) rfl ?_
      refine e_ic (show am_cd 155 20 = (0, 21, 0, -1, []) by decide +kernel) ?_
      refine e_cV (z := 0) (a := 28) (as := [(0, n), (0, (-1))]) (rest := []) (show am_cd 155 21 = (40, 24, 25, 0, [327]) by decide +kernel) (by decide +kernel) rfl rfl (Nat.le_of_ble_eq_true rfl) rfl ?_
      refine Cl.mono (Cl.up (c_woU (m := m) (d := d) h.1) (by omega)) ?_
      rintro _ _ ⟨w1, rfl, rfl, hp⟩
      refine ⟨fun _ h9 => (by cases h9), ?_⟩
      replace h := h.2 w1 hp
      show Ev _ 155 _ 24 [rA 1, (0, n)] [(1, ((wv m (-1) n.toNat 0 : Nat) : Int))] _
      exact e_retl (show am_cd 155 24 = (36, 25, 1, 0, []) by decide +kernel) (by decide +kernel) h
    · replace h := h.2 hc
      refine e_lc (show am_cd 155 11 = (1, 14, 1, -1, [253]) by decide +kernel) ?_
      exact e_retl (show am_cd 155 14 = (36, 15, 1, 0, []) by decide +kernel) (by decide +kernel) h

theorem g_centryOf {d : Nat} {Q : Option aV → aS → Prop} {w : eW} {t : eT} {e q : Int} {m : eW} (h : ((w32 e < 0 → Q (some (1, (-1))) (enc w t)) ∧ (¬ (w32 e < 0) → ((w32 e < w32 (w 28 8) → ((w32 q = 0 → (0 ≤ w32 e ∧ w32 e < 16) ∧ (Q (some (1, w32 (w 29 (w32 e).toNat))) (enc w t))) ∧ (w32 q = 1 → (0 ≤ w32 e ∧ w32 e < 16) ∧ (Q (some (1, w32 (w 30 (w32 e).toNat))) (enc w t))) ∧ (w32 q = 2 → (0 ≤ w32 e ∧ w32 e < 16) ∧ (Q (some (1, w32 (w 31 (w32 e).toNat))) (enc w t))) ∧ (w32 q = 3 → (XC w m ∧ WFe m ∧ okI e ∧ ((0 : Int) ≤ 6 ∧ (6 : Int) ≤ 6)) ∧ (∀ w1, (Fc [33] [] w w1) → ((w64 (wwI m e 6) ≤ w64 0 → Q (some (1, 0)) (enc w1 t)) ∧ (¬ (w64 (wwI m e 6) ≤ w64 0) → Q (some (1, 1)) (enc w1 t))))) ∧ (w32 q = 4 → (XC w m ∧ WFe m ∧ okI e ∧ ((0 : Int) ≤ 4 ∧ (4 : Int) ≤ 6)) ∧ (∀ w2, (Fc [33] [] w w2) → Q (some (1, wwI m e 4)) (enc w2 t))) ∧ ((w32 q < 0 ∨ 5 ≤ w32 q) → Q (some (1, (-1))) (enc w t)))) ∧ (¬ (w32 e < w32 (w 28 8)) → Q (some (1, (-1))) (enc w t)))))) : Cl (d + 4) 157 [rA 1, (0, e), (0, q)] (enc w t) Q := by
  show Ev (d + 4) 157 Q 0 [rA 1, (0, e), (0, q)] [] (enc w t)
  refine e_ldi (show am_cd 157 0 = (2, 1, 1, 0, []) by decide +kernel) rfl ?_
  refine e_if2 (show am_cd 157 1 = (10, 4, 15, 2, []) by decide +kernel) (fun hc => ?_) (fun hc => ?_)
  · replace h := h.1 hc
    refine e_lc (show am_cd 157 15 = (1, 18, 1, -1, [253]) by decide +kernel) ?_
    exact e_retl (show am_cd 157 18 = (36, 19, 1, 0, []) by decide +kernel) (by decide +kernel) h
  · replace h := h.2 hc
    refine e_ldi (show am_cd 157 4 = (2, 5, 1, 0, []) by decide +kernel) rfl ?_
    refine e_lda (v := 1) (show am_cd 157 5 = (2, 6, 0, 2, []) by decide +kernel) rfl ?_
    refine e_getr (a := 1) (r := 28) (show am_cd 157 6 = (18, 9, 1103, 2, [33]) by decide +kernel) (by decide +kernel) (by decide +kernel) rfl ?_
    refine e_getf (a := 28) (tg := 0) (show am_cd 157 9 = (18, 12, 308, 0, [202]) by decide +kernel) (by decide +kernel) (by decide +kernel) rfl ?_
    refine e_cmp2 (show am_cd 157 12 = (11, 15, 19, 2, []) by decide +kernel) (fun hc => ?_) (fun hc => ?_)
    · replace h := h.1 hc
      refine e_ldi (show am_cd 157 19 = (2, 20, 2, 0, []) by decide +kernel) rfl ?_
      refine e_tsw (show am_cd 157 20 = (30, 120, 36, 0, [56, 67, 78, 89, 110]) by decide +kernel) (fun i tg hi hx => ?_) (fun hx => ?_)
      · match i, hi with
        | 0, hi =>
          cases hi
          replace h := h.1 (by omega)
          refine e_lda (v := 1) (show am_cd 157 56 = (2, 57, 0, 2, []) by decide +kernel) rfl ?_
          refine e_getr (a := 1) (r := 28) (show am_cd 157 57 = (18, 60, 1103, 2, [33]) by decide +kernel) (by decide +kernel) (by decide +kernel) rfl ?_
          refine e_getr (a := 28) (r := 29) (show am_cd 157 60 = (18, 63, 300, 2, [339]) by decide +kernel) (by decide +kernel) (by decide +kernel) rfl ?_
          refine e_ldi (show am_cd 157 63 = (2, 64, 1, 0, []) by decide +kernel) rfl ?_
          refine e_iald (a := 29) (n := 16) (show am_cd 157 64 = (21, 65, 0, 0, []) by decide +kernel) (by decide +kernel) (by decide +kernel) (by decide +kernel) h.1 ?_
          replace h := h.2
          refine e_i2l (show am_cd 157 65 = (8, 66, 0, 0, []) by decide +kernel) ?_
          exact e_retl (show am_cd 157 66 = (36, 67, 1, 0, []) by decide +kernel) (by decide +kernel) h
        | 1, hi =>
          cases hi
          replace h := h.2.1 (by omega)
          refine e_lda (v := 1) (show am_cd 157 67 = (2, 68, 0, 2, []) by decide +kernel) rfl ?_
          refine e_getr (a := 1) (r := 28) (show am_cd 157 68 = (18, 71, 1103, 2, [33]) by decide +kernel) (by decide +kernel) (by decide +kernel) rfl ?_
          refine e_getr (a := 28) (r := 30) (show am_cd 157 71 = (18, 74, 301, 2, [342]) by decide +kernel) (by decide +kernel) (by decide +kernel) rfl ?_
          refine e_ldi (show am_cd 157 74 = (2, 75, 1, 0, []) by decide +kernel) rfl ?_
          refine e_iald (a := 30) (n := 16) (show am_cd 157 75 = (21, 76, 0, 0, []) by decide +kernel) (by decide +kernel) (by decide +kernel) (by decide +kernel) h.1 ?_
          replace h := h.2
          refine e_i2l (show am_cd 157 76 = (8, 77, 0, 0, []) by decide +kernel) ?_
          exact e_retl (show am_cd 157 77 = (36, 78, 1, 0, []) by decide +kernel) (by decide +kernel) h
        | 2, hi =>
          cases hi
          replace h := h.2.2.1 (by omega)
          refine e_lda (v := 1) (show am_cd 157 78 = (2, 79, 0, 2, []) by decide +kernel) rfl ?_
          refine e_getr (a := 1) (r := 28) (show am_cd 157 79 = (18, 82, 1103, 2, [33]) by decide +kernel) (by decide +kernel) (by decide +kernel) rfl ?_
          refine e_getr (a := 28) (r := 31) (show am_cd 157 82 = (18, 85, 302, 2, [345]) by decide +kernel) (by decide +kernel) (by decide +kernel) rfl ?_
          refine e_ldi (show am_cd 157 85 = (2, 86, 1, 0, []) by decide +kernel) rfl ?_
          refine e_iald (a := 31) (n := 16) (show am_cd 157 86 = (21, 87, 0, 0, []) by decide +kernel) (by decide +kernel) (by decide +kernel) (by decide +kernel) h.1 ?_
          replace h := h.2
          refine e_i2l (show am_cd 157 87 = (8, 88, 0, 0, []) by decide +kernel) ?_
          exact e_retl (show am_cd 157 88 = (36, 89, 1, 0, []) by decide +kernel) (by decide +kernel) h
        | 3, hi =>
          cases hi
          replace h := h.2.2.2.1 (by omega)
          refine e_lda (v := 1) (show am_cd 157 89 = (2, 90, 0, 2, []) by decide +kernel) rfl ?_
          refine e_getr (a := 1) (r := 28) (show am_cd 157 90 = (18, 93, 1103, 2, [33]) by decide +kernel) (by decide +kernel) (by decide +kernel) rfl ?_
          refine e_ldi (show am_cd 157 93 = (2, 94, 1, 0, []) by decide +kernel) rfl ?_
          refine e_ic (show am_cd 157 94 = (0, 96, 1, 6, []) by decide +kernel) ?_
          refine e_cV (z := 0) (a := 28) (as := [(0, e), (0, 6)]) (rest := []) (show am_cd 157 96 = (40, 99, 26, 0, [348]) by decide +kernel) (by decide +kernel) rfl rfl (Nat.le_of_ble_eq_true rfl) rfl ?_
          refine Cl.mono (Cl.up (c_ww (m := m) (d := d) h.1) (by omega)) ?_
          rintro _ _ ⟨w1, rfl, rfl, hp⟩
          refine ⟨fun _ h9 => (by cases h9), ?_⟩
          replace h := h.2 w1 hp
          show Ev _ 157 _ 99 [rA 1, (0, e), (0, q)] [(1, wwI m e 6)] _
          refine e_lc (show am_cd 157 99 = (1, 100, 0, 0, []) by decide +kernel) ?_
          refine e_lcb5 (show am_cd 157 100 = (9, 101, 0, 0, []) by decide +kernel) (show am_cd 157 101 = (10, 104, 108, 5, []) by decide +kernel) (fun hc => ?_) (fun hc => ?_)
          · replace h := h.1 hc
            refine e_lc (show am_cd 157 108 = (1, 109, 0, 0, []) by decide +kernel) ?_
            exact e_retl (show am_cd 157 109 = (36, 110, 1, 0, []) by decide +kernel) (by decide +kernel) h
          · replace h := h.2 hc
            refine e_lc (show am_cd 157 104 = (1, 105, 0, 1, []) by decide +kernel) ?_
            refine e_go (show am_cd 157 105 = (12, 109, 0, 0, []) by decide +kernel) ?_
            exact e_retl (show am_cd 157 109 = (36, 110, 1, 0, []) by decide +kernel) (by decide +kernel) h
        | 4, hi =>
          cases hi
          replace h := h.2.2.2.2.1 (by omega)
          refine e_lda (v := 1) (show am_cd 157 110 = (2, 111, 0, 2, []) by decide +kernel) rfl ?_
          refine e_getr (a := 1) (r := 28) (show am_cd 157 111 = (18, 114, 1103, 2, [33]) by decide +kernel) (by decide +kernel) (by decide +kernel) rfl ?_
          refine e_ldi (show am_cd 157 114 = (2, 115, 1, 0, []) by decide +kernel) rfl ?_
          refine e_ic (show am_cd 157 115 = (0, 116, 0, 4, []) by decide +kernel) ?_
          refine e_cV (z := 0) (a := 28) (as := [(0, e), (0, 4)]) (rest := []) (show am_cd 157 116 = (40, 119, 26, 0, [348]) by decide +kernel) (by decide +kernel) rfl rfl (Nat.le_of_ble_eq_true rfl) rfl ?_
          refine Cl.mono (Cl.up (c_ww (m := m) (d := d) h.1) (by omega)) ?_
          rintro _ _ ⟨w2, rfl, rfl, hp⟩
          refine ⟨fun _ h9 => (by cases h9), ?_⟩
          replace h := h.2 w2 hp
          show Ev _ 157 _ 119 [rA 1, (0, e), (0, q)] [(1, wwI m e 4)] _
          exact e_retl (show am_cd 157 119 = (36, 120, 1, 0, []) by decide +kernel) (by decide +kernel) h
        | i + 5, hi => cases hi
      · replace h := h.2.2.2.2.2 (by simp only [List.length_cons, List.length_nil] at hx; omega)
        refine e_lc (show am_cd 157 120 = (1, 123, 1, -1, [253]) by decide +kernel) ?_
        exact e_retl (show am_cd 157 123 = (36, 124, 1, 0, []) by decide +kernel) (by decide +kernel) h
    · replace h := h.2 hc
      refine e_lc (show am_cd 157 15 = (1, 18, 1, -1, [253]) by decide +kernel) ?_
      exact e_retl (show am_cd 157 18 = (36, 19, 1, 0, []) by decide +kernel) (by decide +kernel) h

theorem AnC.sc {w w2 : eW} {t : eT} {b : Nat × Nat} {m : eW} {ks : kT} {rl tl : List Int} {v : aV} (h : CI w t b m ks rl tl) (f : Fc [33] [] w w2) : AnC w m b ks rl tl v (some v) (enc w2 t) :=
  AnC.of f (by decide) (by decide) (h.mk f (by decide) (by decide) ⟨h.1.1.1.fc f (by decide) (by decide), by rw [f _ _ (by decide) (by decide)]; exact h.1.1.2⟩ (h.2.2.2.1.fc f (by decide) (by decide)) (h.2.2.2.2.1.fc f (by decide) (by decide)))
theorem k_words {d : Nat} {w : eW} {t : eT} {b : Nat × Nat} {m : eW} {ks : kT} {rl tl : List Int} {n : Int} (h : CI w t b m ks rl tl) (hn : okI n) (he : WFe m) : Cl (d + 2) 155 [rA 1, (0, n)] (enc w t) (AnC w m b ks rl tl (1, wordsV m n)) := by
  have hn2 : -2147483648 ≤ n ∧ n ≤ 2147483647 := hn
  refine g_cwords (m := m) ?_
  simp (disch := omega) only [w32_id]
  unfold wordsV
  have no : ¬ (1 ≤ n ∧ n ≤ 6) → AnC w m b ks rl tl (1, if 1 ≤ n ∧ n ≤ 6 then (wv m (-1) n.toNat 0 : Int) else -1) (some (1, -1)) (enc w t) := fun h9 => by
    rw [if_neg h9]
    exact AnC.sc h (Fc.rf _ _ _)
  refine ⟨fun h0 => no (by omega), fun h0 => ⟨fun h1 => ⟨⟨h.2.2.1.1, he, by omega, (by show -2147483648 ≤ (-1 : Int) ∧ (-1 : Int) ≤ 2147483647; decide)⟩, fun w2 f2 => ?_⟩, fun h1 => no (by omega)⟩⟩
  rw [if_pos (by omega)]
  exact AnC.sc h f2
theorem k_entryOf {d : Nat} {w : eW} {t : eT} {b : Nat × Nat} {m : eW} {ks : kT} {rl tl : List Int} {e q : Int} (h : CI w t b m ks rl tl) (he2 : okI e) (hq : okI q) (he : WFe m) : Cl (d + 4) 157 [rA 1, (0, e), (0, q)] (enc w t) (AnC w m b ks rl tl (1, entryOfV m e q)) := by
  have he3 : -2147483648 ≤ e ∧ e ≤ 2147483647 := he2
  have hq2 : -2147483648 ≤ q ∧ q ≤ 2147483647 := hq
  have hn := he.n
  have hX := h.2.2.1.1
  refine g_centryOf (m := m) ?_
  rw [hX.1, ← hn.1]
  simp (disch := omega) only [w32_id]
  have fin : ∀ w2 x, Fc [33] [] w w2 → x = entryOfV m e q → AnC w m b ks rl tl (1, entryOfV m e q) (some (1, x)) (enc w2 t) := fun w2 x f hx => by
    subst hx
    exact AnC.sc h f
  have f0 : Fc [33] [] w w := Fc.rf _ _ _
  unfold entryOfV at *
  refine ⟨fun h0 => fin w _ f0 (by rw [if_neg (by omega)]), fun h0 => ⟨fun h1 => ?_, fun h1 => fin w _ f0 (by rw [if_neg (by omega)])⟩⟩
  obtain ⟨x1, x2, x3, _⟩ := hX.2 e.toNat (by omega)
  obtain ⟨b1, b2, b3, _⟩ := he.2 e.toNat (by omega)
  rw [x1, x2, x3]
  simp (disch := omega) only [w32_id]
  have hw := wwI_b he e 6 (by decide)
  rw [if_pos (by omega)] at fin ⊢
  refine ⟨fun h2 => ⟨by omega, fin w _ f0 (by rw [if_pos h2])⟩, fun h2 => ⟨by omega, fin w _ f0 (by rw [if_neg (by omega), if_pos h2])⟩, fun h2 => ⟨by omega, fin w _ f0 (by rw [if_neg (by omega), if_neg (by omega), if_pos h2])⟩, fun h2 => ⟨⟨hX, he, he2, by decide⟩, fun w2 f2 => ⟨fun h3 => ?_, fun h3 => ?_⟩⟩, fun h2 => ⟨⟨hX, he, he2, by decide⟩, fun w2 f2 => ?_⟩, fun h2 => fin w _ f0 (by rw [if_neg (by omega), if_neg (by omega), if_neg (by omega), if_neg (by omega), if_neg (by omega)])⟩
  · rw [w64_id (x := wwI m e 6) (by omega), w64_id (x := 0) (by decide)] at h3
    exact fin w2 _ f2 (by rw [if_neg (by omega), if_neg (by omega), if_neg (by omega), if_pos h2, if_neg (by omega)])
  · rw [w64_id (x := wwI m e 6) (by omega), w64_id (x := 0) (by decide)] at h3
    exact fin w2 _ f2 (by rw [if_neg (by omega), if_neg (by omega), if_neg (by omega), if_pos h2, if_pos (by omega)])
  · exact fin w2 _ f2 (by rw [if_neg (by omega), if_neg (by omega), if_neg (by omega), if_neg (by omega), if_pos h2])

