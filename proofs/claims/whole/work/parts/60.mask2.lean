/-! The model: what is asked of entries and rules (calls). -/
theorem c_countRowsI {d : Nat} {m w : eW} {t : eT} {wo n : Int} (hw : w32 wo = wo) (h : MG w m ∧ w 67 35 = wo ∧ (0 ≤ n ∧ n ≤ 8)) : Cl (d + 5) 214 [rA 67, (0, n)] (enc w t) (fun r S2 => ∃ w2, r = some (1, ((cR m wo n.toNat 16 16 16 : Nat) : Int)) ∧ S2 = enc w2 t ∧ Fm [96, 97] [] w w2) := by
  obtain ⟨h1, h2, h3⟩ := h
  have := c_countRows (d := d) (m := m) (w := w) (t := t) (n := n.toNat) ⟨h1, h2, by omega⟩ hw
  rw [show ((n.toNat : Nat) : Int) = n by omega] at this
  exact this

theorem g_words {d : Nat} {Q : Option aV → aS → Prop} {w : eW} {t : eT} {n : Int} {m : eW} (h : (((decide (w64 1 ≤ w64 (w32 n) ∧ w64 (w32 n) ≤ w64 6)) = false → Q (some (1, (-1))) (enc (wu w 67 26 0) t)) ∧ ((decide (w64 1 ≤ w64 (w32 n) ∧ w64 (w32 n) ≤ w64 6)) = true → (MX (wu w 67 26 0) m ∧ ((0 : Int) ≤ n ∧ (n : Int) ≤ 6) ∧ okI (-1)) ∧ (∀ w1, (Fm [99] [] (wu w 67 26 0) w1) → Q (some (1, ((wv m (-1) n.toNat 0 : Nat) : Int))) (enc w1 t))))) : Cl (d + 1) 258 [rA 67, (0, n)] (enc w t) Q := by
  show Ev (d + 1) 258 Q 0 [rA 67, (0, n)] [] (enc w t)
  refine e_lda (v := 67) (show am_cd 258 0 = (2, 1, 0, 2, []) by decide +kernel) rfl ?_
  refine e_ic (show am_cd 258 1 = (0, 2, 0, 0, []) by decide +kernel) ?_
  refine e_putf (a := 67) (show am_cd 258 2 = (19, 5, 1226, 0, [113]) by decide +kernel) (by decide +kernel) (by decide +kernel) rfl (fun h9 => absurd h9 (by decide)) (fun h9 => absurd h9 (by decide +kernel)) ?_
  refine e_ldi (show am_cd 258 5 = (2, 6, 1, 0, []) by decide +kernel) rfl ?_
  refine e_i2l (show am_cd 258 6 = (8, 7, 0, 0, []) by decide +kernel) ?_
  refine e_lc (show am_cd 258 7 = (1, 8, 0, 1, []) by decide +kernel) ?_
  refine e_lc (show am_cd 258 8 = (1, 11, 1, 6, [443]) by decide +kernel) ?_
  refine e_cS (z := 0) (as := [(1, w32 n), (1, 1), (1, 6)]) (rest := []) (show am_cd 258 11 = (40, 14, 165, 1, [122]) by decide +kernel) (by decide) rfl rfl (Nat.le_of_ble_eq_true rfl) rfl ?_
  refine Cl.mono (Cl.up (c_in (d := d)) (by omega)) ?_
  rintro _ _ ⟨rfl, rfl⟩
  refine ⟨fun _ h9 => (by cases h9), ?_⟩
  show Ev _ 258 _ 14 [rA 67, (0, n)] [(0, bI (decide (w64 1 ≤ w64 (w32 n) ∧ w64 (w32 n) ≤ w64 6)))] _
  refine e_ifb0 (show am_cd 258 14 = (10, 17, 26, 0, []) by decide +kernel) (fun hc => ?_) (fun hc => ?_)
  · replace h := h.1 hc
    refine e_lc (show am_cd 258 26 = (1, 29, 1, -1, [228]) by decide +kernel) ?_
    exact e_retl (show am_cd 258 29 = (36, 30, 1, 0, []) by decide +kernel) (by decide +kernel) h
  · replace h := h.2 hc
    refine e_lda (v := 67) (show am_cd 258 17 = (2, 18, 0, 2, []) by decide +kernel) rfl ?_
    refine e_ldi (show am_cd 258 18 = (2, 19, 1, 0, []) by decide +kernel) rfl ?_
    refine e_ic (show am_cd 258 19 = (0, 20, 0, -1, []) by decide +kernel) ?_
    refine e_cV (z := 0) (a := 67) (as := [(0, n), (0, (-1))]) (rest := []) (show am_cd 258 20 = (40, 23, 257, 0, [445]) by decide +kernel) (by decide +kernel) rfl rfl (Nat.le_of_ble_eq_true rfl) rfl ?_
    refine Cl.mono (Cl.up (c_countWords (d := d) h.1) (by omega)) ?_
    rintro _ _ ⟨w1, rfl, rfl, hp⟩
    refine ⟨fun _ h9 => (by cases h9), ?_⟩
    replace h := h.2 w1 hp
    show Ev _ 258 _ 23 [rA 67, (0, n)] [(1, ((wv m (-1) n.toNat 0 : Nat) : Int))] _
    refine e_go (show am_cd 258 23 = (12, 29, 0, 0, []) by decide +kernel) ?_
    exact e_retl (show am_cd 258 29 = (36, 30, 1, 0, []) by decide +kernel) (by decide +kernel) h

theorem g_entryOf {d : Nat} {Q : Option aV → aS → Prop} {w : eW} {t : eT} {e q : Int} {m : eW} (h : (((decide (w64 0 ≤ w64 (w32 e) ∧ w64 (w32 e) ≤ w64 (w32 ((w 67 12) - 1)))) = true → ((w32 q = 0 → (0 ≤ w32 e ∧ w32 e < 16) ∧ (Q (some (1, w32 (w 77 (w32 e).toNat))) (enc (wu w 67 26 0) t))) ∧ (w32 q = 1 → (0 ≤ w32 e ∧ w32 e < 16) ∧ (Q (some (1, w32 (w 78 (w32 e).toNat))) (enc (wu w 67 26 0) t))) ∧ (w32 q = 2 → (0 ≤ w32 e ∧ w32 e < 16) ∧ (Q (some (1, w32 (w 79 (w32 e).toNat))) (enc (wu w 67 26 0) t))) ∧ (w32 q = 3 → (MX (wu w 67 26 0) m ∧ okI e ∧ ((0 : Int) ≤ 6 ∧ (6 : Int) ≤ 6)) ∧ (∀ w1, (Fm [99] [] (wu w 67 26 0) w1) → ((w64 (wwI m e 6) ≤ w64 0 → Q (some (1, 0)) (enc w1 t)) ∧ (¬ (w64 (wwI m e 6) ≤ w64 0) → Q (some (1, 1)) (enc w1 t))))) ∧ (w32 q = 4 → (MX (wu w 67 26 0) m ∧ okI e ∧ ((0 : Int) ≤ 4 ∧ (4 : Int) ≤ 6)) ∧ (∀ w2, (Fm [99] [] (wu w 67 26 0) w2) → Q (some (1, wwI m e 4)) (enc w2 t))) ∧ ((w32 q < 0 ∨ 5 ≤ w32 q) → Q (some (1, (-1))) (enc (wu w 67 26 0) t)))) ∧ ((decide (w64 0 ≤ w64 (w32 e) ∧ w64 (w32 e) ≤ w64 (w32 ((w 67 12) - 1)))) = false → Q (some (1, (-1))) (enc (wu w 67 26 0) t)))) : Cl (d + 2) 262 [rA 67, (0, e), (0, q)] (enc w t) Q := by
  show Ev (d + 2) 262 Q 0 [rA 67, (0, e), (0, q)] [] (enc w t)
  refine e_lda (v := 67) (show am_cd 262 0 = (2, 1, 0, 2, []) by decide +kernel) rfl ?_
  refine e_ic (show am_cd 262 1 = (0, 2, 0, 0, []) by decide +kernel) ?_
  refine e_putf (a := 67) (show am_cd 262 2 = (19, 5, 1226, 0, [113]) by decide +kernel) (by decide +kernel) (by decide +kernel) rfl (fun h9 => absurd h9 (by decide)) (fun h9 => absurd h9 (by decide +kernel)) ?_
  refine e_ldi (show am_cd 262 5 = (2, 6, 1, 0, []) by decide +kernel) rfl ?_
  refine e_i2l (show am_cd 262 6 = (8, 7, 0, 0, []) by decide +kernel) ?_
  refine e_lc (show am_cd 262 7 = (1, 8, 0, 0, []) by decide +kernel) ?_
  refine e_lda (v := 67) (show am_cd 262 8 = (2, 9, 0, 2, []) by decide +kernel) rfl ?_
  refine e_getfE (a := 67) (tg := 0) (v := w 67 12) (show am_cd 262 9 = (18, 12, 1212, 0, [186]) by decide +kernel) (by decide +kernel) (by decide +kernel) rfl rfl ?_
  refine e_ic (show am_cd 262 12 = (0, 13, 0, 1, []) by decide +kernel) ?_
  refine e_isub (show am_cd 262 13 = (5, 14, 1, 0, []) by decide +kernel) ?_
  refine e_i2l (show am_cd 262 14 = (8, 15, 0, 0, []) by decide +kernel) ?_
  refine e_cS (z := 0) (as := [(1, w32 e), (1, 0), (1, w32 ((w 67 12) - 1))]) (rest := []) (show am_cd 262 15 = (40, 18, 165, 1, [122]) by decide +kernel) (by decide) rfl rfl (Nat.le_of_ble_eq_true rfl) rfl ?_
  refine Cl.mono (Cl.up (c_in (d := d)) (by omega)) ?_
  rintro _ _ ⟨rfl, rfl⟩
  refine ⟨fun _ h9 => (by cases h9), ?_⟩
  show Ev _ 262 _ 18 [rA 67, (0, e), (0, q)] [(0, bI (decide (w64 0 ≤ w64 (w32 e) ∧ w64 (w32 e) ≤ w64 (w32 ((w 67 12) - 1)))))] _
  refine e_ifb1 (show am_cd 262 18 = (10, 21, 25, 1, []) by decide +kernel) (fun hc => ?_) (fun hc => ?_)
  · replace h := h.1 hc
    refine e_ldi (show am_cd 262 25 = (2, 26, 2, 0, []) by decide +kernel) rfl ?_
    refine e_tsw (show am_cd 262 26 = (30, 109, 34, 0, [60, 68, 76, 84, 102]) by decide +kernel) (fun i tg hi hx => ?_) (fun hx => ?_)
    · match i, hi with
      | 0, hi =>
        cases hi
        replace h := h.1 (by omega)
        refine e_lda (v := 67) (show am_cd 262 60 = (2, 61, 0, 2, []) by decide +kernel) rfl ?_
        refine e_getr (a := 67) (r := 77) (show am_cd 262 61 = (18, 64, 1213, 2, [37]) by decide +kernel) (by decide +kernel) (by decide +kernel) rfl ?_
        refine e_ldi (show am_cd 262 64 = (2, 65, 1, 0, []) by decide +kernel) rfl ?_
        refine e_ialdE (a := 77) (n := 16) (v := w 77 (w32 e).toNat) (show am_cd 262 65 = (21, 66, 0, 0, []) by decide +kernel) (by decide +kernel) (by decide +kernel) (by decide +kernel) h.1 rfl ?_
        replace h := h.2
        refine e_i2l (show am_cd 262 66 = (8, 67, 0, 0, []) by decide +kernel) ?_
        exact e_retl (show am_cd 262 67 = (36, 68, 1, 0, []) by decide +kernel) (by decide +kernel) h
      | 1, hi =>
        cases hi
        replace h := h.2.1 (by omega)
        refine e_lda (v := 67) (show am_cd 262 68 = (2, 69, 0, 2, []) by decide +kernel) rfl ?_
        refine e_getr (a := 67) (r := 78) (show am_cd 262 69 = (18, 72, 1214, 2, [40]) by decide +kernel) (by decide +kernel) (by decide +kernel) rfl ?_
        refine e_ldi (show am_cd 262 72 = (2, 73, 1, 0, []) by decide +kernel) rfl ?_
        refine e_ialdE (a := 78) (n := 16) (v := w 78 (w32 e).toNat) (show am_cd 262 73 = (21, 74, 0, 0, []) by decide +kernel) (by decide +kernel) (by decide +kernel) (by decide +kernel) h.1 rfl ?_
        replace h := h.2
        refine e_i2l (show am_cd 262 74 = (8, 75, 0, 0, []) by decide +kernel) ?_
        exact e_retl (show am_cd 262 75 = (36, 76, 1, 0, []) by decide +kernel) (by decide +kernel) h
      | 2, hi =>
        cases hi
        replace h := h.2.2.1 (by omega)
        refine e_lda (v := 67) (show am_cd 262 76 = (2, 77, 0, 2, []) by decide +kernel) rfl ?_
        refine e_getr (a := 67) (r := 79) (show am_cd 262 77 = (18, 80, 1215, 2, [43]) by decide +kernel) (by decide +kernel) (by decide +kernel) rfl ?_
        refine e_ldi (show am_cd 262 80 = (2, 81, 1, 0, []) by decide +kernel) rfl ?_
        refine e_ialdE (a := 79) (n := 16) (v := w 79 (w32 e).toNat) (show am_cd 262 81 = (21, 82, 0, 0, []) by decide +kernel) (by decide +kernel) (by decide +kernel) (by decide +kernel) h.1 rfl ?_
        replace h := h.2
        refine e_i2l (show am_cd 262 82 = (8, 83, 0, 0, []) by decide +kernel) ?_
        exact e_retl (show am_cd 262 83 = (36, 84, 1, 0, []) by decide +kernel) (by decide +kernel) h
      | 3, hi =>
        cases hi
        replace h := h.2.2.2.1 (by omega)
        refine e_lda (v := 67) (show am_cd 262 84 = (2, 85, 0, 2, []) by decide +kernel) rfl ?_
        refine e_ldi (show am_cd 262 85 = (2, 86, 1, 0, []) by decide +kernel) rfl ?_
        refine e_ic (show am_cd 262 86 = (0, 88, 1, 6, []) by decide +kernel) ?_
        refine e_cV (z := 0) (a := 67) (as := [(0, e), (0, 6)]) (rest := []) (show am_cd 262 88 = (40, 91, 261, 0, [457]) by decide +kernel) (by decide +kernel) rfl rfl (Nat.le_of_ble_eq_true rfl) rfl ?_
        refine Cl.mono (Cl.up (c_mwordsWith (d := d) h.1) (by omega)) ?_
        rintro _ _ ⟨w1, rfl, rfl, hp⟩
        refine ⟨fun _ h9 => (by cases h9), ?_⟩
        replace h := h.2 w1 hp
        show Ev _ 262 _ 91 [rA 67, (0, e), (0, q)] [(1, wwI m e 6)] _
        refine e_lc (show am_cd 262 91 = (1, 92, 0, 0, []) by decide +kernel) ?_
        refine e_lcb5 (show am_cd 262 92 = (9, 93, 0, 0, []) by decide +kernel) (show am_cd 262 93 = (10, 96, 100, 5, []) by decide +kernel) (fun hc => ?_) (fun hc => ?_)
        · replace h := h.1 hc
          refine e_lc (show am_cd 262 100 = (1, 101, 0, 0, []) by decide +kernel) ?_
          exact e_retl (show am_cd 262 101 = (36, 102, 1, 0, []) by decide +kernel) (by decide +kernel) h
        · replace h := h.2 hc
          refine e_lc (show am_cd 262 96 = (1, 97, 0, 1, []) by decide +kernel) ?_
          refine e_go (show am_cd 262 97 = (12, 101, 0, 0, []) by decide +kernel) ?_
          exact e_retl (show am_cd 262 101 = (36, 102, 1, 0, []) by decide +kernel) (by decide +kernel) h
      | 4, hi =>
        cases hi
        replace h := h.2.2.2.2.1 (by omega)
        refine e_lda (v := 67) (show am_cd 262 102 = (2, 103, 0, 2, []) by decide +kernel) rfl ?_
        refine e_ldi (show am_cd 262 103 = (2, 104, 1, 0, []) by decide +kernel) rfl ?_
        refine e_ic (show am_cd 262 104 = (0, 105, 0, 4, []) by decide +kernel) ?_
        refine e_cV (z := 0) (a := 67) (as := [(0, e), (0, 4)]) (rest := []) (show am_cd 262 105 = (40, 108, 261, 0, [457]) by decide +kernel) (by decide +kernel) rfl rfl (Nat.le_of_ble_eq_true rfl) rfl ?_
        refine Cl.mono (Cl.up (c_mwordsWith (d := d) h.1) (by omega)) ?_
        rintro _ _ ⟨w2, rfl, rfl, hp⟩
        refine ⟨fun _ h9 => (by cases h9), ?_⟩
        replace h := h.2 w2 hp
        show Ev _ 262 _ 108 [rA 67, (0, e), (0, q)] [(1, wwI m e 4)] _
        exact e_retl (show am_cd 262 108 = (36, 109, 1, 0, []) by decide +kernel) (by decide +kernel) h
      | i + 5, hi => cases hi
    · replace h := h.2.2.2.2.2 (by simp only [List.length_cons, List.length_nil] at hx; omega)
      refine e_lc (show am_cd 262 109 = (1, 112, 1, -1, [228]) by decide +kernel) ?_
      exact e_retl (show am_cd 262 112 = (36, 113, 1, 0, []) by decide +kernel) (by decide +kernel) h
  · replace h := h.2 hc
    refine e_lc (show am_cd 262 21 = (1, 24, 1, -1, [228]) by decide +kernel) ?_
    exact e_retl (show am_cd 262 24 = (36, 25, 1, 0, []) by decide +kernel) (by decide +kernel) h

theorem g_rows {d : Nat} {Q : Option aV → aS → Prop} {w : eW} {t : eT} {n : Int} {m : eW} {wo : Int} (hw : w32 wo = wo) (h : (((decide (w64 0 ≤ w64 (w32 n) ∧ w64 (w32 n) ≤ w64 8)) = false → Q (some (1, (-1))) (enc (wu w 67 26 0) t)) ∧ ((decide (w64 0 ≤ w64 (w32 n) ∧ w64 (w32 n) ≤ w64 8)) = true → (MG (wu w 67 26 0) m ∧ (wu w 67 26 0) 67 35 = wo ∧ ((0 : Int) ≤ n ∧ (n : Int) ≤ 8)) ∧ (∀ w1, (Fm [96, 97] [] (wu w 67 26 0) w1) → Q (some (1, ((cR m wo n.toNat 16 16 16 : Nat) : Int))) (enc w1 t))))) : Cl (d + 6) 215 [rA 67, (0, n)] (enc w t) Q := by
  show Ev (d + 6) 215 Q 0 [rA 67, (0, n)] [] (enc w t)
  refine e_lda (v := 67) (show am_cd 215 0 = (2, 1, 0, 2, []) by decide +kernel) rfl ?_
  refine e_ic (show am_cd 215 1 = (0, 2, 0, 0, []) by decide +kernel) ?_
  refine e_putf (a := 67) (show am_cd 215 2 = (19, 5, 1226, 0, [113]) by decide +kernel) (by decide +kernel) (by decide +kernel) rfl (fun h9 => absurd h9 (by decide)) (fun h9 => absurd h9 (by decide +kernel)) ?_
  refine e_ldi (show am_cd 215 5 = (2, 6, 1, 0, []) by decide +kernel) rfl ?_
  refine e_i2l (show am_cd 215 6 = (8, 7, 0, 0, []) by decide +kernel) ?_
  refine e_lc (show am_cd 215 7 = (1, 8, 0, 0, []) by decide +kernel) ?_
  refine e_lc (show am_cd 215 8 = (1, 11, 1, 8, [289]) by decide +kernel) ?_
  refine e_cS (z := 0) (as := [(1, w32 n), (1, 0), (1, 8)]) (rest := []) (show am_cd 215 11 = (40, 14, 165, 1, [122]) by decide +kernel) (by decide) rfl rfl (Nat.le_of_ble_eq_true rfl) rfl ?_
  refine Cl.mono (Cl.up (c_in (d := d)) (by omega)) ?_
  rintro _ _ ⟨rfl, rfl⟩
  refine ⟨fun _ h9 => (by cases h9), ?_⟩
  show Ev _ 215 _ 14 [rA 67, (0, n)] [(0, bI (decide (w64 0 ≤ w64 (w32 n) ∧ w64 (w32 n) ≤ w64 8)))] _
  refine e_ifb0 (show am_cd 215 14 = (10, 17, 25, 0, []) by decide +kernel) (fun hc => ?_) (fun hc => ?_)
  · replace h := h.1 hc
    refine e_lc (show am_cd 215 25 = (1, 28, 1, -1, [228]) by decide +kernel) ?_
    exact e_retl (show am_cd 215 28 = (36, 29, 1, 0, []) by decide +kernel) (by decide +kernel) h
  · replace h := h.2 hc
    refine e_lda (v := 67) (show am_cd 215 17 = (2, 18, 0, 2, []) by decide +kernel) rfl ?_
    refine e_ldi (show am_cd 215 18 = (2, 19, 1, 0, []) by decide +kernel) rfl ?_
    refine e_cV (z := 0) (a := 67) (as := [(0, n)]) (rest := []) (show am_cd 215 19 = (40, 22, 214, 0, [291]) by decide +kernel) (by decide +kernel) rfl rfl (Nat.le_of_ble_eq_true rfl) rfl ?_
    refine Cl.mono (Cl.up (c_countRowsI (hw := hw) (d := d) h.1) (by omega)) ?_
    rintro _ _ ⟨w1, rfl, rfl, hp⟩
    refine ⟨fun _ h9 => (by cases h9), ?_⟩
    replace h := h.2 w1 hp
    show Ev _ 215 _ 22 [rA 67, (0, n)] [(1, ((cR m wo n.toNat 16 16 16 : Nat) : Int))] _
    refine e_go (show am_cd 215 22 = (12, 28, 0, 0, []) by decide +kernel) ?_
    exact e_retl (show am_cd 215 28 = (36, 29, 1, 0, []) by decide +kernel) (by decide +kernel) h

theorem g_more0 {d : Nat} {Q : Option aV → aS → Prop} {w : eW} {t : eT} {rr : Int} (h : Cl (d + 5) 214 [rA 67, (0, 3)] (enc w t) (fun r S2 => (∀ x, r ≠ some (6, x)) ∧ Ev (d + 6) 263 Q 5 [rA 67, (0, rr), (9, 0), (9, 0), (9, 0), (9, 0)] (r.toList ++ []) S2)) : Cl (d + 6) 263 [rA 67, (0, rr)] (enc w t) Q := by
  show Ev (d + 6) 263 Q 0 [rA 67, (0, rr), (9, 0), (9, 0), (9, 0), (9, 0)] [] (enc w t)
  refine e_lda (v := 67) (show am_cd 263 0 = (2, 1, 0, 2, []) by decide +kernel) rfl ?_
  refine e_ic (show am_cd 263 1 = (0, 2, 0, 3, []) by decide +kernel) ?_
  refine e_cV (z := 0) (a := 67) (as := [(0, 3)]) (rest := []) (show am_cd 263 2 = (40, 5, 214, 0, [291]) by decide +kernel) (by decide +kernel) rfl rfl (Nat.le_of_ble_eq_true rfl) rfl ?_
  exact h

theorem g_more1 {d : Nat} {Q : Option aV → aS → Prop} {w : eW} {t : eT} {rr y : Int} (h : Cl (d + 5) 214 [rA 67, (0, 3)] (enc (wu w 67 35 rr) t) (fun r S2 => (∀ x, r ≠ some (6, x)) ∧ Ev (d + 6) 263 Q 16 [rA 67, (0, rr), (1, y), (9, 0), (9, 0), (9, 0)] (r.toList ++ []) S2)) : Ev (d + 6) 263 Q 5 [rA 67, (0, rr), (9, 0), (9, 0), (9, 0), (9, 0)] [(1, y)] (enc w t) := by
  refine e_stl (la2 := [rA 67, (0, rr), (1, y), (9, 0), (9, 0), (9, 0)]) (show am_cd 263 5 = (3, 6, 2, 1, []) by decide +kernel) rfl ?_
  refine e_lda (v := 67) (show am_cd 263 6 = (2, 7, 0, 2, []) by decide +kernel) rfl ?_
  refine e_ldi (show am_cd 263 7 = (2, 8, 1, 0, []) by decide +kernel) rfl ?_
  refine e_putf (a := 67) (show am_cd 263 8 = (19, 11, 1235, 0, [84]) by decide +kernel) (by decide +kernel) (by decide +kernel) rfl (fun h9 => absurd h9 (by decide)) (fun h9 => absurd h9 (by decide +kernel)) ?_
  refine e_lda (v := 67) (show am_cd 263 11 = (2, 12, 0, 2, []) by decide +kernel) rfl ?_
  refine e_ic (show am_cd 263 12 = (0, 13, 0, 3, []) by decide +kernel) ?_
  refine e_cV (z := 0) (a := 67) (as := [(0, 3)]) (rest := []) (show am_cd 263 13 = (40, 16, 214, 0, [291]) by decide +kernel) (by decide +kernel) rfl rfl (Nat.le_of_ble_eq_true rfl) rfl ?_
  exact h

theorem g_more2 {d : Nat} {Q : Option aV → aS → Prop} {w : eW} {t : eT} {rr x y : Int} (h : Q (some (1, y - x)) (enc (wu w 67 35 (-1)) t)) : Ev (d + 6) 263 Q 16 [rA 67, (0, rr), (1, x), (9, 0), (9, 0), (9, 0)] [(1, y)] (enc w t) := by
  refine e_stl (la2 := [rA 67, (0, rr), (1, x), (9, 0), (1, y), (9, 0)]) (show am_cd 263 16 = (3, 18, 4, 1, []) by decide +kernel) rfl ?_
  refine e_lda (v := 67) (show am_cd 263 18 = (2, 19, 0, 2, []) by decide +kernel) rfl ?_
  refine e_ic (show am_cd 263 19 = (0, 20, 0, -1, []) by decide +kernel) ?_
  refine e_putf (a := 67) (show am_cd 263 20 = (19, 23, 1235, 0, [84]) by decide +kernel) (by decide +kernel) (by decide +kernel) rfl (fun h9 => absurd h9 (by decide)) (fun h9 => absurd h9 (by decide +kernel)) ?_
  refine e_ldl (show am_cd 263 23 = (2, 25, 4, 1, []) by decide +kernel) rfl ?_
  refine e_ldl (show am_cd 263 25 = (2, 26, 2, 1, []) by decide +kernel) rfl ?_
  refine e_lsub (show am_cd 263 26 = (6, 27, 1, 0, []) by decide +kernel) ?_
  exact e_retl (show am_cd 263 27 = (36, 28, 1, 0, []) by decide +kernel) (by decide +kernel) h

theorem c_more {d : Nat} {m w : eW} {t : eT} {r : Int} (h : MG w m ∧ w 67 35 = -1 ∧ gR m r) : Cl (d + 6) 263 [rA 67, (0, r)] (enc w t) (fun z S2 => ∃ w2, z = some (1, ((cR m r 3 16 16 16 : Nat) : Int) - ((cR m (-1) 3 16 16 16 : Nat) : Int)) ∧ S2 = enc w2 t ∧ Fm [96, 97] [] w w2) := by
  obtain ⟨hm, hwo, hr⟩ := h
  have hrn := hm.2.1.n
  unfold gR at hr
  refine g_more0 ?_
  refine Cl.mono (Cl.up (c_countRowsI (d := d) (m := m) (wo := -1) hm1 ⟨hm, hwo, by decide, by decide⟩) (by omega)) ?_
  rintro _ _ ⟨w1, rfl, rfl, h1⟩
  refine ⟨fun _ h9 => (by cases h9), ?_⟩
  have q1 : Fm [96, 97] [35] w w1 := h1.mo (by decide) (by decide)
  refine g_more1 ?_
  have q2 : Fm [96, 97] [35] w (wu w1 67 35 r) := q1.tr (Fm.pf (by decide))
  refine Cl.mono (Cl.up (c_countRowsI (d := d) (m := m) (wo := r) (w32_id (by omega)) ⟨hm.m q2 (by decide) (by decide), wu_eq _ _ _ _, by decide, by decide⟩) (by omega)) ?_
  rintro _ _ ⟨w2, rfl, rfl, h2⟩
  refine ⟨fun _ h9 => (by cases h9), ?_⟩
  refine g_more2 ?_
  refine ⟨_, rfl, rfl, ⟨fun a a1 a2 => ?_, fun k hk => ?_⟩⟩
  · rw [wu_row a1, h2.1 a a1 a2, wu_row a1, h1.1 a a1 a2]
  · by_cases h35 : k = 35
    · subst h35; rw [wu_eq]; exact hwo.symm
    · rw [wu_nk _ _ h35, h2.2 k hk, wu_nk _ _ h35, h1.2 k hk]

