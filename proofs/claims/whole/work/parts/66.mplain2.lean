/-! The model: kept, word, row, side, count. -/
def keptO (ks : kT) (i q : Int) : Option Int := if 0 ≤ i ∧ i < ks.length then (if q = -1 then some ((kAt ks i.toNat).1.length : Int) else if 0 ≤ q ∧ q < (kAt ks i.toNat).1.length then some (((kAt ks i.toNat).1.getD q.toNat 0 : Nat) : Int) else none) else none
def wordO (ks : kT) (i q : Int) : Option Int := if (0 ≤ i ∧ i < ks.length) ∧ (kAt ks i.toNat).2 ≠ [] then (if q = -1 then some ((kAt ks i.toNat).2.length : Int) else if 0 ≤ q ∧ q < (kAt ks i.toNat).2.length then some (((kAt ks i.toNat).2.getD q.toNat 0 : Nat) : Int) else none) else none
def rowO (rl : List Int) (i : Int) : Option Int := if 0 ≤ i ∧ i < rl.length then some (rl.getD i.toNat 0) else none
def thI (o : Option Int) : Int := if o.isSome then 0 else 1
/-- what a call that may be lost answers -/
def LO (w w2 : eW) (o : Option Int) : Prop := Fm [] [26] w w2 ∧ w2 67 26 = thI o
theorem LO.s {w : eW} {x : Int} : LO w (wu w 67 26 0) (some x) := ⟨Fm.pf (by decide), wu_eq _ _ _ _⟩
theorem LO.n {w : eW} : LO w (wu (wu w 67 26 0) 67 26 1) none := ⟨(Fm.pf (by decide)).tr (Fm.pf (by decide)), wu_eq _ _ _ _⟩
theorem c_mkept {d : Nat} {w : eW} {t : eT} {ks : kT} {i q : Int} (h : KM w ks ∧ okI i ∧ okI q) : Cl (d + 1) 254 [rA 67, (0, i), (0, q)] (enc w t) (fun r S2 => ∃ w2, r = some (0, (keptO ks i q).getD 0) ∧ S2 = enc w2 t ∧ LO w w2 (keptO ks i q)) := by
  obtain ⟨⟨h1, h2, h3⟩, hi, hq⟩ := h
  unfold okI at hi hq
  refine g_mkept ?_
  rw [h1]
  simp (disch := omega) only [w32_id, w64_id]
  refine ⟨fun h4 => ?_, fun h4 => ?_⟩
  · have h4 := of_decide_eq_true h4
    obtain ⟨g1, g2, g3, g4, g5, g6⟩ := h3 i.toNat (by omega)
    unfold keptO
    rw [if_pos (by omega), g3]
    simp (disch := omega) only [w32_id, w64_id]
    refine ⟨fun h5 => ⟨by omega, fun h6 => ?_, fun h6 => ?_⟩, fun h5 => ⟨by omega, ?_⟩⟩
    · have h6 := of_decide_eq_false h6
      rw [if_neg h5, if_neg (by omega)]
      exact ⟨_, by trivial, rfl, LO.n⟩
    · have h6 := of_decide_eq_true h6
      rw [if_neg h5, if_pos (by omega)]
      have e1 : (16 * i + q).toNat = 16 * i.toNat + q.toNat := by omega
      simp (disch := omega) only [w32_id]
      rw [e1, g4 q.toNat (by omega)]
      exact ⟨by omega, _, rfl, rfl, LO.s⟩
    · rw [if_pos (by omega)]
      exact ⟨_, rfl, rfl, LO.s⟩
  · have h4 := of_decide_eq_false h4
    unfold keptO
    rw [if_neg (by omega)]
    exact ⟨_, by trivial, rfl, LO.n⟩
theorem c_mword {d : Nat} {w : eW} {t : eT} {ks : kT} {i q : Int} (h : KM w ks ∧ okI i ∧ okI q) : Cl (d + 1) 256 [rA 67, (0, i), (0, q)] (enc w t) (fun r S2 => ∃ w2, r = some (0, (wordO ks i q).getD 0) ∧ S2 = enc w2 t ∧ LO w w2 (wordO ks i q)) := by
  obtain ⟨⟨h1, h2, h3⟩, hi, hq⟩ := h
  unfold okI at hi hq
  refine g_mword ?_
  rw [h1]
  simp (disch := omega) only [w32_id, w64_id]
  refine ⟨fun h4 => ?_, fun h4 => ?_⟩
  · have h4 := of_decide_eq_false h4
    unfold wordO
    rw [if_neg (by omega)]
    exact ⟨_, by trivial, rfl, LO.n⟩
  · have h4 := of_decide_eq_true h4
    obtain ⟨g1, g2, g3, g4, g5, g6⟩ := h3 i.toNat (by omega)
    have g5b : -1 ≤ w 83 i.toNat ∧ w 83 i.toNat ≤ 6 := by rw [g5]; split <;> omega
    have g5c : w 83 i.toNat = -1 ↔ (kAt ks i.toNat).2 = [] := by
      rw [g5]
      constructor
      · intro h9
        by_cases hh : (kAt ks i.toNat).2 = []
        · exact hh
        · rw [if_neg hh] at h9; omega
      · intro h9; rw [if_pos h9]
    unfold wordO
    simp (disch := omega) only [w32_id, w64_id]
    refine ⟨by omega, fun h5 => ?_, fun h5 => ?_⟩
    · have hne : (kAt ks i.toNat).2 ≠ [] := fun h9 => h5 (g5c.mpr h9)
      rw [if_neg hne] at g5
      rw [if_pos ⟨by omega, hne⟩, g5]
      refine ⟨fun h6 => ⟨by omega, fun h7 => ?_, fun h7 => ?_⟩, fun h6 => ⟨by omega, ?_⟩⟩
      · have h7 := of_decide_eq_false h7
        rw [if_neg h6, if_neg (by omega)]
        exact ⟨_, by trivial, rfl, LO.n⟩
      · have h7 := of_decide_eq_true h7
        rw [if_neg h6, if_pos (by omega)]
        have e1 : (6 * i + q).toNat = 6 * i.toNat + q.toNat := by omega
        simp (disch := omega) only [w32_id]
        rw [e1, g6 q.toNat (by omega)]
        exact ⟨by omega, _, rfl, rfl, LO.s⟩
      · rw [if_pos (by omega)]
        exact ⟨_, rfl, rfl, LO.s⟩
    · rw [if_neg (fun h9 => h9.2 (g5c.mp (by omega)))]
      exact ⟨_, by trivial, rfl, LO.n⟩
theorem c_mrow {d : Nat} {w : eW} {t : eT} {rl : List Int} {i : Int} (h : RowM w rl ∧ okI i) : Cl (d + 1) 266 [rA 67, (0, i)] (enc w t) (fun r S2 => ∃ w2, r = some (1, (rowO rl i).getD 0) ∧ S2 = enc w2 t ∧ LO w w2 (rowO rl i)) := by
  obtain ⟨⟨h1, h2, h3⟩, hi⟩ := h
  unfold okI at hi
  refine g_mrow ?_
  rw [h1]
  simp (disch := omega) only [w32_id, w64_id]
  unfold rowO
  refine ⟨fun h4 => ?_, fun h4 => ?_⟩
  · have h4 := of_decide_eq_false h4
    rw [if_neg (by omega)]
    exact ⟨_, by trivial, rfl, LO.n⟩
  · have h4 := of_decide_eq_true h4
    rw [if_pos (by omega), h3 i.toNat (by omega)]
    exact ⟨by omega, _, rfl, rfl, LO.s⟩

theorem g_mside0 {d : Nat} {Q : Option aV → aS → Prop} {w : eW} {t : eT} {i s q : Int} (h : (((decide (w64 0 ≤ w64 (w32 i) ∧ w64 (w32 i) ≤ w64 (w32 ((w 67 17) - 1)))) = false → Q (some (0, 0)) (enc (wu (wu w 67 26 0) 67 26 1) t)) ∧ ((decide (w64 0 ≤ w64 (w32 i) ∧ w64 (w32 i) ≤ w64 (w32 ((w 67 17) - 1)))) = true → (((decide (w64 0 ≤ w64 (w32 s) ∧ w64 (w32 s) ≤ w64 1)) = true → Ev (d + 1) 255 Q 42 [rA 67, (0, i), (0, s), (0, q), (0, 0), (0, 0), (9, 0), (9, 0)] [] (enc (wu w 67 26 0) t)) ∧ ((decide (w64 0 ≤ w64 (w32 s) ∧ w64 (w32 s) ≤ w64 1)) = false → Q (some (0, 0)) (enc (wu (wu w 67 26 0) 67 26 1) t)))))) : Cl (d + 1) 255 [rA 67, (0, i), (0, s), (0, q)] (enc w t) Q := by
  show Ev (d + 1) 255 Q 0 [rA 67, (0, i), (0, s), (0, q), (9, 0), (9, 0), (9, 0), (9, 0)] [] (enc w t)
  refine e_lda (v := 67) (show am_cd 255 0 = (2, 1, 0, 2, []) by decide +kernel) rfl ?_
  refine e_ic (show am_cd 255 1 = (0, 2, 0, 0, []) by decide +kernel) ?_
  refine e_putf (a := 67) (show am_cd 255 2 = (19, 5, 1226, 0, [113]) by decide +kernel) (by decide +kernel) (by decide +kernel) rfl (fun h9 => absurd h9 (by decide)) (fun h9 => absurd h9 (by decide +kernel)) ?_
  refine e_ldi (show am_cd 255 5 = (2, 6, 1, 0, []) by decide +kernel) rfl ?_
  refine e_i2l (show am_cd 255 6 = (8, 7, 0, 0, []) by decide +kernel) ?_
  refine e_lc (show am_cd 255 7 = (1, 8, 0, 0, []) by decide +kernel) ?_
  refine e_lda (v := 67) (show am_cd 255 8 = (2, 9, 0, 2, []) by decide +kernel) rfl ?_
  refine e_getfE (a := 67) (tg := 0) (v := w 67 17) (show am_cd 255 9 = (18, 12, 1217, 0, [189]) by decide +kernel) (by decide +kernel) (by decide +kernel) rfl rfl ?_
  refine e_ic (show am_cd 255 12 = (0, 13, 0, 1, []) by decide +kernel) ?_
  refine e_isub (show am_cd 255 13 = (5, 14, 1, 0, []) by decide +kernel) ?_
  refine e_i2l (show am_cd 255 14 = (8, 15, 0, 0, []) by decide +kernel) ?_
  refine e_cS (z := 0) (as := [(1, w32 i), (1, 0), (1, w32 ((w 67 17) - 1))]) (rest := []) (show am_cd 255 15 = (40, 18, 165, 1, [122]) by decide +kernel) (by decide) rfl rfl (Nat.le_of_ble_eq_true rfl) rfl ?_
  refine Cl.mono (Cl.up (c_in (d := d)) (by omega)) ?_
  rintro _ _ ⟨rfl, rfl⟩
  refine ⟨fun _ h9 => (by cases h9), ?_⟩
  show Ev _ 255 _ 18 [rA 67, (0, i), (0, s), (0, q), (9, 0), (9, 0), (9, 0), (9, 0)] [(0, bI (decide (w64 0 ≤ w64 (w32 i) ∧ w64 (w32 i) ≤ w64 (w32 ((w 67 17) - 1)))))] _
  refine e_ifb0 (show am_cd 255 18 = (10, 21, 31, 0, []) by decide +kernel) (fun hc => ?_) (fun hc => ?_)
  · replace h := h.1 hc
    refine e_lda (v := 67) (show am_cd 255 31 = (2, 32, 0, 2, []) by decide +kernel) rfl ?_
    refine e_cV (z := 0) (a := 67) (as := []) (rest := []) (show am_cd 255 32 = (40, 35, 166, 0, [437]) by decide +kernel) (by decide +kernel) rfl rfl (Nat.le_of_ble_eq_true rfl) rfl ?_
    show Ev _ 166 _ 0 [rA 67] [] _
    refine e_lda (v := 67) (show am_cd 166 0 = (2, 1, 0, 2, []) by decide +kernel) rfl ?_
    refine e_ic (show am_cd 166 1 = (0, 2, 0, 1, []) by decide +kernel) ?_
    refine e_putf (a := 67) (show am_cd 166 2 = (19, 5, 1226, 0, [113]) by decide +kernel) (by decide +kernel) (by decide +kernel) rfl (fun h9 => absurd h9 (by decide)) (fun h9 => absurd h9 (by decide +kernel)) ?_
    refine e_ic (show am_cd 166 5 = (0, 6, 0, 0, []) by decide +kernel) ?_
    refine e_reti (show am_cd 166 6 = (36, 7, 0, 0, []) by decide +kernel) (by decide +kernel) ⟨fun _ h9 => (by cases h9), ?_⟩
    show Ev _ 255 _ 35 [rA 67, (0, i), (0, s), (0, q), (9, 0), (9, 0), (9, 0), (9, 0)] [(0, 0)] _
    exact e_reti (show am_cd 255 35 = (36, 36, 0, 0, []) by decide +kernel) (by decide +kernel) h
  · replace h := h.2 hc
    refine e_ldi (show am_cd 255 21 = (2, 22, 2, 0, []) by decide +kernel) rfl ?_
    refine e_i2l (show am_cd 255 22 = (8, 23, 0, 0, []) by decide +kernel) ?_
    refine e_lc (show am_cd 255 23 = (1, 24, 0, 0, []) by decide +kernel) ?_
    refine e_lc (show am_cd 255 24 = (1, 25, 0, 1, []) by decide +kernel) ?_
    refine e_cS (z := 0) (as := [(1, w32 s), (1, 0), (1, 1)]) (rest := []) (show am_cd 255 25 = (40, 28, 165, 1, [122]) by decide +kernel) (by decide) rfl rfl (Nat.le_of_ble_eq_true rfl) rfl ?_
    refine Cl.mono (Cl.up (c_in (d := d)) (by omega)) ?_
    rintro _ _ ⟨rfl, rfl⟩
    refine ⟨fun _ h9 => (by cases h9), ?_⟩
    show Ev _ 255 _ 28 [rA 67, (0, i), (0, s), (0, q), (9, 0), (9, 0), (9, 0), (9, 0)] [(0, bI (decide (w64 0 ≤ w64 (w32 s) ∧ w64 (w32 s) ≤ w64 1)))] _
    refine e_ifb1 (show am_cd 255 28 = (10, 31, 36, 1, []) by decide +kernel) (fun hc => ?_) (fun hc => ?_)
    · replace h := h.1 hc
      refine e_ic (show am_cd 255 36 = (0, 37, 0, 0, []) by decide +kernel) ?_
      refine e_sti (la2 := [rA 67, (0, i), (0, s), (0, q), (0, 0), (9, 0), (9, 0), (9, 0)]) (show am_cd 255 37 = (3, 39, 4, 0, []) by decide +kernel) rfl ?_
      refine e_ic (show am_cd 255 39 = (0, 40, 0, 0, []) by decide +kernel) ?_
      refine e_sti (la2 := [rA 67, (0, i), (0, s), (0, q), (0, 0), (0, 0), (9, 0), (9, 0)]) (show am_cd 255 40 = (3, 42, 5, 0, []) by decide +kernel) rfl ?_
      exact h
    · replace h := h.2 hc
      refine e_lda (v := 67) (show am_cd 255 31 = (2, 32, 0, 2, []) by decide +kernel) rfl ?_
      refine e_cV (z := 0) (a := 67) (as := []) (rest := []) (show am_cd 255 32 = (40, 35, 166, 0, [437]) by decide +kernel) (by decide +kernel) rfl rfl (Nat.le_of_ble_eq_true rfl) rfl ?_
      show Ev _ 166 _ 0 [rA 67] [] _
      refine e_lda (v := 67) (show am_cd 166 0 = (2, 1, 0, 2, []) by decide +kernel) rfl ?_
      refine e_ic (show am_cd 166 1 = (0, 2, 0, 1, []) by decide +kernel) ?_
      refine e_putf (a := 67) (show am_cd 166 2 = (19, 5, 1226, 0, [113]) by decide +kernel) (by decide +kernel) (by decide +kernel) rfl (fun h9 => absurd h9 (by decide)) (fun h9 => absurd h9 (by decide +kernel)) ?_
      refine e_ic (show am_cd 166 5 = (0, 6, 0, 0, []) by decide +kernel) ?_
      refine e_reti (show am_cd 166 6 = (36, 7, 0, 0, []) by decide +kernel) (by decide +kernel) ⟨fun _ h9 => (by cases h9), ?_⟩
      show Ev _ 255 _ 35 [rA 67, (0, i), (0, s), (0, q), (9, 0), (9, 0), (9, 0), (9, 0)] [(0, 0)] _
      exact e_reti (show am_cd 255 35 = (36, 36, 0, 0, []) by decide +kernel) (by decide +kernel) h

theorem g_mside1 {d : Nat} {Q : Option aV → aS → Prop} {w : eW} {t : eT} {i s q n p : Int} {J6 J7 : aV} (h : (0 ≤ w32 i ∧ w32 i < 20) ∧ ((w32 (w 81 (w32 i).toNat) ≤ w32 p → ((¬ w32 q = w32 (-1) → Q (some (0, 0)) (enc (wu w 67 26 1) t)) ∧ (¬ (¬ w32 q = w32 (-1)) → Q (some (0, n)) (enc w t)))) ∧ (¬ (w32 (w 81 (w32 i).toNat) ≤ w32 p) → (0 ≤ w32 ((16 * i) + p) ∧ w32 ((16 * i) + p) < 320) ∧ ((¬ w32 s = 0 → (0 ≤ w32 (w 82 (w32 ((16 * i) + p)).toNat) ∧ w32 (w 82 (w32 ((16 * i) + p)).toNat) < 16) ∧ ((¬ w32 (w 69 (w32 (w 82 (w32 ((16 * i) + p)).toNat)).toNat) = w32 27 → ((¬ w32 n = w32 q → Ev (d + 1) 255 Q 42 [rA 67, (0, i), (0, s), (0, q), (0, n + 1), (0, p + 1), (0, w 82 (w32 ((16 * i) + p)).toNat), (0, w 69 (w32 (w 82 (w32 ((16 * i) + p)).toNat)).toNat)] [] (enc w t)) ∧ (¬ (¬ w32 n = w32 q) → ((¬ w32 (w 69 (w32 (w 82 (w32 ((16 * i) + p)).toNat)).toNat) = w32 26 → Q (some (0, 97 + (w 69 (w32 (w 82 (w32 ((16 * i) + p)).toNat)).toNat))) (enc w t)) ∧ (¬ (¬ w32 (w 69 (w32 (w 82 (w32 ((16 * i) + p)).toNat)).toNat) = w32 26) → Q (some (0, 43)) (enc w t)))))) ∧ (¬ (¬ w32 (w 69 (w32 (w 82 (w32 ((16 * i) + p)).toNat)).toNat) = w32 27) → Ev (d + 1) 255 Q 42 [rA 67, (0, i), (0, s), (0, q), (0, n), (0, p + 1), (0, w 82 (w32 ((16 * i) + p)).toNat), (0, w 69 (w32 (w 82 (w32 ((16 * i) + p)).toNat)).toNat)] [] (enc w t)))) ∧ (¬ (¬ w32 s = 0) → (0 ≤ w32 (w 82 (w32 ((16 * i) + p)).toNat) ∧ w32 (w 82 (w32 ((16 * i) + p)).toNat) < 16) ∧ ((¬ w32 (w 68 (w32 (w 82 (w32 ((16 * i) + p)).toNat)).toNat) = w32 27 → ((¬ w32 n = w32 q → Ev (d + 1) 255 Q 42 [rA 67, (0, i), (0, s), (0, q), (0, n + 1), (0, p + 1), (0, w 82 (w32 ((16 * i) + p)).toNat), (0, w 68 (w32 (w 82 (w32 ((16 * i) + p)).toNat)).toNat)] [] (enc w t)) ∧ (¬ (¬ w32 n = w32 q) → ((¬ w32 (w 68 (w32 (w 82 (w32 ((16 * i) + p)).toNat)).toNat) = w32 26 → Q (some (0, 97 + (w 68 (w32 (w 82 (w32 ((16 * i) + p)).toNat)).toNat))) (enc w t)) ∧ (¬ (¬ w32 (w 68 (w32 (w 82 (w32 ((16 * i) + p)).toNat)).toNat) = w32 26) → Q (some (0, 43)) (enc w t)))))) ∧ (¬ (¬ w32 (w 68 (w32 (w 82 (w32 ((16 * i) + p)).toNat)).toNat) = w32 27) → Ev (d + 1) 255 Q 42 [rA 67, (0, i), (0, s), (0, q), (0, n), (0, p + 1), (0, w 82 (w32 ((16 * i) + p)).toNat), (0, w 68 (w32 (w 82 (w32 ((16 * i) + p)).toNat)).toNat)] [] (enc w t)))))))) : Ev (d + 1) 255 Q 42 [rA 67, (0, i), (0, s), (0, q), (0, n), (0, p), J6, J7] [] (enc w t) := by
  refine e_ldi (show am_cd 255 42 = (2, 44, 5, 0, []) by decide +kernel) rfl ?_
  refine e_lda (v := 67) (show am_cd 255 44 = (2, 45, 0, 2, []) by decide +kernel) rfl ?_
  refine e_getr (a := 67) (r := 81) (show am_cd 255 45 = (18, 48, 1218, 2, [49]) by decide +kernel) (by decide +kernel) (by decide +kernel) rfl ?_
  refine e_ldi (show am_cd 255 48 = (2, 49, 1, 0, []) by decide +kernel) rfl ?_
  refine e_iald (a := 81) (n := 20) (show am_cd 255 49 = (21, 50, 0, 0, []) by decide +kernel) (by decide +kernel) (by decide +kernel) (by decide +kernel) h.1 ?_
  replace h := h.2
  refine e_cmp3 (show am_cd 255 50 = (11, 53, 121, 3, []) by decide +kernel) (fun hc => ?_) (fun hc => ?_)
  · replace h := h.1 hc
    refine e_ldi (show am_cd 255 121 = (2, 122, 3, 0, []) by decide +kernel) rfl ?_
    refine e_ic (show am_cd 255 122 = (0, 123, 0, -1, []) by decide +kernel) ?_
    refine e_cmp1 (show am_cd 255 123 = (11, 126, 131, 1, []) by decide +kernel) (fun hc => ?_) (fun hc => ?_)
    · replace h := h.1 hc
      refine e_lda (v := 67) (show am_cd 255 131 = (2, 132, 0, 2, []) by decide +kernel) rfl ?_
      refine e_cV (z := 0) (a := 67) (as := []) (rest := []) (show am_cd 255 132 = (40, 135, 166, 0, [437]) by decide +kernel) (by decide +kernel) rfl rfl (Nat.le_of_ble_eq_true rfl) rfl ?_
      show Ev _ 166 _ 0 [rA 67] [] _
      refine e_lda (v := 67) (show am_cd 166 0 = (2, 1, 0, 2, []) by decide +kernel) rfl ?_
      refine e_ic (show am_cd 166 1 = (0, 2, 0, 1, []) by decide +kernel) ?_
      refine e_putf (a := 67) (show am_cd 166 2 = (19, 5, 1226, 0, [113]) by decide +kernel) (by decide +kernel) (by decide +kernel) rfl (fun h9 => absurd h9 (by decide)) (fun h9 => absurd h9 (by decide +kernel)) ?_
      refine e_ic (show am_cd 166 5 = (0, 6, 0, 0, []) by decide +kernel) ?_
      refine e_reti (show am_cd 166 6 = (36, 7, 0, 0, []) by decide +kernel) (by decide +kernel) ⟨fun _ h9 => (by cases h9), ?_⟩
      show Ev _ 255 _ 135 [rA 67, (0, i), (0, s), (0, q), (0, n), (0, p), J6, J7] [(0, 0)] _
      exact e_reti (show am_cd 255 135 = (36, 136, 0, 0, []) by decide +kernel) (by decide +kernel) h
    · replace h := h.2 hc
      refine e_ldi (show am_cd 255 126 = (2, 128, 4, 0, []) by decide +kernel) rfl ?_
      refine e_go (show am_cd 255 128 = (12, 135, 0, 0, []) by decide +kernel) ?_
      exact e_reti (show am_cd 255 135 = (36, 136, 0, 0, []) by decide +kernel) (by decide +kernel) h
  · replace h := h.2 hc
    refine e_lda (v := 67) (show am_cd 255 53 = (2, 54, 0, 2, []) by decide +kernel) rfl ?_
    refine e_getr (a := 67) (r := 82) (show am_cd 255 54 = (18, 57, 1219, 2, [52]) by decide +kernel) (by decide +kernel) (by decide +kernel) rfl ?_
    refine e_ic (show am_cd 255 57 = (0, 59, 1, 16, []) by decide +kernel) ?_
    refine e_ldi (show am_cd 255 59 = (2, 60, 1, 0, []) by decide +kernel) rfl ?_
    refine e_imul (show am_cd 255 60 = (5, 61, 2, 0, []) by decide +kernel) ?_
    refine e_ldi (show am_cd 255 61 = (2, 63, 5, 0, []) by decide +kernel) rfl ?_
    refine e_iadd (show am_cd 255 63 = (5, 64, 0, 0, []) by decide +kernel) ?_
    refine e_iald (a := 82) (n := 320) (show am_cd 255 64 = (21, 65, 0, 0, []) by decide +kernel) (by decide +kernel) (by decide +kernel) (by decide +kernel) h.1 ?_
    replace h := h.2
    refine e_sti (la2 := [rA 67, (0, i), (0, s), (0, q), (0, n), (0, p), (0, w 82 (w32 ((16 * i) + p)).toNat), J7]) (show am_cd 255 65 = (3, 67, 6, 0, []) by decide +kernel) rfl ?_
    refine e_ldi (show am_cd 255 67 = (2, 68, 2, 0, []) by decide +kernel) rfl ?_
    refine e_if1 (show am_cd 255 68 = (10, 71, 81, 1, []) by decide +kernel) (fun hc => ?_) (fun hc => ?_)
    · replace h := h.1 hc
      refine e_lda (v := 67) (show am_cd 255 81 = (2, 82, 0, 2, []) by decide +kernel) rfl ?_
      refine e_getr (a := 67) (r := 69) (show am_cd 255 82 = (18, 85, 1202, 2, [13]) by decide +kernel) (by decide +kernel) (by decide +kernel) rfl ?_
      refine e_ldi (show am_cd 255 85 = (2, 87, 6, 0, []) by decide +kernel) rfl ?_
      refine e_iald (a := 69) (n := 16) (show am_cd 255 87 = (21, 88, 0, 0, []) by decide +kernel) (by decide +kernel) (by decide +kernel) (by decide +kernel) h.1 ?_
      replace h := h.2
      refine e_sti (la2 := [rA 67, (0, i), (0, s), (0, q), (0, n), (0, p), (0, w 82 (w32 ((16 * i) + p)).toNat), (0, w 69 (w32 (w 82 (w32 ((16 * i) + p)).toNat)).toNat)]) (show am_cd 255 88 = (3, 90, 7, 0, []) by decide +kernel) rfl ?_
      refine e_ldi (show am_cd 255 90 = (2, 92, 7, 0, []) by decide +kernel) rfl ?_
      refine e_ic (show am_cd 255 92 = (0, 94, 1, 27, []) by decide +kernel) ?_
      refine e_cmp1 (show am_cd 255 94 = (11, 97, 100, 1, []) by decide +kernel) (fun hc => ?_) (fun hc => ?_)
      · replace h := h.1 hc
        refine e_ldi (show am_cd 255 100 = (2, 102, 4, 0, []) by decide +kernel) rfl ?_
        refine e_ldi (show am_cd 255 102 = (2, 103, 3, 0, []) by decide +kernel) rfl ?_
        refine e_cmp1 (show am_cd 255 103 = (11, 106, 112, 1, []) by decide +kernel) (fun hc => ?_) (fun hc => ?_)
        · replace h := h.1 hc
          refine e_inc (la2 := [rA 67, (0, i), (0, s), (0, q), (0, n + 1), (0, p), (0, w 82 (w32 ((16 * i) + p)).toNat), (0, w 69 (w32 (w 82 (w32 ((16 * i) + p)).toNat)).toNat)]) (show am_cd 255 112 = (4, 115, 4, 1, []) by decide +kernel) rfl rfl ?_
          refine e_inc (la2 := [rA 67, (0, i), (0, s), (0, q), (0, n + 1), (0, p + 1), (0, w 82 (w32 ((16 * i) + p)).toNat), (0, w 69 (w32 (w 82 (w32 ((16 * i) + p)).toNat)).toNat)]) (show am_cd 255 115 = (4, 118, 5, 1, []) by decide +kernel) rfl rfl ?_
          refine e_go (show am_cd 255 118 = (12, 42, 0, 0, []) by decide +kernel) ?_
          exact h
        · replace h := h.2 hc
          refine e_ldi (show am_cd 255 106 = (2, 108, 7, 0, []) by decide +kernel) rfl ?_
          refine e_cS (z := 0) (as := [(0, w 69 (w32 (w 82 (w32 ((16 * i) + p)).toNat)).toNat)]) (rest := []) (show am_cd 255 108 = (40, 111, 178, 1, [440]) by decide +kernel) (by decide) rfl rfl (Nat.le_of_ble_eq_true rfl) rfl ?_
          show Ev _ 178 _ 0 [(0, w 69 (w32 (w 82 (w32 ((16 * i) + p)).toNat)).toNat)] [] _
          refine e_ldi (show am_cd 178 0 = (2, 1, 0, 0, []) by decide +kernel) rfl ?_
          refine e_ic (show am_cd 178 1 = (0, 3, 1, 26, []) by decide +kernel) ?_
          refine e_cmp1 (show am_cd 178 3 = (11, 6, 11, 1, []) by decide +kernel) (fun hc => ?_) (fun hc => ?_)
          · replace h := h.1 hc
            refine e_ic (show am_cd 178 11 = (0, 13, 1, 97, []) by decide +kernel) ?_
            refine e_ldi (show am_cd 178 13 = (2, 14, 0, 0, []) by decide +kernel) rfl ?_
            refine e_iadd (show am_cd 178 14 = (5, 15, 0, 0, []) by decide +kernel) ?_
            refine e_reti (show am_cd 178 15 = (36, 16, 0, 0, []) by decide +kernel) (by decide +kernel) ⟨fun _ h9 => (by cases h9), ?_⟩
            show Ev _ 255 _ 111 [rA 67, (0, i), (0, s), (0, q), (0, n), (0, p), (0, w 82 (w32 ((16 * i) + p)).toNat), (0, w 69 (w32 (w 82 (w32 ((16 * i) + p)).toNat)).toNat)] [(0, 97 + (w 69 (w32 (w 82 (w32 ((16 * i) + p)).toNat)).toNat))] _
            exact e_reti (show am_cd 255 111 = (36, 112, 0, 0, []) by decide +kernel) (by decide +kernel) h
          · replace h := h.2 hc
            refine e_ic (show am_cd 178 6 = (0, 8, 1, 43, []) by decide +kernel) ?_
            refine e_go (show am_cd 178 8 = (12, 15, 0, 0, []) by decide +kernel) ?_
            refine e_reti (show am_cd 178 15 = (36, 16, 0, 0, []) by decide +kernel) (by decide +kernel) ⟨fun _ h9 => (by cases h9), ?_⟩
            show Ev _ 255 _ 111 [rA 67, (0, i), (0, s), (0, q), (0, n), (0, p), (0, w 82 (w32 ((16 * i) + p)).toNat), (0, w 69 (w32 (w 82 (w32 ((16 * i) + p)).toNat)).toNat)] [(0, 43)] _
            exact e_reti (show am_cd 255 111 = (36, 112, 0, 0, []) by decide +kernel) (by decide +kernel) h
      · replace h := h.2 hc
        refine e_go (show am_cd 255 97 = (12, 115, 0, 0, []) by decide +kernel) ?_
        refine e_inc (la2 := [rA 67, (0, i), (0, s), (0, q), (0, n), (0, p + 1), (0, w 82 (w32 ((16 * i) + p)).toNat), (0, w 69 (w32 (w 82 (w32 ((16 * i) + p)).toNat)).toNat)]) (show am_cd 255 115 = (4, 118, 5, 1, []) by decide +kernel) rfl rfl ?_
        refine e_go (show am_cd 255 118 = (12, 42, 0, 0, []) by decide +kernel) ?_
        exact h
    · replace h := h.2 hc
      refine e_lda (v := 67) (show am_cd 255 71 = (2, 72, 0, 2, []) by decide +kernel) rfl ?_
      refine e_getr (a := 67) (r := 68) (show am_cd 255 72 = (18, 75, 1201, 2, [9]) by decide +kernel) (by decide +kernel) (by decide +kernel) rfl ?_
      refine e_ldi (show am_cd 255 75 = (2, 77, 6, 0, []) by decide +kernel) rfl ?_
      refine e_iald (a := 68) (n := 16) (show am_cd 255 77 = (21, 78, 0, 0, []) by decide +kernel) (by decide +kernel) (by decide +kernel) (by decide +kernel) h.1 ?_
      replace h := h.2
      refine e_go (show am_cd 255 78 = (12, 88, 0, 0, []) by decide +kernel) ?_
      refine e_sti (la2 := [rA 67, (0, i), (0, s), (0, q), (0, n), (0, p), (0, w 82 (w32 ((16 * i) + p)).toNat), (0, w 68 (w32 (w 82 (w32 ((16 * i) + p)).toNat)).toNat)]) (show am_cd 255 88 = (3, 90, 7, 0, []) by decide +kernel) rfl ?_
      refine e_ldi (show am_cd 255 90 = (2, 92, 7, 0, []) by decide +kernel) rfl ?_
      refine e_ic (show am_cd 255 92 = (0, 94, 1, 27, []) by decide +kernel) ?_
      refine e_cmp1 (show am_cd 255 94 = (11, 97, 100, 1, []) by decide +kernel) (fun hc => ?_) (fun hc => ?_)
      · replace h := h.1 hc
        refine e_ldi (show am_cd 255 100 = (2, 102, 4, 0, []) by decide +kernel) rfl ?_
        refine e_ldi (show am_cd 255 102 = (2, 103, 3, 0, []) by decide +kernel) rfl ?_
        refine e_cmp1 (show am_cd 255 103 = (11, 106, 112, 1, []) by decide +kernel) (fun hc => ?_) (fun hc => ?_)
        · replace h := h.1 hc
          refine e_inc (la2 := [rA 67, (0, i), (0, s), (0, q), (0, n + 1), (0, p), (0, w 82 (w32 ((16 * i) + p)).toNat), (0, w 68 (w32 (w 82 (w32 ((16 * i) + p)).toNat)).toNat)]) (show am_cd 255 112 = (4, 115, 4, 1, []) by decide +kernel) rfl rfl ?_
          refine e_inc (la2 := [rA 67, (0, i), (0, s), (0, q), (0, n + 1), (0, p + 1), (0, w 82 (w32 ((16 * i) + p)).toNat), (0, w 68 (w32 (w 82 (w32 ((16 * i) + p)).toNat)).toNat)]) (show am_cd 255 115 = (4, 118, 5, 1, []) by decide +kernel) rfl rfl ?_
          refine e_go (show am_cd 255 118 = (12, 42, 0, 0, []) by decide +kernel) ?_
          exact h
        · replace h := h.2 hc
          refine e_ldi (show am_cd 255 106 = (2, 108, 7, 0, []) by decide +kernel) rfl ?_
          refine e_cS (z := 0) (as := [(0, w 68 (w32 (w 82 (w32 ((16 * i) + p)).toNat)).toNat)]) (rest := []) (show am_cd 255 108 = (40, 111, 178, 1, [440]) by decide +kernel) (by decide) rfl rfl (Nat.le_of_ble_eq_true rfl) rfl ?_
          show Ev _ 178 _ 0 [(0, w 68 (w32 (w 82 (w32 ((16 * i) + p)).toNat)).toNat)] [] _
          refine e_ldi (show am_cd 178 0 = (2, 1, 0, 0, []) by decide +kernel) rfl ?_
          refine e_ic (show am_cd 178 1 = (0, 3, 1, 26, []) by decide +kernel) ?_
          refine e_cmp1 (show am_cd 178 3 = (11, 6, 11, 1, []) by decide +kernel) (fun hc => ?_) (fun hc => ?_)
          · replace h := h.1 hc
            refine e_ic (show am_cd 178 11 = (0, 13, 1, 97, []) by decide +kernel) ?_
            refine e_ldi (show am_cd 178 13 = (2, 14, 0, 0, []) by decide +kernel) rfl ?_
            refine e_iadd (show am_cd 178 14 = (5, 15, 0, 0, []) by decide +kernel) ?_
            refine e_reti (show am_cd 178 15 = (36, 16, 0, 0, []) by decide +kernel) (by decide +kernel) ⟨fun _ h9 => (by cases h9), ?_⟩
            show Ev _ 255 _ 111 [rA 67, (0, i), (0, s), (0, q), (0, n), (0, p), (0, w 82 (w32 ((16 * i) + p)).toNat), (0, w 68 (w32 (w 82 (w32 ((16 * i) + p)).toNat)).toNat)] [(0, 97 + (w 68 (w32 (w 82 (w32 ((16 * i) + p)).toNat)).toNat))] _
            exact e_reti (show am_cd 255 111 = (36, 112, 0, 0, []) by decide +kernel) (by decide +kernel) h
          · replace h := h.2 hc
            refine e_ic (show am_cd 178 6 = (0, 8, 1, 43, []) by decide +kernel) ?_
            refine e_go (show am_cd 178 8 = (12, 15, 0, 0, []) by decide +kernel) ?_
            refine e_reti (show am_cd 178 15 = (36, 16, 0, 0, []) by decide +kernel) (by decide +kernel) ⟨fun _ h9 => (by cases h9), ?_⟩
            show Ev _ 255 _ 111 [rA 67, (0, i), (0, s), (0, q), (0, n), (0, p), (0, w 82 (w32 ((16 * i) + p)).toNat), (0, w 68 (w32 (w 82 (w32 ((16 * i) + p)).toNat)).toNat)] [(0, 43)] _
            exact e_reti (show am_cd 255 111 = (36, 112, 0, 0, []) by decide +kernel) (by decide +kernel) h
      · replace h := h.2 hc
        refine e_go (show am_cd 255 97 = (12, 115, 0, 0, []) by decide +kernel) ?_
        refine e_inc (la2 := [rA 67, (0, i), (0, s), (0, q), (0, n), (0, p + 1), (0, w 82 (w32 ((16 * i) + p)).toNat), (0, w 68 (w32 (w 82 (w32 ((16 * i) + p)).toNat)).toNat)]) (show am_cd 255 115 = (4, 118, 5, 1, []) by decide +kernel) rfl rfl ?_
        refine e_go (show am_cd 255 118 = (12, 42, 0, 0, []) by decide +kernel) ?_
        exact h

theorem g_mcount0 {d : Nat} {Q : Option aV → aS → Prop} {w : eW} {t : eT} {q : Int} (h : ((w32 q = 0 → Q (some (0, w 67 0)) (enc (wu w 67 26 0) t)) ∧ (w32 q = 1 → Q (some (0, w 67 3)) (enc (wu w 67 26 0) t)) ∧ (w32 q = 2 → Q (some (0, w 67 6)) (enc (wu w 67 26 0) t)) ∧ (w32 q = 3 → Q (some (0, w 67 12)) (enc (wu w 67 26 0) t)) ∧ (w32 q = 4 → Q (some (0, w 67 17)) (enc (wu w 67 26 0) t)) ∧ (w32 q = 5 → Q (some (0, w 67 25)) (enc (wu w 67 26 0) t)) ∧ (w32 q = 6 → Q (some (0, w 67 23)) (enc (wu w 67 26 0) t)) ∧ (w32 q = 7 → Ev (d) 265 Q 93 [rA 67, (0, q), (0, 0), (0, 0)] [] (enc (wu w 67 26 0) t)) ∧ ((w32 q < 0 ∨ 8 ≤ w32 q) → Q (some (0, (-1))) (enc (wu w 67 26 0) t)))) : Cl (d) 265 [rA 67, (0, q)] (enc w t) Q := by
  show Ev (d) 265 Q 0 [rA 67, (0, q), (9, 0), (9, 0)] [] (enc w t)
  refine e_lda (v := 67) (show am_cd 265 0 = (2, 1, 0, 2, []) by decide +kernel) rfl ?_
  refine e_ic (show am_cd 265 1 = (0, 2, 0, 0, []) by decide +kernel) ?_
  refine e_putf (a := 67) (show am_cd 265 2 = (19, 5, 1226, 0, [113]) by decide +kernel) (by decide +kernel) (by decide +kernel) rfl (fun h9 => absurd h9 (by decide)) (fun h9 => absurd h9 (by decide +kernel)) ?_
  refine e_ic (show am_cd 265 5 = (0, 6, 0, 0, []) by decide +kernel) ?_
  refine e_sti (la2 := [rA 67, (0, q), (0, 0), (9, 0)]) (show am_cd 265 6 = (3, 7, 2, 0, []) by decide +kernel) rfl ?_
  refine e_ldi (show am_cd 265 7 = (2, 8, 1, 0, []) by decide +kernel) rfl ?_
  refine e_tsw (show am_cd 265 8 = (30, 130, 48, 0, [56, 61, 66, 71, 76, 81, 86, 91]) by decide +kernel) (fun i tg hi hx => ?_) (fun hx => ?_)
  · match i, hi with
    | 0, hi =>
      cases hi
      replace h := h.1 (by omega)
      refine e_lda (v := 67) (show am_cd 265 56 = (2, 57, 0, 2, []) by decide +kernel) rfl ?_
      refine e_getfE (a := 67) (tg := 0) (v := w 67 0) (show am_cd 265 57 = (18, 60, 1200, 0, [168]) by decide +kernel) (by decide +kernel) (by decide +kernel) rfl rfl ?_
      exact e_reti (show am_cd 265 60 = (36, 61, 0, 0, []) by decide +kernel) (by decide +kernel) h
    | 1, hi =>
      cases hi
      replace h := h.2.1 (by omega)
      refine e_lda (v := 67) (show am_cd 265 61 = (2, 62, 0, 2, []) by decide +kernel) rfl ?_
      refine e_getfE (a := 67) (tg := 0) (v := w 67 3) (show am_cd 265 62 = (18, 65, 1203, 0, [180]) by decide +kernel) (by decide +kernel) (by decide +kernel) rfl rfl ?_
      exact e_reti (show am_cd 265 65 = (36, 66, 0, 0, []) by decide +kernel) (by decide +kernel) h
    | 2, hi =>
      cases hi
      replace h := h.2.2.1 (by omega)
      refine e_lda (v := 67) (show am_cd 265 66 = (2, 67, 0, 2, []) by decide +kernel) rfl ?_
      refine e_getfE (a := 67) (tg := 0) (v := w 67 6) (show am_cd 265 67 = (18, 70, 1206, 0, [183]) by decide +kernel) (by decide +kernel) (by decide +kernel) rfl rfl ?_
      exact e_reti (show am_cd 265 70 = (36, 71, 0, 0, []) by decide +kernel) (by decide +kernel) h
    | 3, hi =>
      cases hi
      replace h := h.2.2.2.1 (by omega)
      refine e_lda (v := 67) (show am_cd 265 71 = (2, 72, 0, 2, []) by decide +kernel) rfl ?_
      refine e_getfE (a := 67) (tg := 0) (v := w 67 12) (show am_cd 265 72 = (18, 75, 1212, 0, [186]) by decide +kernel) (by decide +kernel) (by decide +kernel) rfl rfl ?_
      exact e_reti (show am_cd 265 75 = (36, 76, 0, 0, []) by decide +kernel) (by decide +kernel) h
    | 4, hi =>
      cases hi
      replace h := h.2.2.2.2.1 (by omega)
      refine e_lda (v := 67) (show am_cd 265 76 = (2, 77, 0, 2, []) by decide +kernel) rfl ?_
      refine e_getfE (a := 67) (tg := 0) (v := w 67 17) (show am_cd 265 77 = (18, 80, 1217, 0, [189]) by decide +kernel) (by decide +kernel) (by decide +kernel) rfl rfl ?_
      exact e_reti (show am_cd 265 80 = (36, 81, 0, 0, []) by decide +kernel) (by decide +kernel) h
    | 5, hi =>
      cases hi
      replace h := h.2.2.2.2.2.1 (by omega)
      refine e_lda (v := 67) (show am_cd 265 81 = (2, 82, 0, 2, []) by decide +kernel) rfl ?_
      refine e_getfE (a := 67) (tg := 0) (v := w 67 25) (show am_cd 265 82 = (18, 85, 1225, 0, [116]) by decide +kernel) (by decide +kernel) (by decide +kernel) rfl rfl ?_
      exact e_reti (show am_cd 265 85 = (36, 86, 0, 0, []) by decide +kernel) (by decide +kernel) h
    | 6, hi =>
      cases hi
      replace h := h.2.2.2.2.2.2.1 (by omega)
      refine e_lda (v := 67) (show am_cd 265 86 = (2, 87, 0, 2, []) by decide +kernel) rfl ?_
      refine e_getfE (a := 67) (tg := 0) (v := w 67 23) (show am_cd 265 87 = (18, 90, 1223, 0, [119]) by decide +kernel) (by decide +kernel) (by decide +kernel) rfl rfl ?_
      exact e_reti (show am_cd 265 90 = (36, 91, 0, 0, []) by decide +kernel) (by decide +kernel) h
    | 7, hi =>
      cases hi
      replace h := h.2.2.2.2.2.2.2.1 (by omega)
      refine e_ic (show am_cd 265 91 = (0, 92, 0, 0, []) by decide +kernel) ?_
      refine e_sti (la2 := [rA 67, (0, q), (0, 0), (0, 0)]) (show am_cd 265 92 = (3, 93, 3, 0, []) by decide +kernel) rfl ?_
      exact h
    | i + 8, hi => cases hi
  · replace h := h.2.2.2.2.2.2.2.2 (by simp only [List.length_cons, List.length_nil] at hx; omega)
    refine e_ic (show am_cd 265 130 = (0, 131, 0, -1, []) by decide +kernel) ?_
    exact e_reti (show am_cd 265 131 = (36, 132, 0, 0, []) by decide +kernel) (by decide +kernel) h

theorem g_mcount1 {d : Nat} {Q : Option aV → aS → Prop} {w : eW} {t : eT} {q x i : Int} (h : ((w32 (w 67 0) ≤ w32 i → Q (some (0, x)) (enc w t)) ∧ (¬ (w32 (w 67 0) ≤ w32 i) → (0 ≤ w32 i ∧ w32 i < 16) ∧ ((¬ w32 (w 68 (w32 i).toNat) = w32 27 → Ev (d) 265 Q 93 [rA 67, (0, q), (0, ior x 0), (0, i + 1)] [] (enc w t)) ∧ (¬ (¬ w32 (w 68 (w32 i).toNat) = w32 27) → Ev (d) 265 Q 93 [rA 67, (0, q), (0, ior x (ishl 1 i)), (0, i + 1)] [] (enc w t)))))) : Ev (d) 265 Q 93 [rA 67, (0, q), (0, x), (0, i)] [] (enc w t) := by
  refine e_ldi (show am_cd 265 93 = (2, 94, 3, 0, []) by decide +kernel) rfl ?_
  refine e_lda (v := 67) (show am_cd 265 94 = (2, 95, 0, 2, []) by decide +kernel) rfl ?_
  refine e_getf (a := 67) (tg := 0) (show am_cd 265 95 = (18, 98, 1200, 0, [168]) by decide +kernel) (by decide +kernel) (by decide +kernel) rfl ?_
  refine e_cmp3 (show am_cd 265 98 = (11, 101, 128, 3, []) by decide +kernel) (fun hc => ?_) (fun hc => ?_)
  · replace h := h.1 hc
    refine e_ldi (show am_cd 265 128 = (2, 129, 2, 0, []) by decide +kernel) rfl ?_
    exact e_reti (show am_cd 265 129 = (36, 130, 0, 0, []) by decide +kernel) (by decide +kernel) h
  · replace h := h.2 hc
    refine e_ldi (show am_cd 265 101 = (2, 102, 2, 0, []) by decide +kernel) rfl ?_
    refine e_lda (v := 67) (show am_cd 265 102 = (2, 103, 0, 2, []) by decide +kernel) rfl ?_
    refine e_getr (a := 67) (r := 68) (show am_cd 265 103 = (18, 106, 1201, 2, [9]) by decide +kernel) (by decide +kernel) (by decide +kernel) rfl ?_
    refine e_ldi (show am_cd 265 106 = (2, 107, 3, 0, []) by decide +kernel) rfl ?_
    refine e_iald (a := 68) (n := 16) (show am_cd 265 107 = (21, 108, 0, 0, []) by decide +kernel) (by decide +kernel) (by decide +kernel) (by decide +kernel) h.1 ?_
    replace h := h.2
    refine e_ic (show am_cd 265 108 = (0, 110, 1, 27, []) by decide +kernel) ?_
    refine e_cmp1 (show am_cd 265 110 = (11, 113, 119, 1, []) by decide +kernel) (fun hc => ?_) (fun hc => ?_)
    · replace h := h.1 hc
      refine e_ic (show am_cd 265 119 = (0, 120, 0, 0, []) by decide +kernel) ?_
      refine e_ior (show am_cd 265 120 = (5, 121, 4, 0, []) by decide +kernel) ?_
      refine e_sti (la2 := [rA 67, (0, q), (0, ior x 0), (0, i)]) (show am_cd 265 121 = (3, 122, 2, 0, []) by decide +kernel) rfl ?_
      refine e_inc (la2 := [rA 67, (0, q), (0, ior x 0), (0, i + 1)]) (show am_cd 265 122 = (4, 125, 3, 1, []) by decide +kernel) rfl rfl ?_
      refine e_go (show am_cd 265 125 = (12, 93, 0, 0, []) by decide +kernel) ?_
      exact h
    · replace h := h.2 hc
      refine e_ic (show am_cd 265 113 = (0, 114, 0, 1, []) by decide +kernel) ?_
      refine e_ldi (show am_cd 265 114 = (2, 115, 3, 0, []) by decide +kernel) rfl ?_
      refine e_ishl (show am_cd 265 115 = (5, 116, 6, 0, []) by decide +kernel) ?_
      refine e_go (show am_cd 265 116 = (12, 120, 0, 0, []) by decide +kernel) ?_
      refine e_ior (show am_cd 265 120 = (5, 121, 4, 0, []) by decide +kernel) ?_
      refine e_sti (la2 := [rA 67, (0, q), (0, ior x (ishl 1 i)), (0, i)]) (show am_cd 265 121 = (3, 122, 2, 0, []) by decide +kernel) rfl ?_
      refine e_inc (la2 := [rA 67, (0, q), (0, ior x (ishl 1 i)), (0, i + 1)]) (show am_cd 265 122 = (4, 125, 3, 1, []) by decide +kernel) rfl rfl ?_
      refine e_go (show am_cd 265 125 = (12, 93, 0, 0, []) by decide +kernel) ?_
      exact h

