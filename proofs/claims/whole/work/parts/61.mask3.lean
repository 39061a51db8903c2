/-! The model: what is asked of entries and rules, closed. -/
theorem cR_le {m : eW} (hp : nP m ≤ 16) (wo : Int) : ∀ (n a b c : Nat), cR m wo n a b c ≤ 16 ^ n := by
  intro n
  induction n with
  | zero => intro a b c; unfold cR; split <;> simp
  | succ n ih =>
    intro a b c
    unfold cR
    have h1 := sm_bound (f := fun d => if goes m wo a b c d then cR m wo n b c d else 0) (n := nP m) (c := 16 ^ n) (fun d _ => by split; exact ih _ _ _; exact Nat.zero_le _)
    refine Nat.le_trans h1 ?_
    rw [Nat.pow_succ, Nat.mul_comm]
    exact Nat.mul_le_mul_left _ hp
theorem c_mwords {d : Nat} {m w : eW} {t : eT} {n : Int} (h : MX w m ∧ okI n) : Cl (d + 1) 258 [rA 67, (0, n)] (enc w t) (fun r S2 => ∃ w2, r = some (1, wordsV m n) ∧ S2 = enc w2 t ∧ Fm [99] [26] w w2 ∧ w2 67 26 = 0) := by
  obtain ⟨hX, hn⟩ := h
  have hn' := hn
  unfold okI at hn'
  have q0 : Fm [99] [26] w (wu w 67 26 0) := Fm.pf (by decide)
  refine g_words (m := m) ?_
  simp (disch := omega) only [w32_id, w64_id]
  unfold wordsV
  refine ⟨fun h1 => ?_, fun h1 => ?_⟩
  · have := of_decide_eq_false h1
    rw [if_neg (by omega)]
    exact ⟨_, rfl, rfl, q0, wu_eq _ _ _ _⟩
  · have := of_decide_eq_true h1
    rw [if_pos (by omega)]
    refine ⟨⟨hX.m q0 (by decide) (by decide), by omega, ⟨by decide, by decide⟩⟩, fun w1 h2 => ⟨w1, by trivial, rfl, q0.tr (h2.mo (by decide) (by decide)), ?_⟩⟩
    rw [h2.2 26 (by decide)]; exact wu_eq _ _ _ _
theorem c_mentryOf {d : Nat} {m w : eW} {t : eT} {e q : Int} (h : MX w m ∧ okI e ∧ okI q) : Cl (d + 2) 262 [rA 67, (0, e), (0, q)] (enc w t) (fun r S2 => ∃ w2, r = some (1, entryOfV m e q) ∧ S2 = enc w2 t ∧ Fm [99] [26] w w2 ∧ w2 67 26 = 0) := by
  obtain ⟨hX, he, hq⟩ := h
  have he' := he
  have hq' := hq
  unfold okI at he' hq'
  have hne := hX.2.1.n
  have q0 : Fm [99] [26] w (wu w 67 26 0) := Fm.pf (by decide)
  have hb6 := wwI_b hX.2.1 e 6 (by decide)
  refine g_entryOf (m := m) ?_
  rw [hX.2.2.1]
  simp (disch := omega) only [w32_id, w64_id]
  unfold entryOfV
  refine ⟨fun h1 => ?_, fun h1 => ?_⟩
  · have h1 := of_decide_eq_true h1
    rw [if_pos (by omega)]
    obtain ⟨e1, e2, e3, e4⟩ := hX.2.2.2 e.toNat (by omega)
    obtain ⟨f1, f2, f3, f4⟩ := hX.2.1.2 e.toNat (by omega)
    have e2' : w 78 e.toNat = m 78 e.toNat := e2
    simp (disch := omega) only [w32_id, e1, e2', e3]
    refine ⟨fun h2 => ?_, fun h2 => ?_, fun h2 => ?_, fun h2 => ?_, fun h2 => ?_, fun h2 => ?_⟩
    · rw [if_pos h2]; exact ⟨by omega, _, by trivial, rfl, q0, wu_eq _ _ _ _⟩
    · rw [if_neg (by omega), if_pos h2]; exact ⟨by omega, _, by trivial, rfl, q0, wu_eq _ _ _ _⟩
    · rw [if_neg (by omega), if_neg (by omega), if_pos h2]; exact ⟨by omega, _, by trivial, rfl, q0, wu_eq _ _ _ _⟩
    · rw [if_neg (by omega), if_neg (by omega), if_neg (by omega), if_pos h2]
      refine ⟨⟨hX.m q0 (by decide) (by decide), he, by decide, by decide⟩, fun w1 h3 => ?_⟩
      have ht : w1 67 26 = 0 := by rw [h3.2 26 (by decide)]; exact wu_eq _ _ _ _
      refine ⟨fun h4 => ?_, fun h4 => ?_⟩
      · rw [if_neg (by omega)]; exact ⟨w1, by trivial, rfl, q0.tr (h3.mo (by decide) (by decide)), ht⟩
      · rw [if_pos (by omega)]; exact ⟨w1, by trivial, rfl, q0.tr (h3.mo (by decide) (by decide)), ht⟩
    · rw [if_neg (by omega), if_neg (by omega), if_neg (by omega), if_neg (by omega), if_pos h2]
      refine ⟨⟨hX.m q0 (by decide) (by decide), he, by decide, by decide⟩, fun w1 h3 => ⟨w1, by trivial, rfl, q0.tr (h3.mo (by decide) (by decide)), ?_⟩⟩
      rw [h3.2 26 (by decide)]; exact wu_eq _ _ _ _
    · rw [if_neg (by omega), if_neg (by omega), if_neg (by omega), if_neg (by omega), if_neg (by omega)]
      exact ⟨_, by trivial, rfl, q0, wu_eq _ _ _ _⟩
  · have h1 := of_decide_eq_false h1
    rw [if_neg (by omega)]
    exact ⟨_, by trivial, rfl, q0, wu_eq _ _ _ _⟩
theorem c_mrows {d : Nat} {m w : eW} {t : eT} {n : Int} (h : MG w m ∧ w 67 35 = -1 ∧ okI n) : Cl (d + 6) 215 [rA 67, (0, n)] (enc w t) (fun r S2 => ∃ w2, r = some (1, rowsV m n) ∧ S2 = enc w2 t ∧ Fm [96, 97] [26] w w2 ∧ w2 67 26 = 0) := by
  obtain ⟨hm, hwo, hn⟩ := h
  have hn' := hn
  unfold okI at hn'
  have q0 : Fm [96, 97] [26] w (wu w 67 26 0) := Fm.pf (by decide)
  refine g_rows (m := m) hm1 ?_
  simp (disch := omega) only [w32_id, w64_id]
  unfold rowsV
  refine ⟨fun h1 => ?_, fun h1 => ?_⟩
  · have := of_decide_eq_false h1
    rw [if_neg (by omega)]
    exact ⟨_, by trivial, rfl, q0, wu_eq _ _ _ _⟩
  · have := of_decide_eq_true h1
    rw [if_pos (by omega)]
    refine ⟨⟨hm.m q0 (by decide) (by decide), hwo, by omega⟩, fun w1 h2 => ⟨w1, by trivial, rfl, q0.tr (h2.mo (by decide) (by decide)), ?_⟩⟩
    rw [h2.2 26 (by decide)]; exact wu_eq _ _ _ _

theorem g_ruleOf {d : Nat} {Q : Option aV → aS → Prop} {w : eW} {t : eT} {r q : Int} {m : eW} (h : (((decide (w64 0 ≤ w64 (w32 r) ∧ w64 (w32 r) ≤ w64 (w32 ((w 67 6) - 1)))) = true → ((w32 q = 0 → (0 ≤ w32 r ∧ w32 r < 8) ∧ (Q (some (1, w32 (w 72 (w32 r).toNat))) (enc (wu w 67 26 0) t))) ∧ (w32 q = 1 → (0 ≤ w32 r ∧ w32 r < 8) ∧ (Q (some (1, w32 (w 73 (w32 r).toNat))) (enc (wu w 67 26 0) t))) ∧ (w32 q = 2 → (0 ≤ w32 r ∧ w32 r < 8) ∧ (Q (some (1, w32 (w 74 (w32 r).toNat))) (enc (wu w 67 26 0) t))) ∧ (w32 q = 3 → (0 ≤ w32 r ∧ w32 r < 8) ∧ (Q (some (1, w32 (w 75 (w32 r).toNat))) (enc (wu w 67 26 0) t))) ∧ (w32 q = 4 → (MG (wu w 67 26 0) m ∧ (wu w 67 26 0) 67 35 = -1 ∧ gR m r) ∧ (∀ w1, (Fm [96, 97] [] (wu w 67 26 0) w1) → Q (some (1, ((cR m r 3 16 16 16 : Nat) : Int) - ((cR m (-1) 3 16 16 16 : Nat) : Int))) (enc w1 t))) ∧ ((w32 q < 0 ∨ 5 ≤ w32 q) → Q (some (1, (-1))) (enc (wu w 67 26 0) t)))) ∧ ((decide (w64 0 ≤ w64 (w32 r) ∧ w64 (w32 r) ≤ w64 (w32 ((w 67 6) - 1)))) = false → Q (some (1, (-1))) (enc (wu w 67 26 0) t)))) : Cl (d + 7) 264 [rA 67, (0, r), (0, q)] (enc w t) Q := by
  show Ev (d + 7) 264 Q 0 [rA 67, (0, r), (0, q)] [] (enc w t)
  refine e_lda (v := 67) (show am_cd 264 0 = (2, 1, 0, 2, []) by decide +kernel) rfl ?_
  refine e_ic (show am_cd 264 1 = (0, 2, 0, 0, []) by decide +kernel) ?_
  refine e_putf (a := 67) (show am_cd 264 2 = (19, 5, 1226, 0, [113]) by decide +kernel) (by decide +kernel) (by decide +kernel) rfl (fun h9 => absurd h9 (by decide)) (fun h9 => absurd h9 (by decide +kernel)) ?_
  refine e_ldi (show am_cd 264 5 = (2, 6, 1, 0, []) by decide +kernel) rfl ?_
  refine e_i2l (show am_cd 264 6 = (8, 7, 0, 0, []) by decide +kernel) ?_
  refine e_lc (show am_cd 264 7 = (1, 8, 0, 0, []) by decide +kernel) ?_
  refine e_lda (v := 67) (show am_cd 264 8 = (2, 9, 0, 2, []) by decide +kernel) rfl ?_
  refine e_getfE (a := 67) (tg := 0) (v := w 67 6) (show am_cd 264 9 = (18, 12, 1206, 0, [183]) by decide +kernel) (by decide +kernel) (by decide +kernel) rfl rfl ?_
  refine e_ic (show am_cd 264 12 = (0, 13, 0, 1, []) by decide +kernel) ?_
  refine e_isub (show am_cd 264 13 = (5, 14, 1, 0, []) by decide +kernel) ?_
  refine e_i2l (show am_cd 264 14 = (8, 15, 0, 0, []) by decide +kernel) ?_
  refine e_cS (z := 0) (as := [(1, w32 r), (1, 0), (1, w32 ((w 67 6) - 1))]) (rest := []) (show am_cd 264 15 = (40, 18, 165, 1, [122]) by decide +kernel) (by decide) rfl rfl (Nat.le_of_ble_eq_true rfl) rfl ?_
  refine Cl.mono (Cl.up (c_in (d := d)) (by omega)) ?_
  rintro _ _ ⟨rfl, rfl⟩
  refine ⟨fun _ h9 => (by cases h9), ?_⟩
  show Ev _ 264 _ 18 [rA 67, (0, r), (0, q)] [(0, bI (decide (w64 0 ≤ w64 (w32 r) ∧ w64 (w32 r) ≤ w64 (w32 ((w 67 6) - 1)))))] _
  refine e_ifb1 (show am_cd 264 18 = (10, 21, 25, 1, []) by decide +kernel) (fun hc => ?_) (fun hc => ?_)
  · replace h := h.1 hc
    refine e_ldi (show am_cd 264 25 = (2, 26, 2, 0, []) by decide +kernel) rfl ?_
    refine e_tsw (show am_cd 264 26 = (30, 98, 34, 0, [60, 68, 76, 84, 92]) by decide +kernel) (fun i tg hi hx => ?_) (fun hx => ?_)
    · match i, hi with
      | 0, hi =>
        cases hi
        replace h := h.1 (by omega)
        refine e_lda (v := 67) (show am_cd 264 60 = (2, 61, 0, 2, []) by decide +kernel) rfl ?_
        refine e_getr (a := 67) (r := 72) (show am_cd 264 61 = (18, 64, 1207, 2, [22]) by decide +kernel) (by decide +kernel) (by decide +kernel) rfl ?_
        refine e_ldi (show am_cd 264 64 = (2, 65, 1, 0, []) by decide +kernel) rfl ?_
        refine e_ialdE (a := 72) (n := 8) (v := w 72 (w32 r).toNat) (show am_cd 264 65 = (21, 66, 0, 0, []) by decide +kernel) (by decide +kernel) (by decide +kernel) (by decide +kernel) h.1 rfl ?_
        replace h := h.2
        refine e_i2l (show am_cd 264 66 = (8, 67, 0, 0, []) by decide +kernel) ?_
        exact e_retl (show am_cd 264 67 = (36, 68, 1, 0, []) by decide +kernel) (by decide +kernel) h
      | 1, hi =>
        cases hi
        replace h := h.2.1 (by omega)
        refine e_lda (v := 67) (show am_cd 264 68 = (2, 69, 0, 2, []) by decide +kernel) rfl ?_
        refine e_getr (a := 67) (r := 73) (show am_cd 264 69 = (18, 72, 1208, 2, [25]) by decide +kernel) (by decide +kernel) (by decide +kernel) rfl ?_
        refine e_ldi (show am_cd 264 72 = (2, 73, 1, 0, []) by decide +kernel) rfl ?_
        refine e_ialdE (a := 73) (n := 8) (v := w 73 (w32 r).toNat) (show am_cd 264 73 = (21, 74, 0, 0, []) by decide +kernel) (by decide +kernel) (by decide +kernel) (by decide +kernel) h.1 rfl ?_
        replace h := h.2
        refine e_i2l (show am_cd 264 74 = (8, 75, 0, 0, []) by decide +kernel) ?_
        exact e_retl (show am_cd 264 75 = (36, 76, 1, 0, []) by decide +kernel) (by decide +kernel) h
      | 2, hi =>
        cases hi
        replace h := h.2.2.1 (by omega)
        refine e_lda (v := 67) (show am_cd 264 76 = (2, 77, 0, 2, []) by decide +kernel) rfl ?_
        refine e_getr (a := 67) (r := 74) (show am_cd 264 77 = (18, 80, 1209, 2, [28]) by decide +kernel) (by decide +kernel) (by decide +kernel) rfl ?_
        refine e_ldi (show am_cd 264 80 = (2, 81, 1, 0, []) by decide +kernel) rfl ?_
        refine e_ialdE (a := 74) (n := 8) (v := w 74 (w32 r).toNat) (show am_cd 264 81 = (21, 82, 0, 0, []) by decide +kernel) (by decide +kernel) (by decide +kernel) (by decide +kernel) h.1 rfl ?_
        replace h := h.2
        refine e_i2l (show am_cd 264 82 = (8, 83, 0, 0, []) by decide +kernel) ?_
        exact e_retl (show am_cd 264 83 = (36, 84, 1, 0, []) by decide +kernel) (by decide +kernel) h
      | 3, hi =>
        cases hi
        replace h := h.2.2.2.1 (by omega)
        refine e_lda (v := 67) (show am_cd 264 84 = (2, 85, 0, 2, []) by decide +kernel) rfl ?_
        refine e_getr (a := 67) (r := 75) (show am_cd 264 85 = (18, 88, 1210, 2, [31]) by decide +kernel) (by decide +kernel) (by decide +kernel) rfl ?_
        refine e_ldi (show am_cd 264 88 = (2, 89, 1, 0, []) by decide +kernel) rfl ?_
        refine e_ialdE (a := 75) (n := 8) (v := w 75 (w32 r).toNat) (show am_cd 264 89 = (21, 90, 0, 0, []) by decide +kernel) (by decide +kernel) (by decide +kernel) (by decide +kernel) h.1 rfl ?_
        replace h := h.2
        refine e_i2l (show am_cd 264 90 = (8, 91, 0, 0, []) by decide +kernel) ?_
        exact e_retl (show am_cd 264 91 = (36, 92, 1, 0, []) by decide +kernel) (by decide +kernel) h
      | 4, hi =>
        cases hi
        replace h := h.2.2.2.2.1 (by omega)
        refine e_lda (v := 67) (show am_cd 264 92 = (2, 93, 0, 2, []) by decide +kernel) rfl ?_
        refine e_ldi (show am_cd 264 93 = (2, 94, 1, 0, []) by decide +kernel) rfl ?_
        refine e_cV (z := 0) (a := 67) (as := [(0, r)]) (rest := []) (show am_cd 264 94 = (40, 97, 263, 0, [460]) by decide +kernel) (by decide +kernel) rfl rfl (Nat.le_of_ble_eq_true rfl) rfl ?_
        refine Cl.mono (Cl.up (c_more (d := d) h.1) (by omega)) ?_
        rintro _ _ ⟨w1, rfl, rfl, hp⟩
        refine ⟨fun _ h9 => (by cases h9), ?_⟩
        replace h := h.2 w1 hp
        show Ev _ 264 _ 97 [rA 67, (0, r), (0, q)] [(1, ((cR m r 3 16 16 16 : Nat) : Int) - ((cR m (-1) 3 16 16 16 : Nat) : Int))] _
        exact e_retl (show am_cd 264 97 = (36, 98, 1, 0, []) by decide +kernel) (by decide +kernel) h
      | i + 5, hi => cases hi
    · replace h := h.2.2.2.2.2 (by simp only [List.length_cons, List.length_nil] at hx; omega)
      refine e_lc (show am_cd 264 98 = (1, 101, 1, -1, [228]) by decide +kernel) ?_
      exact e_retl (show am_cd 264 101 = (36, 102, 1, 0, []) by decide +kernel) (by decide +kernel) h
  · replace h := h.2 hc
    refine e_lc (show am_cd 264 21 = (1, 24, 1, -1, [228]) by decide +kernel) ?_
    exact e_retl (show am_cd 264 24 = (36, 25, 1, 0, []) by decide +kernel) (by decide +kernel) h

theorem c_mruleOf {d : Nat} {m w : eW} {t : eT} {r q : Int} (h : MG w m ∧ w 67 35 = -1 ∧ okI r ∧ okI q) : Cl (d + 7) 264 [rA 67, (0, r), (0, q)] (enc w t) (fun z S2 => ∃ w2, z = some (1, ruleOfV m r q) ∧ S2 = enc w2 t ∧ Fm [96, 97] [26] w w2 ∧ w2 67 26 = 0) := by
  obtain ⟨hm, hwo, hr, hq⟩ := h
  have hr' := hr
  have hq' := hq
  unfold okI at hr' hq'
  have hrn := hm.2.1.n
  have hpn := hm.1.n
  have q0 : Fm [96, 97] [26] w (wu w 67 26 0) := Fm.pf (by decide)
  refine g_ruleOf (m := m) ?_
  rw [hm.2.2.2.1]
  simp (disch := omega) only [w32_id, w64_id]
  unfold ruleOfV
  refine ⟨fun h1 => ?_, fun h1 => ?_⟩
  · have h1 := of_decide_eq_true h1
    rw [if_pos (by omega)]
    obtain ⟨e1, e2, e3, e4, -⟩ := hm.2.2.2.2 r.toNat (by omega)
    obtain ⟨f1, f2, f3, f4, -⟩ := hm.2.1.2 r.toNat (by omega)
    simp (disch := omega) only [w32_id, e1, e2, e3, e4]
    refine ⟨fun h2 => ?_, fun h2 => ?_, fun h2 => ?_, fun h2 => ?_, fun h2 => ?_, fun h2 => ?_⟩
    · rw [if_pos h2]; exact ⟨by omega, _, by trivial, rfl, q0, wu_eq _ _ _ _⟩
    · rw [if_neg (by omega), if_pos h2]; exact ⟨by omega, _, by trivial, rfl, q0, wu_eq _ _ _ _⟩
    · rw [if_neg (by omega), if_neg (by omega), if_pos h2]; exact ⟨by omega, _, by trivial, rfl, q0, wu_eq _ _ _ _⟩
    · rw [if_neg (by omega), if_neg (by omega), if_neg (by omega), if_pos h2]; exact ⟨by omega, _, by trivial, rfl, q0, wu_eq _ _ _ _⟩
    · rw [if_neg (by omega), if_neg (by omega), if_neg (by omega), if_neg (by omega), if_pos h2]
      refine ⟨⟨hm.m q0 (by decide) (by decide), hwo, ⟨by omega, by omega⟩⟩, fun w1 h3 => ⟨w1, by trivial, rfl, q0.tr (h3.mo (by decide) (by decide)), ?_⟩⟩
      rw [h3.2 26 (by decide)]; exact wu_eq _ _ _ _
    · rw [if_neg (by omega), if_neg (by omega), if_neg (by omega), if_neg (by omega), if_neg (by omega)]
      exact ⟨_, by trivial, rfl, q0, wu_eq _ _ _ _⟩
  · have h1 := of_decide_eq_false h1
    rw [if_neg (by omega)]
    exact ⟨_, by trivial, rfl, q0, wu_eq _ _ _ _⟩

