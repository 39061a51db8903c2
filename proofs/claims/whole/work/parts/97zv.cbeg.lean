/-! The class: a walk begins. -/

def begW (w : eW) (k : Int) : eW := clW (wu (wu w 53 8 k) 53 9 (if k = 1 then 1 else 20))
theorem c_beg {d : Nat} {w : eW} {t : eT} {k : Int} (h : (0 : Int) ≤ k ∧ (k : Int) ≤ 4) : Cl (d + 1) 102 [rA 53, (0, k)] (enc w t) (fun r S2 => r = none ∧ S2 = enc (begW w k) t) := by
  refine g_beg ?_
  rw [w32_id (x := k) (by omega), w32_id (x := 1) (by omega)]
  refine ⟨fun h1 => ⟨rfl, ?_⟩, fun h1 => ⟨rfl, ?_⟩⟩
  · unfold begW clW
    rw [if_neg h1, wu_na _ _ (show (45 : Nat) ≠ 53 by decide), wu_na _ _ (show (45 : Nat) ≠ 53 by decide)]
  · unfold begW clW
    rw [if_pos (Classical.not_not.mp h1), wu_na _ _ (show (45 : Nat) ≠ 53 by decide), wu_na _ _ (show (45 : Nat) ≠ 53 by decide)]
theorem c_prep {d : Nat} {w : eW} {t : eT} {m : eW} {b : Nat × Nat} (h : (LN w m ∧ RC w m ∧ WFp m ∧ WFr m) ∧ DynQ w t b m) : Cl (d + 6) 138 [rA 1] (enc w t) (fun r S2 => ∃ w2 t2, r = none ∧ S2 = enc w2 t2 ∧ Lo w w2 ∧ DynQ w2 t2 b m ∧ w2 37 8 = 0) := by
  obtain ⟨hI, hD⟩ := h
  refine g_pr ?_
  rcases id hD.2.2.2 with h1 | ⟨h1, _⟩
  · rw [h1]
    refine ⟨fun h9 => absurd h9 (by decide), fun _ => ?_⟩
    refine ((c_bd (d := d) hI ⟨hD.1, hD.2.1, hD.2.2.1⟩).mono ?_)
    rintro _ _ ⟨w2, t2, N, f, D, rfl, rfl, a1, a2, a3, a4⟩
    refine ⟨fun _ h8 => (by cases h8), g_prb ⟨w2, t2, rfl, rfl, ?_, ⟨a1.2.2.1.1, a1.2.2.1.2.1, a1.2.2.1.2.2, Or.inr ⟨?_, bd_MaC a1 a3 a4, ?_⟩⟩, ?_⟩⟩
    · intro a ha
      rw [a2.1 a ha]
      unfold bdW
      rw [wfl_na (by omega), wu_row (by omega), wu_row (by omega)]
    · rw [a2.2.2.1]; unfold bdW; rw [wfl_na (by decide), wu_nk _ _ (by decide), wu_eq]
    · refine ⟨by unfold mN; rw [a1.2.1.1, Int.toNat_natCast]; exact a1.2.2.2.1, fun s s2 h1 h2 h3 => ?_⟩
      unfold mN at h1 h2
      rw [a1.2.1.1, Int.toNat_natCast] at h1 h2
      rw [(a1.2.1.2.1 s h1).1, (a1.2.1.2.1 s2 h2).1] at h3
      exact a1.2.2.2.2.2 s s2 h1 h2 (by omega)
    · rw [a2.2.2.1]; unfold bdW; rw [wfl_na (by decide), wu_nk _ _ (by decide), wu_eq]
  · rw [h1]
    exact ⟨fun _ => ⟨w, t, rfl, rfl, Lo.rf _, hD, h1⟩, fun h9 => absurd (by decide) h9⟩
/-- the walk's context at its beginning -/
theorem wc_beg {w w1 : eW} {t : eT} {b : Nat × Nat} {m : eW} {Pm : Int → Int → Prop} (hD : DynQ w t b m) (h0 : w 37 8 = 0) (hb : b.2 + 1 < 1000000000) (hi : Hi w w1) : WCx m Pm (clW w1) (b.1, b.2 + 1) (mN w) (mK w) (clW w1) t ∧ Sta (mN w) (mK w) m (16, 16, 16) 0 ∧ (∀ a, a ≠ 45 → clW w1 a = w1 a) ∧ ∀ s s2, s < mN w → s2 < mN w → mK w s = mK w s2 → s = s2 := by
  have hD1 := hD.hi hi
  obtain ⟨mc, lo, e37, er⟩ := m_clear (P := Pm) hD1 hb
  have ro : ∀ a, a ≠ 45 → clW w1 a = w1 a := fun a ha => by unfold clW; rw [wu_row ha, wu_row ha]
  obtain ⟨ma, hn, hkd⟩ : MaC w m ∧ KyN w t := by
    rcases hD.2.2.2 with h1 | ⟨_, h2⟩
    · rw [h0] at h1; omega
    · exact h2
  have e37b : clW w1 37 = w 37 := by rw [e37, hi 37 (by omega)]
  have er2 : ∀ a ∈ dyRef w, a ∈ [w 37 1, w 37 2, w 37 3, w 37 4, w 37 5, w 37 6] → clW w1 a.toNat = w a.toNat := fun a ha h2 => by
    have h3 := hD.1.2.1 a ha
    rw [ro _ (by omega)]
    exact hi _ (by omega)
  obtain ⟨i1, i2, i3, i4, i5, i6, i7, i8⟩ := @dyRef_i w
  have eK : mK (clW w1) = mK w := by funext s; unfold mK; rw [e37b, er2 _ i1 (by simp)]
  refine ⟨⟨fun _ _ => rfl, mc, ma.ext eK ?_ ?_ ?_ (by rw [e37b]), ⟨by rw [e37b]; exact ma.1.2.1, by rw [e37b]; exact hn⟩, fun s => by rw [eK]⟩, Or.inr ⟨0, ma.1.1, rfl, ma.1.2.2⟩, ro, hkd⟩
  · unfold mA; rw [e37b, er2 _ i6 (by simp)]
  · unfold mD; rw [e37b, er2 _ i4 (by simp)]
  · unfold mTl; rw [e37b, er2 _ i5 (by simp)]

theorem g_crows {d : Nat} {Q : Option aV → aS → Prop} {w : eW} {t : eT} {n : Int} {m : eW} {b : Nat × Nat} {γV : Type} {PRV : γV → Int → Int → Int → eW → eT → Prop} {POV : γV → Int → Int → Int → eW → eT → Int → eW → eT → Prop} (hrV : ∀ (g : γV) (a1 a2 a3 : Int) (w : eW) (t : eT), PRV g a1 a2 a3 w t → Cl (d + 98) 105 [rA 53, (0, a1), (0, a2), (0, a3)] (enc w t) (fun r S2 => ∃ x w2 t2, r = some (1, x) ∧ S2 = enc w2 t2 ∧ POV g a1 a2 a3 w t x w2 t2)) (h : ((w32 n < 0 → Q (some (1, (-1))) (enc w t)) ∧ (¬ (w32 n < 0) → ((w32 n ≤ w32 8 → ((LN w m ∧ RC w m ∧ WFp m ∧ WFr m) ∧ DynQ w t b m) ∧ (∀ w1 t2, (Lo w w1 ∧ DynQ w1 t2 b m ∧ w1 37 8 = 0) → ((0 : Int) ≤ 0 ∧ (0 : Int) ≤ 4) ∧ (∃ g3, (PRV g3 n 0 0 (begW w1 0) t2) ∧ (∀ x4 w5 t6, (POV g3 n 0 0 (begW w1 0) t2 x4 w5 t6) → Q (some (1, x4)) (enc w5 t6))))) ∧ (¬ (w32 n ≤ w32 8) → Q (some (1, (-1))) (enc w t)))))) : Cl (d + 100) 139 [rA 1, (0, n)] (enc w t) Q := by
  show Ev (d + 100) 139 Q 0 [rA 1, (0, n)] [] (enc w t)
  refine e_ldi (show am_cd 139 0 = (2, 1, 1, 0, []) by decide +kernel) rfl ?_
  refine e_if2 (show am_cd 139 1 = (10, 4, 10, 2, []) by decide +kernel) (fun hc => ?_) (fun hc => ?_)
  · replace h := h.1 hc
    refine e_lc (show am_cd 139 10 = (1, 13, 1, -1, [253]) by decide +kernel) ?_
    exact e_retl (show am_cd 139 13 = (36, 14, 1, 0, []) by decide +kernel) (by decide +kernel) h
  · replace h := h.2 hc
    refine e_ldi (show am_cd 139 4 = (2, 5, 1, 0, []) by decide +kernel) rfl ?_
    refine e_ic (show am_cd 139 5 = (0, 7, 1, 8, []) by decide +kernel) ?_
    refine e_cmp5 (show am_cd 139 7 = (11, 10, 14, 5, []) by decide +kernel) (fun hc => ?_) (fun hc => ?_)
    · replace h := h.1 hc
      refine e_lda (v := 1) (show am_cd 139 14 = (2, 15, 0, 2, []) by decide +kernel) rfl ?_
      refine e_cV (z := 0) (a := 1) (as := []) (rest := []) (show am_cd 139 15 = (40, 18, 138, 0, [255]) by decide +kernel) (by decide +kernel) rfl rfl (Nat.le_of_ble_eq_true rfl) rfl ?_
      refine Cl.mono (Cl.up (c_prep (m := m) (b := b) (d := d) h.1) (by omega)) ?_
      rintro _ _ ⟨w1, t2, rfl, rfl, hp⟩
      refine ⟨fun _ h9 => (by cases h9), ?_⟩
      replace h := h.2 w1 t2 hp
      show Ev _ 139 _ 18 [rA 1, (0, n)] [] _
      refine e_lda (v := 1) (show am_cd 139 18 = (2, 19, 0, 2, []) by decide +kernel) rfl ?_
      refine e_getr (a := 1) (r := 53) (show am_cd 139 19 = (18, 22, 1107, 2, [63]) by decide +kernel) (by decide +kernel) (by decide +kernel) rfl ?_
      refine e_ic (show am_cd 139 22 = (0, 23, 0, 0, []) by decide +kernel) ?_
      refine e_cV (z := 0) (a := 53) (as := [(0, 0)]) (rest := []) (show am_cd 139 23 = (40, 26, 102, 0, [258]) by decide +kernel) (by decide +kernel) rfl rfl (Nat.le_of_ble_eq_true rfl) rfl ?_
      refine Cl.mono (Cl.up (c_beg (d := d) h.1) (by omega)) ?_
      rintro _ _ ⟨rfl, rfl⟩
      refine ⟨fun _ h9 => (by cases h9), ?_⟩
      replace h := h.2
      show Ev _ 139 _ 26 [rA 1, (0, n)] [] _
      refine e_lda (v := 1) (show am_cd 139 26 = (2, 27, 0, 2, []) by decide +kernel) rfl ?_
      refine e_getr (a := 1) (r := 53) (show am_cd 139 27 = (18, 30, 1107, 2, [63]) by decide +kernel) (by decide +kernel) (by decide +kernel) rfl ?_
      refine e_ldi (show am_cd 139 30 = (2, 31, 1, 0, []) by decide +kernel) rfl ?_
      refine e_cV (z := 0) (a := 53) (as := [(0, n)]) (rest := []) (show am_cd 139 31 = (40, 34, 103, 0, [261]) by decide +kernel) (by decide +kernel) rfl rfl (Nat.le_of_ble_eq_true rfl) rfl ?_
      show Ev _ 103 _ 0 [rA 53, (0, n)] [] _
      refine e_lda (v := 53) (show am_cd 103 0 = (2, 1, 0, 2, []) by decide +kernel) rfl ?_
      refine e_ldi (show am_cd 103 1 = (2, 2, 1, 0, []) by decide +kernel) rfl ?_
      refine e_ic (show am_cd 103 2 = (0, 3, 0, 0, []) by decide +kernel) ?_
      refine e_ic (show am_cd 103 3 = (0, 4, 0, 0, []) by decide +kernel) ?_
      refine e_cV (z := 0) (a := 53) (as := [(0, n), (0, 0), (0, 0)]) (rest := []) (show am_cd 103 4 = (40, 7, 105, 0, [54]) by decide +kernel) (by decide +kernel) rfl rfl (Nat.le_of_ble_eq_true rfl) rfl ?_
      obtain ⟨g3, h⟩ := h
      refine Cl.mono (Cl.up (hrV g3 _ _ _ _ _ h.1) (by omega)) ?_
      rintro _ _ ⟨x4, w5, t6, rfl, rfl, hp⟩
      refine ⟨fun _ h9 => (by cases h9), ?_⟩
      replace h := h.2 x4 w5 t6 hp
      show Ev _ 103 _ 7 [rA 53, (0, n)] [(1, x4)] _
      refine e_retl (show am_cd 103 7 = (36, 8, 1, 0, []) by decide +kernel) (by decide +kernel) ⟨fun _ h9 => (by cases h9), ?_⟩
      show Ev _ 139 _ 34 [rA 1, (0, n)] [(1, x4)] _
      exact e_retl (show am_cd 139 34 = (36, 35, 1, 0, []) by decide +kernel) (by decide +kernel) h
    · replace h := h.2 hc
      refine e_lc (show am_cd 139 10 = (1, 13, 1, -1, [253]) by decide +kernel) ?_
      exact e_retl (show am_cd 139 13 = (36, 14, 1, 0, []) by decide +kernel) (by decide +kernel) h

theorem g_cwall {d : Nat} {Q : Option aV → aS → Prop} {w : eW} {t : eT} {k s : Int} {m : eW} {b : Nat × Nat} {γV : Type} {PRV : γV → Int → Int → Int → eW → eT → Prop} {POV : γV → Int → Int → Int → eW → eT → Int → eW → eT → Prop} (hrV : ∀ (g : γV) (a1 a2 a3 : Int) (w : eW) (t : eT), PRV g a1 a2 a3 w t → Cl (d + 98) 105 [rA 53, (0, a1), (0, a2), (0, a3)] (enc w t) (fun r S2 => ∃ x w2 t2, r = some (1, x) ∧ S2 = enc w2 t2 ∧ POV g a1 a2 a3 w t x w2 t2)) {γT : Type} {PRT : γT → Int → Int → Int → Int → eW → eT → Prop} {POT : γT → Int → Int → Int → Int → eW → eT → eW → eT → Prop} (hrT : ∀ (g : γT) (a1 a2 a3 a4 : Int) (w : eW) (t : eT), PRT g a1 a2 a3 a4 w t → Cl (d + 98) 106 [rA 53, (0, a1), (0, a2), (0, a3), (0, a4)] (enc w t) (fun r S2 => ∃ w2 t2, r = none ∧ S2 = enc w2 t2 ∧ POT g a1 a2 a3 a4 w t w2 t2)) (h : ((LN w m ∧ RC w m ∧ WFp m ∧ WFr m) ∧ DynQ w t b m) ∧ (∀ w1 t2, (Lo w w1 ∧ DynQ w1 t2 b m ∧ w1 37 8 = 0) → ((0 : Int) ≤ k ∧ (k : Int) ≤ 4) ∧ (∃ g3, (PRT g3 s 0 0 0 (wu (begW w1 k) 48 4 0) t2) ∧ (∀ w4 t5, (POT g3 s 0 0 0 (wu (begW w1 k) 48 4 0) t2 w4 t5) → ∃ g6, (PRV g6 s 0 0 w4 t5) ∧ (∀ x7 w8 t9, (POV g6 s 0 0 w4 t5 x7 w8 t9) → Q (some (1, x7)) (enc w8 t9)))))) : Cl (d + 100) 147 [rA 1, (0, k), (0, s)] (enc w t) Q := by
  show Ev (d + 100) 147 Q 0 [rA 1, (0, k), (0, s)] [] (enc w t)
  refine e_lda (v := 1) (show am_cd 147 0 = (2, 1, 0, 2, []) by decide +kernel) rfl ?_
  refine e_cV (z := 0) (a := 1) (as := []) (rest := []) (show am_cd 147 1 = (40, 4, 138, 0, [255]) by decide +kernel) (by decide +kernel) rfl rfl (Nat.le_of_ble_eq_true rfl) rfl ?_
  refine Cl.mono (Cl.up (c_prep (m := m) (b := b) (d := d) h.1) (by omega)) ?_
  rintro _ _ ⟨w1, t2, rfl, rfl, hp⟩
  refine ⟨fun _ h9 => (by cases h9), ?_⟩
  replace h := h.2 w1 t2 hp
  show Ev _ 147 _ 4 [rA 1, (0, k), (0, s)] [] _
  refine e_lda (v := 1) (show am_cd 147 4 = (2, 5, 0, 2, []) by decide +kernel) rfl ?_
  refine e_getr (a := 1) (r := 53) (show am_cd 147 5 = (18, 8, 1107, 2, [63]) by decide +kernel) (by decide +kernel) (by decide +kernel) rfl ?_
  refine e_ldi (show am_cd 147 8 = (2, 9, 1, 0, []) by decide +kernel) rfl ?_
  refine e_cV (z := 0) (a := 53) (as := [(0, k)]) (rest := []) (show am_cd 147 9 = (40, 12, 102, 0, [258]) by decide +kernel) (by decide +kernel) rfl rfl (Nat.le_of_ble_eq_true rfl) rfl ?_
  refine Cl.mono (Cl.up (c_beg (d := d) h.1) (by omega)) ?_
  rintro _ _ ⟨rfl, rfl⟩
  refine ⟨fun _ h9 => (by cases h9), ?_⟩
  replace h := h.2
  show Ev _ 147 _ 12 [rA 1, (0, k), (0, s)] [] _
  refine e_lda (v := 1) (show am_cd 147 12 = (2, 13, 0, 2, []) by decide +kernel) rfl ?_
  refine e_getr (a := 1) (r := 48) (show am_cd 147 13 = (18, 16, 1106, 2, [54]) by decide +kernel) (by decide +kernel) (by decide +kernel) rfl ?_
  refine e_ic (show am_cd 147 16 = (0, 17, 0, 0, []) by decide +kernel) ?_
  refine e_putf (a := 48) (show am_cd 147 17 = (19, 20, 204, 0, [140]) by decide +kernel) (by decide +kernel) (by decide +kernel) rfl (fun h9 => absurd h9 (by decide)) (fun h9 => absurd h9 (by decide +kernel)) ?_
  refine e_lda (v := 1) (show am_cd 147 20 = (2, 21, 0, 2, []) by decide +kernel) rfl ?_
  refine e_getr (a := 1) (r := 53) (show am_cd 147 21 = (18, 24, 1107, 2, [63]) by decide +kernel) (by decide +kernel) (by decide +kernel) rfl ?_
  refine e_ldi (show am_cd 147 24 = (2, 25, 2, 0, []) by decide +kernel) rfl ?_
  refine e_cV (z := 0) (a := 53) (as := [(0, s)]) (rest := []) (show am_cd 147 25 = (40, 28, 104, 0, [271]) by decide +kernel) (by decide +kernel) rfl rfl (Nat.le_of_ble_eq_true rfl) rfl ?_
  show Ev _ 104 _ 0 [rA 53, (0, s)] [] _
  refine e_lda (v := 53) (show am_cd 104 0 = (2, 1, 0, 2, []) by decide +kernel) rfl ?_
  refine e_ldi (show am_cd 104 1 = (2, 2, 1, 0, []) by decide +kernel) rfl ?_
  refine e_ic (show am_cd 104 2 = (0, 3, 0, 0, []) by decide +kernel) ?_
  refine e_ic (show am_cd 104 3 = (0, 4, 0, 0, []) by decide +kernel) ?_
  refine e_ic (show am_cd 104 4 = (0, 5, 0, 0, []) by decide +kernel) ?_
  refine e_cV (z := 0) (a := 53) (as := [(0, s), (0, 0), (0, 0), (0, 0)]) (rest := []) (show am_cd 104 5 = (40, 8, 106, 0, [58]) by decide +kernel) (by decide +kernel) rfl rfl (Nat.le_of_ble_eq_true rfl) rfl ?_
  obtain ⟨g3, h⟩ := h
  refine Cl.mono (Cl.up (hrT g3 _ _ _ _ _ _ h.1) (by omega)) ?_
  rintro _ _ ⟨w4, t5, rfl, rfl, hp⟩
  refine ⟨fun _ h9 => (by cases h9), ?_⟩
  replace h := h.2 w4 t5 hp
  show Ev _ 104 _ 8 [rA 53, (0, s)] [] _
  refine e_retv (show am_cd 104 8 = (36, 9, 3, 0, []) by decide +kernel) (by decide +kernel) ⟨fun _ h9 => (by cases h9), ?_⟩
  show Ev _ 147 _ 28 [rA 1, (0, k), (0, s)] [] _
  refine e_lda (v := 1) (show am_cd 147 28 = (2, 29, 0, 2, []) by decide +kernel) rfl ?_
  refine e_getr (a := 1) (r := 53) (show am_cd 147 29 = (18, 32, 1107, 2, [63]) by decide +kernel) (by decide +kernel) (by decide +kernel) rfl ?_
  refine e_ldi (show am_cd 147 32 = (2, 33, 2, 0, []) by decide +kernel) rfl ?_
  refine e_cV (z := 0) (a := 53) (as := [(0, s)]) (rest := []) (show am_cd 147 33 = (40, 36, 103, 0, [261]) by decide +kernel) (by decide +kernel) rfl rfl (Nat.le_of_ble_eq_true rfl) rfl ?_
  show Ev _ 103 _ 0 [rA 53, (0, s)] [] _
  refine e_lda (v := 53) (show am_cd 103 0 = (2, 1, 0, 2, []) by decide +kernel) rfl ?_
  refine e_ldi (show am_cd 103 1 = (2, 2, 1, 0, []) by decide +kernel) rfl ?_
  refine e_ic (show am_cd 103 2 = (0, 3, 0, 0, []) by decide +kernel) ?_
  refine e_ic (show am_cd 103 3 = (0, 4, 0, 0, []) by decide +kernel) ?_
  refine e_cV (z := 0) (a := 53) (as := [(0, s), (0, 0), (0, 0)]) (rest := []) (show am_cd 103 4 = (40, 7, 105, 0, [54]) by decide +kernel) (by decide +kernel) rfl rfl (Nat.le_of_ble_eq_true rfl) rfl ?_
  obtain ⟨g6, h⟩ := h
  refine Cl.mono (Cl.up (hrV g6 _ _ _ _ _ h.1) (by omega)) ?_
  rintro _ _ ⟨x7, w8, t9, rfl, rfl, hp⟩
  refine ⟨fun _ h9 => (by cases h9), ?_⟩
  replace h := h.2 x7 w8 t9 hp
  show Ev _ 103 _ 7 [rA 53, (0, s)] [(1, x7)] _
  refine e_retl (show am_cd 103 7 = (36, 8, 1, 0, []) by decide +kernel) (by decide +kernel) ⟨fun _ h9 => (by cases h9), ?_⟩
  show Ev _ 147 _ 36 [rA 1, (0, k), (0, s)] [(1, x7)] _
  exact e_retl (show am_cd 147 36 = (36, 37, 1, 0, []) by decide +kernel) (by decide +kernel) h

theorem g_chold {d : Nat} {Q : Option aV → aS → Prop} {w : eW} {t : eT} {p : Int} {m : eW} {b : Nat × Nat} (h : ((w32 p < 0 → Q (some (0, (-1))) (enc w t)) ∧ (¬ (w32 p < 0) → ((w32 p < w32 (w 8 6) → ((LN w m ∧ RC w m ∧ WFp m ∧ WFr m) ∧ DynQ w t b m) ∧ (∀ w1 t2, (Lo w w1 ∧ DynQ w1 t2 b m ∧ w1 37 8 = 0) → Cl (d + 99) 38 [rA 37, (0, p)] (enc w1 t2) (fun r S2 => (∀ x, r ≠ some (6, x)) ∧ Ev (d + 100) 140 Q 29 [rA 1, (0, p), (9, 0)] (r.toList ++ []) S2))) ∧ (¬ (w32 p < w32 (w 8 6)) → Q (some (0, (-1))) (enc w t)))))) : Cl (d + 100) 140 [rA 1, (0, p)] (enc w t) Q := by
  show Ev (d + 100) 140 Q 0 [rA 1, (0, p), (9, 0)] [] (enc w t)
  refine e_ldi (show am_cd 140 0 = (2, 1, 1, 0, []) by decide +kernel) rfl ?_
  refine e_if2 (show am_cd 140 1 = (10, 4, 15, 2, []) by decide +kernel) (fun hc => ?_) (fun hc => ?_)
  · replace h := h.1 hc
    refine e_ic (show am_cd 140 15 = (0, 16, 0, -1, []) by decide +kernel) ?_
    exact e_reti (show am_cd 140 16 = (36, 17, 0, 0, []) by decide +kernel) (by decide +kernel) h
  · replace h := h.2 hc
    refine e_ldi (show am_cd 140 4 = (2, 5, 1, 0, []) by decide +kernel) rfl ?_
    refine e_lda (v := 1) (show am_cd 140 5 = (2, 6, 0, 2, []) by decide +kernel) rfl ?_
    refine e_getr (a := 1) (r := 8) (show am_cd 140 6 = (18, 9, 1101, 2, [19]) by decide +kernel) (by decide +kernel) (by decide +kernel) rfl ?_
    refine e_getf (a := 8) (tg := 0) (show am_cd 140 9 = (18, 12, 6, 0, [145]) by decide +kernel) (by decide +kernel) (by decide +kernel) rfl ?_
    refine e_cmp2 (show am_cd 140 12 = (11, 15, 17, 2, []) by decide +kernel) (fun hc => ?_) (fun hc => ?_)
    · replace h := h.1 hc
      refine e_lda (v := 1) (show am_cd 140 17 = (2, 18, 0, 2, []) by decide +kernel) rfl ?_
      refine e_cV (z := 0) (a := 1) (as := []) (rest := []) (show am_cd 140 18 = (40, 21, 138, 0, [255]) by decide +kernel) (by decide +kernel) rfl rfl (Nat.le_of_ble_eq_true rfl) rfl ?_
      refine Cl.mono (Cl.up (c_prep (m := m) (b := b) (d := d) h.1) (by omega)) ?_
      rintro _ _ ⟨w1, t2, rfl, rfl, hp⟩
      refine ⟨fun _ h9 => (by cases h9), ?_⟩
      replace h := h.2 w1 t2 hp
      show Ev _ 140 _ 21 [rA 1, (0, p), (9, 0)] [] _
      refine e_lda (v := 1) (show am_cd 140 21 = (2, 22, 0, 2, []) by decide +kernel) rfl ?_
      refine e_getr (a := 1) (r := 37) (show am_cd 140 22 = (18, 25, 1104, 2, [40]) by decide +kernel) (by decide +kernel) (by decide +kernel) rfl ?_
      refine e_ldi (show am_cd 140 25 = (2, 26, 1, 0, []) by decide +kernel) rfl ?_
      refine e_cV (z := 0) (a := 37) (as := [(0, p)]) (rest := []) (show am_cd 140 26 = (40, 29, 38, 0, [265]) by decide +kernel) (by decide +kernel) rfl rfl (Nat.le_of_ble_eq_true rfl) rfl ?_
      exact h
    · replace h := h.2 hc
      refine e_ic (show am_cd 140 15 = (0, 16, 0, -1, []) by decide +kernel) ?_
      exact e_reti (show am_cd 140 16 = (36, 17, 0, 0, []) by decide +kernel) (by decide +kernel) h

