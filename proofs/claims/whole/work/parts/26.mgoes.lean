/-! The model: goes, isEnd. -/
theorem g_isInsert {d : Nat} {Q : Option aV → aS → Prop} {w : eW} {t : eT} {p : Int} {m : eW} {wo : Int} (h : ((w32 p = w32 16 → Q (some (0, 0)) (enc w t)) ∧ (¬ (w32 p = w32 16) → (0 ≤ w32 p ∧ w32 p < 16) ∧ ((¬ w32 (w 68 (w32 p).toNat) = w32 27 → Q (some (0, 0)) (enc w t)) ∧ (¬ (¬ w32 (w 68 (w32 p).toNat) = w32 27) → Q (some (0, 1)) (enc w t)))))) : Cl (d) 200 [rA 67, (0, p)] (enc w t) Q := by
  show Ev (d) 200 Q 0 [rA 67, (0, p)] [] (enc w t)
  refine e_ldi (show am_cd 200 0 = (2, 1, 1, 0, []) by decide +kernel) rfl ?_
  refine e_ic (show am_cd 200 1 = (0, 3, 1, 16, []) by decide +kernel) ?_
  refine e_cmp0 (show am_cd 200 3 = (11, 6, 21, 0, []) by decide +kernel) (fun hc => ?_) (fun hc => ?_)
  · replace h := h.1 hc
    refine e_ic (show am_cd 200 21 = (0, 22, 0, 0, []) by decide +kernel) ?_
    exact e_retz (show am_cd 200 22 = (36, 23, 0, 0, []) by decide +kernel) (by decide +kernel) (Or.inl rfl) h
  · replace h := h.2 hc
    refine e_lda (v := 67) (show am_cd 200 6 = (2, 7, 0, 2, []) by decide +kernel) rfl ?_
    refine e_getr (a := 67) (r := 68) (show am_cd 200 7 = (18, 10, 1201, 2, [9]) by decide +kernel) (by decide +kernel) (by decide +kernel) rfl ?_
    refine e_ldi (show am_cd 200 10 = (2, 11, 1, 0, []) by decide +kernel) rfl ?_
    refine e_iald (a := 68) (n := 16) (show am_cd 200 11 = (21, 12, 0, 0, []) by decide +kernel) (by decide +kernel) (by decide +kernel) (by decide +kernel) h.1 ?_
    replace h := h.2
    refine e_ic (show am_cd 200 12 = (0, 14, 1, 27, []) by decide +kernel) ?_
    refine e_cmp1 (show am_cd 200 14 = (11, 17, 21, 1, []) by decide +kernel) (fun hc => ?_) (fun hc => ?_)
    · replace h := h.1 hc
      refine e_ic (show am_cd 200 21 = (0, 22, 0, 0, []) by decide +kernel) ?_
      exact e_retz (show am_cd 200 22 = (36, 23, 0, 0, []) by decide +kernel) (by decide +kernel) (Or.inl rfl) h
    · replace h := h.2 hc
      refine e_ic (show am_cd 200 17 = (0, 18, 0, 1, []) by decide +kernel) ?_
      refine e_go (show am_cd 200 18 = (12, 22, 0, 0, []) by decide +kernel) ?_
      exact e_retz (show am_cd 200 22 = (36, 23, 0, 0, []) by decide +kernel) (by decide +kernel) (Or.inr rfl) h

theorem c_isInsert {d : Nat} {m w : eW} {t : eT} {p : Int} (h : MG w m ∧ gC m p) : Cl d 200 [rA 67, (0, p)] (enc w t) (fun z S2 => z = some (0, bI (isI m p.toNat)) ∧ S2 = enc w t) := by
  obtain ⟨⟨hp, hr, hwp, hwr⟩, hc⟩ := h
  have hn2 := hp.n
  unfold gC at hc
  refine g_isInsert (m := m) (wo := 0) ?_
  simp (disch := omega) only [w32_id]
  unfold isI bI
  by_cases h16 : p = 16
  · subst h16
    have e2 : ¬ 16 < nP m := by omega
    simp [e2]
  · have g1 := (hwp.2 p.toNat (by omega)).1
    have b1 := (hp.2.1 p.toNat (by omega)).1
    have cn : p.toNat < nP m := by omega
    simp (disch := omega) only [w32_id, g1]
    simp [h16, cn]
    (repeat' (first | apply And.intro | intro _)) <;> first | omega | simp_all

theorem g_mayCome {d : Nat} {Q : Option aV → aS → Prop} {w : eW} {t : eT} {p q : Int} {m : eW} {wo : Int} (h : (MG w m ∧ gC m p) ∧ (((isI m p.toNat) = false → Q (some (0, 1)) (enc w t)) ∧ ((isI m p.toNat) = true → (MG w m ∧ gC m q) ∧ (((isI m q.toNat) = true → Q (some (0, 0)) (enc w t)) ∧ ((isI m q.toNat) = false → Q (some (0, 1)) (enc w t)))))) : Cl (d + 1) 201 [rA 67, (0, p), (0, q)] (enc w t) Q := by
  show Ev (d + 1) 201 Q 0 [rA 67, (0, p), (0, q)] [] (enc w t)
  refine e_lda (v := 67) (show am_cd 201 0 = (2, 1, 0, 2, []) by decide +kernel) rfl ?_
  refine e_ldi (show am_cd 201 1 = (2, 2, 1, 0, []) by decide +kernel) rfl ?_
  refine e_cV (z := 0) (a := 67) (as := [(0, p)]) (rest := []) (show am_cd 201 2 = (40, 5, 200, 0, [246]) by decide +kernel) (by decide +kernel) rfl rfl (Nat.le_of_ble_eq_true rfl) rfl ?_
  refine Cl.mono (Cl.up (c_isInsert (d := d) h.1) (by omega)) ?_
  rintro _ _ ⟨rfl, rfl⟩
  refine ⟨fun _ h9 => (by cases h9), ?_⟩
  replace h := h.2
  show Ev _ 201 _ 5 [rA 67, (0, p), (0, q)] [(0, bI (isI m p.toNat))] _
  refine e_ifb0 (show am_cd 201 5 = (10, 8, 16, 0, []) by decide +kernel) (fun hc => ?_) (fun hc => ?_)
  · replace h := h.1 hc
    refine e_ic (show am_cd 201 16 = (0, 17, 0, 1, []) by decide +kernel) ?_
    refine e_go (show am_cd 201 17 = (12, 21, 0, 0, []) by decide +kernel) ?_
    exact e_retz (show am_cd 201 21 = (36, 22, 0, 0, []) by decide +kernel) (by decide +kernel) (Or.inr rfl) h
  · replace h := h.2 hc
    refine e_lda (v := 67) (show am_cd 201 8 = (2, 9, 0, 2, []) by decide +kernel) rfl ?_
    refine e_ldi (show am_cd 201 9 = (2, 10, 2, 0, []) by decide +kernel) rfl ?_
    refine e_cV (z := 0) (a := 67) (as := [(0, q)]) (rest := []) (show am_cd 201 10 = (40, 13, 200, 0, [246]) by decide +kernel) (by decide +kernel) rfl rfl (Nat.le_of_ble_eq_true rfl) rfl ?_
    refine Cl.mono (Cl.up (c_isInsert (d := d) h.1) (by omega)) ?_
    rintro _ _ ⟨rfl, rfl⟩
    refine ⟨fun _ h9 => (by cases h9), ?_⟩
    replace h := h.2
    show Ev _ 201 _ 13 [rA 67, (0, p), (0, q)] [(0, bI (isI m q.toNat))] _
    refine e_ifb1 (show am_cd 201 13 = (10, 16, 20, 1, []) by decide +kernel) (fun hc => ?_) (fun hc => ?_)
    · replace h := h.1 hc
      refine e_ic (show am_cd 201 20 = (0, 21, 0, 0, []) by decide +kernel) ?_
      exact e_retz (show am_cd 201 21 = (36, 22, 0, 0, []) by decide +kernel) (by decide +kernel) (Or.inl rfl) h
    · replace h := h.2 hc
      refine e_ic (show am_cd 201 16 = (0, 17, 0, 1, []) by decide +kernel) ?_
      refine e_go (show am_cd 201 17 = (12, 21, 0, 0, []) by decide +kernel) ?_
      exact e_retz (show am_cd 201 21 = (36, 22, 0, 0, []) by decide +kernel) (by decide +kernel) (Or.inr rfl) h

theorem c_mayCome {d : Nat} {m w : eW} {t : eT} {p q : Int} (h : MG w m ∧ gC m p ∧ gC m q) : Cl (d + 1) 201 [rA 67, (0, p), (0, q)] (enc w t) (fun z S2 => z = some (0, bI (!(isI m p.toNat && isI m q.toNat))) ∧ S2 = enc w t) := by
  obtain ⟨hm, hp, hq⟩ := h
  refine g_mayCome (m := m) (wo := 0) ⟨⟨hm, hp⟩, ?_⟩
  cases isI m p.toNat <;> cases isI m q.toNat <;> simp [hm, hq, bI]

theorem g_goes {d : Nat} {Q : Option aV → aS → Prop} {w : eW} {t : eT} {a b c e : Int} {m : eW} {wo : Int} (hw : w32 wo = wo) (h : (MG w m ∧ gC m c ∧ gC m e) ∧ (((!(isI m c.toNat && isI m e.toNat)) = false → Q (some (0, 0)) (enc w t)) ∧ ((!(isI m c.toNat && isI m e.toNat)) = true → (MG w m ∧ w 67 35 = wo ∧ gE a ∧ gE b ∧ gC m c ∧ gE e) ∧ ((¬ w32 ((brs m wo a.toNat b.toNat c.toNat e.toNat : Nat) : Int) = 0 → Q (some (0, 0)) (enc w t)) ∧ (¬ (¬ w32 ((brs m wo a.toNat b.toNat c.toNat e.toNat : Nat) : Int) = 0) → Q (some (0, 1)) (enc w t)))))) : Cl (d + 4) 210 [rA 67, (0, a), (0, b), (0, c), (0, e)] (enc w t) Q := by
  show Ev (d + 4) 210 Q 0 [rA 67, (0, a), (0, b), (0, c), (0, e)] [] (enc w t)
  refine e_lda (v := 67) (show am_cd 210 0 = (2, 1, 0, 2, []) by decide +kernel) rfl ?_
  refine e_ldi (show am_cd 210 1 = (2, 2, 3, 0, []) by decide +kernel) rfl ?_
  refine e_ldi (show am_cd 210 2 = (2, 4, 4, 0, []) by decide +kernel) rfl ?_
  refine e_cV (z := 0) (a := 67) (as := [(0, c), (0, e)]) (rest := []) (show am_cd 210 4 = (40, 7, 201, 0, [265]) by decide +kernel) (by decide +kernel) rfl rfl (Nat.le_of_ble_eq_true rfl) rfl ?_
  refine Cl.mono (Cl.up (c_mayCome (d := d) h.1) (by omega)) ?_
  rintro _ _ ⟨rfl, rfl⟩
  refine ⟨fun _ h9 => (by cases h9), ?_⟩
  replace h := h.2
  show Ev _ 210 _ 7 [rA 67, (0, a), (0, b), (0, c), (0, e)] [(0, bI (!(isI m c.toNat && isI m e.toNat)))] _
  refine e_ifb0 (show am_cd 210 7 = (10, 10, 26, 0, []) by decide +kernel) (fun hc => ?_) (fun hc => ?_)
  · replace h := h.1 hc
    refine e_ic (show am_cd 210 26 = (0, 27, 0, 0, []) by decide +kernel) ?_
    exact e_retz (show am_cd 210 27 = (36, 28, 0, 0, []) by decide +kernel) (by decide +kernel) (Or.inl rfl) h
  · replace h := h.2 hc
    refine e_lda (v := 67) (show am_cd 210 10 = (2, 11, 0, 2, []) by decide +kernel) rfl ?_
    refine e_ldi (show am_cd 210 11 = (2, 12, 1, 0, []) by decide +kernel) rfl ?_
    refine e_ldi (show am_cd 210 12 = (2, 13, 2, 0, []) by decide +kernel) rfl ?_
    refine e_ldi (show am_cd 210 13 = (2, 14, 3, 0, []) by decide +kernel) rfl ?_
    refine e_ldi (show am_cd 210 14 = (2, 16, 4, 0, []) by decide +kernel) rfl ?_
    refine e_cV (z := 0) (a := 67) (as := [(0, a), (0, b), (0, c), (0, e)]) (rest := []) (show am_cd 210 16 = (40, 19, 199, 0, [268]) by decide +kernel) (by decide +kernel) rfl rfl (Nat.le_of_ble_eq_true rfl) rfl ?_
    refine Cl.mono (Cl.up (c_broken (hw := hw) (d := d) h.1) (by omega)) ?_
    rintro _ _ ⟨rfl, rfl⟩
    refine ⟨fun _ h9 => (by cases h9), ?_⟩
    replace h := h.2
    show Ev _ 210 _ 19 [rA 67, (0, a), (0, b), (0, c), (0, e)] [(0, ((brs m wo a.toNat b.toNat c.toNat e.toNat : Nat) : Int))] _
    refine e_if1 (show am_cd 210 19 = (10, 22, 26, 1, []) by decide +kernel) (fun hc => ?_) (fun hc => ?_)
    · replace h := h.1 hc
      refine e_ic (show am_cd 210 26 = (0, 27, 0, 0, []) by decide +kernel) ?_
      exact e_retz (show am_cd 210 27 = (36, 28, 0, 0, []) by decide +kernel) (by decide +kernel) (Or.inl rfl) h
    · replace h := h.2 hc
      refine e_ic (show am_cd 210 22 = (0, 23, 0, 1, []) by decide +kernel) ?_
      refine e_go (show am_cd 210 23 = (12, 27, 0, 0, []) by decide +kernel) ?_
      exact e_retz (show am_cd 210 27 = (36, 28, 0, 0, []) by decide +kernel) (by decide +kernel) (Or.inr rfl) h

theorem c_goes {d : Nat} {m w : eW} {t : eT} {wo a b c e : Int} (h : MG w m ∧ w 67 35 = wo ∧ gE a ∧ gE b ∧ gC m c ∧ gC m e) (hw : w32 wo = wo) : Cl (d + 4) 210 [rA 67, (0, a), (0, b), (0, c), (0, e)] (enc w t) (fun z S2 => z = some (0, bI (goes m wo a.toNat b.toNat c.toNat e.toNat)) ∧ S2 = enc w t) := by
  obtain ⟨hm, hwo, ha, hb, hc, he⟩ := h
  have hge : gE e := by have := hm.1.n; unfold gC at he; unfold gE; omega
  have hle : brs m wo a.toNat b.toNat c.toNat e.toNat ≤ nR m := cb_le _ _
  have hn := hm.2.1.n
  have h0 := brs_0 m wo a.toNat b.toNat c.toNat e.toNat
  refine g_goes (m := m) hw ⟨⟨hm, hc, he⟩, ?_⟩
  simp (disch := omega) only [w32_id]
  unfold goes
  refine ⟨fun h1 => ⟨by rw [h1]; rfl, trivial⟩, fun h1 => ⟨⟨hm, hwo, ha, hb, hc, hge⟩, fun h2 => ⟨?_, trivial⟩, fun h2 => ⟨?_, trivial⟩⟩⟩
  · have : okP m wo a.toNat b.toNat c.toNat e.toNat = false := by
      cases h3 : okP m wo a.toNat b.toNat c.toNat e.toNat
      · rfl
      · have := h0.mpr h3; omega
    rw [h1, this]; rfl
  · have : okP m wo a.toNat b.toNat c.toNat e.toNat = true := h0.mp (by omega)
    rw [h1, this]; rfl

theorem g_isEnd {d : Nat} {Q : Option aV → aS → Prop} {w : eW} {t : eT} {a b c : Int} {m : eW} {wo : Int} (hw : w32 wo = wo) (h : (MG w m ∧ w 67 35 = wo ∧ gE a ∧ gE b ∧ gC m c ∧ gE 16) ∧ ((¬ w32 ((brs m wo a.toNat b.toNat c.toNat 16 : Nat) : Int) = 0 → Q (some (0, 0)) (enc w t)) ∧ (¬ (¬ w32 ((brs m wo a.toNat b.toNat c.toNat 16 : Nat) : Int) = 0) → Q (some (0, 1)) (enc w t)))) : Cl (d + 4) 211 [rA 67, (0, a), (0, b), (0, c)] (enc w t) Q := by
  show Ev (d + 4) 211 Q 0 [rA 67, (0, a), (0, b), (0, c)] [] (enc w t)
  refine e_lda (v := 67) (show am_cd 211 0 = (2, 1, 0, 2, []) by decide +kernel) rfl ?_
  refine e_ldi (show am_cd 211 1 = (2, 2, 1, 0, []) by decide +kernel) rfl ?_
  refine e_ldi (show am_cd 211 2 = (2, 3, 2, 0, []) by decide +kernel) rfl ?_
  refine e_ldi (show am_cd 211 3 = (2, 4, 3, 0, []) by decide +kernel) rfl ?_
  refine e_ic (show am_cd 211 4 = (0, 6, 1, 16, []) by decide +kernel) ?_
  refine e_cV (z := 0) (a := 67) (as := [(0, a), (0, b), (0, c), (0, 16)]) (rest := []) (show am_cd 211 6 = (40, 9, 199, 0, [268]) by decide +kernel) (by decide +kernel) rfl rfl (Nat.le_of_ble_eq_true rfl) rfl ?_
  refine Cl.mono (Cl.up (c_broken (hw := hw) (d := d) h.1) (by omega)) ?_
  rintro _ _ ⟨rfl, rfl⟩
  refine ⟨fun _ h9 => (by cases h9), ?_⟩
  replace h := h.2
  show Ev _ 211 _ 9 [rA 67, (0, a), (0, b), (0, c)] [(0, ((brs m wo a.toNat b.toNat c.toNat 16 : Nat) : Int))] _
  refine e_if1 (show am_cd 211 9 = (10, 12, 16, 1, []) by decide +kernel) (fun hc => ?_) (fun hc => ?_)
  · replace h := h.1 hc
    refine e_ic (show am_cd 211 16 = (0, 17, 0, 0, []) by decide +kernel) ?_
    exact e_retz (show am_cd 211 17 = (36, 18, 0, 0, []) by decide +kernel) (by decide +kernel) (Or.inl rfl) h
  · replace h := h.2 hc
    refine e_ic (show am_cd 211 12 = (0, 13, 0, 1, []) by decide +kernel) ?_
    refine e_go (show am_cd 211 13 = (12, 17, 0, 0, []) by decide +kernel) ?_
    exact e_retz (show am_cd 211 17 = (36, 18, 0, 0, []) by decide +kernel) (by decide +kernel) (Or.inr rfl) h

theorem c_isEnd {d : Nat} {m w : eW} {t : eT} {wo a b c : Int} (h : MG w m ∧ w 67 35 = wo ∧ gE a ∧ gE b ∧ gC m c) (hw : w32 wo = wo) : Cl (d + 4) 211 [rA 67, (0, a), (0, b), (0, c)] (enc w t) (fun z S2 => z = some (0, bI (isE m wo a.toNat b.toNat c.toNat)) ∧ S2 = enc w t) := by
  obtain ⟨hm, hwo, ha, hb, hc⟩ := h
  have hle : brs m wo a.toNat b.toNat c.toNat 16 ≤ nR m := cb_le _ _
  have hn := hm.2.1.n
  have h0 := brs_0 m wo a.toNat b.toNat c.toNat 16
  refine g_isEnd (m := m) hw ⟨⟨hm, hwo, ha, hb, hc, by decide, by decide⟩, ?_⟩
  simp only [show (16 : Int).toNat = 16 from rfl]
  simp (disch := omega) only [w32_id]
  unfold isE
  refine ⟨fun h2 => ⟨?_, trivial⟩, fun h2 => ⟨?_, trivial⟩⟩
  · have : okP m wo a.toNat b.toNat c.toNat 16 = false := by
      cases h3 : okP m wo a.toNat b.toNat c.toNat 16
      · rfl
      · have := h0.mpr h3; omega
    rw [this]; rfl
  · have : okP m wo a.toNat b.toNat c.toNat 16 = true := h0.mp (by omega)
    rw [this]; rfl

