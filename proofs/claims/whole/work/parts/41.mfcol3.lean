/-! The model: the first readings, entries. -/
theorem FWR.b {m : eW} {ll : Nat → Int} {nl B : Nat} {e dn al j a b c : Int} {w : eW} {t : eT} (h : FWR m ll nl B e dn al j a b c w t) : FWR m ll nl 19 e dn al j a b c w t := by
  obtain ⟨h1, h2, h3, h4, h5, h6, h7, h8⟩ := h
  have hfm := h1.1.2.1.fm (e := e.toNat) (by omega)
  refine ⟨h1, h2, h3, h4, h5, h6, h7, ?_⟩
  have := mF_le (m := m) (nl := nl) (md := 0) (e := e.toNat) (done := dn.toNat) (all := al.toNat) (j := j.toNat) h1.1.2.1 h1.2.2.2.1 ⟨by omega, by omega, fun _ => ⟨by have := h1.1.2.1.n; omega, by omega⟩⟩ (fun _ => by omega)
  omega
theorem fl_app (m : eW) (g : gT) (e : Nat) (L : fT) : adF (g.1, g.2.1, g.2.2 ++ [e]) L = ((adF g (L.map (fun x => (x.1, e :: x.2)))).1, g.2.1, g.2.2 ++ [e]) := by
  unfold adF
  dsimp only
  rw [List.map_map]
  congr 3
  apply List.map_congr_left
  intro x _
  simp
theorem fl_lay (g : gT) (d : Nat) (L : fT) : adF (g.1, g.2.1 ++ [d], g.2.2) L = ((adF g (L.map (fun x => (d :: x.1, x.2)))).1, g.2.1 ++ [d], g.2.2) := by
  unfold adF
  dsimp only
  rw [List.map_map]
  congr 3
  apply List.map_congr_left
  intro x _
  simp
theorem colEnt_of {d B : Nat} {m : eW} {ll : Nat → Int} {nl : Nat} (hW : ∀ (g : gT) (e dn al j a b c : Int) (w : eW) (t : eT), CWR m ll nl B g e dn al j a b c w t → Cl (d + 66) 246 [rA 67, (0, e), (0, dn), (0, al), (0, j), (0, a), (0, b), (0, c)] (enc w t) (fun r S2 => ∃ w2 t2, r = none ∧ S2 = enc w2 t2 ∧ CWO m ll nl g e dn al j a b c w t w2 t2)) : ∀ (g : gT) (gr al j a b c : Int) (w : eW) (t : eT), CER m ll nl B g gr al j a b c w t → Cl (d + 67) 248 [rA 67, (0, gr), (0, al), (0, j), (0, a), (0, b), (0, c)] (enc w t) (fun r S2 => ∃ w2 t2, r = none ∧ S2 = enc w2 t2 ∧ CEO m ll nl g gr al j a b c w t w2 t2) := by
  intro g gr al j a b c w t h
  obtain ⟨⟨hX, hK, hgr, hal, hj, habc, hB⟩, hG, hlen, hel⟩ := h
  have hn := hX.2.2.2.1
  have he := hX.1.2.1
  have hp := hX.1.1.1
  have hne := he.n
  obtain ⟨ks, ml, el⟩ := g
  dsimp only at hlen hel
  have hok : okF m nl 1 gr.toNat 0 al.toNat j.toNat := ⟨by omega, by omega, fun h9 => by cases h9⟩
  have heq := fl_1 (a := a.toNat) (b := b.toNat) (c := c.toNat) (ll := ll) hp he hn hok
  generalize hF : (fun e => if m 77 e = (gr.toNat : Int) ∧ al.toNat + fmN m e ≤ 6 then (fl m ll nl 0 e 0 (al.toNat + fmN m e) j.toNat a.toNat b.toNat c.toNat).map (fun x => (x.1, e :: x.2)) else []) = F at heq
  refine g_colEnt0 ?_
  have done : ∀ (i : Nat) (σ : eW), i ≤ nE m → FrC w σ → KnW (PmF m ll nl) σ → gOK (adF (ks, ml, el) (lsD F i)) σ → (i = nE m ∨ (adF (ks, ml, el) (lsD F i)).1.length = 20) → ∃ w2 t2, True ∧ enc σ t = enc w2 t2 ∧ CEO m ll nl (ks, ml, el) gr al j a b c w t w2 t2 := by
    intro i σ hi q1 q2 q3 q4
    refine ⟨σ, t, trivial, rfl, rfl, q1, q2, ?_⟩
    rw [heq]
    rcases q4 with q4 | q4
    · rw [← q4]; exact q3
    · obtain ⟨L, hL⟩ := lsD_pre F hi
      rw [hL, adF_full q4]
      exact q3
  refine lq1 (fun i (σ : eW) => Ev (d + 67) 248 (fun r S2 => ∃ w2 t2, r = none ∧ S2 = enc w2 t2 ∧ CEO m ll nl (ks, ml, el) gr al j a b c w t w2 t2) 3 [rA 67, (0, gr), (0, al), (0, j), (0, a), (0, b), (0, c), (0, (i : Int))] [] (enc σ t)) (fun i σ => FrC w σ ∧ KnW (PmF m ll nl) σ ∧ gOK (adF (ks, ml, el) (lsD F i)) σ) (nE m) ?_ ?_ 0 w (Nat.zero_le _) ⟨FrC.rf w, hK, by rw [show lsD F 0 = [] from rfl, adF_nil hG.le]; exact hG⟩
  · intro i σ hi hI hE
    obtain ⟨i1, i2, i3⟩ := hI
    have hX2 := hX.c i1
    have hx2 := hX2.1.2.2
    obtain ⟨e1, e2, e3, e4⟩ := hx2.2 i hi
    obtain ⟨f1, f2, f3, f4⟩ := he.2 i hi
    have hfm := he.fm hi
    have hFi : F i = (if m 77 i = (gr.toNat : Int) ∧ al.toNat + fmN m i ≤ 6 then (fl m ll nl 0 i 0 (al.toNat + fmN m i) j.toNat a.toNat b.toNat c.toNat).map (fun x => (x.1, i :: x.2)) else []) := by rw [← hF]
    rw [show lsD F (i + 1) = lsD F i ++ F i from rfl] at hE
    refine g_colEnt1 (m := m) (ll := ll) (nl := nl) (J := (9, 0)) (J2 := (9, 0)) hm1 hW ?_
    have hkl := i3.1.1
    have hkl2 := i3.1.2.1
    rw [hx2.1, hkl]
    simp (disch := omega) only [w32_id, Int.toNat_natCast, e1, e3]
    have skip : F i = [] → Ev (d + 67) 248 (fun r S2 => ∃ w2 t2, r = none ∧ S2 = enc w2 t2 ∧ CEO m ll nl (ks, ml, el) gr al j a b c w t w2 t2) 3 [rA 67, (0, gr), (0, al), (0, j), (0, a), (0, b), (0, c), (0, ((i : Int) + 1))] [] (enc σ t) := fun h9 => hE σ ⟨i1, i2, by rw [h9, List.append_nil]; exact i3⟩
    refine ⟨fun h9 => (by omega), fun _ => ⟨fun hfull => done i σ (by omega) i1 i2 i3 (Or.inr (by omega)), fun hroom => ⟨by omega, fun h1 => skip ?_, fun h1 => ⟨by omega, fun h2 => skip ?_, fun h2 => ⟨by omega, ?_, fun x w2 t2 hp2 => ?_⟩⟩⟩⟩⟩
    · rw [hFi, if_neg (by omega)]
    · rw [hFi, if_neg (by omega)]
    · refine FWR.b (B := B) ⟨hX2, i2, ⟨by omega, by omega⟩, ⟨by decide, by rw [Int.toNat_natCast]; omega⟩, ⟨by rw [Int.toNat_natCast]; omega, by omega⟩, hj, habc, ?_⟩
      have := mF_ne (m := m) (nl := nl) (e := i) (all := al.toNat) (j := j.toNat) hfm.1 (by omega) 0 0
      rw [Int.toNat_natCast, show (al + m 79 i).toNat = al.toNat + fmN m i by omega]
      show mF m nl 0 i 0 _ _ < B
      omega
    · obtain ⟨p1, p2, p3, p4⟩ := hp2
      subst p2
      rw [Int.toNat_natCast, show (al + m 79 i).toNat = al.toNat + fmN m i by omega, show (0 : Int).toNat = 0 from rfl] at p1
      have hX3 := hX2.t p3
      have i3b := i3.t p3
      have i3' : gOK ((adF (ks, ml, el) (lsD F i)).1, ml, el) w2 := i3b
      have hwl : w2 67 42 = (el.length : Int) := i3'.2.2.1
      have e3b := (hX3.1.2.2.2 i hi).2.2.1
      have hbound := fl_lt (m := m) (ll := ll) (nl := nl) (md := 0) (e := i) (done := 0) (all := al.toNat + fmN m i) (j := j.toNat) (a := a.toNat) (b := b.toNat) (c := c.toNat) hp he hn (by decide) ⟨by omega, by omega, fun _ => ⟨hi, by omega⟩⟩ (fun _ => by omega)
      rw [p1, hwl]
      simp (disch := omega) only [w32_id, w64_id, Int.toNat_natCast, e3b]
      refine ⟨fun h3 => ⟨by omega, by omega, ((adF (ks, ml, el) (lsD F i)).1, ml, el ++ [i]), ⟨⟨hX3.c FrC.word, p4.word, ⟨by omega, by omega⟩, ⟨by decide, by rw [Int.toNat_natCast]; omega⟩, ⟨by rw [Int.toNat_natCast]; omega, by omega⟩, hj, habc, ?_⟩, i3'.word (by omega), ?_, by simp, ?_⟩, fun w4 t5 hp4 => ?_⟩, fun h3 => ?_⟩
      · have := mF_ne (m := m) (nl := nl) (e := i) (all := al.toNat) (j := j.toNat) hfm.1 (by omega) 0 0
        rw [Int.toNat_natCast, show (al + m 79 i).toNat = al.toNat + fmN m i by omega]
        show mF m nl 0 i 0 _ _ < B
        omega
      · dsimp only
        rw [Int.toNat_natCast, show (al + m 79 i).toNat = al.toNat + fmN m i by omega, show (0 : Int).toNat = 0 from rfl]
        omega
      · dsimp only
        rw [List.length_append, List.length_singleton]
        omega
      · obtain ⟨c1, c2, c3, c4⟩ := hp4
        subst c1
        rw [Int.toNat_natCast, show (al + m 79 i).toNat = al.toNat + fmN m i by omega, show (0 : Int).toNat = 0 from rfl] at c4
        have hfa := fl_app m (adF (ks, ml, el) (lsD F i)) i (fl m ll nl 0 i 0 (al.toNat + fmN m i) j.toNat a.toNat b.toNat c.toNat)
        rw [show (adF (ks, ml, el) (lsD F i)).2.1 = ml from rfl, show (adF (ks, ml, el) (lsD F i)).2.2 = el from rfl, adF_app] at hfa
        rw [hfa] at c4
        refine hE _ ⟨(i1.tr (p3.c.tr FrC.word)).tr (c2.tr FrC.unword), c3.fld (by decide), ?_⟩
        rw [hFi, if_pos (by omega)]
        exact c4.unword
      · have hz : fl m ll nl 0 i 0 (al.toNat + fmN m i) j.toNat a.toNat b.toNat c.toNat = [] := List.length_eq_zero_iff.mp (by omega)
        refine hE w2 ⟨i1.tr p3.c, p4, ?_⟩
        rw [hFi, hz, List.map_nil, ite_self, List.append_nil]
        exact i3b
  · intro σ hI
    obtain ⟨i1, i2, i3⟩ := hI
    refine g_colEnt1 (m := m) (ll := ll) (nl := nl) (J := (9, 0)) (J2 := (9, 0)) hm1 hW ?_
    rw [(hX.c i1).1.2.2.1]
    simp (disch := omega) only [w32_id]
    exact ⟨fun _ => done (nE m) σ (Nat.le_refl _) i1 i2 i3 (Or.inl rfl), fun h9 => (by omega)⟩

