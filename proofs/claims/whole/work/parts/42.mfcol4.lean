/-! The model: the first readings, within an entry. -/
theorem colWit_of {d B : Nat} {m : eW} {ll : Nat → Int} {nl : Nat} (hW : ∀ (g : gT) (e dn al j a b c : Int) (w : eW) (t : eT), CWR m ll nl B g e dn al j a b c w t → Cl (d + 66) 246 [rA 67, (0, e), (0, dn), (0, al), (0, j), (0, a), (0, b), (0, c)] (enc w t) (fun r S2 => ∃ w2 t2, r = none ∧ S2 = enc w2 t2 ∧ CWO m ll nl g e dn al j a b c w t w2 t2)) : ∀ (g : gT) (e dn al j a b c : Int) (w : eW) (t : eT), CWR m ll nl (B + 1) g e dn al j a b c w t → Cl (d + 68) 246 [rA 67, (0, e), (0, dn), (0, al), (0, j), (0, a), (0, b), (0, c)] (enc w t) (fun r S2 => ∃ w2 t2, r = none ∧ S2 = enc w2 t2 ∧ CWO m ll nl g e dn al j a b c w t w2 t2) := by
  intro g e dn al j a b c w t h
  obtain ⟨⟨hX, hK, he0, hdn, hal, hj, habc, hB⟩, hG, hlen, hne0, hel⟩ := h
  have hn := hX.2.2.2.1
  have he := hX.1.2.1
  have hp := hX.1.1.1
  have hpn := hp.n
  have hne := he.n
  obtain ⟨ha, hb, hc⟩ := habc
  have hcE : gE c := by unfold gC at hc; unfold gE; omega
  have hfm := he.fm (e := e.toNat) (by omega)
  obtain ⟨f1, f2, f3, f4⟩ := he.2 e.toNat (by omega)
  obtain ⟨ks, ml, el⟩ := g
  dsimp only at hlen hel hne0
  have hok : okF m nl 0 e.toNat dn.toNat al.toNat j.toNat := ⟨by omega, by omega, fun _ => ⟨by omega, by omega⟩⟩
  have heq := fl_0 (a := a.toNat) (b := b.toNat) (c := c.toNat) (ll := ll) hp he hn hok (by omega)
  generalize hF : (fun d => match loT m ll nl j.toNat d with
    | none => []
    | some j2 => if isFm m e.toNat dn.toNat d && goes m (-1) a.toNat b.toNat c.toNat d then (beL m ll nl (fl m ll nl) e.toNat (dnT m dn.toNat d) al.toNat j2 b.toNat c.toNat d).map (fun (x : List Nat × List Nat) => (d :: x.1, x.2)) else []) = F at heq
  have done : ∀ (i : Nat) (σ : eW), i ≤ nP m → FrC w σ → KnW (PmF m ll nl) σ → gOK (adF (ks, ml, el) (lsD F i)) σ → (i = nP m ∨ (adF (ks, ml, el) (lsD F i)).1.length = 20) → ∃ w2 t2, True ∧ enc σ t = enc w2 t2 ∧ CWO m ll nl (ks, ml, el) e dn al j a b c w t w2 t2 := by
    intro i σ hi q1 q2 q3 q4
    refine ⟨σ, t, trivial, rfl, rfl, q1, q2, ?_⟩
    rw [heq]
    rcases q4 with q4 | q4
    · rw [← q4]; exact q3
    · obtain ⟨L, hL⟩ := lsD_pre F hi
      rw [hL, adF_full q4]
      exact q3
  refine g_colWit0 ?_
  refine lq1 (fun i (σ : eW × aV × aV) => Ev (d + 68) 246 (fun r S2 => ∃ w2 t2, r = none ∧ S2 = enc w2 t2 ∧ CWO m ll nl (ks, ml, el) e dn al j a b c w t w2 t2) 3 [rA 67, (0, e), (0, dn), (0, al), (0, j), (0, a), (0, b), (0, c), (0, (i : Int)), σ.2.1, σ.2.2] [] (enc σ.1 t)) (fun i σ => FrC w σ.1 ∧ KnW (PmF m ll nl) σ.1 ∧ gOK (adF (ks, ml, el) (lsD F i)) σ.1) (nP m) ?_ ?_ 0 (w, (9, 0), (9, 0)) (Nat.zero_le _) ⟨FrC.rf w, hK, by rw [show lsD F 0 = [] from rfl, adF_nil hG.le]; exact hG⟩
  · intro i σ hi hI hE
    obtain ⟨i1, i2, i3⟩ := hI
    have hX2 := hX.c i1
    have g1 := (hX2.1.1.2.2.1.2 i hi).1
    have b1 := (hp.2.1 i hi).1
    have hFi : F i = (match loT m ll nl j.toNat i with
      | none => []
      | some j2 => if isFm m e.toNat dn.toNat i && goes m (-1) a.toNat b.toNat c.toNat i then (beL m ll nl (fl m ll nl) e.toNat (dnT m dn.toNat i) al.toNat j2 b.toNat c.toNat i).map (fun (x : List Nat × List Nat) => (i :: x.1, x.2)) else []) := by rw [← hF]
    rw [show lsD F (i + 1) = lsD F i ++ F i from rfl] at hE
    refine g_colWit1 (m := m) (ll := ll) (nl := nl) hm1 ?_
    have hkl := i3.1.1
    have hkl2 := i3.1.2.1
    rw [hX2.1.1.2.2.1.1, hkl]
    simp (disch := omega) only [w32_id, Int.toNat_natCast, g1]
    have skip : ∀ (J1 J2 : aV), F i = [] → Ev (d + 68) 246 (fun r S2 => ∃ w2 t2, r = none ∧ S2 = enc w2 t2 ∧ CWO m ll nl (ks, ml, el) e dn al j a b c w t w2 t2) 3 [rA 67, (0, e), (0, dn), (0, al), (0, j), (0, a), (0, b), (0, c), (0, ((i : Int) + 1)), J1, J2] [] (enc σ.1 t) := fun J1 J2 h9 => hE (σ.1, J1, J2) ⟨i1, i2, by rw [h9, List.append_nil]; exact i3⟩
    refine ⟨fun h9 => (by omega), fun _ => ⟨fun hfull => done i σ.1 (by omega) i1 i2 i3 (Or.inr (by omega)), fun hroom => ⟨⟨hX2.1.1, hX2.2.2, hj, ⟨by omega, by omega⟩⟩, ?_⟩⟩⟩
    cases hl : loT m ll nl j.toNat i with
    | none =>
      rw [hl] at hFi
      dsimp only at hFi
      exact ⟨fun _ => skip _ _ hFi, fun h9 => absurd rfl h9⟩
    | some j2 =>
      rw [hl] at hFi
      dsimp only at hFi
      have hjl := loT_le (m := m) (by omega) hl
      have hjj := loT_j hl (by omega)
      have hbe := mF_be (all := al.toNat) hp hi (show j.toNat ≤ nl by omega) (show dn.toNat < fmN m e.toNat by omega) hl
      have hdle : dnT m dn.toNat i ≤ fmN m e.toNat := by unfold dnT; split <;> omega
      have hpl : (fmN m e.toNat - dnT m dn.toNat i) + (nl - j2) + 1 ≤ (fmN m e.toNat - dn.toNat) + (nl - j.toNat) := by
        unfold dnT
        by_cases h27 : m 68 i = 27
        · have := loT_ins hp hi hl h27
          rw [if_pos h27]
          omega
        · rw [if_neg h27]
          omega
      simp (disch := omega) only [oI_s, w32_id]
      have rcc : ∀ (y : Int), y = (dnT m dn.toNat i : Int) → isFm m e.toNat dn.toNat i = true → goes m (-1) a.toNat b.toNat c.toNat i = true → Ev (d + 68) 246 (fun r S2 => ∃ w2 t2, r = none ∧ S2 = enc w2 t2 ∧ CWO m ll nl (ks, ml, el) e dn al j a b c w t w2 t2) 87 [rA 67, (0, e), (0, dn), (0, al), (0, j), (0, a), (0, b), (0, c), (0, (i : Int)), (0, (j2 : Int)), (0, y)] [] (enc σ.1 t) := by
        intro y hy hfm2 hg
        rw [hfm2, hg, Bool.and_self, if_pos rfl] at hFi
        refine g_colWit2 (m := m) (ll := ll) (nl := nl) (J := (9, 0)) (J2 := (9, 0)) hm1 hW (colEnt_of hW) (c_colEnd (d := d) (m := m) (ll := ll) (nl := nl)) ?_
        have hyt : y.toNat = dnT m dn.toNat i := by omega
        have m1 : y < fmN m e.toNat → mF m nl 0 e.toNat (dnT m dn.toNat i) al.toNat j2 < B := fun h9 => by
          have := hbe.1 (by omega)
          omega
        have m2 : ¬ y < fmN m e.toNat → mF m nl 1 0 0 al.toNat j2 < B := fun h9 => by
          have := hbe.2 (by omega) 0 0
          omega
        have hB18 := mF_le (m := m) (nl := nl) (md := 0) (e := e.toNat) (done := dn.toNat) (all := al.toNat) (j := j.toNat) he hn hok (fun _ => by omega)
        refine ⟨⟨hX2, i2, he0, ⟨by omega, by omega⟩, hal, ⟨by omega, by omega⟩, ⟨hb, hcE, ⟨by omega, by omega⟩⟩, fun h9 => ?_, fun h9 => ?_⟩, fun x w2 t2 hp2 => ?_⟩
        · rw [hyt, Int.toNat_natCast]
          have := hbe.1 (by omega)
          omega
        · rw [Int.toNat_natCast]
          have := hbe.2 (by omega) 0 0
          omega
        · obtain ⟨p1, p2, p3, p4⟩ := hp2
          subst p2
          rw [hyt, Int.toNat_natCast, Int.toNat_natCast] at p1
          have hX3 := hX2.t p3
          have i3b := i3.t p3
          have i3' : gOK ((adF (ks, ml, el) (lsD F i)).1, ml, el) w2 := i3b
          have hml : w2 67 40 = (ml.length : Int) := i3'.2.1.1
          obtain ⟨e1, e2, e3, e4⟩ := hX3.1.2.2.2 e.toNat (by omega)
          have hbd : (beL m ll nl (fl m ll nl) e.toNat (dnT m dn.toNat i) al.toNat j2 b.toNat c.toNat i).length ≤ 1000000000000000 := by
            unfold beL
            split
            · exact fl_lt hp he hn (by decide) ⟨by omega, by omega, fun _ => ⟨by omega, by omega⟩⟩ (fun _ => by omega)
            · split
              · exact Nat.le_trans (enL_len hpn.2) (by decide)
              · exact fl_lt hp he hn (by decide) ⟨by omega, by omega, fun h9 => by cases h9⟩ (fun h9 => by cases h9)
          rw [p1, hml]
          simp (disch := omega) only [w32_id, w64_id, Int.toNat_natCast, e2, e3]
          have hgl := i3'.lay (i := i) (by omega)
          have fin : ∀ (w4 : eW) (L : fT), L = beL m ll nl (fl m ll nl) e.toNat (dnT m dn.toNat i) al.toNat j2 b.toNat c.toNat i → FrC (wu (wu w2 94 ml.length (i : Int)) 67 40 ((ml.length : Int) + 1)) w4 → KnW (PmF m ll nl) w4 → gOK (adF ((adF (ks, ml, el) (lsD F i)).1, ml ++ [i], el) L) w4 → Ev (d + 68) 246 (fun r S2 => ∃ w2 t3, r = none ∧ S2 = enc w2 t3 ∧ CWO m ll nl (ks, ml, el) e dn al j a b c w t2 w2 t3) 3 [rA 67, (0, e), (0, dn), (0, al), (0, j), (0, a), (0, b), (0, c), (0, (i : Int) + 1), (0, (j2 : Int)), (0, y)] [] (enc (wu w4 67 40 (w4 67 40 - 1)) t2) := by
            intro w4 L hL c2 c3 c4
            have hfa := fl_lay (adF (ks, ml, el) (lsD F i)) i L
            rw [show (adF (ks, ml, el) (lsD F i)).2.1 = ml from rfl, show (adF (ks, ml, el) (lsD F i)).2.2 = el from rfl, adF_app] at hfa
            rw [hfa] at c4
            refine hE (_, (0, (j2 : Int)), (0, y)) ⟨(i1.tr (p3.c.tr FrC.lay)).tr (c2.tr FrC.dec), c3.fld (by decide), ?_⟩
            rw [hFi, ← hL]
            exact c4.dec
          refine ⟨fun h3 => ⟨by omega, by omega, fun h4 => ⟨by omega, fun h5 => ⟨_, ⟨hX3.c FrC.lay, p4.lay, hgl, ⟨by omega, by omega⟩, ⟨hb, hcE, ⟨by omega, by omega⟩⟩, ?_, hne0⟩, fun w4 t5 hp4 => ?_⟩, fun h5 => ⟨by omega, _, ⟨⟨hX3.c FrC.lay, p4.lay, ⟨by omega, by omega⟩, ⟨by omega, by omega⟩, ⟨by omega, by omega⟩, ⟨hb, hcE, ⟨by omega, by omega⟩⟩, ?_⟩, hgl, ?_, ?_⟩, fun w4 t5 hp4 => ?_⟩⟩, fun h4 => ⟨_, ⟨⟨hX3.c FrC.lay, p4.lay, he0, ⟨by omega, by omega⟩, hal, ⟨by omega, by omega⟩, ⟨hb, hcE, ⟨by omega, by omega⟩⟩, ?_⟩, hgl, ?_, hne0, hel⟩, fun w4 t5 hp4 => ?_⟩⟩, fun h3 => ?_⟩
          · dsimp only
            rw [Int.toNat_natCast, List.length_append, List.length_singleton]
            omega
          · obtain ⟨c1, c2, c3, c4⟩ := hp4
            subst c1
            refine fin w4 _ ?_ c2 c3 c4
            rw [Int.toNat_natCast, Int.toNat_natCast]
            unfold beL
            rw [if_neg (by omega), if_pos (by omega)]
          · rw [Int.toNat_natCast]
            exact m2 (by omega)
          · dsimp only
            rw [Int.toNat_natCast, List.length_append, List.length_singleton]
            omega
          · exact hel
          · obtain ⟨c1, c2, c3, c4⟩ := hp4
            subst c1
            refine fin w4 _ ?_ c2 c3 c4
            rw [Int.toNat_natCast, Int.toNat_natCast]
            unfold beL
            rw [if_neg (by omega), if_neg (by omega)]
          · rw [Int.toNat_natCast, hyt]
            exact m1 (by omega)
          · dsimp only
            rw [Int.toNat_natCast, List.length_append, List.length_singleton, hyt]
            omega
          · obtain ⟨c1, c2, c3, c4⟩ := hp4
            subst c1
            refine fin w4 _ ?_ c2 c3 c4
            rw [Int.toNat_natCast, Int.toNat_natCast, hyt]
            unfold beL
            rw [if_pos (by omega)]
          · have hz : beL m ll nl (fl m ll nl) e.toNat (dnT m dn.toNat i) al.toNat j2 b.toNat c.toNat i = [] := List.length_eq_zero_iff.mp (by omega)
            refine hE (w2, (0, (j2 : Int)), (0, y)) ⟨i1.tr p3.c, p4, ?_⟩
            rw [hFi, hz, List.map_nil, List.append_nil]
            exact i3b
      refine ⟨fun h9 => (by omega), fun _ => ⟨⟨hX2.1, he0, hdn, ⟨by omega, by omega⟩⟩, fun h3 => ?_, fun h3 => ⟨⟨hX2.1.1, hX2.2.1, ha, hb, hc, ⟨by omega, by omega⟩⟩, fun h4 => ⟨by omega, fun h5 => rcc _ ?_ h3 h4, fun h5 => rcc _ ?_ h3 h4⟩, fun h4 => ?_⟩⟩⟩
      · rw [h3, Bool.false_and] at hFi
        exact skip _ _ hFi
      · unfold dnT; rw [if_neg h5]; omega
      · unfold dnT; rw [if_pos (by omega)]; omega
      · rw [h4, Bool.and_false] at hFi
        exact skip _ _ hFi
  · intro σ hI
    obtain ⟨i1, i2, i3⟩ := hI
    refine g_colWit1 (m := m) (ll := ll) (nl := nl) hm1 ?_
    rw [(hX.c i1).1.1.2.2.1.1]
    simp (disch := omega) only [w32_id]
    exact ⟨fun _ => done (nP m) σ.1 (Nat.le_refl _) i1 i2 i3 (Or.inl rfl), fun h9 => (by omega)⟩

