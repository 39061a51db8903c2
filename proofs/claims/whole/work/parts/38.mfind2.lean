/-! The model: how many readings: the recursion. -/
theorem hm1 : w32 (-1) = -1 := by decide +kernel
theorem next_of {d B : Nat} {m : eW} {ll : Nat → Int} {nl : Nat} (hW : ∀ (e dn al j a b c : Int) (w : eW) (t : eT), FWR m ll nl B e dn al j a b c w t → Cl (d + 5) 241 [rA 67, (0, e), (0, dn), (0, al), (0, j), (0, a), (0, b), (0, c)] (enc w t) (fun r S2 => ∃ x w2 t2, r = some (1, x) ∧ S2 = enc w2 t2 ∧ FWO m ll nl e dn al j a b c w t x w2 t2)) : ∀ (g al j a b c : Int) (w : eW) (t : eT), FNR m ll nl B g al j a b c w t → Cl (d + 6) 245 [rA 67, (0, g), (0, al), (0, j), (0, a), (0, b), (0, c)] (enc w t) (fun r S2 => ∃ x w2 t2, r = some (1, x) ∧ S2 = enc w2 t2 ∧ FNO m ll nl g al j a b c w t x w2 t2) := by
  intro g al j a b c w t h
  obtain ⟨hX, hK, hg, hal, hj, habc, hB⟩ := h
  obtain ⟨⟨hm, he, hx⟩, hwo, hL⟩ := hX
  have hn := hL.2.1
  have hne := he.n
  have hok : okF m nl 1 g.toNat 0 al.toNat j.toNat := ⟨by omega, by omega, fun h9 => by cases h9⟩
  have heq := fl_1 (a := a.toNat) (b := b.toNat) (c := c.toNat) (ll := ll) hm.1 he hn hok
  have hlen : (fl m ll nl 1 g.toNat 0 al.toNat j.toNat a.toNat b.toNat c.toNat).length = sm (fun e => if m 77 e = (g.toNat : Int) ∧ al.toNat + fmN m e ≤ 6 then (fl m ll nl 0 e 0 (al.toNat + fmN m e) j.toNat a.toNat b.toNat c.toNat).length else 0) (nE m) := by
    rw [heq, lsD_len]
    refine sm_congr (fun e _ => ?_)
    split
    · rw [List.length_map]
    · rfl
  generalize hF : (fun e => if m 77 e = (g.toNat : Int) ∧ al.toNat + fmN m e ≤ 6 then (fl m ll nl 0 e 0 (al.toNat + fmN m e) j.toNat a.toNat b.toNat c.toNat).length else 0) = F at hlen
  refine g_next0 ?_
  refine lq1 (fun i (σ : eW) => Ev (d + 6) 245 (fun r S2 => ∃ x w2 t2, r = some (1, x) ∧ S2 = enc w2 t2 ∧ FNO m ll nl g al j a b c w t x w2 t2) 6 [rA 67, (0, g), (0, al), (0, j), (0, a), (0, b), (0, c), (1, (sm F i : Int)), (9, 0), (0, (i : Int))] [] (enc σ t)) (fun i σ => FrT w σ ∧ KnW (PmF m ll nl) σ) (nE m) ?_ ?_ 0 w (Nat.zero_le _) ⟨FrT.rf w, hK⟩
  · intro i σ hi hI hE
    have hX2 : FCx m ll nl σ := FCx.t ⟨⟨hm, he, hx⟩, hwo, hL⟩ hI.1
    have hx2 := hX2.1.2.2
    obtain ⟨e1, e2, e3, e4⟩ := hx2.2 i hi
    obtain ⟨f1, f2, f3, f4⟩ := he.2 i hi
    have hfm := he.fm hi
    refine g_next1 (m := m) (ll := ll) (nl := nl) (D := fun _ => none) (J := (9, 0)) hm1 hW ?_
    rw [hx2.1]
    simp (disch := omega) only [w32_id, Int.toNat_natCast, e1, e3]
    have hFi : F i = (if m 77 i = (g.toNat : Int) ∧ al.toNat + fmN m i ≤ 6 then (fl m ll nl 0 i 0 (al.toNat + fmN m i) j.toNat a.toNat b.toNat c.toNat).length else 0) := by rw [← hF]
    rw [show sm F (i + 1) = sm F i + F i from rfl] at hE
    refine ⟨fun h9 => (by omega), fun _ => ⟨by omega, fun h1 => ?_, fun h1 => ⟨by omega, fun h2 => ?_, fun h2 => ⟨by omega, ⟨hX2, hI.2, ⟨by omega, by omega⟩, ⟨by decide, by rw [Int.toNat_natCast]; omega⟩, ⟨by rw [Int.toNat_natCast]; omega, by omega⟩, hj, habc, ?_⟩, fun x w2 t2 hp => ?_⟩⟩⟩⟩
    · rw [if_neg (by omega)] at hFi
      rw [hFi] at hE
      exact hE σ hI
    · rw [if_neg (by omega)] at hFi
      rw [hFi] at hE
      exact hE σ hI
    · have := mF_ne (m := m) (nl := nl) (e := i) (all := al.toNat) (j := j.toNat) hfm.1 (by omega) 0 0
      rw [Int.toNat_natCast, show (al + m 79 i).toNat = al.toNat + fmN m i by omega]
      show mF m nl 0 i 0 _ _ < B
      omega
    · obtain ⟨p1, p2, p3, p4⟩ := hp
      subst p2
      rw [if_pos (by omega)] at hFi
      have := hE w2 ⟨hI.1.tr p3, p4⟩
      rw [hFi] at this
      rw [Int.toNat_natCast, show (al + m 79 i).toNat = al.toNat + fmN m i by omega, show (0 : Int).toNat = 0 from rfl] at p1
      rw [p1, ← Int.natCast_add]
      exact this
  · intro σ hI
    have hX2 : FCx m ll nl σ := FCx.t ⟨⟨hm, he, hx⟩, hwo, hL⟩ hI.1
    refine g_next1 (m := m) (ll := ll) (nl := nl) (D := fun _ => none) (J := (9, 0)) hm1 hW ?_
    rw [hX2.1.2.2.1]
    simp (disch := omega) only [w32_id]
    exact ⟨fun _ => ⟨_, _, _, rfl, rfl, by rw [hlen], rfl, hI.1, hI.2⟩, fun h9 => (by omega)⟩
theorem behind_of {d B : Nat} {m : eW} {ll : Nat → Int} {nl : Nat} (hW : ∀ (e dn al j a b c : Int) (w : eW) (t : eT), FWR m ll nl B e dn al j a b c w t → Cl (d + 5) 241 [rA 67, (0, e), (0, dn), (0, al), (0, j), (0, a), (0, b), (0, c)] (enc w t) (fun r S2 => ∃ x w2 t2, r = some (1, x) ∧ S2 = enc w2 t2 ∧ FWO m ll nl e dn al j a b c w t x w2 t2)) : ∀ (e dn al j a b c : Int) (w : eW) (t : eT), FBR m ll nl B e dn al j a b c w t → Cl (d + 7) 243 [rA 67, (0, e), (0, dn), (0, al), (0, j), (0, a), (0, b), (0, c)] (enc w t) (fun r S2 => ∃ x w2 t2, r = some (1, x) ∧ S2 = enc w2 t2 ∧ FBO m ll nl e dn al j a b c w t x w2 t2) := by
  intro e dn al j a b c w t h
  obtain ⟨hX, hK, he0, hdn, hal, hj, habc, hB1, hB2⟩ := h
  have hXX := hX
  obtain ⟨⟨hm, he, hx⟩, hwo, hL⟩ := hX
  have hn := hL.2.1
  have hpn := hm.1.n
  have hne := he.n
  obtain ⟨e1, e2, e3, e4⟩ := hx.2 e.toNat (by omega)
  obtain ⟨f1, f2, f3, f4⟩ := he.2 e.toNat (by omega)
  have hfm := he.fm (e := e.toNat) (by omega)
  refine g_behind0 (m := m) (ll := ll) (nl := nl) (D := fun _ => none) (J := (9, 0)) hm1 hW (next_of hW) ?_
  rw [hL.1]
  simp (disch := omega) only [w32_id, e2, e3]
  have hlb : (beL m ll nl (fl m ll nl) e.toNat dn.toNat al.toNat j.toNat a.toNat b.toNat c.toNat) = if dn.toNat < fmN m e.toNat then fl m ll nl 0 e.toNat dn.toNat al.toNat j.toNat a.toNat b.toNat c.toNat else if m 78 e.toNat = -1 then enL m ll nl j.toNat a.toNat b.toNat c.toNat else fl m ll nl 1 (m 78 e.toNat).toNat 0 al.toNat j.toNat a.toNat b.toNat c.toNat := rfl
  refine ⟨by omega, fun h1 => ⟨by omega, fun h2 => ?_, fun h2 => ⟨by omega, ⟨hXX, hK, ⟨by omega, by omega⟩, ⟨by omega, by omega⟩, hj, habc, hB2 (by omega)⟩, fun x w2 t2 hp => ?_⟩⟩, fun h1 => ⟨⟨hXX, hK, he0, ⟨by omega, by omega⟩, hal, hj, habc, hB1 (by omega)⟩, fun x w2 t2 hp => ?_⟩⟩
  · rw [if_neg (by omega), if_pos h2] at hlb
    have hlen : (enL m ll nl j.toNat a.toNat b.toNat c.toNat).length = (if j.toNat = nl ∧ isE m (-1) a.toNat b.toNat c.toNat = true then 1 else 0) + sm (fun d => if isLs m ll nl j.toNat a.toNat b.toNat c.toNat d then 1 else 0) (nP m) := by
      unfold enL
      rw [List.length_append, lsD_len]
      congr 1
      · split <;> rfl
      · refine sm_congr (fun d _ => ?_)
        split <;> rfl
    generalize hF : (fun d => if isLs m ll nl j.toNat a.toNat b.toNat c.toNat d then 1 else 0) = F at hlen
    have loop : ∀ (b0 : Nat), b0 = (if j.toNat = nl ∧ isE m (-1) a.toNat b.toNat c.toNat = true then 1 else 0) → Ev (d + 7) 243 (fun r S2 => ∃ x w2 t2, r = some (1, x) ∧ S2 = enc w2 t2 ∧ FBO m ll nl e dn al j a b c w t x w2 t2) 88 [rA 67, (0, e), (0, dn), (0, al), (0, j), (0, a), (0, b), (0, c), (1, (b0 : Int)), (9, 0), (0, 0)] [] (enc w t) := by
      intro b0 hb0
      refine lp0 (fun i => Ev (d + 7) 243 (fun r S2 => ∃ x w2 t2, r = some (1, x) ∧ S2 = enc w2 t2 ∧ FBO m ll nl e dn al j a b c w t x w2 t2) 88 [rA 67, (0, e), (0, dn), (0, al), (0, j), (0, a), (0, b), (0, c), (1, (b0 : Int) + (sm F i : Int)), (9, 0), (0, (i : Int))] [] (enc w t)) (nP m) ?_ ?_ 0 (Nat.zero_le _)
      · intro i hi hE
        refine g_behind1 (m := m) (ll := ll) (nl := nl) (D := fun _ => none) (J := (9, 0)) hm1 ?_
        have hFi : F i = (if isLs m ll nl j.toNat a.toNat b.toNat c.toNat i then 1 else 0) := by rw [← hF]
        rw [show sm F (i + 1) = sm F i + F i from rfl, hFi] at hE
        rw [hm.2.2.1.1]
        simp (disch := omega) only [w32_id, Int.toNat_natCast]
        refine ⟨fun h9 => (by omega), fun _ => ⟨⟨⟨hm, he, hx⟩, hwo, hL, hj, habc.1, habc.2.1, habc.2.2, ⟨by omega, by omega⟩⟩, fun h3 => ?_, fun h3 => ?_⟩⟩
        · rw [h3] at hE
          exact hE
        · rw [h3, if_pos rfl] at hE
          rw [Int.add_assoc]
          exact hE
      · refine g_behind1 (m := m) (ll := ll) (nl := nl) (D := fun _ => none) (J := (9, 0)) hm1 ?_
        rw [hm.2.2.1.1]
        simp (disch := omega) only [w32_id]
        refine ⟨fun _ => ⟨_, _, _, rfl, rfl, ?_, rfl, FrT.rf w, hK⟩, fun h9 => (by omega)⟩
        rw [hlb, hlen, hb0]
        omega
    refine ⟨fun h3 => loop 0 ?_, fun h3 => ⟨⟨hm, hwo, habc.1, habc.2.1, habc.2.2⟩, fun h4 => loop 0 ?_, fun h4 => loop 1 ?_⟩⟩
    · rw [if_neg (by omega)]
    · rw [if_neg (fun h9 => by rw [h4] at h9; cases h9.2)]
    · rw [if_pos ⟨by omega, h4⟩]
  · obtain ⟨p1, p2, p3, p4⟩ := hp
    rw [if_neg (by omega), if_neg h2] at hlb
    exact ⟨_, _, _, rfl, rfl, by rw [p1, hlb], p2, p3, p4⟩
  · obtain ⟨p1, p2, p3, p4⟩ := hp
    rw [if_pos (by omega)] at hlb
    exact ⟨_, _, _, rfl, rfl, by rw [p1, hlb], p2, p3, p4⟩
def KyF (key : Int) (e dn al j a b c : Nat) : Prop := key = ((((e : Int) * 8 + dn) * 8 + al) * 8 + j) * 8192 + (((a : Int) * 17 + b) * 17 + c)
theorem within_of {d B : Nat} {m : eW} {ll : Nat → Int} {nl : Nat} (hBh : ∀ (e dn al j a b c : Int) (w : eW) (t : eT), FBR m ll nl B e dn al j a b c w t → Cl (d + 7) 243 [rA 67, (0, e), (0, dn), (0, al), (0, j), (0, a), (0, b), (0, c)] (enc w t) (fun r S2 => ∃ x w2 t2, r = some (1, x) ∧ S2 = enc w2 t2 ∧ FBO m ll nl e dn al j a b c w t x w2 t2)) : ∀ (e dn al j a b c : Int) (w : eW) (t : eT), FWR m ll nl (B + 1) e dn al j a b c w t → Cl (d + 8) 241 [rA 67, (0, e), (0, dn), (0, al), (0, j), (0, a), (0, b), (0, c)] (enc w t) (fun r S2 => ∃ x w2 t2, r = some (1, x) ∧ S2 = enc w2 t2 ∧ FWO m ll nl e dn al j a b c w t x w2 t2) := by
  intro e dn al j a b c w t h
  obtain ⟨hX, ⟨D, hD, hP⟩, he0, hdn, hal, hj, habc, hB⟩ := h
  have hXX := hX
  obtain ⟨⟨hm, he, hx⟩, hwo, hL⟩ := hX
  have hn := hL.2.1
  have hpn := hm.1.n
  have hne := he.n
  have hfm := he.fm (e := e.toNat) (by omega)
  obtain ⟨ha, hb, hc⟩ := habc
  have hcE : gE c := by unfold gC at hc; unfold gE; omega
  have ha' := ha
  have hb' := hb
  have hc' := hcE
  unfold gE at ha' hb' hc'
  have hok : okF m nl 0 e.toNat dn.toNat al.toNat j.toNat := ⟨by omega, by omega, fun _ => ⟨by omega, by omega⟩⟩
  have heq := fl_0 (a := a.toNat) (b := b.toNat) (c := c.toNat) (ll := ll) hm.1 he hn hok (by omega)
  have hlen : (fl m ll nl 0 e.toNat dn.toNat al.toNat j.toNat a.toNat b.toNat c.toNat).length = sm (fun d => match loT m ll nl j.toNat d with
      | none => 0
      | some j2 => if isFm m e.toNat dn.toNat d && goes m (-1) a.toNat b.toNat c.toNat d then (beL m ll nl (fl m ll nl) e.toNat (dnT m dn.toNat d) al.toNat j2 b.toNat c.toNat d).length else 0) (nP m) := by
    rw [heq, lsD_len]
    refine sm_congr (fun d _ => ?_)
    cases loT m ll nl j.toNat d with
    | none => rfl
    | some j2 =>
      dsimp only
      split
      · rw [List.length_map]
      · rfl
  generalize hF : (fun d => match loT m ll nl j.toNat d with
      | none => 0
      | some j2 => if isFm m e.toNat dn.toNat d && goes m (-1) a.toNat b.toNat c.toNat d then (beL m ll nl (fl m ll nl) e.toNat (dnT m dn.toNat d) al.toNat j2 b.toNat c.toNat d).length else 0) = F at hlen
  refine g_within0 (m := m) (ll := ll) (nl := nl) (D := D) (J := (9, 0)) hm1 ?_
  have hkr : 0 ≤ ((((e * 8 + dn) * 8 + al) * 8 + j) * 8192) + ((a * 17 + b) * 17 + c) ∧ ((((e * 8 + dn) * 8 + al) * 8 + j) * 8192) + ((a * 17 + b) * 17 + c) ≤ 2147483647 := by omega
  have hkey : KyF (((((e * 8 + dn) * 8 + al) * 8 + j) * 8192) + ((a * 17 + b) * 17 + c)) e.toNat dn.toNat al.toNat j.toNat a.toNat b.toNat c.toNat := by
    unfold KyF
    omega
  generalize ((((e * 8 + dn) * 8 + al) * 8 + j) * 8192) + ((a * 17 + b) * 17 + c) = key at hkr hkey ⊢
  refine ⟨⟨hD, hkr⟩, fun h1 => ?_, fun h1 => ⟨⟨hD, hkr, h1⟩, ?_⟩⟩
  · refine lq1 (fun i (σ : eW × aV) => Ev (d + 8) 241 (fun r S2 => ∃ x w2 t2, r = some (1, x) ∧ S2 = enc w2 t2 ∧ FWO m ll nl e dn al j a b c w t x w2 t2) 55 [rA 67, (0, e), (0, dn), (0, al), (0, j), (0, a), (0, b), (0, c), (0, key), (1, (sm F i : Int)), (9, 0), (0, (i : Int)), σ.2] [] (enc σ.1 t)) (fun i σ => FrT w σ.1 ∧ KnW (PmF m ll nl) σ.1) (nP m) ?_ ?_ 0 (w, (9, 0)) (Nat.zero_le _) ⟨FrT.rf w, D, hD, hP⟩
    · intro i σ hi hI hE
      have hX2 : FCx m ll nl σ.1 := hXX.t hI.1
      have g1 := (hX2.1.1.2.2.1.2 i hi).1
      have b1 := (hm.1.2.1 i hi).1
      refine g_within1 (m := m) (ll := ll) (nl := nl) (D := D) hm1 hBh ?_
      have hFi : F i = (match loT m ll nl j.toNat i with
        | none => 0
        | some j2 => if isFm m e.toNat dn.toNat i && goes m (-1) a.toNat b.toNat c.toNat i then (beL m ll nl (fl m ll nl) e.toNat (dnT m dn.toNat i) al.toNat j2 b.toNat c.toNat i).length else 0) := by rw [← hF]
      rw [show sm F (i + 1) = sm F i + F i from rfl] at hE
      rw [hX2.1.1.2.2.1.1]
      simp (disch := omega) only [w32_id, Int.toNat_natCast, g1]
      refine ⟨fun h9 => (by omega), fun _ => ⟨⟨hX2.1.1, hX2.2.2, hj, ⟨by omega, by omega⟩⟩, ?_⟩⟩
      cases hl : loT m ll nl j.toNat i with
      | none =>
        rw [hl] at hFi
        dsimp only at hFi
        rw [hFi] at hE
        exact ⟨fun _ => hE (σ.1, (0, oI none)) hI, fun h9 => absurd rfl h9⟩
      | some j2 =>
        rw [hl] at hFi
        dsimp only at hFi
        have hjl := loT_le (m := m) (by omega) hl
        have hjj := loT_j hl (by omega)
        have hbe := mF_be (all := al.toNat) hm.1 hi (show j.toNat ≤ nl by omega) (show dn.toNat < fmN m e.toNat by omega) hl
        simp (disch := omega) only [oI_s, w32_id]
        have rcc : ∀ (y : Int), y = (dnT m dn.toNat i : Int) → isFm m e.toNat dn.toNat i = true → goes m (-1) a.toNat b.toNat c.toNat i = true → (FBR m ll nl B e y al (j2 : Int) b c (i : Int) σ.1 t ∧ ∀ x w2 t2, FBO m ll nl e y al (j2 : Int) b c (i : Int) σ.1 t x w2 t2 → Ev (d + 8) 241 (fun r S2 => ∃ x w2 t2, r = some (1, x) ∧ S2 = enc w2 t2 ∧ FWO m ll nl e dn al j a b c w t x w2 t2) 55 [rA 67, (0, e), (0, dn), (0, al), (0, j), (0, a), (0, b), (0, c), (0, key), (1, (sm F i : Int) + x), (9, 0), (0, (i : Int) + 1), (0, (j2 : Int))] [] (enc w2 t2)) := by
          intro y hy hfm2 hg
          have hdle : dnT m dn.toNat i ≤ fmN m e.toNat := by unfold dnT; split <;> omega
          refine ⟨⟨hX2, hI.2, he0, ⟨by omega, by omega⟩, hal, ⟨by omega, by omega⟩, ⟨hb, hcE, ⟨by omega, by omega⟩⟩, fun h9 => ?_, fun h9 => ?_⟩, fun x w2 t2 hp => ?_⟩
          · have := hbe.1 (by omega)
            rw [hy, Int.toNat_natCast, Int.toNat_natCast]
            omega
          · have := hbe.2 (by omega) 0 0
            rw [Int.toNat_natCast]
            omega
          · obtain ⟨p1, p2, p3, p4⟩ := hp
            subst p2
            rw [hfm2, hg] at hFi
            rw [hy, Int.toNat_natCast, Int.toNat_natCast, Int.toNat_natCast] at p1
            have := hE (w2, (0, (j2 : Int))) ⟨hI.1.tr p3, p4⟩
            rw [hFi, if_pos (by decide)] at this
            rw [p1, ← Int.natCast_add]
            exact this
        refine ⟨fun h9 => (by omega), fun _ => ⟨⟨hX2.1, he0, hdn, ⟨by omega, by omega⟩⟩, fun h3 => ?_, fun h3 => ⟨⟨hX2.1.1, hX2.2.1, ha, hb, hc, ⟨by omega, by omega⟩⟩, fun h4 => ⟨by omega, fun h5 => rcc _ ?_ h3 h4, fun h5 => rcc _ ?_ h3 h4⟩, fun h4 => ?_⟩⟩⟩
        · rw [h3, Bool.false_and] at hFi
          rw [hFi] at hE
          exact hE (σ.1, (0, (j2 : Int))) hI
        · unfold dnT; rw [if_neg h5]; omega
        · unfold dnT; rw [if_pos (by omega)]; omega
        · rw [h4, Bool.and_false] at hFi
          rw [hFi] at hE
          exact hE (σ.1, (0, (j2 : Int))) hI
    · intro σ hI
      obtain ⟨D2, hD2, hP2⟩ := hI.2
      have hX2 : FCx m ll nl σ.1 := hXX.t hI.1
      refine g_within1 (m := m) (ll := ll) (nl := nl) (D := D2) hm1 hBh ?_
      rw [hX2.1.1.2.2.1.1]
      simp (disch := omega) only [w32_id]
      refine ⟨fun _ => ⟨⟨hD2, hkr⟩, fun w1 h1 => ⟨_, w1, t, rfl, rfl, by rw [hlen], rfl, hI.1.tr h1.1, ?_⟩⟩, fun h9 => (by omega)⟩
      refine KnW.learn hP2 ?_ h1.2.2
      intro e2 dn2 al2 j2 a2 b2 c2 k1 k2 k3 k4 k5 k6 k7
      unfold KyF at hkey
      rw [hkey] at k7
      obtain ⟨rfl, rfl, rfl, rfl, rfl, rfl, rfl⟩ := kF_inj (by omega) (by omega) (by omega) (by omega) (by omega) (by omega) k1 k2 k3 k4 k5 k6 k7
      rw [hlen]
  · cases hDk : D key with
    | none => rw [hDk] at h1; cases h1
    | some v =>
      have := hP _ v hkr.1 hDk e.toNat dn.toNat al.toNat j.toNat a.toNat b.toNat c.toNat (by omega) (by omega) (by omega) (by omega) (by omega) (by omega) hkey
      exact ⟨_, w, t, rfl, rfl, this, rfl, FrT.rf w, D, hD, hP⟩

