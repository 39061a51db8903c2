/-! The model: the first readings. -/
theorem FCx.c {m : eW} {ll : Nat → Int} {nl : Nat} {w w2 : eW} (h : FCx m ll nl w) (hf : FrC w w2) : FCx m ll nl w2 := ⟨h.1.m hf.m (by decide) (by decide), by rw [hf.2 35 (by decide) (by decide) (by decide) (by decide)]; exact h.2.1, h.2.2.m hf.m (by decide) (by decide)⟩
theorem WdM.fr {w w2 : eW} {el : List Nat} (h : WdM w el) (h0 : w2 67 42 = w 67 42) (h1 : w2 95 = w 95) : WdM w2 el := by
  unfold WdM at *
  rw [h0, h1]
  exact h
theorem gOK.t {g : gT} {w w2 : eW} (h : gOK g w) (hf : FrT w w2) : gOK g w2 := ⟨h.1.fr (hf.2 17 (by decide)) (fun a a1 a2 => hf.1 a (by omega) (by omega) (by omega)), h.2.1.fr (hf.2 40 (by decide)) (hf.1 94 (by decide) (by decide) (by decide)), h.2.2.fr (hf.2 42 (by decide)) (hf.1 95 (by decide) (by decide) (by decide))⟩
theorem gOK.lay {ks : kT} {ml el : List Nat} {w : eW} {i : Nat} (h : gOK (ks, ml, el) w) (hl : ml.length < 16) : gOK (ks, ml ++ [i], el) (wu (wu w 94 ml.length (i : Int)) 67 40 ((ml.length : Int) + 1)) := ⟨h.1.fr (by rw [wu_nk _ _ (by decide), wu_row (by decide)]) (fun a a1 a2 => by rw [wu_row (by omega), wu_row (by omega)]), h.2.1.lay hl, h.2.2.fr (by rw [wu_nk _ _ (by decide), wu_row (by decide)]) (by rw [wu_row (by decide), wu_row (by decide)])⟩
theorem getD_app {l : List Nat} {x k : Nat} (h : k < l.length) : (l ++ [x]).getD k 0 = l.getD k 0 := by
  simp [List.getD_eq_getElem?_getD, List.getElem?_append_left h]
theorem gOK.dec {ks : kT} {ml el : List Nat} {w : eW} {i : Nat} (h : gOK (ks, ml ++ [i], el) w) : gOK (ks, ml, el) (wu w 67 40 (w 67 40 - 1)) := by
  unfold gOK at *
  dsimp only at *
  obtain ⟨h1, h2, h3⟩ := h
  have hl : w 67 40 = ((ml ++ [i]).length : Int) := h2.1
  have h16 := h2.2.1
  rw [List.length_append, List.length_singleton] at hl h16
  refine ⟨h1.fr (wu_nk _ _ (by decide)) (fun a a1 a2 => wu_row (by omega)), ⟨by rw [wu_eq]; omega, by omega, fun k hk => ?_⟩, h3.fr (wu_nk _ _ (by decide)) (wu_row (by decide))⟩
  rw [wu_row (by decide), h2.2.2 k (by rw [List.length_append]; omega), getD_app hk]
theorem gOK.word {ks : kT} {ml el : List Nat} {w : eW} {i : Nat} (h : gOK (ks, ml, el) w) (hl : el.length < 6) : gOK (ks, ml, el ++ [i]) (wu (wu w 95 el.length (i : Int)) 67 42 ((el.length : Int) + 1)) := by
  unfold gOK at *
  dsimp only at *
  obtain ⟨h1, h2, h3⟩ := h
  refine ⟨h1.fr (by rw [wu_nk _ _ (by decide), wu_row (by decide)]) (fun a a1 a2 => by rw [wu_row (by omega), wu_row (by omega)]), h2.fr (by rw [wu_nk _ _ (by decide), wu_row (by decide)]) (by rw [wu_row (by decide), wu_row (by decide)]), ⟨?_, by rw [List.length_append, List.length_singleton]; omega, fun k hk => ?_⟩⟩
  · rw [wu_eq, List.length_append, List.length_singleton]; rfl
  · rw [wu_row (by decide)]
    rw [List.length_append, List.length_singleton] at hk
    by_cases hkl : k = el.length
    · subst hkl
      rw [wu_eq]
      simp [List.getD_eq_getElem?_getD]
    · rw [wu_nk _ _ hkl, h3.2.2 k (by omega), getD_app (by omega)]
theorem gOK.unword {ks : kT} {ml el : List Nat} {w : eW} {i : Nat} (h : gOK (ks, ml, el ++ [i]) w) : gOK (ks, ml, el) (wu w 67 42 (w 67 42 - 1)) := by
  unfold gOK at *
  dsimp only at *
  obtain ⟨h1, h2, h3⟩ := h
  have hl : w 67 42 = ((el ++ [i]).length : Int) := h3.1
  have h16 := h3.2.1
  rw [List.length_append, List.length_singleton] at hl h16
  refine ⟨h1.fr (wu_nk _ _ (by decide)) (fun a a1 a2 => wu_row (by omega)), h2.fr (wu_nk _ _ (by decide)) (wu_row (by decide)), ⟨by rw [wu_eq]; omega, by omega, fun k hk => ?_⟩⟩
  rw [wu_row (by decide), h3.2.2 k (by rw [List.length_append]; omega), getD_app hk]
theorem FrC.word {w : eW} {k : Nat} {v u : Int} : FrC w (wu (wu w 95 k v) 67 42 u) := ⟨fun a h1 _ _ _ _ h6 => by rw [wu_row h1, wu_row h6], fun j _ _ _ h4 => by rw [wu_nk _ _ h4, wu_row (by decide)]⟩
theorem FrC.unword {w : eW} {u : Int} : FrC w (wu w 67 42 u) := ⟨fun a h1 _ _ _ _ _ => by rw [wu_row h1], fun j _ _ _ h4 => by rw [wu_nk _ _ h4]⟩
theorem KnW.lay {P : Int → Int → Prop} {w : eW} {k : Nat} {v u : Int} (h : KnW P w) : KnW P (wu (wu w 94 k v) 67 40 u) := h.fr (by rw [wu_row (by decide), wu_row (by decide)]) (by rw [wu_row (by decide), wu_row (by decide)]) (by rw [wu_nk _ _ (by decide), wu_row (by decide)])
theorem KnW.word {P : Int → Int → Prop} {w : eW} {k : Nat} {v u : Int} (h : KnW P w) : KnW P (wu (wu w 95 k v) 67 42 u) := h.fr (by rw [wu_row (by decide), wu_row (by decide)]) (by rw [wu_row (by decide), wu_row (by decide)]) (by rw [wu_nk _ _ (by decide), wu_row (by decide)])
theorem KnW.fld {P : Int → Int → Prop} {w : eW} {k : Nat} {u : Int} (h : KnW P w) (hk : k ≠ 38) : KnW P (wu w 67 k u) := h.fr (wu_row (by decide)) (wu_row (by decide)) (wu_nk _ _ (fun h9 => hk h9.symm))
theorem gOK.keep {ks : kT} {ml el : List Nat} {x : List Nat × List Nat} {w w2 : eW} (h : gOK (ks, ml, el) w) (hf : FrK w w2) (hk : KM w2 ((ks ++ [x]).take 20)) : gOK ((ks ++ [x]).take 20, ml, el) w2 := ⟨hk, h.2.1.fr (hf.2 40 (by decide)) (hf.1 94 (by decide) (by decide)), h.2.2.fr (hf.2 42 (by decide)) (hf.1 95 (by decide) (by decide))⟩
theorem tk_more {α : Type} {A B : List α} (h : (A.take 20).length = 20) : (A ++ B).take 20 = A.take 20 := by
  rw [List.length_take] at h
  exact List.take_append_of_le_length (by omega)
theorem lsD_pre {α : Type} (F : Nat → List α) {i n : Nat} (h : i ≤ n) : ∃ L, lsD F n = lsD F i ++ L := by
  obtain ⟨j, rfl⟩ : ∃ j, n = i + j := ⟨n - i, by omega⟩
  clear h
  induction j with
  | zero => exact ⟨[], by simp⟩
  | succ j ihj =>
    obtain ⟨L, hL⟩ := ihj
    exact ⟨L ++ F (i + j), by rw [← Nat.add_assoc]; show lsD F (i + j) ++ F (i + j) = _; rw [hL, List.append_assoc]⟩
def adF (g : gT) (L : fT) : gT := ((g.1 ++ L.map (fun x => (g.2.1 ++ x.1, g.2.2 ++ x.2))).take 20, g.2)
theorem adF_app (g : gT) (L L2 : fT) : adF (adF g L) L2 = adF g (L ++ L2) := by
  unfold adF
  dsimp only
  rw [tk20, List.map_append, List.append_assoc]
theorem adF_nil {g : gT} (h : g.1.length ≤ 20) : adF g [] = g := by
  unfold adF
  rw [List.map_nil, List.append_nil, List.take_of_length_le h]
theorem adF_full {g : gT} {L L2 : fT} (h : (adF g L).1.length = 20) : adF g (L ++ L2) = adF g L := by
  unfold adF at *
  dsimp only at h
  rw [List.map_append, ← List.append_assoc, tk_more h]
def CWR (m : eW) (ll : Nat → Int) (nl B : Nat) (g : gT) (e dn al j a b c : Int) (w : eW) (t : eT) : Prop := FWR m ll nl B e dn al j a b c w t ∧ gOK g w ∧ g.2.1.length + ((fmN m e.toNat - dn.toNat) + (6 - al.toNat) + (nl - j.toNat)) ≤ 13 ∧ g.2.2 ≠ [] ∧ (g.2.2.length : Int) ≤ al
def CWO (m : eW) (ll : Nat → Int) (nl : Nat) (g : gT) (e dn al j a b c : Int) (w : eW) (t : eT) (w2 : eW) (t2 : eT) : Prop := t2 = t ∧ FrC w w2 ∧ KnW (PmF m ll nl) w2 ∧ gOK (adF g (fl m ll nl 0 e.toNat dn.toNat al.toNat j.toNat a.toNat b.toNat c.toNat)) w2
def CER (m : eW) (ll : Nat → Int) (nl B : Nat) (g : gT) (gr al j a b c : Int) (w : eW) (t : eT) : Prop := FNR m ll nl B gr al j a b c w t ∧ gOK g w ∧ g.2.1.length + ((6 - al.toNat) + (nl - j.toNat)) ≤ 13 ∧ (g.2.2.length : Int) ≤ al
def CEO (m : eW) (ll : Nat → Int) (nl : Nat) (g : gT) (gr al j a b c : Int) (w : eW) (t : eT) (w2 : eW) (t2 : eT) : Prop := t2 = t ∧ FrC w w2 ∧ KnW (PmF m ll nl) w2 ∧ gOK (adF g (fl m ll nl 1 gr.toNat 0 al.toNat j.toNat a.toNat b.toNat c.toNat)) w2
def CNR (m : eW) (ll : Nat → Int) (nl : Nat) (g : gT) (j a b c : Int) (w : eW) (_ : eT) : Prop := FCx m ll nl w ∧ KnW (PmF m ll nl) w ∧ gOK g w ∧ (0 ≤ j ∧ j ≤ nl) ∧ gABC m a b c ∧ g.2.1.length + (nl - j.toNat) ≤ 13 ∧ g.2.2 ≠ []
def CNO (m : eW) (ll : Nat → Int) (nl : Nat) (g : gT) (j a b c : Int) (w : eW) (t : eT) (w2 : eW) (t2 : eT) : Prop := t2 = t ∧ FrC w w2 ∧ KnW (PmF m ll nl) w2 ∧ gOK (adF g (enL m ll nl j.toNat a.toNat b.toNat c.toNat)) w2
theorem adF_1 (ks : kT) (ml el p : List Nat) : adF (ks, ml, el) [(p, [])] = ((ks ++ [(ml ++ p, el)]).take 20, ml, el) := by
  unfold adF
  simp
theorem gOK.le {g : gT} {w : eW} (h : gOK g w) : g.1.length ≤ 20 := h.1.2.1
theorem c_colEnd {d : Nat} {m : eW} {ll : Nat → Int} {nl : Nat} : ∀ (g : gT) (j a b c : Int) (w : eW) (t : eT), CNR m ll nl g j a b c w t → Cl (d + 6) 247 [rA 67, (0, j), (0, a), (0, b), (0, c)] (enc w t) (fun r S2 => ∃ w2 t2, r = none ∧ S2 = enc w2 t2 ∧ CNO m ll nl g j a b c w t w2 t2) := by
  intro g j a b c w t h
  obtain ⟨hX, hK, hG, hj, ⟨ha, hb, hc⟩, hlen, hne⟩ := h
  have hn := hX.2.2.2.1
  have hpn := hX.1.1.1.n
  obtain ⟨ks, ml, el⟩ := g
  dsimp only at hlen hne
  have hen : enL m ll nl j.toNat a.toNat b.toNat c.toNat = (if j.toNat = nl ∧ isE m (-1) a.toNat b.toNat c.toNat = true then [([], [])] else []) ++ lsD (fun d => if isLs m ll nl j.toNat a.toNat b.toNat c.toNat d then [([d], [])] else []) (nP m) := rfl
  generalize hF : (fun d => if isLs m ll nl j.toNat a.toNat b.toNat c.toNat d then [(([d], []) : List Nat × List Nat)] else []) = F at hen
  have loop : ∀ (b0 : fT) (w0 : eW), b0 = (if j.toNat = nl ∧ isE m (-1) a.toNat b.toNat c.toNat = true then [([], [])] else []) → FrC w w0 → KnW (PmF m ll nl) w0 → gOK (adF (ks, ml, el) b0) w0 → Ev (d + 6) 247 (fun r S2 => ∃ w2 t2, r = none ∧ S2 = enc w2 t2 ∧ CNO m ll nl (ks, ml, el) j a b c w t w2 t2) 27 [rA 67, (0, j), (0, a), (0, b), (0, c), (0, 0)] [] (enc w0 t) := by
    intro b0 w0 hb0 q1 q2 q3
    refine lq1 (fun i (σ : eW) => Ev (d + 6) 247 (fun r S2 => ∃ w2 t2, r = none ∧ S2 = enc w2 t2 ∧ CNO m ll nl (ks, ml, el) j a b c w t w2 t2) 27 [rA 67, (0, j), (0, a), (0, b), (0, c), (0, (i : Int))] [] (enc σ t)) (fun i σ => FrC w σ ∧ KnW (PmF m ll nl) σ ∧ gOK (adF (ks, ml, el) (b0 ++ lsD F i)) σ) (nP m) ?_ ?_ 0 w0 (Nat.zero_le _) ⟨q1, q2, by rw [show lsD F 0 = [] from rfl, List.append_nil]; exact q3⟩
    · intro i σ hi hI hE
      obtain ⟨i1, i2, i3⟩ := hI
      have hX2 := hX.c i1
      have hFi : F i = (if isLs m ll nl j.toNat a.toNat b.toNat c.toNat i then [([i], [])] else []) := by rw [← hF]
      rw [show lsD F (i + 1) = lsD F i ++ F i from rfl] at hE
      refine g_colEnd1 (m := m) (ll := ll) (nl := nl) (J := (9, 0)) (J2 := (9, 0)) hm1 ?_
      have i3' : gOK ((adF (ks, ml, el) (b0 ++ lsD F i)).1, ml, el) σ := i3
      have hml : σ 67 40 = (ml.length : Int) := i3'.2.1.1
      have hml2 : ml.length ≤ 16 := i3'.2.1.2.1
      rw [hX2.1.1.2.2.1.1, hml]
      simp (disch := omega) only [w32_id, Int.toNat_natCast]
      refine ⟨fun h9 => (by omega), fun _ => ⟨⟨hX2.1, hX2.2.1, hX2.2.2, hj, ha, hb, hc, ⟨by omega, by omega⟩⟩, fun h3 => ⟨by omega, ((adF (ks, ml, el) (b0 ++ lsD F i)).1, ml ++ [i], el), ⟨(i3'.lay (by omega)).1, (i3'.lay (by omega)).2.1, (i3'.lay (by omega)).2.2, hne⟩, fun w2 hp => ?_⟩, fun h3 => ?_⟩⟩
      · obtain ⟨p1, p2⟩ := hp
        dsimp only at p2
        have hlay := i3'.lay (i := i) (by omega)
        have hkp := (hlay.keep p1 p2).dec
        have hfr : FrC σ (wu w2 67 40 (w2 67 40 - 1)) := (FrC.lay (w := σ)).tr (p1.c.tr FrC.dec)
        refine hE _ ⟨i1.tr hfr, ?_, ?_⟩
        · exact KnW.fld (i2.lay.fr (p1.1 92 (by decide) (by decide)) (p1.1 93 (by decide) (by decide)) (p1.2 38 (by decide))) (by decide)
        · rw [hFi, h3, if_pos rfl, ← List.append_assoc, ← adF_app]
          have e1 := adF_1 (adF (ks, ml, el) (b0 ++ lsD F i)).1 ml el [i]
          have e2 : ((adF (ks, ml, el) (b0 ++ lsD F i)).1, ml, el) = adF (ks, ml, el) (b0 ++ lsD F i) := rfl
          rw [e2] at e1
          rw [e1]
          exact hkp
      · rw [hFi, h3] at hE
        refine hE σ ⟨i1, i2, ?_⟩
        rw [if_neg (by decide), List.append_nil]
        exact i3
    · intro σ hI
      obtain ⟨i1, i2, i3⟩ := hI
      refine g_colEnd1 (m := m) (ll := ll) (nl := nl) (J := (9, 0)) (J2 := (9, 0)) hm1 ?_
      rw [(hX.c i1).1.1.2.2.1.1]
      simp (disch := omega) only [w32_id]
      refine ⟨fun _ => ⟨_, _, by trivial, rfl, rfl, i1, i2, ?_⟩, fun h9 => (by omega)⟩
      rw [hen, ← hb0]
      exact i3
  refine g_colEnd0 (m := m) (ll := ll) (nl := nl) (J := (9, 0)) (J2 := (9, 0)) hm1 ?_
  rw [hX.2.2.1]
  simp (disch := omega) only [w32_id]
  have hnil : gOK (adF (ks, ml, el) []) w := by rw [adF_nil hG.le]; exact hG
  refine ⟨fun h3 => loop [] w ?_ (FrC.rf w) hK hnil, fun h3 => ⟨⟨hX.1.1, hX.2.1, ha, hb, hc⟩, fun h4 => loop [] w ?_ (FrC.rf w) hK hnil, fun h4 => ⟨(ks, ml, el), ⟨hG.1, hG.2.1, hG.2.2, hne⟩, fun w2 hp => loop [([], [])] w2 ?_ hp.1.c (hK.fr (hp.1.1 92 (by decide) (by decide)) (hp.1.1 93 (by decide) (by decide)) (hp.1.2 38 (by decide))) ?_⟩⟩⟩
  · rw [if_neg (by omega)]
  · rw [if_neg (fun h9 => by rw [h4] at h9; cases h9.2)]
  · rw [if_pos ⟨by omega, h4⟩]
  · rw [adF_1, List.append_nil]
    exact hG.keep hp.1 hp.2

