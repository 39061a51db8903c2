/-! The class: goOnWith (2). -/

def gwF (D : Nat) (w w1 : eW) : Prop := Fc [34, 35] [] w w1 ∧ (∀ j, j < 80 * (D + 1) → w1 34 j = w 34 j) ∧ ∀ j, j < 4 * (D + 1) → w1 35 j = w 35 j
def gwI (m : eW) (s : (Nat → Nat) × (Nat → Nat → Nat)) (c D e k : Nat) (w w1 : eW) : Prop := gwF D w w1 ∧ (∀ g, g < 4 → w1 35 (4 * (D + 1) + g) = ((sm (fun f => if m 78 f = (g : Int) then nsp m s c f (fmN m f - 1) else 0) e : Nat) : Int)) ∧ (∀ f j, f < nE m → j < fmN m f → (f < e ∨ (f = e ∧ j < k)) → w1 34 (80 * (D + 1) + (5 * f + j)) = (nsp m s c f j : Int))
theorem gwI.put {m : eW} {s : (Nat → Nat) × (Nat → Nat → Nat)} {c D e k : Nat} {w w1 : eW} {v : Int} (h : gwI m s c D e k w w1) (he : WFe m) (hv : v = (nsp m s c e k : Int)) : gwI m s c D e (k + 1) w (wu w1 34 (80 * (D + 1) + (5 * e + k)) v) := by
  obtain ⟨⟨f1, f2, f3⟩, h2, h3⟩ := h
  refine ⟨⟨f1.tr (Fc.pr (by decide)), fun j hj => ?_, fun j hj => ?_⟩, fun g hg => ?_, fun f j h4 h5 h6 => ?_⟩
  · rw [wu_nk _ _ (by omega)]; exact f2 j hj
  · rw [wu_na _ _ (by decide)]; exact f3 j hj
  · rw [wu_na _ _ (by decide)]; exact h2 g hg
  · have := (he.fm h4).2.1
    by_cases h7 : f = e ∧ j = k
    · rw [h7.1, h7.2, wu_eq, hv]
    · by_cases h8 : 5 * f + j = 5 * e + k
      · exfalso; omega
      · rw [wu_nk _ _ (by omega)]; exact h3 f j h4 h5 (by omega)
theorem c_gw31 {d D c : Nat} {w m : eW} {t : eT} {s : (Nat → Nat) × (Nat → Nat → Nat)} (hX : XC w m) (he : WFe m) (hT : TwD w m D s) (hD : D ≤ 2) (hc : c < 27) : Cl (d + 1) 31 [rA 28, (0, (D : Int)), (0, (c : Int) + 1)] (enc w t) (fun r S2 => ∃ w2, r = none ∧ S2 = enc w2 t ∧ gwF D w w2 ∧ TwD w2 m (D + 1) (nxs m s c)) := by
  have hn := he.nE16
  have hTw : ∀ w1, gwF D w w1 → TwD w1 m D s := fun w1 hF => ⟨fun g hg => by rw [hF.2.2 _ (by omega)]; exact hT.1 g hg, fun e k h1 h2 => by have := (he.fm h1).2.1; rw [hF.2.1 _ (by omega)]; exact hT.2 e k h1 h2⟩
  have hXf : ∀ w1, Fc [34, 35] [] w w1 → XC w1 m := fun w1 h => hX.fc h (by decide) rfl
  have inner : ∀ (Q : Option aV → aS → Prop) (e : Nat), e < nE m → (∀ w1 J1 J2, gwI m s c D (e + 1) 0 w w1 → Ev (d + 1) 31 Q 43 [rA 28, (0, (D : Int)), (0, (c : Int) + 1), (0, ((D : Int) + 1) * 80), (0, ((D : Int) + 1) * 4), (0, (e : Int) + 1), J1, J2] [] (enc w1 t)) → ∀ (q k : Nat) (w1 : eW) (J2 : aV), k + q = fmN m e → gwI m s c D e k w w1 → Ev (d + 1) 31 Q 55 [rA 28, (0, (D : Int)), (0, (c : Int) + 1), (0, ((D : Int) + 1) * 80), (0, ((D : Int) + 1) * 4), (0, (e : Int)), (0, (k : Int)), J2] [] (enc w1 t) := by
    intro Q e hx hE q
    have hfm := he.fm hx
    have hw := he.2 e hx
    induction q with
    | zero =>
      intro k w1 J2 hk hI
      obtain ⟨x1, x2, x3, x4⟩ := (hXf w1 hI.1.1).2 e hx
      obtain ⟨⟨f1, f2, f3⟩, h2, h3⟩ := hI
      have hJ : gwI m s c D e (k) w w1 := ⟨⟨f1, f2, f3⟩, h2, h3⟩
      have hsp : w1 34 (w32 ((((D : Int) + 1) * 80 + (e : Int) * 5) + (fmN m e : Int) - 1)).toNat = (nsp m s c e (fmN m e - 1) : Int) := by
        rw [w32_id (by omega), ← h3 e (fmN m e - 1) hx (by omega) (Or.inr ⟨rfl, by omega⟩)]
        congr 1
        omega
      refine g_gw3 (m := m) (s := s) (D := D) ?_
      rw [w32_id (x := (e : Int)) (by omega), Int.toNat_natCast, x2, x3, ← hfm.2.2]
      refine ⟨by omega, fun _ => ⟨by omega, fun h8 => ?_, fun h8 => ⟨by omega, by rw [w32_id (by omega)]; omega, by omega, by rw [w32_id (by omega)]; omega, by rw [w32_id (by omega)]; omega, ?_⟩⟩, fun h8 => absurd (by rw [w32_id (by omega), w32_id (by omega)]; omega) h8⟩
      · rw [w32_id (by omega), w32_id (by omega)] at h8
        refine hE w1 _ _ ⟨⟨f1, f2, f3⟩, fun g hg => ?_, fun f j h4 h5 h6 => h3 f j h4 h5 (by by_cases h7 : f = e; (rw [h7] at h5; exact Or.inr ⟨h7, by omega⟩); exact Or.inl (by omega))⟩
        rw [h2 g hg]
        show _ = ((sm (fun f => if m 78 f = (g : Int) then nsp m s c f (fmN m f - 1) else 0) e + (if m 78 e = (g : Int) then nsp m s c e (fmN m e - 1) else 0) : Nat) : Int)
        rw [if_neg (by omega), Nat.add_zero]
      · rw [w32_id (by omega), w32_id (by omega)] at h8
        rw [hsp, w32_id (x := ((D : Int) + 1) * 4 + m 78 e) (by omega), show (((D : Int) + 1) * 4 + m 78 e).toNat = 4 * (D + 1) + (m 78 e).toNat by omega, h2 (m 78 e).toNat (by omega)]
        refine hE _ _ _ ⟨⟨f1.tr (Fc.pr (by decide)), fun j hj => by rw [wu_na _ _ (by decide)]; exact f2 j hj, fun j hj => by rw [wu_nk _ _ (by omega)]; exact f3 j hj⟩, fun g hg => ?_, fun f j h4 h5 h6 => ?_⟩
        · show _ = ((sm (fun f => if m 78 f = (g : Int) then nsp m s c f (fmN m f - 1) else 0) e + (if m 78 e = (g : Int) then nsp m s c e (fmN m e - 1) else 0) : Nat) : Int)
          by_cases h7 : g = (m 78 e).toNat
          · rw [if_pos (by omega), ← h7, wu_eq]
            rfl
          · rw [if_neg (by omega), Nat.add_zero, wu_nk _ _ (by omega)]
            exact h2 g hg
        · rw [wu_na _ _ (by decide)]
          exact h3 f j h4 h5 (by by_cases h7 : f = e; (rw [h7] at h5; exact Or.inr ⟨h7, by omega⟩); exact Or.inl (by omega))
    | succ q ih =>
      intro k w1 J2 hk hI
      obtain ⟨x1, x2, x3, x4⟩ := (hXf w1 hI.1.1).2 e hx
      have hfo := fo_lt he hx (j := k) (by omega)
      have hform : w1 32 (w32 ((e : Int) * 5 + (k : Int))).toNat = ((fo m e k + 1 : Nat) : Int) := by
        rw [w32_id (by omega), show ((e : Int) * 5 + (k : Int)).toNat = 5 * e + k by omega, x4 k (by omega)]
        have := (hw.2.2.2 k (by omega)).1
        unfold fo
        omega
      have hidx : (w32 (((D : Int) + 1) * 80 + ((e : Int) * 5 + (k : Int)))).toNat = 80 * (D + 1) + (5 * e + k) := by
        rw [w32_id (by omega)]; omega
      refine g_gw3 (m := m) (s := s) (D := D) ?_
      rw [w32_id (x := (e : Int)) (by omega), Int.toNat_natCast, Int.toNat_natCast, x3, ← hfm.2.2, hform, hidx, w32_id (x := ((fo m e k + 1 : Nat) : Int)) (by omega), w32_id (x := (c : Int) + 1) (by omega)]
      refine ⟨by omega, fun h8 => absurd h8 (by rw [w32_id (by omega), w32_id (by omega)]; omega), fun _ => ⟨by rw [w32_id (by omega)]; omega, fun h7 => ⟨by rw [w32_id (by omega)]; omega, ih (k + 1) _ _ (by omega) (hI.put he ?_)⟩, fun h7 => ⟨⟨⟨hXf w1 hI.1.1, he, hTw w1 hI.1, by omega⟩, rfl, by omega, by omega⟩, by rw [w32_id (by omega)]; omega, ih (k + 1) _ _ (by omega) (hI.put he ?_)⟩⟩⟩
      · rw [nsp_lb, if_neg (by omega)]
        rfl
      · rw [nsp_lb, if_pos (by omega)]
  have mid : ∀ (q e : Nat) (w1 : eW) (J1 J2 : aV), e + q = nE m → gwI m s c D e 0 w w1 → Ev (d + 1) 31 (fun r S2 => ∃ w2, r = none ∧ S2 = enc w2 t ∧ gwF D w w2 ∧ TwD w2 m (D + 1) (nxs m s c)) 43 [rA 28, (0, (D : Int)), (0, (c : Int) + 1), (0, ((D : Int) + 1) * 80), (0, ((D : Int) + 1) * 4), (0, (e : Int)), J1, J2] [] (enc w1 t) := by
    intro q
    induction q with
    | zero =>
      intro e w1 J1 J2 hq hI
      have hX1 := hXf w1 hI.1.1
      have ee : e = nE m := by omega
      subst ee
      exact g_gw2 (m := m) ⟨fun _ => ⟨w1, rfl, rfl, hI.1, hI.2.1, fun f j h4 h5 => hI.2.2 f j h4 h5 (Or.inl h4)⟩, fun h8 => absurd (by rw [hX1.1, ← hn.2]; exact Int.le_refl _) h8⟩
    | succ q ih =>
      intro e w1 J1 J2 hq hI
      have hX1 := hXf w1 hI.1.1
      refine g_gw2 (m := m) ⟨fun h8 => absurd h8 (by rw [hX1.1, ← hn.2, w32_id (by omega), w32_id (by omega)]; omega), fun _ => ?_⟩
      exact inner _ e (by omega) (fun w2 K1 K2 hI2 => ih (e + 1) w2 K1 K2 (by omega) hI2) (fmN m e) 0 w1 J2 (by omega) hI
  refine g_gw0 (m := m) ?_
  refine lq1 (σ := eW) (fun q w1 => Ev (d + 1) 31 (fun r S2 => ∃ w2, r = none ∧ S2 = enc w2 t ∧ gwF D w w2 ∧ TwD w2 m (D + 1) (nxs m s c)) 17 [rA 28, (0, (D : Int)), (0, (c : Int) + 1), (0, ((D : Int) + 1) * 80), (0, ((D : Int) + 1) * 4), (0, (q : Int)), (9, 0), (9, 0)] [] (enc w1 t)) (fun q w1 => gwF D w w1 ∧ ∀ g, g < q → w1 35 (4 * (D + 1) + g) = 0) 4 ?_ ?_ 0 w (Nat.zero_le _) ⟨⟨Fc.rf _ _ _, fun _ _ => rfl, fun _ _ => rfl⟩, fun g hg => absurd hg (Nat.not_lt_zero g)⟩
  · rintro q w1 hq ⟨⟨f1, f2, f3⟩, h1⟩ hE
    refine g_gw1 (m := m) ⟨fun h8 => absurd h8 (by rw [w32_id (by omega), w32_id (by omega)]; omega), fun _ => ⟨by rw [w32_id (by omega)]; omega, ?_⟩⟩
    rw [w32_id (by omega), show (((D : Int) + 1) * 4 + (q : Int)).toNat = 4 * (D + 1) + q by omega]
    refine hE _ ⟨⟨f1.tr (Fc.pr (by decide)), fun j hj => by rw [wu_na _ _ (by decide)]; exact f2 j hj, fun j hj => by rw [wu_nk _ _ (by omega)]; exact f3 j hj⟩, fun g hg => ?_⟩
    by_cases h7 : g = q
    · rw [h7, wu_eq]
    · rw [wu_nk _ _ (by omega)]; exact h1 g (by omega)
  · rintro w1 ⟨hF, h1⟩
    refine g_gw1 (m := m) ⟨fun _ => mid (nE m) 0 w1 _ _ (by omega) ⟨hF, fun g hg => by rw [h1 g hg]; rfl, fun f j h4 h5 h6 => by omega⟩, fun h8 => absurd (Int.le_refl _) h8⟩

