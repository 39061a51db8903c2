/-! The class: weighLast, lettersBehind. -/

def twN (a : Nat × Nat) (x : Nat) : Nat × Nat := if 2 ≤ x then (a.1 + 1, if a.1 = 0 then x else a.2) else a
theorem tw1_s (L : List Nat) (k : Nat) : tw1 L (k + 1) = twN (tw1 L k) (L.count k) := rfl
/-- the row of ways, a last letter a place -/
def wlI (m : eW) (s : (Nat → Nat) × (Nat → Nat → Nat)) (e : Nat) (w w1 : eW) : Prop := Fc [101] [] w w1 ∧ ∀ c, c < 27 → w1 101 (c + 1) = ((sm (fun f => if m 78 f = -1 then nsp m s c f (fmN m f - 1) else 0) e : Nat) : Int)
theorem XC.wl {w w2 m : eW} {F : List (Nat × Nat)} (h : XC w m) (f : Fc [101] F w w2) (hF : F.all (fun p => decide (p.1 < 28) || decide (32 < p.1) || (decide (p.1 = 28) && !decide (p.2 = 8))) = true) : XC w2 m := h.fc f (fun a ha => by rw [List.mem_singleton.mp ha]; decide) hF
theorem c_wl29 {d D y : Nat} {w m : eW} {t : eT} {s : (Nat → Nat) × (Nat → Nat → Nat)} {L : List Nat} (hX : XC w m) (he : WFe m) (hT : TwD w m D s) (hB : TwB s 65536) (hD : D ≤ 3) (hy : 27 * y + 27 ≤ 531441) (hc : ∀ c, c < 27 → L.count (27 * y + c) = tT m (nxs m s c) []) (h9 : w 28 9 = ((tw1 L (27 * y)).1 : Int)) (h10 : w 28 10 = ((tw1 L (27 * y)).2 : Int)) : Cl (d + 1) 29 [rA 28, (0, (D : Int))] (enc w t) (fun r S2 => ∃ w2, r = none ∧ S2 = enc w2 t ∧ Fc [101] [(28, 9), (28, 10)] w w2 ∧ w2 28 9 = ((tw1 L (27 * y + 27)).1 : Int) ∧ w2 28 10 = ((tw1 L (27 * y + 27)).2 : Int)) := by
  have hn := he.nE16
  have eT : ∀ c, tT m (nxs m s c) [] = sm (fun f => if m 78 f = -1 then nsp m s c f (fmN m f - 1) else 0) (nE m) := fun c => tT_e he _
  have hb : ∀ c k, sm (fun f => if m 78 f = -1 then nsp m s c f (fmN m f - 1) else 0) k ≤ k * 65536 := fun c k => sm_bound (fun i _ => by
    split
    · rw [nsp_lb]
      split
      · exact lbW_le hB _ _
      · exact Nat.zero_le _
    · exact Nat.zero_le _)
  -- behind the first loop
  have snd : ∀ w1 J, wlI m s (nE m) w w1 → Ev (d + 1) 29 (fun r S2 => ∃ w2, r = none ∧ S2 = enc w2 t ∧ Fc [101] [(28, 9), (28, 10)] w w2 ∧ w2 28 9 = ((tw1 L (27 * y + 27)).1 : Int) ∧ w2 28 10 = ((tw1 L (27 * y + 27)).2 : Int)) 70 [rA 28, (0, (D : Int)), (0, 1), J] [] (enc w1 t) := by
    rintro w1 J ⟨f1, r1⟩
    refine lq1 (σ := eW) (fun c w2 => Ev (d + 1) 29 (fun r S2 => ∃ w2, r = none ∧ S2 = enc w2 t ∧ Fc [101] [(28, 9), (28, 10)] w w2 ∧ w2 28 9 = ((tw1 L (27 * y + 27)).1 : Int) ∧ w2 28 10 = ((tw1 L (27 * y + 27)).2 : Int)) 70 [rA 28, (0, (D : Int)), (0, (c : Int) + 1), J] [] (enc w2 t)) (fun c w2 => Fc [] [(28, 9), (28, 10)] w1 w2 ∧ w2 28 9 = ((tw1 L (27 * y + c)).1 : Int) ∧ w2 28 10 = ((tw1 L (27 * y + c)).2 : Int)) 27 ?_ ?_ 0 w1 (Nat.zero_le _) ⟨Fc.rf _ _ _, by rw [f1 28 9 (by decide) (by decide)]; exact h9, by rw [f1 28 10 (by decide) (by decide)]; exact h10⟩
    · rintro c w2 hc27 ⟨f2, g9, g10⟩ hE
      have htb := (tw1_b L (27 * y + c)).1
      have hx := hc c hc27
      have hbe := hb c (nE m)
      have hrow : w2 101 (c + 1) = ((tT m (nxs m s c) [] : Nat) : Int) := by rw [f2.row (a := 101) (by decide) (by decide), r1 c hc27, eT]
      rw [← eT] at hbe
      have hs := tw1_s L (27 * y + c)
      rw [hx] at hs
      have e0 : tw1 L (27 * y + (c + 1)) = tw1 L (27 * y + c + 1) := rfl
      rw [← e0] at hs
      obtain ⟨x, hxx⟩ : ∃ x, x = tT m (nxs m s c) [] := ⟨_, rfl⟩
      rw [← hxx] at hbe hs hrow
      have hx2 : x ≤ 1048576 := Nat.le_trans hbe (Nat.le_trans (Nat.mul_le_mul_right _ hn.1) (by decide))
      have hE' : ∀ w3, Fc [] [(28, 9), (28, 10)] w1 w3 ∧ w3 28 9 = ((twN (tw1 L (27 * y + c)) x).1 : Int) ∧ w3 28 10 = ((twN (tw1 L (27 * y + c)) x).2 : Int) → Ev (d + 1) 29 _ 70 [rA 28, (0, (D : Int)), (0, (c : Int) + 1 + 1), J] [] (enc w3 t) := fun w3 h3 => hE w3 ⟨h3.1, by rw [hs]; exact h3.2.1, by rw [hs]; exact h3.2.2⟩
      generalize tw1 L (27 * y + c) = a at *
      refine g_whw3 (m := m) (s := s) (D := D) ⟨fun h8 => absurd h8 (by rw [w32_id (by omega), w32_id (by omega)]; omega), fun _ => ?_⟩
      rw [w32_id (x := (c : Int) + 1) (by omega), show ((c : Int) + 1).toNat = c + 1 by omega, hrow, g9, w32_id (x := (x : Int)) (by omega), w32_id (x := 2) (by decide), w32_id (x := (a.1 : Int)) (by omega)]
      refine ⟨by omega, fun h8 => ?_, fun h8 => ⟨fun h7 => ?_, fun h7 => ⟨by omega, ?_⟩⟩⟩
      · have e1 : twN a x = a := by unfold twN; rw [if_neg (by omega)]
        exact hE' w2 ⟨f2, by rw [e1]; exact g9, by rw [e1]; exact g10⟩
      · have e1 : twN a x = (a.1 + 1, a.2) := by unfold twN; rw [if_pos (by omega), if_neg (by omega)]
        exact hE' _ ⟨f2.tr ((Fc.pf (by decide)).tr (Fc.pf (by decide))), by rw [e1, wu_eq]; rfl, by rw [e1, wu_nk _ _ (by decide), wu_eq]; exact g10⟩
      · have e1 : twN a x = (a.1 + 1, x) := by unfold twN; rw [if_pos (by omega), if_pos (by omega)]
        exact hE' _ ⟨f2.tr ((Fc.pf (by decide)).tr (Fc.pf (by decide))), by rw [e1, wu_eq]; rfl, by rw [e1, wu_nk _ _ (by decide), wu_eq]⟩
    · rintro w2 ⟨f2, g9, g10⟩
      exact g_whw3 (m := m) (s := s) (D := D) ⟨fun _ => ⟨w2, rfl, rfl, (f1.mo (by decide) (by decide)).tr (f2.mo (by decide) (by decide)), g9, g10⟩, fun h8 => absurd (by decide) h8⟩
  refine g_whw1 (m := m) (s := s) (D := D) ⟨⟨by decide, by decide, by decide, by decide⟩, ?_⟩
  refine lq2 (σ := eW) (τ := aV) (fun e w1 J => Ev (d + 1) 29 (fun r S2 => ∃ w2, r = none ∧ S2 = enc w2 t ∧ Fc [101] [(28, 9), (28, 10)] w w2 ∧ w2 28 9 = ((tw1 L (27 * y + 27)).1 : Int) ∧ w2 28 10 = ((tw1 L (27 * y + 27)).2 : Int)) 10 [rA 28, (0, (D : Int)), (0, (e : Int)), J] [] (enc w1 t)) (fun e w1 => wlI m s e w w1) (nE m) ?_ ?_ 0 _ (9, 0) (Nat.zero_le _) ⟨Fc.wfl (by decide), fun c hc27 => wfl_at (by omega)⟩
  · rintro e w1 J hx ⟨f1, r1⟩ hE
    have hfm := he.fm hx
    have hX1 : XC w1 m := hX.wl f1 rfl
    obtain ⟨x1, x2, x3, x4⟩ := hX1.2 e hx
    have hw := he.2 e hx
    have hfo := fo_lt he hx (j := fmN m e - 1) (by omega)
    have hT1 : TwD w1 m D s := ⟨fun g hg => by rw [f1.row (a := 35) (by decide) (by decide)]; exact hT.1 g hg, fun e k h1 h2 => by rw [f1.row (a := 34) (by decide) (by decide)]; exact hT.2 e k h1 h2⟩
    have hform : w1 32 (w32 ((e : Int) * 5 + ((fmN m e : Int) - 1))).toNat = ((fo m e (fmN m e - 1) + 1 : Nat) : Int) := by
      rw [w32_id (by omega), show ((e : Int) * 5 + ((fmN m e : Int) - 1)).toNat = 5 * e + (fmN m e - 1) by omega, x4 (fmN m e - 1) (by omega)]
      have := (hw.2.2.2 (fmN m e - 1) (by omega)).1
      unfold fo
      omega
    refine g_whw2 (m := m) (s := s) (D := D) ⟨fun h8 => absurd h8 (by rw [hX1.1, ← hn.2, w32_id (by omega), w32_id (by omega)]; omega), fun _ => ?_⟩
    rw [w32_id (x := (e : Int)) (by omega), Int.toNat_natCast, x2, x3, ← hfm.2.2, hform, w32_id (x := ((fo m e (fmN m e - 1) + 1 : Nat) : Int)) (by omega), Int.toNat_natCast, show ((fmN m e : Int) - 1).toNat = fmN m e - 1 by omega]
    refine ⟨by omega, fun h8 => hE w1 _ ⟨f1, fun c hc27 => ?_⟩, fun h8 => ⟨by omega, by rw [w32_id (by omega)]; omega, by omega, ⟨⟨hX1, he, hT1, hD⟩, rfl, by omega, by omega⟩, by omega, hE _ _ ⟨f1.tr (Fc.pr (by decide)), fun c hc27 => ?_⟩⟩⟩
    · rw [r1 c hc27]
      show _ = ((sm (fun f => if m 78 f = -1 then nsp m s c f (fmN m f - 1) else 0) e + (if m 78 e = -1 then nsp m s c e (fmN m e - 1) else 0) : Nat) : Int)
      rw [w32_id (x := m 78 e) (by omega), w32_id (x := -1) (by decide)] at h8
      rw [if_neg h8, Nat.add_zero]
    · show _ = ((sm (fun f => if m 78 f = -1 then nsp m s c f (fmN m f - 1) else 0) e + (if m 78 e = -1 then nsp m s c e (fmN m e - 1) else 0) : Nat) : Int)
      rw [w32_id (x := m 78 e) (by omega), w32_id (x := -1) (by decide)] at h8
      rw [if_pos (Classical.not_not.mp h8), nsp_lb]
      by_cases h7 : fo m e (fmN m e - 1) = c
      · rw [if_pos h7, ← h7, wu_eq, r1 _ hfo]
        rfl
      · rw [if_neg h7, Nat.add_zero, wu_nk _ _ (by omega)]
        exact r1 c hc27
  · rintro w1 J hI
    have hX1 : XC w1 m := hX.wl hI.1 rfl
    exact g_whw2 (m := m) (s := s) (D := D) ⟨fun _ => snd w1 J hI, fun h8 => absurd (by rw [hX1.1, ← hn.2]; exact Int.le_refl _) h8⟩
/-- what can stand there -/
def lbI (m : eW) (s : (Nat → Nat) × (Nat → Nat → Nat)) (Y e k : Nat) : Prop := Y < 268435456 ∧ ∀ f j, f < nE m → j < fmN m f → (f < e ∨ (f = e ∧ j < k)) → lbW m s f j ≠ 0 → Y.testBit (fo m f j + 1) = true
theorem lbI.set {m : eW} {s : (Nat → Nat) × (Nat → Nat → Nat)} {Y e k : Nat} (h : lbI m s Y e k) (hf : fo m e k < 27) : lbI m s (Y ||| 2 ^ (fo m e k + 1)) e (k + 1) := by
  refine ⟨Nat.or_lt_two_pow (n := 28) h.1 (Nat.pow_lt_pow_right (by decide) (by omega)), fun f j h1 h2 h3 h4 => ?_⟩
  rw [Nat.testBit_or, Nat.testBit_two_pow]
  by_cases h5 : f = e ∧ j = k
  · rw [h5.1, h5.2, decide_eq_true rfl, Bool.or_true]
  · rw [h.2 f j h1 h2 (by omega) h4]; rfl
theorem lbI.skip {m : eW} {s : (Nat → Nat) × (Nat → Nat → Nat)} {Y e k : Nat} (h : lbI m s Y e k) (hf : lbW m s e k = 0) : lbI m s Y e (k + 1) := by
  refine ⟨h.1, fun f j h1 h2 h3 h4 => ?_⟩
  by_cases h5 : f = e ∧ j = k
  · rw [h5.1, h5.2] at h4; exact absurd hf h4
  · exact h.2 f j h1 h2 (by omega) h4
theorem c_lb30 {d D : Nat} {w m : eW} {t : eT} {s : (Nat → Nat) × (Nat → Nat → Nat)} (hX : XC w m) (he : WFe m) (hT : TwD w m D s) (hB : TwB s 65536) (hD : D ≤ 3) : Cl (d + 1) 30 [rA 28, (0, (D : Int))] (enc w t) (fun r S2 => ∃ Y : Nat, r = some (0, (Y : Int)) ∧ S2 = enc w t ∧ lbI m s Y (nE m) 0) := by
  have hn := he.nE16
  refine g_lb1 (m := m) (s := s) (D := D) ?_
  refine lq1 (σ := Nat × aV) (fun e z => Ev (d + 1) 30 (fun r S2 => ∃ Y : Nat, r = some (0, (Y : Int)) ∧ S2 = enc w t ∧ lbI m s Y (nE m) 0) 4 [rA 28, (0, (D : Int)), (0, (z.1 : Int)), (0, (e : Int)), z.2] [] (enc w t)) (fun e z => lbI m s z.1 e 0) (nE m) ?_ ?_ 0 (0, (9, 0)) (Nat.zero_le _) ⟨by decide, fun f j h1 h2 h3 => by omega⟩
  · rintro e ⟨Y, J⟩ hx hI hE
    have hfm := he.fm hx
    obtain ⟨x1, x2, x3, x4⟩ := hX.2 e hx
    have hw := he.2 e hx
    have inner : ∀ (q k Y : Nat), k + q = fmN m e → lbI m s Y e k → Ev (d + 1) 30 (fun r S2 => ∃ Y : Nat, r = some (0, (Y : Int)) ∧ S2 = enc w t ∧ lbI m s Y (nE m) 0) 15 [rA 28, (0, (D : Int)), (0, (Y : Int)), (0, (e : Int)), (0, (k : Int))] [] (enc w t) := by
      intro q
      induction q with
      | zero =>
        intro k Y hk hI
        refine g_lb3 (m := m) (s := s) (D := D) ?_
        rw [w32_id (x := (e : Int)) (by omega), Int.toNat_natCast, x3, ← hfm.2.2]
        refine ⟨by omega, fun _ => hE (Y, (0, (k : Int))) ⟨hI.1, fun f j h1 h2 h3 h4 => hI.2 f j h1 h2 (by by_cases h7 : f = e; (rw [h7] at h2; exact Or.inr ⟨h7, by omega⟩); exact Or.inl (by omega)) h4⟩, fun h8 => absurd (by rw [w32_id (by omega), w32_id (by omega)]; omega) h8⟩
      | succ q ih =>
        intro k Y hk hI
        have hfo := fo_lt he hx (j := k) (by omega)
        have hlw : lbW m s e k ≤ 65536 := lbW_le hB e k
        have hform : w 32 (w32 ((e : Int) * 5 + (k : Int))).toNat = ((fo m e k + 1 : Nat) : Int) := by
          rw [w32_id (by omega), show ((e : Int) * 5 + (k : Int)).toNat = 5 * e + k by omega, x4 k (by omega)]
          have := (hw.2.2.2 k (by omega)).1
          unfold fo
          omega
        refine g_lb3 (m := m) (s := s) (D := D) ?_
        rw [w32_id (x := (e : Int)) (by omega), Int.toNat_natCast, Int.toNat_natCast, x3, ← hfm.2.2, hform, w32_id (x := (lbW m s e k : Int)) (by omega)]
        refine ⟨by omega, fun h8 => absurd h8 (by rw [w32_id (by omega), w32_id (by omega)]; omega), fun _ => ⟨⟨⟨hX, he, hT, hD⟩, rfl, by omega, by omega⟩, fun h8 => ih (k + 1) Y (by omega) (hI.skip (by omega)), fun h8 => ⟨by rw [w32_id (by omega)]; omega, ?_⟩⟩⟩
        have hYb := hI.1
        rw [i_set (by omega) (by omega), Int.toNat_natCast, Int.toNat_natCast]
        exact ih (k + 1) _ (by omega) (hI.set hfo)
    refine g_lb2 (m := m) (s := s) (D := D) ⟨fun h8 => absurd h8 (by rw [hX.1, ← hn.2, w32_id (by omega), w32_id (by omega)]; omega), fun _ => ?_⟩
    exact inner (fmN m e) 0 Y (by omega) hI
  · rintro ⟨Y, J⟩ hI
    exact g_lb2 (m := m) (s := s) (D := D) ⟨fun _ => ⟨Y, rfl, rfl, hI⟩, fun h8 => absurd (by rw [hX.1, ← hn.2]; exact Int.le_refl _) h8⟩
theorem lb_z {m : eW} {s : (Nat → Nat) × (Nat → Nat → Nat)} {Y c : Nat} (h : lbI m s Y (nE m) 0) (hb : Y.testBit (c + 1) = false) : ∀ e k, e < nE m → k < fmN m e → nsp m s c e k = 0 := by
  intro e k he hk
  unfold nsp
  by_cases h1 : fo m e k = c
  · rw [if_pos h1]
    by_cases h2 : lbW m s e k = 0
    · exact h2
    · have := h.2 e k he hk (Or.inl he) h2
      rw [h1, hb] at this
      cases this
  · rw [if_neg h1]

