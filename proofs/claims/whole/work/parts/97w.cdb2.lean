/-! The class: weighWhole, lettersBehind. -/

def TwD (w m : eW) (D : Nat) (s : (Nat → Nat) × (Nat → Nat → Nat)) : Prop := (∀ g, g < 4 → w 35 (4 * D + g) = (s.1 g : Int)) ∧ ∀ e k, e < nE m → k < fmN m e → w 34 (80 * D + (5 * e + k)) = (s.2 e k : Int)
def TwB (s : (Nat → Nat) × (Nat → Nat → Nat)) (B : Nat) : Prop := (∀ g, s.1 g ≤ B) ∧ ∀ e k, s.2 e k ≤ B
theorem TwB.nxt {m : eW} (he : WFe m) {s : (Nat → Nat) × (Nat → Nat → Nat)} {B c : Nat} (h : TwB s B) : TwB (nxs m s c) (16 * B) := by
  have h1 : ∀ e k, nsp m s c e k ≤ B := by
    intro e k
    unfold nsp
    split
    · split
      · exact h.1 _
      · exact h.2 _ _
    · exact Nat.zero_le _
  refine ⟨fun g => ?_, fun e k => Nat.le_trans (h1 e k) (by omega)⟩
  show nst m s c g ≤ 16 * B
  unfold nst
  refine Nat.le_trans (sm_bound (c := B) (fun i _ => ?_)) (Nat.mul_le_mul_right B (by have := he.1; unfold nE; omega))
  split
  · exact h1 _ _
  · exact Nat.zero_le _
theorem WFe.nE16 {m : eW} (he : WFe m) : nE m ≤ 16 ∧ (nE m : Int) = m 67 12 := by
  have := he.1
  unfold nE
  omega
def twN (a : Nat × Nat) (x : Nat) : Nat × Nat := if 2 ≤ x then (a.1 + 1, if a.1 = 0 then x else a.2) else a
theorem c_ww29 {d D : Nat} {w m : eW} {t : eT} {s : (Nat → Nat) × (Nat → Nat → Nat)} {a : Nat × Nat} (hX : XC w m) (he : WFe m) (hT : TwD w m D s) (hB : TwB s 65536) (hD : D ≤ 4) (h9 : w 28 9 = (a.1 : Int)) (h10 : w 28 10 = (a.2 : Int)) (ha : a.1 ≤ 531441) : Cl d 29 [rA 28, (0, (D : Int))] (enc w t) (fun r S2 => ∃ w2, r = none ∧ S2 = enc w2 t ∧ Fc [] [(28, 9), (28, 10)] w w2 ∧ w2 28 9 = ((twN a (tT m s [])).1 : Int) ∧ w2 28 10 = ((twN a (tT m s [])).2 : Int)) := by
  have hn := he.nE16
  rw [tT_e he]
  have hb : ∀ k, sm (fun e => if m 78 e = -1 then s.2 e (fmN m e - 1) else 0) k ≤ k * 65536 := fun k => sm_bound (fun i _ => by
    split
    · exact hB.2 _ _
    · exact Nat.zero_le _)
  refine g_whw1 (m := m) ?_
  refine lp0 (fun e => Ev d 29 (fun r S2 => ∃ w2, r = none ∧ S2 = enc w2 t ∧ Fc [] [(28, 9), (28, 10)] w w2 ∧ w2 28 9 = ((twN a (sm (fun e => if m 78 e = -1 then s.2 e (fmN m e - 1) else 0) (nE m))).1 : Int) ∧ w2 28 10 = ((twN a (sm (fun e => if m 78 e = -1 then s.2 e (fmN m e - 1) else 0) (nE m))).2 : Int)) 4 [rA 28, (0, (D : Int)), (0, (sm (fun e => if m 78 e = -1 then s.2 e (fmN m e - 1) else 0) e : Int)), (0, (e : Int))] [] (enc w t)) (nE m) ?_ ?_ 0 (Nat.zero_le _)
  · intro e hx hE
    have hbe := hb e
    have hfm := he.fm hx
    obtain ⟨x1, x2, x3, x4⟩ := hX.2 e hx
    have hw := he.2 e hx
    refine g_whw2 (m := m) ⟨fun h8 => absurd h8 (by rw [hX.1, ← hn.2, w32_id (by omega), w32_id (by omega)]; omega), fun _ => ?_⟩
    rw [w32_id (x := (e : Int)) (by omega), Int.toNat_natCast, x2, x3, ← hfm.2.2]
    have hE' : Ev d 29 _ 4 [rA 28, (0, (D : Int)), (0, ((sm (fun e => if m 78 e = -1 then s.2 e (fmN m e - 1) else 0) e + (if m 78 e = -1 then s.2 e (fmN m e - 1) else 0) : Nat) : Int)), (0, ((e + 1 : Nat) : Int))] [] (enc w t) := hE
    refine ⟨by omega, fun h8 => ?_, fun h8 => ⟨by omega, by rw [w32_id (by omega)]; omega, ?_⟩⟩
    · rw [w32_id (by omega), w32_id (by omega)] at h8
      rw [if_neg h8, Nat.add_zero] at hE'
      exact hE'
    · rw [w32_id (by omega), w32_id (by omega)] at h8
      rw [if_pos (by omega)] at hE'
      have e1 : w 34 (w32 ((((D : Int) * 80) + ((e : Int) * 5)) + (fmN m e : Int) - 1)).toNat = (s.2 e (fmN m e - 1) : Int) := by
        rw [w32_id (by omega), ← hT.2 e (fmN m e - 1) hx (by omega)]
        congr 1
        omega
      rw [e1]
      exact hE'
  · refine g_whw2 (m := m) ⟨fun _ => ?_, fun h8 => absurd (by rw [hX.1, ← hn.2]; exact Int.le_refl _) h8⟩
    have hbe := hb (nE m)
    obtain ⟨x, hx⟩ : ∃ x, x = sm (fun e => if m 78 e = -1 then s.2 e (fmN m e - 1) else 0) (nE m) := ⟨_, rfl⟩
    rw [← hx] at hbe ⊢
    have hx2 : x ≤ 1048576 := Nat.le_trans hbe (Nat.le_trans (Nat.mul_le_mul_right _ hn.1) (by decide))
    rw [h9, w32_id (x := (x : Int)) (by omega), w32_id (x := 2) (by decide), w32_id (x := (a.1 : Int)) (by omega)]
    refine ⟨fun h8 => ?_, fun h8 => ⟨fun h7 => ?_, fun h7 => ?_⟩⟩
    · have e1 : twN a x = a := by unfold twN; rw [if_neg (by omega)]
      rw [e1]
      exact ⟨w, rfl, rfl, Fc.rf _ _ _, h9, h10⟩
    · have e1 : twN a x = (a.1 + 1, a.2) := by unfold twN; rw [if_pos (by omega), if_neg (by omega)]
      rw [e1]
      exact ⟨_, rfl, rfl, Fc.pf (by decide), by rw [wu_eq]; rfl, by rw [wu_nk _ _ (by decide)]; exact h10⟩
    · have e1 : twN a x = (a.1 + 1, x) := by unfold twN; rw [if_pos (by omega), if_pos (by omega)]
      rw [e1]
      exact ⟨_, rfl, rfl, (Fc.pf (by decide)).tr (Fc.pf (by decide)), by rw [wu_eq]; rfl, by rw [wu_nk _ _ (by decide), wu_eq]⟩
/-- what can stand there -/
def lbW (m : eW) (s : (Nat → Nat) × (Nat → Nat → Nat)) (e k : Nat) : Nat := if k = 0 then s.1 (m 77 e).toNat else s.2 e (k - 1)
def lbI (m : eW) (s : (Nat → Nat) × (Nat → Nat → Nat)) (Y e k : Nat) : Prop := Y < 268435456 ∧ ∀ f j, f < nE m → j < fmN m f → (f < e ∨ (f = e ∧ j < k)) → lbW m s f j ≠ 0 → Y.testBit (fo m f j + 1) = true
theorem lbI.set {m : eW} {s : (Nat → Nat) × (Nat → Nat → Nat)} {Y e k : Nat} (h : lbI m s Y e k) (hf : fo m e k < 27) : lbI m s (Y ||| 2 ^ (fo m e k + 1)) e (k + 1) := by
  refine ⟨Nat.or_lt_two_pow (n := 28) h.1 (Nat.pow_lt_pow_right (by decide) (by omega)), fun f j h1 h2 h3 h4 => ?_⟩
  rw [Nat.testBit_or, Nat.testBit_two_pow]
  by_cases h5 : f = e ∧ j = k
  · rw [h5.1, h5.2, decide_eq_true rfl, Bool.or_true]
  · rw [h.2 f j h1 h2 (by omega) h4]; rfl
theorem lbI.skip {m : eW} {s : (Nat → Nat) × (Nat → Nat → Nat)} {Y e k : Nat} (h : lbI m s Y e k) (hf : lbW m s e k = 0) : lbI m s Y e (k + 1) := by
  refine ⟨h.1, fun f j h1 h2 h3 h4 => ?_⟩
  by_cases h5 : f = e ∧ j = k
  · rw [h5.1, h5.2] at h4; exact absurd hf h4
  · exact h.2 f j h1 h2 (by omega) h4
theorem c_lb30 {d D : Nat} {w m : eW} {t : eT} {s : (Nat → Nat) × (Nat → Nat → Nat)} (hX : XC w m) (he : WFe m) (hT : TwD w m D s) (hB : TwB s 65536) (hD : D ≤ 3) : Cl d 30 [rA 28, (0, (D : Int))] (enc w t) (fun r S2 => ∃ Y : Nat, r = some (0, (Y : Int)) ∧ S2 = enc w t ∧ lbI m s Y (nE m) 0) := by
  have hn := he.nE16
  refine g_lb1 (m := m) ?_
  refine lq1 (σ := Nat × aV) (fun e z => Ev d 30 (fun r S2 => ∃ Y : Nat, r = some (0, (Y : Int)) ∧ S2 = enc w t ∧ lbI m s Y (nE m) 0) 4 [rA 28, (0, (D : Int)), (0, (z.1 : Int)), (0, (e : Int)), z.2] [] (enc w t)) (fun e z => lbI m s z.1 e 0) (nE m) ?_ ?_ 0 (0, (9, 0)) (Nat.zero_le _) ⟨by decide, fun f j h1 h2 h3 => by omega⟩
  · rintro e ⟨Y, J⟩ hx hI hE
    have hfm := he.fm hx
    obtain ⟨x1, x2, x3, x4⟩ := hX.2 e hx
    have hw := he.2 e hx
    have inner : ∀ (q k Y : Nat), k + q = fmN m e → 1 ≤ k → lbI m s Y e k → Ev d 30 (fun r S2 => ∃ Y : Nat, r = some (0, (Y : Int)) ∧ S2 = enc w t ∧ lbI m s Y (nE m) 0) 46 [rA 28, (0, (D : Int)), (0, (Y : Int)), (0, (e : Int)), (0, (k : Int))] [] (enc w t) := by
      intro q
      induction q with
      | zero =>
        intro k Y hk h1 hI
        refine g_lb3 (m := m) ?_
        rw [w32_id (x := (e : Int)) (by omega), Int.toNat_natCast, x3, ← hfm.2.2]
        refine ⟨by omega, fun _ => hE (Y, (0, (k : Int))) ⟨hI.1, fun f j h1 h2 h3 h4 => hI.2 f j h1 h2 (by by_cases h7 : f = e; (rw [h7] at h2; exact Or.inr ⟨h7, by omega⟩); exact Or.inl (by omega)) h4⟩, fun h8 => absurd (by rw [w32_id (by omega), w32_id (by omega)]; omega) h8⟩
      | succ q ih =>
        intro k Y hk h1 hI
        have hfo := fo_lt he hx (j := k) (by omega)
        have hval : w 34 (w32 ((((D : Int) * 80) + ((e : Int) * 5)) + (k : Int) - 1)).toNat = (lbW m s e k : Int) := by
          unfold lbW
          rw [if_neg (by omega), w32_id (by omega), ← hT.2 e (k - 1) hx (by omega)]
          congr 1
          omega
        have hlw : lbW m s e k ≤ 65536 := by
          unfold lbW
          rw [if_neg (by omega)]
          exact hB.2 _ _
        have hform : w 32 (w32 ((e : Int) * 5 + (k : Int))).toNat = ((fo m e k + 1 : Nat) : Int) := by
          rw [w32_id (by omega), show ((e : Int) * 5 + (k : Int)).toNat = 5 * e + k by omega, x4 k (by omega)]
          have := (hw.2.2.2 k (by omega)).1
          unfold fo
          omega
        refine g_lb3 (m := m) ?_
        rw [w32_id (x := (e : Int)) (by omega), Int.toNat_natCast, x3, ← hfm.2.2, hval, hform, w32_id (x := (lbW m s e k : Int)) (by omega)]
        refine ⟨by omega, fun h8 => absurd h8 (by rw [w32_id (by omega), w32_id (by omega)]; omega), fun _ => ⟨by rw [w32_id (by omega)]; omega, fun h8 => ih (k + 1) Y (by omega) (by omega) (hI.skip (by omega)), fun h8 => ⟨by rw [w32_id (by omega)]; omega, ?_⟩⟩⟩
        have hYb := hI.1
        rw [i_set (by omega) (by omega), Int.toNat_natCast, Int.toNat_natCast]
        exact ih (k + 1) _ (by omega) (by omega) (hI.set hfo)
    have hfo := fo_lt he hx (j := 0) (by omega)
    have hval : w 35 (w32 ((D : Int) * 4 + m 77 e)).toNat = (lbW m s e 0 : Int) := by
      unfold lbW
      rw [if_pos rfl, w32_id (by omega), ← hT.1 (m 77 e).toNat (by omega)]
      congr 1
      omega
    have hlw : lbW m s e 0 ≤ 65536 := by
      unfold lbW
      rw [if_pos rfl]
      exact hB.1 _
    have hform : w 32 (w32 ((e : Int) * 5)).toNat = ((fo m e 0 + 1 : Nat) : Int) := by
      rw [w32_id (by omega), show ((e : Int) * 5).toNat = 5 * e + 0 by omega, x4 0 (by omega)]
      have := (hw.2.2.2 0 (by omega)).1
      unfold fo
      omega
    refine g_lb2 (m := m) ⟨fun h8 => absurd h8 (by rw [hX.1, ← hn.2, w32_id (by omega), w32_id (by omega)]; omega), fun _ => ?_⟩
    have hYb := hI.1
    dsimp only at hI hYb ⊢
    rw [w32_id (x := (e : Int)) (by omega), Int.toNat_natCast, x1, hval, hform, w32_id (x := (lbW m s e 0 : Int)) (by omega)]
    refine ⟨by omega, by rw [w32_id (by omega)]; omega, fun h8 => inner (fmN m e - 1) 1 Y (by omega) (by omega) (hI.skip (by omega)), fun h8 => ⟨by rw [w32_id (by omega)]; omega, ?_⟩⟩
    rw [i_set (by omega) (by omega), Int.toNat_natCast, Int.toNat_natCast]
    exact inner (fmN m e - 1) 1 _ (by omega) (by omega) (hI.set hfo)
  · rintro ⟨Y, J⟩ hI
    exact g_lb2 (m := m) ⟨fun _ => ⟨Y, rfl, rfl, hI⟩, fun h8 => absurd (by rw [hX.1, ← hn.2]; exact Int.le_refl _) h8⟩
theorem lb_z {m : eW} {s : (Nat → Nat) × (Nat → Nat → Nat)} {Y c : Nat} (h : lbI m s Y (nE m) 0) (hb : Y.testBit (c + 1) = false) : ∀ e k, e < nE m → k < fmN m e → nsp m s c e k = 0 := by
  intro e k he hk
  unfold nsp
  by_cases h1 : fo m e k = c
  · rw [if_pos h1]
    by_cases h2 : lbW m s e k = 0
    · exact h2
    · have := h.2 e k he hk (Or.inl he) h2
      rw [h1, hb] at this
      cases this
  · rw [if_neg h1]

