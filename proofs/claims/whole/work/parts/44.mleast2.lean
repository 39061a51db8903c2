/-! The model: the least number of faults. -/
theorem clG_s {m : eW} {lu ll : Nat → Int} {nu nl i j a b c d u l : Nat} (h1 : upT m lu nu i d = some u) (h2 : loT m ll nl j d = some l) : clG m lu nu ll nl i j a b c d = if isI m c && isI m d then 1000000 else brs m (-1) a b c d + cl m lu nu ll nl u l b c d := by
  unfold clG
  rw [h1, h2]
theorem clG_n1 {m : eW} {lu ll : Nat → Int} {nu nl i j a b c d : Nat} (h1 : upT m lu nu i d = none) : clG m lu nu ll nl i j a b c d = 1000000 := by
  unfold clG
  rw [h1]
theorem clG_n2 {m : eW} {lu ll : Nat → Int} {nu nl i j a b c d : Nat} (h1 : loT m ll nl j d = none) : clG m lu nu ll nl i j a b c d = 1000000 := by
  unfold clG
  rw [h1]
  cases upT m lu nu i d <;> rfl
theorem c_leastB {d : Nat} {m : eW} {lu ll : Nat → Int} {nu nl : Nat} : ∀ (B : Nat) (i j a b c : Int) (w : eW) (t : eT), LPR m lu nu ll nl B i j a b c w t → Cl (d + B + 5) 250 [rA 67, (0, i), (0, j), (0, a), (0, b), (0, c)] (enc w t) (fun r S2 => ∃ x w2 t2, r = some (1, x) ∧ S2 = enc w2 t2 ∧ LPO m lu nu ll nl i j a b c w t x w2 t2) := by
  intro B
  induction B with
  | zero => intro i j a b c w t h; exact absurd h.2.2.2.2.2 (Nat.not_lt_zero _)
  | succ B ih =>
    intro i j a b c w t h
    obtain ⟨hX, ⟨D, hD, hP⟩, hi, hj, ⟨ha, hb, hc⟩, hB⟩ := h
    have hXX := hX
    obtain ⟨hm, hwo, hU, hL⟩ := hX
    have hp := hm.1
    have hpn := hp.n
    have hrn := hm.2.1.n
    have hnu := hU.2.1
    have hnl := hL.2.1
    have hcE : gE c := by unfold gC at hc; unfold gE; omega
    have ha' := ha
    have hb' := hb
    have hc' := hcE
    unfold gE at ha' hb' hc'
    have heq := cl_eq hp (lu := lu) (ll := ll) (i := i.toNat) (j := j.toNat) (a := a.toNat) (b := b.toNat) (c := c.toNat) hnu hnl (by omega) (by omega)
    generalize hF : clG m lu nu ll nl i.toNat j.toNat a.toNat b.toNat c.toNat = F at heq
    refine g_least0 (m := m) (lu := lu) (ll := ll) (nu := nu) (nl := nl) (D := D) (J := (9, 0)) (J2 := (9, 0)) hm1 ?_
    have hkr : 0 ≤ (8 * i + j) * 4913 + ((a * 17 + b) * 17 + c) ∧ (8 * i + j) * 4913 + ((a * 17 + b) * 17 + c) ≤ 2147483647 := by omega
    have hkey : KyL ((8 * i + j) * 4913 + ((a * 17 + b) * 17 + c)) i.toNat j.toNat a.toNat b.toNat c.toNat := by
      unfold KyL
      omega
    generalize (8 * i + j) * 4913 + ((a * 17 + b) * 17 + c) = key at hkr hkey ⊢
    have hle16 := brs_le m (-1) a.toNat b.toNat c.toNat 16
    have loop : ∀ (b0 : Nat), b0 = (if i.toNat = nu ∧ j.toNat = nl then brs m (-1) a.toNat b.toNat c.toNat 16 else 1000000) → Ev (d + B + 6) 250 (fun r S2 => ∃ x w2 t2, r = some (1, x) ∧ S2 = enc w2 t2 ∧ LPO m lu nu ll nl i j a b c w t x w2 t2) 76 [rA 67, (0, i), (0, j), (0, a), (0, b), (0, c), (0, key), (1, (b0 : Int)), (9, 0), (0, 0), (9, 0), (9, 0)] [] (enc w t) := by
      intro b0 hb0
      have hb00 : b0 ≤ 1000000 := by rw [hb0]; split <;> omega
      refine lq1 (fun p (σ : eW × aV × aV) => Ev (d + B + 6) 250 (fun r S2 => ∃ x w2 t2, r = some (1, x) ∧ S2 = enc w2 t2 ∧ LPO m lu nu ll nl i j a b c w t x w2 t2) 76 [rA 67, (0, i), (0, j), (0, a), (0, b), (0, c), (0, key), (1, (mn b0 F p : Int)), (9, 0), (0, (p : Int)), σ.2.1, σ.2.2] [] (enc σ.1 t)) (fun p σ => FrT w σ.1 ∧ KnW (PmL m lu nu ll nl) σ.1) (nP m) ?_ ?_ 0 (w, (9, 0), (9, 0)) (Nat.zero_le _) ⟨FrT.rf w, D, hD, hP⟩
      · intro p σ hi2 hI hE
        have hX2 := hXX.m hI.1.m (by decide) (by decide)
        refine g_least1 (m := m) (lu := lu) (ll := ll) (nu := nu) (nl := nl) (D := D) hm1 ih ?_
        rw [show mn b0 F (p + 1) = min (mn b0 F p) (F p) from rfl] at hE
        have hmn := mn_le b0 F p
        have hmin : ∀ y : Nat, 1000000 ≤ y → min (mn b0 F p) y = mn b0 F p := fun y hy => by omega
        rw [hX2.1.2.2.1.1]
        simp (disch := omega) only [w32_id, Int.toNat_natCast]
        refine ⟨fun h9 => (by omega), fun _ => ⟨⟨hX2.1, hX2.2.2.1, hi, ⟨by omega, by omega⟩⟩, ⟨hX2.1, hX2.2.2.2, hj, ⟨by omega, by omega⟩⟩, ?_⟩⟩
        cases hu : upT m lu nu i.toNat p with
        | none =>
          refine ⟨fun _ => ?_, fun h9 => absurd rfl h9⟩
          have := hE (σ.1, (0, oI none), (0, oI (loT m ll nl j.toNat p))) hI
          rw [← hF, clG_n1 hu, hF, hmin _ (Nat.le_refl _)] at this
          exact this
        | some u =>
          have hul := upT_le (m := m) (by omega) hu
          simp (disch := omega) only [oI_s, w32_id]
          refine ⟨fun h9 => (by omega), fun _ => ?_⟩
          cases hl : loT m ll nl j.toNat p with
          | none =>
            refine ⟨fun _ => ?_, fun h9 => absurd rfl h9⟩
            have := hE (σ.1, (0, (u : Int)), (0, oI none)) hI
            rw [← hF, clG_n2 hl, hF, hmin _ (Nat.le_refl _)] at this
            exact this
          | some l =>
            have hll := loT_le (m := m) (by omega) hl
            have hdn := both_down hp hi2 (show i.toNat ≤ nu by omega) (show j.toNat ≤ nl by omega) hu hl
            simp (disch := omega) only [oI_s, w32_id]
            have hFp := clG_s (a := a.toNat) (b := b.toNat) (c := c.toNat) hu hl
            rw [hF] at hFp
            refine ⟨fun h9 => (by omega), fun _ => ⟨⟨hX2.1, hc, ⟨by omega, by omega⟩⟩, fun h3 => ⟨⟨hX2.1, hX2.2.1, ha, hb, hc, ⟨by omega, by omega⟩⟩, ⟨hX2, hI.2, ⟨by omega, by omega⟩, ⟨by omega, by omega⟩, ⟨hb, hcE, ⟨by omega, by omega⟩⟩, ?_⟩, fun x w2 t2 hp2 => ?_⟩, fun h3 => ?_⟩⟩
            · rw [Int.toNat_natCast, Int.toNat_natCast]; omega
            · obtain ⟨p1, p2, p3, p4⟩ := hp2
              subst p2
              rw [Int.toNat_natCast, Int.toNat_natCast, Int.toNat_natCast] at p1
              have h3' : (isI m c.toNat && isI m p) = false := by
                cases hh : (isI m c.toNat && isI m p)
                · rfl
                · rw [hh] at h3; cases h3
              rw [h3', if_neg (by decide)] at hFp
              have hcl := cl_le (m := m) hrn.2 (lu := lu) (nu := nu) (ll := ll) (nl := nl) (i := u) (j := l) (a := b.toNat) (b := c.toNat) (c := p)
              have hbl := brs_le m (-1) a.toNat b.toNat c.toNat p
              have := hE (w2, (0, (u : Int)), (0, (l : Int))) ⟨hI.1.tr p3, p4⟩
              rw [hFp] at this
              rw [p1]
              simp (disch := omega) only [w32_id, w64_id]
              have e1 : (if (brs m (-1) a.toNat b.toNat c.toNat p : Int) + (cl m lu nu ll nl u l b.toNat c.toNat p : Int) < (mn b0 F p : Int) then (brs m (-1) a.toNat b.toNat c.toNat p : Int) + (cl m lu nu ll nl u l b.toNat c.toNat p : Int) else (mn b0 F p : Int)) = ((min (mn b0 F p) (brs m (-1) a.toNat b.toNat c.toNat p + cl m lu nu ll nl u l b.toNat c.toNat p) : Nat) : Int) := by split <;> omega
              rw [e1]
              exact this
            · have h3' : (isI m c.toNat && isI m p) = true := by
                cases hh : (isI m c.toNat && isI m p)
                · rw [hh] at h3; cases h3
                · rfl
              rw [h3', if_pos rfl] at hFp
              have := hE (σ.1, (0, (u : Int)), (0, (l : Int))) hI
              rw [hFp, hmin _ (Nat.le_refl _)] at this
              exact this
      · intro σ hI
        obtain ⟨D2, hD2, hP2⟩ := hI.2
        have hX2 := hXX.m hI.1.m (by decide) (by decide)
        refine g_least1 (m := m) (lu := lu) (ll := ll) (nu := nu) (nl := nl) (D := D2) hm1 ih ?_
        rw [hX2.1.2.2.1.1]
        simp (disch := omega) only [w32_id]
        refine ⟨fun _ => ⟨⟨hD2, hkr⟩, fun w1 h1 => ⟨_, w1, t, rfl, rfl, by rw [heq, hb0], rfl, hI.1.tr h1.1, ?_⟩⟩, fun h9 => (by omega)⟩
        refine KnW.learn hP2 ?_ h1.2.2
        intro i2 j2 a2 b2 c2 k1 k2 k3 k4 k5
        unfold KyL at hkey
        rw [hkey] at k5
        obtain ⟨rfl, rfl, rfl, rfl, rfl⟩ := kL_inj (by omega) (by omega) (by omega) (by omega) k1 k2 k3 k4 k5
        rw [heq, hb0]
    rw [hU.1, hL.1]
    simp (disch := omega) only [w32_id]
    refine ⟨⟨hD, hkr⟩, fun h1 => ⟨fun h2 => loop 1000000 ?_, fun h2 => ⟨fun h3 => loop 1000000 ?_, fun h3 => ⟨⟨hm, hwo, ha, hb, hc, gE16⟩, loop _ ?_⟩⟩⟩, fun h1 => ⟨⟨hD, hkr, h1⟩, ?_⟩⟩
    · rw [if_neg (by omega)]
    · rw [if_neg (by omega)]
    · rw [if_pos (by omega)]
    · cases hDk : D key with
      | none => rw [hDk] at h1; cases h1
      | some v =>
        unfold KyL at hkey
        have := hP _ v hkr.1 hDk i.toNat j.toNat a.toNat b.toNat c.toNat (by omega) (by omega) (by omega) (by omega) hkey
        exact ⟨_, w, t, rfl, rfl, this, rfl, FrT.rf w, D, hD, hP⟩

