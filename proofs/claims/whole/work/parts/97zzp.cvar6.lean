/-! The class: unlike spellings: addBehind, addSilent. -/

/-- pairs that go on from a spot with a lower sign -/
def sB (m : eW) (l : List Int) (i : Nat) (g : t3) (cd p : Nat) : Prop := (spP m l i &&& mfG m g).testBit p = true ∧ (byL m cd).testBit p = true
def AbR (m : eW) (l : List Int) (w0 : eW) (b : Nat × Nat) (N : Nat) (KY : Nat → Int) (γ : Nat × Nat × t3 × (Nat → Prop) × List Nat) (sp cd nn : Int) (w : eW) (t : eT) : Prop := (γ.1 < N ∧ KY γ.1 = ((kyG m γ.2.2.1 : Nat) : Int) ∧ spA m l γ.2.1 γ.2.2.1 ∧ sp = ((γ.1 * 7 + γ.2.1 : Nat) : Int) ∧ ∃ x, RcR m l x = some (γ.2.1, γ.2.2.1)) ∧ (0 ≤ cd ∧ cd ≤ 27) ∧ WCn m l w0 b N KY w t ∧ (0 ≤ nn ∧ nn ≤ 6) ∧ GRm γ.2.2.2.1 ∧ SpS w nn.toNat γ.2.2.2.1 γ.2.2.2.2 ∧ ∀ p s2 : Nat, p < 16 → sB m l γ.2.1 γ.2.2.1 cd.toNat p → s2 < N → KY s2 = ((kyG m (gN γ.2.2.1 p) : Nat) : Int) → nn.toNat + fwl m l (spB m γ.2.1 p) (gN γ.2.2.1 p) ≤ 6 → γ.2.2.2.1 (s2 * 7 + spB m γ.2.1 p)
def AbO (m : eW) (l : List Int) (w0 : eW) (b : Nat × Nat) (N : Nat) (KY : Nat → Int) (γ : Nat × Nat × t3 × (Nat → Prop) × List Nat) (_ cd nn : Int) (w : eW) (_ : eT) (w2 : eW) (t2 : eT) : Prop := WCn m l w0 b N KY w2 t2 ∧ VFr nn.toNat w w2 ∧ ∃ M : List Nat, SpS w2 nn.toNat γ.2.2.2.1 (γ.2.2.2.2 ++ M) ∧ ∀ p : Nat, p < 16 → sB m l γ.2.1 γ.2.2.1 cd.toNat p → nn.toNat + fwl m l (spB m γ.2.1 p) (gN γ.2.2.1 p) ≤ 6 → ∃ s2 : Nat, s2 < N ∧ KY s2 = ((kyG m (gN γ.2.2.1 p) : Nat) : Int) ∧ s2 * 7 + spB m γ.2.1 p ∈ γ.2.2.2.2 ++ M
theorem c_adb {d : Nat} {m : eW} (hp : WFp m) (hr : WFr m) {l : List Int} (hl : LtO l) {w0 : eW} (hT0 : TlL w0 m l) {b : Nat × Nat} {N : Nat} {KY : Nat → Int} (γ : Nat × Nat × t3 × (Nat → Prop) × List Nat) (sp cd nn : Int) (w : eW) (t : eT) (h : AbR m l w0 b N KY γ sp cd nn w t) : Cl (d + 22) 98 [rA 58, (0, sp), (0, cd), (0, nn)] (enc w t) (fun r S2 => ∃ w2 t2, r = none ∧ S2 = enc w2 t2 ∧ AbO m l w0 b N KY γ sp cd nn w t w2 t2) := by
  obtain ⟨s, i, g, G, L⟩ := γ
  obtain ⟨⟨hs, hky, hA, rfl, xr, hxr⟩, hcd, hc, hn, hG, hS, hsu⟩ := h
  replace hxr : RcR m l xr = some (i, g) := hxr
  replace hs : s < N := hs
  replace hky : KY s = ((kyG m g : Nat) : Int) := hky
  replace hA : spA m l i g := hA
  replace hG : GRm G := hG
  obtain ⟨n, rfl⟩ : ∃ n : Nat, nn = (n : Int) := ⟨nn.toNat, by omega⟩
  obtain ⟨c, rfl⟩ : ∃ c : Nat, cd = (c : Int) := ⟨cd.toNat, by omega⟩
  rw [Int.toNat_natCast] at hS
  replace hS : SpS w n G L := hS
  replace hsu : ∀ p s2 : Nat, p < 16 → sB m l i g c p → s2 < N → KY s2 = ((kyG m (gN g p) : Nat) : Int) → n + fwl m l (spB m i p) (gN g p) ≤ 6 → G (s2 * 7 + spB m i p) := hsu
  have hi6 : i ≤ l.length := hA.1
  have hl6 := hl.1.2
  have rg := hc.1.rg
  have hN := rg.2.1
  have hNl := rg.2.2.2
  have hT := hT0.in' hc.1.1
  have hmf : mfG m g < 131072 := mfB_lt m g.1 g.2.1 g.2.2
  have hPm : spP m l i &&& mfG m g < 131072 := Nat.lt_of_le_of_lt Nat.and_le_right hmf
  have hPm2 : (spP m l i &&& mfG m g) &&& byL m c < 131072 := Nat.lt_of_le_of_lt Nat.and_le_left hPm
  have hbl := (by_lt hp c).2.1
  have e7 : idiv ((s * 7 + i : Nat) : Int) 7 = (s : Int) := by rw [i_div (by omega) (by omega)]; omega
  have e8 : irem ((s * 7 + i : Nat) : Int) 7 = (i : Int) := by rw [i_rem (by omega) (by omega)]; omega
  show Cl (d + 22) 98 [rA 58, (0, ((s * 7 + i : Nat) : Int)), (0, (c : Int)), (0, (n : Int))] (enc w t) _
  refine g_adb0 (m := m) (l := l) (b := b) ?_
  rw [e7, e8]
  refine ⟨g, ⟨⟨hT, hl, hp⟩, ⟨by rw [hN, Int.toNat_natCast]; exact rg, by omega, by rw [hN]; omega⟩, by rw [Int.toNat_natCast, hc.1.2.2.2.2 s]; exact hky, by omega, by omega⟩, ?_⟩
  rintro x2 rfl
  rw [Int.toNat_natCast, w32_id (x := (c : Int)) (by omega), Int.toNat_natCast, (hT.1.2.2.1 c (by omega)).2, i_and (by omega) (by omega), Int.toNat_natCast, Int.toNat_natCast]
  refine ⟨by omega, ?_⟩
  suffices hk : ∀ (k p : Nat) (w1 : eW) (t1 : eT) (M : List Nat), p + k = 16 → WCn m l w0 b N KY w1 t1 → VFr n w w1 → SpS w1 n G (L ++ M) → (∀ q, q < p → sB m l i g c q → n + fwl m l (spB m i q) (gN g q) ≤ 6 → ∃ s2 : Nat, s2 < N ∧ KY s2 = ((kyG m (gN g q) : Nat) : Int) ∧ s2 * 7 + spB m i q ∈ L ++ M) → Ev (d + 22) 98 (fun r S2 => ∃ w2 t2, r = none ∧ S2 = enc w2 t2 ∧ AbO m l w0 b N KY (s, i, g, G, L) ((s * 7 + i : Nat) : Int) (c : Int) (n : Int) w t w2 t2) 35 [rA 58, (0, ((s * 7 + i : Nat) : Int)), (0, (c : Int)), (0, (n : Int)), (0, (s : Int)), (0, (i : Int)), (0, (((spP m l i &&& mfG m g) &&& byL m c : Nat) : Int)), (0, (p : Int))] [] (enc w1 t1) from hk 16 0 w t [] (by omega) hc (VFr.rf _ _) (by rw [List.append_nil]; exact hS) (fun q hq => by omega)
  have hfin : ∀ (w1 : eW) (t1 : eT) (M : List Nat), WCn m l w0 b N KY w1 t1 → VFr n w w1 → SpS w1 n G (L ++ M) → (∀ q, q < 16 → sB m l i g c q → n + fwl m l (spB m i q) (gN g q) ≤ 6 → ∃ s2 : Nat, s2 < N ∧ KY s2 = ((kyG m (gN g q) : Nat) : Int) ∧ s2 * 7 + spB m i q ∈ L ++ M) → ∃ w2 t2, (none : Option aV) = none ∧ enc w1 t1 = enc w2 t2 ∧ AbO m l w0 b N KY (s, i, g, G, L) ((s * 7 + i : Nat) : Int) (c : Int) (n : Int) w t w2 t2 := fun w1 t1 M a1 a2 a3 a4 => by
    refine ⟨w1, t1, rfl, rfl, a1, by rw [Int.toNat_natCast]; exact a2, M, by rw [Int.toNat_natCast]; exact a3, ?_⟩
    rw [Int.toNat_natCast, Int.toNat_natCast]
    exact a4
  intro k
  induction k with
  | zero =>
    intro p w1 t1 M he a1 a2 a3 a4
    refine g_adb1 (m := m) (l := l) (b := b) (PRU := PuR m l w0 b N KY) (POU := PuO m l w0 b N KY) (fun γ a1 a2 a3 w t h => c_vput hl γ a1 a2 a3 w t h) ?_
    have : p = 16 := by omega
    subst this
    exact ⟨fun _ => hfin w1 t1 M a1 a2 a3 a4, fun h9 => absurd (by decide) h9⟩
  | succ k ihk =>
    intro p w1 t1 M he a1 a2 a3 a4
    refine g_adb1 (m := m) (l := l) (b := b) (PRU := PuR m l w0 b N KY) (POU := PuO m l w0 b N KY) (fun γ a1 a2 a3 w t h => c_vput hl γ a1 a2 a3 w t h) ?_
    rw [w32_id (x := 16) (by omega), w32_id (x := (p : Int)) (by omega)]
    have hbt : ∀ q, sB m l i g c q ↔ ((spP m l i &&& mfG m g) &&& byL m c).testBit q = true := fun q => by
      rw [Nat.testBit_and, Bool.and_eq_true_iff]; exact Iff.rfl
    refine ⟨fun h9 => by omega, fun _ => ⟨fun h9 => ?_, fun _ => ?_⟩⟩
    · have hz := sh_z hPm2 (by omega) h9
      refine hfin w1 t1 M a1 a2 a3 (fun q h1 h2 h3 => ?_)
      by_cases h8 : q < p
      · exact a4 q h8 h2 h3
      · have := (hbt q).mp h2
        rw [hz q (by omega)] at this; cases this
    · rw [bsz (y := 0) hPm2 (by omega)]
      refine ⟨fun h9 => ?_, fun h9 => ?_⟩
      · rw [show ((p : Int) + 1) = ((p + 1 : Nat) : Int) by omega]
        refine ihk (p + 1) w1 t1 M (by omega) a1 a2 a3 (fun q h1 h2 h3 => ?_)
        by_cases h8 : q = p
        · have := (hbt q).mp h2
          rw [h8, h9] at this; cases this
        · exact a4 q (by omega) h2 h3
      · have h8 : ((spP m l i &&& mfG m g) &&& byL m c).testBit p = true := by cases h7 : ((spP m l i &&& mfG m g) &&& byL m c).testBit p; exact absurd h7 h9; rfl
        have hsb := (hbt p).mpr h8
        have h7 := hsb.1
        rw [Nat.testBit_and] at h7
        obtain ⟨h5, h6⟩ := Bool.and_eq_true_iff.mp h7
        obtain ⟨e1, e2⟩ := mf_goes (by omega) h6
        obtain ⟨q1, q2⟩ := (ws_spel hp hl i g hA).2.1 p (by omega) h5 h6
        have rg1 := a1.1.rg
        have hT1 := hT0.in' a1.1.1
        have har := a1.1.arc hp hr hs hky (p := p) (by omega) h6
        have har2 := WCx_arc2 hr a1.1 hs hky (p := p) (by omega) h6
        have hxp : RcR m l (p :: xr) = some (spB m i p, gN g p) := by
          unfold RcR
          rw [hxr]
          dsimp only
          rw [decide_eq_true (show p < 16 by omega), hsb.1]; rfl
        refine ⟨⟨by rw [rg1.2.1, Int.toNat_natCast]; exact rg1, ⟨by omega, by rw [rg1.2.1]; omega⟩, by omega, by omega⟩, ?_⟩
        rintro x1 rfl
        rw [Int.toNat_natCast, Int.toNat_natCast]
        -- both ways of going on
        have hgo : ∀ nx : Int, nx = ((spB m i p : Nat) : Int) → ∃ γ2 : Nat × t3 × (Nat → Prop) × List Nat, PuR m l w0 b N KY γ2 (n : Int) (mA w1 s p) nx w1 t1 ∧ ∀ w3 t4, PuO m l w0 b N KY γ2 (n : Int) (mA w1 s p) nx w1 t1 w3 t4 → Ev (d + 22) 98 (fun r S2 => ∃ w2 t2, r = none ∧ S2 = enc w2 t2 ∧ AbO m l w0 b N KY (s, i, g, G, L) ((s * 7 + i : Nat) : Int) (c : Int) (n : Int) w t w2 t2) 35 [rA 58, (0, ((s * 7 + i : Nat) : Int)), (0, (c : Int)), (0, (n : Int)), (0, (s : Int)), (0, (i : Int)), (0, (((spP m l i &&& mfG m g) &&& byL m c : Nat) : Int)), (0, (p : Int) + 1)] [] (enc w3 t4) := fun nx hnx => by
          have hstate : ∀ s2 : Nat, mA w1 s p = (s2 : Int) → s2 < N → KY s2 = ((kyG m (gN g p) : Nat) : Int) := fun s2 h1 h2 => by
            rcases har with ⟨r1, _⟩ | ⟨s3, r1, r2, r3⟩
            · omega
            · rw [show s2 = s3 by omega]; exact r3
          refine ⟨(spB m i p, gN g p, G, L ++ M), ⟨⟨q1, hnx, har, fun s2 h1 => by
            rcases har2 with ⟨r1, _⟩ | ⟨hmf2, s3, r1, r2, r3⟩
            · omega
            · rw [show s2 = s3 by omega]; exact a1.2 (spB m i p) s3 (gN g p) ⟨p :: xr, hxp⟩ hmf2 r1 r3⟩, a1, by omega, hG, by rw [Int.toNat_natCast]; exact a3, fun s2 h1 h2 h3 => ?_⟩, ?_⟩
          · rw [Int.toNat_natCast] at h3
            exact hsu p s2 (by omega) hsb h2 (hstate s2 h1 h2) h3
          · rintro w3 t4 ⟨b1, b2, M2, b3, b4, b5⟩
            rw [Int.toNat_natCast] at b2 b3
            have b3 : SpS w3 n G (L ++ M ++ M2) := b3
            rw [List.append_assoc] at b3
            rw [show ((p : Int) + 1) = ((p + 1 : Nat) : Int) by omega]
            refine ihk (p + 1) w3 t4 (M ++ M2) (by omega) b1 (a2.tr b2) b3 (fun q h1 h2 h3 => ?_)
            rw [← List.append_assoc]
            by_cases h4 : q = p
            · subst h4
              rcases har with ⟨_, r2⟩ | ⟨s3, r1, r2, r3⟩
              · rw [fwl_z hp hl r2] at h3; omega
              · exact ⟨s3, r1, r3, b5 s3 r2 (by rw [Int.toNat_natCast]; exact h3)⟩
            · obtain ⟨s2, z1, z2, z3⟩ := a4 q (by omega) h2 h3
              exact ⟨s2, z1, z2, List.mem_append_left _ z3⟩
        refine ⟨⟨hT1.1, hp, by omega, by omega⟩, fun hI => hgo _ ?_, fun hI => hgo _ ?_⟩
        · unfold spB; rw [hI, if_neg (by decide)]; omega
        · unfold spB; rw [hI, if_pos rfl]
/-- the spots of a level: reached so, and not without hope -/
def GV (m : eW) (l : List Int) (N : Nat) (KY : Nat → Int) (n : Nat) (R : Nat → t3 → Prop) (c : Nat) : Prop := ∃ (s i : Nat) (g : t3), s < N ∧ KY s = ((kyG m g : Nat) : Int) ∧ spA m l i g ∧ c = s * 7 + i ∧ R i g ∧ n + fwl m l i g ≤ 6
/-- closed under pairs without lower sign -/
def Clo (m : eW) (l : List Int) (N : Nat) (KY : Nat → Int) (n : Nat) (Ls L : List Nat) : Prop := ∀ (s i : Nat) (g : t3), s * 7 + i ∈ Ls → s < N → spA m l i g → KY s = ((kyG m g : Nat) : Int) → ∀ p : Nat, p < 16 → sB m l i g 0 p → n + fwl m l (spB m i p) (gN g p) ≤ 6 → ∃ s2 : Nat, s2 < N ∧ KY s2 = ((kyG m (gN g p) : Nat) : Int) ∧ s2 * 7 + spB m i p ∈ L
theorem sB_k {m : eW} (hr : WFr m) {l : List Int} {i c p : Nat} {g h : t3} (e : kyG m g = kyG m h) : sB m l i g c p ↔ sB m l i h c p := by
  unfold sB
  rw [(ky_inj hr e).1]
theorem code_un {s i s2 i2 : Nat} (h : s * 7 + i = s2 * 7 + i2) (h1 : i ≤ 6) (h2 : i2 ≤ 6) : s = s2 ∧ i = i2 := by omega
def AsO (m : eW) (l : List Int) (w0 : eW) (b : Nat × Nat) (N : Nat) (KY : Nat → Int) (n : Nat) (G : Nat → Prop) (L : List Nat) (w : eW) (w2 : eW) (t2 : eT) : Prop := WCn m l w0 b N KY w2 t2 ∧ VFr n w w2 ∧ ∃ M : List Nat, SpS w2 n G (L ++ M) ∧ Clo m l N KY n (L ++ M) (L ++ M)
theorem c_ads {d : Nat} {m : eW} (hp : WFp m) (hr : WFr m) {l : List Int} (hl : LtO l) {w0 : eW} (hT0 : TlL w0 m l) {b : Nat × Nat} {N : Nat} {KY : Nat → Int} {n : Nat} (hn : n ≤ 6) {R : Nat → t3 → Prop} (hR : ∀ i g p, R i g → p < 16 → sB m l i g 0 p → R (spB m i p) (gN g p)) (hRc : ∀ i g, R i g → ∃ x, RcR m l x = some (i, g)) (hG : GRm (GV m l N KY n R)) {w : eW} {t : eT} {L : List Nat} (hc : WCn m l w0 b N KY w t) (hS : SpS w n (GV m l N KY n R) L) : Cl (d + 23) 97 [rA 58, (0, (n : Int))] (enc w t) (fun r S2 => ∃ w2 t2, r = none ∧ S2 = enc w2 t2 ∧ AsO m l w0 b N KY n (GV m l N KY n R) L w w2 t2) := by
  have hl6 := hl.1.2
  refine g_ads0 ?_
  suffices hk : ∀ (k j : Nat) (w1 : eW) (t1 : eT) (M : List Nat), j + k = 190 → j ≤ (L ++ M).length → WCn m l w0 b N KY w1 t1 → VFr n w w1 → SpS w1 n (GV m l N KY n R) (L ++ M) → Clo m l N KY n ((L ++ M).take j) (L ++ M) → Ev (d + 23) 97 (fun r S2 => ∃ w2 t2, r = none ∧ S2 = enc w2 t2 ∧ AsO m l w0 b N KY n (GV m l N KY n R) L w w2 t2) 2 [rA 58, (0, (n : Int)), (0, (j : Int))] [] (enc w1 t1) from hk 190 0 w t [] (by omega) (Nat.zero_le _) hc (VFr.rf _ _) (by rw [List.append_nil]; exact hS) (fun s i g h => by rw [List.take_zero] at h; cases h)
  intro k
  induction k with
  | zero =>
    intro j w1 t1 M hj hle _ _ a3 _
    have := hG.1 _ a3.1.1 a3.1.2
    omega
  | succ k ih =>
    intro j w1 t1 M hj hle a1 a2 a3 a4
    have hlen := hG.1 _ a3.1.1 a3.1.2
    refine g_ads1 (c_adb hp hr hl hT0 (b := b) (N := N) (KY := KY)) ?_
    rw [w32_id (x := (n : Int)) (by omega), Int.toNat_natCast, a3.2.1, w32_id (x := ((L ++ M).length : Int)) (by omega), w32_id (x := (j : Int)) (by omega), w32_id (x := (200 : Int)) (by omega), w32_id (x := (n : Int) * 200 + (j : Int)) (by omega), show ((n : Int) * 200 + (j : Int)).toNat = 200 * n + j by omega]
    refine ⟨by omega, fun h9 => ?_, fun h9 => ⟨fun h8 => by omega, fun _ => ⟨by omega, ?_⟩⟩⟩
    · refine ⟨w1, t1, rfl, rfl, a1, a2, M, a3, ?_⟩
      rw [List.take_of_length_le (by omega)] at a4
      exact a4
    · have hjl : j < (L ++ M).length := by omega
      rw [a3.2.2 j hjl]
      obtain ⟨s, i, g, g1, g2, g3, g4, g5, g6⟩ := a3.1.2 _ (getD_mem hjl)
      refine ⟨(s, i, g, GV m l N KY n R, L ++ M), ⟨⟨g1, g2, g3, by rw [g4], hRc i g g5⟩, by omega, a1, by omega, hG, by rw [Int.toNat_natCast]; exact a3, fun p s2 h1 h2 h3 h4 h5 => ?_⟩, ?_⟩
      · rw [Int.toNat_natCast] at h5
        have h2 : sB m l i g 0 p := h2
        have h7 := h2.1
        rw [Nat.testBit_and] at h7
        obtain ⟨h8, h9⟩ := Bool.and_eq_true_iff.mp h7
        exact ⟨s2, spB m i p, gN g p, h3, h4, ((ws_spel hp hl i g g3).2.1 p h1 h8 h9).1, rfl, hR i g p g5 h1 h2, h5⟩
      · rintro w3 t4 ⟨b1, b2, M2, b3, b4⟩
        rw [Int.toNat_natCast] at b2 b3 b4
        have b3 : SpS w3 n (GV m l N KY n R) (L ++ M ++ M2) := b3
        have b4 : ∀ p : Nat, p < 16 → sB m l i g 0 p → n + fwl m l (spB m i p) (gN g p) ≤ 6 → ∃ s2 : Nat, s2 < N ∧ KY s2 = ((kyG m (gN g p) : Nat) : Int) ∧ s2 * 7 + spB m i p ∈ L ++ M ++ M2 := b4
        rw [List.append_assoc] at b3 b4
        rw [show ((j : Int) + 1) = ((j + 1 : Nat) : Int) by omega]
        refine ih (j + 1) w3 t4 (M ++ M2) (by omega) ?_ b1 (a2.tr b2) b3 ?_
        · rw [← List.append_assoc, List.length_append]; omega
        · intro s3 i3 h3 z1 z2 z3 z4 p z5 z6 z7
          rw [← List.append_assoc] at z1 ⊢
          rw [List.take_append_of_le_length (by omega), List.take_succ] at z1
          rcases List.mem_append.mp z1 with z8 | z8
          · obtain ⟨s2, y1, y2, y3⟩ := a4 s3 i3 h3 z8 z2 z3 z4 p z5 z6 z7
            exact ⟨s2, y1, y2, List.mem_append_left _ y3⟩
          · have ez : s3 * 7 + i3 = s * 7 + i := by
              rw [List.getElem?_eq_getElem hjl] at z8
              have z8 : s3 * 7 + i3 ∈ [(L ++ M)[j]] := z8
              rw [List.mem_singleton] at z8
              rw [z8, ← g4, List.getD_eq_getElem?_getD, List.getElem?_eq_getElem hjl]; rfl
            have hi3 : i3 ≤ l.length := z3.1
            have hi4 : i ≤ l.length := g3.1
            obtain ⟨rfl, rfl⟩ := code_un ez (by omega) (by omega)
            have ek : kyG m h3 = kyG m g := by rw [z4] at g2; omega
            have en := (ky_nx hr ek (p := p) (by omega)).2
            have h7 := ((sB_k hr ek).mp z6).1
            rw [Nat.testBit_and] at h7
            obtain ⟨h8, h9⟩ := Bool.and_eq_true_iff.mp h7
            have hA2 := ((ws_spel hp hl i3 g g3).2.1 p z5 h8 h9).1
            have h7' := z6.1
            rw [Nat.testBit_and] at h7'
            obtain ⟨h8', h9'⟩ := Bool.and_eq_true_iff.mp h7'
            have hA3 := ((ws_spel hp hl i3 h3 z3).2.1 p z5 h8' h9').1
            obtain ⟨s2, y1, y2, y3⟩ := b4 p z5 ((sB_k hr ek).mp z6) (by rw [← fwl_k hp hr hl hA3 hA2 en]; exact z7)
            exact ⟨s2, y1, by rw [en]; exact y2, y3⟩
