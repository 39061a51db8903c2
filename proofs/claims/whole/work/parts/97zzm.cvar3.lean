/-! The class: unlike spellings: fewestLetters. -/

def flP (m : eW) (l : List Int) (N : Nat) (KY : Nat → Int) (key v : Int) : Prop := ∀ (i s : Nat) (g : t3), spA m l i g → s < N → KY s = ((kyG m g : Nat) : Int) → key = ((s * 7 + i : Nat) : Int) → v = ((fwl m l i g : Nat) : Int)
/-- closed: with a spot all that a row leads to from there -/
def ClB (m : eW) (l : List Int) (N : Nat) (KY : Nat → Int) (S : List Nat) : Prop := ∀ (s i : Nat) (g : t3), s * 7 + i ∈ S → s < N → spA m l i g → KY s = ((kyG m g : Nat) : Int) → ∀ p : Nat, p < 16 → (spP m l i &&& mfG m g).testBit p = true → ¬ mfG m (gN g p) = 0 → ∀ s2 : Nat, s2 < N → KY s2 = ((kyG m (gN g p) : Nat) : Int) → s2 * 7 + spB m i p ∈ S
def FlR (m : eW) (l : List Int) (w0 : eW) (b : Nat × Nat) (N : Nat) (KY : Nat → Int) (Bd : Nat) (γ : Nat × t3 × List Nat) (sa ii dp : Int) (w : eW) (t : eT) : Prop := spA m l γ.1 γ.2.1 ∧ ii = (γ.1 : Int) ∧ Sta N KY m γ.2.1 sa ∧ spM m l γ.1 γ.2.1 < Bd ∧ (0 ≤ dp ∧ dp + (spM m l γ.1 γ.2.1 : Int) ≤ 13) ∧ WCx m (flP m l N KY) w0 b N KY w t ∧ Bk N w t γ.2.2 ∧ ClB m l N KY γ.2.2
def FlO (m : eW) (l : List Int) (b : Nat × Nat) (N : Nat) (KY : Nat → Int) (γ : Nat × t3 × List Nat) (sa _ _ : Int) (w : eW) (t : eT) (x : Int) (w2 : eW) (t2 : eT) : Prop := x = ((fwl m l γ.1 γ.2.1 : Nat) : Int) ∧ MR w t w2 t2 ∧ MC (flP m l N KY) b m w2 t2 ∧ ∃ S2, Bk N w2 t2 S2 ∧ ClB m l N KY S2 ∧ (∀ a ∈ γ.2.2, a ∈ S2) ∧ ∀ s : Nat, sa = (s : Int) → s * 7 + γ.1 ∈ S2
theorem WCx_arc2 {m : eW} {Pm : Int → Int → Prop} {w0 : eW} {b : Nat × Nat} {N : Nat} {KY : Nat → Int} {w : eW} {t : eT} (hr : WFr m) (h : WCx m Pm w0 b N KY w t) {s p : Nat} {g : t3} (hs : s < N) (hk : KY s = ((kyG m g : Nat) : Int)) (hp16 : p < 16) (hb : (mfG m g).testBit p = true) : (mA w s p = -1 ∧ mfG m (gN g p) = 0) ∨ (¬ mfG m (gN g p) = 0 ∧ ∃ s2 : Nat, s2 < N ∧ mA w s p = (s2 : Int) ∧ KY s2 = ((kyG m (gN g p) : Nat) : Int)) := by
  obtain ⟨i, mc, ma, ⟨n1, n2⟩, ky⟩ := h
  have hn : mN w = N := by unfold mN; rw [n1, Int.toNat_natCast]
  obtain ⟨a, b', c, t1, t2, t3, _⟩ := ma.2.2.1 s (by omega)
  have e : kyG m (a, b', c) = kyG m g := by
    have h1 := ky s
    rw [t2, hk] at h1
    have h1 : ((kyG m (a, b', c) : Nat) : Int) = ((kyG m g : Nat) : Int) := h1
    omega
  have em : mfG m (a, b', c) = mfG m g := (ky_inj hr e).1
  have en := (ky_nx hr e (p := p) (by omega)).2
  have em2 : mfG m (gN (a, b', c) p) = mfG m (gN g p) := (ky_inj hr en).1
  have t4 := t3 p hp16
  have eb : (mfB m a b' c).testBit p = true := by
    have : mfB m a b' c = mfG m g := em
    rw [this]; exact hb
  rw [if_pos eb] at t4
  by_cases h0 : mfB m b' c p = 0
  · rw [if_pos h0] at t4
    have : mfG m (gN g p) = 0 := by rw [← em2]; exact h0
    exact Or.inl ⟨t4, this⟩
  · rw [if_neg h0] at t4
    obtain ⟨s2, q1, q2, q3, _⟩ := t4
    refine Or.inr ⟨fun h9 => h0 (by rw [← em2] at h9; exact h9), s2, by omega, q2, ?_⟩
    rw [← ky s2, q3, ← en]
    rfl
theorem mnF_cut {h : Nat → Nat} {p : Nat} : ∀ k, (∀ q, p ≤ q → q < p + k → h q = 1000) → mnF h (p + k) = mnF h p := by
  intro k
  induction k with
  | zero => intro _; rfl
  | succ k ih =>
    intro hh
    show min (mnF h (p + k)) (h (p + k)) = mnF h p
    rw [ih (fun q h1 h2 => hh q h1 (by omega)), hh (p + k) (by omega) (by omega)]
    have := mnF_1000 h p
    omega
set_option maxHeartbeats 1000000 in
theorem c_fl {d : Nat} {m : eW} (hp : WFp m) (hr : WFr m) {l : List Int} (hl : LtO l) {w0 : eW} (hT0 : TlL w0 m l) {b : Nat × Nat} {N : Nat} {KY : Nat → Int} (hKD : ∀ s s2, s < N → s2 < N → KY s = KY s2 → s = s2) : ∀ (Bd : Nat) (γ : Nat × t3 × List Nat) (sa ii dp : Int) (w : eW) (t : eT), FlR m l w0 b N KY Bd γ sa ii dp w t → Cl (d + Bd + 5) 100 [rA 58, (0, sa), (0, ii), (0, dp)] (enc w t) (fun r S2 => ∃ x w2 t2, r = some (0, x) ∧ S2 = enc w2 t2 ∧ FlO m l b N KY γ sa ii dp w t x w2 t2) := by
  have hn16 : nP m ≤ 16 := by have := hp.1; unfold nP; omega
  have hl6 := hl.1.2
  intro Bd
  induction Bd with
  | zero => rintro γ sa ii dp w t ⟨_, _, _, h, _⟩; omega
  | succ Bd ih =>
    rintro ⟨i, g, S⟩ sa ii dp w t ⟨hA, rfl, hs, hμ, hdp, hc, hB, hCl⟩
    replace hA : spA m l i g := hA
    replace hs : Sta N KY m g sa := hs
    replace hμ : spM m l i g < Bd + 1 := hμ
    replace hdp : 0 ≤ dp ∧ dp + (spM m l i g : Int) ≤ 13 := hdp
    replace hB : Bk N w t S := hB
    replace hCl : ClB m l N KY S := hCl
    show Cl (d + (Bd + 1) + 5) 100 [rA 58, (0, sa), (0, (i : Int)), (0, dp)] (enc w t) _
    have hi6 : i ≤ l.length := hA.1
    have rg := hc.rg
    have hN := rg.2.1
    have hNl := rg.2.2.2
    have hT := hT0.in' hc.1
    have hmf : mfG m g < 131072 := mfB_lt m g.1 g.2.1 g.2.2
    have hf1000 : fwl m l i g ≤ 1000 := fwF_1000 (m := m) (l := l) 14 i g
    refine g_fl0 (m := m) (l := l) (b := b) (P := flP m l N KY) ?_
    rw [w32_id (x := (13 : Int)) (by omega), w32_id (x := dp) (by omega), w32_id (x := (-1 : Int)) (by omega)]
    rcases hs with ⟨rfl, hz⟩ | ⟨s, hs, rfl, hky⟩
    · refine ⟨fun _ => ⟨1000, w, t, rfl, rfl, ?_, MR.rf _ _, hc.2.1, S, hB, hCl, fun a ha => ha, fun s h9 => by omega⟩, fun h9 => absurd (w32_id (by omega)) h9⟩
      show (1000 : Int) = ((fwl m l i g : Nat) : Int)
      rw [fwl_z hp hl hz]; rfl
    rw [w32_id (x := (s : Int)) (by omega)]
    have ek : (s : Int) * 7 + (i : Int) = ((s * 7 + i : Nat) : Int) := by omega
    rw [ek]
    refine ⟨fun h9 => by omega, fun _ => ⟨fun _ => ⟨⟨hc.2.1, by omega, by omega⟩, fun x1 hx1 => ?_⟩, fun h9 => by omega⟩⟩
    have hP2 : flP m l N KY ((s * 7 + i : Nat) : Int) ((fwl m l i g : Nat) : Int) := fun i2 s2 g2 a1 a2 a3 a4 => by
      have h1 : i2 ≤ l.length := a1.1
      have e1 : i2 = i := by omega
      have e2 : s2 = s := by omega
      subst e1; subst e2
      rw [fwl_k hp hr hl hA a1 (by rw [hky] at a3; omega)]
    have hx2 : ¬ (w64 x1 < w64 0) → x1 = ((fwl m l i g : Nat) : Int) ∧ s * 7 + i ∈ S := fun h => by
      rcases hx1 with ⟨rfl, _⟩ | ⟨h1, j, j1, j2, j3⟩
      · exact absurd (by decide) h
      · refine ⟨h1 i s g hA hs hky rfl, ?_⟩
        obtain ⟨c, c1, c2⟩ := hB.2.2.2.2 j j1 j2
        rw [j3] at c2
        have : s * 7 + i = c := by omega
        rw [this]; exact c1
    refine ⟨fun h9 => ?_, fun h9 => ⟨x1, w, t, rfl, rfl, (hx2 h9).1, MR.rf _ _, hc.2.1, S, hB, hCl, fun a ha => ha, fun s2 h2 => by rw [show s2 = s by omega]; exact (hx2 h9).2⟩⟩
    clear hx1 hx2 h9
    -- the end
    have hend : ∀ (w1 : eW) (t1 : eT) (fe ft p : Int) (J1 J2 : aV) (S1 : List Nat), MR w t w1 t1 → MC (flP m l N KY) b m w1 t1 → (Bk N w1 t1 S1 ∧ ClB m l N KY S1 ∧ ∀ a ∈ S, a ∈ S1) → (∀ p, p < 16 → (spP m l i &&& mfG m g).testBit p = true → ¬ mfG m (gN g p) = 0 → ∀ s2, s2 < N → KY s2 = ((kyG m (gN g p) : Nat) : Int) → s2 * 7 + spB m i p ∈ S1) → fe = ((fwl m l i g : Nat) : Int) → Ev (d + (Bd + 1) + 5) 100 (fun r S2 => ∃ x w2 t2, r = some (0, x) ∧ S2 = enc w2 t2 ∧ FlO m l b N KY (i, g, S) (s : Int) (i : Int) dp w t x w2 t2) 188 [rA 58, (0, (s : Int)), (0, (i : Int)), (0, dp), (0, ((s * 7 + i : Nat) : Int)), (1, x1), (9, 0), (0, fe), (0, ft), (0, p), J1, J2] [] (enc w1 t1) := fun w1 t1 fe ft p J1 J2 S1 m1 m2 ⟨hB1, hC1, hS1⟩ hch hfe => by
      subst hfe
      refine g_fl4 (m := m) (l := l) (b := b) (P := flP m l N KY) ?_
      have hf2 : fwl m l i g ≤ 1000 := hf1000
      have hlen := bk_len hB1
      rw [w32_id (x := ((fwl m l i g : Nat) : Int)) (by omega)]
      refine ⟨⟨m2, by omega, hP2, hB1.2.1, by have := hB1.2.2.1; omega⟩, fun w2 t2 hq => ?_⟩
      obtain ⟨q1, q2, q3⟩ := hq
      obtain ⟨S2, b1, b2, b3, b4⟩ := bk_put hB1 (c := s * 7 + i) (by omega) q3
      refine ⟨_, w2, t2, rfl, rfl, rfl, m1.tr q1, q2, S2, b1, ?_, fun a ha => b2 a (hS1 a ha), fun s2 h2 => by rw [show s2 = s by omega]; exact b3⟩
      intro s' i' g' z1 z2 z3 z4 p' z5 z6 z7 s2 z8 z9
      rcases b4 _ z1 with z10 | z10
      · exact b2 _ (hC1 s' i' g' z10 z2 z3 z4 p' z5 z6 z7 s2 z8 z9)
      · have hi' : i' ≤ l.length := z3.1
        have e1 : s' = s ∧ i' = i := by omega
        obtain ⟨rfl, rfl⟩ := e1
        have ek2 : kyG m g' = kyG m g := by rw [z4] at hky; omega
        have en := (ky_nx hr ek2 (p := p') (by omega)).2
        have em := (ky_inj hr ek2).1
        exact b2 _ (hch p' z5 (by rw [← em]; exact z6) (by rw [← (ky_inj hr en).1]; exact z7) s2 z8 (by rw [← en]; exact z9))
    generalize hF : (fun p => if (spP m l i &&& mfG m g).testBit p then ow m p + fwl m l (spB m i p) (gN g p) else 1000) = F
    have hPm : spP m l i &&& mfG m g < 131072 := Nat.lt_of_le_of_lt Nat.and_le_right hmf
    have hpr : ∀ e0 : Nat, e0 ≤ 1000 → fwl m l i g = min e0 (mnF F 16) → ∀ (k p : Nat) (w1 : eW) (t1 : eT) (J1 J2 : aV) (S1 : List Nat), p + k = 16 → MR w t w1 t1 → MC (flP m l N KY) b m w1 t1 → (Bk N w1 t1 S1 ∧ ClB m l N KY S1 ∧ ∀ a ∈ S, a ∈ S1) → (∀ q, q < p → (spP m l i &&& mfG m g).testBit q = true → ¬ mfG m (gN g q) = 0 → ∀ s2, s2 < N → KY s2 = ((kyG m (gN g q) : Nat) : Int) → s2 * 7 + spB m i q ∈ S1) → Ev (d + (Bd + 1) + 5) 100 (fun r S2 => ∃ x w2 t2, r = some (0, x) ∧ S2 = enc w2 t2 ∧ FlO m l b N KY (i, g, S) (s : Int) (i : Int) dp w t x w2 t2) 87 [rA 58, (0, (s : Int)), (0, (i : Int)), (0, dp), (0, ((s * 7 + i : Nat) : Int)), (1, x1), (9, 0), (0, ((min e0 (mnF F p) : Nat) : Int)), (0, ((spP m l i &&& mfG m g : Nat) : Int)), (0, (p : Int)), J1, J2] [] (enc w1 t1) := fun e0 he0 hfw => by
      intro k
      induction k with
      | zero =>
        intro p w1 t1 J1 J2 S1 he m1 m2 hS hch
        refine g_fl1 (m := m) (l := l) (b := b) (P := flP m l N KY) ?_
        have : p = 16 := by omega
        subst this
        exact ⟨fun _ => hend w1 t1 _ _ _ _ _ S1 m1 m2 hS hch (by rw [hfw]), fun h9 => absurd (by decide) h9⟩
      | succ k ihk =>
        intro p w1 t1 J1 J2 S1 he m1 m2 hS hch
        have hm1000 := mnF_1000 F p
        refine g_fl1 (m := m) (l := l) (b := b) (P := flP m l N KY) ?_
        rw [w32_id (x := 16) (by omega), w32_id (x := (p : Int)) (by omega), Int.toNat_natCast]
        refine ⟨fun h9 => by omega, fun _ => ⟨fun h9 => ?_, fun _ => ?_⟩⟩
        · have hz := sh_z hPm (by omega) h9
          refine hend w1 t1 _ _ _ _ _ S1 m1 m2 hS (fun q h1 h2 => ?_) ?_
          · by_cases h8 : q < p
            · exact hch q h8 h2
            · rw [hz q (by omega)] at h2; cases h2
          · rw [hfw, show (16 : Nat) = p + (k + 1) by omega, mnF_cut (h := F) (p := p) (k + 1) (fun q h1 h2 => by rw [← hF]; show (if (spP m l i &&& mfG m g).testBit q then _ else _) = _; rw [hz q h1, if_neg (by decide)])]
        · rw [bsz (y := 0) hPm (by omega)]
          have hnx : mnF F (p + 1) = min (mnF F p) (F p) := rfl
          refine ⟨fun h9 => ?_, fun h9 => ?_⟩
          · have hFp : F p = 1000 := by rw [← hF]; show (if (spP m l i &&& mfG m g).testBit p then _ else _) = _; rw [h9, if_neg (by decide)]
            have := ihk (p + 1) w1 t1 J1 J2 S1 (by omega) m1 m2 hS (fun q h1 h2 => by
              by_cases h8 : q = p
              · rw [h8, h9] at h2; cases h2
              · exact hch q (by omega) h2)
            rw [hnx, hFp, show min (mnF F p) 1000 = mnF F p by omega] at this
            rw [show ((p : Int) + 1) = ((p + 1 : Nat) : Int) by omega]
            exact this
          · have h8 : (spP m l i &&& mfG m g).testBit p = true := by cases h7 : (spP m l i &&& mfG m g).testBit p; exact absurd h7 h9; rfl
            have hFp : F p = ow m p + fwl m l (spB m i p) (gN g p) := by rw [← hF]; show (if (spP m l i &&& mfG m g).testBit p then _ else _) = _; rw [h8, if_pos rfl]
            have h7 := h8
            rw [Nat.testBit_and] at h7
            obtain ⟨h5, h6⟩ := Bool.and_eq_true_iff.mp h7
            obtain ⟨e1, e2⟩ := mf_goes (by omega) h6
            obtain ⟨q1, q2⟩ := (ws_spel hp hl i g hA).2.1 p (by omega) h5 h6
            have hc1 := hc.mr m1 m2
            have hT1 := hT0.in' hc1.1
            have rg1 := hc1.rg
            obtain ⟨_, a2, _⟩ := hp.2.1 p e1
            have hcd := cdI_z a2
            have hcb : 0 ≤ cdI (m 69 p) ∧ cdI (m 69 p) ≤ 28 := by unfold cdI; split <;> omega
            have hf2 : fwl m l (spB m i p) (gN g p) ≤ 1000 := fwF_1000 14 _ _
            have har2 := WCx_arc2 hr hc1 hs hky (p := p) (by omega) h6
            rw [(hT1.1.2.1 p e1).2, w32_id (x := cdI (m 69 p)) (by omega)]
            -- the pair's own letter, and where it leads
            have hgo : ∀ o : Nat, o = ow m p → Ev (d + (Bd + 1) + 5) 100 (fun r S2 => ∃ x w2 t2, r = some (0, x) ∧ S2 = enc w2 t2 ∧ FlO m l b N KY (i, g, S) (s : Int) (i : Int) dp w t x w2 t2) 132 [rA 58, (0, (s : Int)), (0, (i : Int)), (0, dp), (0, ((s * 7 + i : Nat) : Int)), (1, x1), (9, 0), (0, ((min e0 (mnF F p) : Nat) : Int)), (0, ((spP m l i &&& mfG m g : Nat) : Int)), (0, (p : Int)), (0, (o : Int)), J2] [] (enc w1 t1) := fun o ho => by
              have ho1 : o ≤ 1 := by rw [ho]; unfold ow; split <;> omega
              have hgo2 : ∀ nx : Int, nx = ((spB m i p : Nat) : Int) → Ev (d + (Bd + 1) + 5) 100 (fun r S2 => ∃ x w2 t2, r = some (0, x) ∧ S2 = enc w2 t2 ∧ FlO m l b N KY (i, g, S) (s : Int) (i : Int) dp w t x w2 t2) 153 [rA 58, (0, (s : Int)), (0, (i : Int)), (0, dp), (0, ((s * 7 + i : Nat) : Int)), (1, x1), (9, 0), (0, ((min e0 (mnF F p) : Nat) : Int)), (0, ((spP m l i &&& mfG m g : Nat) : Int)), (0, (p : Int)), (0, (o : Int)), (0, nx)] [] (enc w1 t1) := fun nx hnxx => by
                refine g_fl3 (m := m) (l := l) (b := b) (P := flP m l N KY) ih ⟨⟨by rw [rg1.2.1, Int.toNat_natCast]; exact rg1, ⟨by omega, by rw [rg1.2.1]; omega⟩, by omega, by omega⟩, ?_⟩
                rintro x2 rfl
                rw [Int.toNat_natCast, Int.toNat_natCast]
                refine ⟨(spB m i p, gN g p, S1), ⟨q1, hnxx, hc1.arc hp hr hs hky (by omega) h6, by show spM m l (spB m i p) (gN g p) < Bd; omega, by show 0 ≤ dp + 1 ∧ dp + 1 + (spM m l (spB m i p) (gN g p) : Int) ≤ 13; omega, hc1, hS.1, hS.2.1⟩, ?_⟩
                rintro x3 w4 t5 ⟨rfl, m3, m4, S3, b1, b2, b3, b4⟩
                replace b3 : ∀ a ∈ S1, a ∈ S3 := b3
                replace b4 : ∀ s2 : Nat, mA w1 s p = (s2 : Int) → s2 * 7 + spB m i p ∈ S3 := b4
                have := ihk (p + 1) w4 t5 (0, (o : Int)) (0, nx) S3 (by omega) (m1.tr m3) m4 ⟨b1, b2, fun a ha => b3 a (hS.2.2 a ha)⟩ (fun q z1 z2 z3 s2 z4 z5 => by
                  by_cases z6 : q = p
                  · subst z6
                    rcases har2 with ⟨_, y2⟩ | ⟨_, s3, y1, y2, y3⟩
                    · exact absurd y2 z3
                    · have es : s2 = s3 := hKD s2 s3 z4 y1 (by rw [z5, y3])
                      rw [es]; exact b4 s3 y2
                  · exact b3 _ (hch q (by omega) z2 z3 s2 z4 z5))
                show Ev (d + (Bd + 1) + 5) 100 _ 87 [rA 58, (0, (s : Int)), (0, (i : Int)), (0, dp), (0, ((s * 7 + i : Nat) : Int)), (1, x1), (9, 0), (0, if w32 ((o : Int) + ((fwl m l (spB m i p) (gN g p) : Nat) : Int)) < w32 ((min e0 (mnF F p) : Nat) : Int) then (o : Int) + ((fwl m l (spB m i p) (gN g p) : Nat) : Int) else ((min e0 (mnF F p) : Nat) : Int)), (0, ((spP m l i &&& mfG m g : Nat) : Int)), (0, (p : Int) + 1), (0, (o : Int)), (0, nx)] [] (enc w4 t5)
                rw [w32_id (x := (o : Int) + ((fwl m l (spB m i p) (gN g p) : Nat) : Int)) (by omega), w32_id (x := ((min e0 (mnF F p) : Nat) : Int)) (by omega), show ((p : Int) + 1) = ((p + 1 : Nat) : Int) by omega]
                have e9 : (if (o : Int) + ((fwl m l (spB m i p) (gN g p) : Nat) : Int) < ((min e0 (mnF F p) : Nat) : Int) then (o : Int) + ((fwl m l (spB m i p) (gN g p) : Nat) : Int) else ((min e0 (mnF F p) : Nat) : Int)) = ((min e0 (mnF F (p + 1)) : Nat) : Int) := by
                  rw [hnx, hFp, ← ho]
                  split <;> omega
                rw [e9]
                exact this
              refine g_fl2 (m := m) (l := l) (b := b) (P := flP m l N KY) ⟨⟨hT1.1, hp, by omega, by omega⟩, fun hI => hgo2 _ ?_, fun hI => hgo2 _ ?_⟩
              · rw [Int.toNat_natCast] at hI
                unfold spB; rw [hI, if_neg (by decide)]; omega
              · rw [Int.toNat_natCast] at hI
                unfold spB; rw [hI, if_pos rfl]
            refine ⟨by omega, fun h4 => hgo 1 ?_, fun h4 => hgo 0 ?_⟩
            · unfold ow; rw [if_neg (fun h3 => h4 (hcd.mpr h3))]
            · unfold ow; rw [if_pos (hcd.mp (Classical.not_not.mp h4))]
    -- begin
    have hvp : VpP m l g (s : Int) (i : Int) w t := ⟨⟨hT, hl, hp⟩, ⟨by rw [hN, Int.toNat_natCast]; exact rg, by omega, by rw [hN]; omega⟩, by rw [Int.toNat_natCast, hc.2.2.2.2 s]; exact hky, by omega, by omega⟩
    have hm16 := mnF_1000 F 16
    have hnw : (decide (i = l.length) && isE m (-1) g.1 g.2.1 g.2.2) = false → fwl m l i g = min 1000 (mnF F 16) := fun h => by rw [fwl_eq hp hl, h, if_neg (by decide), hF]; omega
    have hS0 : Bk N w t S ∧ ClB m l N KY S ∧ ∀ a ∈ S, a ∈ S := ⟨hB, hCl, fun a ha => ha⟩
    have hbeg : ∀ e0 : Nat, e0 ≤ 1000 → fwl m l i g = min e0 (mnF F 16) → Ev (d + (Bd + 1) + 5) 100 (fun r S2 => ∃ x w2 t2, r = some (0, x) ∧ S2 = enc w2 t2 ∧ FlO m l b N KY (i, g, S) (s : Int) (i : Int) dp w t x w2 t2) 87 [rA 58, (0, (s : Int)), (0, (i : Int)), (0, dp), (0, ((s * 7 + i : Nat) : Int)), (1, x1), (9, 0), (0, (e0 : Int)), (0, ((spP m l i &&& mfG m g : Nat) : Int)), (0, ((0 : Nat) : Int)), (9, 0), (9, 0)] [] (enc w t) := fun e0 h1 h2 => by
      have := hpr e0 h1 h2 16 0 w t (9, 0) (9, 0) S (by omega) (MR.rf _ _) hc.2.1 hS0 (fun q hq => absurd hq (Nat.not_lt_zero q))
      rw [show min e0 (mnF F 0) = e0 by show min e0 1000 = e0; omega] at this
      exact this
    rw [hT.2.1, w32_id (x := (i : Int)) (by omega), w32_id (x := (l.length : Int)) (by omega)]
    refine ⟨fun h9 => ⟨g, hvp, ?_⟩, fun h9 => ⟨g, ⟨hvp.2.1, hvp.2.2.1⟩, ?_⟩⟩
    · rintro x3 rfl
      rw [Int.toNat_natCast]
      exact hbeg 1000 (by omega) (hnw (by rw [decide_eq_false (by omega)]; rfl))
    · rintro x5 rfl
      cases hI : isE m (-1) g.1 g.2.1 g.2.2 with
      | false =>
        refine ⟨fun _ => ⟨g, hvp, ?_⟩, fun h8 => absurd (by decide) h8⟩
        rintro x7 rfl
        rw [Int.toNat_natCast]
        exact hbeg 1000 (by omega) (hnw (by rw [hI, Bool.and_false]))
      | true =>
        refine ⟨fun h8 => absurd h8 (by decide), fun _ => ⟨g, hvp, ?_⟩⟩
        rintro x9 rfl
        rw [Int.toNat_natCast]
        have hfw : fwl m l i g = 0 := by rw [fwl_eq hp hl, hI, decide_eq_true (show i = l.length by omega), Bool.and_self, if_pos rfl]
        exact hbeg 0 (by omega) (by rw [hfw]; omega)
