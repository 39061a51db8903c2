/-! The class: the machine is built: tails. -/

def tv (p : Nat → Bool) (n : Nat) : Nat := if fsN p (n + 1) 0 ≤ n then fsN p (n + 1) 0 else 7
theorem tv_c (p : Nat → Bool) (n : Nat) : (∃ k, k ≤ n ∧ p k = true ∧ (∀ j, j < k → p j = false) ∧ tv p n = k) ∨ ((∀ j, j ≤ n → p j = false) ∧ tv p n = 7) := by
  by_cases h : ∃ j, 0 ≤ j ∧ j < 0 + (n + 1) ∧ p j = true
  · obtain ⟨a1, a2, a3, a4⟩ := fsN_spec (P := p) (n + 1) 0 h
    refine Or.inl ⟨fsN p (n + 1) 0, by omega, a1, fun j hj => a4 j (by omega) hj, ?_⟩
    unfold tv
    rw [if_pos (by omega)]
  · have h2 : ∀ j, j ≤ n → p j = false := fun j hj => by
      cases h9 : p j
      · rfl
      · exact absurd ⟨j, by omega, by omega, h9⟩ h
    refine Or.inr ⟨h2, ?_⟩
    unfold tv
    rw [fsN_none (n + 1) 0 (fun j _ hj => h2 j (by omega)), if_neg (by omega)]
theorem tv_6 (p : Nat → Bool) : tv p 6 = fsN p 7 0 := by
  unfold tv
  have := fsN_le (P := p) 7 0
  by_cases h : fsN p (6 + 1) 0 ≤ 6
  · rw [if_pos h]
  · rw [if_neg h]
    have e : fsN p (6 + 1) 0 = fsN p 7 0 := rfl
    omega
theorem tv_le (p : Nat → Bool) {n : Nat} (hn : n ≤ 6) : tv p n ≤ 7 := by
  rcases tv_c p n with ⟨k, a1, _, _, a4⟩ | ⟨_, a4⟩ <;> omega
/-- just k -/
theorem tv_is {p : Nat → Bool} {n k : Nat} (hk : k ≤ n) (hn : n ≤ 6) : tv p n = k ↔ (p k = true ∧ ∀ j, j < k → p j = false) := by
  rcases tv_c p n with ⟨k2, a1, a2, a3, a4⟩ | ⟨a2, a4⟩
  · refine ⟨fun h => ?_, fun h => ?_⟩
    · rw [show k = k2 by omega]; exact ⟨a2, a3⟩
    · rcases Nat.lt_trichotomy k k2 with h1 | h1 | h1
      · rw [a3 k h1] at h; cases h.1
      · omega
      · have := h.2 k2 h1; rw [a2] at this; cases this
  · refine ⟨fun h => by omega, fun h => ?_⟩
    rw [a2 k hk] at h; cases h.1
theorem tv_s {p : Nat → Bool} {n : Nat} (hn : n + 1 ≤ 6) : (tv p n ≤ n + 1 → tv p (n + 1) = tv p n) ∧ (¬ tv p n ≤ n + 1 → (∀ j, j ≤ n → p j = false) ∧ tv p n = 7 ∧ tv p (n + 1) = if p (n + 1) then n + 1 else 7) := by
  rcases tv_c p n with ⟨k, a1, a2, a3, a4⟩ | ⟨a2, a4⟩
  · refine ⟨fun _ => ?_, fun h => by omega⟩
    rw [a4]
    exact (tv_is (by omega) hn).mpr ⟨a2, a3⟩
  · refine ⟨fun h => by omega, fun _ => ⟨a2, a4, ?_⟩⟩
    by_cases h : p (n + 1) = true
    · rw [if_pos h]
      exact (tv_is (by omega) hn).mpr ⟨h, fun j hj => a2 j (by omega)⟩
    · rw [if_neg h]
      rcases tv_c p (n + 1) with ⟨k, b1, b2, b3, b4⟩ | ⟨_, b4⟩
      · by_cases h1 : k = n + 1
        · rw [h1] at b2; exact absurd b2 h
        · rw [a2 k (by omega)] at b2; cases b2
      · exact b4
theorem eR_mf {m : eW} (hp : WFp m) {n : Nat} {g : t3} (h : eR m n g.1 g.2.1 g.2.2 = true) : mfG m g ≠ 0 := fun h0 => by
  have hn : nP m ≤ 16 := by have := hp.1; unfold nP; omega
  cases n with
  | zero =>
    have ht := mf_tb (m := m) (g := g) (p := 16) (by omega)
    rw [if_pos rfl, h0, Nat.zero_testBit] at ht
    have h : isE m (-1) g.1 g.2.1 g.2.2 = true := h
    rw [h] at ht; cases ht
  | succ n =>
    unfold eR at h
    obtain ⟨d, d1, d2⟩ := an_iff.mp h
    have ht := mf_tb (m := m) (g := g) (p := d) (by omega)
    rw [if_neg (by omega), h0, Nat.zero_testBit, decide_eq_true d1, (Bool.and_eq_true_iff.mp d2).1] at ht
    cases ht
def lt1 (w : eW) (s : Nat) (n : Int) (p : Nat) : Bool := !decide (mA w s p = -1) && decide (mTl w (mA w s p).toNat = n)
theorem c_ltt {d : Nat} {w : eW} {t : eT} {N s : Nat} {n : Int} (h : RgM w t N) (hs : s < N) (ha : ∀ p, p < 16 → mA w s p = -1 ∨ ∃ u : Nat, u < N ∧ mA w s p = (u : Int)) (ht : ∀ u, u < N → 0 ≤ mTl w u ∧ mTl w u ≤ 7) (hn : 0 ≤ n ∧ n ≤ 7) : Cl (d + 1) 37 [rA 37, (0, (s : Int)), (0, n)] (enc w t) (fun r S2 => r = some (0, bI (an (lt1 w s n) 16)) ∧ S2 = enc w t) := by
  obtain ⟨hD, hN, hl, hl2⟩ := h
  obtain ⟨_, _, ⟨R, hR, ⟨k1, l1⟩, _, _, _, ⟨k5, l5⟩, k6, l6⟩, _⟩ := hD
  rw [l1] at hl
  refine g_ltt0 ?_
  suffices hk : ∀ (k p : Nat) (J : aV), p + k = 16 → (∀ j, j < p → lt1 w s n j = false) → Ev (d + 1) 37 (fun r S2 => r = some (0, bI (an (lt1 w s n) 16)) ∧ S2 = enc w t) 2 [rA 37, (0, (s : Int)), (0, n), (0, (p : Int)), J] [] (enc w t) from hk 16 0 _ rfl (fun j hj => by omega)
  intro k
  induction k with
  | zero =>
    intro p J hp hj
    refine g_ltt1 ?_
    rw [show (p : Int) = 16 by omega, w32_id (x := 16) (by omega)]
    refine ⟨fun _ => ⟨?_, rfl⟩, fun h9 => by omega⟩
    have : an (lt1 w s n) 16 = false := by
      cases h9 : an (lt1 w s n) 16
      · rfl
      · obtain ⟨i, i1, i2⟩ := an_iff.mp h9
        rw [hj i (by omega)] at i2; cases i2
    rw [this]; rfl
  | succ k ih =>
    intro p J hp hj
    have hstep : lt1 w s n p = false → ∀ J, Ev (d + 1) 37 (fun r S2 => r = some (0, bI (an (lt1 w s n) 16)) ∧ S2 = enc w t) 2 [rA 37, (0, (s : Int)), (0, n), (0, (p : Int) + 1), J] [] (enc w t) := fun h9 J => by
      rw [show ((p : Int) + 1) = ((p + 1 : Nat) : Int) by omega]
      refine ih (p + 1) J (by omega) (fun j hj2 => ?_)
      by_cases h8 : j = p
      · rw [h8]; exact h9
      · exact hj j (by omega)
    refine g_ltt1 ?_
    rw [w32_id (x := 16) (by omega), w32_id (x := (p : Int)) (by omega), w32_id (x := (s : Int) * 16 + (p : Int)) (by omega), show ((s : Int) * 16 + (p : Int)).toNat = 16 * s + p by omega]
    refine ⟨fun h9 => by omega, fun _ => ⟨⟨k6, by omega, by omega⟩, ?_⟩⟩
    show (w32 (mA w s p) = w32 (-1) → Ev (d + 1) 37 _ 2 [rA 37, (0, (s : Int)), (0, n), (0, (p : Int) + 1), (0, mA w s p)] [] (enc w t)) ∧ (¬ (w32 (mA w s p) = w32 (-1)) → (dyK t (w 37 5) 20 ∧ 0 ≤ w32 (mA w s p) ∧ w32 (mA w s p) < dyL t (w 37 5)) ∧ ((¬ w32 (mTl w (w32 (mA w s p)).toNat) = w32 n → Ev (d + 1) 37 _ 2 [rA 37, (0, (s : Int)), (0, n), (0, (p : Int) + 1), (0, mA w s p)] [] (enc w t)) ∧ (¬ (¬ w32 (mTl w (w32 (mA w s p)).toNat) = w32 n) → _)))
    rcases ha p (by omega) with h1 | ⟨u, h1, h2⟩
    · have e : lt1 w s n p = false := by unfold lt1; rw [h1]; rfl
      rw [h1]
      exact ⟨fun _ => hstep e _, fun h9 => absurd rfl h9⟩
    · have htu := ht u h1
      have e : lt1 w s n p = decide (mTl w u = n) := by
        unfold lt1
        rw [h2, Int.toNat_natCast, decide_eq_false (show ¬ ((u : Int) = -1) by omega)]; rfl
      rw [h2, w32_id (x := (u : Int)) (by omega), w32_id (x := (-1 : Int)) (by omega), Int.toNat_natCast, w32_id (x := mTl w u) (by omega), w32_id (x := n) (by omega)]
      refine ⟨fun h9 => by omega, fun _ => ⟨⟨k5, by omega, by omega⟩, fun h9 => ?_, fun h9 => ⟨?_, rfl⟩⟩⟩
      · exact hstep (by rw [e]; exact decide_eq_false h9) _
      · have : an (lt1 w s n) 16 = true := an_iff.mpr ⟨p, by omega, by rw [e]; exact decide_eq_true (Classical.not_not.mp h9)⟩
        rw [this]; rfl
/-- only the tails -/
def TlI (w w2 : eW) : Prop := ∀ a, a ≠ (w 37 5).toNat → w2 a = w a
theorem SoI.tl {w w2 m : eW} {t : eT} {b : Nat × Nat} {N : Nat} {f : Nat → t3} {D : Nat → Nat} (h : SoI w m t b N f D) (e : TlI w w2) : SoI w2 m t b N f D ∧ FrS w t w2 t ∧ w2 37 = w 37 ∧ w2 (w 37 6).toNat = w (w 37 6).toNat := by
  obtain ⟨⟨hL, hC, hp, hr⟩, ⟨m1, m2, m3⟩, hd, hl, hK⟩ := h
  have ds := hd.1.ds
  obtain ⟨⟨⟨p1, p2, p3, p4, p5, p6, p7⟩, ⟨q1, q2, q3, q4, q5, q6⟩, ⟨r1, r2, r3, r4, r5⟩, ⟨s1, s2, s3, s4⟩, ⟨u1, u2, u3⟩, ⟨v1, v2⟩, _⟩, x1, x2, x3, x4, x5, x6, x7, x8⟩ := ds
  replace x5 := x5.n
  have e37 : w2 37 = w 37 := e 37 x5.1.1
  have fr : FrS w t w2 t := FrS.cg (fun a ha => e a (x5.2 a ha)) (e 45 x5.1.2.2) (e _ (Ne.symm u2)) (e _ (Ne.symm u3)) (by rw [e37])
  refine ⟨⟨⟨hL.lo fr.1, hC.lo fr.1, hp, hr⟩, ⟨by rw [e37]; exact m1, fun s hs => ?_, fun h9 hh => by rw [e 38 x5.1.2.1]; exact m3 h9 hh⟩, hd.cg (fun k _ _ => by rw [e37]) (e 45 x5.1.2.2) (e _ (Ne.symm u2)), by rw [e37]; exact hl, hK⟩, fr, e37, e _ (Ne.symm u1)⟩
  have := m2 s hs
  unfold mK mT mD mL at *
  rw [e37, e _ p4, e _ q3, e _ r2, e _ s1]
  exact this
theorem BdM.cg {w w2 m : eW} {N : Nat} {f : Nat → t3} {D : Nat → Nat} {q : Nat} (h : BdM w m N f D q) (e : ∀ j, w2 (w2 37 6).toNat j = w (w 37 6).toNat j) : BdM w2 m N f D q := by
  obtain ⟨b1, b2, b3, b4, b5, b6⟩ := h
  exact ⟨b1, b2, b3, b4, fun u hu h0 => by
    obtain ⟨j, c1, c2, c3⟩ := b5 u hu h0
    exact ⟨j, c1, by rw [e j]; exact c2, c3⟩, fun j hj => (b6 j hj).cg (e j)⟩
def pE (m : eW) (f : Nat → t3) (s n : Nat) : Bool := eR m n (f s).1 (f s).2.1 (f s).2.2
theorem arcA {w m : eW} {N : Nat} {f : Nat → t3} {D : Nat → Nat} (hb : BdM w m N f D (16 * N)) {s p : Nat} (hs : s < N) (hp : p < 16) : if (mfG m (f s)).testBit p then (if mfG m (gN (f s) p) = 0 then mA w s p = -1 else ∃ s2 : Nat, s2 < N ∧ mA w s p = (s2 : Int) ∧ kyG m (f s2) = kyG m (gN (f s) p) ∧ D s2 ≤ D s + 1) else mA w s p = -1 := by
  have := hb.2.2.2.2.2 (16 * s + p) (by omega)
  unfold ArcK at this
  rw [show (16 * s + p) / 16 = s by omega, show (16 * s + p) % 16 = p by omega] at this
  exact this
theorem arcR {w m : eW} {N : Nat} {f : Nat → t3} {D : Nat → Nat} (hb : BdM w m N f D (16 * N)) {s p : Nat} (hs : s < N) (hp : p < 16) : mA w s p = -1 ∨ ∃ u : Nat, u < N ∧ mA w s p = (u : Int) := by
  have := arcA hb hs hp
  by_cases h1 : (mfG m (f s)).testBit p = true
  · rw [if_pos h1] at this
    by_cases h2 : mfG m (gN (f s) p) = 0
    · rw [if_pos h2] at this; exact Or.inl this
    · rw [if_neg h2] at this
      obtain ⟨s2, a1, a2, _⟩ := this
      exact Or.inr ⟨s2, a1, a2⟩
  · rw [if_neg h1] at this; exact Or.inl this
/-- a tail is one longer than the tail behind an arc -/
theorem lead {w m : eW} {N : Nat} {f : Nat → t3} {D : Nat → Nat} (hp : WFp m) (hr : WFr m) (hb : BdM w m N f D (16 * N)) {s n : Nat} (hs : s < N) (ht : ∀ u, u < N → (mTl w u = (n : Int) ↔ (pE m f u n = true ∧ ∀ j, j < n → pE m f u j = false))) (h0 : ∀ j, j ≤ n → pE m f s j = false) : an (lt1 w s (n : Int)) 16 = pE m f s (n + 1) := by
  have hn : nP m ≤ 16 := by have := hp.1; unfold nP; omega
  have hx : an (lt1 w s (n : Int)) 16 = true ↔ pE m f s (n + 1) = true := by
    refine ⟨fun h => ?_, fun h => ?_⟩
    · obtain ⟨p, p1, p2⟩ := an_iff.mp h
      unfold lt1 at p2
      have ha := arcA hb hs p1
      obtain ⟨p3, p4⟩ := Bool.and_eq_true_iff.mp p2
      by_cases h1 : (mfG m (f s)).testBit p = true
      · rw [if_pos h1] at ha
        by_cases h2 : mfG m (gN (f s) p) = 0
        · rw [if_pos h2] at ha; rw [ha] at p3; exact absurd p3 (by decide)
        · rw [if_neg h2] at ha
          obtain ⟨u, u1, u2, u3, _⟩ := ha
          rw [u2, Int.toNat_natCast] at p4
          have k1 := ((ht u u1).mp (of_decide_eq_true p4)).1
          have k2 : eR m n (f s).2.1 (f s).2.2 p = true := by
            exact (ky_eR hr hp n (f u) (gN (f s) p) u3).symm.trans k1
          have tb := mf_tb (m := m) (g := f s) (p := p) (by omega)
          rw [if_neg (by omega), h1] at tb
          obtain ⟨t1, t2⟩ := Bool.and_eq_true_iff.mp tb.symm
          show an (fun d => goes m (-1) (f s).1 (f s).2.1 (f s).2.2 d && eR m n (f s).2.1 (f s).2.2 d) (nP m) = true
          exact an_iff.mpr ⟨p, of_decide_eq_true t1, by rw [t2, k2]; rfl⟩
      · rw [if_neg h1] at ha; rw [ha] at p3; exact absurd p3 (by decide)
    · have h : an (fun d => goes m (-1) (f s).1 (f s).2.1 (f s).2.2 d && eR m n (f s).2.1 (f s).2.2 d) (nP m) = true := h
      obtain ⟨p, p1, p2⟩ := an_iff.mp h
      obtain ⟨p3, p4⟩ := Bool.and_eq_true_iff.mp p2
      have ha := arcA hb hs (p := p) (by omega)
      have tb := mf_tb (m := m) (g := f s) (p := p) (by omega)
      rw [if_neg (by omega), decide_eq_true p1, p3] at tb
      have h2 : mfG m (gN (f s) p) ≠ 0 := eR_mf hp (g := gN (f s) p) p4
      rw [if_pos (show (mfG m (f s)).testBit p = true from tb), if_neg h2] at ha
      obtain ⟨u, u1, u2, u3, _⟩ := ha
      refine an_iff.mpr ⟨p, by omega, ?_⟩
      unfold lt1
      rw [u2, Int.toNat_natCast, decide_eq_false (show ¬ ((u : Int) = -1) by omega)]
      have : mTl w u = (n : Int) := (ht u u1).mpr ⟨by
        show eR m n (f u).1 (f u).2.1 (f u).2.2 = true
        rw [ky_eR hr hp n (f u) (gN (f s) p) u3]; exact p4, fun j hj => by
        cases h9 : pE m f u j
        · rfl
        · have h9 : eR m j (f u).1 (f u).2.1 (f u).2.2 = true := h9
          rw [ky_eR hr hp j (f u) (gN (f s) p) u3] at h9
          have h8 : pE m f s (j + 1) = true := by
            show an (fun d => goes m (-1) (f s).1 (f s).2.1 (f s).2.2 d && eR m j (f s).2.1 (f s).2.2 d) (nP m) = true
            have h9 : eR m j (f s).2.1 (f s).2.2 p = true := h9
            exact an_iff.mpr ⟨p, p1, by rw [p3, h9]; rfl⟩
          rw [h0 (j + 1) (by omega)] at h8; cases h8⟩
      rw [decide_eq_true this]; rfl
  cases h1 : an (lt1 w s (n : Int)) 16 <;> cases h2 : pE m f s (n + 1)
  · rfl
  · rw [hx.mpr h2] at h1; cases h1
  · rw [hx.mp h1] at h2; cases h2
  · rfl
