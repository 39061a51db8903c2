/-! The class: the machine is built: arcs. -/

theorem isE_16 {m : eW} (hp : WFp m) (hr : WFr m) (a b d : Nat) : okP m (-1) a b 16 d = true := by
  unfold okP
  rw [al_iff]
  intro r hl
  have hr2 := hr.2 r hl
  have hn : nP m ≤ 16 := by have := hp.1; unfold nP; omega
  have h1 : ¬ (((16 : Nat) : Int) = m 72 r) := by have := hp.1; omega
  have e1 : mu m r 16 = false := by unfold mu; rw [decide_eq_false h1]; rfl
  have e2 : ba m r 16 = false := by
    unfold ba
    rw [decide_eq_false h1, decide_eq_false (show ¬ (16 < nP m) by omega)]
    rfl
  have e3 : brk m r a b 16 d = false := by
    unfold brk
    rw [e1, e2]
    cases inR m r a b d <;> rfl
  rw [e3]
  cases decide ((r : Int) = -1) <;> rfl
theorem mf_start {m : eW} (hp : WFp m) (hr : WFr m) : mfG m (16, 16, 16) ≠ 0 := fun h => by
  have ht := mf_tb (m := m) (g := (16, 16, 16)) (p := 16) (by omega)
  rw [if_pos rfl, h, Nat.zero_testBit] at ht
  have : isE m (-1) 16 16 16 = true := isE_16 hp hr 16 16 16
  rw [this] at ht
  cases ht
theorem tri_start (m : eW) : triG m (16, 16, 16) := ⟨Or.inl rfl, Or.inl rfl, Or.inl rfl, fun _ => rfl, fun _ => rfl⟩
theorem tri_gL {m : eW} (hp : WFp m) {g : t3} (h : triG m g) : gL g ≤ 16 := by
  have hn : nP m ≤ 16 := by have := hp.1; unfold nP; omega
  have := h.1
  unfold gL
  omega
/-- an arc is right -/
def ArcK (w m : eW) (N : Nat) (f : Nat → t3) (D : Nat → Nat) (j : Nat) : Prop := if (mfG m (f (j / 16))).testBit (j % 16) then (if mfG m (gN (f (j / 16)) (j % 16)) = 0 then w (w 37 6).toNat j = -1 else ∃ s2 : Nat, s2 < N ∧ w (w 37 6).toNat j = (s2 : Int) ∧ kyG m (f s2) = kyG m (gN (f (j / 16)) (j % 16)) ∧ D s2 ≤ D (j / 16) + 1) else w (w 37 6).toNat j = -1
/-- the machine after q arcs -/
def BdM (w m : eW) (N : Nat) (f : Nat → t3) (D : Nat → Nat) (q : Nat) : Prop := (f 0 = (16, 16, 16) ∧ D 0 = 0 ∧ 1 ≤ N) ∧ (∀ i j, i ≤ j → j < N → D i ≤ D j) ∧ (q / 16 < N → ∀ u, u < N → D u ≤ D (q / 16) + 1) ∧ (∀ u, u < N → D u ≤ u) ∧ (∀ u, u < N → u ≠ 0 → ∃ j, j < q ∧ w (w 37 6).toNat j = (u : Int) ∧ D u = D (j / 16) + 1) ∧ ∀ j, j < q → ArcK w m N f D j
/-- arcs do not tell of what comes later -/
theorem ArcK.up {w w2 m : eW} {N : Nat} {f : Nat → t3} {D : Nat → Nat} {g : t3} {z j : Nat} (h : ArcK w m N f D j) (hj : j / 16 < N) (e : w2 (w2 37 6).toNat j = w (w 37 6).toNat j) : ArcK w2 m (N + 1) (fUp f N g) (dU D N z) j := by
  unfold ArcK at *
  rw [e, fUp_o (by omega), dU_o (by omega)]
  by_cases h1 : (mfG m (f (j / 16))).testBit (j % 16) = true
  · rw [if_pos h1] at h ⊢
    by_cases h2 : mfG m (gN (f (j / 16)) (j % 16)) = 0
    · rw [if_pos h2] at h ⊢; exact h
    · rw [if_neg h2] at h ⊢
      obtain ⟨s2, a1, a2, a3, a4⟩ := h
      exact ⟨s2, by omega, a2, by rw [fUp_o (by omega)]; exact a3, by rw [dU_o (by omega)]; exact a4⟩
  · rw [if_neg h1] at h ⊢; exact h
theorem ArcK.cg {w w2 m : eW} {N : Nat} {f : Nat → t3} {D : Nat → Nat} {j : Nat} (h : ArcK w m N f D j) (e : w2 (w2 37 6).toNat j = w (w 37 6).toNat j) : ArcK w2 m N f D j := by
  unfold ArcK at *
  rw [e]
  exact h
/-- the arc q is written -/
theorem BdM.st {w w2 m : eW} {N : Nat} {f : Nat → t3} {D : Nat → Nat} {q : Nat} (h : BdM w m N f D q) (hq : q / 16 < N) (e : ∀ j, j < q → w2 (w2 37 6).toNat j = w (w 37 6).toNat j) (ha : ArcK w2 m N f D q) : BdM w2 m N f D (q + 1) := by
  obtain ⟨b1, b2, b3, b4, b5, b6⟩ := h
  refine ⟨b1, b2, fun h9 u hu => ?_, b4, fun u hu h0 => ?_, fun j hj => ?_⟩
  · have := b3 hq u hu
    have := b2 (q / 16) ((q + 1) / 16) (by omega) h9
    omega
  · obtain ⟨j, c1, c2, c3⟩ := b5 u hu h0
    exact ⟨j, by omega, by rw [e j c1]; exact c2, c3⟩
  · by_cases h1 : j = q
    · rw [h1]; exact ha
    · exact (b6 j (by omega)).cg (e j (by omega))
/-- .. with a new state -/
theorem BdM.nw {w w2 m : eW} {N : Nat} {f : Nat → t3} {D : Nat → Nat} {q : Nat} {g : t3} (h : BdM w m N f D q) (hq : q / 16 < N) (hg : g = gN (f (q / 16)) (q % 16)) (hb : (mfG m (f (q / 16))).testBit (q % 16) = true) (h0 : mfG m g ≠ 0) (e : ∀ j, j < q → w2 (w2 37 6).toNat j = w (w 37 6).toNat j) (eq : w2 (w2 37 6).toNat q = (N : Int)) : BdM w2 m (N + 1) (fUp f N g) (dU D N (D (q / 16) + 1)) (q + 1) := by
  obtain ⟨⟨b0, b01, b02⟩, b2, b3, b4, b5, b6⟩ := h
  have hj : ∀ j, j < q → j / 16 < N := fun j hj => by omega
  refine ⟨⟨by rw [fUp_o (by omega)]; exact b0, by rw [dU_o (by omega)]; exact b01, by omega⟩, fun i j h1 h2 => ?_, fun h9 u hu => ?_, fun u hu => ?_, fun u hu h1 => ?_, fun j h1 => ?_⟩
  · by_cases h3 : j = N
    · rw [h3, dU_n]
      by_cases h4 : i = N
      · rw [h4, dU_n]; exact Nat.le_refl _
      · rw [dU_o h4]; exact b3 hq i (by omega)
    · rw [dU_o h3, dU_o (by omega)]; exact b2 i j h1 (by omega)
  · have k1 : D (q / 16) + 1 ≤ dU D N (D (q / 16) + 1) ((q + 1) / 16) + 1 := by
      by_cases h4 : (q + 1) / 16 = N
      · rw [h4, dU_n]; omega
      · rw [dU_o h4]
        have := b2 (q / 16) ((q + 1) / 16) (by omega) (by omega)
        omega
    refine Nat.le_trans ?_ k1
    by_cases h4 : u = N
    · rw [h4, dU_n]; exact Nat.le_refl _
    · rw [dU_o h4]; exact b3 hq u (by omega)
  · by_cases h4 : u = N
    · rw [h4, dU_n]
      have := b4 (q / 16) hq
      omega
    · rw [dU_o h4]; exact b4 u (by omega)
  · by_cases h4 : u = N
    · exact ⟨q, by omega, by rw [eq, h4], by rw [h4, dU_n, dU_o (by omega)]⟩
    · obtain ⟨j, c1, c2, c3⟩ := b5 u (by omega) h1
      exact ⟨j, by omega, by rw [e j c1]; exact c2, by rw [dU_o h4, dU_o (by have := hj j c1; omega)]; exact c3⟩
  · by_cases h4 : j = q
    · rw [h4]
      unfold ArcK
      rw [fUp_o (by omega), if_pos hb, ← hg, if_neg h0]
      refine ⟨N, by omega, eq, by rw [fUp_n], ?_⟩
      rw [dU_n, dU_o (by omega)]
      exact Nat.le_refl _
    · exact (b6 j (by omega)).up (hj j (by omega)) (e j (by omega))
theorem SoI.arc {w m : eW} {t : eT} {b : Nat × Nat} {N : Nat} {f : Nat → t3} {D : Nat → Nat} {q : Nat} {v : Int} (h : SoI w m t b N f D) : SoI (wu w (w 37 6).toNat q v) m t b N f D ∧ FrS w t (wu w (w 37 6).toNat q v) t ∧ (wu w (w 37 6).toNat q v) 37 = w 37 := by
  obtain ⟨⟨hL, hC, hp, hr⟩, ⟨m1, m2, m3⟩, hd, hl, hK⟩ := h
  have ds := hd.1.ds
  obtain ⟨⟨⟨p1, p2, p3, p4, p5, p6, p7⟩, ⟨q1, q2, q3, q4, q5, q6⟩, ⟨r1, r2, r3, r4, r5⟩, ⟨s1, s2, s3, s4⟩, ⟨u1, u2, u3⟩, ⟨v1, v2⟩, _⟩, x1, x2, x3, x4, x5, x6, x7, x8⟩ := ds
  replace x6 := x6.n
  generalize hw : wu w (w 37 6).toNat q v = w2
  have e : ∀ a, a ≠ (w 37 6).toNat → w2 a = w a := fun a ha => by rw [← hw]; exact wu_row ha
  have e37 : w2 37 = w 37 := e 37 x6.1.1
  have fr : FrS w t w2 t := FrS.cg (fun a ha => e a (x6.2 a ha)) (e 45 x6.1.2.2) (e _ (Ne.symm v1)) (e _ (Ne.symm v2)) (by rw [e37])
  refine ⟨⟨⟨hL.lo fr.1, hC.lo fr.1, hp, hr⟩, ⟨by rw [e37]; exact m1, fun s hs => ?_, fun h9 hh => by rw [e 38 x6.1.2.1]; exact m3 h9 hh⟩, hd.cg (fun k _ _ => by rw [e37]) (e 45 x6.1.2.2) (e _ (Ne.symm v1)), by rw [e37]; exact hl, hK⟩, fr, e37⟩
  have := m2 s hs
  unfold mK mT mD mL at *
  rw [e37, e _ p5, e _ q4, e _ r3, e _ s2]
  exact this
/-- what build is to leave -/
def BdE (w0 : eW) (t0 : eT) (m : eW) (b : Nat × Nat) (r : Option aV) (S2 : aS) : Prop := ∃ w2 t2 N f D, r = none ∧ S2 = enc w2 t2 ∧ SoI w2 m t2 b N f D ∧ FrS w0 t0 w2 t2 ∧ BdM w2 m N f D (16 * N) ∧ ∀ s, s < N → mTl w2 s = ((fsN (fun n => eR m n (f s).1 (f s).2.1 (f s).2.2) 7 0 : Nat) : Int)
theorem bd_in {d : Nat} {w0 : eW} {t0 : eT} {m : eW} {b : Nat × Nat} (S : Nat) {y : Int} (hout : ∀ (w : eW) (t : eT) (N : Nat) (f : Nat → t3) (D : Nat → Nat) (J J2 J3 : aV), SoI w m t b N f D → FrS w0 t0 w t → BdM w m N f D (16 * (S + 1)) → S < N → Ev (d + 5) 33 (BdE w0 t0 m b) 31 [rA 37, rA 15, (0, ((S + 1 : Nat) : Int)), J, J2, J3] [] (enc w t)) : ∀ (k p : Nat) (w : eW) (t : eT) (N : Nat) (f : Nat → t3) (D : Nat → Nat) (J3 : aV), p + k = 16 → SoI w m t b N f D → FrS w0 t0 w t → BdM w m N f D (16 * S + p) → S < N → y = ((mfG m (f S) : Nat) : Int) → Ev (d + 5) 33 (BdE w0 t0 m b) 55 [rA 37, rA 15, (0, (S : Int)), (0, y), (0, (p : Int)), J3] [] (enc w t) := by
  intro k
  induction k with
  | zero =>
    intro p w t N f D J3 hp h hf hb hS _
    refine g_bd2 (m := m) ?_
    rw [show (p : Int) = 16 by omega, w32_id (x := 16) (by omega)]
    refine ⟨fun _ => ?_, fun h9 => by omega⟩
    have := hout w t N f D (0, y) (0, 16) J3 h hf (by rw [show 16 * (S + 1) = 16 * S + p by omega]; exact hb) hS
    rw [show ((S : Int) + 1) = ((S + 1 : Nat) : Int) by omega]
    exact this
  | succ k ih =>
    intro p w t N f D J3 hp h hf hb hS hy
    have rg := h.rg
    obtain ⟨_, _, ⟨R, hR, ⟨k1, l1⟩, _, ⟨k3, l3⟩, ⟨k4, l4⟩, _, k6, l6⟩, _⟩ := h.2.2.1.1
    have hl := h.2.2.2.1
    rw [l1] at hl
    have hNl := rg.2.2.2
    obtain ⟨m1, m2, m3⟩ := h.2.1
    have mS := m2 S hS
    have eq : (16 * S + p) / 16 = S := by omega
    have er : (16 * S + p) % 16 = p := by omega
    have hmf : mfG m (f S) < 131072 := mfB_lt m (f S).1 (f S).2.1 (f S).2.2
    have hp16 := h.1.2.2.1
    have eS : w32 (S : Int) = (S : Int) := w32_id (by omega)
    refine g_bd2 (m := m) ?_
    rw [hy, b_tst hmf (by omega), w32_id (x := 16) (by omega), w32_id (x := (p : Int)) (by omega), eS]
    refine ⟨fun h9 => by omega, fun _ => ?_⟩
    -- the store
    have hst : ∀ (q : Int) (w1 : eW) (t1 : eT) (N1 : Nat) (f1 : Nat → t3) (D1 : Nat → Nat), SoI w1 m t1 b N1 f1 D1 → FrS w0 t0 w1 t1 → BdM (wu w1 (w1 37 6).toNat (16 * S + p) q) m N1 f1 D1 (16 * S + p + 1) → S < N1 → mfG m (f1 S) = mfG m (f S) → Ev (d + 5) 33 (BdE w0 t0 m b) 101 [rA 37, rA 15, (0, (S : Int)), (0, ((mfG m (f S) : Nat) : Int)), (0, (p : Int)), (0, q)] [] (enc w1 t1) := fun q w1 t1 N1 f1 D1 c1 c2 c3 c4 c5 => by
      have rg1 := c1.rg
      have hl1 := c1.2.2.2.1
      obtain ⟨_, _, ⟨R1, hR1, ⟨kk1, ll1⟩, _, _, _, _, kk6, ll6⟩, _⟩ := c1.2.2.1.1
      rw [ll1] at hl1
      obtain ⟨a1, a2, a3⟩ := c1.arc (q := 16 * S + p) (v := q)
      refine g_bd3 (m := m) ?_
      rw [w32_id (x := (S : Int) * 16 + (p : Int)) (by omega), show ((S : Int) * 16 + (p : Int)).toNat = 16 * S + p by omega]
      refine ⟨⟨kk6, by omega, by omega⟩, ?_⟩
      rw [show ((p : Int) + 1) = ((p + 1 : Nat) : Int) by omega]
      rw [← hy]
      exact ih (p + 1) _ t1 N1 f1 D1 _ (by omega) a1 (c2.tr a2) c3 c4 (by rw [hy, c5])
    have e6 : ∀ (w1 : eW) (q : Int), (w1 37 6).toNat ≠ 37 → (wu w1 (w1 37 6).toNat (16 * S + p) q) ((wu w1 (w1 37 6).toNat (16 * S + p) q) 37 6).toNat = (wu w1 (w1 37 6).toNat (16 * S + p) q) (w1 37 6).toNat := fun w1 q h1 => by rw [wu_row (q := 37) (Ne.symm h1)]
    have n37 : ∀ {w1 : eW} {t1 : eT} {N1 : Nat} {f1 : Nat → t3} {D1 : Nat → Nat}, SoI w1 m t1 b N1 f1 D1 → (w1 37 6).toNat ≠ 37 := fun c1 => by
      exact c1.2.2.1.1.ds.2.2.2.2.2.2.1.n.1.1.symm
    have hsame : ∀ q : Int, ArcK (wu w (w 37 6).toNat (16 * S + p) q) m N f D (16 * S + p) → BdM (wu w (w 37 6).toNat (16 * S + p) q) m N f D (16 * S + p + 1) := fun q ha => by
      refine hb.st (by omega) (fun j hj => ?_) ha
      rw [e6 w q (n37 h), wu_nk _ _ (by omega)]
    have hat : ∀ q : Int, (wu w (w 37 6).toNat (16 * S + p) q) ((wu w (w 37 6).toNat (16 * S + p) q) 37 6).toNat (16 * S + p) = q := fun q => by
      rw [e6 w q (n37 h), wu_eq]
    by_cases hbit : (mfG m (f S)).testBit p = true
    · rw [if_pos hbit]
      refine ⟨fun h9 => absurd h9 (by decide), fun _ => ⟨⟨k3, by omega, by omega⟩, f S, ⟨h.1.1, h.1.2.2.1, h.1.2.2.2, ?_, tri_gL hp16 (h.2.2.2.2.1 S hS), by omega, by omega⟩, ?_⟩⟩
      · rw [Int.toNat_natCast]; exact mS.2.1
      · rintro x2 hx2
        rw [Int.toNat_natCast] at hx2
        refine ⟨⟨k4, by omega, by omega⟩, ?_⟩
        have hpl : p < nP m := by
          have := mf_tb (m := m) (g := f S) (p := p) (by omega)
          rw [if_neg (by omega), hbit] at this
          exact of_decide_eq_true (Bool.and_eq_true_iff.mp this.symm).1
        have tg := triG_nx hp16 (h.2.2.2.2.1 S hS) hpl
        have ez : w (w 37 4).toNat ((S : Int)).toNat + 1 = ((D S + 1 : Nat) : Int) := by
          rw [Int.toNat_natCast]
          have : w (w 37 4).toNat S = _ := mS.2.2.1
          rw [this]; omega
        rw [ez]
        refine ((c_so (d := d) (z := D S + 1) h tg (tri_gL hp16 tg) hx2).up (by omega)).mono ?_
        rintro _ _ ⟨y2, w2, t2, rfl, rfl, hq⟩
        refine ⟨fun _ h9 => (by cases h9), g_bd2b (m := m) ?_⟩
        rcases hq with ⟨z0, rfl, rfl, rfl⟩ | ⟨z0, ⟨s2, z1, rfl, z2⟩, rfl, rfl⟩ | ⟨z0, rfl, z1, z2, z3, z4⟩
        · refine hst _ w2 t2 N f D h hf (hsame _ ?_) hS rfl
          unfold ArcK
          rw [eq, er, if_pos hbit, if_pos z0]
          exact hat _
        · refine hst _ w2 t2 N f D h hf (hsame _ ?_) hS rfl
          unfold ArcK
          rw [eq, er, if_pos hbit, if_neg z0]
          refine ⟨s2, z1, hat _, z2, ?_⟩
          have := hb.2.2.1 (by omega) s2 z1
          rw [eq] at this
          exact this
        · have z6 := n37 z2
          refine hst _ w2 t2 (N + 1) _ _ z2 (hf.tr z3) ?_ (by omega) (by rw [fUp_o (by omega)])
          have := BdM.nw (w2 := wu w2 (w2 37 6).toNat (16 * S + p) (N : Int)) (g := gN (f S) p) hb (by omega) (by rw [eq, er]) (by rw [eq, er]; exact hbit) z0 (fun j hj => by
            rw [e6 w2 _ z6, wu_nk _ _ (by omega)]
            exact z4 j (by omega)) (by rw [e6 w2 _ z6, wu_eq])
          rw [eq] at this
          exact this
    · have hbit : (mfG m (f S)).testBit p = false := by cases h9 : (mfG m (f S)).testBit p; rfl; exact absurd h9 hbit
      rw [if_neg (by rw [hbit]; decide)]
      refine ⟨fun _ => ?_, fun h9 => absurd rfl h9⟩
      refine hst _ w t N f D h hf (hsame _ ?_) hS rfl
      unfold ArcK
      rw [eq, er, if_neg (by rw [hbit]; decide)]
      exact hat _
