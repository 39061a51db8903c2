/-! The class: ways (3). -/

theorem c_wy {d : Nat} {m : eW} {W : Nat → Bool} {P : Nat → Nat} {B : Nat → Nat → Nat} {E : Nat → Nat} {I : Nat → Nat → Nat} {A : Nat → t3 → Prop} {μ : Nat → t3 → Nat} {L : Nat → t3 → kT} (hS : WSy m W P B E I A μ L) (hp : WFp m) (hr : WFr m) {w0 : eW} (hH : WHy d m W P B E I A w0) {b : Nat × Nat} {N : Nat} {KY : Nat → Int} : ∀ (Bd : Nat) (γ : Nat × t3) (st sa dp : Int) (w : eW) (t : eT), WyR m A μ (wyP m A L N KY) w0 b N KY Bd γ st sa dp w t → Cl (d + Bd + 10) 105 [rA 53, (0, st), (0, sa), (0, dp)] (enc w t) (fun r S2 => ∃ x w2 t2, r = some (1, x) ∧ S2 = enc w2 t2 ∧ WyO m L (wyP m A L N KY) b γ st sa dp w t x w2 t2) := by
  intro Bd
  induction Bd with
  | zero => rintro γ st sa dp w t ⟨_, _, _, h, _⟩; omega
  | succ Bd ih =>
    rintro ⟨st, g⟩ sti sa dp w t ⟨hA, rfl, hs, hμ, hdp, hc⟩
    replace hA : A st g := hA
    replace hs : Sta N KY m g sa := hs
    replace hμ : μ st g < Bd + 1 := hμ
    replace hdp : 0 ≤ dp ∧ dp + (μ st g : Int) ≤ 30 := hdp
    show Cl (d + (Bd + 1) + 10) 105 [rA 53, (0, (st : Int)), (0, sa), (0, dp)] (enc w t) _
    obtain ⟨⟨⟨b1, b2, b3⟩, b4⟩, hBp, hEp, _⟩ := hS st g hA
    have hlen := hS.len hA
    obtain ⟨hH1, hH2, hH3, hH4, hH5⟩ := hH.up (show d ≤ d + (Bd + 1) by omega)
    have rg := hc.rg
    have hN := rg.2.1
    have hNl := rg.2.2.2
    have hmf : mfG m g < 131072 := mfB_lt m g.1 g.2.1 g.2.2
    refine g_wy0 ?_
    rw [w32_id (x := (30 : Int)) (by omega), w32_id (x := dp) (by omega), w32_id (x := (st : Int)) (by omega), w32_id (x := (-1 : Int)) (by omega)]
    refine ⟨fun h9 => by omega, fun _ => ⟨fun h9 => by omega, fun _ => ?_⟩⟩
    rcases hs with ⟨rfl, hz⟩ | ⟨s, hs, rfl, hk⟩
    · refine ⟨fun h9 => absurd (w32_id (by omega)) h9, fun _ => ⟨0, w, t, rfl, rfl, ?_, MR.rf _ _, hc.2.1⟩⟩
      show (0 : Int) = ((L st g).length : Int)
      rw [hS.z _ st g (Nat.lt_succ_self _) hA hz]; rfl
    have hkb : st * N ≤ 7000 * 4369 := Nat.mul_le_mul (by omega) hNl
    have ek : (st : Int) * (N : Int) + (s : Int) = ((st * N + s : Nat) : Int) := by omega
    rw [w32_id (x := (s : Int)) (by omega)]
    suffices hky : ∀ nt : Int, Ev (d + (Bd + 1) + 10) 105 (fun r S2 => ∃ x w2 t2, r = some (1, x) ∧ S2 = enc w2 t2 ∧ WyO m L (wyP m A L N KY) b (st, g) (st : Int) (s : Int) dp w t x w2 t2) 33 [rA 53, (0, (st : Int)), (0, (s : Int)), (0, dp), (0, nt), (9, 0), (9, 0), (9, 0), (9, 0), (9, 0), (9, 0), (9, 0), (9, 0)] [] (enc w t) from
      ⟨fun _ _ _ => ⟨fun _ => hky 0, fun _ => hky 1⟩, fun h9 => absurd (show ¬ (s : Int) = -1 by omega) h9⟩
    intro nt
    refine g_wyk (m := m) (b := b) (P := wyP m A L N KY) ?_
    rw [hN, ek]
    suffices hky2 : ∀ x1, (x1 = -1 ∨ wyP m A L N KY ((st * N + s : Nat) : Int) x1) → Ev (d + (Bd + 1) + 10) 105 (fun r S2 => ∃ x w2 t2, r = some (1, x) ∧ S2 = enc w2 t2 ∧ WyO m L (wyP m A L N KY) b (st, g) (st : Int) (s : Int) dp w t x w2 t2) 68 [rA 53, (0, (st : Int)), (0, (s : Int)), (0, dp), (0, nt), (0, ((st * N + s : Nat) : Int)), (1, x1), (9, 0), (9, 0), (9, 0), (9, 0), (9, 0), (9, 0)] [] (enc w t) from
      ⟨fun _ => hky2 _ (Or.inl rfl), fun _ => ⟨⟨hc.2.1, by omega, by omega⟩, hky2⟩⟩
    intro x1 hx1
    refine g_wyn ?_
    have hP : ∀ x, wyP m A L N KY ((st * N + s : Nat) : Int) x → x = ((L st g).length : Int) := fun x hx => hx st s g hA hs hk rfl
    have hP2 : wyP m A L N KY ((st * N + s : Nat) : Int) ((L st g).length : Int) := fun st2 s2 g2 a1 a2 a3 a4 => by
      obtain ⟨e1, e2⟩ := ky_un (show st * N + s = st2 * N + s2 by omega) hs a2
      subst e1; subst e2
      rw [hS.k hp hr (μ st g + μ st g2 + 1) st g g2 (by omega) (by omega) hA a1 (by rw [hk] at a3; omega)]
    have hx2 : (w64 x1 < w64 0 → x1 = -1) ∧ (¬ (w64 x1 < w64 0) → x1 = ((L st g).length : Int)) := by
      rcases hx1 with rfl | h1
      · exact ⟨fun _ => rfl, fun h => absurd (by decide) h⟩
      · have := hP x1 h1
        refine ⟨fun h => ?_, fun _ => this⟩
        rw [this, w64_id (by omega), w64_id (by omega)] at h
        omega
    refine ⟨fun h9 => ?_, fun h9 => ⟨x1, w, t, rfl, rfl, hx2.2 h9, MR.rf _ _, hc.2.1⟩⟩
    clear hx1 hx2 hP h9
    generalize eBs : (if W st && isE m (-1) g.1 g.2.1 g.2.2 then 1 else 0) = bs at hlen
    -- the end: what is found is noted
    have hend : ∀ (w1 : eW) (t1 : eT) (ft ch e : Int), MR w t w1 t1 → MC (wyP m A L N KY) b m w1 t1 → Ev (d + (Bd + 1) + 10) 105 (fun r S2 => ∃ x w2 t2, r = some (1, x) ∧ S2 = enc w2 t2 ∧ WyO m L (wyP m A L N KY) b (st, g) (st : Int) (s : Int) dp w t x w2 t2) 244 [rA 53, (0, (st : Int)), (0, (s : Int)), (0, dp), (0, nt), (0, ((st * N + s : Nat) : Int)), (1, x1), (9, 0), (1, ((L st g).length : Int)), (9, 0), (0, ft), (0, ch), (0, e)] [] (enc w1 t1) := fun w1 t1 ft ch e m1 m2 => by
      refine g_wy5 (m := m) (b := b) (P := wyP m A L N KY) ⟨fun _ => ⟨_, w1, t1, rfl, rfl, rfl, m1, m2⟩, fun _ => ⟨⟨m2, by omega, hP2⟩, fun w2 t2 hq => ?_⟩⟩
      exact ⟨_, w2, t2, rfl, rfl, rfl, m1.tr hq.1, hq.2⟩
    -- entries
    have hent : ∀ (k e : Nat) (w1 : eW) (t1 : eT) (su : Nat) (ft : Int), e + k = 16 → MR w t w1 t1 → MC (wyP m A L N KY) b m w1 t1 → su = bs + (sm (pS m P B L st g) 16 + sm (eS E I L st g) e) → Ev (d + (Bd + 1) + 10) 105 (fun r S2 => ∃ x w2 t2, r = some (1, x) ∧ S2 = enc w2 t2 ∧ WyO m L (wyP m A L N KY) b (st, g) (st : Int) (s : Int) dp w t x w2 t2) 193 [rA 53, (0, (st : Int)), (0, (s : Int)), (0, dp), (0, nt), (0, ((st * N + s : Nat) : Int)), (1, x1), (9, 0), (1, (su : Int)), (9, 0), (0, ft), (0, ((E st : Nat) : Int)), (0, (e : Int))] [] (enc w1 t1) := by
      intro k
      induction k with
      | zero =>
        intro e w1 t1 su ft he m1 m2 hsu
        refine g_wy4 (m := m) (b := b) (P := wyP m A L N KY) hH5 (ih) ?_
        have : e = 16 := by omega
        subst this
        rw [← hlen] at hsu
        rw [hsu]
        exact ⟨fun _ => hend w1 t1 _ _ _ m1 m2, fun h9 => absurd (by decide) h9⟩
      | succ k ihk =>
        intro e w1 t1 su ft he m1 m2 hsu
        refine g_wy4 (m := m) (b := b) (P := wyP m A L N KY) hH5 (ih) ?_
        rw [w32_id (x := 16) (by omega), w32_id (x := (e : Int)) (by omega)]
        refine ⟨fun h9 => by omega, fun _ => ⟨fun h9 => ?_, fun _ => ?_⟩⟩
        · have hz := sh_z (x := E st) (by omega) (by omega) h9
          have : su = (L st g).length := by
            rw [hlen, hsu, show (16 : Nat) = e + (k + 1) by omega, sm_cut (f := eS E I L st g) (p := e) (k + 1) (fun q h1 h2 => by unfold eS; rw [hz q h1, if_neg (by decide)])]
          rw [this]
          exact hend w1 t1 _ _ _ m1 m2
        · rw [bsz (y := 0) (by omega) (by omega)]
          have hnx : sm (eS E I L st g) (e + 1) = sm (eS E I L st g) e + eS E I L st g e := rfl
          refine ⟨fun h9 => ?_, fun h9 => ?_⟩
          · rw [show ((e : Int) + 1) = ((e + 1 : Nat) : Int) by omega]
            refine ihk (e + 1) w1 t1 su ft (by omega) m1 m2 ?_
            rw [hnx]; unfold eS at hnx ⊢
            rw [h9, if_neg (by decide)]; exact hsu
          · have h8 : (E st).testBit e = true := by cases h7 : (E st).testBit e; exact absurd h7 h9; rfl
            have hc1 := hc.mr m1 m2
            obtain ⟨q1, q2⟩ := hEp e (by omega) h8
            refine ⟨⟨⟨st, g, e, hA, rfl, rfl, by omega, h8⟩, hc1.1⟩, ?_⟩
            rintro x2 rfl
            rw [Int.toNat_natCast, Int.toNat_natCast]
            refine ⟨(I st e, g), ⟨q1, rfl, Or.inr ⟨s, hs, rfl, hk⟩, by show μ (I st e) g < Bd; omega, by show 0 ≤ dp + 1 ∧ dp + 1 + (μ (I st e) g : Int) ≤ 30; omega, hc1⟩, ?_⟩
            rintro x3 w4 t5 ⟨rfl, m3, m4⟩
            rw [show ((e : Int) + 1) = ((e + 1 : Nat) : Int) by omega]
            have := ihk (e + 1) w4 t5 (su + (L (I st e) g).length) ft (by omega) (m1.tr m3) m4 (by
              rw [hnx, hsu]; unfold eS; rw [h8, if_pos rfl]; omega)
            rw [Int.natCast_add] at this
            exact this
    -- pairs
    have hpr : ∀ (k p : Nat) (w1 : eW) (t1 : eT) (su : Nat), p + k = 16 → MR w t w1 t1 → MC (wyP m A L N KY) b m w1 t1 → su = bs + sm (pS m P B L st g) p → Ev (d + (Bd + 1) + 10) 105 (fun r S2 => ∃ x w2 t2, r = some (1, x) ∧ S2 = enc w2 t2 ∧ WyO m L (wyP m A L N KY) b (st, g) (st : Int) (s : Int) dp w t x w2 t2) 123 [rA 53, (0, (st : Int)), (0, (s : Int)), (0, dp), (0, nt), (0, ((st * N + s : Nat) : Int)), (1, x1), (9, 0), (1, (su : Int)), (9, 0), (0, ((P st &&& mfG m g : Nat) : Int)), (0, (p : Int)), (9, 0)] [] (enc w1 t1) := by
      have hgo : ∀ (w1 : eW) (t1 : eT) (su : Nat) (p : Int), MR w t w1 t1 → MC (wyP m A L N KY) b m w1 t1 → su = bs + sm (pS m P B L st g) 16 → Ev (d + (Bd + 1) + 10) 105 (fun r S2 => ∃ x w2 t2, r = some (1, x) ∧ S2 = enc w2 t2 ∧ WyO m L (wyP m A L N KY) b (st, g) (st : Int) (s : Int) dp w t x w2 t2) 183 [rA 53, (0, (st : Int)), (0, (s : Int)), (0, dp), (0, nt), (0, ((st * N + s : Nat) : Int)), (1, x1), (9, 0), (1, (su : Int)), (9, 0), (0, ((P st &&& mfG m g : Nat) : Int)), (0, p), (9, 0)] [] (enc w1 t1) := fun w1 t1 su p m1 m2 hsu => by
        refine g_wy3 (m := m) (b := b) (P := wyP m A L N KY) hH4 ⟨⟨⟨st, g, hA, rfl⟩, (hc.mr m1 m2).1⟩, ?_⟩
        rintro x2 rfl
        rw [Int.toNat_natCast]
        exact hent 16 0 w1 t1 su _ (by omega) m1 m2 (by rw [hsu]; rfl)
      have hPm : P st &&& mfG m g < 131072 := Nat.lt_of_le_of_lt Nat.and_le_right hmf
      intro k
      induction k with
      | zero =>
        intro p w1 t1 su he m1 m2 hsu
        refine g_wy2 (m := m) (b := b) (P := wyP m A L N KY) hH3 (ih) ?_
        have : p = 16 := by omega
        subst this
        exact ⟨fun _ => hgo w1 t1 su _ m1 m2 hsu, fun h9 => absurd (by decide) h9⟩
      | succ k ihk =>
        intro p w1 t1 su he m1 m2 hsu
        refine g_wy2 (m := m) (b := b) (P := wyP m A L N KY) hH3 (ih) ?_
        rw [w32_id (x := 16) (by omega), w32_id (x := (p : Int)) (by omega)]
        refine ⟨fun h9 => by omega, fun _ => ⟨fun h9 => ?_, fun _ => ?_⟩⟩
        · have hz := sh_z hPm (by omega) h9
          refine hgo w1 t1 su _ m1 m2 ?_
          rw [hsu, show (16 : Nat) = p + (k + 1) by omega, sm_cut (f := pS m P B L st g) (p := p) (k + 1) (fun q h1 h2 => by unfold pS; rw [hz q h1, if_neg (by decide)])]
        · rw [bsz (y := 0) hPm (by omega)]
          have hnx : sm (pS m P B L st g) (p + 1) = sm (pS m P B L st g) p + pS m P B L st g p := rfl
          refine ⟨fun h9 => ?_, fun h9 => ?_⟩
          · rw [show ((p : Int) + 1) = ((p + 1 : Nat) : Int) by omega]
            refine ihk (p + 1) w1 t1 su (by omega) m1 m2 ?_
            rw [hnx]; unfold pS at hnx ⊢
            rw [h9, if_neg (by decide)]; exact hsu
          · have h8 : (P st &&& mfG m g).testBit p = true := by cases h7 : (P st &&& mfG m g).testBit p; exact absurd h7 h9; rfl
            have h7 := h8
            rw [Nat.testBit_and] at h7
            obtain ⟨h5, h6⟩ := Bool.and_eq_true_iff.mp h7
            have hc1 := hc.mr m1 m2
            have rg1 := hc1.rg
            obtain ⟨q1, q2⟩ := hBp p (by omega) h5 h6
            refine ⟨⟨⟨st, g, p, hA, rfl, rfl, by omega, h5, h6⟩, hc1.1⟩, ?_⟩
            rintro x2 rfl
            refine ⟨⟨by rw [rg1.2.1, Int.toNat_natCast]; exact rg1, ⟨by omega, by rw [rg1.2.1]; omega⟩, by omega, by omega⟩, ?_⟩
            rintro x3 rfl
            rw [Int.toNat_natCast, Int.toNat_natCast, Int.toNat_natCast]
            refine ⟨(B st p, gN g p), ⟨q1, rfl, hc1.arc hp hr hs hk (by omega) h6, by show μ (B st p) (gN g p) < Bd; omega, by show 0 ≤ dp + 1 ∧ dp + 1 + (μ (B st p) (gN g p) : Int) ≤ 30; omega, hc1⟩, ?_⟩
            rintro x3 w4 t5 ⟨rfl, m3, m4⟩
            rw [show ((p : Int) + 1) = ((p + 1 : Nat) : Int) by omega]
            have := ihk (p + 1) w4 t5 (su + (L (B st p) (gN g p)).length) (by omega) (m1.tr m3) m4 (by
              rw [hnx, hsu]; unfold pS; rw [h8, if_pos rfl]; omega)
            rw [Int.natCast_add] at this
            exact this
    -- begin
    have hgo : ∀ su : Nat, su = bs → Ev (d + (Bd + 1) + 10) 105 (fun r S2 => ∃ x w2 t2, r = some (1, x) ∧ S2 = enc w2 t2 ∧ WyO m L (wyP m A L N KY) b (st, g) (st : Int) (s : Int) dp w t x w2 t2) 104 [rA 53, (0, (st : Int)), (0, (s : Int)), (0, dp), (0, nt), (0, ((st * N + s : Nat) : Int)), (1, x1), (9, 0), (1, (su : Int)), (9, 0), (9, 0), (9, 0), (9, 0)] [] (enc w t) := fun su hsu => by
      refine g_wy1b (m := m) (b := b) (P := wyP m A L N KY) hH2 ⟨⟨⟨st, g, hA, rfl⟩, hc.1⟩, ?_⟩
      rintro x2 rfl
      refine ⟨⟨by rw [hN, Int.toNat_natCast]; exact rg, by omega, by rw [hN]; omega⟩, ?_⟩
      rintro x3 rfl
      rw [Int.toNat_natCast, Int.toNat_natCast, hc.2.2.2.2 s, hk, ky_mf, i_and (by omega) (by omega), Int.toNat_natCast, Int.toNat_natCast]
      exact hpr 16 0 w t su (by omega) (MR.rf _ _) hc.2.1 (by rw [hsu]; rfl)
    refine g_wy1 (m := m) (b := b) (P := wyP m A L N KY) hH1 ⟨⟨⟨st, g, hA, rfl⟩, hc.1⟩, ?_⟩
    rintro x2 rfl
    rw [Int.toNat_natCast]
    cases hW : W st with
    | false =>
      rw [hW] at eBs
      refine ⟨fun _ => hgo 0 (by rw [← eBs]; rfl), fun h9 => absurd (by decide) h9⟩
    | true =>
      rw [hW] at eBs
      refine ⟨fun h9 => absurd h9 (by decide), fun _ => ⟨g, ⟨⟨by rw [hN, Int.toNat_natCast]; exact rg, by omega, by rw [hN]; omega⟩, by rw [Int.toNat_natCast, hc.2.2.2.2 s]; exact hk⟩, ?_⟩⟩
      rintro x3 rfl
      cases hI : isE m (-1) g.1 g.2.1 g.2.2 with
      | false =>
        rw [hI] at eBs
        exact ⟨fun _ => hgo 0 (by rw [← eBs]; rfl), fun h9 => absurd (by decide) h9⟩
      | true =>
        rw [hI] at eBs
        exact ⟨fun h9 => absurd h9 (by decide), fun _ => hgo 1 (by rw [← eBs]; rfl)⟩
