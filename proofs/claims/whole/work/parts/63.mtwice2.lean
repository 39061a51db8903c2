/-! The model: tallies. -/
theorem p27 {p : Nat} (h : p ≤ 4) : 27 ^ p ≤ 531441 := Nat.le_trans (Nat.pow_le_pow_right (n := 27) (by decide) h) (by decide)
theorem cD_some {L : List Nat} {y : Nat} : (cD L (y : Int)).isSome = true → (cD L (y : Int)).getD 0 = (L.count y : Int) := by
  intro h
  unfold cD at *
  rw [Int.toNat_natCast] at *
  split
  · next h1 => rw [if_pos h1] at h; cases h
  · rfl
theorem cD_none {L : List Nat} {y : Nat} (h : (cD L (y : Int)).isSome = false) : L.count y = 0 := by
  unfold cD at h
  rw [Int.toNat_natCast] at h
  split at h
  · next h1 => exact h1
  · cases h
theorem c_talB {d : Nat} {m : eW} : ∀ (B : Nat) (L0 : List Nat) (g l x : Int) (w : eW) (t : eT), TPR m B L0 g l x w t → Cl (d + B + 2) 259 [rA 67, (0, g), (0, l), (0, x)] (enc w t) (fun r S2 => ∃ w2 t2, r = none ∧ S2 = enc w2 t2 ∧ TPO m L0 g l x w t w2 t2) := by
  intro B
  induction B with
  | zero => intro L0 g l x w t h; exact absurd h.2.2.2.2.2.1.2.2 (Nat.not_lt_zero _)
  | succ B ih =>
    intro L0 g l x w t h
    obtain ⟨hX, hD, hc, hlen, hg, hl, hx⟩ := h
    have he := hX.2.1
    have hne := he.n
    have heq := tl_eq he (g := g.toNat) (x := x.toNat) (show l.toNat ≤ 4 by omega)
    generalize hF : tlG m (tl m) l.toNat g.toNat x.toNat = F at heq
    rw [heq] at hlen
    have hx27 := p27 (show 4 - l.toNat ≤ 4 by omega)
    refine g_tal0 ?_
    refine lq1 (fun e (τ : eW × aV × aV) => Ev (d + B + 3) 259 (fun r S2 => ∃ w2 t2, r = none ∧ S2 = enc w2 t2 ∧ TPO m L0 g l x w t w2 t2) 3 [rA 67, (0, g), (0, l), (0, x), (0, (e : Int)), τ.2.1, τ.2.2] [] (enc τ.1 t)) (fun e τ => Fm [92, 93] [38] w τ.1 ∧ DV τ.1 (cD (L0 ++ lsD F e)) ∧ τ.1 67 38 ≤ (L0 ++ lsD F e).length) (nE m) ?_ ?_ 0 (w, (9, 0), (9, 0)) (Nat.zero_le _) ⟨Fm.rf _ _ _, by rw [show lsD F 0 = [] from rfl, List.append_nil]; exact hD, by rw [show lsD F 0 = [] from rfl, List.append_nil]; exact hc⟩
    · intro e τ hx2 hI hE
      obtain ⟨σ, J, J2⟩ := τ
      obtain ⟨i1, i2, i3⟩ := hI
      dsimp only at i1 i2 i3 hE ⊢
      have hX2 := hX.m i1 (by decide) (by decide)
      obtain ⟨e1, e2, e3, e4⟩ := hX2.2.2.2 e hx2
      obtain ⟨f1, f2, f3, f4⟩ := he.2 e hx2
      have e2' : σ 78 e = m 78 e := e2
      have hfm := he.fm hx2
      have hFe : F e = tlG m (tl m) l.toNat g.toNat x.toNat e := by rw [← hF]
      unfold tlG at hFe
      rw [show lsD F (e + 1) = lsD F e ++ F e from rfl] at hE
      have hsub : (lsD F e).length + (F e).length ≤ (lsD F (nE m)).length := by
        obtain ⟨Lr, hLr⟩ := lsD_pre F (show e + 1 ≤ nE m by omega)
        rw [hLr, show lsD F (e + 1) = lsD F e ++ F e from rfl, List.length_append, List.length_append]
        omega
      have skip : ∀ K K2 : aV, F e = [] → Ev (d + B + 3) 259 (fun r S2 => ∃ w2 t2, r = none ∧ S2 = enc w2 t2 ∧ TPO m L0 g l x w t w2 t2) 3 [rA 67, (0, g), (0, l), (0, x), (0, (e : Int) + 1), K, K2] [] (enc σ t) := fun K K2 h9 => hE (σ, K, K2) ⟨i1, by rw [h9, List.append_nil]; exact i2, by rw [h9, List.append_nil]; exact i3⟩
      refine g_tal1 (m := m) (D := fun _ => none) ?_
      rw [hX2.2.2.1]
      simp (disch := omega) only [w32_id, Int.toNat_natCast, e1, e3]
      refine ⟨fun h9 => (by omega), fun _ => ⟨by omega, fun h1 => skip _ _ ?_, fun h1 => ⟨by omega, fun h2 => ?_, fun h2 => skip _ _ ?_⟩⟩⟩
      · rw [hFe, if_neg (by omega)]
      · rw [if_pos (show m 77 e = (g.toNat : Int) ∧ fmN m e ≤ l.toNat by omega)] at hFe
        refine lp0 (fun i => Ev (d + B + 3) 259 (fun r S2 => ∃ w2 t2, r = none ∧ S2 = enc w2 t2 ∧ TPO m L0 g l x w t w2 t2) 43 [rA 67, (0, g), (0, l), (0, x), (0, (e : Int)), (0, (fcd m e x.toNat i : Int)), (0, (i : Int))] [] (enc σ t)) (fmN m e) ?_ ?_ 0 (Nat.zero_le _) |> fun hh => by rw [show ((fcd m e x.toNat 0 : Nat) : Int) = x by show ((x.toNat : Nat) : Int) = x; omega] at hh; exact hh
        · intro i hi hE2
          have h4 := e4 i (by omega)
          have h5 := f4 i (by omega)
          refine g_tal2 (m := m) (D := fun _ => none) (J := (9, 0)) (J2 := (9, 0)) ih ?_
          simp (disch := omega) only [w32_id, Int.toNat_natCast, e2', e3]
          rw [show (5 * (e : Int) + (i : Int)).toNat = 5 * e + i by omega, h4]
          refine ⟨by omega, fun h9 => (by omega), fun _ => ⟨by omega, ?_⟩⟩
          rw [show (27 * (fcd m e x.toNat i : Int) + m 80 (5 * e + i)) = ((fcd m e x.toNat (i + 1) : Nat) : Int) by show _ = ((27 * fcd m e x.toNat i + (m 80 (5 * e + i)).toNat : Nat) : Int); omega]
          exact hE2
        · have hfl := fcd_lt he hx2 hx.2 (fmN m e) (Nat.le_refl _)
          have hf27 := p27 (show 4 - l.toNat + fmN m e ≤ 4 by omega)
          generalize fcd m e x.toNat (fmN m e) = y at *
          refine g_tal2 (m := m) (D := cD (L0 ++ lsD F e)) (J := (9, 0)) (J2 := (9, 0)) ih ?_
          simp (disch := omega) only [w32_id, Int.toNat_natCast, e2', e3]
          refine ⟨by omega, fun _ => ⟨by omega, fun h3 => ⟨by omega, fun h4 => skip _ _ ?_, fun h4 => ?_⟩, fun h3 => ⟨by omega, by omega, L0 ++ lsD F e, ?_, fun w4 t5 hp => ?_⟩⟩, fun h9 => (by omega)⟩
          · rw [hFe, if_pos h3, if_neg (by omega)]
          · rw [if_pos h3, if_pos (by omega)] at hFe
            rw [hFe] at hsub hE
            rw [List.length_singleton] at hsub
            have kr : (0 : Int) ≤ (y : Int) ∧ (y : Int) ≤ 2147483647 := by omega
            have fin : ∀ (w1 : eW) (v : Int), v = ((L0 ++ lsD F e).count y : Int) + 1 → (FrT σ w1 ∧ w1 67 38 ≤ σ 67 38 + 1 ∧ (DV w1 (uD (cD (L0 ++ lsD F e)) (y : Int) v) ∨ (500000 ≤ σ 67 38 ∧ DV w1 (cD (L0 ++ lsD F e))))) → Ev (d + B + 3) 259 (fun r S2 => ∃ w2 t2, r = none ∧ S2 = enc w2 t2 ∧ TPO m L0 g l x w t w2 t2) 3 [rA 67, (0, g), (0, l), (0, x), (0, (e : Int) + 1), (0, (y : Int)), (0, (fmN m e : Int))] [] (enc w1 t) := by
              intro w1 v hv hw
              obtain ⟨k1, k2, k3⟩ := hw
              rw [List.length_append] at i3
              refine hE (w1, _, _) ⟨i1.tr (k1.m.mo (by decide) (by decide)), ?_, ?_⟩
              · rcases k3 with k3 | k3
                · rw [hv] at k3
                  rw [← List.append_assoc]
                  exact k3.ext (fun key hk => cD_add _ _ key hk)
                · exfalso
                  omega
              · rw [List.length_append, List.length_append, List.length_singleton]
                show w1 67 38 ≤ _
                omega
            refine ⟨⟨i2, kr⟩, fun h5 => ⟨⟨i2, kr⟩, fun w1 hw => fin w1 1 ?_ hw⟩, fun h5 => ⟨⟨i2, kr, h5⟩, ⟨i2, kr⟩, fun w1 hw => fin w1 _ ?_ hw⟩⟩
            · rw [cD_none h5]; rfl
            · rw [cD_some h5]
          · rw [if_neg h3] at hFe
            have hl2 : (l - m 79 e).toNat = l.toNat - fmN m e := by omega
            refine ⟨hX2, i2, i3, ?_, ⟨by omega, by omega⟩, ⟨by omega, by omega, by omega⟩, by omega, ?_⟩
            · rw [hl2, Int.toNat_natCast, ← hFe, List.length_append]
              omega
            · rw [hl2, Int.toNat_natCast, show 4 - (l.toNat - fmN m e) = 4 - l.toNat + fmN m e by omega]
              exact hfl
          · obtain ⟨p1, p2, p3, p4⟩ := hp
            subst p1
            rw [if_neg h3] at hFe
            have hl2 : (l - m 79 e).toNat = l.toNat - fmN m e := by omega
            rw [hl2, Int.toNat_natCast, ← hFe, List.append_assoc] at p3 p4
            exact hE (w4, _, _) ⟨i1.tr p2, p3, p4⟩
      · rw [hFe, if_neg (by omega)]
    · intro τ hI
      obtain ⟨σ, J, J2⟩ := τ
      obtain ⟨i1, i2, i3⟩ := hI
      dsimp only at i1 i2 i3 ⊢
      have hX2 := hX.m i1 (by decide) (by decide)
      refine g_tal1 (m := m) (D := fun _ => none) ?_
      rw [hX2.2.2.1]
      simp (disch := omega) only [w32_id]
      refine ⟨fun _ => ⟨σ, t, by trivial, rfl, rfl, i1, by rw [heq]; exact i2, by rw [heq]; exact i3⟩, fun h9 => (by omega)⟩
/-- how many numbers are there twice or more, and how often the first of them -/
def tw1 (L : List Nat) : Nat → Nat × Nat
  | 0 => (0, 0)
  | k + 1 => if 2 ≤ L.count k then ((tw1 L k).1 + 1, if (tw1 L k).1 = 0 then L.count k else (tw1 L k).2) else tw1 L k

