/-! The class: unlike spellings: hasWhole, lettersBehind, step. -/

theorem sp_at {w : eW} {n j : Nat} {m : eW} {l : List Int} {N : Nat} {KY : Nat → Int} {k : Nat} {R : Nat → t3 → Prop} {L : List Nat} (hl : LtO l) (hN : N ≤ 4369) (hS : SpS w n (GV m l N KY k R) L) (hj : j < L.length) : ∃ (s i : Nat) (g : t3), L.getD j 0 = s * 7 + i ∧ s < N ∧ KY s = ((kyG m g : Nat) : Int) ∧ spA m l i g ∧ R i g ∧ (idiv (w 59 (200 * n + j)) 7 = (s : Int) ∧ irem (w 59 (200 * n + j)) 7 = (i : Int)) ∧ i ≤ 6 := by
  obtain ⟨s, i, g, g1, g2, g3, g4, g5, g6⟩ := hS.1.2 _ (getD_mem hj)
  have hi : i ≤ l.length := g3.1
  have hl6 := hl.1.2
  refine ⟨s, i, g, g4, g1, g2, g3, g5, ⟨?_, ?_⟩, by omega⟩
  · rw [hS.2.2 j hj, g4, i_div (by omega) (by omega)]; omega
  · rw [hS.2.2 j hj, g4, i_rem (by omega) (by omega)]; omega
theorem c_hw {d : Nat} {m : eW} (hp : WFp m) (hr : WFr m) {l : List Int} (hl : LtO l) {w0 : eW} (hT0 : TlL w0 m l) {b : Nat × Nat} {N : Nat} {KY : Nat → Int} {σ : List Int} {L : List Nat} {w : eW} {t : eT} (hs6 : σ.length ≤ 6) (hG : GRm (GV m l N KY σ.length (Rch m l σ))) (hc : WCx m (flP m l N KY) w0 b N KY w t) (hS : SpS w σ.length (GV m l N KY σ.length (Rch m l σ)) L) (hC : Com m l N KY σ L) : Cl (d + 3) 93 [rA 58, (0, ((σ.length : Nat) : Int))] (enc w t) (fun r S2 => ∃ x, r = some (0, x) ∧ S2 = enc w t ∧ ((x = 1 ∧ TS m l σ []) ∨ (x = 0 ∧ ¬ TS m l σ []))) := by
  have rg := hc.rg
  have hN := rg.2.1
  have hNl := rg.2.2.2
  have hl6 := hl.1.2
  have hT := hT0.in' hc.1
  have hlen := hG.1 _ hS.1.1 hS.1.2
  rw [TS_nil hp hr hl hs6 hC hS.1.2]
  generalize hn : σ.length = n at *
  refine g_hw0 (m := m) (l := l) (b := b) ?_
  suffices hk : ∀ (k j : Nat) (J : aV), j + k = L.length → (∀ q, q < j → ¬ ∃ (s i : Nat) (g : t3), s < N ∧ KY s = ((kyG m g : Nat) : Int) ∧ L.getD q 0 = s * 7 + i ∧ i = l.length ∧ isE m (-1) g.1 g.2.1 g.2.2 = true ∧ i ≤ 6) → Ev (d + 3) 93 (fun r S2 => ∃ x, r = some (0, x) ∧ S2 = enc w t ∧ ((x = 1 ∧ ∃ (s i : Nat) (g : t3), s < N ∧ KY s = ((kyG m g : Nat) : Int) ∧ s * 7 + i ∈ L ∧ i = l.length ∧ isE m (-1) g.1 g.2.1 g.2.2 = true ∧ i ≤ 6) ∨ (x = 0 ∧ ¬ ∃ (s i : Nat) (g : t3), s < N ∧ KY s = ((kyG m g : Nat) : Int) ∧ s * 7 + i ∈ L ∧ i = l.length ∧ isE m (-1) g.1 g.2.1 g.2.2 = true ∧ i ≤ 6))) 2 [rA 58, (0, (n : Int)), (0, (j : Int)), J] [] (enc w t) from hk L.length 0 _ (by omega) (fun q hq => by omega)
  intro k
  induction k with
  | zero =>
    intro j J hj hno
    refine g_hw1 (m := m) (l := l) (b := b) ?_
    rw [w32_id (x := (n : Int)) (by omega), Int.toNat_natCast, hS.2.1, show (j : Int) = (L.length : Int) by omega]
    refine ⟨by omega, fun _ => ⟨0, rfl, rfl, Or.inr ⟨rfl, ?_⟩⟩, fun h9 => absurd (Int.le_refl _) h9⟩
    rintro ⟨s, i, g, a1, a2, a3, a4⟩
    obtain ⟨q, q1, q2⟩ := mem_getD a3
    exact hno q (by omega) ⟨s, i, g, a1, a2, q2, a4⟩
  | succ k ih =>
    intro j J hj hno
    obtain ⟨s, i, g, e1, e2, e3, e4, e5, ⟨e6, e7⟩, e8⟩ := sp_at hl hNl hS (j := j) (by omega)
    have hnext : (¬ (i = l.length ∧ isE m (-1) g.1 g.2.1 g.2.2 = true)) → ∀ q, q < j + 1 → ¬ ∃ (s i : Nat) (g : t3), s < N ∧ KY s = ((kyG m g : Nat) : Int) ∧ L.getD q 0 = s * 7 + i ∧ i = l.length ∧ isE m (-1) g.1 g.2.1 g.2.2 = true ∧ i ≤ 6 := fun h9 q hq => by
      by_cases h8 : q = j
      · rintro ⟨s', i', g', a1, a2, a3, a4, a5, a6⟩
        rw [h8, e1] at a3
        obtain ⟨rfl, rfl⟩ := code_un a3 e8 a6
        have ek : kyG m g = kyG m g' := by rw [e3] at a2; omega
        exact h9 ⟨a4, by rw [ky_E hr ek]; exact a5⟩
      · exact hno q (by omega)
    refine g_hw1 (m := m) (l := l) (b := b) ?_
    rw [w32_id (x := (n : Int)) (by omega), Int.toNat_natCast, hS.2.1, w32_id (x := (j : Int)) (by omega), w32_id (x := (L.length : Int)) (by omega), w32_id (x := (n : Int) * 200 + (j : Int)) (by omega), show ((n : Int) * 200 + (j : Int)).toNat = 200 * n + j by omega, e6, e7, hT.2.1, w32_id (x := (i : Int)) (by omega), w32_id (x := (l.length : Int)) (by omega), show ((j : Int) + 1) = ((j + 1 : Nat) : Int) by omega]
    refine ⟨by omega, fun h9 => by omega, fun _ => ⟨by omega, fun h9 => ih (j + 1) _ (by omega) (hnext (fun h8 => by omega)), fun h9 => ⟨g, ⟨⟨by rw [hN, Int.toNat_natCast]; exact rg, by omega, by rw [hN]; omega⟩, by rw [Int.toNat_natCast, hc.2.2.2.2 s]; exact e3⟩, ?_⟩⟩⟩
    rintro x2 rfl
    cases hI : isE m (-1) g.1 g.2.1 g.2.2 with
    | false => exact ⟨fun _ => ih (j + 1) _ (by omega) (hnext (fun h8 => by rw [hI] at h8; cases h8.2)), fun h8 => absurd (by decide) h8⟩
    | true => exact ⟨fun h8 => absurd h8 (by decide), fun _ => ⟨1, rfl, rfl, Or.inl ⟨rfl, s, i, g, e2, e3, by rw [← e1]; exact getD_mem (by omega), by omega, hI, e8⟩⟩⟩
theorem c_lbv {d : Nat} {m : eW} (hp : WFp m) (hr : WFr m) {l : List Int} (hl : LtO l) {w0 : eW} (hT0 : TlL w0 m l) {b : Nat × Nat} {N : Nat} {KY : Nat → Int} {n k0 : Nat} {R : Nat → t3 → Prop} {L : List Nat} {w : eW} {t : eT} (hs6 : n ≤ 6) (hlen : L.length ≤ 189) (hc : WCx m (flP m l N KY) w0 b N KY w t) (hS : SpS w n (GV m l N KY k0 R) L) : Cl (d + 3) 95 [rA 58, (0, (n : Int))] (enc w t) (fun r S2 => ∃ x : Nat, r = some (0, (x : Int)) ∧ S2 = enc w t ∧ x < 268435456 ∧ ∀ (s i : Nat) (g : t3) (p : Nat), s * 7 + i ∈ L → s < N → spA m l i g → KY s = ((kyG m g : Nat) : Int) → p < 16 → (spP m l i &&& mfG m g).testBit p = true → x.testBit (cdI (m 69 p)).toNat = true) := by
  have rg := hc.rg
  have hN := rg.2.1
  have hNl := rg.2.2.2
  have hl6 := hl.1.2
  have hT := hT0.in' hc.1
  refine g_vlb0 (m := m) (l := l) (b := b) ?_
  suffices hk : ∀ (k j le : Nat) (J1 J2 J3 : aV), j + k = L.length → le < 268435456 → (∀ (s i : Nat) (g : t3) (p : Nat), s * 7 + i ∈ L.take j → s < N → spA m l i g → KY s = ((kyG m g : Nat) : Int) → p < 16 → (spP m l i &&& mfG m g).testBit p = true → le.testBit (cdI (m 69 p)).toNat = true) → Ev (d + 3) 95 (fun r S2 => ∃ x : Nat, r = some (0, (x : Int)) ∧ S2 = enc w t ∧ x < 268435456 ∧ ∀ (s i : Nat) (g : t3) (p : Nat), s * 7 + i ∈ L → s < N → spA m l i g → KY s = ((kyG m g : Nat) : Int) → p < 16 → (spP m l i &&& mfG m g).testBit p = true → x.testBit (cdI (m 69 p)).toNat = true) 4 [rA 58, (0, (n : Int)), (0, (le : Int)), (0, (j : Int)), J1, J2, J3] [] (enc w t) from hk L.length 0 0 _ _ _ (by omega) (by decide) (fun s i g p h => by rw [List.take_zero] at h; cases h)
  intro k
  induction k with
  | zero =>
    intro j le J1 J2 J3 hj hle hin
    refine g_vlb1 (m := m) (l := l) (b := b) ?_
    rw [w32_id (x := (n : Int)) (by omega), Int.toNat_natCast, hS.2.1, show (j : Int) = (L.length : Int) by omega]
    rw [List.take_of_length_le (by omega)] at hin
    exact ⟨by omega, fun _ => ⟨le, rfl, rfl, hle, hin⟩, fun h9 => absurd (Int.le_refl _) h9⟩
  | succ k ih =>
    intro j le J1 J2 J3 hj hle hin
    obtain ⟨s, i, g, e1, e2, e3, e4, e5, ⟨e6, e7⟩, e8⟩ := sp_at hl hNl hS (j := j) (by omega)
    have hi : i ≤ l.length := e4.1
    refine g_vlb1 (m := m) (l := l) (b := b) ?_
    rw [w32_id (x := (n : Int)) (by omega), Int.toNat_natCast, hS.2.1, w32_id (x := (j : Int)) (by omega), w32_id (x := (L.length : Int)) (by omega), w32_id (x := (n : Int) * 200 + (j : Int)) (by omega), show ((n : Int) * 200 + (j : Int)).toNat = 200 * n + j by omega, e6, e7]
    refine ⟨by omega, fun h9 => by omega, fun _ => ⟨by omega, g, ⟨⟨hT, hl, hp⟩, ⟨by rw [hN, Int.toNat_natCast]; exact rg, by omega, by rw [hN]; omega⟩, by rw [Int.toNat_natCast, hc.2.2.2.2 s]; exact e3, by omega, by omega⟩, ?_⟩⟩
    rintro x2 rfl
    rw [Int.toNat_natCast]
    have hmf : mfG m g < 131072 := mfB_lt m g.1 g.2.1 g.2.2
    have hPm : spP m l i &&& mfG m g < 131072 := Nat.lt_of_le_of_lt Nat.and_le_right hmf
    generalize w 59 (200 * n + j) = sp
    have hgo : ∀ (le : Nat) (J1 J2 J3 : aV), le < 268435456 → (∀ (s i : Nat) (g : t3) (p : Nat), s * 7 + i ∈ L.take j → s < N → spA m l i g → KY s = ((kyG m g : Nat) : Int) → p < 16 → (spP m l i &&& mfG m g).testBit p = true → le.testBit (cdI (m 69 p)).toNat = true) → (∀ p, p < 16 → (spP m l i &&& mfG m g).testBit p = true → le.testBit (cdI (m 69 p)).toNat = true) → Ev (d + 3) 95 (fun r S2 => ∃ x : Nat, r = some (0, (x : Int)) ∧ S2 = enc w t ∧ x < 268435456 ∧ ∀ (s i : Nat) (g : t3) (p : Nat), s * 7 + i ∈ L → s < N → spA m l i g → KY s = ((kyG m g : Nat) : Int) → p < 16 → (spP m l i &&& mfG m g).testBit p = true → x.testBit (cdI (m 69 p)).toNat = true) 4 [rA 58, (0, (n : Int)), (0, (le : Int)), (0, (j : Int) + 1), J1, J2, J3] [] (enc w t) := fun le J1 J2 J3 a1 a2 a3 => by
      rw [show ((j : Int) + 1) = ((j + 1 : Nat) : Int) by omega]
      refine ih (j + 1) le J1 J2 J3 (by omega) a1 (fun s' i' g' p h1 h2 h3 h4 h5 h6 => ?_)
      rw [List.take_succ] at h1
      rcases List.mem_append.mp h1 with h7 | h7
      · exact a2 s' i' g' p h7 h2 h3 h4 h5 h6
      · have hjl : j < L.length := by omega
        have ez : s' * 7 + i' = s * 7 + i := by
          rw [List.getElem?_eq_getElem hjl] at h7
          have h7 : s' * 7 + i' ∈ [L[j]] := h7
          rw [List.mem_singleton] at h7
          rw [h7, ← e1, List.getD_eq_getElem?_getD, List.getElem?_eq_getElem hjl]; rfl
        have hi' : i' ≤ l.length := h3.1
        obtain ⟨rfl, rfl⟩ := code_un ez (by omega) e8
        have ek : kyG m g' = kyG m g := by rw [h4] at e3; omega
        exact a3 p h5 (by rw [← (ky_inj hr ek).1]; exact h6)
    suffices hk2 : ∀ (k2 p le : Nat), p + k2 = 16 → le < 268435456 → (∀ (s i : Nat) (g : t3) (p : Nat), s * 7 + i ∈ L.take j → s < N → spA m l i g → KY s = ((kyG m g : Nat) : Int) → p < 16 → (spP m l i &&& mfG m g).testBit p = true → le.testBit (cdI (m 69 p)).toNat = true) → (∀ q, q < p → (spP m l i &&& mfG m g).testBit q = true → le.testBit (cdI (m 69 q)).toNat = true) → Ev (d + 3) 95 (fun r S2 => ∃ x : Nat, r = some (0, (x : Int)) ∧ S2 = enc w t ∧ x < 268435456 ∧ ∀ (s i : Nat) (g : t3) (p : Nat), s * 7 + i ∈ L → s < N → spA m l i g → KY s = ((kyG m g : Nat) : Int) → p < 16 → (spP m l i &&& mfG m g).testBit p = true → x.testBit (cdI (m 69 p)).toNat = true) 47 [rA 58, (0, (n : Int)), (0, (le : Int)), (0, (j : Int)), (0, sp), (0, ((spP m l i &&& mfG m g : Nat) : Int)), (0, (p : Int))] [] (enc w t) from hk2 16 0 le (by omega) hle hin (fun q hq => by omega)
    intro k2
    induction k2 with
    | zero =>
      intro p le hp2 a1 a2 a3
      refine g_vlb2 (m := m) (l := l) (b := b) ?_
      have : p = 16 := by omega
      subst this
      exact ⟨fun _ => hgo le _ _ _ a1 a2 a3, fun h9 => absurd (by decide) h9⟩
    | succ k2 ih2 =>
      intro p le hp2 a1 a2 a3
      refine g_vlb2 (m := m) (l := l) (b := b) ?_
      rw [w32_id (x := 16) (by omega), w32_id (x := (p : Int)) (by omega), Int.toNat_natCast]
      refine ⟨fun h9 => by omega, fun _ => ⟨fun h9 => ?_, fun _ => ?_⟩⟩
      · have hz := sh_z hPm (by omega) h9
        refine hgo le _ _ _ a1 a2 (fun q h1 h2 => ?_)
        by_cases h8 : q < p
        · exact a3 q h8 h2
        · rw [hz q (by omega)] at h2; cases h2
      · rw [bsz (y := 0) hPm (by omega), show ((p : Int) + 1) = ((p + 1 : Nat) : Int) by omega]
        refine ⟨fun h9 => ih2 (p + 1) le (by omega) a1 a2 (fun q h1 h2 => ?_), fun h9 => ⟨by omega, ?_⟩⟩
        · by_cases h8 : q = p
          · rw [h8, h9] at h2; cases h2
          · exact a3 q (by omega) h2
        · have h8 : (spP m l i &&& mfG m g).testBit p = true := by cases h7 : (spP m l i &&& mfG m g).testBit p; exact absurd h7 h9; rfl
          obtain ⟨c1, _⟩ := bit_p hp hl (by omega) h8
          obtain ⟨_, z2, _⟩ := hp.2.1 p c1
          have hcb : 0 ≤ cdI (m 69 p) ∧ cdI (m 69 p) ≤ 27 := by unfold cdI; split <;> omega
          rw [(hT.1.2.1 p c1).2, i_set (by omega) (by omega), Int.toNat_natCast]
          have hlt : le ||| 2 ^ (cdI (m 69 p)).toNat < 268435456 := Nat.or_lt_two_pow (n := 28) a1 (Nat.pow_lt_pow_right (by decide) (by omega))
          have hup : ∀ q : Nat, le.testBit q = true → (le ||| 2 ^ (cdI (m 69 p)).toNat).testBit q = true := fun q hq => by rw [Nat.testBit_or, hq]; rfl
          refine ih2 (p + 1) _ (by omega) hlt (fun s i g p h1 h2 h3 h4 h5 h6 => hup _ (a2 s i g p h1 h2 h3 h4 h5 h6)) (fun q h1 h2 => ?_)
          by_cases h7 : q = p
          · rw [h7, Nat.testBit_or, Nat.testBit_two_pow_self, Bool.or_true]
          · exact hup _ (a3 q (by omega) h2)
