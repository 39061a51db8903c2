/-! The class: learnFits. -/

def lfQ (m : eW) (a c A n : Nat) (w : eW) (x : Int) (w2 : eW) : Prop := x = bI (lfB m a c A n) ∧ Fc [62] [] w w2 ∧ (lfB m a c A n = true → ∀ i, i < n → w2 62 i = (cfB m a c A i : Int))
theorem c_lf {d : Nat} {w m : eW} {t : eT} {a c n : Int} (h : RC w m ∧ AC w m ∧ WFp m ∧ WFr m ∧ (0 ≤ a ∧ a < (nR m : Int)) ∧ (0 ≤ c ∧ c < (nR m : Int)) ∧ (1 ≤ n ∧ n ≤ 4) ∧ (0 ≤ w 61 4 ∧ w 61 4 ≤ 2)) : Cl (d + 2) 12 [rA 61, (0, a), (0, c), (0, n)] (enc w t) (fun r S2 => ∃ x w2, r = some (0, x) ∧ S2 = enc w2 t ∧ lfQ m a.toNat c.toNat (w 61 4).toNat n.toNat w x w2) := by
  obtain ⟨hC, hA, hp, hr, ⟨ha0, ha⟩, ⟨hc0, hc⟩, ⟨hn1, hn4⟩, hq0, hq⟩ := h
  obtain ⟨a, rfl⟩ := Int.eq_ofNat_of_zero_le ha0
  obtain ⟨c, rfl⟩ := Int.eq_ofNat_of_zero_le hc0
  obtain ⟨n, rfl⟩ := Int.eq_ofNat_of_zero_le (show 0 ≤ n by omega)
  obtain ⟨A, eA⟩ := Int.eq_ofNat_of_zero_le hq0
  rw [eA] at hq
  rw [eA]
  simp only [Int.toNat_natCast]
  have ha : a < nR m := by omega
  have hc : c < nR m := by omega
  have hrn := hr.n
  have hpn := hp.n
  obtain ⟨a16, _, _, _, a20, a21, a22⟩ := hC.2 a ha
  obtain ⟨c16, _, _, _, c20, c21, c22⟩ := hC.2 c hc
  obtain ⟨a1, _⟩ := hr.2 a ha
  obtain ⟨⟨x1, x2, x3⟩, x4⟩ := and_bts hp (farB_s hp hr ha).1 (farB_s hp hr hc).1 (farB_s hp hr ha).2 (farB_s hp hr hc).2
  obtain ⟨⟨y1, y2, y3⟩, y4⟩ := and_bts hp (nearB_s hp hr ha).1 (nearB_s hp hr hc).1 (nearB_s hp hr ha).2 (nearB_s hp hr hc).2
  obtain ⟨⟨z1, z2, z3⟩, z4⟩ := and_bts hp (behB_s hp hr ha).1 (behB_s hp hr hc).1 (behB_s hp hr ha).2 (behB_s hp hr hc).2
  obtain ⟨X, hX⟩ : ∃ X : Nat, X = (farB m a).toNat &&& (farB m c).toNat := ⟨_, rfl⟩
  obtain ⟨Y, hY⟩ : ∃ X : Nat, X = (nearB m a).toNat &&& (nearB m c).toNat := ⟨_, rfl⟩
  obtain ⟨Z, hZ⟩ : ∃ X : Nat, X = (behB m a).toNat &&& (behB m c).toNat := ⟨_, rfl⟩
  rw [← hX] at x1 x2 x3 x4
  rw [← hY] at y1 y2 y3 y4
  rw [← hZ] at z1 z2 z3 z4
  obtain ⟨B1, hB1⟩ : ∃ B, B = (decide (0 < A) || (nf m a 16 && nf m c 16)) := ⟨_, rfl⟩
  obtain ⟨B2, hB2⟩ : ∃ B, B = (decide (A ≠ 1) || (ff m a 16 && ff m c 16)) := ⟨_, rfl⟩
  obtain ⟨B3, hB3⟩ : ∃ B, B = (decide (A + 1 < n) || (bf m a 16 && bf m c 16)) := ⟨_, rfl⟩
  have elf : lfB m a c A n = (B1 && B2 && B3) := by rw [hB1, hB2, hB3]; rfl
  have bX : w32 (iand (ishr (X : Int) 16) 1) = if X.testBit 16 then 1 else 0 := bb_i (x := X) (r := 16) (by omega) (by omega)
  have bY : w32 (iand (ishr (Y : Int) 16) 1) = if Y.testBit 16 then 1 else 0 := bb_i (x := Y) (r := 16) (by omega) (by omega)
  have bZ : w32 (iand (ishr (Z : Int) 16) 1) = if Z.testBit 16 then 1 else 0 := bb_i (x := Z) (r := 16) (by omega) (by omega)
  rw [x3] at bX
  rw [y3] at bY
  rw [z3] at bZ
  have hpw : 1 ≤ 2 ^ nP m ∧ 2 ^ nP m ≤ 65536 := ⟨Nat.one_le_two_pow, Nat.pow_le_pow_right (by decide) hpn.2⟩
  have no : lfB m a c A n = false → ∃ x w2, (some ((0, 0) : aV)) = some (0, x) ∧ enc w t = enc w2 t ∧ lfQ m a c A n w x w2 := fun h9 => ⟨0, w, rfl, rfl, by rw [h9]; rfl, Fc.rf _ _ _, fun h8 => by rw [h9] at h8; cases h8⟩
  have K3 : ∀ e1 e2 e3 : Int, e1 = bI B1 → e2 = bI B2 → e3 = bI B3 → Ev (d + 2) 12 (fun r S2 => ∃ x w2, r = some (0, x) ∧ S2 = enc w2 t ∧ lfQ m a c A n w x w2) 139 [rA 61, (0, (a : Int)), (0, (c : Int)), (0, (n : Int)), (0, (X : Int)), (0, (Y : Int)), (0, (Z : Int)), (0, e1), (0, e2), (0, e3), (9, 0), (9, 0), (9, 0)] [] (enc w t) := by
    intro e1 e2 e3 h1 h2 h3
    subst h1; subst h2; subst h3
    refine g_lf3 (m := m) ⟨fun h9 => ?_, fun h9 => ⟨fun h8 => ?_, fun h8 => ⟨fun h7 => ⟨⟨hA, hp⟩, ?_⟩, fun h7 => ?_⟩⟩⟩
    · refine no ?_
      rw [elf]
      cases B1 with
      | false => rfl
      | true => exact absurd h9 (by decide)
    · refine no ?_
      rw [elf]
      cases B2 with
      | false => rw [Bool.and_false]; rfl
      | true => exact absurd h8 (by decide)
    · have hT : lfB m a c A n = true := by
        rw [elf]
        cases B1 with
        | false => exact absurd (by decide) h9
        | true => cases B2 with
          | false => exact absurd (by decide) h8
          | true => cases B3 with
            | false => exact absurd (by decide) h7
            | true => rfl
      refine lq1 (σ := eW × aV) (fun i s => Ev (d + 2) 12 (fun r S2 => ∃ x w2, r = some (0, x) ∧ S2 = enc w2 t ∧ lfQ m a c A n w x w2) 168 [rA 61, (0, (a : Int)), (0, (c : Int)), (0, (n : Int)), (0, (X : Int)), (0, (Y : Int)), (0, (Z : Int)), (0, bI B1), (0, bI B2), (0, bI B3), (0, ((2 ^ nP m - 1 : Nat) : Int)), (0, (i : Int)), s.2] [] (enc s.1 t)) (fun i s => Fc [62] [] w s.1 ∧ ∀ j, j < i → s.1 62 j = (cfB m a c A j : Int)) n ?_ ?_ 0 (w, (9, 0)) (Nat.zero_le _) ⟨Fc.rf _ _ _, fun j hj => absurd hj (Nat.not_lt_zero j)⟩
      · rintro i ⟨w1, J⟩ hi ⟨g1, g2⟩ hE
        have r16 : w1 16 = w 16 := g1.row (by decide) rfl
        have r9 : w1 9 = w 9 := g1.row (by decide) rfl
        have r11 : w1 11 = w 11 := g1.row (by decide) rfl
        have r61 : w1 61 = w 61 := g1.row (by decide) rfl
        have st : ∀ y : Int, y = (cfB m a c A i : Int) → Ev (d + 2) 12 (fun r S2 => ∃ x w2, r = some (0, x) ∧ S2 = enc w2 t ∧ lfQ m a c A n w x w2) 261 [rA 61, (0, (a : Int)), (0, (c : Int)), (0, (n : Int)), (0, (X : Int)), (0, (Y : Int)), (0, (Z : Int)), (0, bI B1), (0, bI B2), (0, bI B3), (0, ((2 ^ nP m - 1 : Nat) : Int)), (0, (i : Int)), (0, y)] [] (enc w1 t) := by
          intro y hy
          refine g_lf5 (m := m) ?_
          rw [w32_id (x := (i : Int)) (by omega), Int.toNat_natCast]
          refine ⟨by omega, hE (wu w1 62 i y, (0, y)) ⟨g1.tr (Fc.pr (by decide)), fun j hj => ?_⟩⟩
          show wu w1 62 i y 62 j = _
          by_cases h9 : j = i
          · rw [h9, wu_eq, hy]
          · rw [wu_nk _ _ h9]; exact g2 j (by omega)
        refine g_lf4 (m := m) ⟨fun h9 => absurd h9 (by rw [w32_id (by omega), w32_id (by omega)]; omega), fun _ => ?_⟩
        dsimp only
        rw [r16, r9, r11, r61, eA, w32_id (x := (a : Int)) (by omega), Int.toNat_natCast, a16, w32_id (x := m 72 a) (by omega)]
        obtain ⟨q1, q2⟩ := hA.2.1 (m 72 a).toNat (by omega)
        obtain ⟨u1, _⟩ := hp.2.1 (m 72 a).toNat (by omega)
        have hcd : 0 ≤ cdI (m 68 (m 72 a).toNat) ∧ cdI (m 68 (m 72 a).toNat) ≤ 27 := cdI_b u1
        rw [q1, w32_id (x := cdI (m 68 (m 72 a).toNat)) (by omega), (hA.2.2.1 (cdI (m 68 (m 72 a).toNat)).toNat (by omega)).1]
        rw [w32_id (x := (i : Int)) (by omega), w32_id (x := (A : Int) - 2) (by omega), w32_id (x := (A : Int) - 1) (by omega), w32_id (x := (A : Int) + 1) (by omega)]
        rw [i_and (x := (X : Int)) (by omega) (by omega), i_and (x := (Y : Int)) (by omega) (by omega), i_and (x := (Z : Int)) (by omega) (by omega)]
        simp only [Int.toNat_natCast]
        rw [x4, y4, z4]
        refine ⟨by omega, by omega, by omega, fun i2 => ⟨fun i1 => ⟨fun i0 => ?_, fun i0 => ?_⟩, fun i1 => ?_⟩, fun i2 => ?_⟩
        · refine st _ ?_
          unfold cfB
          rw [if_neg (by omega), if_neg (by omega), if_neg (by omega)]
        · refine st _ ?_
          unfold cfB
          rw [if_neg (by omega), if_neg (by omega), if_pos (by omega)]
        · refine st _ ?_
          unfold cfB
          rw [if_neg (by omega), if_pos (by omega)]
        · refine st _ ?_
          unfold cfB
          rw [if_pos (by omega)]
      · rintro ⟨w1, J⟩ ⟨g1, g2⟩
        refine g_lf4 (m := m) ⟨fun _ => ⟨1, w1, rfl, rfl, by rw [hT]; rfl, g1, fun _ => g2⟩, fun h9 => absurd (Int.le_refl _) h9⟩
    · refine no ?_
      rw [elf]
      cases B3 with
      | false => rw [Bool.and_false]
      | true => exact absurd (fun h6 => by exact absurd h6 (by decide)) h7
  have K2 : ∀ e1 e2 : Int, e1 = bI B1 → e2 = bI B2 → Ev (d + 2) 12 (fun r S2 => ∃ x w2, r = some (0, x) ∧ S2 = enc w2 t ∧ lfQ m a c A n w x w2) 112 [rA 61, (0, (a : Int)), (0, (c : Int)), (0, (n : Int)), (0, (X : Int)), (0, (Y : Int)), (0, (Z : Int)), (0, e1), (0, e2), (9, 0), (9, 0), (9, 0), (9, 0)] [] (enc w t) := by
    intro e1 e2 h1 h2
    refine g_lf2 (m := m) ?_
    rw [eA, bZ, w32_id (x := (A : Int) + 1) (by omega), w32_id (x := (n : Int)) (by omega)]
    refine ⟨fun h9 => K3 _ _ _ h1 h2 ?_, fun h9 => ⟨fun h8 => K3 _ _ _ h1 h2 ?_, fun h8 => K3 _ _ _ h1 h2 ?_⟩⟩
    · rw [hB3, decide_eq_true (by omega)]; rfl
    · rw [hB3, decide_eq_false (by omega), Bool.false_or]
      cases hb : (bf m a 16 && bf m c 16) with
      | false => rfl
      | true => rw [hb] at h8; exact absurd h8 (by decide)
    · rw [hB3, decide_eq_false (by omega), Bool.false_or]
      cases hb : (bf m a 16 && bf m c 16) with
      | false => rw [hb] at h8; exact absurd (by decide) h8
      | true => rfl
  have K1 : ∀ e1 : Int, e1 = bI B1 → Ev (d + 2) 12 (fun r S2 => ∃ x w2, r = some (0, x) ∧ S2 = enc w2 t ∧ lfQ m a c A n w x w2) 87 [rA 61, (0, (a : Int)), (0, (c : Int)), (0, (n : Int)), (0, (X : Int)), (0, (Y : Int)), (0, (Z : Int)), (0, e1), (9, 0), (9, 0), (9, 0), (9, 0), (9, 0)] [] (enc w t) := by
    intro e1 h1
    refine g_lf1 (m := m) ?_
    rw [eA, bX, w32_id (x := (A : Int)) (by omega), w32_id (x := 1) (by decide)]
    refine ⟨fun h9 => K2 _ _ h1 ?_, fun h9 => ⟨fun h8 => K2 _ _ h1 ?_, fun h8 => K2 _ _ h1 ?_⟩⟩
    · rw [hB2, decide_eq_true (by omega)]; rfl
    · rw [hB2, decide_eq_false (by omega), Bool.false_or]
      cases hb : (ff m a 16 && ff m c 16) with
      | false => rfl
      | true => rw [hb] at h8; exact absurd h8 (by decide)
    · rw [hB2, decide_eq_false (by omega), Bool.false_or]
      cases hb : (ff m a 16 && ff m c 16) with
      | false => rw [hb] at h8; exact absurd (by decide) h8
      | true => rfl
  refine g_lf (m := m) ?_
  rw [w32_id (x := (a : Int)) (by omega), w32_id (x := (c : Int)) (by omega), Int.toNat_natCast, Int.toNat_natCast, a20, a21, a22, c20, c21, c22, x1, y1, z1]
  refine ⟨by omega, by omega, by omega, by omega, by omega, by omega, g_lf0 (m := m) ?_⟩
  rw [eA, bY, w32_id (x := (A : Int)) (by omega)]
  refine ⟨fun h9 => K1 _ ?_, fun h9 => ⟨fun h8 => K1 _ ?_, fun h8 => K1 _ ?_⟩⟩
  · rw [hB1, decide_eq_true (by omega)]; rfl
  · rw [hB1, decide_eq_false (by omega), Bool.false_or]
    cases hb : (nf m a 16 && nf m c 16) with
    | false => rfl
    | true => rw [hb] at h8; exact absurd h8 (by decide)
  · rw [hB1, decide_eq_false (by omega), Bool.false_or]
    cases hb : (nf m a 16 && nf m c 16) with
    | false => rw [hb] at h8; exact absurd (by decide) h8
    | true => rfl

