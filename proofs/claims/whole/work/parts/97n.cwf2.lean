/-! The class: writeFirst. -/

def noI (m : eW) (x : Nat) : Nat := x &&& (2147483647 ^^^ insB m)
theorem noI_t (m : eW) (x : Nat) {p : Nat} (hp : p < 31) : (noI m x).testBit p = (x.testBit p && !isI m p) := by
  have := bt_andn x (insB m) hp
  unfold bt at this
  rw [Int.toNat_natCast, insB_bit] at this
  exact this
theorem noI_le (m : eW) (x : Nat) : noI m x ≤ x := Nat.and_le_left
theorem noI_id (m : eW) {x : Nat} (hx : x < 65536) : noI m (noI m x) = noI m x := by
  apply Nat.eq_of_testBit_eq
  intro p
  by_cases hp : p < 31
  · rw [noI_t m _ hp, noI_t m _ hp, Bool.and_assoc, Bool.and_self]
  · have h1 := noI_le m x
    have h2 := noI_le m (noI m x)
    have h3 : 65536 ≤ 2 ^ p := Nat.le_trans (show 65536 ≤ 2 ^ 31 by decide) (Nat.pow_le_pow_right (by decide) (by omega))
    rw [Nat.testBit_lt_two_pow (by omega), Nat.testBit_lt_two_pow (by omega)]
def stk (m : eW) (F : Nat → Nat) (n i : Nat) : Nat := if i + 1 < n ∧ noI m (F (i + 1)) = 0 then noI m (F i) else F i
theorem stk_n {m : eW} {F : Nat → Nat} {n i : Nat} (h : F i < 65536) : noI m (stk m F n i) = noI m (F i) := by
  unfold stk
  split
  · exact noI_id m h
  · rfl
theorem stk_b {m : eW} {F : Nat → Nat} {n i : Nat} (h : F i < 65536) : stk m F n i < 65536 := by
  have := noI_le m (F i)
  unfold stk
  split <;> omega
def gdN (m : eW) (G : Nat → Nat) (i c : Nat) : Nat := fsN (fun p => (G i).testBit p && !(isI m c && isI m p)) 16 0
def gd (m : eW) (G : Nat → Nat) : Nat → Nat → Nat → Option (List Nat)
  | 0, _, _ => some []
  | k + 1, i, c => if gdN m G i c = 16 then none else (gd m G k (i + 1) (gdN m G i c)).map (fun l => gdN m G i c :: l)
def gdQ (o : Option (List Nat)) (i k : Nat) (x : Int) (w2 : eW) : Prop := match o with
  | none => x = 0
  | some l => x = 1 ∧ l.length = k ∧ ∀ j, j < k → w2 63 (i + j) = (l.getD j 0 : Int)
theorem gd_lo {m : eW} {G : Nat → Nat} {i c : Nat} {y : Int} (hp : WFp m) (hG : G i < 65536) (hy : y = if isI m c then ixor (insB m : Int) (-1) else -1) : ∃ z : Nat, iand (G i : Int) y = (z : Int) ∧ z < 65536 ∧ loI z = if gdN m G i c = 16 then -1 else (gdN m G i c : Int) := by
  have e : ∀ z : Nat, (∀ p, p < 16 → z.testBit p = ((G i).testBit p && !(isI m c && isI m p))) → loI z = if gdN m G i c = 16 then -1 else (gdN m G i c : Int) := by
    intro z hz
    unfold loI gdN
    rw [fsN_congr hz]
  cases hc : isI m c with
  | false =>
    rw [hc] at hy e
    refine ⟨G i, ?_, hG, e _ (fun p _ => by simp)⟩
    rw [hy]
    exact i_m1 (by omega)
  | true =>
    rw [hc] at hy e
    have h1 := noI_le m (G i)
    refine ⟨noI m (G i), ?_, by omega, e _ (fun p hp2 => ?_)⟩
    · rw [hy, if_pos rfl, i_andn (by omega) (by omega), Int.toNat_natCast, Int.toNat_natCast]
      rfl
    · rw [noI_t m _ (by omega), Bool.true_and]
theorem gdN_le (m : eW) (G : Nat → Nat) (i c : Nat) : gdN m G i c ≤ 16 := by
  have := (fsN_le (P := fun p => (G i).testBit p && !(isI m c && isI m p)) 16 0).2
  unfold gdN
  omega
theorem c_wfF {d n : Nat} {m w0 : eW} {t : eT} {G : Nat → Nat} (hn : n ≤ 4) (hp : WFp m) (hA : AC w0 m) (hG : ∀ j, j < n → G j < 65536 ∧ w0 62 j = (G j : Int)) : ∀ (k i c : Nat) (y : Int) (w1 : eW), i + k = n → Fc [63] [] w0 w1 → (y = if isI m c then ixor (insB m : Int) (-1) else -1) → Ev (d + 1) 13 (fun r S2 => ∃ x w2, r = some (0, x) ∧ S2 = enc w2 t ∧ Fc [63] [] w0 w2 ∧ (∀ j, j < i → w2 63 j = w1 63 j) ∧ gdQ (gd m G k i c) i k x w2) 57 [rA 61, (0, (n : Int)), (0, y), (0, (i : Int))] [] (enc w1 t) := by
  intro k
  induction k with
  | zero =>
    intro i c y w1 hi hf hy
    refine g_wf2 (m := m) ⟨fun _ => ⟨1, w1, rfl, rfl, hf, fun _ _ => rfl, rfl, rfl, fun j hj => absurd hj (Nat.not_lt_zero j)⟩, fun h9 => absurd ?_ h9⟩
    rw [w32_id (by omega), w32_id (by omega)]
    omega
  | succ k ih =>
    intro i c y w1 hi hf hy
    have r62 : w1 62 = w0 62 := hf.row (by decide) (by decide)
    obtain ⟨z, z1, z2, z3⟩ := gd_lo (c := c) hp (hG i (by omega)).1 hy
    have hle := gdN_le m G i c
    have hA1 : AC w1 m := hA.fc hf (by decide) (by decide)
    refine g_wf2 (m := m) ⟨fun h9 => absurd h9 (by rw [w32_id (by omega), w32_id (by omega)]; omega), fun _ => ?_⟩
    rw [r62, w32_id (x := (i : Int)) (by omega), Int.toNat_natCast, (hG i (by omega)).2, z1, Int.toNat_natCast, z3, show w1 8 8 = (insB m : Int) from hA1.2.2.2]
    have hf2 : ∀ v, Fc [63] [] w0 (wu w1 63 i v) := fun v => hf.tr (Fc.pr (by decide))
    have hA2 : ∀ v, AC (wu w1 63 i v) m := fun v => hA1.fc (Fc.pr (R := [63]) (F := []) (by decide)) (by decide) (by decide)
    refine ⟨by omega, by omega, by omega, by omega, fun h9 => ?_, fun h9 => ?_⟩
    · have hne : gdN m G i c ≠ 16 := fun h8 => by rw [if_pos h8] at h9; exact h9 rfl
      rw [if_neg hne, Int.toNat_natCast]
      have fin : ∀ y2, (y2 = if isI m (gdN m G i c) then ixor (insB m : Int) (-1) else -1) → Ev (d + 1) 13 (fun r S2 => ∃ x w2, r = some (0, x) ∧ S2 = enc w2 t ∧ Fc [63] [] w0 w2 ∧ (∀ j, j < i → w2 63 j = w1 63 j) ∧ gdQ (gd m G (k + 1) i c) i (k + 1) x w2) 57 [rA 61, (0, (n : Int)), (0, y2), (0, (i : Int) + 1)] [] (enc (wu w1 63 i (gdN m G i c : Int)) t) := by
        intro y2 hy2
        refine Ev.mono (ih (i + 1) (gdN m G i c) y2 _ (by omega) (hf2 _) hy2) ?_
        rintro r S2 ⟨x, w2, rfl, rfl, q1, q2, q3⟩
        refine ⟨x, w2, rfl, rfl, q1, fun j hj => ?_, ?_⟩
        · rw [q2 j (by omega), wu_nk _ _ (by omega)]
        · unfold gd
          rw [if_neg hne]
          cases hg : gd m G k (i + 1) (gdN m G i c) with
          | none => rw [hg] at q3; exact q3
          | some l =>
            rw [hg] at q3
            obtain ⟨q3, q4, q5⟩ := q3
            refine ⟨q3, by rw [← q4]; rfl, fun j hj => ?_⟩
            cases j with
            | zero => rw [Nat.add_zero, q2 i (by omega), wu_eq]; rfl
            | succ j =>
              have := q5 j (by omega)
              rw [show i + (j + 1) = i + 1 + j by omega, this]
              rfl
      refine ⟨by omega, ⟨hA2 _, hp, by omega, by omega⟩, fun h8 => fin _ (by rw [h8]; rfl), fun h8 => fin _ (by rw [h8]; rfl)⟩
    · have h16 : gdN m G i c = 16 := by
        by_cases h8 : gdN m G i c = 16
        · exact h8
        · rw [if_neg h8, w32_id (by omega), w32_id (by omega)] at h9
          exact absurd (fun h7 => by omega) h9
      refine ⟨0, _, rfl, rfl, hf2 _, fun j hj => wu_nk _ _ (by omega), ?_⟩
      unfold gd
      rw [if_pos h16]
      rfl
def wfQ (m : eW) (F : Nat → Nat) (n : Nat) (w : eW) (x : Int) (w2 : eW) : Prop := Fc [62, 63] [] w w2 ∧ gdQ (gd m (stk m F n) n 0 16) 0 n x w2
theorem c_wf {d : Nat} {m w : eW} {t : eT} {F : Nat → Nat} {n : Int} (h : AC w m ∧ WFp m ∧ (1 ≤ n ∧ n ≤ 4) ∧ ∀ j, j < n.toNat → F j < 65536 ∧ w 62 j = (F j : Int)) : Cl (d + 1) 13 [rA 61, (0, n)] (enc w t) (fun r S2 => ∃ x w2, r = some (0, x) ∧ S2 = enc w2 t ∧ wfQ m F n.toNat w x w2) := by
  obtain ⟨hA, hp, ⟨hn1, hn4⟩, hF⟩ := h
  obtain ⟨n, rfl⟩ := Int.eq_ofNat_of_zero_le (show 0 ≤ n by omega)
  simp only [Int.toNat_natCast] at hF ⊢
  have hi16 : isI m 16 = false := by
    have := hp.n.2
    unfold isI
    rw [decide_eq_false (by omega)]
    rfl
  have key : ∀ (k : Nat) (z : Int) (w1 : eW), k ≤ n - 1 → z = (k : Int) - 1 → Fc [62] [] w w1 → (∀ j, j < n → w1 62 j = if j < k then (F j : Int) else (stk m F n j : Int)) → Ev (d + 1) 13 (fun r S2 => ∃ x w2, r = some (0, x) ∧ S2 = enc w2 t ∧ wfQ m F n w x w2) 4 [rA 61, (0, (n : Int)), (0, z), (9, 0)] [] (enc w1 t) := by
    intro k
    induction k with
    | zero =>
      intro z w1 hk hz hf hj
      refine g_wf1 (m := m) ⟨fun _ => ?_, fun h9 => absurd (by rw [w32_id (by omega)]; omega) h9⟩
      have hA1 : AC w1 m := hA.fc hf (by decide) (by decide)
      refine Ev.mono (c_wfF (G := stk m F n) (by omega) hp hA1 (fun j hj2 => ⟨stk_b (hF j hj2).1, by rw [hj j hj2]; rfl⟩) n 0 16 (-1) w1 (by omega) (Fc.rf _ _ _) (by rw [hi16]; rfl)) ?_
      rintro r S2 ⟨x, w2, rfl, rfl, q1, q2, q3⟩
      exact ⟨x, w2, rfl, rfl, (hf.mo (by decide) (by decide)).tr (q1.mo (by decide) (by decide)), q3⟩
    | succ k ih =>
      intro z w1 hk hz hf hj
      have hA1 : AC w1 m := hA.fc hf (by decide) (by decide)
      have hb := (hF (k + 1) (by omega)).1
      have hs := stk_b (m := m) (n := n) hb
      have hnl := noI_le m (F (k + 1))
      have ez : z = (k : Int) := by omega
      subst ez
      refine g_wf1 (m := m) ⟨fun h9 => absurd h9 (by rw [w32_id (by omega)]; omega), fun _ => ?_⟩
      rw [w32_id (x := (k : Int) + 1) (by omega), w32_id (x := (k : Int)) (by omega), show ((k : Int) + 1).toNat = k + 1 by omega, Int.toNat_natCast, hj (k + 1) (by omega), if_neg (by omega), hj k (by omega), if_pos (by omega), show w1 8 8 = (insB m : Int) from hA1.2.2.2]
      have hFk := (hF k (by omega)).1
      rw [i_andn (by omega) (by omega), i_andn (by omega) (by omega)]
      simp only [Int.toNat_natCast]
      rw [show stk m F n (k + 1) &&& (2147483647 ^^^ insB m) = noI m (stk m F n (k + 1)) from rfl, stk_n hb, w32_id (by omega)]
      refine ⟨by omega, fun h9 => ih _ w1 (by omega) (by omega) hf (fun j hj2 => ?_), fun h9 => ⟨by omega, by omega, ih _ _ (by omega) (by omega) (hf.tr (Fc.pr (by decide))) (fun j hj2 => ?_)⟩⟩
      · rw [hj j hj2]
        by_cases h8 : j < k
        · rw [if_pos h8, if_pos (by omega)]
        · rw [if_neg h8]
          by_cases h7 : j = k
          · rw [if_pos (by omega), h7]
            unfold stk
            rw [if_neg (fun h6 => h9 (by omega))]
          · rw [if_neg (by omega)]
      · by_cases h7 : j = k
        · rw [h7, wu_eq, if_neg (by omega)]
          unfold stk
          rw [if_pos ⟨by omega, by omega⟩]
          rfl
        · rw [wu_nk _ _ h7, hj j hj2]
          by_cases h8 : j < k
          · rw [if_pos h8, if_pos (by omega)]
          · rw [if_neg h8, if_neg (by omega)]
  refine g_wf (m := m) (key (n - 1) _ w (Nat.le_refl _) (by omega) (Fc.rf _ _ _) (fun j hj => ?_))
  rw [(hF j hj).2]
  by_cases h8 : j < n - 1
  · rw [if_pos h8]
  · rw [if_neg h8]
    unfold stk
    rw [if_neg (by omega)]

