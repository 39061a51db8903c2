/-! The class: the fewest pairs with a pair among them. -/

theorem MaC.key {w m : eW} (hr : WFr m) (ma : MaC w m) {s : Nat} {g : t3} (hs : s < mN w) (hk : mK w s = ((kyG m g : Nat) : Int)) : (∀ p, p < 16 → (mfG m g).testBit p = false → mA w s p = -1) ∧ (∀ p, p < 16 → (mfG m g).testBit p = true → (mA w s p = -1 ∧ mfG m (gN g p) = 0) ∨ (mfG m (gN g p) ≠ 0 ∧ ∃ s2 : Nat, s2 < mN w ∧ mA w s p = (s2 : Int) ∧ mK w s2 = ((kyG m (gN g p) : Nat) : Int) ∧ mD w s2 ≤ mD w s + 1)) ∧ ∀ (hp : WFp m), mTl w s = ((fsN (fun n => eR m n g.1 g.2.1 g.2.2) 7 0 : Nat) : Int) := by
  obtain ⟨a, b', c, t1, t2, t3, t4⟩ := ma.2.2.1 s hs
  have e : kyG m (a, b', c) = kyG m g := by
    rw [hk] at t2
    have h1 : ((kyG m g : Nat) : Int) = ((kyG m (a, b', c) : Nat) : Int) := t2
    omega
  have em : mfB m a b' c = mfG m g := (ky_inj hr e).1
  refine ⟨fun p hp hb => ?_, fun p hp hb => ?_, fun hp => ?_⟩
  · have t5 := t3 p hp
    rw [em, hb, if_neg (by decide)] at t5
    exact t5
  · have en := (ky_nx hr e (p := p) (by omega)).2
    have em2 : mfB m b' c p = mfG m (gN g p) := (ky_inj hr en).1
    have t5 := t3 p hp
    rw [em, hb, if_pos rfl, em2] at t5
    by_cases h0 : mfG m (gN g p) = 0
    · rw [if_pos h0] at t5; exact Or.inl ⟨t5, h0⟩
    · rw [if_neg h0] at t5
      obtain ⟨s2, q1, q2, q3, q4⟩ := t5
      refine Or.inr ⟨h0, s2, q1, q2, ?_, q4⟩
      rw [q3, ← en]; rfl
  · rw [t4]
    have : (fun n => eR m n a b' c) = (fun n => eR m n g.1 g.2.1 g.2.2) := by
      funext n
      exact ky_eR hr hp n (a, b', c) g e
    rw [this]
theorem hB_1 {m : eW} {wt : Nat} : ∀ (n a b c : Nat), hB m wt n 1 a b c = eR m n a b c := by
  intro n
  induction n with
  | zero => intro a b c; rfl
  | succ n ih =>
    intro a b c
    unfold hB eR
    refine an_congr (fun d _ => ?_)
    have : (if d = wt then 1 else 1) = 1 := by split <;> rfl
    rw [this, ih]
theorem hB_up {m : eW} {wt : Nat} : ∀ (n z a b c : Nat), hB m wt n z a b c = true → hB m wt n 1 a b c = true := by
  intro n
  induction n with
  | zero =>
    intro z a b c h
    unfold hB at h ⊢
    obtain ⟨_, h2⟩ := Bool.and_eq_true_iff.mp h
    rw [h2]; rfl
  | succ n ih =>
    intro z a b c h
    unfold hB at h ⊢
    obtain ⟨d, h1, h2⟩ := an_iff.mp h
    obtain ⟨h3, h4⟩ := Bool.and_eq_true_iff.mp h2
    refine an_iff.mpr ⟨d, h1, ?_⟩
    have : (if d = wt then 1 else 1) = 1 := by split <;> rfl
    rw [this, h3, ih _ _ _ _ h4]; rfl
theorem hB_00 {m : eW} {wt a b c : Nat} : ¬ (hB m wt 0 0 a b c = true) := fun h => by
  have h : (false && isE m (-1) a b c) = true := h
  cases h
theorem goes_mf {m : eW} (hp : WFp m) {g : t3} {d : Nat} (hd : d < nP m) (h : goes m (-1) g.1 g.2.1 g.2.2 d = true) : (mfG m g).testBit d = true := by
  have hn : nP m ≤ 16 := by have := hp.1; unfold nP; omega
  rw [mf_tb (by omega), if_neg (by omega), decide_eq_true hd, h]; rfl
theorem mf_goes {m : eW} {g : t3} {d : Nat} (hd : d < 16) (h : (mfG m g).testBit d = true) : d < nP m ∧ goes m (-1) g.1 g.2.1 g.2.2 d = true := by
  rw [mf_tb (by omega), if_neg (by omega)] at h
  obtain ⟨h1, h2⟩ := Bool.and_eq_true_iff.mp h
  exact ⟨of_decide_eq_true h1, h2⟩
theorem tl_le {m : eW} {n : Nat} {g : t3} (hn : n ≤ 6) (h : eR m n g.1 g.2.1 g.2.2 = true) : fsN (fun n => eR m n g.1 g.2.1 g.2.2) 7 0 ≤ n := by
  obtain ⟨a1, a2, a3, a4⟩ := fsN_spec (P := fun n => eR m n g.1 g.2.1 g.2.2) 7 0 ⟨n, by omega, by omega, h⟩
  by_cases h9 : fsN (fun n => eR m n g.1 g.2.1 g.2.2) 7 0 ≤ n
  · exact h9
  · have := a4 n (by omega) (by omega)
    rw [h] at this; cases this
theorem tl_ok {m : eW} {g : t3} (h : fsN (fun n => eR m n g.1 g.2.1 g.2.2) 7 0 ≤ 6) : eR m (fsN (fun n => eR m n g.1 g.2.1 g.2.2) 7 0) g.1 g.2.1 g.2.2 = true := by
  by_cases hx : ∃ j, 0 ≤ j ∧ j < 0 + 7 ∧ (fun n => eR m n g.1 g.2.1 g.2.2) j = true
  · exact (fsN_spec 7 0 hx).1
  · exfalso
    have := fsN_none (P := fun n => eR m n g.1 g.2.1 g.2.2) 7 0 (fun j h1 h2 => by
      cases h9 : eR m j g.1 g.2.1 g.2.2
      · rfl
      · exact absurd ⟨j, h1, h2, h9⟩ hx)
    omega
/-- a row with the pair leads along its arc -/
theorem few_le {w m : eW} (hp : WFp m) (hr : WFr m) (ma : MaC w m) {wt : Nat} : ∀ (n s : Nat) (g : t3), n ≤ 6 → s < mN w → mK w s = ((kyG m g : Nat) : Int) → hB m wt n 0 g.1 g.2.1 g.2.2 = true → ∃ u v : Nat, u < mN w ∧ v < mN w ∧ mA w u wt = (v : Int) ∧ mD w u + 1 + mTl w v ≤ mD w s + (n : Int) := by
  have hn16 : nP m ≤ 16 := by have := hp.1; unfold nP; omega
  intro n
  induction n with
  | zero =>
    intro s g _ _ _ h
    exact absurd h (hB_00)
  | succ n ih =>
    intro s g hn hs hk h
    unfold hB at h
    obtain ⟨d, h1, h2⟩ := an_iff.mp h
    obtain ⟨h3, h4⟩ := Bool.and_eq_true_iff.mp h2
    obtain ⟨_, k2, k3⟩ := ma.key hr hs hk
    have hb := goes_mf hp h1 h3
    have h5 : hB m wt n (if d = wt then 1 else 0) (gN g d).1 (gN g d).2.1 (gN g d).2.2 = true := h4
    have h6 : eR m n (gN g d).1 (gN g d).2.1 (gN g d).2.2 = true := by rw [← hB_1 (wt := wt)]; exact hB_up _ _ _ _ _ h5
    rcases k2 d (by omega) hb with ⟨_, h0⟩ | ⟨_, s2, q1, q2, q3, q4⟩
    · exact absurd h0 (eR_mf hp h6)
    · by_cases h9 : d = wt
      · refine ⟨s, s2, hs, q1, by rw [← h9]; exact q2, ?_⟩
        have t1 := (ma.key hr q1 q3).2.2 hp
        have := tl_le (by omega) h6
        rw [t1]; omega
      · rw [if_neg h9] at h5
        obtain ⟨u, v, u1, u2, u3, u4⟩ := ih s2 (gN g d) (by omega) q1 q3 h5
        exact ⟨u, v, u1, u2, u3, by omega⟩
/-- .. and back -/
theorem few_bk {w m : eW} (hp : WFp m) (hr : WFr m) (ma : MaC w m) {wt : Nat} : ∀ (k s j : Nat), s < mN w → mD w s = (k : Int) → (∀ g : t3, mK w s = ((kyG m g : Nat) : Int) → hB m wt j 0 g.1 g.2.1 g.2.2 = true) → hB m wt (k + j) 0 16 16 16 = true := by
  intro k
  induction k with
  | zero =>
    intro s j hs hd h
    have h0 : s = 0 := by
      by_cases h9 : s = 0
      · exact h9
      · obtain ⟨s1, d, a1, a2, a3, a4⟩ := (ma.2.2.2 s hs).2.2 h9
        have := (ma.2.2.2 s1 a1).1
        omega
    rw [Nat.zero_add]
    exact h (16, 16, 16) (by rw [h0]; exact ma.1.2.2)
  | succ k ih =>
    intro s j hs hd h
    have h9 : s ≠ 0 := fun h9 => by
      rw [h9, ma.2.1] at hd; omega
    obtain ⟨s1, d, a1, a2, a3, a4⟩ := (ma.2.2.2 s hs).2.2 h9
    rw [show k + 1 + j = k + (j + 1) by omega]
    refine ih s1 (j + 1) a1 (by omega) (fun g hg => ?_)
    obtain ⟨k1, k2, _⟩ := ma.key hr a1 hg
    cases hb : (mfG m g).testBit d with
    | false => have := k1 d a2 hb; omega
    | true =>
      rcases k2 d a2 hb with ⟨e1, _⟩ | ⟨_, s2, q1, q2, q3, _⟩
      · omega
      · have : s2 = s := by omega
        rw [this] at q3
        obtain ⟨e1, e2⟩ := mf_goes a2 hb
        unfold hB
        refine an_iff.mpr ⟨d, e1, ?_⟩
        rw [e2]
        have h5 := h (gN g d) q3
        have h6 : hB m wt j 0 g.2.1 g.2.2 d = true := h5
        by_cases h8 : d = wt
        · rw [if_pos h8, hB_up _ _ _ _ _ h6]; rfl
        · rw [if_neg h8, h6]; rfl
/-- the least over the first states -/
def fwA (w : eW) (p : Nat) : Nat → Int
  | 0 => 7
  | s + 1 => if mA w s p = -1 then fwA w p s else if mD w s + 1 + mTl w (mA w s p).toNat < fwA w p s then mD w s + 1 + mTl w (mA w s p).toNat else fwA w p s
theorem fwA_c (w : eW) (p : Nat) : ∀ n, fwA w p n ≤ 7 ∧ (∀ u, u < n → mA w u p ≠ -1 → fwA w p n ≤ mD w u + 1 + mTl w (mA w u p).toNat) ∧ (fwA w p n = 7 ∨ ∃ u, u < n ∧ mA w u p ≠ -1 ∧ fwA w p n = mD w u + 1 + mTl w (mA w u p).toNat) := by
  intro n
  induction n with
  | zero => exact ⟨Int.le_refl _, fun u hu => by omega, Or.inl rfl⟩
  | succ n ih =>
    obtain ⟨i1, i2, i3⟩ := ih
    unfold fwA
    by_cases h1 : mA w n p = -1
    · rw [if_pos h1]
      refine ⟨i1, fun u hu h => ?_, ?_⟩
      · by_cases h2 : u = n
        · rw [h2] at h; exact absurd h1 h
        · exact i2 u (by omega) h
      · rcases i3 with h2 | ⟨u, u1, u2, u3⟩
        · exact Or.inl h2
        · exact Or.inr ⟨u, by omega, u2, u3⟩
    · rw [if_neg h1]
      by_cases h3 : mD w n + 1 + mTl w (mA w n p).toNat < fwA w p n
      · rw [if_pos h3]
        refine ⟨by omega, fun u hu h => ?_, Or.inr ⟨n, by omega, h1, rfl⟩⟩
        by_cases h2 : u = n
        · rw [h2]; exact Int.le_refl _
        · have := i2 u (by omega) h; omega
      · rw [if_neg h3]
        refine ⟨i1, fun u hu h => ?_, ?_⟩
        · by_cases h2 : u = n
          · rw [h2]; omega
          · exact i2 u (by omega) h
        · rcases i3 with h2 | ⟨u, u1, u2, u3⟩
          · exact Or.inl h2
          · exact Or.inr ⟨u, by omega, u2, u3⟩
theorem arc_in {w m : eW} (hr : WFr m) (ma : MaC w m) {s p : Nat} (hs : s < mN w) (hp : p < 16) (h : mA w s p ≠ -1) : ∃ v : Nat, v < mN w ∧ mA w s p = (v : Int) ∧ ∀ g : t3, mK w s = ((kyG m g : Nat) : Int) → (mfG m g).testBit p = true ∧ mK w v = ((kyG m (gN g p) : Nat) : Int) := by
  obtain ⟨a, b', c, t1, t2, _⟩ := ma.2.2.1 s hs
  obtain ⟨k1, k2, _⟩ := ma.key hr (g := (a, b', c)) hs t2
  cases hb : (mfG m (a, b', c)).testBit p with
  | false => exact absurd (k1 p hp hb) h
  | true =>
    rcases k2 p hp hb with ⟨e1, _⟩ | ⟨_, s2, q1, q2, q3, _⟩
    · exact absurd e1 h
    · refine ⟨s2, q1, q2, fun g hg => ?_⟩
      have e : kyG m (a, b', c) = kyG m g := by
        rw [hg] at t2
        have h1 : ((kyG m g : Nat) : Int) = ((kyG m (a, b', c) : Nat) : Int) := t2
        omega
      exact ⟨by rw [← (ky_inj hr e).1]; exact hb, by rw [q3, (ky_nx hr e (p := p) (by omega)).2]⟩
theorem tl_b {w m : eW} (ma : MaC w m) {s : Nat} (hs : s < mN w) : 0 ≤ mTl w s ∧ mTl w s ≤ 7 := by
  obtain ⟨a, b', c, _, _, _, t4⟩ := ma.2.2.1 s hs
  have := fsN_le (P := fun n => eR m n a b' c) 7 0
  rw [t4]; omega
theorem fwA_fw {w m : eW} (hp : WFp m) (hr : WFr m) (ma : MaC w m) {wt : Nat} (hw : wt < nP m) : fwA w wt (mN w) = ((fw m wt : Nat) : Int) := by
  have hn16 : nP m ≤ 16 := by have := hp.1; unfold nP; omega
  obtain ⟨i1, i2, i3⟩ := fwA_c w wt (mN w)
  -- what is found is one
  have hback : ∀ u, u < mN w → mA w u wt ≠ -1 → mD w u + 1 + mTl w (mA w u wt).toNat ≤ 6 → ∃ k : Nat, (k : Int) = mD w u + 1 + mTl w (mA w u wt).toNat ∧ hB m wt k 0 16 16 16 = true := fun u hu h h6 => by
    obtain ⟨v, v1, v2, v3⟩ := arc_in hr ma hu (p := wt) (by omega) h
    rw [v2, Int.toNat_natCast] at h6 ⊢
    have d0 := (ma.2.2.2 u hu).1
    have tb := tl_b ma v1
    refine ⟨(mD w u).toNat + (1 + (mTl w v).toNat), by omega, ?_⟩
    refine few_bk hp hr ma (mD w u).toNat u (1 + (mTl w v).toNat) hu (by omega) (fun g hg => ?_)
    obtain ⟨e1, e2⟩ := v3 g hg
    obtain ⟨e3, e4⟩ := mf_goes (by omega) e1
    have t1 := (ma.key hr v1 e2).2.2 hp
    rw [Nat.add_comm]
    unfold hB
    refine an_iff.mpr ⟨wt, e3, ?_⟩
    rw [e4, if_pos rfl, hB_1]
    have h9 : fsN (fun n => eR m n (gN g wt).1 (gN g wt).2.1 (gN g wt).2.2) 7 0 = (mTl w v).toNat := by omega
    have := tl_ok (m := m) (g := gN g wt) (by omega)
    rw [h9] at this
    rw [show eR m (mTl w v).toNat g.2.1 g.2.2 wt = true from this]; rfl
  have hfl := fsN_le (P := fun n => hB m wt n 0 16 16 16) 6 1
  unfold fw
  by_cases hex : ∃ j, 1 ≤ j ∧ j < 1 + 6 ∧ (fun n => hB m wt n 0 16 16 16) j = true
  · obtain ⟨a1, a2, a3, a4⟩ := fsN_spec 6 1 hex
    generalize fsN (fun n => hB m wt n 0 16 16 16) 6 1 = f at *
    obtain ⟨u, v, u1, u2, u3, u4⟩ := few_le hp hr ma f 0 (16, 16, 16) (by omega) (by have := ma.1.1; omega) ma.1.2.2 a1
    rw [ma.2.1] at u4
    have hle := i2 u u1 (by omega)
    rw [u3, Int.toNat_natCast] at hle
    rcases i3 with h7 | ⟨x, x1, x2, x3⟩
    · omega
    · obtain ⟨k, k1, k2⟩ := hback x x1 x2 (by omega)
      by_cases h9 : f ≤ k
      · omega
      · exfalso
        have hk0 : 1 ≤ k := by
          cases k with
          | zero => exact absurd k2 hB_00
          | succ k => omega
        have := a4 k hk0 (by omega)
        rw [k2] at this; cases this
  · have e7 := fsN_none (P := fun n => hB m wt n 0 16 16 16) 6 1 (fun j h1 h2 => by
      cases h9 : hB m wt j 0 16 16 16
      · rfl
      · exact absurd ⟨j, h1, h2, h9⟩ hex)
    rw [e7]
    rcases i3 with h7 | ⟨x, x1, x2, x3⟩
    · omega
    · by_cases h9 : fwA w wt (mN w) = 7
      · omega
      · obtain ⟨k, k1, k2⟩ := hback x x1 x2 (by omega)
        exfalso
        apply hex
        have hk0 : 1 ≤ k := by
          cases k with
          | zero => exact absurd k2 hB_00
          | succ k => omega
        exact ⟨k, hk0, by omega, k2⟩
theorem c_fewW {d : Nat} {w : eW} {t : eT} {m : eW} {p : Int} (h : (RgM w t (w 37 7).toNat ∧ MaC w m) ∧ (WFp m ∧ WFr m) ∧ (0 : Int) ≤ p ∧ (p : Int) < (nP m : Int)) : Cl (d + 2) 38 [rA 37, (0, p)] (enc w t) (fun r S2 => ∃ x, r = some (0, x) ∧ S2 = enc w t ∧ x = ((fw m p.toNat : Nat) : Int)) := by
  obtain ⟨⟨rg, ma⟩, ⟨hp, hr⟩, h1, h2⟩ := h
  obtain ⟨q, rfl⟩ : ∃ q : Nat, p = (q : Int) := ⟨p.toNat, by omega⟩
  have hn16 : nP m ≤ 16 := by have := hp.1; unfold nP; omega
  have hN := ma.1.2.1
  have hrg := rg
  obtain ⟨hD, _, hl, hl2⟩ := rg
  rw [hN, Int.toNat_natCast] at hl hl2
  obtain ⟨_, _, ⟨R, hR, ⟨k1, l1⟩, _, _, ⟨k4, l4⟩, ⟨k5, l5⟩, _, _⟩, _⟩ := hD
  rw [l1] at hl
  rw [Int.toNat_natCast]
  refine g_fewc0 ?_
  suffices hk : ∀ (k s : Nat) (J : aV), s + k = mN w → Ev (d + 2) 38 (fun r S2 => ∃ x, r = some (0, x) ∧ S2 = enc w t ∧ x = ((fw m q : Nat) : Int)) 5 [rA 37, (0, (q : Int)), (0, fwA w q s), (0, (s : Int)), J] [] (enc w t) from hk (mN w) 0 _ (by omega)
  intro k
  induction k with
  | zero =>
    intro s J hs
    refine g_fewc1 ?_
    rw [hN, show (s : Int) = (mN w : Int) by omega, show s = mN w by omega]
    exact ⟨fun _ => ⟨_, rfl, rfl, fwA_fw hp hr ma (by omega)⟩, fun h9 => absurd (Int.le_refl _) h9⟩
  | succ k ih =>
    intro s J hs
    refine g_fewc1 ?_
    have fc := (fwA_c w q s)
    have fl : 0 ≤ fwA w q s := by
      rcases fc.2.2 with h7 | ⟨x, x1, x2, x3⟩
      · omega
      · obtain ⟨v, v1, v2, _⟩ := arc_in hr ma (s := x) (p := q) (by omega) (by omega) x2
        have := tl_b ma v1
        have := (ma.2.2.2 x (by omega)).1
        rw [x3, v2, Int.toNat_natCast]; omega
    have ms := ma.2.2.2 s (by omega)
    have hrg2 := hrg
    rw [hN] at hrg2 ⊢
    rw [Int.toNat_natCast] at hrg2
    rw [w32_id (x := (mN w : Int)) (by omega), w32_id (x := (s : Int)) (by omega), Int.toNat_natCast]
    refine ⟨fun h9 => by omega, fun _ => ⟨⟨hrg2, by omega, by omega, by omega⟩, ?_⟩⟩
    rintro x1 rfl
    rw [Int.toNat_natCast, Int.toNat_natCast, show ((s : Int) + 1) = ((s + 1 : Nat) : Int) by omega, w32_id (x := (-1 : Int)) (by omega)]
    by_cases h9 : mA w s q = -1
    · rw [h9]
      refine ⟨fun _ => ?_, fun h8 => absurd (w32_id (by omega)) h8⟩
      have := ih (s + 1) (0, -1) (by omega)
      unfold fwA at this
      rw [if_pos h9] at this
      exact this
    · obtain ⟨v, v1, v2, _⟩ := arc_in hr ma (s := s) (p := q) (by omega) (by omega) h9
      have tb := tl_b ma v1
      have := ih (s + 1) (0, mA w s q) (by omega)
      unfold fwA at this
      rw [if_neg h9] at this
      rw [v2] at this ⊢
      rw [w32_id (x := (v : Int)) (by omega), Int.toNat_natCast]
      rw [Int.toNat_natCast] at this
      refine ⟨fun h8 => by omega, fun _ => ⟨⟨k4, by omega, by omega⟩, ⟨k5, by omega, by omega⟩, ?_⟩⟩
      show Ev (d + 2) 38 _ 5 [rA 37, (0, (q : Int)), (0, if w32 (mD w s + 1 + mTl w v) < w32 (fwA w q s) then mD w s + 1 + mTl w v else fwA w q s), (0, ((s + 1 : Nat) : Int)), (0, (v : Int))] [] (enc w t)
      rw [w32_id (x := mD w s + 1 + mTl w v) (by omega), w32_id (x := fwA w q s) (by omega)]
      exact this
