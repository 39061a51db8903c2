/-! The class: stateOf (2). -/

theorem lshl17 {x : Int} (hx : 0 ≤ x ∧ x < 2147483648) : lshl x 17 = x * 131072 := by
  show (Int64.ofInt x <<< ((Int32.ofInt 17).toInt64 &&& 63)).toInt = _
  have hu : (Int64.ofInt x).toBitVec.toNat = x.toNat := by
    show (BitVec.ofInt 64 x).toNat = _
    rw [BitVec.toNat_ofInt]
    show (x % 18446744073709551616).toNat = _
    omega
  have e : ((Int32.ofInt 17).toInt64 &&& 63) = (17 : Int64) := by decide
  rw [e]
  have hn : (Int64.ofInt x <<< (17 : Int64)).toBitVec.toNat = x.toNat * 131072 := by
    rw [Int64.toBitVec_shiftLeft]
    show ((Int64.ofInt x).toBitVec <<< (BitVec.ofNat 64 17)).toNat = _
    rw [BitVec.shiftLeft_eq', BitVec.toNat_shiftLeft, hu]
    show x.toNat <<< 17 % 18446744073709551616 = _
    rw [Nat.shiftLeft_eq]
    omega
  show (Int64.ofInt x <<< (17 : Int64)).toBitVec.toInt = _
  rw [BitVec.toInt_eq_toNat_of_lt (by rw [hn]; omega), hn]
  omega
theorem lshl25 {x : Int} (hx : 0 ≤ x ∧ x < 2147483648) : lshl x 25 = x * 33554432 := by
  show (Int64.ofInt x <<< ((Int32.ofInt 25).toInt64 &&& 63)).toInt = _
  have hu : (Int64.ofInt x).toBitVec.toNat = x.toNat := by
    show (BitVec.ofInt 64 x).toNat = _
    rw [BitVec.toNat_ofInt]
    show (x % 18446744073709551616).toNat = _
    omega
  have e : ((Int32.ofInt 25).toInt64 &&& 63) = (25 : Int64) := by decide
  rw [e]
  have hn : (Int64.ofInt x <<< (25 : Int64)).toBitVec.toNat = x.toNat * 33554432 := by
    rw [Int64.toBitVec_shiftLeft]
    show ((Int64.ofInt x).toBitVec <<< (BitVec.ofNat 64 25)).toNat = _
    rw [BitVec.shiftLeft_eq', BitVec.toNat_shiftLeft, hu]
    show x.toNat <<< 25 % 18446744073709551616 = _
    rw [Nat.shiftLeft_eq]
    omega
  show (Int64.ofInt x <<< (25 : Int64)).toBitVec.toInt = _
  rw [BitVec.toInt_eq_toNat_of_lt (by rw [hn]; omega), hn]
  omega

theorem ky_or {a b c : Nat} (ha : a < 131072) (hb : b < 256) (hc : c < 256) : lor (lor (a : Int) ((b : Int) * 131072)) ((c : Int) * 33554432) = ((a + 131072 * b + 33554432 * c : Nat) : Int) := by
  have e1 : ((b : Int) * 131072) = ((2 ^ 17 * b : Nat) : Int) := by omega
  have e2 : ((c : Int) * 33554432) = ((2 ^ 25 * c : Nat) : Int) := by omega
  have h1 : 2 ^ 17 * b < 33554432 := by omega
  have h2 : 2 ^ 25 * c < 8589934592 := by omega
  rw [e1, e2, l_or (x := (a : Int)) (by omega) (by omega), Int.toNat_natCast, Int.toNat_natCast, or_add (show a < 2 ^ 17 by omega), l_or (by omega) (by omega), Int.toNat_natCast, Int.toNat_natCast, or_add (show a + 2 ^ 17 * b < 2 ^ 25 by omega)]
theorem so_key {m w : eW} {g : t3} {x : Int} (hL : LN w m) (hr : WFr m) (hx : x = ((trG m g : Nat) : Int)) (hg : gL g ≤ 16) : (iand x 31 = ((gL g : Nat) : Int)) ∧ lor (lor (w32 ((mfG m g : Nat) : Int)) (lshl (w32 (iand (ishr x 13) 255)) 17)) (lshl (w32 (w 23 (w32 (iand x 31)).toNat)) 25) = ((kyG m g : Nat) : Int) := by
  obtain ⟨t1, t2, t3, t4⟩ := tr_b (m := m) (a := g.1) (b := g.2.1) hr hg
  have hn : nxB m g.2.1 g.2.2 < 256 := bts8 _ hr
  have hf : frB m g.2.2 < 256 := bts8 _ hr
  have hm : mfG m g < 131072 := mfB_lt m g.1 g.2.1 g.2.2
  have hxv : x = ((tr m g.1 g.2.1 g.2.2 : Nat) : Int) := hx
  have e1 : iand x 31 = ((gL g : Nat) : Int) := by
    rw [hxv, i_and31 (by have : tr m g.1 g.2.1 g.2.2 < 2097152 := t1; omega)]
    have : tr m g.1 g.2.1 g.2.2 % 32 = g.2.2 := t2
    rw [this]
    rfl
  have e2 : iand (ishr x 13) 255 = ((nxB m g.2.1 g.2.2 : Nat) : Int) := by
    have t1 : tr m g.1 g.2.1 g.2.2 < 2097152 := t1
    have t4 : tr m g.1 g.2.1 g.2.2 / 8192 = nxB m g.2.1 g.2.2 := t4
    have h13 : ishr ((tr m g.1 g.2.1 g.2.2 : Nat) : Int) ((13 : Nat) : Int) = ((tr m g.1 g.2.1 g.2.2 / 2 ^ 13 : Nat) : Int) := i_shrN (by omega) (by decide)
    rw [hxv]
    show iand (ishr ((tr m g.1 g.2.1 g.2.2 : Nat) : Int) ((13 : Nat) : Int)) 255 = _
    rw [h13, show tr m g.1 g.2.1 g.2.2 / 2 ^ 13 = nxB m g.2.1 g.2.2 from t4, i_and (by omega) (by decide), Int.toNat_natCast]
    show ((nxB m g.2.1 g.2.2 &&& (2 ^ 8 - 1) : Nat) : Int) = _
    rw [Nat.and_two_pow_sub_one_of_lt_two_pow (show nxB m g.2.1 g.2.2 < 2 ^ 8 from hn)]
  refine ⟨e1, ?_⟩
  have e3 : w 23 (w32 (iand x 31)).toNat = ((frB m g.2.2 : Nat) : Int) := by
    rw [e1, w32_id (by omega), Int.toNat_natCast]
    exact (hL.2 g.2.2 (by have : g.2.2 ≤ 16 := hg; omega)).1
  rw [e3, e2, w32_id (x := ((mfG m g : Nat) : Int)) (by omega), w32_id (x := ((nxB m g.2.1 g.2.2 : Nat) : Int)) (by omega), w32_id (x := ((frB m g.2.2 : Nat) : Int)) (by omega), lshl17 (by omega), lshl25 (by omega), ky_or hm hn hf]
  rfl
def bkF (k : Int) : Int := iand (lxor (lxor (lxor k (lshr k 7)) (lshr k 17)) (lshr k 25)) 63
theorem bkF_b (k : Int) : 0 ≤ bkF k ∧ bkF k ≤ 63 := i_mask _ (n := 63) (by decide)
/-- the last one below n with h -/
def lsB (f : Nat → Int) : Nat → Int → Int
  | 0, _ => -1
  | n + 1, h => if f n = h then (n : Int) else lsB f n h
theorem lsB_b (f : Nat → Int) (h : Int) : ∀ n, -1 ≤ lsB f n h ∧ lsB f n h < (n : Int) := by
  intro n
  induction n with
  | zero => exact ⟨Int.le_refl _, by show (-1 : Int) < 0; decide⟩
  | succ n ih =>
    unfold lsB
    split <;> omega
theorem lsB_s (f : Nat → Int) (h : Int) : ∀ n u : Nat, lsB f n h < (u : Int) → u < n → f u ≠ h := by
  intro n
  induction n with
  | zero => intro u _ h2; omega
  | succ n ih =>
    intro u h1 h2 h3
    unfold lsB at h1
    by_cases h4 : f n = h
    · rw [if_pos h4] at h1; omega
    · rw [if_neg h4] at h1
      by_cases h5 : u = n
      · rw [h5] at h3; exact h4 h3
      · exact ih u h1 (by omega) h3
theorem lsB_v (f : Nat → Int) (h : Int) : ∀ n u : Nat, lsB f n h = (u : Int) → f u = h := by
  intro n
  induction n with
  | zero => intro u h1; unfold lsB at h1; omega
  | succ n ih =>
    intro u h1
    unfold lsB at h1
    by_cases h4 : f n = h
    · rw [if_pos h4] at h1
      rw [show u = n by omega]; exact h4
    · rw [if_neg h4] at h1; exact ih u h1
theorem lsB_c {f f2 : Nat → Int} (h : Int) : ∀ n, (∀ u, u < n → f u = f2 u) → lsB f n h = lsB f2 n h := by
  intro n
  induction n with
  | zero => intro _; rfl
  | succ n ih => intro hh; unfold lsB; rw [hh n (by omega), ih (fun u hu => hh u (by omega))]
def bkS (m : eW) (f : Nat → t3) (u : Nat) : Int := bkF ((kyG m (f u) : Nat) : Int)
def MB (w m : eW) (N : Nat) (f : Nat → t3) (D : Nat → Nat) : Prop := w 37 7 = (N : Int) ∧ (∀ s, s < N → mK w s = ((kyG m (f s) : Nat) : Int) ∧ mT w s = ((trG m (f s) : Nat) : Int) ∧ mD w s = (D s : Int) ∧ mL w s = lsB (bkS m f) s (bkS m f s)) ∧ ∀ h : Nat, h < 64 → w 38 h = lsB (bkS m f) N (h : Int)
def DB (w : eW) (t : eT) (b : Nat × Nat) : Prop := DyI w t ∧ RmI w t b ∧ ((1 ≤ w 45 2 ∧ w 45 2 ≤ (b.2 : Int) + 1) ∧ (0 ≤ w 45 3 ∧ 2 * w 45 3 ≤ (dyL t (w 45 0) : Int) + 1) ∧ MmT w t)
/-- what the machine's work leaves alone -/
def FrS (w : eW) (t : eT) (w2 : eW) (t2 : eT) : Prop := Lo w w2 ∧ (w2 45 = w 45 ∧ w2 (w 45 0).toNat = w (w 45 0).toNat ∧ w2 (w 45 1).toNat = w (w 45 1).toNat) ∧ w2 37 8 = w 37 8 ∧ t.2.1 ≤ t2.2.1 ∧ ∀ x, x < 102 + t.2.1 → t2.1 x = t.1 x
def DyD (A1 A2 A3 A4 A5 A6 B0 B1 : Nat) : Prop := (A1 ≠ A2 ∧ A1 ≠ A3 ∧ A1 ≠ A4 ∧ A1 ≠ A5 ∧ A1 ≠ A6 ∧ A1 ≠ B0 ∧ A1 ≠ B1) ∧ (A2 ≠ A3 ∧ A2 ≠ A4 ∧ A2 ≠ A5 ∧ A2 ≠ A6 ∧ A2 ≠ B0 ∧ A2 ≠ B1) ∧ (A3 ≠ A4 ∧ A3 ≠ A5 ∧ A3 ≠ A6 ∧ A3 ≠ B0 ∧ A3 ≠ B1) ∧ (A4 ≠ A5 ∧ A4 ≠ A6 ∧ A4 ≠ B0 ∧ A4 ≠ B1) ∧ (A5 ≠ A6 ∧ A5 ≠ B0 ∧ A5 ≠ B1) ∧ (A6 ≠ B0 ∧ A6 ≠ B1) ∧ B0 ≠ B1
def dyX (A : Nat) : Prop := (39 ≤ A ∧ A ≤ 44) ∨ (46 ≤ A ∧ A ≤ 47) ∨ 102 ≤ A
theorem DyI.ds {w : eW} {t : eT} (h : DyI w t) : DyD (w 37 1).toNat (w 37 2).toNat (w 37 3).toNat (w 37 4).toNat (w 37 5).toNat (w 37 6).toNat (w 45 0).toNat (w 45 1).toNat ∧ (dyX (w 37 1).toNat ∧ dyX (w 37 2).toNat ∧ dyX (w 37 3).toNat ∧ dyX (w 37 4).toNat ∧ dyX (w 37 5).toNat ∧ dyX (w 37 6).toNat ∧ dyX (w 45 0).toNat ∧ dyX (w 45 1).toNat) := by
  obtain ⟨d1, d2, _⟩ := h
  have di := dyRef_i (w := w)
  have hX : ∀ a ∈ dyRef w, dyX a.toNat ∧ 0 < a := fun a ha => by
    have := d2 a ha
    unfold dyX
    omega
  obtain ⟨x1, y1⟩ := hX _ di.1
  obtain ⟨x2, y2⟩ := hX _ di.2.1
  obtain ⟨x3, y3⟩ := hX _ di.2.2.1
  obtain ⟨x4, y4⟩ := hX _ di.2.2.2.1
  obtain ⟨x5, y5⟩ := hX _ di.2.2.2.2.1
  obtain ⟨x6, y6⟩ := hX _ di.2.2.2.2.2.1
  obtain ⟨x7, y7⟩ := hX _ di.2.2.2.2.2.2.1
  obtain ⟨x8, y8⟩ := hX _ di.2.2.2.2.2.2.2
  refine ⟨?_, x1, x2, x3, x4, x5, x6, x7, x8⟩
  clear d2 hX di
  have nn : ∀ a b : Int, 0 < a → 0 < b → ¬ a = b → a.toNat ≠ b.toNat := fun a b h1 h2 h3 => by omega
  unfold dyRef at d1
  simp only [List.nodup_cons, List.mem_cons, List.not_mem_nil, or_false, not_or, List.nodup_nil, and_true] at d1
  obtain ⟨⟨p1, p2, p3, p4, p5, p6, p7⟩, ⟨q1, q2, q3, q4, q5, q6⟩, ⟨r1, r2, r3, r4, r5⟩, ⟨s1, s2, s3, s4⟩, ⟨u1, u2, u3⟩, ⟨v1, v2⟩, z1, _⟩ := d1
  exact ⟨⟨nn _ _ y1 y2 p1, nn _ _ y1 y3 p2, nn _ _ y1 y4 p3, nn _ _ y1 y5 p4, nn _ _ y1 y6 p5, nn _ _ y1 y7 p6, nn _ _ y1 y8 p7⟩, ⟨nn _ _ y2 y3 q1, nn _ _ y2 y4 q2, nn _ _ y2 y5 q3, nn _ _ y2 y6 q4, nn _ _ y2 y7 q5, nn _ _ y2 y8 q6⟩, ⟨nn _ _ y3 y4 r1, nn _ _ y3 y5 r2, nn _ _ y3 y6 r3, nn _ _ y3 y7 r4, nn _ _ y3 y8 r5⟩, ⟨nn _ _ y4 y5 s1, nn _ _ y4 y6 s2, nn _ _ y4 y7 s3, nn _ _ y4 y8 s4⟩, ⟨nn _ _ y5 y6 u1, nn _ _ y5 y7 u2, nn _ _ y5 y8 u3⟩, ⟨nn _ _ y6 y7 v1, nn _ _ y6 y8 v2⟩, nn _ _ y7 y8 z1⟩

