/-! The class: answers found already. -/

theorem lushr32 {x : Int} (hx : 0 ≤ x ∧ x < 9223372036854775808) : lushr x 32 = x / 4294967296 := by
  show ((Int64.ofInt x).toUInt64 >>> ((Int32.ofInt 32).toInt64.toUInt64 &&& Int64.toUInt64 63)).toInt64.toInt = _
  have hu : (Int64.ofInt x).toUInt64.toNat = x.toNat := by
    show (BitVec.ofInt 64 x).toNat = _
    rw [BitVec.toNat_ofInt]
    show (x % 18446744073709551616).toNat = _
    omega
  have hn : ((Int64.ofInt x).toUInt64 >>> ((Int32.ofInt 32).toInt64.toUInt64 &&& Int64.toUInt64 63)).toNat = x.toNat / 4294967296 := by
    rw [UInt64.toNat_shiftRight, hu, show ((Int32.ofInt 32).toInt64.toUInt64 &&& Int64.toUInt64 63).toNat % 64 = 32 by decide, Nat.shiftRight_eq_div_pow]
  generalize ((Int64.ofInt x).toUInt64 >>> ((Int32.ofInt 32).toInt64.toUInt64 &&& Int64.toUInt64 63)) = u at hn
  show u.toBitVec.toInt = _
  have h2 : u.toBitVec.toNat = x.toNat / 4294967296 := hn
  rw [BitVec.toInt_eq_toNat_of_lt (by rw [h2]; omega), h2]
  omega

theorem lshl32 {x : Int} (hx : 0 ≤ x ∧ x < 2147483648) : lshl x 32 = x * 4294967296 := by
  show (Int64.ofInt x <<< ((Int32.ofInt 32).toInt64 &&& 63)).toInt = _
  have hu : (Int64.ofInt x).toBitVec.toNat = x.toNat := by
    show (BitVec.ofInt 64 x).toNat = _
    rw [BitVec.toNat_ofInt]
    show (x % 18446744073709551616).toNat = _
    omega
  have e : ((Int32.ofInt 32).toInt64 &&& 63) = (32 : Int64) := by decide
  rw [e]
  have hn : (Int64.ofInt x <<< (32 : Int64)).toBitVec.toNat = x.toNat * 4294967296 := by
    rw [Int64.toBitVec_shiftLeft]
    show ((Int64.ofInt x).toBitVec <<< (BitVec.ofNat 64 32)).toNat = _
    rw [BitVec.shiftLeft_eq', BitVec.toNat_shiftLeft, hu]
    show x.toNat <<< 32 % 18446744073709551616 = _
    rw [Nat.shiftLeft_eq]
    omega
  show (Int64.ofInt x <<< (32 : Int64)).toBitVec.toInt = _
  rw [BitVec.toInt_eq_toNat_of_lt (by rw [hn]; omega), hn]
  omega

theorem i_mask (z : Int) {n : Nat} (hn : n < 2147483648) : 0 ≤ iand z (n : Int) ∧ iand z (n : Int) ≤ n := by
  have h1 : (Int32.ofInt z &&& Int32.ofInt (n : Int)).toBitVec.toNat ≤ n := by
    rw [Int32.toBitVec_and, BitVec.toNat_and]
    have : (Int32.ofInt (n : Int)).toBitVec.toNat = n := by
      show (BitVec.ofInt 32 (n : Int)).toNat = _
      rw [BitVec.toNat_ofInt]
      show ((n : Int) % 4294967296).toNat = _
      omega
    rw [this]
    exact Nat.and_le_right
  show 0 ≤ (Int32.ofInt z &&& Int32.ofInt (n : Int)).toBitVec.toInt ∧ (Int32.ofInt z &&& Int32.ofInt (n : Int)).toBitVec.toInt ≤ n
  rw [BitVec.toInt_eq_toNat_of_lt (by omega)]
  omega

theorem w32_low {x : Int} (h2 : x % 4294967296 < 2147483648) : w32 x = x % 4294967296 := by
  show (Int32.ofInt x).toInt = _
  rw [Int32.toInt_ofInt]
  show Int.bmod x 4294967296 = _
  rw [Int.bmod_def]
  omega

theorem l_or {x y : Int} (hx : 0 ≤ x ∧ x < 9223372036854775808) (hy : 0 ≤ y ∧ y < 9223372036854775808) : lor x y = ((x.toNat ||| y.toNat : Nat) : Int) := by
  have e : ∀ z : Int, 0 ≤ z → z < 9223372036854775808 → (Int64.ofInt z).toBitVec.toNat = z.toNat := fun z h1 h2 => by
    show (BitVec.ofInt 64 z).toNat = _
    rw [BitVec.toNat_ofInt]
    show (z % 18446744073709551616).toNat = _
    omega
  have hn : (Int64.ofInt x ||| Int64.ofInt y).toBitVec.toNat = x.toNat ||| y.toNat := by
    rw [Int64.toBitVec_or, BitVec.toNat_or, e x hx.1 hx.2, e y hy.1 hy.2]
  have hlt : x.toNat ||| y.toNat < 2 ^ 63 := Nat.or_lt_two_pow (by omega) (by omega)
  show (Int64.ofInt x ||| Int64.ofInt y).toBitVec.toInt = _
  rw [BitVec.toInt_eq_toNat_of_lt (by rw [hn]; omega), hn]

theorem tagE {s k : Int} (hs : 0 ≤ s ∧ s < 1073741824) (hk : 0 ≤ k ∧ k < 2147483648) : lor (lshl (w32 s) 32) (w32 k) = s * 4294967296 + k := by
  rw [w32_id (x := s) (by omega), w32_id (x := k) (by omega), lshl32 (by omega), l_or (by omega) (by omega)]
  have e1 : (s * 4294967296).toNat = 2 ^ 32 * s.toNat := by omega
  rw [e1, Nat.or_comm, or_add (by omega)]
  omega
def mTag (w : eW) (j : Nat) : Int := w (w 45 0).toNat j
def mVal (w : eW) (j : Nat) : Int := w (w 45 1).toNat j
def mM (w : eW) (t : eT) : Nat := dyL t (w 45 0)
/-- the two arrays of the book of answers -/
def MmD (w : eW) (t : eT) : Prop := (dyK t (w 45 0) 21 ∧ dyK t (w 45 1) 21 ∧ dyL t (w 45 1) = mM w t) ∧ (256 ≤ mM w t ∧ mM w t ≤ 262144) ∧ (1 ≤ w 45 2 ∧ w 45 2 < 1073741823) ∧ (∀ j, j < mM w t → 0 ≤ mTag w j ∧ mTag w j < (w 45 2 + 1) * 4294967296) ∧ ¬ w 45 0 = w 45 1
/-- what is noted is right -/
def MeP (P : Int → Int → Prop) (w : eW) (t : eT) : Prop := ∀ j, j < mM w t → mTag w j / 4294967296 = w 45 2 → mTag w j % 4294967296 < 2147483648 ∧ P (mTag w j % 4294967296) (mVal w j)
def PlQ (w : eW) (t : eT) (k x : Int) : Prop := x = -1 ∨ ((0 ≤ x ∧ x < (mM w t : Int)) ∧ (mTag w x.toNat / 4294967296 = w 45 2 → mTag w x.toNat % 4294967296 = k))

theorem g_pl {d : Nat} {Q : Option aV → aS → Prop} {w : eW} {t : eT} {k : Int} (h : (dyK t (w 45 0) 20 ∨ dyK t (w 45 0) 21) ∧ (Ev (d + 1) 45 Q 25 [rA 45, (0, k), (0, (dyL t (w 45 0) : Int) - 1), (0, iand (ixor (ixor k (iushr k 7)) (iushr k 15)) ((dyL t (w 45 0) : Int) - 1)), (0, 0)] [] (enc w t))) : Cl (d + 1) 45 [rA 45, (0, k)] (enc w t) Q := by
  show Ev (d + 1) 45 Q 0 [rA 45, (0, k), (9, 0), (9, 0), (9, 0)] [] (enc w t)
  refine e_lda (v := 45) (show am_cd 45 0 = (2, 1, 0, 2, []) by decide +kernel) rfl ?_
  refine e_getf (a := 45) (tg := 2) (show am_cd 45 1 = (18, 4, 500, 2, [9]) by decide +kernel) (by decide +kernel) (by decide +kernel) rfl ?_
  refine e_alenD (show am_cd 45 4 = (27, 5, 0, 0, []) by decide +kernel) h.1 ?_
  replace h := h.2
  refine e_ic (show am_cd 45 5 = (0, 6, 0, 1, []) by decide +kernel) ?_
  refine e_isub (show am_cd 45 6 = (5, 7, 1, 0, []) by decide +kernel) ?_
  refine e_sti (la2 := [rA 45, (0, k), (0, (dyL t (w 45 0) : Int) - 1), (9, 0), (9, 0)]) (show am_cd 45 7 = (3, 8, 2, 0, []) by decide +kernel) rfl ?_
  refine e_ldi (show am_cd 45 8 = (2, 9, 1, 0, []) by decide +kernel) rfl ?_
  refine e_ldi (show am_cd 45 9 = (2, 10, 1, 0, []) by decide +kernel) rfl ?_
  refine e_ic (show am_cd 45 10 = (0, 12, 1, 7, []) by decide +kernel) ?_
  refine e_iushr (show am_cd 45 12 = (5, 13, 8, 0, []) by decide +kernel) ?_
  refine e_ixor (show am_cd 45 13 = (5, 14, 5, 0, []) by decide +kernel) ?_
  refine e_ldi (show am_cd 45 14 = (2, 15, 1, 0, []) by decide +kernel) rfl ?_
  refine e_ic (show am_cd 45 15 = (0, 17, 1, 15, []) by decide +kernel) ?_
  refine e_iushr (show am_cd 45 17 = (5, 18, 8, 0, []) by decide +kernel) ?_
  refine e_ixor (show am_cd 45 18 = (5, 19, 5, 0, []) by decide +kernel) ?_
  refine e_ldi (show am_cd 45 19 = (2, 20, 2, 0, []) by decide +kernel) rfl ?_
  refine e_iand (show am_cd 45 20 = (5, 21, 3, 0, []) by decide +kernel) ?_
  refine e_sti (la2 := [rA 45, (0, k), (0, (dyL t (w 45 0) : Int) - 1), (0, iand (ixor (ixor k (iushr k 7)) (iushr k 15)) ((dyL t (w 45 0) : Int) - 1)), (9, 0)]) (show am_cd 45 21 = (3, 22, 3, 0, []) by decide +kernel) rfl ?_
  refine e_ic (show am_cd 45 22 = (0, 23, 0, 0, []) by decide +kernel) ?_
  refine e_sti (la2 := [rA 45, (0, k), (0, (dyL t (w 45 0) : Int) - 1), (0, iand (ixor (ixor k (iushr k 7)) (iushr k 15)) ((dyL t (w 45 0) : Int) - 1)), (0, 0)]) (show am_cd 45 23 = (3, 25, 4, 0, []) by decide +kernel) rfl ?_
  exact h

theorem g_pl1 {d : Nat} {Q : Option aV → aS → Prop} {w : eW} {t : eT} {k a p i : Int} (h : (dyK t (w 45 0) 20 ∨ dyK t (w 45 0) 21) ∧ ((w32 (dyL t (w 45 0) : Int) ≤ w32 i → Q (some (0, (-1))) (enc w t)) ∧ (¬ (w32 (dyL t (w 45 0) : Int) ≤ w32 i) → (dyK t (w 45 0) 21 ∧ 0 ≤ w32 p ∧ w32 p < dyL t (w 45 0)) ∧ ((¬ w32 (lushr (w (w 45 0).toNat (w32 p).toNat) 32) = w32 (w 45 2) → Q (some (0, p)) (enc w t)) ∧ (¬ (¬ w32 (lushr (w (w 45 0).toNat (w32 p).toNat) 32) = w32 (w 45 2)) → (dyK t (w 45 0) 21 ∧ 0 ≤ w32 p ∧ w32 p < dyL t (w 45 0)) ∧ ((¬ w32 (w (w 45 0).toNat (w32 p).toNat) = w32 k → Ev (d + 1) 45 Q 25 [rA 45, (0, k), (0, a), (0, iand (p + 1) a), (0, i + 1)] [] (enc w t)) ∧ (¬ (¬ w32 (w (w 45 0).toNat (w32 p).toNat) = w32 k) → Q (some (0, p)) (enc w t)))))))) : Ev (d + 1) 45 Q 25 [rA 45, (0, k), (0, a), (0, p), (0, i)] [] (enc w t) := by
  refine e_ldi (show am_cd 45 25 = (2, 27, 4, 0, []) by decide +kernel) rfl ?_
  refine e_lda (v := 45) (show am_cd 45 27 = (2, 28, 0, 2, []) by decide +kernel) rfl ?_
  refine e_getf (a := 45) (tg := 2) (show am_cd 45 28 = (18, 31, 500, 2, [9]) by decide +kernel) (by decide +kernel) (by decide +kernel) rfl ?_
  refine e_alenD (show am_cd 45 31 = (27, 32, 0, 0, []) by decide +kernel) h.1 ?_
  replace h := h.2
  refine e_cmp3 (show am_cd 45 32 = (11, 35, 77, 3, []) by decide +kernel) (fun hc => ?_) (fun hc => ?_)
  · replace h := h.1 hc
    refine e_ic (show am_cd 45 77 = (0, 78, 0, -1, []) by decide +kernel) ?_
    exact e_reti (show am_cd 45 78 = (36, 79, 0, 0, []) by decide +kernel) (by decide +kernel) h
  · replace h := h.2 hc
    refine e_lda (v := 45) (show am_cd 45 35 = (2, 36, 0, 2, []) by decide +kernel) rfl ?_
    refine e_getf (a := 45) (tg := 2) (show am_cd 45 36 = (18, 39, 500, 2, [9]) by decide +kernel) (by decide +kernel) (by decide +kernel) rfl ?_
    refine e_ldi (show am_cd 45 39 = (2, 40, 3, 0, []) by decide +kernel) rfl ?_
    refine e_laldD (show am_cd 45 40 = (22, 41, 0, 0, []) by decide +kernel) h.1 ?_
    replace h := h.2
    refine e_ic (show am_cd 45 41 = (0, 43, 1, 32, []) by decide +kernel) ?_
    refine e_lushr (show am_cd 45 43 = (7, 44, 2, 0, []) by decide +kernel) ?_
    refine e_l2i (show am_cd 45 44 = (8, 45, 1, 0, []) by decide +kernel) ?_
    refine e_lda (v := 45) (show am_cd 45 45 = (2, 46, 0, 2, []) by decide +kernel) rfl ?_
    refine e_getf (a := 45) (tg := 0) (show am_cd 45 46 = (18, 49, 502, 0, [18]) by decide +kernel) (by decide +kernel) (by decide +kernel) rfl ?_
    refine e_cmp1 (show am_cd 45 49 = (11, 52, 63, 1, []) by decide +kernel) (fun hc => ?_) (fun hc => ?_)
    · replace h := h.1 hc
      refine e_ldi (show am_cd 45 63 = (2, 64, 3, 0, []) by decide +kernel) rfl ?_
      exact e_reti (show am_cd 45 64 = (36, 65, 0, 0, []) by decide +kernel) (by decide +kernel) h
    · replace h := h.2 hc
      refine e_lda (v := 45) (show am_cd 45 52 = (2, 53, 0, 2, []) by decide +kernel) rfl ?_
      refine e_getf (a := 45) (tg := 2) (show am_cd 45 53 = (18, 56, 500, 2, [9]) by decide +kernel) (by decide +kernel) (by decide +kernel) rfl ?_
      refine e_ldi (show am_cd 45 56 = (2, 57, 3, 0, []) by decide +kernel) rfl ?_
      refine e_laldD (show am_cd 45 57 = (22, 58, 0, 0, []) by decide +kernel) h.1 ?_
      replace h := h.2
      refine e_l2i (show am_cd 45 58 = (8, 59, 1, 0, []) by decide +kernel) ?_
      refine e_ldi (show am_cd 45 59 = (2, 60, 1, 0, []) by decide +kernel) rfl ?_
      refine e_cmp1 (show am_cd 45 60 = (11, 63, 65, 1, []) by decide +kernel) (fun hc => ?_) (fun hc => ?_)
      · replace h := h.1 hc
        refine e_ldi (show am_cd 45 65 = (2, 66, 3, 0, []) by decide +kernel) rfl ?_
        refine e_ic (show am_cd 45 66 = (0, 67, 0, 1, []) by decide +kernel) ?_
        refine e_iadd (show am_cd 45 67 = (5, 68, 0, 0, []) by decide +kernel) ?_
        refine e_ldi (show am_cd 45 68 = (2, 69, 2, 0, []) by decide +kernel) rfl ?_
        refine e_iand (show am_cd 45 69 = (5, 70, 3, 0, []) by decide +kernel) ?_
        refine e_sti (la2 := [rA 45, (0, k), (0, a), (0, iand (p + 1) a), (0, i)]) (show am_cd 45 70 = (3, 71, 3, 0, []) by decide +kernel) rfl ?_
        refine e_inc (la2 := [rA 45, (0, k), (0, a), (0, iand (p + 1) a), (0, i + 1)]) (show am_cd 45 71 = (4, 74, 4, 1, []) by decide +kernel) rfl rfl ?_
        refine e_go (show am_cd 45 74 = (12, 25, 0, 0, []) by decide +kernel) ?_
        exact h
      · replace h := h.2 hc
        refine e_ldi (show am_cd 45 63 = (2, 64, 3, 0, []) by decide +kernel) rfl ?_
        exact e_reti (show am_cd 45 64 = (36, 65, 0, 0, []) by decide +kernel) (by decide +kernel) h

theorem c_pl {d : Nat} {w : eW} {t : eT} {k : Int} (h : MmD w t ∧ (∀ j, j < mM w t → mTag w j / 4294967296 = w 45 2 → mTag w j % 4294967296 < 2147483648)) : Cl (d + 1) 45 [rA 45, (0, k)] (enc w t) (fun r S2 => ∃ x, r = some (0, x) ∧ S2 = enc w t ∧ PlQ w t (w32 k) x) := by
  obtain ⟨⟨⟨k0, k1, l1⟩, hM, hs, hT, _⟩, hF⟩ := h
  have eM : dyL t (w 45 0) = mM w t := rfl
  refine g_pl ⟨Or.inr k0, ?_⟩
  rw [eM]
  have mask : ∀ z, 0 ≤ iand z ((mM w t : Int) - 1) ∧ iand z ((mM w t : Int) - 1) < (mM w t : Int) := fun z => by
    have := i_mask z (n := mM w t - 1) (by omega)
    rw [show ((mM w t - 1 : Nat) : Int) = (mM w t : Int) - 1 by omega] at this
    omega
  refine lq1 (σ := Int) (fun i p => Ev (d + 1) 45 (fun r S2 => ∃ x, r = some (0, x) ∧ S2 = enc w t ∧ PlQ w t (w32 k) x) 25 [rA 45, (0, k), (0, (mM w t : Int) - 1), (0, p), (0, (i : Int))] [] (enc w t)) (fun i p => 0 ≤ p ∧ p < (mM w t : Int)) (mM w t) ?_ ?_ 0 _ (Nat.zero_le _) (mask _)
  · rintro i p hi hp hE
    have ht := hT p.toNat (by omega)
    have hf := hF p.toNat (by omega)
    refine g_pl1 ⟨Or.inr k0, ?_⟩
    rw [eM, w32_id (x := p) (by omega), w32_id (x := (i : Int)) (by omega), w32_id (x := (mM w t : Int)) (by omega), show w (w 45 0).toNat p.toNat = mTag w p.toNat from rfl, lushr32 (by omega), w32_id (x := mTag w p.toNat / 4294967296) (by omega), w32_id (x := w 45 2) (by omega)]
    refine ⟨fun h9 => by omega, fun _ => ⟨⟨k0, hp⟩, fun h1 => ?_, fun h1 => ⟨⟨k0, hp⟩, fun h2 => hE _ (mask _), fun h2 => ?_⟩⟩⟩
    · exact ⟨p, rfl, rfl, Or.inr ⟨hp, fun h9 => absurd h9 h1⟩⟩
    · rw [w32_low (hf (Classical.not_not.mp h1))] at h2
      exact ⟨p, rfl, rfl, Or.inr ⟨hp, fun _ => Classical.not_not.mp h2⟩⟩
  · rintro p hp
    exact g_pl1 ⟨Or.inr k0, fun _ => ⟨-1, rfl, rfl, Or.inl rfl⟩, fun h9 => absurd (Int.le_refl _) h9⟩

theorem g_find {d : Nat} {Q : Option aV → aS → Prop} {w : eW} {t : eT} {k : Int} (h : (MmD w t ∧ (∀ j, j < mM w t → mTag w j / 4294967296 = w 45 2 → mTag w j % 4294967296 < 2147483648)) ∧ (∀ x1, (PlQ w t (w32 k) x1) → ((w32 x1 = w32 (-1) → Q (some (1, (-1))) (enc w t)) ∧ (¬ (w32 x1 = w32 (-1)) → (dyK t (w 45 0) 21 ∧ 0 ≤ w32 x1 ∧ w32 x1 < dyL t (w 45 0)) ∧ ((w32 (lushr (w (w 45 0).toNat (w32 x1).toNat) 32) = w32 (w 45 2) → (dyK t (w 45 1) 21 ∧ 0 ≤ w32 x1 ∧ w32 x1 < dyL t (w 45 1)) ∧ (Q (some (1, w (w 45 1).toNat (w32 x1).toNat)) (enc w t))) ∧ (¬ (w32 (lushr (w (w 45 0).toNat (w32 x1).toNat) 32) = w32 (w 45 2)) → Q (some (1, (-1))) (enc w t))))))) : Cl (d + 2) 46 [rA 45, (0, k)] (enc w t) Q := by
  show Ev (d + 2) 46 Q 0 [rA 45, (0, k), (9, 0)] [] (enc w t)
  refine e_lda (v := 45) (show am_cd 46 0 = (2, 1, 0, 2, []) by decide +kernel) rfl ?_
  refine e_ldi (show am_cd 46 1 = (2, 2, 1, 0, []) by decide +kernel) rfl ?_
  refine e_cV (z := 0) (a := 45) (as := [(0, k)]) (rest := []) (show am_cd 46 2 = (40, 5, 45, 0, [25]) by decide +kernel) (by decide +kernel) rfl rfl (Nat.le_of_ble_eq_true rfl) rfl ?_
  refine Cl.mono (Cl.up (c_pl (d := d) h.1) (by omega)) ?_
  rintro _ _ ⟨x1, rfl, rfl, hp⟩
  refine ⟨fun _ h9 => (by cases h9), ?_⟩
  replace h := h.2 x1 hp
  show Ev _ 46 _ 5 [rA 45, (0, k), (9, 0)] [(0, x1)] _
  refine e_sti (la2 := [rA 45, (0, k), (0, x1)]) (show am_cd 46 5 = (3, 6, 2, 0, []) by decide +kernel) rfl ?_
  refine e_ldi (show am_cd 46 6 = (2, 7, 2, 0, []) by decide +kernel) rfl ?_
  refine e_ic (show am_cd 46 7 = (0, 8, 0, -1, []) by decide +kernel) ?_
  refine e_cmp0 (show am_cd 46 8 = (11, 11, 28, 0, []) by decide +kernel) (fun hc => ?_) (fun hc => ?_)
  · replace h := h.1 hc
    refine e_lc (show am_cd 46 28 = (1, 31, 1, -1, [29]) by decide +kernel) ?_
    refine e_go (show am_cd 46 31 = (12, 40, 0, 0, []) by decide +kernel) ?_
    exact e_retl (show am_cd 46 40 = (36, 41, 1, 0, []) by decide +kernel) (by decide +kernel) h
  · replace h := h.2 hc
    refine e_lda (v := 45) (show am_cd 46 11 = (2, 12, 0, 2, []) by decide +kernel) rfl ?_
    refine e_getf (a := 45) (tg := 2) (show am_cd 46 12 = (18, 15, 500, 2, [9]) by decide +kernel) (by decide +kernel) (by decide +kernel) rfl ?_
    refine e_ldi (show am_cd 46 15 = (2, 16, 2, 0, []) by decide +kernel) rfl ?_
    refine e_laldD (show am_cd 46 16 = (22, 17, 0, 0, []) by decide +kernel) h.1 ?_
    replace h := h.2
    refine e_ic (show am_cd 46 17 = (0, 19, 1, 32, []) by decide +kernel) ?_
    refine e_lushr (show am_cd 46 19 = (7, 20, 2, 0, []) by decide +kernel) ?_
    refine e_l2i (show am_cd 46 20 = (8, 21, 1, 0, []) by decide +kernel) ?_
    refine e_lda (v := 45) (show am_cd 46 21 = (2, 22, 0, 2, []) by decide +kernel) rfl ?_
    refine e_getf (a := 45) (tg := 0) (show am_cd 46 22 = (18, 25, 502, 0, [18]) by decide +kernel) (by decide +kernel) (by decide +kernel) rfl ?_
    refine e_cmp0 (show am_cd 46 25 = (11, 28, 34, 0, []) by decide +kernel) (fun hc => ?_) (fun hc => ?_)
    · replace h := h.1 hc
      refine e_lda (v := 45) (show am_cd 46 34 = (2, 35, 0, 2, []) by decide +kernel) rfl ?_
      refine e_getf (a := 45) (tg := 2) (show am_cd 46 35 = (18, 38, 501, 2, [15]) by decide +kernel) (by decide +kernel) (by decide +kernel) rfl ?_
      refine e_ldi (show am_cd 46 38 = (2, 39, 2, 0, []) by decide +kernel) rfl ?_
      refine e_laldD (show am_cd 46 39 = (22, 40, 0, 0, []) by decide +kernel) h.1 ?_
      replace h := h.2
      exact e_retl (show am_cd 46 40 = (36, 41, 1, 0, []) by decide +kernel) (by decide +kernel) h
    · replace h := h.2 hc
      refine e_lc (show am_cd 46 28 = (1, 31, 1, -1, [29]) by decide +kernel) ?_
      refine e_go (show am_cd 46 31 = (12, 40, 0, 0, []) by decide +kernel) ?_
      exact e_retl (show am_cd 46 40 = (36, 41, 1, 0, []) by decide +kernel) (by decide +kernel) h

theorem c_find {d : Nat} {w : eW} {t : eT} {k : Int} {P : Int → Int → Prop} (h : MmD w t ∧ MeP P w t ∧ 0 ≤ k ∧ k < 2147483648) : Cl (d + 2) 46 [rA 45, (0, k)] (enc w t) (fun r S2 => ∃ x, r = some (1, x) ∧ S2 = enc w t ∧ (x = -1 ∨ P k x)) := by
  obtain ⟨hD, hP, hk⟩ := h
  have hD0 := hD
  obtain ⟨⟨k0, k1, l1⟩, hM, hs, hT, _⟩ := hD
  refine g_find ⟨⟨hD0, fun j h1 h2 => (hP j h1 h2).1⟩, fun x hx => ?_⟩
  rw [w32_id (x := k) (by omega)] at hx
  have eM : dyL t (w 45 0) = mM w t := rfl
  rcases hx with rfl | ⟨hb, hq⟩
  · exact ⟨fun _ => ⟨-1, rfl, rfl, Or.inl rfl⟩, fun h9 => absurd rfl h9⟩
  · have ht := hT x.toNat (by omega)
    rw [eM, l1, w32_id (x := x) (by omega), w32_id (x := -1) (by decide), show w (w 45 0).toNat x.toNat = mTag w x.toNat from rfl, lushr32 (by omega), w32_id (x := mTag w x.toNat / 4294967296) (by omega), w32_id (x := w 45 2) (by omega)]
    refine ⟨fun h9 => by omega, fun _ => ⟨⟨k0, hb⟩, fun h1 => ⟨⟨k1, hb⟩, _, rfl, rfl, Or.inr ?_⟩, fun h1 => ⟨-1, rfl, rfl, Or.inl rfl⟩⟩⟩
    have := (hP x.toNat (by omega) h1).2
    rw [hq h1] at this
    exact this

theorem g_grow {d : Nat} {Q : Option aV → aS → Prop} {w : eW} {t : eT} (h : (0 ≤ w 45 0) ∧ (0 ≤ w 45 1) ∧ (0 ≤ w 45 0) ∧ (dyK t (w 45 0) 20 ∨ dyK t (w 45 0) 21) ∧ (0 ≤ w32 (4 * (dyL t (w 45 0) : Int)) ∧ w32 (4 * (dyL t (w 45 0) : Int)) ≤ 10000000) ∧ (0 ≤ ((102 + t.2.1 : Nat) : Int)) ∧ (0 ≤ w 45 0) ∧ (dyK (tn t 21 (w32 (4 * (dyL t (w 45 0) : Int))).toNat) (w 45 0) 20 ∨ dyK (tn t 21 (w32 (4 * (dyL t (w 45 0) : Int))).toNat) (w 45 0) 21) ∧ (0 ≤ w32 (4 * (dyL (tn t 21 (w32 (4 * (dyL t (w 45 0) : Int))).toNat) (w 45 0) : Int)) ∧ w32 (4 * (dyL (tn t 21 (w32 (4 * (dyL t (w 45 0) : Int))).toNat) (w 45 0) : Int)) ≤ 10000000) ∧ (0 ≤ ((102 + (tn t 21 (w32 (4 * (dyL t (w 45 0) : Int))).toNat).2.1 : Nat) : Int)) ∧ (Ev (d + 2) 48 Q 32 [rA 45, (2, w 45 0), (2, w 45 1), (0, 0), (9, 0)] [] (enc (wu (wz (wu (wz w (102 + t.2.1)) 45 0 ((102 + t.2.1 : Nat) : Int)) (102 + (tn t 21 (w32 (4 * (dyL t (w 45 0) : Int))).toNat).2.1)) 45 1 ((102 + (tn t 21 (w32 (4 * (dyL t (w 45 0) : Int))).toNat).2.1 : Nat) : Int)) (tn (tn t 21 (w32 (4 * (dyL t (w 45 0) : Int))).toNat) 21 (w32 (4 * (dyL (tn t 21 (w32 (4 * (dyL t (w 45 0) : Int))).toNat) (w 45 0) : Int))).toNat)))) : Cl (d + 2) 48 [rA 45] (enc w t) Q := by
  show Ev (d + 2) 48 Q 0 [rA 45, (9, 0), (9, 0), (9, 0), (9, 0)] [] (enc w t)
  refine e_lda (v := 45) (show am_cd 48 0 = (2, 1, 0, 2, []) by decide +kernel) rfl ?_
  refine e_getf (a := 45) (tg := 2) (show am_cd 48 1 = (18, 4, 500, 2, [9]) by decide +kernel) (by decide +kernel) (by decide +kernel) rfl ?_
  refine e_staD (v := w 45 0) (la2 := [rA 45, (2, w 45 0), (9, 0), (9, 0), (9, 0)]) (show am_cd 48 4 = (3, 5, 1, 2, []) by decide +kernel) h.1 rfl ?_
  replace h := h.2
  refine e_lda (v := 45) (show am_cd 48 5 = (2, 6, 0, 2, []) by decide +kernel) rfl ?_
  refine e_getf (a := 45) (tg := 2) (show am_cd 48 6 = (18, 9, 501, 2, [15]) by decide +kernel) (by decide +kernel) (by decide +kernel) rfl ?_
  refine e_staD (v := w 45 1) (la2 := [rA 45, (2, w 45 0), (2, w 45 1), (9, 0), (9, 0)]) (show am_cd 48 9 = (3, 10, 2, 2, []) by decide +kernel) h.1 rfl ?_
  replace h := h.2
  refine e_lda (v := 45) (show am_cd 48 10 = (2, 11, 0, 2, []) by decide +kernel) rfl ?_
  refine e_ic (show am_cd 48 11 = (0, 12, 0, 4, []) by decide +kernel) ?_
  refine e_ldaD (v := w 45 0) (show am_cd 48 12 = (2, 13, 1, 2, []) by decide +kernel) rfl h.1 ?_
  replace h := h.2
  refine e_alenD (show am_cd 48 13 = (27, 14, 0, 0, []) by decide +kernel) h.1 ?_
  replace h := h.2
  refine e_imul (show am_cd 48 14 = (5, 15, 2, 0, []) by decide +kernel) ?_
  refine e_newa (show am_cd 48 15 = (28, 17, 21, 0, []) by decide +kernel) h.1 ?_
  replace h := h.2
  refine e_putr (a := 45) (show am_cd 48 17 = (19, 20, 500, 2, [9]) by decide +kernel) (by decide +kernel) (by decide +kernel) rfl h.1 (by decide +kernel) ?_
  replace h := h.2
  refine e_lda (v := 45) (show am_cd 48 20 = (2, 21, 0, 2, []) by decide +kernel) rfl ?_
  refine e_ic (show am_cd 48 21 = (0, 22, 0, 4, []) by decide +kernel) ?_
  refine e_ldaD (v := w 45 0) (show am_cd 48 22 = (2, 23, 1, 2, []) by decide +kernel) rfl h.1 ?_
  replace h := h.2
  refine e_alenD (show am_cd 48 23 = (27, 24, 0, 0, []) by decide +kernel) h.1 ?_
  replace h := h.2
  refine e_imul (show am_cd 48 24 = (5, 25, 2, 0, []) by decide +kernel) ?_
  refine e_newa (show am_cd 48 25 = (28, 27, 21, 0, []) by decide +kernel) h.1 ?_
  replace h := h.2
  refine e_putr (a := 45) (show am_cd 48 27 = (19, 30, 501, 2, [15]) by decide +kernel) (by decide +kernel) (by decide +kernel) rfl h.1 (by decide +kernel) ?_
  replace h := h.2
  refine e_ic (show am_cd 48 30 = (0, 31, 0, 0, []) by decide +kernel) ?_
  refine e_sti (la2 := [rA 45, (2, w 45 0), (2, w 45 1), (0, 0), (9, 0)]) (show am_cd 48 31 = (3, 32, 3, 0, []) by decide +kernel) rfl ?_
  exact h

theorem g_grow1 {d : Nat} {Q : Option aV → aS → Prop} {w : eW} {t : eT} {A B i : Int} {J4 : aV} (h : (0 ≤ A) ∧ (dyK t A 20 ∨ dyK t A 21) ∧ ((w32 (dyL t A : Int) ≤ w32 i → Q none (enc w t)) ∧ (¬ (w32 (dyL t A : Int) ≤ w32 i) → (0 ≤ A) ∧ (dyK t A 21 ∧ 0 ≤ w32 i ∧ w32 i < dyL t A) ∧ ((¬ w32 (lushr (w A.toNat (w32 i).toNat) 32) = w32 (w 45 2) → Ev (d + 2) 48 Q 32 [rA 45, (2, A), (2, B), (0, i + 1), (0, (-1))] [] (enc w t)) ∧ (¬ (¬ w32 (lushr (w A.toNat (w32 i).toNat) 32) = w32 (w 45 2)) → (0 ≤ A) ∧ (dyK t A 21 ∧ 0 ≤ w32 i ∧ w32 i < dyL t A) ∧ (MmD w t ∧ (∀ j, j < mM w t → mTag w j / 4294967296 = w 45 2 → mTag w j % 4294967296 < 2147483648)) ∧ (∀ x1, (PlQ w t (w32 (w A.toNat (w32 i).toNat)) x1) → ((w32 x1 = w32 (-1) → Ev (d + 2) 48 Q 32 [rA 45, (2, A), (2, B), (0, i + 1), (0, x1)] [] (enc w t)) ∧ (¬ (w32 x1 = w32 (-1)) → (0 ≤ A) ∧ (dyK t A 21 ∧ 0 ≤ w32 i ∧ w32 i < dyL t A) ∧ (dyK t (w 45 0) 21 ∧ 0 ≤ w32 x1 ∧ w32 x1 < dyL t (w 45 0)) ∧ (0 ≤ B) ∧ (dyK t B 21 ∧ 0 ≤ w32 i ∧ w32 i < dyL t B) ∧ (dyK t ((wu w (w 45 0).toNat (w32 x1).toNat (w A.toNat (w32 i).toNat)) 45 1) 21 ∧ 0 ≤ w32 x1 ∧ w32 x1 < dyL t ((wu w (w 45 0).toNat (w32 x1).toNat (w A.toNat (w32 i).toNat)) 45 1)) ∧ (Ev (d + 2) 48 Q 32 [rA 45, (2, A), (2, B), (0, i + 1), (0, x1)] [] (enc (wu (wu w (w 45 0).toNat (w32 x1).toNat (w A.toNat (w32 i).toNat)) ((wu w (w 45 0).toNat (w32 x1).toNat (w A.toNat (w32 i).toNat)) 45 1).toNat (w32 x1).toNat ((wu w (w 45 0).toNat (w32 x1).toNat (w A.toNat (w32 i).toNat)) B.toNat (w32 i).toNat)) t)))))))))) : Ev (d + 2) 48 Q 32 [rA 45, (2, A), (2, B), (0, i), J4] [] (enc w t) := by
  refine e_ldi (show am_cd 48 32 = (2, 33, 3, 0, []) by decide +kernel) rfl ?_
  refine e_ldaD (v := A) (show am_cd 48 33 = (2, 34, 1, 2, []) by decide +kernel) rfl h.1 ?_
  replace h := h.2
  refine e_alenD (show am_cd 48 34 = (27, 35, 0, 0, []) by decide +kernel) h.1 ?_
  replace h := h.2
  refine e_cmp3 (show am_cd 48 35 = (11, 38, 98, 3, []) by decide +kernel) (fun hc => ?_) (fun hc => ?_)
  · replace h := h.1 hc
    exact e_retv (show am_cd 48 98 = (36, 99, 3, 0, []) by decide +kernel) (by decide +kernel) h
  · replace h := h.2 hc
    refine e_ldaD (v := A) (show am_cd 48 38 = (2, 39, 1, 2, []) by decide +kernel) rfl h.1 ?_
    replace h := h.2
    refine e_ldi (show am_cd 48 39 = (2, 40, 3, 0, []) by decide +kernel) rfl ?_
    refine e_laldD (show am_cd 48 40 = (22, 41, 0, 0, []) by decide +kernel) h.1 ?_
    replace h := h.2
    refine e_ic (show am_cd 48 41 = (0, 43, 1, 32, []) by decide +kernel) ?_
    refine e_lushr (show am_cd 48 43 = (7, 44, 2, 0, []) by decide +kernel) ?_
    refine e_l2i (show am_cd 48 44 = (8, 45, 1, 0, []) by decide +kernel) ?_
    refine e_lda (v := 45) (show am_cd 48 45 = (2, 46, 0, 2, []) by decide +kernel) rfl ?_
    refine e_getf (a := 45) (tg := 0) (show am_cd 48 46 = (18, 49, 502, 0, [18]) by decide +kernel) (by decide +kernel) (by decide +kernel) rfl ?_
    refine e_cmp1 (show am_cd 48 49 = (11, 52, 63, 1, []) by decide +kernel) (fun hc => ?_) (fun hc => ?_)
    · replace h := h.1 hc
      refine e_ic (show am_cd 48 63 = (0, 64, 0, -1, []) by decide +kernel) ?_
      refine e_sti (la2 := [rA 45, (2, A), (2, B), (0, i), (0, (-1))]) (show am_cd 48 64 = (3, 66, 4, 0, []) by decide +kernel) rfl ?_
      refine e_ldi (show am_cd 48 66 = (2, 68, 4, 0, []) by decide +kernel) rfl ?_
      refine e_ic (show am_cd 48 68 = (0, 69, 0, -1, []) by decide +kernel) ?_
      refine e_cmpT (show am_cd 48 69 = (11, 72, 92, 0, []) by decide +kernel) (by decide +kernel) ?_
      refine e_inc (la2 := [rA 45, (2, A), (2, B), (0, i + 1), (0, (-1))]) (show am_cd 48 92 = (4, 95, 3, 1, []) by decide +kernel) rfl rfl ?_
      refine e_go (show am_cd 48 95 = (12, 32, 0, 0, []) by decide +kernel) ?_
      exact h
    · replace h := h.2 hc
      refine e_lda (v := 45) (show am_cd 48 52 = (2, 53, 0, 2, []) by decide +kernel) rfl ?_
      refine e_ldaD (v := A) (show am_cd 48 53 = (2, 54, 1, 2, []) by decide +kernel) rfl h.1 ?_
      replace h := h.2
      refine e_ldi (show am_cd 48 54 = (2, 55, 3, 0, []) by decide +kernel) rfl ?_
      refine e_laldD (show am_cd 48 55 = (22, 56, 0, 0, []) by decide +kernel) h.1 ?_
      replace h := h.2
      refine e_l2i (show am_cd 48 56 = (8, 57, 1, 0, []) by decide +kernel) ?_
      refine e_cV (z := 0) (a := 45) (as := [(0, w A.toNat (w32 i).toNat)]) (rest := []) (show am_cd 48 57 = (40, 60, 45, 0, [25]) by decide +kernel) (by decide +kernel) rfl rfl (Nat.le_of_ble_eq_true rfl) rfl ?_
      refine Cl.mono (Cl.up (c_pl (d := d) h.1) (by omega)) ?_
      rintro _ _ ⟨x1, rfl, rfl, hp⟩
      refine ⟨fun _ h9 => (by cases h9), ?_⟩
      replace h := h.2 x1 hp
      show Ev _ 48 _ 60 [rA 45, (2, A), (2, B), (0, i), J4] [(0, x1)] _
      refine e_go (show am_cd 48 60 = (12, 64, 0, 0, []) by decide +kernel) ?_
      refine e_sti (la2 := [rA 45, (2, A), (2, B), (0, i), (0, x1)]) (show am_cd 48 64 = (3, 66, 4, 0, []) by decide +kernel) rfl ?_
      refine e_ldi (show am_cd 48 66 = (2, 68, 4, 0, []) by decide +kernel) rfl ?_
      refine e_ic (show am_cd 48 68 = (0, 69, 0, -1, []) by decide +kernel) ?_
      refine e_cmp0 (show am_cd 48 69 = (11, 72, 92, 0, []) by decide +kernel) (fun hc => ?_) (fun hc => ?_)
      · replace h := h.1 hc
        refine e_inc (la2 := [rA 45, (2, A), (2, B), (0, i + 1), (0, x1)]) (show am_cd 48 92 = (4, 95, 3, 1, []) by decide +kernel) rfl rfl ?_
        refine e_go (show am_cd 48 95 = (12, 32, 0, 0, []) by decide +kernel) ?_
        exact h
      · replace h := h.2 hc
        refine e_lda (v := 45) (show am_cd 48 72 = (2, 73, 0, 2, []) by decide +kernel) rfl ?_
        refine e_getf (a := 45) (tg := 2) (show am_cd 48 73 = (18, 76, 500, 2, [9]) by decide +kernel) (by decide +kernel) (by decide +kernel) rfl ?_
        refine e_ldi (show am_cd 48 76 = (2, 78, 4, 0, []) by decide +kernel) rfl ?_
        refine e_ldaD (v := A) (show am_cd 48 78 = (2, 79, 1, 2, []) by decide +kernel) rfl h.1 ?_
        replace h := h.2
        refine e_ldi (show am_cd 48 79 = (2, 80, 3, 0, []) by decide +kernel) rfl ?_
        refine e_laldD (show am_cd 48 80 = (22, 81, 0, 0, []) by decide +kernel) h.1 ?_
        replace h := h.2
        refine e_lastD (show am_cd 48 81 = (25, 82, 0, 0, []) by decide +kernel) h.1 ?_
        replace h := h.2
        refine e_lda (v := 45) (show am_cd 48 82 = (2, 83, 0, 2, []) by decide +kernel) rfl ?_
        refine e_getf (a := 45) (tg := 2) (show am_cd 48 83 = (18, 86, 501, 2, [15]) by decide +kernel) (by decide +kernel) (by decide +kernel) rfl ?_
        refine e_ldi (show am_cd 48 86 = (2, 88, 4, 0, []) by decide +kernel) rfl ?_
        refine e_ldaD (v := B) (show am_cd 48 88 = (2, 89, 2, 2, []) by decide +kernel) rfl h.1 ?_
        replace h := h.2
        refine e_ldi (show am_cd 48 89 = (2, 90, 3, 0, []) by decide +kernel) rfl ?_
        refine e_laldD (show am_cd 48 90 = (22, 91, 0, 0, []) by decide +kernel) h.1 ?_
        replace h := h.2
        refine e_lastD (show am_cd 48 91 = (25, 92, 0, 0, []) by decide +kernel) h.1 ?_
        replace h := h.2
        refine e_inc (la2 := [rA 45, (2, A), (2, B), (0, i + 1), (0, x1)]) (show am_cd 48 92 = (4, 95, 3, 1, []) by decide +kernel) rfl rfl ?_
        refine e_go (show am_cd 48 95 = (12, 32, 0, 0, []) by decide +kernel) ?_
        exact h

/-- only the book of answers has changed, and it may stand elsewhere -/
def MF (w : eW) (t : eT) (w2 : eW) (t2 : eT) : Prop := (t.2.1 ≤ t2.2.1 ∧ ∀ x, x < 102 + t.2.1 → t2.1 x = t.1 x) ∧ (∀ a, a < 102 + t.2.1 → a ≠ (w 45 0).toNat → a ≠ (w 45 1).toNat → a ≠ 45 → w2 a = w a) ∧ w2 45 2 = w 45 2 ∧ ((w2 45 0 = w 45 0 ∧ w2 45 1 = w 45 1 ∧ t2 = t) ∨ (102 + t.2.1 ≤ (w2 45 0).toNat ∧ 102 + t.2.1 ≤ (w2 45 1).toNat))
theorem MF.rf (w : eW) (t : eT) : MF w t w t := ⟨⟨Nat.le_refl _, fun _ _ => rfl⟩, fun _ _ _ _ _ => rfl, rfl, Or.inl ⟨rfl, rfl, rfl⟩⟩
theorem MF.tr {w w1 w2 : eW} {t t1 t2 : eT} (h : MF w t w1 t1) (h2 : MF w1 t1 w2 t2) : MF w t w2 t2 := by
  obtain ⟨⟨a1, a2⟩, a3, a4, a5⟩ := h
  obtain ⟨⟨b1, b2⟩, b3, b4, b5⟩ := h2
  refine ⟨⟨by omega, fun x hx => by rw [b2 x (by omega), a2 x hx]⟩, fun a h1 h2 h3 h4 => ?_, by rw [b4, a4], ?_⟩
  · rw [b3 a (by omega) (by rcases a5 with ⟨e1, e2, _⟩ | ⟨e1, e2⟩ <;> omega) (by rcases a5 with ⟨e1, e2, _⟩ | ⟨e1, e2⟩ <;> omega) h4, a3 a h1 h2 h3 h4]
  · rcases b5 with ⟨e1, e2, e3⟩ | ⟨e1, e2⟩
    · rw [e1, e2, e3]; exact a5
    · exact Or.inr ⟨by omega, by omega⟩

