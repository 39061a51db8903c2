/-! Bits. -/
theorem b_of {n : Nat} : (Int32.ofInt (n : Int)).toBitVec = BitVec.ofNat 32 n := by
  simp [Int32.ofInt, Int32.toBitVec]
theorem b_to {n : Nat} (h : n < 2147483648) : (BitVec.ofNat 32 n).toInt = (n : Int) := by
  rw [BitVec.toInt_eq_toNat_of_lt (by rw [BitVec.toNat_ofNat]; omega), BitVec.toNat_ofNat]
  omega
theorem b_and {m n : Nat} (hm : m < 2147483648) : iand (m : Int) (n : Int) = ((m &&& n : Nat) : Int) := by
  unfold iand am_io
  simp only [Int32.toInt]
  rw [Int32.toBitVec_and, b_of, b_of, ← BitVec.ofNat_and, b_to (Nat.lt_of_le_of_lt Nat.and_le_left hm)]
theorem b_or {m n : Nat} (hm : m < 2147483648) (hn : n < 2147483648) : ior (m : Int) (n : Int) = ((m ||| n : Nat) : Int) := by
  unfold ior am_io
  simp only [Int32.toInt]
  rw [Int32.toBitVec_or, b_of, b_of, ← BitVec.ofNat_or, b_to (Nat.or_lt_two_pow (n := 31) hm hn)]
theorem b_31 {p : Nat} (hp : p < 32) : (BitVec.ofNat 32 p &&& (31 : Int32).toBitVec).smod 32 = BitVec.ofNat 32 p := by
  have hall : (List.range 32).all (fun p => decide ((BitVec.ofNat 32 p &&& (31 : Int32).toBitVec).smod 32 = BitVec.ofNat 32 p)) = true := by decide +kernel
  exact of_decide_eq_true (List.all_eq_true.mp hall p (List.mem_range.mpr hp))
theorem b_shr {m p : Nat} (hm : m < 2147483648) (hp : p < 32) : ishr (m : Int) (p : Int) = ((m >>> p : Nat) : Int) := by
  unfold ishr am_io
  simp only [Int32.toInt]
  rw [Int32.toBitVec_shiftRight, Int32.toBitVec_and, b_of, b_of, b_31 hp]
  show ((BitVec.ofNat 32 m).sshiftRight (BitVec.ofNat 32 p).toNat).toInt = _
  rw [BitVec.toInt_sshiftRight, b_to hm, BitVec.toNat_ofNat, Nat.mod_eq_of_lt (by omega)]
  rfl
theorem b_shl {m p : Nat} (hm : m <<< p < 2147483648) (hp : p < 32) : ishl (m : Int) (p : Int) = ((m <<< p : Nat) : Int) := by
  have hm2 : m < 2147483648 := Nat.lt_of_le_of_lt (by rw [Nat.shiftLeft_eq]; exact Nat.le_mul_of_pos_right m (Nat.two_pow_pos p)) hm
  unfold ishl am_io
  simp only [Int32.toInt]
  rw [Int32.toBitVec_shiftLeft, Int32.toBitVec_and, b_of, b_of, b_31 hp, BitVec.shiftLeft_eq', BitVec.toNat_ofNat, Nat.mod_eq_of_lt (by omega)]
  have e : BitVec.ofNat 32 m <<< p = BitVec.ofNat 32 (m <<< p) := by
    apply BitVec.eq_of_toNat_eq
    rw [BitVec.toNat_shiftLeft, BitVec.toNat_ofNat, BitVec.toNat_ofNat, Nat.mod_eq_of_lt (show m < 2 ^ 32 by omega)]
  rw [e, b_to hm]
/-- a number's bit -/
def bt (x : Int) (p : Nat) : Bool := x.toNat.testBit p
def B31 (x : Int) : Prop := 0 ≤ x ∧ x < 2147483648
theorem i_and {x y : Int} (hx : 0 ≤ x ∧ x < 2147483648) (hy : 0 ≤ y) : iand x y = ((x.toNat &&& y.toNat : Nat) : Int) := by
  have := b_and (m := x.toNat) (n := y.toNat) (by omega)
  rw [Int.toNat_of_nonneg hx.1, Int.toNat_of_nonneg hy] at this
  exact this
theorem i_or {x y : Int} (hx : 0 ≤ x ∧ x < 2147483648) (hy : 0 ≤ y ∧ y < 2147483648) : ior x y = ((x.toNat ||| y.toNat : Nat) : Int) := by
  have := b_or (m := x.toNat) (n := y.toNat) (by omega) (by omega)
  rw [Int.toNat_of_nonneg hx.1, Int.toNat_of_nonneg hy.1] at this
  exact this
theorem i_shr {x y : Int} (hx : 0 ≤ x ∧ x < 2147483648) (hy : 0 ≤ y ∧ y < 32) : ishr x y = ((x.toNat >>> y.toNat : Nat) : Int) := by
  have := b_shr (m := x.toNat) (p := y.toNat) (by omega) (by omega)
  rw [Int.toNat_of_nonneg hx.1, Int.toNat_of_nonneg hy.1] at this
  exact this
theorem i_bit {x y : Int} (hx : 0 ≤ x ∧ x < 2147483648) (hy : 0 ≤ y ∧ y < 32) : iand (ishr x y) 1 = if bt x y.toNat then 1 else 0 := by
  rw [i_shr hx hy, i_and ⟨Int.natCast_nonneg _, ?_⟩ (by decide)]
  · unfold bt
    rw [Int.toNat_natCast, Int.toNat_one, Nat.and_one_is_mod, Nat.testBit_eq_decide_div_mod_eq, Nat.shiftRight_eq_div_pow]
    by_cases h : x.toNat / 2 ^ y.toNat % 2 = 1
    · rw [h]; simp
    · rw [show x.toNat / 2 ^ y.toNat % 2 = 0 by omega]; simp
  · have : x.toNat >>> y.toNat ≤ x.toNat := Nat.shiftRight_le _ _
    omega
theorem i_one {y : Int} (hy : 0 ≤ y ∧ y < 31) : ishl 1 y = ((2 ^ y.toNat : Nat) : Int) := by
  have h2 : 2 ^ y.toNat ≤ 2 ^ 30 := Nat.pow_le_pow_right (by decide) (by omega)
  have e : 1 <<< y.toNat = 2 ^ y.toNat := Nat.one_shiftLeft _
  have := b_shl (m := 1) (p := y.toNat) (by rw [e]; omega) (by omega)
  rw [Int.toNat_of_nonneg hy.1, e] at this
  exact this
theorem p2_lt {n : Nat} (h : n < 31) : 2 ^ n < 2147483648 := by
  have h2 : 2 ^ n ≤ 2 ^ 30 := Nat.pow_le_pow_right (by decide) (by omega)
  omega
theorem i_set {x y : Int} (hx : 0 ≤ x ∧ x < 2147483648) (hy : 0 ≤ y ∧ y < 31) : ior x (ishl 1 y) = ((x.toNat ||| 2 ^ y.toNat : Nat) : Int) := by
  have := p2_lt (n := y.toNat) (by omega)
  rw [i_one hy, i_or hx ⟨Int.natCast_nonneg _, Int.ofNat_lt.mpr this⟩, Int.toNat_natCast]
theorem or_lt {m n k : Nat} (h1 : m < 2 ^ k) (h2 : n < 2 ^ k) : m ||| n < 2 ^ k := Nat.or_lt_two_pow h1 h2
theorem bt_or (m n p : Nat) : bt ((m ||| n : Nat) : Int) p = (m.testBit p || n.testBit p) := by
  unfold bt
  rw [Int.toNat_natCast, Nat.testBit_or]
theorem bt_and (m n p : Nat) : bt ((m &&& n : Nat) : Int) p = (m.testBit p && n.testBit p) := by
  unfold bt
  rw [Int.toNat_natCast, Nat.testBit_and]
theorem b_ofI {y : Int} (hy : 0 ≤ y) : (Int32.ofInt y).toBitVec = BitVec.ofNat 32 y.toNat := by
  have := b_of (n := y.toNat)
  rw [Int.toNat_of_nonneg hy] at this
  exact this
theorem i_andn {x y : Int} (hx : 0 ≤ x ∧ x < 2147483648) (hy : 0 ≤ y) : iand x (ixor y (-1)) = ((x.toNat &&& (2147483647 ^^^ y.toNat) : Nat) : Int) := by
  show (Int32.ofInt x &&& Int32.ofInt (Int32.ofInt y ^^^ Int32.ofInt (-1)).toInt).toInt = _
  rw [Int32.ofInt_toInt]
  simp only [Int32.toInt]
  rw [Int32.toBitVec_and, Int32.toBitVec_xor, b_ofI hx.1, b_ofI hy]
  have e : (Int32.ofInt (-1)).toBitVec = BitVec.allOnes 32 := by decide +kernel
  have hlt : x.toNat < 2 ^ 31 := by omega
  have h3 : BitVec.ofNat 32 x.toNat &&& (BitVec.ofNat 32 y.toNat ^^^ BitVec.allOnes 32) = BitVec.ofNat 32 (x.toNat &&& (2147483647 ^^^ y.toNat)) := by
    apply BitVec.eq_of_getLsbD_eq
    intro i hi
    rw [BitVec.getLsbD_and, BitVec.getLsbD_xor, BitVec.getLsbD_ofNat, BitVec.getLsbD_ofNat, BitVec.getLsbD_ofNat, BitVec.getLsbD_allOnes, Nat.testBit_and, Nat.testBit_xor, show (2147483647 : Nat) = 2 ^ 31 - 1 from rfl, Nat.testBit_two_pow_sub_one]
    by_cases h31 : i < 31
    · simp [hi, h31, Bool.xor_comm]
    · have : x.toNat.testBit i = false := Nat.testBit_lt_two_pow (Nat.lt_of_lt_of_le hlt (Nat.pow_le_pow_right (by decide) (by omega)))
      simp [this]
  rw [e, h3, b_to (Nat.lt_of_le_of_lt Nat.and_le_left (by omega))]
theorem i_m1 {x : Int} (hx : 0 ≤ x ∧ x < 2147483648) : iand x (-1) = x := by
  unfold iand am_io
  simp only [Int32.toInt]
  have e : (Int32.ofInt (-1)).toBitVec = BitVec.allOnes 32 := by decide +kernel
  rw [Int32.toBitVec_and, b_ofI hx.1, e, BitVec.and_allOnes, b_to (by omega)]
  omega
theorem bt_andn (x y : Nat) {p : Nat} (hp : p < 31) : bt ((x &&& (2147483647 ^^^ y) : Nat) : Int) p = (x.testBit p && !y.testBit p) := by
  unfold bt
  rw [Int.toNat_natCast, Nat.testBit_and, Nat.testBit_xor, show (2147483647 : Nat) = 2 ^ 31 - 1 from rfl, Nat.testBit_two_pow_sub_one]
  simp [hp]
theorem bt_set (x p q : Nat) : bt ((x ||| 2 ^ p : Nat) : Int) q = (x.testBit q || decide (p = q)) := by
  rw [bt_or, Nat.testBit_two_pow]
