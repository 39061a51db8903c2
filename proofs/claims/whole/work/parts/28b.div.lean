/-! Quotients and remainders. -/
theorem t32 {x : Int} (h : -2147483648 ≤ x ∧ x ≤ 2147483647) : (Int32.ofInt x).toInt = x := w32_id h
theorem bm32 {x : Int} (h : -2147483648 ≤ x ∧ x ≤ 2147483647) : x.bmod (2 ^ 32) = x := am_b32 h
theorem i_div {x y : Int} (hx : 0 ≤ x ∧ x ≤ 2147483647) (hy : 0 < y ∧ y ≤ 2147483647) : idiv x y = x / y := by
  show (Int32.ofInt x / Int32.ofInt y).toInt = _
  have h1 : x / y ≤ x := Int.ediv_le_self y hx.1
  have h2 : 0 ≤ x / y := Int.ediv_nonneg hx.1 (by omega)
  rw [Int32.toInt_div, t32 (by omega), t32 (by omega), Int.tdiv_eq_ediv_of_nonneg hx.1, bm32 (by omega)]
theorem i_rem {x y : Int} (hx : 0 ≤ x ∧ x ≤ 2147483647) (hy : 0 < y ∧ y ≤ 2147483647) : irem x y = x % y := by
  show (Int32.ofInt x - Int32.ofInt x / Int32.ofInt y * Int32.ofInt y).toInt = _
  have h1 : x / y ≤ x := Int.ediv_le_self y hx.1
  have h2 : 0 ≤ x / y := Int.ediv_nonneg hx.1 (by omega)
  have h3 : y * (x / y) + x % y = x := Int.mul_ediv_add_emod x y
  have h4 : 0 ≤ x % y := Int.emod_nonneg x (by omega)
  have h5 : 0 ≤ y * (x / y) := Int.mul_nonneg (by omega) h2
  rw [Int.mul_comm] at h3 h5
  rw [Int32.toInt_sub, Int32.toInt_mul, Int32.toInt_div, t32 (by omega), t32 (by omega), Int.tdiv_eq_ediv_of_nonneg hx.1, bm32 (x := x / y) (by omega), bm32 (x := x / y * y) (by omega), bm32 (by omega)]
  omega

