/-! The model: sign, end, count, drops. -/
def sb (b : Int) : Int := if b < 128 then b else b - 256
def TxM (w : eW) (tx : List Int) : Prop := w 67 23 = (tx.length : Int) ∧ tx.length ≤ 80 ∧ (∀ b ∈ tx, 0 ≤ b ∧ b < 256) ∧ ∀ i, i < tx.length → w 85 i = sb (tx.getD i 0)
theorem TxM.fr {w w2 : eW} {tx : List Int} (h : TxM w tx) (h0 : w2 67 23 = w 67 23) (h1 : w2 85 = w 85) : TxM w2 tx := by
  unfold TxM at *
  rw [h0, h1]
  exact h
theorem i_shrZ {x : Int} {y : Nat} (hx : -2147483648 ≤ x ∧ x ≤ 2147483647) (hy : y < 32) : ishr x (y : Int) = x / 2 ^ y := by
  unfold ishr am_io
  simp only [Int32.toInt]
  rw [Int32.toBitVec_shiftRight, Int32.toBitVec_and, b_of (n := y), b_31 hy]
  show ((Int32.ofInt x).toBitVec.sshiftRight (BitVec.ofNat 32 y).toNat).toInt = _
  rw [BitVec.toInt_sshiftRight, BitVec.toNat_ofNat, Nat.mod_eq_of_lt (by omega)]
  have e : (Int32.ofInt x).toBitVec.toInt = x := w32_id hx
  rw [e, Int.shiftRight_eq_div_pow]
  rfl
theorem b8 {x : Int} (hx : -2147483648 ≤ x ∧ x ≤ 2147483647) : (Int32.ofInt x).toInt8.toInt = sb (x % 256) := by
  rw [Int32.toInt_toInt8, t32 hx]
  unfold sb
  rw [Int.bmod_def]
  rfl
def byt (v : Int) (y : Nat) : Int := v / 2 ^ y % 256
theorem byt_b (v : Int) (y : Nat) : 0 ≤ byt v y ∧ byt v y < 256 := by
  unfold byt
  omega
theorem div_ok {v : Int} (hv : -2147483648 ≤ v ∧ v ≤ 2147483647) (y : Nat) : -2147483648 ≤ v / 2 ^ y ∧ v / 2 ^ y ≤ 2147483647 := by
  have hp : (0 : Int) < 2 ^ y := Int.pow_pos (by decide)
  constructor
  · have h1 : (-2147483648 : Int) / 2 ^ y ≤ v / 2 ^ y := Int.ediv_le_ediv hp hv.1
    have h2 : (-2147483648 : Int) ≤ -2147483648 / 2 ^ y := by
      rw [Int.le_ediv_iff_mul_le hp]
      have h3 : (1 : Int) ≤ 2 ^ y := by omega
      have := Int.mul_le_mul_of_nonpos_left (a := -2147483648) (by decide) h3
      omega
    omega
  · by_cases h0 : 0 ≤ v
    · have := Int.ediv_le_self (2 ^ y) h0
      omega
    · have : v / 2 ^ y < 0 := Int.ediv_neg_of_neg_of_pos (by omega) hp
      omega
theorem byt8 {v : Int} (hv : -2147483648 ≤ v ∧ v ≤ 2147483647) {y : Nat} (hy : y < 32) : (Int32.ofInt ((Int32.ofInt (ishr v (y : Int))).toInt8.toInt)).toInt8.toInt = sb (byt v y) := by
  have h1 := div_ok hv y
  have h2 := byt_b v y
  rw [i_shrZ hv hy, b8 h1]
  rw [show v / 2 ^ y % 256 = byt v y from rfl]
  rw [b8 (by unfold sb; split <;> omega)]
  unfold sb
  split <;> split <;> omega
def signV (tx : List Int) : Int := if tx.length + 4 ≤ 80 then ((tx.length : Int) + 4) else -1
def signT (tx : List Int) (v : Int) : List Int := if tx.length + 4 ≤ 80 then tx ++ [byt v 24, byt v 16, byt v 8, byt v 0] else tx
def endV (tx : List Int) (n : Int) : Int := bI (decide (0 ≤ n ∧ n ≤ tx.length))
def endT (tx : List Int) (n : Int) : List Int := if 0 ≤ n ∧ n ≤ tx.length then tx.take n.toNat else tx

theorem g_msign {d : Nat} {Q : Option aV → aS → Prop} {w : eW} {t : eT} {v : Int} (h : ((w32 ((w 67 23) + 4) ≤ w32 80 → (0 ≤ w32 (w 67 23) ∧ w32 (w 67 23) < 80) ∧ (0 ≤ w32 ((w 67 23) + 1) ∧ w32 ((w 67 23) + 1) < 80) ∧ (0 ≤ w32 (((w 67 23) + 1) + 1) ∧ w32 (((w 67 23) + 1) + 1) < 80) ∧ (0 ≤ w32 ((((w 67 23) + 1) + 1) + 1) ∧ w32 ((((w 67 23) + 1) + 1) + 1) < 80) ∧ (Q (some (0, ((((w 67 23) + 1) + 1) + 1) + 1)) (enc (wu (wu (wu (wu (wu (wu (wu (wu (wu w 67 26 0) 67 23 ((w 67 23) + 1)) 85 (w32 (w 67 23)).toNat ((Int32.ofInt ((Int32.ofInt (ishr v 24)).toInt8.toInt)).toInt8.toInt)) 67 23 (((w 67 23) + 1) + 1)) 85 (w32 ((w 67 23) + 1)).toNat ((Int32.ofInt ((Int32.ofInt (ishr v 16)).toInt8.toInt)).toInt8.toInt)) 67 23 ((((w 67 23) + 1) + 1) + 1)) 85 (w32 (((w 67 23) + 1) + 1)).toNat ((Int32.ofInt ((Int32.ofInt (ishr v 8)).toInt8.toInt)).toInt8.toInt)) 67 23 (((((w 67 23) + 1) + 1) + 1) + 1)) 85 (w32 ((((w 67 23) + 1) + 1) + 1)).toNat ((Int32.ofInt ((Int32.ofInt (ishr v 0)).toInt8.toInt)).toInt8.toInt)) t))) ∧ (¬ (w32 ((w 67 23) + 4) ≤ w32 80) → Q (some (0, (-1))) (enc (wu w 67 26 0) t)))) : Cl (d) 168 [rA 67, (0, v)] (enc w t) Q := by
  show Ev (d) 168 Q 0 [rA 67, (0, v), (9, 0)] [] (enc w t)
  refine e_lda (v := 67) (show am_cd 168 0 = (2, 1, 0, 2, []) by decide +kernel) rfl ?_
  refine e_ic (show am_cd 168 1 = (0, 2, 0, 0, []) by decide +kernel) ?_
  refine e_putf (a := 67) (show am_cd 168 2 = (19, 5, 1226, 0, [113]) by decide +kernel) (by decide +kernel) (by decide +kernel) rfl (fun h9 => absurd h9 (by decide)) (fun h9 => absurd h9 (by decide +kernel)) ?_
  refine e_lda (v := 67) (show am_cd 168 5 = (2, 6, 0, 2, []) by decide +kernel) rfl ?_
  refine e_getfE (a := 67) (tg := 0) (v := w 67 23) (show am_cd 168 6 = (18, 9, 1223, 0, [119]) by decide +kernel) (by decide +kernel) (by decide +kernel) rfl rfl ?_
  refine e_ic (show am_cd 168 9 = (0, 10, 0, 4, []) by decide +kernel) ?_
  refine e_iadd (show am_cd 168 10 = (5, 11, 0, 0, []) by decide +kernel) ?_
  refine e_ic (show am_cd 168 11 = (0, 13, 1, 80, []) by decide +kernel) ?_
  refine e_cmp5 (show am_cd 168 13 = (11, 16, 18, 5, []) by decide +kernel) (fun hc => ?_) (fun hc => ?_)
  · replace h := h.1 hc
    refine e_ic (show am_cd 168 18 = (0, 19, 0, 3, []) by decide +kernel) ?_
    refine e_sti (la2 := [rA 67, (0, v), (0, 3)]) (show am_cd 168 19 = (3, 20, 2, 0, []) by decide +kernel) rfl ?_
    refine e_ldi (show am_cd 168 20 = (2, 21, 2, 0, []) by decide +kernel) rfl ?_
    refine e_ifF (show am_cd 168 21 = (10, 24, 53, 2, []) by decide +kernel) (by decide +kernel) ?_
    refine e_lda (v := 67) (show am_cd 168 24 = (2, 25, 0, 2, []) by decide +kernel) rfl ?_
    refine e_getr (a := 67) (r := 85) (show am_cd 168 25 = (18, 28, 1222, 2, [61]) by decide +kernel) (by decide +kernel) (by decide +kernel) rfl ?_
    refine e_lda (v := 67) (show am_cd 168 28 = (2, 29, 0, 2, []) by decide +kernel) rfl ?_
    refine e_dup (show am_cd 168 29 = (13, 30, 0, 0, []) by decide +kernel) (by decide) ?_
    refine e_getfE (a := 67) (tg := 0) (v := w 67 23) (show am_cd 168 30 = (18, 33, 1223, 0, [119]) by decide +kernel) (by decide +kernel) (by decide +kernel) rfl rfl ?_
    refine e_dupx (show am_cd 168 33 = (15, 34, 0, 0, []) by decide +kernel) (by decide) ?_
    refine e_ic (show am_cd 168 34 = (0, 35, 0, 1, []) by decide +kernel) ?_
    refine e_iadd (show am_cd 168 35 = (5, 36, 0, 0, []) by decide +kernel) ?_
    refine e_putf (a := 67) (show am_cd 168 36 = (19, 39, 1223, 0, [119]) by decide +kernel) (by decide +kernel) (by decide +kernel) rfl (fun h9 => absurd h9 (by decide)) (fun h9 => absurd h9 (by decide +kernel)) ?_
    refine e_ldi (show am_cd 168 39 = (2, 40, 1, 0, []) by decide +kernel) rfl ?_
    refine e_ic (show am_cd 168 40 = (0, 42, 1, 8, []) by decide +kernel) ?_
    refine e_ldi (show am_cd 168 42 = (2, 43, 2, 0, []) by decide +kernel) rfl ?_
    refine e_iok (r := 24) (show am_cd 168 43 = (5, 44, 2, 0, []) by decide +kernel) (by decide +kernel) (by decide +kernel) ?_
    refine e_ishr (show am_cd 168 44 = (5, 45, 7, 0, []) by decide +kernel) ?_
    refine e_i2b (show am_cd 168 45 = (8, 46, 2, 0, []) by decide +kernel) ?_
    refine e_bast (a := 85) (n := 80) (show am_cd 168 46 = (26, 47, 0, 0, []) by decide +kernel) (by decide +kernel) (by decide +kernel) (by decide +kernel) h.1 ?_
    replace h := h.2
    refine e_inc (la2 := [rA 67, (0, v), (0, 2)]) (show am_cd 168 47 = (4, 50, 2, -1, []) by decide +kernel) rfl rfl ?_
    refine e_go (show am_cd 168 50 = (12, 20, 0, 0, []) by decide +kernel) ?_
    refine e_ldi (show am_cd 168 20 = (2, 21, 2, 0, []) by decide +kernel) rfl ?_
    refine e_ifF (show am_cd 168 21 = (10, 24, 53, 2, []) by decide +kernel) (by decide +kernel) ?_
    refine e_lda (v := 67) (show am_cd 168 24 = (2, 25, 0, 2, []) by decide +kernel) rfl ?_
    refine e_getr (a := 67) (r := 85) (show am_cd 168 25 = (18, 28, 1222, 2, [61]) by decide +kernel) (by decide +kernel) (by decide +kernel) rfl ?_
    refine e_lda (v := 67) (show am_cd 168 28 = (2, 29, 0, 2, []) by decide +kernel) rfl ?_
    refine e_dup (show am_cd 168 29 = (13, 30, 0, 0, []) by decide +kernel) (by decide) ?_
    refine e_getfE (a := 67) (tg := 0) (v := (w 67 23) + 1) (show am_cd 168 30 = (18, 33, 1223, 0, [119]) by decide +kernel) (by decide +kernel) (by decide +kernel) rfl rfl ?_
    refine e_dupx (show am_cd 168 33 = (15, 34, 0, 0, []) by decide +kernel) (by decide) ?_
    refine e_ic (show am_cd 168 34 = (0, 35, 0, 1, []) by decide +kernel) ?_
    refine e_iadd (show am_cd 168 35 = (5, 36, 0, 0, []) by decide +kernel) ?_
    refine e_putf (a := 67) (show am_cd 168 36 = (19, 39, 1223, 0, [119]) by decide +kernel) (by decide +kernel) (by decide +kernel) rfl (fun h9 => absurd h9 (by decide)) (fun h9 => absurd h9 (by decide +kernel)) ?_
    refine e_ldi (show am_cd 168 39 = (2, 40, 1, 0, []) by decide +kernel) rfl ?_
    refine e_ic (show am_cd 168 40 = (0, 42, 1, 8, []) by decide +kernel) ?_
    refine e_ldi (show am_cd 168 42 = (2, 43, 2, 0, []) by decide +kernel) rfl ?_
    refine e_iok (r := 16) (show am_cd 168 43 = (5, 44, 2, 0, []) by decide +kernel) (by decide +kernel) (by decide +kernel) ?_
    refine e_ishr (show am_cd 168 44 = (5, 45, 7, 0, []) by decide +kernel) ?_
    refine e_i2b (show am_cd 168 45 = (8, 46, 2, 0, []) by decide +kernel) ?_
    refine e_bast (a := 85) (n := 80) (show am_cd 168 46 = (26, 47, 0, 0, []) by decide +kernel) (by decide +kernel) (by decide +kernel) (by decide +kernel) h.1 ?_
    replace h := h.2
    refine e_inc (la2 := [rA 67, (0, v), (0, 1)]) (show am_cd 168 47 = (4, 50, 2, -1, []) by decide +kernel) rfl rfl ?_
    refine e_go (show am_cd 168 50 = (12, 20, 0, 0, []) by decide +kernel) ?_
    refine e_ldi (show am_cd 168 20 = (2, 21, 2, 0, []) by decide +kernel) rfl ?_
    refine e_ifF (show am_cd 168 21 = (10, 24, 53, 2, []) by decide +kernel) (by decide +kernel) ?_
    refine e_lda (v := 67) (show am_cd 168 24 = (2, 25, 0, 2, []) by decide +kernel) rfl ?_
    refine e_getr (a := 67) (r := 85) (show am_cd 168 25 = (18, 28, 1222, 2, [61]) by decide +kernel) (by decide +kernel) (by decide +kernel) rfl ?_
    refine e_lda (v := 67) (show am_cd 168 28 = (2, 29, 0, 2, []) by decide +kernel) rfl ?_
    refine e_dup (show am_cd 168 29 = (13, 30, 0, 0, []) by decide +kernel) (by decide) ?_
    refine e_getfE (a := 67) (tg := 0) (v := ((w 67 23) + 1) + 1) (show am_cd 168 30 = (18, 33, 1223, 0, [119]) by decide +kernel) (by decide +kernel) (by decide +kernel) rfl rfl ?_
    refine e_dupx (show am_cd 168 33 = (15, 34, 0, 0, []) by decide +kernel) (by decide) ?_
    refine e_ic (show am_cd 168 34 = (0, 35, 0, 1, []) by decide +kernel) ?_
    refine e_iadd (show am_cd 168 35 = (5, 36, 0, 0, []) by decide +kernel) ?_
    refine e_putf (a := 67) (show am_cd 168 36 = (19, 39, 1223, 0, [119]) by decide +kernel) (by decide +kernel) (by decide +kernel) rfl (fun h9 => absurd h9 (by decide)) (fun h9 => absurd h9 (by decide +kernel)) ?_
    refine e_ldi (show am_cd 168 39 = (2, 40, 1, 0, []) by decide +kernel) rfl ?_
    refine e_ic (show am_cd 168 40 = (0, 42, 1, 8, []) by decide +kernel) ?_
    refine e_ldi (show am_cd 168 42 = (2, 43, 2, 0, []) by decide +kernel) rfl ?_
    refine e_iok (r := 8) (show am_cd 168 43 = (5, 44, 2, 0, []) by decide +kernel) (by decide +kernel) (by decide +kernel) ?_
    refine e_ishr (show am_cd 168 44 = (5, 45, 7, 0, []) by decide +kernel) ?_
    refine e_i2b (show am_cd 168 45 = (8, 46, 2, 0, []) by decide +kernel) ?_
    refine e_bast (a := 85) (n := 80) (show am_cd 168 46 = (26, 47, 0, 0, []) by decide +kernel) (by decide +kernel) (by decide +kernel) (by decide +kernel) h.1 ?_
    replace h := h.2
    refine e_inc (la2 := [rA 67, (0, v), (0, 0)]) (show am_cd 168 47 = (4, 50, 2, -1, []) by decide +kernel) rfl rfl ?_
    refine e_go (show am_cd 168 50 = (12, 20, 0, 0, []) by decide +kernel) ?_
    refine e_ldi (show am_cd 168 20 = (2, 21, 2, 0, []) by decide +kernel) rfl ?_
    refine e_ifF (show am_cd 168 21 = (10, 24, 53, 2, []) by decide +kernel) (by decide +kernel) ?_
    refine e_lda (v := 67) (show am_cd 168 24 = (2, 25, 0, 2, []) by decide +kernel) rfl ?_
    refine e_getr (a := 67) (r := 85) (show am_cd 168 25 = (18, 28, 1222, 2, [61]) by decide +kernel) (by decide +kernel) (by decide +kernel) rfl ?_
    refine e_lda (v := 67) (show am_cd 168 28 = (2, 29, 0, 2, []) by decide +kernel) rfl ?_
    refine e_dup (show am_cd 168 29 = (13, 30, 0, 0, []) by decide +kernel) (by decide) ?_
    refine e_getfE (a := 67) (tg := 0) (v := (((w 67 23) + 1) + 1) + 1) (show am_cd 168 30 = (18, 33, 1223, 0, [119]) by decide +kernel) (by decide +kernel) (by decide +kernel) rfl rfl ?_
    refine e_dupx (show am_cd 168 33 = (15, 34, 0, 0, []) by decide +kernel) (by decide) ?_
    refine e_ic (show am_cd 168 34 = (0, 35, 0, 1, []) by decide +kernel) ?_
    refine e_iadd (show am_cd 168 35 = (5, 36, 0, 0, []) by decide +kernel) ?_
    refine e_putf (a := 67) (show am_cd 168 36 = (19, 39, 1223, 0, [119]) by decide +kernel) (by decide +kernel) (by decide +kernel) rfl (fun h9 => absurd h9 (by decide)) (fun h9 => absurd h9 (by decide +kernel)) ?_
    refine e_ldi (show am_cd 168 39 = (2, 40, 1, 0, []) by decide +kernel) rfl ?_
    refine e_ic (show am_cd 168 40 = (0, 42, 1, 8, []) by decide +kernel) ?_
    refine e_ldi (show am_cd 168 42 = (2, 43, 2, 0, []) by decide +kernel) rfl ?_
    refine e_iok (r := 0) (show am_cd 168 43 = (5, 44, 2, 0, []) by decide +kernel) (by decide +kernel) (by decide +kernel) ?_
    refine e_ishr (show am_cd 168 44 = (5, 45, 7, 0, []) by decide +kernel) ?_
    refine e_i2b (show am_cd 168 45 = (8, 46, 2, 0, []) by decide +kernel) ?_
    refine e_bast (a := 85) (n := 80) (show am_cd 168 46 = (26, 47, 0, 0, []) by decide +kernel) (by decide +kernel) (by decide +kernel) (by decide +kernel) h.1 ?_
    replace h := h.2
    refine e_inc (la2 := [rA 67, (0, v), (0, (-1))]) (show am_cd 168 47 = (4, 50, 2, -1, []) by decide +kernel) rfl rfl ?_
    refine e_go (show am_cd 168 50 = (12, 20, 0, 0, []) by decide +kernel) ?_
    refine e_ldi (show am_cd 168 20 = (2, 21, 2, 0, []) by decide +kernel) rfl ?_
    refine e_ifT (show am_cd 168 21 = (10, 24, 53, 2, []) by decide +kernel) (by decide +kernel) ?_
    refine e_lda (v := 67) (show am_cd 168 53 = (2, 54, 0, 2, []) by decide +kernel) rfl ?_
    refine e_getfE (a := 67) (tg := 0) (v := ((((w 67 23) + 1) + 1) + 1) + 1) (show am_cd 168 54 = (18, 57, 1223, 0, [119]) by decide +kernel) (by decide +kernel) (by decide +kernel) rfl rfl ?_
    exact e_reti (show am_cd 168 57 = (36, 58, 0, 0, []) by decide +kernel) (by decide +kernel) h
  · replace h := h.2 hc
    refine e_ic (show am_cd 168 16 = (0, 17, 0, -1, []) by decide +kernel) ?_
    exact e_reti (show am_cd 168 17 = (36, 18, 0, 0, []) by decide +kernel) (by decide +kernel) h

theorem g_mend {d : Nat} {Q : Option aV → aS → Prop} {w : eW} {t : eT} {n : Int} (h : (((decide (w64 0 ≤ w64 (w32 n) ∧ w64 (w32 n) ≤ w64 (w32 (w 67 23)))) = true → Q (some (0, 1)) (enc (wu (wu w 67 26 0) 67 23 n) t)) ∧ ((decide (w64 0 ≤ w64 (w32 n) ∧ w64 (w32 n) ≤ w64 (w32 (w 67 23)))) = false → Q (some (0, 0)) (enc (wu w 67 26 0) t)))) : Cl (d + 1) 169 [rA 67, (0, n)] (enc w t) Q := by
  show Ev (d + 1) 169 Q 0 [rA 67, (0, n)] [] (enc w t)
  refine e_lda (v := 67) (show am_cd 169 0 = (2, 1, 0, 2, []) by decide +kernel) rfl ?_
  refine e_ic (show am_cd 169 1 = (0, 2, 0, 0, []) by decide +kernel) ?_
  refine e_putf (a := 67) (show am_cd 169 2 = (19, 5, 1226, 0, [113]) by decide +kernel) (by decide +kernel) (by decide +kernel) rfl (fun h9 => absurd h9 (by decide)) (fun h9 => absurd h9 (by decide +kernel)) ?_
  refine e_ldi (show am_cd 169 5 = (2, 6, 1, 0, []) by decide +kernel) rfl ?_
  refine e_i2l (show am_cd 169 6 = (8, 7, 0, 0, []) by decide +kernel) ?_
  refine e_lc (show am_cd 169 7 = (1, 8, 0, 0, []) by decide +kernel) ?_
  refine e_lda (v := 67) (show am_cd 169 8 = (2, 9, 0, 2, []) by decide +kernel) rfl ?_
  refine e_getfE (a := 67) (tg := 0) (v := w 67 23) (show am_cd 169 9 = (18, 12, 1223, 0, [119]) by decide +kernel) (by decide +kernel) (by decide +kernel) rfl rfl ?_
  refine e_i2l (show am_cd 169 12 = (8, 13, 0, 0, []) by decide +kernel) ?_
  refine e_cS (z := 0) (as := [(1, w32 n), (1, 0), (1, w32 (w 67 23))]) (rest := []) (show am_cd 169 13 = (40, 16, 165, 1, [122]) by decide +kernel) (by decide) rfl rfl (Nat.le_of_ble_eq_true rfl) rfl ?_
  refine Cl.mono (Cl.up (c_in (d := d)) (by omega)) ?_
  rintro _ _ ⟨rfl, rfl⟩
  refine ⟨fun _ h9 => (by cases h9), ?_⟩
  show Ev _ 169 _ 16 [rA 67, (0, n)] [(0, bI (decide (w64 0 ≤ w64 (w32 n) ∧ w64 (w32 n) ≤ w64 (w32 (w 67 23)))))] _
  refine e_ifb1 (show am_cd 169 16 = (10, 19, 21, 1, []) by decide +kernel) (fun hc => ?_) (fun hc => ?_)
  · replace h := h.1 hc
    refine e_lda (v := 67) (show am_cd 169 21 = (2, 22, 0, 2, []) by decide +kernel) rfl ?_
    refine e_ldi (show am_cd 169 22 = (2, 23, 1, 0, []) by decide +kernel) rfl ?_
    refine e_putf (a := 67) (show am_cd 169 23 = (19, 26, 1223, 0, [119]) by decide +kernel) (by decide +kernel) (by decide +kernel) rfl (fun h9 => absurd h9 (by decide)) (fun h9 => absurd h9 (by decide +kernel)) ?_
    refine e_ic (show am_cd 169 26 = (0, 27, 0, 1, []) by decide +kernel) ?_
    exact e_retz (show am_cd 169 27 = (36, 28, 0, 0, []) by decide +kernel) (by decide +kernel) (Or.inr rfl) h
  · replace h := h.2 hc
    refine e_ic (show am_cd 169 19 = (0, 20, 0, 0, []) by decide +kernel) ?_
    exact e_retz (show am_cd 169 20 = (36, 21, 0, 0, []) by decide +kernel) (by decide +kernel) (Or.inl rfl) h

theorem c_msign {d : Nat} {w : eW} {t : eT} {tx : List Int} {v : Int} (h : TxM w tx ∧ okI v) : Cl d 168 [rA 67, (0, v)] (enc w t) (fun r S2 => ∃ w2, r = some (0, signV tx) ∧ S2 = enc w2 t ∧ Fm [85] [23, 26] w w2 ∧ TxM w2 (signT tx v)) := by
  obtain ⟨⟨h1, h2, h3, h4⟩, hv⟩ := h
  unfold okI at hv
  refine g_msign ?_
  rw [h1]
  simp (disch := omega) only [w32_id]
  unfold signV signT
  refine ⟨fun h5 => ⟨by omega, by omega, by omega, by omega, ?_⟩, fun h5 => ?_⟩
  · rw [if_pos (by omega), if_pos (by omega)]
    have e0 := byt8 hv (y := 24) (by decide)
    have e1 := byt8 hv (y := 16) (by decide)
    have e2 := byt8 hv (y := 8) (by decide)
    have e3 := byt8 hv (y := 0) (by decide)
    rw [show ((24 : Nat) : Int) = 24 from rfl] at e0
    rw [show ((16 : Nat) : Int) = 16 from rfl] at e1
    rw [show ((8 : Nat) : Int) = 8 from rfl] at e2
    rw [show ((0 : Nat) : Int) = 0 from rfl] at e3
    rw [e0, e1, e2, e3]
    rw [show ((tx.length : Int)).toNat = tx.length by omega, show ((tx.length : Int) + 1).toNat = tx.length + 1 by omega, show ((tx.length : Int) + 1 + 1).toNat = tx.length + 2 by omega, show ((tx.length : Int) + 1 + 1 + 1).toNat = tx.length + 3 by omega]
    refine ⟨_, by rw [show (tx.length : Int) + 1 + 1 + 1 + 1 = (tx.length : Int) + 4 by omega], rfl, (Fm.pf (by decide)).tr ((Fm.pf (by decide)).tr ((Fm.pr (by decide) (by decide)).tr ((Fm.pf (by decide)).tr ((Fm.pr (by decide) (by decide)).tr ((Fm.pf (by decide)).tr ((Fm.pr (by decide) (by decide)).tr ((Fm.pf (by decide)).tr (Fm.pr (by decide) (by decide))))))))), ?_, ?_, ?_, ?_⟩
    · rw [wu_row (by decide), wu_eq, List.length_append]
      show _ = ((tx.length + 4 : Nat) : Int)
      omega
    · rw [List.length_append]
      show tx.length + 4 ≤ 80
      omega
    · intro b hb
      rw [List.mem_append] at hb
      rcases hb with hb | hb
      · exact h3 b hb
      · simp only [List.mem_cons, List.not_mem_nil, or_false] at hb
        rcases hb with rfl | rfl | rfl | rfl <;> exact byt_b _ _
    · intro i hi
      rw [List.length_append] at hi
      have hi : i < tx.length + 4 := hi
      by_cases hl : i < tx.length
      · have e : (tx ++ [byt v 24, byt v 16, byt v 8, byt v 0]).getD i 0 = tx.getD i 0 := by simp [List.getD_eq_getElem?_getD, List.getElem?_append_left hl]
        rw [e, ← h4 i hl]
        simp [wu, show ¬ i = tx.length by omega, show ¬ i = tx.length + 1 by omega, show ¬ i = tx.length + 2 by omega, show ¬ i = tx.length + 3 by omega]
      · obtain ⟨j, rfl⟩ : ∃ j, i = tx.length + j := ⟨i - tx.length, by omega⟩
        have e : (tx ++ [byt v 24, byt v 16, byt v 8, byt v 0]).getD (tx.length + j) 0 = [byt v 24, byt v 16, byt v 8, byt v 0].getD j 0 := by simp [List.getD_eq_getElem?_getD, List.getElem?_append_right]
        rw [e]
        match j, hi with
        | 0, _ => simp [wu]
        | 1, _ => simp [wu]
        | 2, _ => simp [wu]
        | 3, _ => simp [wu]
        | j + 4, hi => omega
  · rw [if_neg (by omega), if_neg (by omega)]
    exact ⟨_, by trivial, rfl, Fm.pf (by decide), TxM.fr (w := w) ⟨h1, h2, h3, h4⟩ (wu_nk _ _ (by decide)) (wu_row (by decide))⟩
theorem c_mend {d : Nat} {w : eW} {t : eT} {tx : List Int} {n : Int} (h : TxM w tx ∧ okI n) : Cl (d + 1) 169 [rA 67, (0, n)] (enc w t) (fun r S2 => ∃ w2, r = some (0, endV tx n) ∧ S2 = enc w2 t ∧ Fm [] [23, 26] w w2 ∧ TxM w2 (endT tx n)) := by
  obtain ⟨⟨h1, h2, h3, h4⟩, hn⟩ := h
  unfold okI at hn
  refine g_mend ?_
  rw [h1]
  simp (disch := omega) only [w32_id, w64_id]
  unfold endV endT
  refine ⟨fun h5 => ?_, fun h5 => ?_⟩
  · have h5' := of_decide_eq_true h5
    rw [decide_eq_true h5', if_pos h5']
    refine ⟨_, rfl, rfl, (Fm.pf (by decide)).tr (Fm.pf (by decide)), ?_, ?_, ?_, ?_⟩
    · rw [wu_eq, List.length_take]; omega
    · rw [List.length_take]; omega
    · intro b hb; exact h3 b (List.mem_of_mem_take hb)
    · intro i hi
      rw [List.length_take] at hi
      rw [wu_row (by decide), wu_row (by decide), h4 i (by omega)]
      simp only [List.getD_eq_getElem?_getD]
      rw [List.getElem?_take_of_lt (by omega)]
  · have h5' := of_decide_eq_false h5
    rw [decide_eq_false h5', if_neg h5']
    exact ⟨_, rfl, rfl, Fm.pf (by decide), TxM.fr (w := w) ⟨h1, h2, h3, h4⟩ (wu_nk _ _ (by decide)) (wu_row (by decide))⟩

