/-! The class: which pairs may stand where two rules clash. -/

def cfB (m : eW) (a c A i : Nat) : Nat := if i + 2 = A then bts (fun d => ff m a d && ff m c d) (nP m) else if i + 1 = A then bts (fun d => nf m a d && nf m c d) (nP m) else if i = A + 1 then bts (fun d => bf m a d && bf m c d) (nP m) else byU m (cdI (m 68 (m 72 a).toNat)).toNat
def lfB (m : eW) (a c A n : Nat) : Bool := (decide (0 < A) || (nf m a 16 && nf m c 16)) && (decide (A ≠ 1) || (ff m a 16 && ff m c 16)) && (decide (A + 1 < n) || (bf m a 16 && bf m c 16))
theorem and_bts {m : eW} (hp : WFp m) {x y : Int} {f g : Nat → Bool} (hx : 0 ≤ x ∧ x ≤ 131071) (hy : 0 ≤ y ∧ y ≤ 131071) (fx : ∀ p, p < 17 → x.toNat.testBit p = f p) (fy : ∀ p, p < 17 → y.toNat.testBit p = g p) : (iand x y = ((x.toNat &&& y.toNat : Nat) : Int) ∧ x.toNat &&& y.toNat ≤ 131071 ∧ (x.toNat &&& y.toNat).testBit 16 = (f 16 && g 16)) ∧ (x.toNat &&& y.toNat) &&& (2 ^ nP m - 1) = bts (fun d => f d && g d) (nP m) := by
  have hle : x.toNat &&& y.toNat ≤ x.toNat := Nat.and_le_left
  refine ⟨⟨i_and (by omega) hy.1, by omega, by rw [Nat.testBit_and, fx 16 (by decide), fy 16 (by decide)]⟩, ?_⟩
  apply Nat.eq_of_testBit_eq
  intro i
  have hn := hp.n.2
  rw [Nat.testBit_and, Nat.testBit_two_pow_sub_one, bts_tb, Nat.testBit_and]
  by_cases hi : i < nP m
  · rw [fx i (by omega), fy i (by omega), decide_eq_true hi, Bool.and_true, Bool.true_and]
  · rw [decide_eq_false hi, Bool.and_false, Bool.false_and]

theorem g_lf {d : Nat} {Q : Option aV → aS → Prop} {w : eW} {t : eT} {a c n : Int} {m : eW} (h : (0 ≤ w32 a ∧ w32 a < 9) ∧ (0 ≤ w32 c ∧ w32 c < 9) ∧ (0 ≤ w32 a ∧ w32 a < 9) ∧ (0 ≤ w32 c ∧ w32 c < 9) ∧ (0 ≤ w32 a ∧ w32 a < 9) ∧ (0 ≤ w32 c ∧ w32 c < 9) ∧ (Ev (d + 2) 12 Q 63 [rA 61, (0, a), (0, c), (0, n), (0, iand (w 20 (w32 a).toNat) (w 20 (w32 c).toNat)), (0, iand (w 21 (w32 a).toNat) (w 21 (w32 c).toNat)), (0, iand (w 22 (w32 a).toNat) (w 22 (w32 c).toNat)), (9, 0), (9, 0), (9, 0), (9, 0), (9, 0), (9, 0)] [] (enc w t))) : Cl (d + 2) 12 [rA 61, (0, a), (0, c), (0, n)] (enc w t) Q := by
  show Ev (d + 2) 12 Q 0 [rA 61, (0, a), (0, c), (0, n), (9, 0), (9, 0), (9, 0), (9, 0), (9, 0), (9, 0), (9, 0), (9, 0), (9, 0)] [] (enc w t)
  refine e_lda (v := 61) (show am_cd 12 0 = (2, 1, 0, 2, []) by decide +kernel) rfl ?_
  refine e_getr (a := 61) (r := 15) (show am_cd 12 1 = (18, 4, 101, 2, [22]) by decide +kernel) (by decide +kernel) (by decide +kernel) rfl ?_
  refine e_getr (a := 15) (r := 20) (show am_cd 12 4 = (18, 7, 704, 2, [64]) by decide +kernel) (by decide +kernel) (by decide +kernel) rfl ?_
  refine e_ldi (show am_cd 12 7 = (2, 8, 1, 0, []) by decide +kernel) rfl ?_
  refine e_iald (a := 20) (n := 9) (show am_cd 12 8 = (21, 9, 0, 0, []) by decide +kernel) (by decide +kernel) (by decide +kernel) (by decide +kernel) h.1 ?_
  replace h := h.2
  refine e_lda (v := 61) (show am_cd 12 9 = (2, 10, 0, 2, []) by decide +kernel) rfl ?_
  refine e_getr (a := 61) (r := 15) (show am_cd 12 10 = (18, 13, 101, 2, [22]) by decide +kernel) (by decide +kernel) (by decide +kernel) rfl ?_
  refine e_getr (a := 15) (r := 20) (show am_cd 12 13 = (18, 16, 704, 2, [64]) by decide +kernel) (by decide +kernel) (by decide +kernel) rfl ?_
  refine e_ldi (show am_cd 12 16 = (2, 17, 2, 0, []) by decide +kernel) rfl ?_
  refine e_iald (a := 20) (n := 9) (show am_cd 12 17 = (21, 18, 0, 0, []) by decide +kernel) (by decide +kernel) (by decide +kernel) (by decide +kernel) h.1 ?_
  replace h := h.2
  refine e_iand (show am_cd 12 18 = (5, 19, 3, 0, []) by decide +kernel) ?_
  refine e_sti (la2 := [rA 61, (0, a), (0, c), (0, n), (0, iand (w 20 (w32 a).toNat) (w 20 (w32 c).toNat)), (9, 0), (9, 0), (9, 0), (9, 0), (9, 0), (9, 0), (9, 0), (9, 0)]) (show am_cd 12 19 = (3, 21, 4, 0, []) by decide +kernel) rfl ?_
  refine e_lda (v := 61) (show am_cd 12 21 = (2, 22, 0, 2, []) by decide +kernel) rfl ?_
  refine e_getr (a := 61) (r := 15) (show am_cd 12 22 = (18, 25, 101, 2, [22]) by decide +kernel) (by decide +kernel) (by decide +kernel) rfl ?_
  refine e_getr (a := 15) (r := 21) (show am_cd 12 25 = (18, 28, 705, 2, [67]) by decide +kernel) (by decide +kernel) (by decide +kernel) rfl ?_
  refine e_ldi (show am_cd 12 28 = (2, 29, 1, 0, []) by decide +kernel) rfl ?_
  refine e_iald (a := 21) (n := 9) (show am_cd 12 29 = (21, 30, 0, 0, []) by decide +kernel) (by decide +kernel) (by decide +kernel) (by decide +kernel) h.1 ?_
  replace h := h.2
  refine e_lda (v := 61) (show am_cd 12 30 = (2, 31, 0, 2, []) by decide +kernel) rfl ?_
  refine e_getr (a := 61) (r := 15) (show am_cd 12 31 = (18, 34, 101, 2, [22]) by decide +kernel) (by decide +kernel) (by decide +kernel) rfl ?_
  refine e_getr (a := 15) (r := 21) (show am_cd 12 34 = (18, 37, 705, 2, [67]) by decide +kernel) (by decide +kernel) (by decide +kernel) rfl ?_
  refine e_ldi (show am_cd 12 37 = (2, 38, 2, 0, []) by decide +kernel) rfl ?_
  refine e_iald (a := 21) (n := 9) (show am_cd 12 38 = (21, 39, 0, 0, []) by decide +kernel) (by decide +kernel) (by decide +kernel) (by decide +kernel) h.1 ?_
  replace h := h.2
  refine e_iand (show am_cd 12 39 = (5, 40, 3, 0, []) by decide +kernel) ?_
  refine e_sti (la2 := [rA 61, (0, a), (0, c), (0, n), (0, iand (w 20 (w32 a).toNat) (w 20 (w32 c).toNat)), (0, iand (w 21 (w32 a).toNat) (w 21 (w32 c).toNat)), (9, 0), (9, 0), (9, 0), (9, 0), (9, 0), (9, 0), (9, 0)]) (show am_cd 12 40 = (3, 42, 5, 0, []) by decide +kernel) rfl ?_
  refine e_lda (v := 61) (show am_cd 12 42 = (2, 43, 0, 2, []) by decide +kernel) rfl ?_
  refine e_getr (a := 61) (r := 15) (show am_cd 12 43 = (18, 46, 101, 2, [22]) by decide +kernel) (by decide +kernel) (by decide +kernel) rfl ?_
  refine e_getr (a := 15) (r := 22) (show am_cd 12 46 = (18, 49, 706, 2, [70]) by decide +kernel) (by decide +kernel) (by decide +kernel) rfl ?_
  refine e_ldi (show am_cd 12 49 = (2, 50, 1, 0, []) by decide +kernel) rfl ?_
  refine e_iald (a := 22) (n := 9) (show am_cd 12 50 = (21, 51, 0, 0, []) by decide +kernel) (by decide +kernel) (by decide +kernel) (by decide +kernel) h.1 ?_
  replace h := h.2
  refine e_lda (v := 61) (show am_cd 12 51 = (2, 52, 0, 2, []) by decide +kernel) rfl ?_
  refine e_getr (a := 61) (r := 15) (show am_cd 12 52 = (18, 55, 101, 2, [22]) by decide +kernel) (by decide +kernel) (by decide +kernel) rfl ?_
  refine e_getr (a := 15) (r := 22) (show am_cd 12 55 = (18, 58, 706, 2, [70]) by decide +kernel) (by decide +kernel) (by decide +kernel) rfl ?_
  refine e_ldi (show am_cd 12 58 = (2, 59, 2, 0, []) by decide +kernel) rfl ?_
  refine e_iald (a := 22) (n := 9) (show am_cd 12 59 = (21, 60, 0, 0, []) by decide +kernel) (by decide +kernel) (by decide +kernel) (by decide +kernel) h.1 ?_
  replace h := h.2
  refine e_iand (show am_cd 12 60 = (5, 61, 3, 0, []) by decide +kernel) ?_
  refine e_sti (la2 := [rA 61, (0, a), (0, c), (0, n), (0, iand (w 20 (w32 a).toNat) (w 20 (w32 c).toNat)), (0, iand (w 21 (w32 a).toNat) (w 21 (w32 c).toNat)), (0, iand (w 22 (w32 a).toNat) (w 22 (w32 c).toNat)), (9, 0), (9, 0), (9, 0), (9, 0), (9, 0), (9, 0)]) (show am_cd 12 61 = (3, 63, 6, 0, []) by decide +kernel) rfl ?_
  exact h

theorem g_lf0 {d : Nat} {Q : Option aV → aS → Prop} {w : eW} {t : eT} {a c n f1 f2 f3 : Int} {m : eW} (h : ((0 < w32 (w 61 4) → Ev (d + 2) 12 Q 87 [rA 61, (0, a), (0, c), (0, n), (0, f1), (0, f2), (0, f3), (0, 1), (9, 0), (9, 0), (9, 0), (9, 0), (9, 0)] [] (enc w t)) ∧ (¬ (0 < w32 (w 61 4)) → ((w32 (iand (ishr f2 16) 1) = 0 → Ev (d + 2) 12 Q 87 [rA 61, (0, a), (0, c), (0, n), (0, f1), (0, f2), (0, f3), (0, 0), (9, 0), (9, 0), (9, 0), (9, 0), (9, 0)] [] (enc w t)) ∧ (¬ (w32 (iand (ishr f2 16) 1) = 0) → Ev (d + 2) 12 Q 87 [rA 61, (0, a), (0, c), (0, n), (0, f1), (0, f2), (0, f3), (0, 1), (9, 0), (9, 0), (9, 0), (9, 0), (9, 0)] [] (enc w t)))))) : Ev (d + 2) 12 Q 63 [rA 61, (0, a), (0, c), (0, n), (0, f1), (0, f2), (0, f3), (9, 0), (9, 0), (9, 0), (9, 0), (9, 0), (9, 0)] [] (enc w t) := by
  refine e_lda (v := 61) (show am_cd 12 63 = (2, 64, 0, 2, []) by decide +kernel) rfl ?_
  refine e_getf (a := 61) (tg := 0) (show am_cd 12 64 = (18, 67, 104, 0, [36]) by decide +kernel) (by decide +kernel) (by decide +kernel) rfl ?_
  refine e_if4 (show am_cd 12 67 = (10, 70, 80, 4, []) by decide +kernel) (fun hc => ?_) (fun hc => ?_)
  · replace h := h.1 hc
    refine e_ic (show am_cd 12 80 = (0, 81, 0, 1, []) by decide +kernel) ?_
    refine e_go (show am_cd 12 81 = (12, 85, 0, 0, []) by decide +kernel) ?_
    refine e_sti (la2 := [rA 61, (0, a), (0, c), (0, n), (0, f1), (0, f2), (0, f3), (0, 1), (9, 0), (9, 0), (9, 0), (9, 0), (9, 0)]) (show am_cd 12 85 = (3, 87, 7, 0, []) by decide +kernel) rfl ?_
    exact h
  · replace h := h.2 hc
    refine e_ldi (show am_cd 12 70 = (2, 72, 5, 0, []) by decide +kernel) rfl ?_
    refine e_ic (show am_cd 12 72 = (0, 74, 1, 16, []) by decide +kernel) ?_
    refine e_ishr (show am_cd 12 74 = (5, 75, 7, 0, []) by decide +kernel) ?_
    refine e_ic (show am_cd 12 75 = (0, 76, 0, 1, []) by decide +kernel) ?_
    refine e_iand (show am_cd 12 76 = (5, 77, 3, 0, []) by decide +kernel) ?_
    refine e_if0 (show am_cd 12 77 = (10, 80, 84, 0, []) by decide +kernel) (fun hc => ?_) (fun hc => ?_)
    · replace h := h.1 hc
      refine e_ic (show am_cd 12 84 = (0, 85, 0, 0, []) by decide +kernel) ?_
      refine e_sti (la2 := [rA 61, (0, a), (0, c), (0, n), (0, f1), (0, f2), (0, f3), (0, 0), (9, 0), (9, 0), (9, 0), (9, 0), (9, 0)]) (show am_cd 12 85 = (3, 87, 7, 0, []) by decide +kernel) rfl ?_
      exact h
    · replace h := h.2 hc
      refine e_ic (show am_cd 12 80 = (0, 81, 0, 1, []) by decide +kernel) ?_
      refine e_go (show am_cd 12 81 = (12, 85, 0, 0, []) by decide +kernel) ?_
      refine e_sti (la2 := [rA 61, (0, a), (0, c), (0, n), (0, f1), (0, f2), (0, f3), (0, 1), (9, 0), (9, 0), (9, 0), (9, 0), (9, 0)]) (show am_cd 12 85 = (3, 87, 7, 0, []) by decide +kernel) rfl ?_
      exact h

theorem g_lf1 {d : Nat} {Q : Option aV → aS → Prop} {w : eW} {t : eT} {a c n f1 f2 f3 e1 : Int} {m : eW} (h : ((¬ w32 (w 61 4) = w32 1 → Ev (d + 2) 12 Q 112 [rA 61, (0, a), (0, c), (0, n), (0, f1), (0, f2), (0, f3), (0, e1), (0, 1), (9, 0), (9, 0), (9, 0), (9, 0)] [] (enc w t)) ∧ (¬ (¬ w32 (w 61 4) = w32 1) → ((w32 (iand (ishr f1 16) 1) = 0 → Ev (d + 2) 12 Q 112 [rA 61, (0, a), (0, c), (0, n), (0, f1), (0, f2), (0, f3), (0, e1), (0, 0), (9, 0), (9, 0), (9, 0), (9, 0)] [] (enc w t)) ∧ (¬ (w32 (iand (ishr f1 16) 1) = 0) → Ev (d + 2) 12 Q 112 [rA 61, (0, a), (0, c), (0, n), (0, f1), (0, f2), (0, f3), (0, e1), (0, 1), (9, 0), (9, 0), (9, 0), (9, 0)] [] (enc w t)))))) : Ev (d + 2) 12 Q 87 [rA 61, (0, a), (0, c), (0, n), (0, f1), (0, f2), (0, f3), (0, e1), (9, 0), (9, 0), (9, 0), (9, 0), (9, 0)] [] (enc w t) := by
  refine e_lda (v := 61) (show am_cd 12 87 = (2, 88, 0, 2, []) by decide +kernel) rfl ?_
  refine e_getf (a := 61) (tg := 0) (show am_cd 12 88 = (18, 91, 104, 0, [36]) by decide +kernel) (by decide +kernel) (by decide +kernel) rfl ?_
  refine e_ic (show am_cd 12 91 = (0, 92, 0, 1, []) by decide +kernel) ?_
  refine e_cmp1 (show am_cd 12 92 = (11, 95, 105, 1, []) by decide +kernel) (fun hc => ?_) (fun hc => ?_)
  · replace h := h.1 hc
    refine e_ic (show am_cd 12 105 = (0, 106, 0, 1, []) by decide +kernel) ?_
    refine e_go (show am_cd 12 106 = (12, 110, 0, 0, []) by decide +kernel) ?_
    refine e_sti (la2 := [rA 61, (0, a), (0, c), (0, n), (0, f1), (0, f2), (0, f3), (0, e1), (0, 1), (9, 0), (9, 0), (9, 0), (9, 0)]) (show am_cd 12 110 = (3, 112, 8, 0, []) by decide +kernel) rfl ?_
    exact h
  · replace h := h.2 hc
    refine e_ldi (show am_cd 12 95 = (2, 97, 4, 0, []) by decide +kernel) rfl ?_
    refine e_ic (show am_cd 12 97 = (0, 99, 1, 16, []) by decide +kernel) ?_
    refine e_ishr (show am_cd 12 99 = (5, 100, 7, 0, []) by decide +kernel) ?_
    refine e_ic (show am_cd 12 100 = (0, 101, 0, 1, []) by decide +kernel) ?_
    refine e_iand (show am_cd 12 101 = (5, 102, 3, 0, []) by decide +kernel) ?_
    refine e_if0 (show am_cd 12 102 = (10, 105, 109, 0, []) by decide +kernel) (fun hc => ?_) (fun hc => ?_)
    · replace h := h.1 hc
      refine e_ic (show am_cd 12 109 = (0, 110, 0, 0, []) by decide +kernel) ?_
      refine e_sti (la2 := [rA 61, (0, a), (0, c), (0, n), (0, f1), (0, f2), (0, f3), (0, e1), (0, 0), (9, 0), (9, 0), (9, 0), (9, 0)]) (show am_cd 12 110 = (3, 112, 8, 0, []) by decide +kernel) rfl ?_
      exact h
    · replace h := h.2 hc
      refine e_ic (show am_cd 12 105 = (0, 106, 0, 1, []) by decide +kernel) ?_
      refine e_go (show am_cd 12 106 = (12, 110, 0, 0, []) by decide +kernel) ?_
      refine e_sti (la2 := [rA 61, (0, a), (0, c), (0, n), (0, f1), (0, f2), (0, f3), (0, e1), (0, 1), (9, 0), (9, 0), (9, 0), (9, 0)]) (show am_cd 12 110 = (3, 112, 8, 0, []) by decide +kernel) rfl ?_
      exact h

theorem g_lf2 {d : Nat} {Q : Option aV → aS → Prop} {w : eW} {t : eT} {a c n f1 f2 f3 e1 e2 : Int} {m : eW} (h : ((w32 ((w 61 4) + 1) < w32 n → Ev (d + 2) 12 Q 139 [rA 61, (0, a), (0, c), (0, n), (0, f1), (0, f2), (0, f3), (0, e1), (0, e2), (0, 1), (9, 0), (9, 0), (9, 0)] [] (enc w t)) ∧ (¬ (w32 ((w 61 4) + 1) < w32 n) → ((w32 (iand (ishr f3 16) 1) = 0 → Ev (d + 2) 12 Q 139 [rA 61, (0, a), (0, c), (0, n), (0, f1), (0, f2), (0, f3), (0, e1), (0, e2), (0, 0), (9, 0), (9, 0), (9, 0)] [] (enc w t)) ∧ (¬ (w32 (iand (ishr f3 16) 1) = 0) → Ev (d + 2) 12 Q 139 [rA 61, (0, a), (0, c), (0, n), (0, f1), (0, f2), (0, f3), (0, e1), (0, e2), (0, 1), (9, 0), (9, 0), (9, 0)] [] (enc w t)))))) : Ev (d + 2) 12 Q 112 [rA 61, (0, a), (0, c), (0, n), (0, f1), (0, f2), (0, f3), (0, e1), (0, e2), (9, 0), (9, 0), (9, 0), (9, 0)] [] (enc w t) := by
  refine e_lda (v := 61) (show am_cd 12 112 = (2, 113, 0, 2, []) by decide +kernel) rfl ?_
  refine e_getf (a := 61) (tg := 0) (show am_cd 12 113 = (18, 116, 104, 0, [36]) by decide +kernel) (by decide +kernel) (by decide +kernel) rfl ?_
  refine e_ic (show am_cd 12 116 = (0, 117, 0, 1, []) by decide +kernel) ?_
  refine e_iadd (show am_cd 12 117 = (5, 118, 0, 0, []) by decide +kernel) ?_
  refine e_ldi (show am_cd 12 118 = (2, 119, 3, 0, []) by decide +kernel) rfl ?_
  refine e_cmp2 (show am_cd 12 119 = (11, 122, 132, 2, []) by decide +kernel) (fun hc => ?_) (fun hc => ?_)
  · replace h := h.1 hc
    refine e_ic (show am_cd 12 132 = (0, 133, 0, 1, []) by decide +kernel) ?_
    refine e_go (show am_cd 12 133 = (12, 137, 0, 0, []) by decide +kernel) ?_
    refine e_sti (la2 := [rA 61, (0, a), (0, c), (0, n), (0, f1), (0, f2), (0, f3), (0, e1), (0, e2), (0, 1), (9, 0), (9, 0), (9, 0)]) (show am_cd 12 137 = (3, 139, 9, 0, []) by decide +kernel) rfl ?_
    exact h
  · replace h := h.2 hc
    refine e_ldi (show am_cd 12 122 = (2, 124, 6, 0, []) by decide +kernel) rfl ?_
    refine e_ic (show am_cd 12 124 = (0, 126, 1, 16, []) by decide +kernel) ?_
    refine e_ishr (show am_cd 12 126 = (5, 127, 7, 0, []) by decide +kernel) ?_
    refine e_ic (show am_cd 12 127 = (0, 128, 0, 1, []) by decide +kernel) ?_
    refine e_iand (show am_cd 12 128 = (5, 129, 3, 0, []) by decide +kernel) ?_
    refine e_if0 (show am_cd 12 129 = (10, 132, 136, 0, []) by decide +kernel) (fun hc => ?_) (fun hc => ?_)
    · replace h := h.1 hc
      refine e_ic (show am_cd 12 136 = (0, 137, 0, 0, []) by decide +kernel) ?_
      refine e_sti (la2 := [rA 61, (0, a), (0, c), (0, n), (0, f1), (0, f2), (0, f3), (0, e1), (0, e2), (0, 0), (9, 0), (9, 0), (9, 0)]) (show am_cd 12 137 = (3, 139, 9, 0, []) by decide +kernel) rfl ?_
      exact h
    · replace h := h.2 hc
      refine e_ic (show am_cd 12 132 = (0, 133, 0, 1, []) by decide +kernel) ?_
      refine e_go (show am_cd 12 133 = (12, 137, 0, 0, []) by decide +kernel) ?_
      refine e_sti (la2 := [rA 61, (0, a), (0, c), (0, n), (0, f1), (0, f2), (0, f3), (0, e1), (0, e2), (0, 1), (9, 0), (9, 0), (9, 0)]) (show am_cd 12 137 = (3, 139, 9, 0, []) by decide +kernel) rfl ?_
      exact h

theorem g_lf3 {d : Nat} {Q : Option aV → aS → Prop} {w : eW} {t : eT} {a c n f1 f2 f3 e1 e2 e3 : Int} {m : eW} (h : ((w32 e1 = 0 → Q (some (0, 0)) (enc w t)) ∧ (¬ (w32 e1 = 0) → ((w32 e2 = 0 → Q (some (0, 0)) (enc w t)) ∧ (¬ (w32 e2 = 0) → ((¬ w32 e3 = 0 → (AC w m ∧ WFp m) ∧ (Ev (d + 2) 12 Q 168 [rA 61, (0, a), (0, c), (0, n), (0, f1), (0, f2), (0, f3), (0, e1), (0, e2), (0, e3), (0, ((2 ^ nP m - 1 : Nat) : Int)), (0, 0), (9, 0)] [] (enc w t))) ∧ (¬ (¬ w32 e3 = 0) → Q (some (0, 0)) (enc w t)))))))) : Ev (d + 2) 12 Q 139 [rA 61, (0, a), (0, c), (0, n), (0, f1), (0, f2), (0, f3), (0, e1), (0, e2), (0, e3), (9, 0), (9, 0), (9, 0)] [] (enc w t) := by
  refine e_ldi (show am_cd 12 139 = (2, 141, 7, 0, []) by decide +kernel) rfl ?_
  refine e_if0 (show am_cd 12 141 = (10, 144, 154, 0, []) by decide +kernel) (fun hc => ?_) (fun hc => ?_)
  · replace h := h.1 hc
    refine e_ic (show am_cd 12 154 = (0, 155, 0, 0, []) by decide +kernel) ?_
    exact e_retz (show am_cd 12 155 = (36, 156, 0, 0, []) by decide +kernel) (by decide +kernel) (Or.inl rfl) h
  · replace h := h.2 hc
    refine e_ldi (show am_cd 12 144 = (2, 146, 8, 0, []) by decide +kernel) rfl ?_
    refine e_if0 (show am_cd 12 146 = (10, 149, 154, 0, []) by decide +kernel) (fun hc => ?_) (fun hc => ?_)
    · replace h := h.1 hc
      refine e_ic (show am_cd 12 154 = (0, 155, 0, 0, []) by decide +kernel) ?_
      exact e_retz (show am_cd 12 155 = (36, 156, 0, 0, []) by decide +kernel) (by decide +kernel) (Or.inl rfl) h
    · replace h := h.2 hc
      refine e_ldi (show am_cd 12 149 = (2, 151, 9, 0, []) by decide +kernel) rfl ?_
      refine e_if1 (show am_cd 12 151 = (10, 154, 156, 1, []) by decide +kernel) (fun hc => ?_) (fun hc => ?_)
      · replace h := h.1 hc
        refine e_lda (v := 61) (show am_cd 12 156 = (2, 157, 0, 2, []) by decide +kernel) rfl ?_
        refine e_getr (a := 61) (r := 8) (show am_cd 12 157 = (18, 160, 100, 2, [18]) by decide +kernel) (by decide +kernel) (by decide +kernel) rfl ?_
        refine e_cV (z := 0) (a := 8) (as := []) (rest := []) (show am_cd 12 160 = (40, 163, 2, 0, [73]) by decide +kernel) (by decide +kernel) rfl rfl (Nat.le_of_ble_eq_true rfl) rfl ?_
        refine Cl.mono (Cl.up (c_allP (m := m) (d := d) h.1) (by omega)) ?_
        rintro _ _ ⟨rfl, rfl⟩
        refine ⟨fun _ h9 => (by cases h9), ?_⟩
        replace h := h.2
        show Ev _ 12 _ 163 [rA 61, (0, a), (0, c), (0, n), (0, f1), (0, f2), (0, f3), (0, e1), (0, e2), (0, e3), (9, 0), (9, 0), (9, 0)] [(0, ((2 ^ nP m - 1 : Nat) : Int))] _
        refine e_sti (la2 := [rA 61, (0, a), (0, c), (0, n), (0, f1), (0, f2), (0, f3), (0, e1), (0, e2), (0, e3), (0, ((2 ^ nP m - 1 : Nat) : Int)), (9, 0), (9, 0)]) (show am_cd 12 163 = (3, 165, 10, 0, []) by decide +kernel) rfl ?_
        refine e_ic (show am_cd 12 165 = (0, 166, 0, 0, []) by decide +kernel) ?_
        refine e_sti (la2 := [rA 61, (0, a), (0, c), (0, n), (0, f1), (0, f2), (0, f3), (0, e1), (0, e2), (0, e3), (0, ((2 ^ nP m - 1 : Nat) : Int)), (0, 0), (9, 0)]) (show am_cd 12 166 = (3, 168, 11, 0, []) by decide +kernel) rfl ?_
        exact h
      · replace h := h.2 hc
        refine e_ic (show am_cd 12 154 = (0, 155, 0, 0, []) by decide +kernel) ?_
        exact e_retz (show am_cd 12 155 = (36, 156, 0, 0, []) by decide +kernel) (by decide +kernel) (Or.inl rfl) h

theorem g_lf4 {d : Nat} {Q : Option aV → aS → Prop} {w : eW} {t : eT} {a c n f1 f2 f3 e1 e2 e3 al i : Int} {m : eW} {Jn : aV} (h : ((w32 n ≤ w32 i → Q (some (0, 1)) (enc w t)) ∧ (¬ (w32 n ≤ w32 i) → (0 ≤ w32 a ∧ w32 a < 9) ∧ (0 ≤ w32 (w 16 (w32 a).toNat) ∧ w32 (w 16 (w32 a).toNat) < 16) ∧ (0 ≤ w32 (w 9 (w32 (w 16 (w32 a).toNat)).toNat) ∧ w32 (w 9 (w32 (w 16 (w32 a).toNat)).toNat) < 28) ∧ ((¬ w32 i = w32 ((w 61 4) - 2) → ((¬ w32 i = w32 ((w 61 4) - 1) → ((¬ w32 i = w32 ((w 61 4) + 1) → Ev (d + 2) 12 Q 261 [rA 61, (0, a), (0, c), (0, n), (0, f1), (0, f2), (0, f3), (0, e1), (0, e2), (0, e3), (0, al), (0, i), (0, w 11 (w32 (w 9 (w32 (w 16 (w32 a).toNat)).toNat)).toNat)] [] (enc w t)) ∧ (¬ (¬ w32 i = w32 ((w 61 4) + 1)) → Ev (d + 2) 12 Q 261 [rA 61, (0, a), (0, c), (0, n), (0, f1), (0, f2), (0, f3), (0, e1), (0, e2), (0, e3), (0, al), (0, i), (0, iand f3 al)] [] (enc w t)))) ∧ (¬ (¬ w32 i = w32 ((w 61 4) - 1)) → Ev (d + 2) 12 Q 261 [rA 61, (0, a), (0, c), (0, n), (0, f1), (0, f2), (0, f3), (0, e1), (0, e2), (0, e3), (0, al), (0, i), (0, iand f2 al)] [] (enc w t)))) ∧ (¬ (¬ w32 i = w32 ((w 61 4) - 2)) → Ev (d + 2) 12 Q 261 [rA 61, (0, a), (0, c), (0, n), (0, f1), (0, f2), (0, f3), (0, e1), (0, e2), (0, e3), (0, al), (0, i), (0, iand f1 al)] [] (enc w t)))))) : Ev (d + 2) 12 Q 168 [rA 61, (0, a), (0, c), (0, n), (0, f1), (0, f2), (0, f3), (0, e1), (0, e2), (0, e3), (0, al), (0, i), Jn] [] (enc w t) := by
  refine e_ldi (show am_cd 12 168 = (2, 170, 11, 0, []) by decide +kernel) rfl ?_
  refine e_ldi (show am_cd 12 170 = (2, 171, 3, 0, []) by decide +kernel) rfl ?_
  refine e_cmp3 (show am_cd 12 171 = (11, 174, 276, 3, []) by decide +kernel) (fun hc => ?_) (fun hc => ?_)
  · replace h := h.1 hc
    refine e_ic (show am_cd 12 276 = (0, 277, 0, 1, []) by decide +kernel) ?_
    exact e_retz (show am_cd 12 277 = (36, 278, 0, 0, []) by decide +kernel) (by decide +kernel) (Or.inr rfl) h
  · replace h := h.2 hc
    refine e_lda (v := 61) (show am_cd 12 174 = (2, 175, 0, 2, []) by decide +kernel) rfl ?_
    refine e_getr (a := 61) (r := 8) (show am_cd 12 175 = (18, 178, 100, 2, [18]) by decide +kernel) (by decide +kernel) (by decide +kernel) rfl ?_
    refine e_getr (a := 8) (r := 11) (show am_cd 12 178 = (18, 181, 2, 2, [77]) by decide +kernel) (by decide +kernel) (by decide +kernel) rfl ?_
    refine e_lda (v := 61) (show am_cd 12 181 = (2, 182, 0, 2, []) by decide +kernel) rfl ?_
    refine e_getr (a := 61) (r := 8) (show am_cd 12 182 = (18, 185, 100, 2, [18]) by decide +kernel) (by decide +kernel) (by decide +kernel) rfl ?_
    refine e_getr (a := 8) (r := 9) (show am_cd 12 185 = (18, 188, 0, 2, [53]) by decide +kernel) (by decide +kernel) (by decide +kernel) rfl ?_
    refine e_lda (v := 61) (show am_cd 12 188 = (2, 189, 0, 2, []) by decide +kernel) rfl ?_
    refine e_getr (a := 61) (r := 15) (show am_cd 12 189 = (18, 192, 101, 2, [22]) by decide +kernel) (by decide +kernel) (by decide +kernel) rfl ?_
    refine e_getr (a := 15) (r := 16) (show am_cd 12 192 = (18, 195, 700, 2, [48]) by decide +kernel) (by decide +kernel) (by decide +kernel) rfl ?_
    refine e_ldi (show am_cd 12 195 = (2, 196, 1, 0, []) by decide +kernel) rfl ?_
    refine e_iald (a := 16) (n := 9) (show am_cd 12 196 = (21, 197, 0, 0, []) by decide +kernel) (by decide +kernel) (by decide +kernel) (by decide +kernel) h.1 ?_
    replace h := h.2
    refine e_iald (a := 9) (n := 16) (show am_cd 12 197 = (21, 198, 0, 0, []) by decide +kernel) (by decide +kernel) (by decide +kernel) (by decide +kernel) h.1 ?_
    replace h := h.2
    refine e_iald (a := 11) (n := 28) (show am_cd 12 198 = (21, 199, 0, 0, []) by decide +kernel) (by decide +kernel) (by decide +kernel) (by decide +kernel) h.1 ?_
    replace h := h.2
    refine e_sti (la2 := [rA 61, (0, a), (0, c), (0, n), (0, f1), (0, f2), (0, f3), (0, e1), (0, e2), (0, e3), (0, al), (0, i), (0, w 11 (w32 (w 9 (w32 (w 16 (w32 a).toNat)).toNat)).toNat)]) (show am_cd 12 199 = (3, 201, 12, 0, []) by decide +kernel) rfl ?_
    refine e_ldi (show am_cd 12 201 = (2, 203, 11, 0, []) by decide +kernel) rfl ?_
    refine e_lda (v := 61) (show am_cd 12 203 = (2, 204, 0, 2, []) by decide +kernel) rfl ?_
    refine e_getf (a := 61) (tg := 0) (show am_cd 12 204 = (18, 207, 104, 0, [36]) by decide +kernel) (by decide +kernel) (by decide +kernel) rfl ?_
    refine e_ic (show am_cd 12 207 = (0, 208, 0, 2, []) by decide +kernel) ?_
    refine e_isub (show am_cd 12 208 = (5, 209, 1, 0, []) by decide +kernel) ?_
    refine e_cmp1 (show am_cd 12 209 = (11, 212, 222, 1, []) by decide +kernel) (fun hc => ?_) (fun hc => ?_)
    · replace h := h.1 hc
      refine e_ldi (show am_cd 12 222 = (2, 224, 11, 0, []) by decide +kernel) rfl ?_
      refine e_lda (v := 61) (show am_cd 12 224 = (2, 225, 0, 2, []) by decide +kernel) rfl ?_
      refine e_getf (a := 61) (tg := 0) (show am_cd 12 225 = (18, 228, 104, 0, [36]) by decide +kernel) (by decide +kernel) (by decide +kernel) rfl ?_
      refine e_ic (show am_cd 12 228 = (0, 229, 0, 1, []) by decide +kernel) ?_
      refine e_isub (show am_cd 12 229 = (5, 230, 1, 0, []) by decide +kernel) ?_
      refine e_cmp1 (show am_cd 12 230 = (11, 233, 243, 1, []) by decide +kernel) (fun hc => ?_) (fun hc => ?_)
      · replace h := h.1 hc
        refine e_ldi (show am_cd 12 243 = (2, 245, 11, 0, []) by decide +kernel) rfl ?_
        refine e_lda (v := 61) (show am_cd 12 245 = (2, 246, 0, 2, []) by decide +kernel) rfl ?_
        refine e_getf (a := 61) (tg := 0) (show am_cd 12 246 = (18, 249, 104, 0, [36]) by decide +kernel) (by decide +kernel) (by decide +kernel) rfl ?_
        refine e_ic (show am_cd 12 249 = (0, 250, 0, 1, []) by decide +kernel) ?_
        refine e_iadd (show am_cd 12 250 = (5, 251, 0, 0, []) by decide +kernel) ?_
        refine e_cmp1 (show am_cd 12 251 = (11, 254, 261, 1, []) by decide +kernel) (fun hc => ?_) (fun hc => ?_)
        · replace h := h.1 hc
          exact h
        · replace h := h.2 hc
          refine e_ldi (show am_cd 12 254 = (2, 256, 6, 0, []) by decide +kernel) rfl ?_
          refine e_ldi (show am_cd 12 256 = (2, 258, 10, 0, []) by decide +kernel) rfl ?_
          refine e_iand (show am_cd 12 258 = (5, 259, 3, 0, []) by decide +kernel) ?_
          refine e_sti (la2 := [rA 61, (0, a), (0, c), (0, n), (0, f1), (0, f2), (0, f3), (0, e1), (0, e2), (0, e3), (0, al), (0, i), (0, iand f3 al)]) (show am_cd 12 259 = (3, 261, 12, 0, []) by decide +kernel) rfl ?_
          exact h
      · replace h := h.2 hc
        refine e_ldi (show am_cd 12 233 = (2, 235, 5, 0, []) by decide +kernel) rfl ?_
        refine e_ldi (show am_cd 12 235 = (2, 237, 10, 0, []) by decide +kernel) rfl ?_
        refine e_iand (show am_cd 12 237 = (5, 238, 3, 0, []) by decide +kernel) ?_
        refine e_sti (la2 := [rA 61, (0, a), (0, c), (0, n), (0, f1), (0, f2), (0, f3), (0, e1), (0, e2), (0, e3), (0, al), (0, i), (0, iand f2 al)]) (show am_cd 12 238 = (3, 240, 12, 0, []) by decide +kernel) rfl ?_
        refine e_go (show am_cd 12 240 = (12, 261, 0, 0, []) by decide +kernel) ?_
        exact h
    · replace h := h.2 hc
      refine e_ldi (show am_cd 12 212 = (2, 214, 4, 0, []) by decide +kernel) rfl ?_
      refine e_ldi (show am_cd 12 214 = (2, 216, 10, 0, []) by decide +kernel) rfl ?_
      refine e_iand (show am_cd 12 216 = (5, 217, 3, 0, []) by decide +kernel) ?_
      refine e_sti (la2 := [rA 61, (0, a), (0, c), (0, n), (0, f1), (0, f2), (0, f3), (0, e1), (0, e2), (0, e3), (0, al), (0, i), (0, iand f1 al)]) (show am_cd 12 217 = (3, 219, 12, 0, []) by decide +kernel) rfl ?_
      refine e_go (show am_cd 12 219 = (12, 261, 0, 0, []) by decide +kernel) ?_
      exact h

theorem g_lf5 {d : Nat} {Q : Option aV → aS → Prop} {w : eW} {t : eT} {a c n f1 f2 f3 e1 e2 e3 al i y : Int} {m : eW} (h : (0 ≤ w32 i ∧ w32 i < 4) ∧ (Ev (d + 2) 12 Q 168 [rA 61, (0, a), (0, c), (0, n), (0, f1), (0, f2), (0, f3), (0, e1), (0, e2), (0, e3), (0, al), (0, i + 1), (0, y)] [] (enc (wu w 62 (w32 i).toNat y) t))) : Ev (d + 2) 12 Q 261 [rA 61, (0, a), (0, c), (0, n), (0, f1), (0, f2), (0, f3), (0, e1), (0, e2), (0, e3), (0, al), (0, i), (0, y)] [] (enc w t) := by
  refine e_lda (v := 61) (show am_cd 12 261 = (2, 262, 0, 2, []) by decide +kernel) rfl ?_
  refine e_getr (a := 61) (r := 62) (show am_cd 12 262 = (18, 265, 102, 2, [9]) by decide +kernel) (by decide +kernel) (by decide +kernel) rfl ?_
  refine e_ldi (show am_cd 12 265 = (2, 267, 11, 0, []) by decide +kernel) rfl ?_
  refine e_ldi (show am_cd 12 267 = (2, 269, 12, 0, []) by decide +kernel) rfl ?_
  refine e_iast (a := 62) (n := 4) (show am_cd 12 269 = (24, 270, 0, 0, []) by decide +kernel) (by decide +kernel) (by decide +kernel) (by decide +kernel) h.1 ?_
  replace h := h.2
  refine e_inc (la2 := [rA 61, (0, a), (0, c), (0, n), (0, f1), (0, f2), (0, f3), (0, e1), (0, e2), (0, e3), (0, al), (0, i + 1), (0, y)]) (show am_cd 12 270 = (4, 273, 11, 1, []) by decide +kernel) rfl rfl ?_
  refine e_go (show am_cd 12 273 = (12, 168, 0, 0, []) by decide +kernel) ?_
  exact h

