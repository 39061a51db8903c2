/-! The class: questions to the alphabet. -/
def nbN (m : eW) (x y : Int) : Nat := fsN (fun p => decide (cdI (m 68 p) = x) && decide (cdI (m 69 p) = y)) (nP m) 0
def nbI (m : eW) (x y : Int) : Int := if nbN m x y = nP m then -1 else (nbN m x y : Int)
def snI (m : eW) (c : Int) : Int := if soN m c = nS m then 0 else 2 * m 71 (soN m c)
def wsB (m : eW) (a b : Int) : Nat := bts (fun k => a.toNat.testBit (cdI (m 68 k)).toNat && b.toNat.testBit (cdI (m 69 k)).toNat) (nP m)
theorem fsN_congr2 {P Q : Nat → Bool} : ∀ (k i : Nat), (∀ p, i ≤ p → p < i + k → P p = Q p) → fsN P k i = fsN Q k i := by
  intro k
  induction k with
  | zero => intro i _; rfl
  | succ k ih =>
    intro i h
    unfold fsN
    rw [h i (by omega) (by omega), ih (i + 1) (fun p h1 h2 => h p (by omega) (by omega))]
theorem fsN_congr {P Q : Nat → Bool} {k : Nat} (h : ∀ p, p < k → P p = Q p) : fsN P k 0 = fsN Q k 0 := fsN_congr2 k 0 (fun p _ h2 => h p (by omega))
theorem nbN_po {m : eW} {u l : Int} (h : WFp m) (hu : 0 ≤ u ∧ u ≤ 27) (hl : 0 ≤ l ∧ l ≤ 27) : nbN m (cdI u) (cdI l) = poN m u l := by
  unfold nbN poN
  refine fsN_congr (fun p hp => ?_)
  have hb := h.2.1 p (by omega)
  rw [Bool.eq_iff_iff]
  simp only [Bool.and_eq_true, decide_eq_true_eq]
  rw [cdI_i hb.1 hu, cdI_i hb.2.1 hl]
theorem nbI_po {m : eW} {u l : Int} (h : WFp m) (hu : 0 ≤ u ∧ u ≤ 27) (hl : 0 ≤ l ∧ l ≤ 27) : nbI m (cdI u) (cdI l) = poI m u l := by
  unfold nbI poI
  rw [nbN_po h hu hl]
/-- sets of signs: by codes and by signs -/
def CB (us a : Int) : Prop := ∀ s : Int, 0 ≤ s → s ≤ 27 → us.toNat.testBit (cdI s).toNat = a.toNat.testBit s.toNat
theorem wsB_po {m : eW} {us ls a b : Int} (h : WFp m) (hu : CB us a) (hl : CB ls b) : wsB m us ls = poB m a b := by
  unfold wsB poB
  refine bts_congr (fun p hp => ?_)
  have hb := h.2.1 p hp
  rw [hu _ hb.1.1 hb.1.2, hl _ hb.2.1.1 hb.2.1.2]
theorem CB_any : CB 268435455 268435455 := by
  intro s h0 h27
  have h1 := cdI_b ⟨h0, h27⟩
  have e : (268435455 : Int).toNat = 2 ^ 28 - 1 := by decide
  rw [e, Nat.testBit_two_pow_sub_one, Nat.testBit_two_pow_sub_one, decide_eq_true (by omega), decide_eq_true (by omega)]
theorem CB_set {b : Int} (hb : 0 ≤ b ∧ b < 2 ^ 27) : CB (2 * b) b := by
  intro s h0 h27
  have e : (2 * b).toNat = 2 * b.toNat := by omega
  unfold cdI
  by_cases h : s = 27
  · rw [if_pos h, h, e]
    have h1 : b.toNat.testBit (27 : Int).toNat = false := Nat.testBit_lt_two_pow (by show b.toNat < 2 ^ 27; omega)
    rw [h1, show (0 : Int).toNat = 0 from rfl, Nat.testBit_zero]
    simp
  · rw [if_neg h, e, show (s + 1).toNat = s.toNat + 1 by omega, tb_dbl]
theorem CB_one {s : Int} (hs : 0 ≤ s ∧ s ≤ 27) : CB (((2 ^ (cdI s).toNat : Nat) : Int)) (((2 ^ s.toNat : Nat) : Int)) := by
  intro u h0 h27
  have h1 := cdI_b hs
  have h2 := cdI_b ⟨h0, h27⟩
  have h3 := cdI_i hs ⟨h0, h27⟩
  rw [Int.toNat_natCast, Int.toNat_natCast, Nat.testBit_two_pow, Nat.testBit_two_pow, decide_eq_decide]
  omega


theorem g_nb {d : Nat} {Q : Option aV → aS → Prop} {w : eW} {t : eT} {x y : Int} (h : Ev (d) 4 Q 2 [rA 8, (0, x), (0, y), (0, 0)] [] (enc w t)) : Cl (d) 4 [rA 8, (0, x), (0, y)] (enc w t) Q := by
  show Ev (d) 4 Q 0 [rA 8, (0, x), (0, y), (9, 0)] [] (enc w t)
  refine e_ic (show am_cd 4 0 = (0, 1, 0, 0, []) by decide +kernel) ?_
  refine e_sti (la2 := [rA 8, (0, x), (0, y), (0, 0)]) (show am_cd 4 1 = (3, 2, 3, 0, []) by decide +kernel) rfl ?_
  exact h

theorem g_nb0 {d : Nat} {Q : Option aV → aS → Prop} {w : eW} {t : eT} {x y p : Int} (h : ((w32 (w 8 6) ≤ w32 p → Q (some (0, (-1))) (enc w t)) ∧ (¬ (w32 (w 8 6) ≤ w32 p) → (0 ≤ w32 p ∧ w32 p < 16) ∧ ((¬ w32 (w 9 (w32 p).toNat) = w32 x → Ev (d) 4 Q 2 [rA 8, (0, x), (0, y), (0, p + 1)] [] (enc w t)) ∧ (¬ (¬ w32 (w 9 (w32 p).toNat) = w32 x) → (0 ≤ w32 p ∧ w32 p < 16) ∧ ((¬ w32 (w 10 (w32 p).toNat) = w32 y → Ev (d) 4 Q 2 [rA 8, (0, x), (0, y), (0, p + 1)] [] (enc w t)) ∧ (¬ (¬ w32 (w 10 (w32 p).toNat) = w32 y) → Q (some (0, p)) (enc w t)))))))) : Ev (d) 4 Q 2 [rA 8, (0, x), (0, y), (0, p)] [] (enc w t) := by
  refine e_ldi (show am_cd 4 2 = (2, 3, 3, 0, []) by decide +kernel) rfl ?_
  refine e_lda (v := 8) (show am_cd 4 3 = (2, 4, 0, 2, []) by decide +kernel) rfl ?_
  refine e_getf (a := 8) (tg := 0) (show am_cd 4 4 = (18, 7, 6, 0, [36]) by decide +kernel) (by decide +kernel) (by decide +kernel) rfl ?_
  refine e_cmp3 (show am_cd 4 7 = (11, 10, 38, 3, []) by decide +kernel) (fun hc => ?_) (fun hc => ?_)
  · replace h := h.1 hc
    refine e_ic (show am_cd 4 38 = (0, 39, 0, -1, []) by decide +kernel) ?_
    exact e_reti (show am_cd 4 39 = (36, 40, 0, 0, []) by decide +kernel) (by decide +kernel) h
  · replace h := h.2 hc
    refine e_lda (v := 8) (show am_cd 4 10 = (2, 11, 0, 2, []) by decide +kernel) rfl ?_
    refine e_getr (a := 8) (r := 9) (show am_cd 4 11 = (18, 14, 0, 2, [9]) by decide +kernel) (by decide +kernel) (by decide +kernel) rfl ?_
    refine e_ldi (show am_cd 4 14 = (2, 15, 3, 0, []) by decide +kernel) rfl ?_
    refine e_iald (a := 9) (n := 16) (show am_cd 4 15 = (21, 16, 0, 0, []) by decide +kernel) (by decide +kernel) (by decide +kernel) (by decide +kernel) h.1 ?_
    replace h := h.2
    refine e_ldi (show am_cd 4 16 = (2, 17, 1, 0, []) by decide +kernel) rfl ?_
    refine e_cmp1 (show am_cd 4 17 = (11, 20, 32, 1, []) by decide +kernel) (fun hc => ?_) (fun hc => ?_)
    · replace h := h.1 hc
      refine e_inc (la2 := [rA 8, (0, x), (0, y), (0, p + 1)]) (show am_cd 4 32 = (4, 35, 3, 1, []) by decide +kernel) rfl rfl ?_
      refine e_go (show am_cd 4 35 = (12, 2, 0, 0, []) by decide +kernel) ?_
      exact h
    · replace h := h.2 hc
      refine e_lda (v := 8) (show am_cd 4 20 = (2, 21, 0, 2, []) by decide +kernel) rfl ?_
      refine e_getr (a := 8) (r := 10) (show am_cd 4 21 = (18, 24, 1, 2, [15]) by decide +kernel) (by decide +kernel) (by decide +kernel) rfl ?_
      refine e_ldi (show am_cd 4 24 = (2, 25, 3, 0, []) by decide +kernel) rfl ?_
      refine e_iald (a := 10) (n := 16) (show am_cd 4 25 = (21, 26, 0, 0, []) by decide +kernel) (by decide +kernel) (by decide +kernel) (by decide +kernel) h.1 ?_
      replace h := h.2
      refine e_ldi (show am_cd 4 26 = (2, 27, 2, 0, []) by decide +kernel) rfl ?_
      refine e_cmp1 (show am_cd 4 27 = (11, 30, 32, 1, []) by decide +kernel) (fun hc => ?_) (fun hc => ?_)
      · replace h := h.1 hc
        refine e_inc (la2 := [rA 8, (0, x), (0, y), (0, p + 1)]) (show am_cd 4 32 = (4, 35, 3, 1, []) by decide +kernel) rfl rfl ?_
        refine e_go (show am_cd 4 35 = (12, 2, 0, 0, []) by decide +kernel) ?_
        exact h
      · replace h := h.2 hc
        refine e_ldi (show am_cd 4 30 = (2, 31, 3, 0, []) by decide +kernel) rfl ?_
        exact e_reti (show am_cd 4 31 = (36, 32, 0, 0, []) by decide +kernel) (by decide +kernel) h

theorem g_sn {d : Nat} {Q : Option aV → aS → Prop} {w : eW} {t : eT} {c : Int} (h : Ev (d) 6 Q 2 [rA 8, (0, c), (0, 0)] [] (enc w t)) : Cl (d) 6 [rA 8, (0, c)] (enc w t) Q := by
  show Ev (d) 6 Q 0 [rA 8, (0, c), (9, 0)] [] (enc w t)
  refine e_ic (show am_cd 6 0 = (0, 1, 0, 0, []) by decide +kernel) ?_
  refine e_sti (la2 := [rA 8, (0, c), (0, 0)]) (show am_cd 6 1 = (3, 2, 2, 0, []) by decide +kernel) rfl ?_
  exact h

theorem g_sn0 {d : Nat} {Q : Option aV → aS → Prop} {w : eW} {t : eT} {c p : Int} (h : ((w32 (w 8 7) ≤ w32 p → Q (some (0, 0)) (enc w t)) ∧ (¬ (w32 (w 8 7) ≤ w32 p) → (0 ≤ w32 p ∧ w32 p < 4) ∧ ((¬ w32 (w 13 (w32 p).toNat) = w32 c → Ev (d) 6 Q 2 [rA 8, (0, c), (0, p + 1)] [] (enc w t)) ∧ (¬ (¬ w32 (w 13 (w32 p).toNat) = w32 c) → (0 ≤ w32 p ∧ w32 p < 4) ∧ (Q (some (0, w 14 (w32 p).toNat)) (enc w t))))))) : Ev (d) 6 Q 2 [rA 8, (0, c), (0, p)] [] (enc w t) := by
  refine e_ldi (show am_cd 6 2 = (2, 3, 2, 0, []) by decide +kernel) rfl ?_
  refine e_lda (v := 8) (show am_cd 6 3 = (2, 4, 0, 2, []) by decide +kernel) rfl ?_
  refine e_getf (a := 8) (tg := 0) (show am_cd 6 4 = (18, 7, 7, 0, [39]) by decide +kernel) (by decide +kernel) (by decide +kernel) rfl ?_
  refine e_cmp3 (show am_cd 6 7 = (11, 10, 33, 3, []) by decide +kernel) (fun hc => ?_) (fun hc => ?_)
  · replace h := h.1 hc
    refine e_ic (show am_cd 6 33 = (0, 34, 0, 0, []) by decide +kernel) ?_
    exact e_reti (show am_cd 6 34 = (36, 35, 0, 0, []) by decide +kernel) (by decide +kernel) h
  · replace h := h.2 hc
    refine e_lda (v := 8) (show am_cd 6 10 = (2, 11, 0, 2, []) by decide +kernel) rfl ?_
    refine e_getr (a := 8) (r := 13) (show am_cd 6 11 = (18, 14, 4, 2, [24]) by decide +kernel) (by decide +kernel) (by decide +kernel) rfl ?_
    refine e_ldi (show am_cd 6 14 = (2, 15, 2, 0, []) by decide +kernel) rfl ?_
    refine e_iald (a := 13) (n := 4) (show am_cd 6 15 = (21, 16, 0, 0, []) by decide +kernel) (by decide +kernel) (by decide +kernel) (by decide +kernel) h.1 ?_
    replace h := h.2
    refine e_ldi (show am_cd 6 16 = (2, 17, 1, 0, []) by decide +kernel) rfl ?_
    refine e_cmp1 (show am_cd 6 17 = (11, 20, 27, 1, []) by decide +kernel) (fun hc => ?_) (fun hc => ?_)
    · replace h := h.1 hc
      refine e_inc (la2 := [rA 8, (0, c), (0, p + 1)]) (show am_cd 6 27 = (4, 30, 2, 1, []) by decide +kernel) rfl rfl ?_
      refine e_go (show am_cd 6 30 = (12, 2, 0, 0, []) by decide +kernel) ?_
      exact h
    · replace h := h.2 hc
      refine e_lda (v := 8) (show am_cd 6 20 = (2, 21, 0, 2, []) by decide +kernel) rfl ?_
      refine e_getr (a := 8) (r := 14) (show am_cd 6 21 = (18, 24, 5, 2, [27]) by decide +kernel) (by decide +kernel) (by decide +kernel) rfl ?_
      refine e_ldi (show am_cd 6 24 = (2, 25, 2, 0, []) by decide +kernel) rfl ?_
      refine e_iald (a := 14) (n := 4) (show am_cd 6 25 = (21, 26, 0, 0, []) by decide +kernel) (by decide +kernel) (by decide +kernel) (by decide +kernel) h.1 ?_
      replace h := h.2
      exact e_reti (show am_cd 6 26 = (36, 27, 0, 0, []) by decide +kernel) (by decide +kernel) h

theorem g_ws {d : Nat} {Q : Option aV → aS → Prop} {w : eW} {t : eT} {a b : Int} (h : Ev (d) 8 Q 5 [rA 8, (0, a), (0, b), (0, 0), (0, 0)] [] (enc w t)) : Cl (d) 8 [rA 8, (0, a), (0, b)] (enc w t) Q := by
  show Ev (d) 8 Q 0 [rA 8, (0, a), (0, b), (9, 0), (9, 0)] [] (enc w t)
  refine e_ic (show am_cd 8 0 = (0, 1, 0, 0, []) by decide +kernel) ?_
  refine e_sti (la2 := [rA 8, (0, a), (0, b), (0, 0), (9, 0)]) (show am_cd 8 1 = (3, 2, 3, 0, []) by decide +kernel) rfl ?_
  refine e_ic (show am_cd 8 2 = (0, 3, 0, 0, []) by decide +kernel) ?_
  refine e_sti (la2 := [rA 8, (0, a), (0, b), (0, 0), (0, 0)]) (show am_cd 8 3 = (3, 5, 4, 0, []) by decide +kernel) rfl ?_
  exact h

theorem g_ws0 {d : Nat} {Q : Option aV → aS → Prop} {w : eW} {t : eT} {a b s p : Int} (h : ((w32 (w 8 6) ≤ w32 p → Q (some (0, s)) (enc w t)) ∧ (¬ (w32 (w 8 6) ≤ w32 p) → (0 ≤ w32 p ∧ w32 p < 16) ∧ ((w32 (iand (ishr a (w 9 (w32 p).toNat)) 1) = 0 → Ev (d) 8 Q 5 [rA 8, (0, a), (0, b), (0, s), (0, p + 1)] [] (enc w t)) ∧ (¬ (w32 (iand (ishr a (w 9 (w32 p).toNat)) 1) = 0) → (0 ≤ w32 p ∧ w32 p < 16) ∧ ((w32 (iand (ishr b (w 10 (w32 p).toNat)) 1) = 0 → Ev (d) 8 Q 5 [rA 8, (0, a), (0, b), (0, s), (0, p + 1)] [] (enc w t)) ∧ (¬ (w32 (iand (ishr b (w 10 (w32 p).toNat)) 1) = 0) → Ev (d) 8 Q 5 [rA 8, (0, a), (0, b), (0, ior s (ishl 1 p)), (0, p + 1)] [] (enc w t)))))))) : Ev (d) 8 Q 5 [rA 8, (0, a), (0, b), (0, s), (0, p)] [] (enc w t) := by
  refine e_ldi (show am_cd 8 5 = (2, 7, 4, 0, []) by decide +kernel) rfl ?_
  refine e_lda (v := 8) (show am_cd 8 7 = (2, 8, 0, 2, []) by decide +kernel) rfl ?_
  refine e_getf (a := 8) (tg := 0) (show am_cd 8 8 = (18, 11, 6, 0, [36]) by decide +kernel) (by decide +kernel) (by decide +kernel) rfl ?_
  refine e_cmp3 (show am_cd 8 11 = (11, 14, 55, 3, []) by decide +kernel) (fun hc => ?_) (fun hc => ?_)
  · replace h := h.1 hc
    refine e_ldi (show am_cd 8 55 = (2, 56, 3, 0, []) by decide +kernel) rfl ?_
    exact e_reti (show am_cd 8 56 = (36, 57, 0, 0, []) by decide +kernel) (by decide +kernel) h
  · replace h := h.2 hc
    refine e_ldi (show am_cd 8 14 = (2, 15, 1, 0, []) by decide +kernel) rfl ?_
    refine e_lda (v := 8) (show am_cd 8 15 = (2, 16, 0, 2, []) by decide +kernel) rfl ?_
    refine e_getr (a := 8) (r := 9) (show am_cd 8 16 = (18, 19, 0, 2, [9]) by decide +kernel) (by decide +kernel) (by decide +kernel) rfl ?_
    refine e_ldi (show am_cd 8 19 = (2, 21, 4, 0, []) by decide +kernel) rfl ?_
    refine e_iald (a := 9) (n := 16) (show am_cd 8 21 = (21, 22, 0, 0, []) by decide +kernel) (by decide +kernel) (by decide +kernel) (by decide +kernel) h.1 ?_
    replace h := h.2
    refine e_ishr (show am_cd 8 22 = (5, 23, 7, 0, []) by decide +kernel) ?_
    refine e_ic (show am_cd 8 23 = (0, 24, 0, 1, []) by decide +kernel) ?_
    refine e_iand (show am_cd 8 24 = (5, 25, 3, 0, []) by decide +kernel) ?_
    refine e_if0 (show am_cd 8 25 = (10, 28, 49, 0, []) by decide +kernel) (fun hc => ?_) (fun hc => ?_)
    · replace h := h.1 hc
      refine e_inc (la2 := [rA 8, (0, a), (0, b), (0, s), (0, p + 1)]) (show am_cd 8 49 = (4, 52, 4, 1, []) by decide +kernel) rfl rfl ?_
      refine e_go (show am_cd 8 52 = (12, 5, 0, 0, []) by decide +kernel) ?_
      exact h
    · replace h := h.2 hc
      refine e_ldi (show am_cd 8 28 = (2, 29, 2, 0, []) by decide +kernel) rfl ?_
      refine e_lda (v := 8) (show am_cd 8 29 = (2, 30, 0, 2, []) by decide +kernel) rfl ?_
      refine e_getr (a := 8) (r := 10) (show am_cd 8 30 = (18, 33, 1, 2, [15]) by decide +kernel) (by decide +kernel) (by decide +kernel) rfl ?_
      refine e_ldi (show am_cd 8 33 = (2, 35, 4, 0, []) by decide +kernel) rfl ?_
      refine e_iald (a := 10) (n := 16) (show am_cd 8 35 = (21, 36, 0, 0, []) by decide +kernel) (by decide +kernel) (by decide +kernel) (by decide +kernel) h.1 ?_
      replace h := h.2
      refine e_ishr (show am_cd 8 36 = (5, 37, 7, 0, []) by decide +kernel) ?_
      refine e_ic (show am_cd 8 37 = (0, 38, 0, 1, []) by decide +kernel) ?_
      refine e_iand (show am_cd 8 38 = (5, 39, 3, 0, []) by decide +kernel) ?_
      refine e_if0 (show am_cd 8 39 = (10, 42, 49, 0, []) by decide +kernel) (fun hc => ?_) (fun hc => ?_)
      · replace h := h.1 hc
        refine e_inc (la2 := [rA 8, (0, a), (0, b), (0, s), (0, p + 1)]) (show am_cd 8 49 = (4, 52, 4, 1, []) by decide +kernel) rfl rfl ?_
        refine e_go (show am_cd 8 52 = (12, 5, 0, 0, []) by decide +kernel) ?_
        exact h
      · replace h := h.2 hc
        refine e_ldi (show am_cd 8 42 = (2, 43, 3, 0, []) by decide +kernel) rfl ?_
        refine e_ic (show am_cd 8 43 = (0, 44, 0, 1, []) by decide +kernel) ?_
        refine e_ldi (show am_cd 8 44 = (2, 46, 4, 0, []) by decide +kernel) rfl ?_
        refine e_ishl (show am_cd 8 46 = (5, 47, 6, 0, []) by decide +kernel) ?_
        refine e_ior (show am_cd 8 47 = (5, 48, 4, 0, []) by decide +kernel) ?_
        refine e_sti (la2 := [rA 8, (0, a), (0, b), (0, ior s (ishl 1 p)), (0, p)]) (show am_cd 8 48 = (3, 49, 3, 0, []) by decide +kernel) rfl ?_
        refine e_inc (la2 := [rA 8, (0, a), (0, b), (0, ior s (ishl 1 p)), (0, p + 1)]) (show am_cd 8 49 = (4, 52, 4, 1, []) by decide +kernel) rfl rfl ?_
        refine e_go (show am_cd 8 52 = (12, 5, 0, 0, []) by decide +kernel) ?_
        exact h

theorem g_all {d : Nat} {Q : Option aV → aS → Prop} {w : eW} {t : eT} (h : Q (some (0, (ishl 1 (w 8 6)) - 1)) (enc w t)) : Cl (d) 2 [rA 8] (enc w t) Q := by
  show Ev (d) 2 Q 0 [rA 8] [] (enc w t)
  refine e_ic (show am_cd 2 0 = (0, 1, 0, 1, []) by decide +kernel) ?_
  refine e_lda (v := 8) (show am_cd 2 1 = (2, 2, 0, 2, []) by decide +kernel) rfl ?_
  refine e_getf (a := 8) (tg := 0) (show am_cd 2 2 = (18, 5, 6, 0, [36]) by decide +kernel) (by decide +kernel) (by decide +kernel) rfl ?_
  refine e_ishl (show am_cd 2 5 = (5, 6, 6, 0, []) by decide +kernel) ?_
  refine e_ic (show am_cd 2 6 = (0, 7, 0, 1, []) by decide +kernel) ?_
  refine e_isub (show am_cd 2 7 = (5, 8, 1, 0, []) by decide +kernel) ?_
  exact e_reti (show am_cd 2 8 = (36, 9, 0, 0, []) by decide +kernel) (by decide +kernel) h

theorem g_isIc {d : Nat} {Q : Option aV → aS → Prop} {w : eW} {t : eT} {p : Int} (h : ((w32 (iand (ishr (w 8 8) p) 1) = 0 → Q (some (0, 0)) (enc w t)) ∧ (¬ (w32 (iand (ishr (w 8 8) p) 1) = 0) → Q (some (0, 1)) (enc w t)))) : Cl (d) 3 [rA 8, (0, p)] (enc w t) Q := by
  show Ev (d) 3 Q 0 [rA 8, (0, p)] [] (enc w t)
  refine e_lda (v := 8) (show am_cd 3 0 = (2, 1, 0, 2, []) by decide +kernel) rfl ?_
  refine e_getf (a := 8) (tg := 0) (show am_cd 3 1 = (18, 4, 8, 0, [54]) by decide +kernel) (by decide +kernel) (by decide +kernel) rfl ?_
  refine e_ldi (show am_cd 3 4 = (2, 5, 1, 0, []) by decide +kernel) rfl ?_
  refine e_ishr (show am_cd 3 5 = (5, 6, 7, 0, []) by decide +kernel) ?_
  refine e_ic (show am_cd 3 6 = (0, 7, 0, 1, []) by decide +kernel) ?_
  refine e_iand (show am_cd 3 7 = (5, 8, 3, 0, []) by decide +kernel) ?_
  refine e_if0 (show am_cd 3 8 = (10, 11, 15, 0, []) by decide +kernel) (fun hc => ?_) (fun hc => ?_)
  · replace h := h.1 hc
    refine e_ic (show am_cd 3 15 = (0, 16, 0, 0, []) by decide +kernel) ?_
    exact e_retz (show am_cd 3 16 = (36, 17, 0, 0, []) by decide +kernel) (by decide +kernel) (Or.inl rfl) h
  · replace h := h.2 hc
    refine e_ic (show am_cd 3 11 = (0, 12, 0, 1, []) by decide +kernel) ?_
    refine e_go (show am_cd 3 12 = (12, 16, 0, 0, []) by decide +kernel) ?_
    exact e_retz (show am_cd 3 16 = (36, 17, 0, 0, []) by decide +kernel) (by decide +kernel) (Or.inr rfl) h

theorem fsN_t {P : Nat → Bool} {k i : Nat} (h : P i = true) : fsN P (k + 1) i = i := by unfold fsN; rw [if_pos h]
theorem fsN_f {P : Nat → Bool} {k i : Nat} (h : P i = false) : fsN P (k + 1) i = fsN P k (i + 1) := by
  rw [show fsN P (k + 1) i = if P i then i else fsN P k (i + 1) from rfl, h]
  rfl
theorem c_nb {d : Nat} {w m : eW} {t : eT} {x y : Int} (h : AC w m ∧ WFp m ∧ (0 ≤ x ∧ x ≤ 27) ∧ (0 ≤ y ∧ y ≤ 27)) : Cl d 4 [rA 8, (0, x), (0, y)] (enc w t) (fun r S2 => r = some (0, nbI m x y) ∧ S2 = enc w t) := by
  obtain ⟨hA, hp, hx, hy⟩ := h
  have hn := hp.n
  have key : ∀ (k p : Nat), p + k = nP m → Ev d 4 (fun r S2 => r = some (0, if fsN (fun p => decide (cdI (m 68 p) = x) && decide (cdI (m 69 p) = y)) k p = nP m then -1 else (fsN (fun p => decide (cdI (m 68 p) = x) && decide (cdI (m 69 p) = y)) k p : Int)) ∧ S2 = enc w t) 2 [rA 8, (0, x), (0, y), (0, (p : Int))] [] (enc w t) := by
    intro k
    induction k with
    | zero =>
      intro p hk
      refine g_nb0 ⟨fun _ => ?_, fun hc => absurd (by rw [hA.1, ← hn.1, w32_id (by omega), w32_id (by omega)]; omega) hc⟩
      refine ⟨?_, rfl⟩
      rw [if_pos (by show p = nP m; omega)]
    | succ k ih =>
      intro p hk
      have hb := hp.2.1 p (by omega)
      have c1 := cdI_b hb.1
      have c2 := cdI_b hb.2.1
      have e := hA.2.1 p (by omega)
      have := ih (p + 1) (by omega)
      refine g_nb0 ⟨fun hc => absurd hc (by rw [hA.1, ← hn.1, w32_id (by omega), w32_id (by omega)]; omega), fun _ => ?_⟩
      rw [w32_id (x := (p : Int)) (by omega), Int.toNat_natCast, e.1, e.2]
      simp (disch := omega) only [w32_id]
      refine ⟨by omega, fun hc => ?_, fun hc => ⟨by omega, fun hc2 => ?_, fun hc2 => ?_⟩⟩
      · rw [fsN_f (by rw [decide_eq_false hc]; rfl)]; exact this
      · rw [fsN_f (by rw [decide_eq_false hc2, Bool.and_false])]; exact this
      · rw [fsN_t (by rw [decide_eq_true (Classical.not_not.mp hc), decide_eq_true (Classical.not_not.mp hc2)]; rfl), if_neg (by omega)]
        exact ⟨rfl, by trivial⟩
  exact g_nb (key (nP m) 0 (by omega))
theorem c_sn {d : Nat} {w m : eW} {t : eT} {c : Int} (h : SC w m ∧ WFs m ∧ (-1 ≤ c ∧ c ≤ 255)) : Cl d 6 [rA 8, (0, c)] (enc w t) (fun r S2 => r = some (0, snI m c) ∧ S2 = enc w t) := by
  obtain ⟨hA, hp, hx⟩ := h
  have hn := hp.n
  have key : ∀ (k p : Nat), p + k = nS m → Ev d 6 (fun r S2 => r = some (0, if fsN (fun i => decide (m 70 i = c)) k p = nS m then 0 else 2 * m 71 (fsN (fun i => decide (m 70 i = c)) k p)) ∧ S2 = enc w t) 2 [rA 8, (0, c), (0, (p : Int))] [] (enc w t) := by
    intro k
    induction k with
    | zero =>
      intro p hk
      refine g_sn0 ⟨fun _ => ?_, fun hc => absurd (by rw [hA.1, ← hn.1, w32_id (by omega), w32_id (by omega)]; omega) hc⟩
      refine ⟨?_, rfl⟩
      rw [if_pos (by show p = nS m; omega)]
    | succ k ih =>
      intro p hk
      have hb := hp.2 p (by omega)
      have e := hA.2 p (by omega)
      have := ih (p + 1) (by omega)
      refine g_sn0 ⟨fun hc => absurd hc (by rw [hA.1, ← hn.1, w32_id (by omega), w32_id (by omega)]; omega), fun _ => ?_⟩
      rw [w32_id (x := (p : Int)) (by omega), Int.toNat_natCast, e.1, e.2]
      simp (disch := omega) only [w32_id]
      refine ⟨by omega, fun hc => ?_, fun hc => ⟨by omega, ?_⟩⟩
      · rw [fsN_f (decide_eq_false hc)]; exact this
      · rw [fsN_t (decide_eq_true (Classical.not_not.mp hc)), if_neg (by omega)]
        exact ⟨rfl, by trivial⟩
  exact g_sn (key (nS m) 0 (by omega))
theorem c_ws {d : Nat} {w m : eW} {t : eT} {a b : Int} (h : AC w m ∧ WFp m ∧ (0 ≤ a ∧ a < 268435456) ∧ (0 ≤ b ∧ b < 268435456)) : Cl d 8 [rA 8, (0, a), (0, b)] (enc w t) (fun r S2 => r = some (0, ((wsB m a b : Nat) : Int)) ∧ S2 = enc w t) := by
  obtain ⟨hA, hp, ha, hb⟩ := h
  have hn := hp.n
  refine g_ws ?_
  generalize hf : (fun k => a.toNat.testBit (cdI (m 68 k)).toNat && b.toNat.testBit (cdI (m 69 k)).toNat) = f
  have eW : wsB m a b = bts f (nP m) := by unfold wsB; rw [hf]
  rw [eW]
  refine lp0 (fun i => Ev d 8 (fun r S2 => r = some (0, ((bts f (nP m) : Nat) : Int)) ∧ S2 = enc w t) 5 [rA 8, (0, a), (0, b), (0, ((bts f i : Nat) : Int)), (0, (i : Int))] [] (enc w t)) (nP m) ?_ ?_ 0 (Nat.zero_le _)
  · intro i hi hE
    have hb1 := hp.2.1 i (by omega)
    have c1 := cdI_b hb1.1
    have c2 := cdI_b hb1.2.1
    have e := hA.2.1 i (by omega)
    refine g_ws0 ⟨fun hc => absurd hc (by rw [hA.1, ← hn.1, w32_id (by omega), w32_id (by omega)]; omega), fun _ => ?_⟩
    rw [w32_id (x := (i : Int)) (by omega), Int.toNat_natCast, e.1, e.2, i_bit (by omega) (by omega), i_bit (by omega) (by omega), bts_setI (by omega)]
    unfold bt
    have hfi : f i = (a.toNat.testBit (cdI (m 68 i)).toNat && b.toNat.testBit (cdI (m 69 i)).toNat) := by rw [← hf]
    rw [show bts f (i + 1) = bts f i ||| (if f i then 2 ^ i else 0) from rfl, hfi] at hE
    have hno : (a.toNat.testBit (cdI (m 68 i)).toNat && b.toNat.testBit (cdI (m 69 i)).toNat) = false → Ev d 8 (fun r S2 => r = some (0, ((bts f (nP m) : Nat) : Int)) ∧ S2 = enc w t) 5 [rA 8, (0, a), (0, b), (0, ((bts f i : Nat) : Int)), (0, (i : Int) + 1)] [] (enc w t) := fun h9 => by
      rw [h9, if_neg (by decide), Nat.or_zero] at hE
      exact hE
    refine ⟨by omega, fun hc => hno ?_, fun hc => ⟨by omega, fun hc2 => hno ?_, fun hc2 => ?_⟩⟩
    · cases hA : a.toNat.testBit (cdI (m 68 i)).toNat with
      | false => rfl
      | true => rw [hA] at hc; exact absurd hc (by decide +kernel)
    · cases hA : b.toNat.testBit (cdI (m 69 i)).toNat with
      | false => rw [Bool.and_false]
      | true => rw [hA] at hc2; exact absurd hc2 (by decide +kernel)
    · cases hA : a.toNat.testBit (cdI (m 68 i)).toNat with
      | false => rw [hA] at hc; exact absurd (by decide +kernel) hc
      | true =>
        cases hB : b.toNat.testBit (cdI (m 69 i)).toNat with
        | false => rw [hB] at hc2; exact absurd (by decide +kernel) hc2
        | true =>
          rw [hA, hB, if_pos (by rfl)] at hE
          exact hE
  · exact g_ws0 ⟨fun _ => ⟨rfl, rfl⟩, fun hc => absurd (by rw [hA.1, hn.1]; exact Int.le_refl _) hc⟩
theorem c_allP {d : Nat} {w m : eW} {t : eT} (h : AC w m ∧ WFp m) : Cl d 2 [rA 8] (enc w t) (fun r S2 => r = some (0, ((2 ^ nP m - 1 : Nat) : Int)) ∧ S2 = enc w t) := by
  obtain ⟨hA, hp⟩ := h
  have hn := hp.n
  refine g_all ⟨?_, rfl⟩
  rw [hA.1, ← hn.1, i_one (by omega), Int.toNat_natCast]
  have : 0 < 2 ^ nP m := Nat.two_pow_pos _
  congr 2
  omega
theorem insB_bit {m : eW} (p : Nat) : (insB m).testBit p = isI m p := by
  unfold insB isI
  rw [bts_tb]
theorem insB_b (m : eW) (h : WFp m) : insB m < 65536 := Nat.lt_of_lt_of_le (bts_lt _ _) (Nat.pow_le_pow_right (n := 2) (j := 16) (by decide) h.n.2)
theorem c_isIc {d : Nat} {w m : eW} {t : eT} {p : Int} (h : AC w m ∧ WFp m ∧ (0 ≤ p ∧ p < 32)) : Cl d 3 [rA 8, (0, p)] (enc w t) (fun r S2 => r = some (0, bI (isI m p.toNat)) ∧ S2 = enc w t) := by
  obtain ⟨hA, hp, hb⟩ := h
  have hi := insB_b m hp
  refine g_isIc ?_
  rw [hA.2.2.2, i_bit (by omega) (by omega)]
  unfold bt
  rw [Int.toNat_natCast, insB_bit]
  cases isI m p.toNat with
  | false => exact ⟨fun _ => ⟨rfl, rfl⟩, fun h9 => absurd (by decide +kernel) h9⟩
  | true => exact ⟨fun h9 => absurd h9 (by decide +kernel), fun _ => ⟨rfl, rfl⟩⟩
def mnI (m : eW) (c : Int) : Int := match sgO c with
  | some s => ((2 ^ (cdI s).toNat : Nat) : Int)
  | none => snI m c

theorem g_mean {d : Nat} {Q : Option aV → aS → Prop} {w : eW} {t : eT} {c : Int} {m : eW} (h : (-1 ≤ c ∧ c ≤ 255) ∧ ((0 < w32 (codeOf c) → Q (some (0, ishl 1 (codeOf c))) (enc w t)) ∧ (¬ (0 < w32 (codeOf c)) → ((¬ w32 c = w32 48 → (SC w m ∧ WFs m ∧ (-1 ≤ c ∧ c ≤ 255)) ∧ (Q (some (0, snI m c)) (enc w t))) ∧ (¬ (¬ w32 c = w32 48) → Q (some (0, ishl 1 (codeOf c))) (enc w t)))))) : Cl (d + 1) 7 [rA 8, (0, c)] (enc w t) Q := by
  show Ev (d + 1) 7 Q 0 [rA 8, (0, c), (9, 0)] [] (enc w t)
  refine e_ldi (show am_cd 7 0 = (2, 1, 1, 0, []) by decide +kernel) rfl ?_
  refine e_cS (z := 0) (as := [(0, c)]) (rest := []) (show am_cd 7 1 = (40, 4, 161, 4, [57]) by decide +kernel) (by decide) rfl rfl (Nat.le_of_ble_eq_true rfl) rfl ?_
  refine Cl.mono (Cl.up (c_codeOf (d := d) h.1) (by omega)) ?_
  rintro _ _ ⟨rfl, rfl⟩
  refine ⟨fun _ h9 => (by cases h9), ?_⟩
  replace h := h.2
  show Ev _ 7 _ 4 [rA 8, (0, c), (9, 0)] [(0, codeOf c)] _
  refine e_sti (la2 := [rA 8, (0, c), (0, codeOf c)]) (show am_cd 7 4 = (3, 5, 2, 0, []) by decide +kernel) rfl ?_
  refine e_ldi (show am_cd 7 5 = (2, 6, 2, 0, []) by decide +kernel) rfl ?_
  refine e_if4 (show am_cd 7 6 = (10, 9, 15, 4, []) by decide +kernel) (fun hc => ?_) (fun hc => ?_)
  · replace h := h.1 hc
    refine e_ic (show am_cd 7 15 = (0, 16, 0, 1, []) by decide +kernel) ?_
    refine e_ldi (show am_cd 7 16 = (2, 17, 2, 0, []) by decide +kernel) rfl ?_
    refine e_ishl (show am_cd 7 17 = (5, 18, 6, 0, []) by decide +kernel) ?_
    exact e_reti (show am_cd 7 18 = (36, 19, 0, 0, []) by decide +kernel) (by decide +kernel) h
  · replace h := h.2 hc
    refine e_ldi (show am_cd 7 9 = (2, 10, 1, 0, []) by decide +kernel) rfl ?_
    refine e_ic (show am_cd 7 10 = (0, 12, 1, 48, []) by decide +kernel) ?_
    refine e_cmp1 (show am_cd 7 12 = (11, 15, 19, 1, []) by decide +kernel) (fun hc => ?_) (fun hc => ?_)
    · replace h := h.1 hc
      refine e_lda (v := 8) (show am_cd 7 19 = (2, 20, 0, 2, []) by decide +kernel) rfl ?_
      refine e_ldi (show am_cd 7 20 = (2, 21, 1, 0, []) by decide +kernel) rfl ?_
      refine e_cV (z := 0) (a := 8) (as := [(0, c)]) (rest := []) (show am_cd 7 21 = (40, 24, 6, 0, [61]) by decide +kernel) (by decide +kernel) rfl rfl (Nat.le_of_ble_eq_true rfl) rfl ?_
      refine Cl.mono (Cl.up (c_sn (d := d) h.1) (by omega)) ?_
      rintro _ _ ⟨rfl, rfl⟩
      refine ⟨fun _ h9 => (by cases h9), ?_⟩
      replace h := h.2
      show Ev _ 7 _ 24 [rA 8, (0, c), (0, codeOf c)] [(0, snI m c)] _
      exact e_reti (show am_cd 7 24 = (36, 25, 0, 0, []) by decide +kernel) (by decide +kernel) h
    · replace h := h.2 hc
      refine e_ic (show am_cd 7 15 = (0, 16, 0, 1, []) by decide +kernel) ?_
      refine e_ldi (show am_cd 7 16 = (2, 17, 2, 0, []) by decide +kernel) rfl ?_
      refine e_ishl (show am_cd 7 17 = (5, 18, 6, 0, []) by decide +kernel) ?_
      exact e_reti (show am_cd 7 18 = (36, 19, 0, 0, []) by decide +kernel) (by decide +kernel) h

theorem c_mean {d : Nat} {w m : eW} {t : eT} {c : Int} (h : SC w m ∧ WFs m ∧ (-1 ≤ c ∧ c ≤ 255)) : Cl (d + 1) 7 [rA 8, (0, c)] (enc w t) (fun r S2 => r = some (0, mnI m c) ∧ S2 = enc w t) := by
  obtain ⟨hS, hp, hx⟩ := h
  have hc := codeOf_in c hx
  refine g_mean (m := m) ⟨hx, ?_⟩
  simp (disch := omega) only [w32_id]
  rw [i_one (by omega)]
  unfold mnI sgO
  have e := codeOf_lt c
  by_cases h48 : c = 48
  · rw [if_pos h48]
    have e0 : codeOf c = 0 := by rw [h48]; decide
    rw [e0]
    exact ⟨fun h9 => absurd h9 (by decide), fun _ => ⟨fun h9 => absurd h48 h9, fun _ => ⟨rfl, by trivial⟩⟩⟩
  · rw [if_neg h48]
    cases hl : ltO c with
    | none =>
      rw [hl] at e
      rw [e]
      exact ⟨fun h9 => absurd h9 (by decide), fun _ => ⟨fun _ => ⟨⟨hS, hp, hx⟩, rfl, by trivial⟩, fun h9 => absurd h48 h9⟩⟩
    | some l =>
      rw [hl] at e
      have hl2 := ltO_b hl
      dsimp only at e
      have e2 : cdI l = l + 1 := by unfold cdI; rw [if_neg (by omega)]
      dsimp only
      rw [e, e2]
      exact ⟨fun _ => ⟨rfl, by trivial⟩, fun h9 => by omega⟩
theorem mnI_0 {m : eW} (h : WFs m) {c : Int} : (0 ≤ mnI m c ∧ mnI m c < 268435456) := by
  unfold mnI
  split
  · next s hs =>
    have : 0 ≤ s ∧ s ≤ 27 := by
      unfold sgO at hs
      split at hs
      · cases hs; decide
      · have := ltO_b hs; omega
    have h1 := cdI_b this
    have h2 : 2 ^ (cdI s).toNat ≤ 2 ^ 27 := Nat.pow_le_pow_right (by decide) (by omega)
    generalize 2 ^ (cdI s).toNat = z at *
    omega
  · unfold snI
    split
    · decide
    · next h9 =>
      have := fs_at h9
      have hs := h.2 _ this.1
      unfold soN
      omega

