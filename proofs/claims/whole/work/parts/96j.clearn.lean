/-! The class: rules, what they say by pairs. -/
def farB (m : eW) (r : Nat) : Int := if m 74 r = 2 then m 76 (3 * r) else 131071
def nearB (m : eW) (r : Nat) : Int := if m 74 r = 2 then m 76 (3 * r + 1) else if m 74 r = 1 then m 76 (3 * r) else 131071
def behB (m : eW) (r : Nat) : Int := if m 75 r = 1 then m 76 (3 * r + 2) else 131071
def RC (w m : eW) : Prop := w 15 12 = m 67 6 ∧ ∀ r, r < nR m → w 16 r = m 72 r ∧ w 17 r = m 73 r ∧ w 18 r = m 74 r ∧ w 19 r = m 75 r ∧ w 20 r = farB m r ∧ w 21 r = nearB m r ∧ w 22 r = behB m r
def LN (w m : eW) : Prop := (w 15 16 = ((2 ^ nP m - 1 : Nat) : Int) ∧ w 15 17 = (insB m : Int)) ∧ ∀ p, p < 17 → w 23 p = ((bts (fun r => ff m r p) (nR m) : Nat) : Int) ∧ w 24 p = ((bts (fun r => nf m r p) (nR m) : Nat) : Int) ∧ w 25 p = ((bts (fun r => bf m r p) (nR m) : Nat) : Int) ∧ w 26 p = ((bts (fun r => mu m r p) (nR m) : Nat) : Int) ∧ w 27 p = ((bts (fun r => ba m r p) (nR m) : Nat) : Int)
theorem any_bit {p : Nat} (hp : p < 17) : (131071 : Int).toNat.testBit p = true := by
  have e : (131071 : Int).toNat = 2 ^ 17 - 1 := by decide
  rw [e, Nat.testBit_two_pow_sub_one, decide_eq_true hp]
theorem pt_b {m : eW} (hp : WFp m) {x : Int} (h : PT m x) : 0 ≤ x ∧ x ≤ 65536 := by
  have h2 : 2 ^ nP m ≤ 2 ^ 16 := Nat.pow_le_pow_right (by decide) hp.n.2
  have h3 : (2 : Int) ^ nP m = ((2 ^ nP m : Nat) : Int) := by simp
  unfold PT at h
  rw [h3] at h
  generalize 2 ^ nP m = z at *
  omega
theorem pt_bit {m : eW} (hp : WFp m) {x : Int} (h : PT m x) {p : Nat} (hp2 : p < 17) : x.toNat.testBit p = ft x p := by
  unfold ft
  by_cases hx : x = 65536
  · rw [if_pos hx, hx, show (65536 : Int).toNat = 2 ^ 16 from rfl, Nat.testBit_two_pow]
    rw [decide_eq_decide]
    omega
  · rw [if_neg hx]
    have hb := pt_b hp h
    by_cases h16 : p = 16
    · rw [decide_eq_false (fun h9 => h9 h16), h16]
      exact Nat.testBit_lt_two_pow (by omega)
    · rw [decide_eq_true h16]; rfl
theorem pt_of {m : eW} {x : Int} (h : 0 ≤ x ∧ x < 2 ^ nP m) : PT m x := Or.inr h
theorem farB_s {m : eW} (hp : WFp m) (hr : WFr m) {r : Nat} (h : r < nR m) : (0 ≤ farB m r ∧ farB m r ≤ 131071) ∧ ∀ p, p < 17 → (farB m r).toNat.testBit p = ff m r p := by
  have hw := hr.2 r h
  unfold farB ff
  by_cases h2 : m 74 r = 2
  · have hPT := hw.2.2.2.2.1 (by omega)
    have hb := pt_b hp hPT
    rw [if_pos h2]
    exact ⟨by omega, fun p hp2 => by rw [decide_eq_true h2, pt_bit hp hPT hp2]; rfl⟩
  · rw [if_neg h2]
    exact ⟨by omega, fun p hp2 => by rw [decide_eq_false h2, any_bit hp2]; rfl⟩
theorem nearB_s {m : eW} (hp : WFp m) (hr : WFr m) {r : Nat} (h : r < nR m) : (0 ≤ nearB m r ∧ nearB m r ≤ 131071) ∧ ∀ p, p < 17 → (nearB m r).toNat.testBit p = nf m r p := by
  have hw := hr.2 r h
  unfold nearB nf
  by_cases h2 : m 74 r = 2
  · have hPT := pt_of (hw.2.2.2.2.2.1 h2)
    have hb := pt_b hp hPT
    rw [if_pos h2]
    exact ⟨by omega, fun p hp2 => by rw [decide_eq_false (by omega), if_neg (by omega), pt_bit hp hPT hp2]; rfl⟩
  · rw [if_neg h2]
    by_cases h1 : m 74 r = 1
    · have hPT := hw.2.2.2.2.1 (by omega)
      have hb := pt_b hp hPT
      rw [if_pos h1]
      exact ⟨by omega, fun p hp2 => by rw [decide_eq_false (by omega), if_pos h1, pt_bit hp hPT hp2]; rfl⟩
    · rw [if_neg h1]
      exact ⟨by omega, fun p hp2 => by rw [decide_eq_true (by omega), any_bit hp2]; rfl⟩
theorem behB_s {m : eW} (hp : WFp m) (hr : WFr m) {r : Nat} (h : r < nR m) : (0 ≤ behB m r ∧ behB m r ≤ 131071) ∧ ∀ p, p < 17 → (behB m r).toNat.testBit p = bf m r p := by
  have hw := hr.2 r h
  unfold behB bf
  by_cases h2 : m 75 r = 1
  · have hPT := hw.2.2.2.2.2.2 h2
    have hb := pt_b hp hPT
    rw [if_pos h2]
    exact ⟨by omega, fun p hp2 => by rw [decide_eq_true h2, pt_bit hp hPT hp2]; rfl⟩
  · rw [if_neg h2]
    exact ⟨by omega, fun p hp2 => by rw [decide_eq_false h2, any_bit hp2]; rfl⟩
theorem orS {F : Nat → Bool} {r p : Nat} {x : Int} (hr : r < 9) (hx : 0 ≤ x ∧ x ≤ 131071) (hp : p < 17) (hF : x.toNat.testBit p = F r) : ior ((bts F r : Nat) : Int) (ishl (iand (ishr x (p : Int)) 1) (r : Int)) = ((bts F (r + 1) : Nat) : Int) := by
  rw [i_bit (by omega) (by omega)]
  unfold bt
  rw [Int.toNat_natCast, hF]
  have h1 := bts_lt F r
  have h2 : 2 ^ r ≤ 2 ^ 9 := Nat.pow_le_pow_right (by decide) (by omega)
  rw [show bts F (r + 1) = bts F r ||| (if F r then 2 ^ r else 0) from rfl]
  cases F r with
  | true =>
    show ior _ (ishl 1 (r : Int)) = ((bts F r ||| 2 ^ r : Nat) : Int)
    exact bts_setI (by omega)
  | false =>
    have : ishl (if false = true then 1 else 0) (r : Int) = 0 := by
      show ishl 0 (r : Int) = 0
      rw [show (0 : Int) = ((0 : Nat) : Int) from rfl, b_shl (by rw [Nat.zero_shiftLeft]; decide) (by omega), Nat.zero_shiftLeft]
    rw [this, show (0 : Int) = ((0 : Nat) : Int) from rfl, b_or (by omega) (by decide)]
    rfl

theorem g_ld {d : Nat} {Q : Option aV → aS → Prop} {w : eW} {t : eT} {r : Int} {m : eW} (h : (0 ≤ w32 r ∧ w32 r < 9) ∧ (0 ≤ w32 r ∧ w32 r < 9) ∧ ((w32 (w 17 (w32 r).toNat) = 0 → (0 ≤ w32 (w 16 (w32 r).toNat) ∧ w32 (w 16 (w32 r).toNat) < 17) ∧ (0 ≤ w32 (w 16 (w32 r).toNat) ∧ w32 (w 16 (w32 r).toNat) < 17) ∧ (Ev (d + 1) 71 Q 38 [rA 15, (0, r), rA 8, (0, w 16 (w32 r).toNat), (9, 0)] [] (enc (wu w 26 (w32 (w 16 (w32 r).toNat)).toNat (ior (w 26 (w32 (w 16 (w32 r).toNat)).toNat) (ishl 1 r))) t))) ∧ (¬ (w32 (w 17 (w32 r).toNat) = 0) → (0 ≤ w32 r ∧ w32 r < 9) ∧ ((¬ w32 (w 17 (w32 r).toNat) = w32 2 → Ev (d + 1) 71 Q 38 [rA 15, (0, r), rA 8, (0, w 16 (w32 r).toNat), (9, 0)] [] (enc w t)) ∧ (¬ (¬ w32 (w 17 (w32 r).toNat) = w32 2) → (0 ≤ w32 (w 16 (w32 r).toNat) ∧ w32 (w 16 (w32 r).toNat) < 17) ∧ (0 ≤ w32 (w 16 (w32 r).toNat) ∧ w32 (w 16 (w32 r).toNat) < 17) ∧ (Ev (d + 1) 71 Q 38 [rA 15, (0, r), rA 8, (0, w 16 (w32 r).toNat), (9, 0)] [] (enc (wu w 26 (w32 (w 16 (w32 r).toNat)).toNat (ior (w 26 (w32 (w 16 (w32 r).toNat)).toNat) (ishl 1 r))) t))))))) : Cl (d + 1) 71 [rA 15, (0, r), rA 8] (enc w t) Q := by
  show Ev (d + 1) 71 Q 0 [rA 15, (0, r), rA 8, (9, 0), (9, 0)] [] (enc w t)
  refine e_lda (v := 15) (show am_cd 71 0 = (2, 1, 0, 2, []) by decide +kernel) rfl ?_
  refine e_getr (a := 15) (r := 16) (show am_cd 71 1 = (18, 4, 700, 2, [9]) by decide +kernel) (by decide +kernel) (by decide +kernel) rfl ?_
  refine e_ldi (show am_cd 71 4 = (2, 5, 1, 0, []) by decide +kernel) rfl ?_
  refine e_iald (a := 16) (n := 9) (show am_cd 71 5 = (21, 6, 0, 0, []) by decide +kernel) (by decide +kernel) (by decide +kernel) (by decide +kernel) h.1 ?_
  replace h := h.2
  refine e_sti (la2 := [rA 15, (0, r), rA 8, (0, w 16 (w32 r).toNat), (9, 0)]) (show am_cd 71 6 = (3, 7, 3, 0, []) by decide +kernel) rfl ?_
  refine e_lda (v := 15) (show am_cd 71 7 = (2, 8, 0, 2, []) by decide +kernel) rfl ?_
  refine e_getr (a := 15) (r := 17) (show am_cd 71 8 = (18, 11, 701, 2, [15]) by decide +kernel) (by decide +kernel) (by decide +kernel) rfl ?_
  refine e_ldi (show am_cd 71 11 = (2, 12, 1, 0, []) by decide +kernel) rfl ?_
  refine e_iald (a := 17) (n := 9) (show am_cd 71 12 = (21, 13, 0, 0, []) by decide +kernel) (by decide +kernel) (by decide +kernel) (by decide +kernel) h.1 ?_
  replace h := h.2
  refine e_if0 (show am_cd 71 13 = (10, 16, 26, 0, []) by decide +kernel) (fun hc => ?_) (fun hc => ?_)
  · replace h := h.1 hc
    refine e_lda (v := 15) (show am_cd 71 26 = (2, 27, 0, 2, []) by decide +kernel) rfl ?_
    refine e_getr (a := 15) (r := 26) (show am_cd 71 27 = (18, 30, 710, 2, [42]) by decide +kernel) (by decide +kernel) (by decide +kernel) rfl ?_
    refine e_ldi (show am_cd 71 30 = (2, 31, 3, 0, []) by decide +kernel) rfl ?_
    refine e_dup2 (show am_cd 71 31 = (14, 32, 0, 0, []) by decide +kernel) (by decide) ?_
    refine e_iald (a := 26) (n := 17) (show am_cd 71 32 = (21, 33, 0, 0, []) by decide +kernel) (by decide +kernel) (by decide +kernel) (by decide +kernel) h.1 ?_
    replace h := h.2
    refine e_ic (show am_cd 71 33 = (0, 34, 0, 1, []) by decide +kernel) ?_
    refine e_ldi (show am_cd 71 34 = (2, 35, 1, 0, []) by decide +kernel) rfl ?_
    refine e_ishl (show am_cd 71 35 = (5, 36, 6, 0, []) by decide +kernel) ?_
    refine e_ior (show am_cd 71 36 = (5, 37, 4, 0, []) by decide +kernel) ?_
    refine e_iast (a := 26) (n := 17) (show am_cd 71 37 = (24, 38, 0, 0, []) by decide +kernel) (by decide +kernel) (by decide +kernel) (by decide +kernel) h.1 ?_
    replace h := h.2
    exact h
  · replace h := h.2 hc
    refine e_lda (v := 15) (show am_cd 71 16 = (2, 17, 0, 2, []) by decide +kernel) rfl ?_
    refine e_getr (a := 15) (r := 17) (show am_cd 71 17 = (18, 20, 701, 2, [15]) by decide +kernel) (by decide +kernel) (by decide +kernel) rfl ?_
    refine e_ldi (show am_cd 71 20 = (2, 21, 1, 0, []) by decide +kernel) rfl ?_
    refine e_iald (a := 17) (n := 9) (show am_cd 71 21 = (21, 22, 0, 0, []) by decide +kernel) (by decide +kernel) (by decide +kernel) (by decide +kernel) h.1 ?_
    replace h := h.2
    refine e_ic (show am_cd 71 22 = (0, 23, 0, 2, []) by decide +kernel) ?_
    refine e_cmp1 (show am_cd 71 23 = (11, 26, 38, 1, []) by decide +kernel) (fun hc => ?_) (fun hc => ?_)
    · replace h := h.1 hc
      exact h
    · replace h := h.2 hc
      refine e_lda (v := 15) (show am_cd 71 26 = (2, 27, 0, 2, []) by decide +kernel) rfl ?_
      refine e_getr (a := 15) (r := 26) (show am_cd 71 27 = (18, 30, 710, 2, [42]) by decide +kernel) (by decide +kernel) (by decide +kernel) rfl ?_
      refine e_ldi (show am_cd 71 30 = (2, 31, 3, 0, []) by decide +kernel) rfl ?_
      refine e_dup2 (show am_cd 71 31 = (14, 32, 0, 0, []) by decide +kernel) (by decide) ?_
      refine e_iald (a := 26) (n := 17) (show am_cd 71 32 = (21, 33, 0, 0, []) by decide +kernel) (by decide +kernel) (by decide +kernel) (by decide +kernel) h.1 ?_
      replace h := h.2
      refine e_ic (show am_cd 71 33 = (0, 34, 0, 1, []) by decide +kernel) ?_
      refine e_ldi (show am_cd 71 34 = (2, 35, 1, 0, []) by decide +kernel) rfl ?_
      refine e_ishl (show am_cd 71 35 = (5, 36, 6, 0, []) by decide +kernel) ?_
      refine e_ior (show am_cd 71 36 = (5, 37, 4, 0, []) by decide +kernel) ?_
      refine e_iast (a := 26) (n := 17) (show am_cd 71 37 = (24, 38, 0, 0, []) by decide +kernel) (by decide +kernel) (by decide +kernel) (by decide +kernel) h.1 ?_
      replace h := h.2
      exact h

theorem g_ld1 {d : Nat} {Q : Option aV → aS → Prop} {w : eW} {t : eT} {r c : Int} {m : eW} (h : (0 ≤ w32 r ∧ w32 r < 9) ∧ ((¬ w32 (w 17 (w32 r).toNat) = w32 3 → Ev (d + 1) 71 Q 60 [rA 15, (0, r), rA 8, (0, c), (9, 0)] [] (enc w t)) ∧ (¬ (¬ w32 (w 17 (w32 r).toNat) = w32 3) → (0 ≤ w32 c ∧ w32 c < 17) ∧ (0 ≤ w32 c ∧ w32 c < 17) ∧ (Ev (d + 1) 71 Q 60 [rA 15, (0, r), rA 8, (0, c), (9, 0)] [] (enc (wu w 27 (w32 c).toNat (ior (w 27 (w32 c).toNat) (ishl 1 r))) t))))) : Ev (d + 1) 71 Q 38 [rA 15, (0, r), rA 8, (0, c), (9, 0)] [] (enc w t) := by
  refine e_lda (v := 15) (show am_cd 71 38 = (2, 39, 0, 2, []) by decide +kernel) rfl ?_
  refine e_getr (a := 15) (r := 17) (show am_cd 71 39 = (18, 42, 701, 2, [15]) by decide +kernel) (by decide +kernel) (by decide +kernel) rfl ?_
  refine e_ldi (show am_cd 71 42 = (2, 43, 1, 0, []) by decide +kernel) rfl ?_
  refine e_iald (a := 17) (n := 9) (show am_cd 71 43 = (21, 44, 0, 0, []) by decide +kernel) (by decide +kernel) (by decide +kernel) (by decide +kernel) h.1 ?_
  replace h := h.2
  refine e_ic (show am_cd 71 44 = (0, 45, 0, 3, []) by decide +kernel) ?_
  refine e_cmp1 (show am_cd 71 45 = (11, 48, 60, 1, []) by decide +kernel) (fun hc => ?_) (fun hc => ?_)
  · replace h := h.1 hc
    exact h
  · replace h := h.2 hc
    refine e_lda (v := 15) (show am_cd 71 48 = (2, 49, 0, 2, []) by decide +kernel) rfl ?_
    refine e_getr (a := 15) (r := 27) (show am_cd 71 49 = (18, 52, 711, 2, [45]) by decide +kernel) (by decide +kernel) (by decide +kernel) rfl ?_
    refine e_ldi (show am_cd 71 52 = (2, 53, 3, 0, []) by decide +kernel) rfl ?_
    refine e_dup2 (show am_cd 71 53 = (14, 54, 0, 0, []) by decide +kernel) (by decide) ?_
    refine e_iald (a := 27) (n := 17) (show am_cd 71 54 = (21, 55, 0, 0, []) by decide +kernel) (by decide +kernel) (by decide +kernel) (by decide +kernel) h.1 ?_
    replace h := h.2
    refine e_ic (show am_cd 71 55 = (0, 56, 0, 1, []) by decide +kernel) ?_
    refine e_ldi (show am_cd 71 56 = (2, 57, 1, 0, []) by decide +kernel) rfl ?_
    refine e_ishl (show am_cd 71 57 = (5, 58, 6, 0, []) by decide +kernel) ?_
    refine e_ior (show am_cd 71 58 = (5, 59, 4, 0, []) by decide +kernel) ?_
    refine e_iast (a := 27) (n := 17) (show am_cd 71 59 = (24, 60, 0, 0, []) by decide +kernel) (by decide +kernel) (by decide +kernel) (by decide +kernel) h.1 ?_
    replace h := h.2
    exact h

theorem g_ld2 {d : Nat} {Q : Option aV → aS → Prop} {w : eW} {t : eT} {r c : Int} {m : eW} (h : (0 ≤ w32 r ∧ w32 r < 9) ∧ ((w32 (w 17 (w32 r).toNat) = w32 1 → Ev (d + 1) 71 Q 71 [rA 15, (0, r), rA 8, (0, c), (0, 0)] [] (enc w t)) ∧ (¬ (w32 (w 17 (w32 r).toNat) = w32 1) → (0 ≤ w32 r ∧ w32 r < 9) ∧ ((¬ w32 (w 17 (w32 r).toNat) = w32 2 → Q none (enc w t)) ∧ (¬ (¬ w32 (w 17 (w32 r).toNat) = w32 2) → Ev (d + 1) 71 Q 71 [rA 15, (0, r), rA 8, (0, c), (0, 0)] [] (enc w t)))))) : Ev (d + 1) 71 Q 60 [rA 15, (0, r), rA 8, (0, c), (9, 0)] [] (enc w t) := by
  refine e_lda (v := 15) (show am_cd 71 60 = (2, 61, 0, 2, []) by decide +kernel) rfl ?_
  refine e_ldi (show am_cd 71 61 = (2, 62, 1, 0, []) by decide +kernel) rfl ?_
  refine e_cV (z := 0) (a := 15) (as := [(0, r)]) (rest := []) (show am_cd 71 62 = (40, 65, 72, 0, [129]) by decide +kernel) (by decide +kernel) rfl rfl (Nat.le_of_ble_eq_true rfl) rfl ?_
  show Ev _ 72 _ 0 [rA 15, (0, r)] [] _
  refine e_lda (v := 15) (show am_cd 72 0 = (2, 1, 0, 2, []) by decide +kernel) rfl ?_
  refine e_getr (a := 15) (r := 17) (show am_cd 72 1 = (18, 4, 701, 2, [15]) by decide +kernel) (by decide +kernel) (by decide +kernel) rfl ?_
  refine e_ldi (show am_cd 72 4 = (2, 5, 1, 0, []) by decide +kernel) rfl ?_
  refine e_iald (a := 17) (n := 9) (show am_cd 72 5 = (21, 6, 0, 0, []) by decide +kernel) (by decide +kernel) (by decide +kernel) (by decide +kernel) h.1 ?_
  replace h := h.2
  refine e_ic (show am_cd 72 6 = (0, 7, 0, 1, []) by decide +kernel) ?_
  refine e_cmp0 (show am_cd 72 7 = (11, 10, 20, 0, []) by decide +kernel) (fun hc => ?_) (fun hc => ?_)
  · replace h := h.1 hc
    refine e_ic (show am_cd 72 20 = (0, 21, 0, 1, []) by decide +kernel) ?_
    refine e_go (show am_cd 72 21 = (12, 25, 0, 0, []) by decide +kernel) ?_
    refine e_retz (show am_cd 72 25 = (36, 26, 0, 0, []) by decide +kernel) (by decide +kernel) (Or.inr rfl) ⟨fun _ h9 => (by cases h9), ?_⟩
    show Ev _ 71 _ 65 [rA 15, (0, r), rA 8, (0, c), (9, 0)] [(0, 1)] _
    refine e_ifF (show am_cd 71 65 = (10, 68, 121, 0, []) by decide +kernel) (by decide +kernel) ?_
    refine e_ic (show am_cd 71 68 = (0, 69, 0, 0, []) by decide +kernel) ?_
    refine e_sti (la2 := [rA 15, (0, r), rA 8, (0, c), (0, 0)]) (show am_cd 71 69 = (3, 71, 4, 0, []) by decide +kernel) rfl ?_
    exact h
  · replace h := h.2 hc
    refine e_lda (v := 15) (show am_cd 72 10 = (2, 11, 0, 2, []) by decide +kernel) rfl ?_
    refine e_getr (a := 15) (r := 17) (show am_cd 72 11 = (18, 14, 701, 2, [15]) by decide +kernel) (by decide +kernel) (by decide +kernel) rfl ?_
    refine e_ldi (show am_cd 72 14 = (2, 15, 1, 0, []) by decide +kernel) rfl ?_
    refine e_iald (a := 17) (n := 9) (show am_cd 72 15 = (21, 16, 0, 0, []) by decide +kernel) (by decide +kernel) (by decide +kernel) (by decide +kernel) h.1 ?_
    replace h := h.2
    refine e_ic (show am_cd 72 16 = (0, 17, 0, 2, []) by decide +kernel) ?_
    refine e_cmp1 (show am_cd 72 17 = (11, 20, 24, 1, []) by decide +kernel) (fun hc => ?_) (fun hc => ?_)
    · replace h := h.1 hc
      refine e_ic (show am_cd 72 24 = (0, 25, 0, 0, []) by decide +kernel) ?_
      refine e_retz (show am_cd 72 25 = (36, 26, 0, 0, []) by decide +kernel) (by decide +kernel) (Or.inl rfl) ⟨fun _ h9 => (by cases h9), ?_⟩
      show Ev _ 71 _ 65 [rA 15, (0, r), rA 8, (0, c), (9, 0)] [(0, 0)] _
      refine e_ifT (show am_cd 71 65 = (10, 68, 121, 0, []) by decide +kernel) (by decide +kernel) ?_
      exact e_retv (show am_cd 71 121 = (36, 122, 3, 0, []) by decide +kernel) (by decide +kernel) h
    · replace h := h.2 hc
      refine e_ic (show am_cd 72 20 = (0, 21, 0, 1, []) by decide +kernel) ?_
      refine e_go (show am_cd 72 21 = (12, 25, 0, 0, []) by decide +kernel) ?_
      refine e_retz (show am_cd 72 25 = (36, 26, 0, 0, []) by decide +kernel) (by decide +kernel) (Or.inr rfl) ⟨fun _ h9 => (by cases h9), ?_⟩
      show Ev _ 71 _ 65 [rA 15, (0, r), rA 8, (0, c), (9, 0)] [(0, 1)] _
      refine e_ifF (show am_cd 71 65 = (10, 68, 121, 0, []) by decide +kernel) (by decide +kernel) ?_
      refine e_ic (show am_cd 71 68 = (0, 69, 0, 0, []) by decide +kernel) ?_
      refine e_sti (la2 := [rA 15, (0, r), rA 8, (0, c), (0, 0)]) (show am_cd 71 69 = (3, 71, 4, 0, []) by decide +kernel) rfl ?_
      exact h

theorem g_ld3 {d : Nat} {Q : Option aV → aS → Prop} {w : eW} {t : eT} {r c p : Int} {m : eW} (h : ((w32 (w 8 6) ≤ w32 p → Q none (enc w t)) ∧ (¬ (w32 (w 8 6) ≤ w32 p) → ((w32 p = w32 c → Ev (d + 1) 71 Q 71 [rA 15, (0, r), rA 8, (0, c), (0, p + 1)] [] (enc w t)) ∧ (¬ (w32 p = w32 c) → (0 ≤ w32 p ∧ w32 p < 16) ∧ (0 ≤ w32 c ∧ w32 c < 16) ∧ ((¬ w32 (w 9 (w32 p).toNat) = w32 (w 9 (w32 c).toNat) → Ev (d + 1) 71 Q 71 [rA 15, (0, r), rA 8, (0, c), (0, p + 1)] [] (enc w t)) ∧ (¬ (¬ w32 (w 9 (w32 p).toNat) = w32 (w 9 (w32 c).toNat)) → (0 ≤ w32 p ∧ w32 p < 17) ∧ (0 ≤ w32 p ∧ w32 p < 17) ∧ (Ev (d + 1) 71 Q 71 [rA 15, (0, r), rA 8, (0, c), (0, p + 1)] [] (enc (wu w 27 (w32 p).toNat (ior (w 27 (w32 p).toNat) (ishl 1 r))) t))))))))) : Ev (d + 1) 71 Q 71 [rA 15, (0, r), rA 8, (0, c), (0, p)] [] (enc w t) := by
  refine e_ldi (show am_cd 71 71 = (2, 73, 4, 0, []) by decide +kernel) rfl ?_
  refine e_lda (v := 8) (show am_cd 71 73 = (2, 74, 2, 2, []) by decide +kernel) rfl ?_
  refine e_getf (a := 8) (tg := 0) (show am_cd 71 74 = (18, 77, 6, 0, [132]) by decide +kernel) (by decide +kernel) (by decide +kernel) rfl ?_
  refine e_cmp3 (show am_cd 71 77 = (11, 80, 121, 3, []) by decide +kernel) (fun hc => ?_) (fun hc => ?_)
  · replace h := h.1 hc
    exact e_retv (show am_cd 71 121 = (36, 122, 3, 0, []) by decide +kernel) (by decide +kernel) h
  · replace h := h.2 hc
    refine e_ldi (show am_cd 71 80 = (2, 82, 4, 0, []) by decide +kernel) rfl ?_
    refine e_ldi (show am_cd 71 82 = (2, 83, 3, 0, []) by decide +kernel) rfl ?_
    refine e_cmp0 (show am_cd 71 83 = (11, 86, 115, 0, []) by decide +kernel) (fun hc => ?_) (fun hc => ?_)
    · replace h := h.1 hc
      refine e_inc (la2 := [rA 15, (0, r), rA 8, (0, c), (0, p + 1)]) (show am_cd 71 115 = (4, 118, 4, 1, []) by decide +kernel) rfl rfl ?_
      refine e_go (show am_cd 71 118 = (12, 71, 0, 0, []) by decide +kernel) ?_
      exact h
    · replace h := h.2 hc
      refine e_lda (v := 8) (show am_cd 71 86 = (2, 87, 2, 2, []) by decide +kernel) rfl ?_
      refine e_getr (a := 8) (r := 9) (show am_cd 71 87 = (18, 90, 0, 2, [133]) by decide +kernel) (by decide +kernel) (by decide +kernel) rfl ?_
      refine e_ldi (show am_cd 71 90 = (2, 92, 4, 0, []) by decide +kernel) rfl ?_
      refine e_iald (a := 9) (n := 16) (show am_cd 71 92 = (21, 93, 0, 0, []) by decide +kernel) (by decide +kernel) (by decide +kernel) (by decide +kernel) h.1 ?_
      replace h := h.2
      refine e_lda (v := 8) (show am_cd 71 93 = (2, 94, 2, 2, []) by decide +kernel) rfl ?_
      refine e_getr (a := 8) (r := 9) (show am_cd 71 94 = (18, 97, 0, 2, [133]) by decide +kernel) (by decide +kernel) (by decide +kernel) rfl ?_
      refine e_ldi (show am_cd 71 97 = (2, 98, 3, 0, []) by decide +kernel) rfl ?_
      refine e_iald (a := 9) (n := 16) (show am_cd 71 98 = (21, 99, 0, 0, []) by decide +kernel) (by decide +kernel) (by decide +kernel) (by decide +kernel) h.1 ?_
      replace h := h.2
      refine e_cmp1 (show am_cd 71 99 = (11, 102, 115, 1, []) by decide +kernel) (fun hc => ?_) (fun hc => ?_)
      · replace h := h.1 hc
        refine e_inc (la2 := [rA 15, (0, r), rA 8, (0, c), (0, p + 1)]) (show am_cd 71 115 = (4, 118, 4, 1, []) by decide +kernel) rfl rfl ?_
        refine e_go (show am_cd 71 118 = (12, 71, 0, 0, []) by decide +kernel) ?_
        exact h
      · replace h := h.2 hc
        refine e_lda (v := 15) (show am_cd 71 102 = (2, 103, 0, 2, []) by decide +kernel) rfl ?_
        refine e_getr (a := 15) (r := 27) (show am_cd 71 103 = (18, 106, 711, 2, [45]) by decide +kernel) (by decide +kernel) (by decide +kernel) rfl ?_
        refine e_ldi (show am_cd 71 106 = (2, 108, 4, 0, []) by decide +kernel) rfl ?_
        refine e_dup2 (show am_cd 71 108 = (14, 109, 0, 0, []) by decide +kernel) (by decide) ?_
        refine e_iald (a := 27) (n := 17) (show am_cd 71 109 = (21, 110, 0, 0, []) by decide +kernel) (by decide +kernel) (by decide +kernel) (by decide +kernel) h.1 ?_
        replace h := h.2
        refine e_ic (show am_cd 71 110 = (0, 111, 0, 1, []) by decide +kernel) ?_
        refine e_ldi (show am_cd 71 111 = (2, 112, 1, 0, []) by decide +kernel) rfl ?_
        refine e_ishl (show am_cd 71 112 = (5, 113, 6, 0, []) by decide +kernel) ?_
        refine e_ior (show am_cd 71 113 = (5, 114, 4, 0, []) by decide +kernel) ?_
        refine e_iast (a := 27) (n := 17) (show am_cd 71 114 = (24, 115, 0, 0, []) by decide +kernel) (by decide +kernel) (by decide +kernel) (by decide +kernel) h.1 ?_
        replace h := h.2
        refine e_inc (la2 := [rA 15, (0, r), rA 8, (0, c), (0, p + 1)]) (show am_cd 71 115 = (4, 118, 4, 1, []) by decide +kernel) rfl rfl ?_
        refine e_go (show am_cd 71 118 = (12, 71, 0, 0, []) by decide +kernel) ?_
        exact h

/-- rules broken by a pair, one rule more -/
def ldS (m : eW) (r : Nat) (a : Nat) (f : Nat → Bool) (w w2 : eW) : Prop := ∀ p, p < 17 → w2 a p = cond (f p) (ior (w a p) (ishl 1 (r : Int))) (w a p)
theorem ldS_at {m : eW} {r a c : Nat} {w : eW} {f : Nat → Bool} (b : Bool) (hf : ∀ p, p < 17 → f p = (decide (p = c) && b)) (w2 : eW) (h : w2 a = if b then wu w a c (ior (w a c) (ishl 1 (r : Int))) a else w a) : ldS m r a f w w2 := by
  intro p hp
  rw [h, hf p hp]
  cases b with
  | false => rw [Bool.and_false]; rfl
  | true =>
    rw [Bool.and_true, if_pos rfl]
    by_cases h9 : p = c
    · rw [decide_eq_true h9, h9, wu_eq]; rfl
    · rw [decide_eq_false h9, wu_nk _ _ h9]; rfl
theorem c_ld {d r : Nat} {w m : eW} {t : eT} (h : RC w m ∧ AC w m ∧ WFp m ∧ WFr m ∧ r < nR m) : Cl (d + 1) 71 [rA 15, (0, (r : Int)), rA 8] (enc w t) (fun z S2 => ∃ w2, z = none ∧ S2 = enc w2 t ∧ Fc [26, 27] [] w w2 ∧ ldS m r 26 (mu m r) w w2 ∧ ldS m r 27 (ba m r) w w2) := by
  obtain ⟨hR, hA, hp, hr, hrn⟩ := h
  have hn := hr.n
  have hpn := hp.n
  obtain ⟨e16, e17, _⟩ := hR.2 r hrn
  have hw := hr.2 r hrn
  obtain ⟨c, hc⟩ : ∃ c : Nat, m 72 r = (c : Int) := ⟨(m 72 r).toNat, by omega⟩
  have hcn : c < nP m := by omega
  have rr : (0 : Int) ≤ (r : Int) ∧ (r : Int) < 9 := by omega
  have cc : (0 : Int) ≤ (c : Int) ∧ (c : Int) < 17 := by omega
  have hcc : ∀ p : Nat, ((p : Int) = m 72 r) ↔ p = c := fun p => by rw [hc]; omega
  -- the loop, and what comes before it
  have fin : ∀ w1, Fc [26, 27] [] w w1 → ldS m r 26 (mu m r) w w1 → ldS m r 27 (fun p => decide (p = c) && decide (m 73 r = 3)) w w1 → Ev (d + 1) 71 (fun z S2 => ∃ w2, z = none ∧ S2 = enc w2 t ∧ Fc [26, 27] [] w w2 ∧ ldS m r 26 (mu m r) w w2 ∧ ldS m r 27 (ba m r) w w2) 60 [rA 15, (0, (r : Int)), rA 8, (0, (c : Int)), (9, 0)] [] (enc w1 t) := fun w1 f1 s26 s27 => by
    have e17' : w1 17 = w 17 := f1.row (by decide) (by decide)
    refine g_ld2 (m := m) ?_
    rw [w32_id (x := (r : Int)) (by omega), Int.toNat_natCast, e17', e17]
    simp (disch := omega) only [w32_id]
    have loop : (m 73 r = 1 ∨ m 73 r = 2) → Ev (d + 1) 71 (fun z S2 => ∃ w2, z = none ∧ S2 = enc w2 t ∧ Fc [26, 27] [] w w2 ∧ ldS m r 26 (mu m r) w w2 ∧ ldS m r 27 (ba m r) w w2) 71 [rA 15, (0, (r : Int)), rA 8, (0, (c : Int)), (0, 0)] [] (enc w1 t) := fun hd => by
      refine lq1 (σ := eW) (fun p w2 => Ev (d + 1) 71 (fun z S2 => ∃ w2, z = none ∧ S2 = enc w2 t ∧ Fc [26, 27] [] w w2 ∧ ldS m r 26 (mu m r) w w2 ∧ ldS m r 27 (ba m r) w w2) 71 [rA 15, (0, (r : Int)), rA 8, (0, (c : Int)), (0, (p : Int))] [] (enc w2 t)) (fun p w2 => Fc [26, 27] [] w w2 ∧ ldS m r 26 (mu m r) w w2 ∧ ldS m r 27 (fun q => decide (q < p) && ba m r q) w w2) (nP m) ?_ ?_ 0 _ (Nat.zero_le _) ⟨f1, s26, ?_⟩
      · rintro p w2 hpl ⟨g1, g26, g27⟩ hE
        have e8 : w2 8 6 = w 8 6 := g1 _ _ (by decide) (by decide)
        have e9 : w2 9 = w 9 := g1.row (by decide) (by decide)
        refine g_ld3 (m := m) ?_
        have b1 := hp.2.1 p hpl
        have b2 := hp.2.1 c hcn
        have c1 := cdI_b b1.1
        have c2 := cdI_b b2.1
        rw [w32_id (x := (p : Int)) (by omega), w32_id (x := (c : Int)) (by omega), Int.toNat_natCast, Int.toNat_natCast, e8, e9, hA.1, ← hpn.1, (hA.2.1 p hpl).1, (hA.2.1 c hcn).1]
        simp (disch := omega) only [w32_id]
        rw [cdI_i b1.1 b2.1]
        have same : ba m r p = false → Ev (d + 1) 71 (fun z S2 => ∃ w2, z = none ∧ S2 = enc w2 t ∧ Fc [26, 27] [] w w2 ∧ ldS m r 26 (mu m r) w w2 ∧ ldS m r 27 (ba m r) w w2) 71 [rA 15, (0, (r : Int)), rA 8, (0, (c : Int)), (0, (p : Int) + 1)] [] (enc w2 t) := fun h9 => by
          refine hE w2 ⟨g1, g26, fun q hq => ?_⟩
          rw [g27 q hq]
          dsimp only
          by_cases h8 : q = p
          · rw [h8, h9, Bool.and_false, Bool.and_false]
          · rw [show decide (q < p + 1) = decide (q < p) by rw [decide_eq_decide]; omega]
        refine ⟨fun h9 => absurd h9 (by omega), fun _ => ⟨fun h9 => same ?_, fun h9 => ⟨by omega, by omega, fun h8 => same ?_, fun h8 => ⟨by omega, by omega, hE _ ⟨g1.tr (Fc.pr (by decide)), ?_, ?_⟩⟩⟩⟩⟩
        · have : p = c := by omega
          unfold ba
          rw [decide_eq_true ((hcc p).mpr this), decide_eq_false (show ¬ m 73 r = 3 by omega)]
          simp
        · unfold ba
          rw [hc, Int.toNat_natCast, decide_eq_false h8, decide_eq_false (show ¬ (p : Int) = (c : Int) by omega)]
          simp
        · intro q hq
          rw [wu_na _ _ (by decide)]
          exact g26 q hq
        · intro q hq
          have hba : ba m r p = true := by
            unfold ba
            rw [hc, Int.toNat_natCast, decide_eq_true (Classical.not_not.mp h8), decide_eq_false (show ¬ (p : Int) = (c : Int) by omega), decide_eq_true hpl]
            rcases hd with hd | hd
            · rw [decide_eq_true hd]; simp
            · rw [decide_eq_true hd]; simp
          by_cases h7 : q = p
          · have g := g27 p (by omega)
            dsimp only at g ⊢
            rw [decide_eq_false (show ¬ p < p by omega), Bool.false_and] at g
            replace g : w2 27 p = w 27 p := g
            rw [h7, wu_eq, g, hba, decide_eq_true (show p < p + 1 by omega)]
            rfl
          · rw [wu_nk _ _ h7, g27 q hq]
            dsimp only
            rw [show decide (q < p + 1) = decide (q < p) by rw [decide_eq_decide]; omega]
      · rintro w2 ⟨g1, g26, g27⟩
        have e8 : w2 8 6 = w 8 6 := g1 _ _ (by decide) (by decide)
        refine g_ld3 (m := m) ⟨fun _ => ⟨w2, rfl, rfl, g1, g26, fun q hq => ?_⟩, fun h9 => absurd (by rw [e8, hA.1, hpn.1]; exact Int.le_refl _) h9⟩
        rw [g27 q hq]
        dsimp only
        by_cases h8 : q < nP m
        · rw [decide_eq_true h8, Bool.true_and]
        · have : ba m r q = false := by
            unfold ba
            rw [decide_eq_false h8, decide_eq_false (fun h7 => by have := (hcc q).mp h7; omega)]
            rfl
          rw [this, Bool.and_false]
      · intro q hq
        rw [s27 q hq]
        dsimp only
        rw [decide_eq_false (show ¬ m 73 r = 3 by omega), decide_eq_false (Nat.not_lt_zero q), Bool.and_false, Bool.false_and]
    refine ⟨rr, fun h1 => loop (Or.inl h1), fun h1 => ⟨rr, fun h2 => ?_, fun h2 => loop (Or.inr (Classical.not_not.mp h2))⟩⟩
    refine ⟨w1, by trivial, by trivial, f1, s26, fun q hq => ?_⟩
    rw [s27 q hq]
    dsimp only
    have : ba m r q = (decide (q = c) && decide (m 73 r = 3)) := by
      unfold ba
      rw [decide_eq_false h1, decide_eq_false h2, show decide ((q : Int) = m 72 r) = decide (q = c) by rw [decide_eq_decide]; exact hcc q]
      simp
    rw [this]
  have mid : ∀ w1, Fc [26, 27] [] w w1 → ldS m r 26 (mu m r) w w1 → w1 27 = w 27 → Ev (d + 1) 71 (fun z S2 => ∃ w2, z = none ∧ S2 = enc w2 t ∧ Fc [26, 27] [] w w2 ∧ ldS m r 26 (mu m r) w w2 ∧ ldS m r 27 (ba m r) w w2) 38 [rA 15, (0, (r : Int)), rA 8, (0, (c : Int)), (9, 0)] [] (enc w1 t) := fun w1 f1 s26 e27 => by
    have e17' : w1 17 = w 17 := f1.row (by decide) (by decide)
    refine g_ld1 (m := m) ?_
    rw [w32_id (x := (r : Int)) (by omega), Int.toNat_natCast, e17', e17, w32_id (x := (c : Int)) (by omega), Int.toNat_natCast]
    simp (disch := omega) only [w32_id]
    refine ⟨rr, fun h3 => fin w1 f1 s26 (ldS_at (c := c) false (fun p _ => by rw [decide_eq_false h3]) w1 (by rw [e27]; rfl)), fun h3 => ⟨cc, cc, fin _ (f1.tr (Fc.pr (by decide))) (fun p hp => by rw [wu_na _ _ (by decide)]; exact s26 p hp) (ldS_at (c := c) true (fun p _ => by rw [decide_eq_true (Classical.not_not.mp h3)]) _ ?_)⟩⟩
    funext p
    rw [if_pos rfl, e27]
    unfold wu
    by_cases h9 : p = c
    · rw [if_pos ⟨rfl, h9⟩, if_pos ⟨rfl, h9⟩]
    · rw [if_neg (fun h8 => h9 h8.2), if_neg (fun h8 => h9 h8.2), e27]
  refine g_ld (m := m) ?_
  rw [w32_id (x := (r : Int)) (by omega), Int.toNat_natCast, e17, e16, hc, w32_id (x := (c : Int)) (by omega), Int.toNat_natCast]
  simp (disch := omega) only [w32_id]
  have hmu : ∀ b : Bool, (decide (m 73 r = 0) || decide (m 73 r = 2)) = b → ∀ p, p < 17 → mu m r p = (decide (p = c) && b) := fun b hb p _ => by
    unfold mu
    rw [hb, show decide ((p : Int) = m 72 r) = decide (p = c) by rw [decide_eq_decide]; exact hcc p]
  have set : (m 73 r = 0 ∨ m 73 r = 2) → Ev (d + 1) 71 (fun z S2 => ∃ w2, z = none ∧ S2 = enc w2 t ∧ Fc [26, 27] [] w w2 ∧ ldS m r 26 (mu m r) w w2 ∧ ldS m r 27 (ba m r) w w2) 38 [rA 15, (0, (r : Int)), rA 8, (0, (c : Int)), (9, 0)] [] (enc (wu w 26 c (ior (w 26 c) (ishl 1 (r : Int)))) t) := fun h9 => mid _ (Fc.pr (by decide)) (ldS_at true (hmu true (by rcases h9 with h | h <;> rw [decide_eq_true h] <;> simp)) _ (by rw [if_pos rfl])) rfl
  refine ⟨rr, rr, fun h0 => ⟨cc, cc, set (Or.inl h0)⟩, fun h0 => ⟨rr, fun h2 => mid w (Fc.rf _ _ _) (ldS_at false (hmu false (by rw [decide_eq_false h0, decide_eq_false h2]; rfl)) _ rfl) rfl, fun h2 => ⟨cc, cc, set (Or.inr (Classical.not_not.mp h2))⟩⟩⟩

