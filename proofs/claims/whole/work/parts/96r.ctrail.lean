/-! The class: trails. -/
theorem bts8 (f : Nat → Bool) {m : eW} (hr : WFr m) : bts f (nR m) < 256 := bts_le (k := 8) hr.n.2
theorem or_add {x y k : Nat} (hx : x < 2 ^ k) : x ||| (2 ^ k * y) = x + 2 ^ k * y := by
  rw [Nat.or_comm, ← Nat.two_pow_add_eq_or_of_lt hx, Nat.add_comm]
theorem ishlN {x y : Nat} (h : x * 2 ^ y < 2147483648) (hy : y < 32) : ishl (x : Int) (y : Int) = ((2 ^ y * x : Nat) : Int) := by
  rw [b_shl (by rw [Nat.shiftLeft_eq]; exact h) hy, Nat.shiftLeft_eq, Nat.mul_comm]
theorem tr_b {m : eW} (hr : WFr m) {a b c : Nat} (hc : c ≤ 16) : tr m a b c < 2097152 ∧ tr m a b c % 32 = c ∧ tr m a b c / 32 % 256 = ftB m a b c ∧ tr m a b c / 8192 = nxB m b c := by
  have h1 : ftB m a b c < 256 := bts8 _ hr
  have h2 : nxB m b c < 256 := bts8 _ hr
  unfold tr
  omega
theorem i_and31 {x : Nat} (h : x < 2147483648) : iand (x : Int) 31 = ((x % 32 : Nat) : Int) := by
  rw [show (31 : Int) = ((31 : Nat) : Int) from rfl, b_and h, show (31 : Nat) = 2 ^ 5 - 1 from rfl, Nat.and_two_pow_sub_one_eq_mod]
theorem i_shrN {x y : Nat} (h : x < 2147483648) (hy : y < 32) : ishr (x : Int) (y : Int) = ((x / 2 ^ y : Nat) : Int) := by
  rw [b_shr h hy, Nat.shiftRight_eq_div_pow]
theorem i_f5 {x : Nat} (h : x < 2147483648) : iand (ishr (x : Int) 5) 255 = ((x / 32 % 256 : Nat) : Int) := by
  rw [show (5 : Int) = ((5 : Nat) : Int) from rfl, i_shrN h (by decide), show (255 : Int) = ((255 : Nat) : Int) from rfl, b_and (by omega), show (255 : Nat) = 2 ^ 8 - 1 from rfl, Nat.and_two_pow_sub_one_eq_mod]
theorem mu16 {m : eW} (hp : WFp m) (hr : WFr m) {r : Nat} (h : r < nR m) : mu m r 16 = false ∧ ba m r 16 = false := by
  have hw := hr.2 r h
  have hn := hp.n
  have : ¬ ((16 : Nat) : Int) = m 72 r := by omega
  unfold mu ba
  rw [decide_eq_false this, decide_eq_false (show ¬ 16 < nP m by omega)]
  exact ⟨rfl, rfl⟩
theorem tr0 {m : eW} (hp : WFp m) (hr : WFr m) : tr m 16 16 16 = 16 + 8192 * bts (fun r => nf m r 16) (nR m) := by
  have h1 : ftB m 16 16 16 = 0 := bts_zero.mpr (fun r h => by rw [(mu16 hp hr h).1, (mu16 hp hr h).2]; simp)
  have h2 : nxB m 16 16 = bts (fun r => nf m r 16) (nR m) := bts_congr (fun r h => by
    have hw := hr.2 r h
    unfold ff
    by_cases h2 : m 74 r = 2
    · have : nf m r 16 = false := by
        have hPT := pt_of (hw.2.2.2.2.2.1 h2)
        have hb := pt_b hp hPT
        unfold nf ft
        rw [decide_eq_false (by omega), if_neg (by omega)]
        have h9 := hw.2.2.2.2.2.1 h2
        have h10 : (2 : Int) ^ nP m ≤ 65536 := by
          have := Nat.pow_le_pow_right (n := 2) (by decide) hp.n.2
          have e : (2 : Int) ^ nP m = ((2 ^ nP m : Nat) : Int) := by simp
          rw [e]
          generalize 2 ^ nP m = z at *
          omega
        rw [if_neg (by omega), decide_eq_false (fun h8 => h8 rfl)]
        rfl
      rw [this, Bool.and_false]
    · rw [decide_eq_false h2]; simp)
  unfold tr
  rw [h1, h2]

theorem g_rstart {d : Nat} {Q : Option aV → aS → Prop} {w : eW} {t : eT} (h : Q (some (0, ior 16 (ishl (w 24 16) 13))) (enc w t)) : Cl (d) 73 [rA 15] (enc w t) Q := by
  show Ev (d) 73 Q 0 [rA 15] [] (enc w t)
  refine e_ic (show am_cd 73 0 = (0, 2, 1, 16, []) by decide +kernel) ?_
  refine e_lda (v := 15) (show am_cd 73 2 = (2, 3, 0, 2, []) by decide +kernel) rfl ?_
  refine e_getr (a := 15) (r := 24) (show am_cd 73 3 = (18, 6, 708, 2, [36]) by decide +kernel) (by decide +kernel) (by decide +kernel) rfl ?_
  refine e_ic (show am_cd 73 6 = (0, 8, 1, 16, []) by decide +kernel) ?_
  refine e_ialdK (a := 24) (n := 17) (j := 16) (v := w 24 16) (show am_cd 73 8 = (21, 9, 0, 0, []) by decide +kernel) (by decide +kernel) (by decide +kernel) (by decide +kernel) (by decide +kernel) (by decide +kernel) rfl ?_
  refine e_ic (show am_cd 73 9 = (0, 11, 1, 13, []) by decide +kernel) ?_
  refine e_ishl (show am_cd 73 11 = (5, 12, 6, 0, []) by decide +kernel) ?_
  refine e_ior (show am_cd 73 12 = (5, 13, 4, 0, []) by decide +kernel) ?_
  exact e_reti (show am_cd 73 13 = (36, 14, 0, 0, []) by decide +kernel) (by decide +kernel) h

theorem g_rfollow {d : Nat} {Q : Option aV → aS → Prop} {w : eW} {t : eT} {x p : Int} (h : (0 ≤ w32 p ∧ w32 p < 17) ∧ (0 ≤ w32 p ∧ w32 p < 17) ∧ (0 ≤ w32 (iand x 31) ∧ w32 (iand x 31) < 17) ∧ (0 ≤ w32 p ∧ w32 p < 17) ∧ (Q (some (0, ior (ior p (ishl (iand (ishr x 13) (ior (w 26 (w32 p).toNat) (w 27 (w32 p).toNat))) 5)) (ishl (iand (w 23 (w32 (iand x 31)).toNat) (w 24 (w32 p).toNat)) 13))) (enc w t))) : Cl (d) 74 [rA 15, (0, x), (0, p)] (enc w t) Q := by
  show Ev (d) 74 Q 0 [rA 15, (0, x), (0, p), (9, 0)] [] (enc w t)
  refine e_ldi (show am_cd 74 0 = (2, 1, 1, 0, []) by decide +kernel) rfl ?_
  refine e_ic (show am_cd 74 1 = (0, 3, 1, 13, []) by decide +kernel) ?_
  refine e_ishr (show am_cd 74 3 = (5, 4, 7, 0, []) by decide +kernel) ?_
  refine e_lda (v := 15) (show am_cd 74 4 = (2, 5, 0, 2, []) by decide +kernel) rfl ?_
  refine e_getr (a := 15) (r := 26) (show am_cd 74 5 = (18, 8, 710, 2, [42]) by decide +kernel) (by decide +kernel) (by decide +kernel) rfl ?_
  refine e_ldi (show am_cd 74 8 = (2, 9, 2, 0, []) by decide +kernel) rfl ?_
  refine e_iald (a := 26) (n := 17) (show am_cd 74 9 = (21, 10, 0, 0, []) by decide +kernel) (by decide +kernel) (by decide +kernel) (by decide +kernel) h.1 ?_
  replace h := h.2
  refine e_lda (v := 15) (show am_cd 74 10 = (2, 11, 0, 2, []) by decide +kernel) rfl ?_
  refine e_getr (a := 15) (r := 27) (show am_cd 74 11 = (18, 14, 711, 2, [45]) by decide +kernel) (by decide +kernel) (by decide +kernel) rfl ?_
  refine e_ldi (show am_cd 74 14 = (2, 15, 2, 0, []) by decide +kernel) rfl ?_
  refine e_iald (a := 27) (n := 17) (show am_cd 74 15 = (21, 16, 0, 0, []) by decide +kernel) (by decide +kernel) (by decide +kernel) (by decide +kernel) h.1 ?_
  replace h := h.2
  refine e_ior (show am_cd 74 16 = (5, 17, 4, 0, []) by decide +kernel) ?_
  refine e_iand (show am_cd 74 17 = (5, 18, 3, 0, []) by decide +kernel) ?_
  refine e_sti (la2 := [rA 15, (0, x), (0, p), (0, iand (ishr x 13) (ior (w 26 (w32 p).toNat) (w 27 (w32 p).toNat)))]) (show am_cd 74 18 = (3, 19, 3, 0, []) by decide +kernel) rfl ?_
  refine e_ldi (show am_cd 74 19 = (2, 20, 2, 0, []) by decide +kernel) rfl ?_
  refine e_ldi (show am_cd 74 20 = (2, 21, 3, 0, []) by decide +kernel) rfl ?_
  refine e_ic (show am_cd 74 21 = (0, 22, 0, 5, []) by decide +kernel) ?_
  refine e_ishl (show am_cd 74 22 = (5, 23, 6, 0, []) by decide +kernel) ?_
  refine e_ior (show am_cd 74 23 = (5, 24, 4, 0, []) by decide +kernel) ?_
  refine e_lda (v := 15) (show am_cd 74 24 = (2, 25, 0, 2, []) by decide +kernel) rfl ?_
  refine e_getr (a := 15) (r := 23) (show am_cd 74 25 = (18, 28, 707, 2, [33]) by decide +kernel) (by decide +kernel) (by decide +kernel) rfl ?_
  refine e_ldi (show am_cd 74 28 = (2, 29, 1, 0, []) by decide +kernel) rfl ?_
  refine e_ic (show am_cd 74 29 = (0, 31, 1, 31, []) by decide +kernel) ?_
  refine e_iand (show am_cd 74 31 = (5, 32, 3, 0, []) by decide +kernel) ?_
  refine e_iald (a := 23) (n := 17) (show am_cd 74 32 = (21, 33, 0, 0, []) by decide +kernel) (by decide +kernel) (by decide +kernel) (by decide +kernel) h.1 ?_
  replace h := h.2
  refine e_lda (v := 15) (show am_cd 74 33 = (2, 34, 0, 2, []) by decide +kernel) rfl ?_
  refine e_getr (a := 15) (r := 24) (show am_cd 74 34 = (18, 37, 708, 2, [36]) by decide +kernel) (by decide +kernel) (by decide +kernel) rfl ?_
  refine e_ldi (show am_cd 74 37 = (2, 38, 2, 0, []) by decide +kernel) rfl ?_
  refine e_iald (a := 24) (n := 17) (show am_cd 74 38 = (21, 39, 0, 0, []) by decide +kernel) (by decide +kernel) (by decide +kernel) (by decide +kernel) h.1 ?_
  replace h := h.2
  refine e_iand (show am_cd 74 39 = (5, 40, 3, 0, []) by decide +kernel) ?_
  refine e_ic (show am_cd 74 40 = (0, 42, 1, 13, []) by decide +kernel) ?_
  refine e_ishl (show am_cd 74 42 = (5, 43, 6, 0, []) by decide +kernel) ?_
  refine e_ior (show am_cd 74 43 = (5, 44, 4, 0, []) by decide +kernel) ?_
  exact e_reti (show am_cd 74 44 = (36, 45, 0, 0, []) by decide +kernel) (by decide +kernel) h

theorem g_rbroken {d : Nat} {Q : Option aV → aS → Prop} {w : eW} {t : eT} {x p : Int} (h : (0 ≤ w32 p ∧ w32 p < 17) ∧ (0 ≤ w32 (iand x 31) ∧ w32 (iand x 31) < 17) ∧ (0 ≤ w32 (iand x 31) ∧ w32 (iand x 31) < 17) ∧ (Q (some (0, ior (iand (w 26 (w32 (iand x 31)).toNat) (ixor (iand (iand (ishr x 5) 255) (w 25 (w32 p).toNat)) (-1))) (iand (w 27 (w32 (iand x 31)).toNat) (iand (iand (ishr x 5) 255) (w 25 (w32 p).toNat))))) (enc w t))) : Cl (d) 75 [rA 15, (0, x), (0, p)] (enc w t) Q := by
  show Ev (d) 75 Q 0 [rA 15, (0, x), (0, p), (9, 0), (9, 0)] [] (enc w t)
  refine e_ldi (show am_cd 75 0 = (2, 1, 1, 0, []) by decide +kernel) rfl ?_
  refine e_ic (show am_cd 75 1 = (0, 2, 0, 5, []) by decide +kernel) ?_
  refine e_ishr (show am_cd 75 2 = (5, 3, 7, 0, []) by decide +kernel) ?_
  refine e_ic (show am_cd 75 3 = (0, 6, 2, 255, []) by decide +kernel) ?_
  refine e_iand (show am_cd 75 6 = (5, 7, 3, 0, []) by decide +kernel) ?_
  refine e_lda (v := 15) (show am_cd 75 7 = (2, 8, 0, 2, []) by decide +kernel) rfl ?_
  refine e_getr (a := 15) (r := 25) (show am_cd 75 8 = (18, 11, 709, 2, [39]) by decide +kernel) (by decide +kernel) (by decide +kernel) rfl ?_
  refine e_ldi (show am_cd 75 11 = (2, 12, 2, 0, []) by decide +kernel) rfl ?_
  refine e_iald (a := 25) (n := 17) (show am_cd 75 12 = (21, 13, 0, 0, []) by decide +kernel) (by decide +kernel) (by decide +kernel) (by decide +kernel) h.1 ?_
  replace h := h.2
  refine e_iand (show am_cd 75 13 = (5, 14, 3, 0, []) by decide +kernel) ?_
  refine e_sti (la2 := [rA 15, (0, x), (0, p), (0, iand (iand (ishr x 5) 255) (w 25 (w32 p).toNat)), (9, 0)]) (show am_cd 75 14 = (3, 15, 3, 0, []) by decide +kernel) rfl ?_
  refine e_ldi (show am_cd 75 15 = (2, 16, 1, 0, []) by decide +kernel) rfl ?_
  refine e_ic (show am_cd 75 16 = (0, 18, 1, 31, []) by decide +kernel) ?_
  refine e_iand (show am_cd 75 18 = (5, 19, 3, 0, []) by decide +kernel) ?_
  refine e_sti (la2 := [rA 15, (0, x), (0, p), (0, iand (iand (ishr x 5) 255) (w 25 (w32 p).toNat)), (0, iand x 31)]) (show am_cd 75 19 = (3, 21, 4, 0, []) by decide +kernel) rfl ?_
  refine e_lda (v := 15) (show am_cd 75 21 = (2, 22, 0, 2, []) by decide +kernel) rfl ?_
  refine e_getr (a := 15) (r := 26) (show am_cd 75 22 = (18, 25, 710, 2, [42]) by decide +kernel) (by decide +kernel) (by decide +kernel) rfl ?_
  refine e_ldi (show am_cd 75 25 = (2, 27, 4, 0, []) by decide +kernel) rfl ?_
  refine e_iald (a := 26) (n := 17) (show am_cd 75 27 = (21, 28, 0, 0, []) by decide +kernel) (by decide +kernel) (by decide +kernel) (by decide +kernel) h.1 ?_
  replace h := h.2
  refine e_ldi (show am_cd 75 28 = (2, 29, 3, 0, []) by decide +kernel) rfl ?_
  refine e_ic (show am_cd 75 29 = (0, 30, 0, -1, []) by decide +kernel) ?_
  refine e_ixor (show am_cd 75 30 = (5, 31, 5, 0, []) by decide +kernel) ?_
  refine e_iand (show am_cd 75 31 = (5, 32, 3, 0, []) by decide +kernel) ?_
  refine e_lda (v := 15) (show am_cd 75 32 = (2, 33, 0, 2, []) by decide +kernel) rfl ?_
  refine e_getr (a := 15) (r := 27) (show am_cd 75 33 = (18, 36, 711, 2, [45]) by decide +kernel) (by decide +kernel) (by decide +kernel) rfl ?_
  refine e_ldi (show am_cd 75 36 = (2, 38, 4, 0, []) by decide +kernel) rfl ?_
  refine e_iald (a := 27) (n := 17) (show am_cd 75 38 = (21, 39, 0, 0, []) by decide +kernel) (by decide +kernel) (by decide +kernel) (by decide +kernel) h.1 ?_
  replace h := h.2
  refine e_ldi (show am_cd 75 39 = (2, 40, 3, 0, []) by decide +kernel) rfl ?_
  refine e_iand (show am_cd 75 40 = (5, 41, 3, 0, []) by decide +kernel) ?_
  refine e_ior (show am_cd 75 41 = (5, 42, 4, 0, []) by decide +kernel) ?_
  exact e_reti (show am_cd 75 42 = (36, 43, 0, 0, []) by decide +kernel) (by decide +kernel) h

theorem g_rmay {d : Nat} {Q : Option aV → aS → Prop} {w : eW} {t : eT} {x : Int} (h : ((w32 (iand (ishr (w 15 17) (iand x 31)) 1) = 0 → Ev (d) 76 Q 47 [rA 15, (0, x), (0, iand x 31), (0, iand (ishr x 5) 255), (0, ior (w 15 16) 65536), (0, 0), (9, 0)] [] (enc w t)) ∧ (¬ (w32 (iand (ishr (w 15 17) (iand x 31)) 1) = 0) → Ev (d) 76 Q 47 [rA 15, (0, x), (0, iand x 31), (0, iand (ishr x 5) 255), (0, iand (ior (w 15 16) 65536) (ixor (w 15 17) (-1))), (0, 0), (9, 0)] [] (enc w t)))) : Cl (d) 76 [rA 15, (0, x)] (enc w t) Q := by
  show Ev (d) 76 Q 0 [rA 15, (0, x), (9, 0), (9, 0), (9, 0), (9, 0), (9, 0)] [] (enc w t)
  refine e_ldi (show am_cd 76 0 = (2, 1, 1, 0, []) by decide +kernel) rfl ?_
  refine e_ic (show am_cd 76 1 = (0, 3, 1, 31, []) by decide +kernel) ?_
  refine e_iand (show am_cd 76 3 = (5, 4, 3, 0, []) by decide +kernel) ?_
  refine e_sti (la2 := [rA 15, (0, x), (0, iand x 31), (9, 0), (9, 0), (9, 0), (9, 0)]) (show am_cd 76 4 = (3, 5, 2, 0, []) by decide +kernel) rfl ?_
  refine e_ldi (show am_cd 76 5 = (2, 6, 1, 0, []) by decide +kernel) rfl ?_
  refine e_ic (show am_cd 76 6 = (0, 7, 0, 5, []) by decide +kernel) ?_
  refine e_ishr (show am_cd 76 7 = (5, 8, 7, 0, []) by decide +kernel) ?_
  refine e_ic (show am_cd 76 8 = (0, 11, 2, 255, []) by decide +kernel) ?_
  refine e_iand (show am_cd 76 11 = (5, 12, 3, 0, []) by decide +kernel) ?_
  refine e_sti (la2 := [rA 15, (0, x), (0, iand x 31), (0, iand (ishr x 5) 255), (9, 0), (9, 0), (9, 0)]) (show am_cd 76 12 = (3, 13, 3, 0, []) by decide +kernel) rfl ?_
  refine e_lda (v := 15) (show am_cd 76 13 = (2, 14, 0, 2, []) by decide +kernel) rfl ?_
  refine e_getf (a := 15) (tg := 0) (show am_cd 76 14 = (18, 17, 716, 0, [112]) by decide +kernel) (by decide +kernel) (by decide +kernel) rfl ?_
  refine e_ic (show am_cd 76 17 = (0, 19, 3, 65536, [97]) by decide +kernel) ?_
  refine e_ior (show am_cd 76 19 = (5, 20, 4, 0, []) by decide +kernel) ?_
  refine e_sti (la2 := [rA 15, (0, x), (0, iand x 31), (0, iand (ishr x 5) 255), (0, ior (w 15 16) 65536), (9, 0), (9, 0)]) (show am_cd 76 20 = (3, 22, 4, 0, []) by decide +kernel) rfl ?_
  refine e_lda (v := 15) (show am_cd 76 22 = (2, 23, 0, 2, []) by decide +kernel) rfl ?_
  refine e_getf (a := 15) (tg := 0) (show am_cd 76 23 = (18, 26, 717, 0, [118]) by decide +kernel) (by decide +kernel) (by decide +kernel) rfl ?_
  refine e_ldi (show am_cd 76 26 = (2, 27, 2, 0, []) by decide +kernel) rfl ?_
  refine e_ishr (show am_cd 76 27 = (5, 28, 7, 0, []) by decide +kernel) ?_
  refine e_ic (show am_cd 76 28 = (0, 29, 0, 1, []) by decide +kernel) ?_
  refine e_iand (show am_cd 76 29 = (5, 30, 3, 0, []) by decide +kernel) ?_
  refine e_if0 (show am_cd 76 30 = (10, 33, 44, 0, []) by decide +kernel) (fun hc => ?_) (fun hc => ?_)
  · replace h := h.1 hc
    refine e_ic (show am_cd 76 44 = (0, 45, 0, 0, []) by decide +kernel) ?_
    refine e_sti (la2 := [rA 15, (0, x), (0, iand x 31), (0, iand (ishr x 5) 255), (0, ior (w 15 16) 65536), (0, 0), (9, 0)]) (show am_cd 76 45 = (3, 47, 5, 0, []) by decide +kernel) rfl ?_
    exact h
  · replace h := h.2 hc
    refine e_ldi (show am_cd 76 33 = (2, 35, 4, 0, []) by decide +kernel) rfl ?_
    refine e_lda (v := 15) (show am_cd 76 35 = (2, 36, 0, 2, []) by decide +kernel) rfl ?_
    refine e_getf (a := 15) (tg := 0) (show am_cd 76 36 = (18, 39, 717, 0, [118]) by decide +kernel) (by decide +kernel) (by decide +kernel) rfl ?_
    refine e_ic (show am_cd 76 39 = (0, 40, 0, -1, []) by decide +kernel) ?_
    refine e_ixor (show am_cd 76 40 = (5, 41, 5, 0, []) by decide +kernel) ?_
    refine e_iand (show am_cd 76 41 = (5, 42, 3, 0, []) by decide +kernel) ?_
    refine e_sti (la2 := [rA 15, (0, x), (0, iand x 31), (0, iand (ishr x 5) 255), (0, iand (ior (w 15 16) 65536) (ixor (w 15 17) (-1))), (9, 0), (9, 0)]) (show am_cd 76 42 = (3, 44, 4, 0, []) by decide +kernel) rfl ?_
    refine e_ic (show am_cd 76 44 = (0, 45, 0, 0, []) by decide +kernel) ?_
    refine e_sti (la2 := [rA 15, (0, x), (0, iand x 31), (0, iand (ishr x 5) 255), (0, iand (ior (w 15 16) 65536) (ixor (w 15 17) (-1))), (0, 0), (9, 0)]) (show am_cd 76 45 = (3, 47, 5, 0, []) by decide +kernel) rfl ?_
    exact h

theorem g_rmay1 {d : Nat} {Q : Option aV → aS → Prop} {w : eW} {t : eT} {x l f y rr : Int} {Jn : aV} (h : ((w32 (w 15 12) ≤ w32 rr → Q (some (0, y)) (enc w t)) ∧ (¬ (w32 (w 15 12) ≤ w32 rr) → ((w32 (iand (ishr f rr) 1) = 0 → (0 ≤ w32 l ∧ w32 l < 17) ∧ ((w32 (iand (ishr (w 26 (w32 l).toNat) rr) 1) = 0 → Ev (d) 76 Q 47 [rA 15, (0, x), (0, l), (0, f), (0, y), (0, rr + 1), (0, 0)] [] (enc w t)) ∧ (¬ (w32 (iand (ishr (w 26 (w32 l).toNat) rr) 1) = 0) → Ev (d) 76 Q 47 [rA 15, (0, x), (0, l), (0, f), (0, iand y 0), (0, rr + 1), (0, 0)] [] (enc w t)))) ∧ (¬ (w32 (iand (ishr f rr) 1) = 0) → (0 ≤ w32 l ∧ w32 l < 17) ∧ ((w32 (iand (ishr (w 26 (w32 l).toNat) rr) 1) = 0 → (0 ≤ w32 l ∧ w32 l < 17) ∧ ((w32 (iand (ishr (w 27 (w32 l).toNat) rr) 1) = 0 → Ev (d) 76 Q 47 [rA 15, (0, x), (0, l), (0, f), (0, y), (0, rr + 1), (0, 1)] [] (enc w t)) ∧ (¬ (w32 (iand (ishr (w 27 (w32 l).toNat) rr) 1) = 0) → (0 ≤ w32 rr ∧ w32 rr < 9) ∧ (Ev (d) 76 Q 47 [rA 15, (0, x), (0, l), (0, f), (0, iand y (ixor (w 22 (w32 rr).toNat) (-1))), (0, rr + 1), (0, 1)] [] (enc w t))))) ∧ (¬ (w32 (iand (ishr (w 26 (w32 l).toNat) rr) 1) = 0) → (0 ≤ w32 rr ∧ w32 rr < 9) ∧ (0 ≤ w32 l ∧ w32 l < 17) ∧ ((w32 (iand (ishr (w 27 (w32 l).toNat) rr) 1) = 0 → Ev (d) 76 Q 47 [rA 15, (0, x), (0, l), (0, f), (0, iand y (w 22 (w32 rr).toNat)), (0, rr + 1), (0, 1)] [] (enc w t)) ∧ (¬ (w32 (iand (ishr (w 27 (w32 l).toNat) rr) 1) = 0) → (0 ≤ w32 rr ∧ w32 rr < 9) ∧ (Ev (d) 76 Q 47 [rA 15, (0, x), (0, l), (0, f), (0, iand (iand y (w 22 (w32 rr).toNat)) (ixor (w 22 (w32 rr).toNat) (-1))), (0, rr + 1), (0, 1)] [] (enc w t))))))))))) : Ev (d) 76 Q 47 [rA 15, (0, x), (0, l), (0, f), (0, y), (0, rr), Jn] [] (enc w t) := by
  refine e_ldi (show am_cd 76 47 = (2, 49, 5, 0, []) by decide +kernel) rfl ?_
  refine e_lda (v := 15) (show am_cd 76 49 = (2, 50, 0, 2, []) by decide +kernel) rfl ?_
  refine e_getf (a := 15) (tg := 0) (show am_cd 76 50 = (18, 53, 712, 0, [82]) by decide +kernel) (by decide +kernel) (by decide +kernel) rfl ?_
  refine e_cmp3 (show am_cd 76 53 = (11, 56, 146, 3, []) by decide +kernel) (fun hc => ?_) (fun hc => ?_)
  · replace h := h.1 hc
    refine e_ldi (show am_cd 76 146 = (2, 148, 4, 0, []) by decide +kernel) rfl ?_
    exact e_reti (show am_cd 76 148 = (36, 149, 0, 0, []) by decide +kernel) (by decide +kernel) h
  · replace h := h.2 hc
    refine e_ldi (show am_cd 76 56 = (2, 57, 3, 0, []) by decide +kernel) rfl ?_
    refine e_ldi (show am_cd 76 57 = (2, 59, 5, 0, []) by decide +kernel) rfl ?_
    refine e_ishr (show am_cd 76 59 = (5, 60, 7, 0, []) by decide +kernel) ?_
    refine e_ic (show am_cd 76 60 = (0, 61, 0, 1, []) by decide +kernel) ?_
    refine e_iand (show am_cd 76 61 = (5, 62, 3, 0, []) by decide +kernel) ?_
    refine e_if0 (show am_cd 76 62 = (10, 65, 69, 0, []) by decide +kernel) (fun hc => ?_) (fun hc => ?_)
    · replace h := h.1 hc
      refine e_ic (show am_cd 76 69 = (0, 70, 0, 0, []) by decide +kernel) ?_
      refine e_sti (la2 := [rA 15, (0, x), (0, l), (0, f), (0, y), (0, rr), (0, 0)]) (show am_cd 76 70 = (3, 72, 6, 0, []) by decide +kernel) rfl ?_
      refine e_lda (v := 15) (show am_cd 76 72 = (2, 73, 0, 2, []) by decide +kernel) rfl ?_
      refine e_getr (a := 15) (r := 26) (show am_cd 76 73 = (18, 76, 710, 2, [42]) by decide +kernel) (by decide +kernel) (by decide +kernel) rfl ?_
      refine e_ldi (show am_cd 76 76 = (2, 77, 2, 0, []) by decide +kernel) rfl ?_
      refine e_iald (a := 26) (n := 17) (show am_cd 76 77 = (21, 78, 0, 0, []) by decide +kernel) (by decide +kernel) (by decide +kernel) (by decide +kernel) h.1 ?_
      replace h := h.2
      refine e_ldi (show am_cd 76 78 = (2, 80, 5, 0, []) by decide +kernel) rfl ?_
      refine e_ishr (show am_cd 76 80 = (5, 81, 7, 0, []) by decide +kernel) ?_
      refine e_ic (show am_cd 76 81 = (0, 82, 0, 1, []) by decide +kernel) ?_
      refine e_iand (show am_cd 76 82 = (5, 83, 3, 0, []) by decide +kernel) ?_
      refine e_if0 (show am_cd 76 83 = (10, 86, 107, 0, []) by decide +kernel) (fun hc => ?_) (fun hc => ?_)
      · replace h := h.1 hc
        refine e_ldi (show am_cd 76 107 = (2, 109, 6, 0, []) by decide +kernel) rfl ?_
        refine e_ifT (show am_cd 76 109 = (10, 112, 140, 0, []) by decide +kernel) (by decide +kernel) ?_
        refine e_inc (la2 := [rA 15, (0, x), (0, l), (0, f), (0, y), (0, rr + 1), (0, 0)]) (show am_cd 76 140 = (4, 143, 5, 1, []) by decide +kernel) rfl rfl ?_
        refine e_go (show am_cd 76 143 = (12, 47, 0, 0, []) by decide +kernel) ?_
        exact h
      · replace h := h.2 hc
        refine e_ldi (show am_cd 76 86 = (2, 88, 4, 0, []) by decide +kernel) rfl ?_
        refine e_ldi (show am_cd 76 88 = (2, 90, 6, 0, []) by decide +kernel) rfl ?_
        refine e_ifT (show am_cd 76 90 = (10, 93, 103, 0, []) by decide +kernel) (by decide +kernel) ?_
        refine e_ic (show am_cd 76 103 = (0, 104, 0, 0, []) by decide +kernel) ?_
        refine e_iand (show am_cd 76 104 = (5, 105, 3, 0, []) by decide +kernel) ?_
        refine e_sti (la2 := [rA 15, (0, x), (0, l), (0, f), (0, iand y 0), (0, rr), (0, 0)]) (show am_cd 76 105 = (3, 107, 4, 0, []) by decide +kernel) rfl ?_
        refine e_ldi (show am_cd 76 107 = (2, 109, 6, 0, []) by decide +kernel) rfl ?_
        refine e_ifT (show am_cd 76 109 = (10, 112, 140, 0, []) by decide +kernel) (by decide +kernel) ?_
        refine e_inc (la2 := [rA 15, (0, x), (0, l), (0, f), (0, iand y 0), (0, rr + 1), (0, 0)]) (show am_cd 76 140 = (4, 143, 5, 1, []) by decide +kernel) rfl rfl ?_
        refine e_go (show am_cd 76 143 = (12, 47, 0, 0, []) by decide +kernel) ?_
        exact h
    · replace h := h.2 hc
      refine e_ic (show am_cd 76 65 = (0, 66, 0, 1, []) by decide +kernel) ?_
      refine e_go (show am_cd 76 66 = (12, 70, 0, 0, []) by decide +kernel) ?_
      refine e_sti (la2 := [rA 15, (0, x), (0, l), (0, f), (0, y), (0, rr), (0, 1)]) (show am_cd 76 70 = (3, 72, 6, 0, []) by decide +kernel) rfl ?_
      refine e_lda (v := 15) (show am_cd 76 72 = (2, 73, 0, 2, []) by decide +kernel) rfl ?_
      refine e_getr (a := 15) (r := 26) (show am_cd 76 73 = (18, 76, 710, 2, [42]) by decide +kernel) (by decide +kernel) (by decide +kernel) rfl ?_
      refine e_ldi (show am_cd 76 76 = (2, 77, 2, 0, []) by decide +kernel) rfl ?_
      refine e_iald (a := 26) (n := 17) (show am_cd 76 77 = (21, 78, 0, 0, []) by decide +kernel) (by decide +kernel) (by decide +kernel) (by decide +kernel) h.1 ?_
      replace h := h.2
      refine e_ldi (show am_cd 76 78 = (2, 80, 5, 0, []) by decide +kernel) rfl ?_
      refine e_ishr (show am_cd 76 80 = (5, 81, 7, 0, []) by decide +kernel) ?_
      refine e_ic (show am_cd 76 81 = (0, 82, 0, 1, []) by decide +kernel) ?_
      refine e_iand (show am_cd 76 82 = (5, 83, 3, 0, []) by decide +kernel) ?_
      refine e_if0 (show am_cd 76 83 = (10, 86, 107, 0, []) by decide +kernel) (fun hc => ?_) (fun hc => ?_)
      · replace h := h.1 hc
        refine e_ldi (show am_cd 76 107 = (2, 109, 6, 0, []) by decide +kernel) rfl ?_
        refine e_ifF (show am_cd 76 109 = (10, 112, 140, 0, []) by decide +kernel) (by decide +kernel) ?_
        refine e_lda (v := 15) (show am_cd 76 112 = (2, 113, 0, 2, []) by decide +kernel) rfl ?_
        refine e_getr (a := 15) (r := 27) (show am_cd 76 113 = (18, 116, 711, 2, [45]) by decide +kernel) (by decide +kernel) (by decide +kernel) rfl ?_
        refine e_ldi (show am_cd 76 116 = (2, 117, 2, 0, []) by decide +kernel) rfl ?_
        refine e_iald (a := 27) (n := 17) (show am_cd 76 117 = (21, 118, 0, 0, []) by decide +kernel) (by decide +kernel) (by decide +kernel) (by decide +kernel) h.1 ?_
        replace h := h.2
        refine e_ldi (show am_cd 76 118 = (2, 120, 5, 0, []) by decide +kernel) rfl ?_
        refine e_ishr (show am_cd 76 120 = (5, 121, 7, 0, []) by decide +kernel) ?_
        refine e_ic (show am_cd 76 121 = (0, 122, 0, 1, []) by decide +kernel) ?_
        refine e_iand (show am_cd 76 122 = (5, 123, 3, 0, []) by decide +kernel) ?_
        refine e_if0 (show am_cd 76 123 = (10, 126, 140, 0, []) by decide +kernel) (fun hc => ?_) (fun hc => ?_)
        · replace h := h.1 hc
          refine e_inc (la2 := [rA 15, (0, x), (0, l), (0, f), (0, y), (0, rr + 1), (0, 1)]) (show am_cd 76 140 = (4, 143, 5, 1, []) by decide +kernel) rfl rfl ?_
          refine e_go (show am_cd 76 143 = (12, 47, 0, 0, []) by decide +kernel) ?_
          exact h
        · replace h := h.2 hc
          refine e_ldi (show am_cd 76 126 = (2, 128, 4, 0, []) by decide +kernel) rfl ?_
          refine e_lda (v := 15) (show am_cd 76 128 = (2, 129, 0, 2, []) by decide +kernel) rfl ?_
          refine e_getr (a := 15) (r := 22) (show am_cd 76 129 = (18, 132, 706, 2, [30]) by decide +kernel) (by decide +kernel) (by decide +kernel) rfl ?_
          refine e_ldi (show am_cd 76 132 = (2, 134, 5, 0, []) by decide +kernel) rfl ?_
          refine e_iald (a := 22) (n := 9) (show am_cd 76 134 = (21, 135, 0, 0, []) by decide +kernel) (by decide +kernel) (by decide +kernel) (by decide +kernel) h.1 ?_
          replace h := h.2
          refine e_ic (show am_cd 76 135 = (0, 136, 0, -1, []) by decide +kernel) ?_
          refine e_ixor (show am_cd 76 136 = (5, 137, 5, 0, []) by decide +kernel) ?_
          refine e_iand (show am_cd 76 137 = (5, 138, 3, 0, []) by decide +kernel) ?_
          refine e_sti (la2 := [rA 15, (0, x), (0, l), (0, f), (0, iand y (ixor (w 22 (w32 rr).toNat) (-1))), (0, rr), (0, 1)]) (show am_cd 76 138 = (3, 140, 4, 0, []) by decide +kernel) rfl ?_
          refine e_inc (la2 := [rA 15, (0, x), (0, l), (0, f), (0, iand y (ixor (w 22 (w32 rr).toNat) (-1))), (0, rr + 1), (0, 1)]) (show am_cd 76 140 = (4, 143, 5, 1, []) by decide +kernel) rfl rfl ?_
          refine e_go (show am_cd 76 143 = (12, 47, 0, 0, []) by decide +kernel) ?_
          exact h
      · replace h := h.2 hc
        refine e_ldi (show am_cd 76 86 = (2, 88, 4, 0, []) by decide +kernel) rfl ?_
        refine e_ldi (show am_cd 76 88 = (2, 90, 6, 0, []) by decide +kernel) rfl ?_
        refine e_ifF (show am_cd 76 90 = (10, 93, 103, 0, []) by decide +kernel) (by decide +kernel) ?_
        refine e_lda (v := 15) (show am_cd 76 93 = (2, 94, 0, 2, []) by decide +kernel) rfl ?_
        refine e_getr (a := 15) (r := 22) (show am_cd 76 94 = (18, 97, 706, 2, [30]) by decide +kernel) (by decide +kernel) (by decide +kernel) rfl ?_
        refine e_ldi (show am_cd 76 97 = (2, 99, 5, 0, []) by decide +kernel) rfl ?_
        refine e_iald (a := 22) (n := 9) (show am_cd 76 99 = (21, 100, 0, 0, []) by decide +kernel) (by decide +kernel) (by decide +kernel) (by decide +kernel) h.1 ?_
        replace h := h.2
        refine e_go (show am_cd 76 100 = (12, 104, 0, 0, []) by decide +kernel) ?_
        refine e_iand (show am_cd 76 104 = (5, 105, 3, 0, []) by decide +kernel) ?_
        refine e_sti (la2 := [rA 15, (0, x), (0, l), (0, f), (0, iand y (w 22 (w32 rr).toNat)), (0, rr), (0, 1)]) (show am_cd 76 105 = (3, 107, 4, 0, []) by decide +kernel) rfl ?_
        refine e_ldi (show am_cd 76 107 = (2, 109, 6, 0, []) by decide +kernel) rfl ?_
        refine e_ifF (show am_cd 76 109 = (10, 112, 140, 0, []) by decide +kernel) (by decide +kernel) ?_
        refine e_lda (v := 15) (show am_cd 76 112 = (2, 113, 0, 2, []) by decide +kernel) rfl ?_
        refine e_getr (a := 15) (r := 27) (show am_cd 76 113 = (18, 116, 711, 2, [45]) by decide +kernel) (by decide +kernel) (by decide +kernel) rfl ?_
        refine e_ldi (show am_cd 76 116 = (2, 117, 2, 0, []) by decide +kernel) rfl ?_
        refine e_iald (a := 27) (n := 17) (show am_cd 76 117 = (21, 118, 0, 0, []) by decide +kernel) (by decide +kernel) (by decide +kernel) (by decide +kernel) h.1 ?_
        replace h := h.2
        refine e_ldi (show am_cd 76 118 = (2, 120, 5, 0, []) by decide +kernel) rfl ?_
        refine e_ishr (show am_cd 76 120 = (5, 121, 7, 0, []) by decide +kernel) ?_
        refine e_ic (show am_cd 76 121 = (0, 122, 0, 1, []) by decide +kernel) ?_
        refine e_iand (show am_cd 76 122 = (5, 123, 3, 0, []) by decide +kernel) ?_
        refine e_if0 (show am_cd 76 123 = (10, 126, 140, 0, []) by decide +kernel) (fun hc => ?_) (fun hc => ?_)
        · replace h := h.1 hc
          refine e_inc (la2 := [rA 15, (0, x), (0, l), (0, f), (0, iand y (w 22 (w32 rr).toNat)), (0, rr + 1), (0, 1)]) (show am_cd 76 140 = (4, 143, 5, 1, []) by decide +kernel) rfl rfl ?_
          refine e_go (show am_cd 76 143 = (12, 47, 0, 0, []) by decide +kernel) ?_
          exact h
        · replace h := h.2 hc
          refine e_ldi (show am_cd 76 126 = (2, 128, 4, 0, []) by decide +kernel) rfl ?_
          refine e_lda (v := 15) (show am_cd 76 128 = (2, 129, 0, 2, []) by decide +kernel) rfl ?_
          refine e_getr (a := 15) (r := 22) (show am_cd 76 129 = (18, 132, 706, 2, [30]) by decide +kernel) (by decide +kernel) (by decide +kernel) rfl ?_
          refine e_ldi (show am_cd 76 132 = (2, 134, 5, 0, []) by decide +kernel) rfl ?_
          refine e_iald (a := 22) (n := 9) (show am_cd 76 134 = (21, 135, 0, 0, []) by decide +kernel) (by decide +kernel) (by decide +kernel) (by decide +kernel) h.1 ?_
          replace h := h.2
          refine e_ic (show am_cd 76 135 = (0, 136, 0, -1, []) by decide +kernel) ?_
          refine e_ixor (show am_cd 76 136 = (5, 137, 5, 0, []) by decide +kernel) ?_
          refine e_iand (show am_cd 76 137 = (5, 138, 3, 0, []) by decide +kernel) ?_
          refine e_sti (la2 := [rA 15, (0, x), (0, l), (0, f), (0, iand (iand y (w 22 (w32 rr).toNat)) (ixor (w 22 (w32 rr).toNat) (-1))), (0, rr), (0, 1)]) (show am_cd 76 138 = (3, 140, 4, 0, []) by decide +kernel) rfl ?_
          refine e_inc (la2 := [rA 15, (0, x), (0, l), (0, f), (0, iand (iand y (w 22 (w32 rr).toNat)) (ixor (w 22 (w32 rr).toNat) (-1))), (0, rr + 1), (0, 1)]) (show am_cd 76 140 = (4, 143, 5, 1, []) by decide +kernel) rfl rfl ?_
          refine e_go (show am_cd 76 143 = (12, 47, 0, 0, []) by decide +kernel) ?_
          exact h

theorem c_rstart {d : Nat} {w m : eW} {t : eT} (h : LN w m ∧ WFp m ∧ WFr m) : Cl d 73 [rA 15] (enc w t) (fun r S2 => r = some (0, ((tr m 16 16 16 : Nat) : Int)) ∧ S2 = enc w t) := by
  obtain ⟨hN, hp, hr⟩ := h
  have hb := bts8 (fun r => nf m r 16) hr
  refine g_rstart ⟨?_, rfl⟩
  rw [(hN.2 16 (by decide)).2.1, tr0 hp hr, show (13 : Int) = ((13 : Nat) : Int) from rfl, ishlN (by omega) (by decide), show (16 : Int) = ((16 : Nat) : Int) from rfl, b_or (by decide) (by omega), or_add (by decide)]
theorem c_rfollow {d a b c e : Nat} {w m : eW} {t : eT} (h : LN w m ∧ WFp m ∧ WFr m ∧ c ≤ 16 ∧ e ≤ 16) : Cl d 74 [rA 15, (0, ((tr m a b c : Nat) : Int)), (0, (e : Int))] (enc w t) (fun r S2 => r = some (0, ((tr m b c e : Nat) : Int)) ∧ S2 = enc w t) := by
  obtain ⟨hN, hp, hr, hc, he⟩ := h
  obtain ⟨t1, t2, t3, t4⟩ := tr_b (m := m) (a := a) (b := b) hr hc
  obtain ⟨_, n2, _, n4, n5⟩ := hN.2 e (by omega)
  obtain ⟨n1, _⟩ := hN.2 c (by omega)
  refine g_rfollow ?_
  rw [i_and31 (by omega), t2, w32_id (x := (e : Int)) (by omega), w32_id (x := (c : Int)) (by omega), Int.toNat_natCast, Int.toNat_natCast, n1, n2, n4, n5, show (13 : Int) = ((13 : Nat) : Int) from rfl, i_shrN (by omega) (by decide), show tr m a b c / 2 ^ 13 = nxB m b c from t4]
  have q1 : nxB m b c < 256 := bts8 _ hr
  have q2 := bts8 (fun r => mu m r e) hr
  have q3 := bts8 (fun r => ba m r e) hr
  have q4 := bts8 (fun r => ff m r c) hr
  have q5 := bts8 (fun r => nf m r e) hr
  have o1 := or_lt (k := 8) q2 q3
  rw [b_or (by omega) (by omega), b_and (by omega), b_and (by omega)]
  have e1 : nxB m b c &&& (bts (fun r => mu m r e) (nR m) ||| bts (fun r => ba m r e) (nR m)) = ftB m b c e := by
    unfold nxB ftB
    rw [bts_or, bts_and]
  have e2 : bts (fun r => ff m r c) (nR m) &&& bts (fun r => nf m r e) (nR m) = nxB m c e := by
    unfold nxB
    rw [bts_and]
  rw [e1, e2]
  have q6 : ftB m b c e < 256 := bts8 _ hr
  have q7 : nxB m c e < 256 := bts8 _ hr
  rw [ishlN (by omega) (by decide), show (5 : Int) = ((5 : Nat) : Int) from rfl, ishlN (by omega) (by decide), b_or (by omega) (by omega), or_add (by omega), b_or (by omega) (by omega), or_add (by omega)]
  refine ⟨by omega, by omega, by omega, by omega, ?_, rfl⟩
  unfold tr
  rfl
theorem brk_t {m : eW} {r a b c e : Nat} : brk m r a b c e = ((mu m r c && !(ff m r a && nf m r b && (mu m r c || ba m r c) && bf m r e)) || (ba m r c && (ff m r a && nf m r b && (mu m r c || ba m r c) && bf m r e))) := by
  unfold brk inR
  cases ff m r a <;> cases nf m r b <;> cases bf m r e <;> cases mu m r c <;> cases ba m r c <;> rfl
theorem c_rbroken {d a b c e : Nat} {w m : eW} {t : eT} (h : LN w m ∧ WFp m ∧ WFr m ∧ c ≤ 16 ∧ e ≤ 16) : Cl d 75 [rA 15, (0, ((tr m a b c : Nat) : Int)), (0, (e : Int))] (enc w t) (fun r S2 => r = some (0, ((bts (fun r => brk m r a b c e) (nR m) : Nat) : Int)) ∧ S2 = enc w t) := by
  obtain ⟨hN, hp, hr, hc, he⟩ := h
  obtain ⟨t1, t2, t3, t4⟩ := tr_b (m := m) (a := a) (b := b) hr hc
  obtain ⟨_, _, n3, _, _⟩ := hN.2 e (by omega)
  obtain ⟨_, _, _, n4, n5⟩ := hN.2 c (by omega)
  refine g_rbroken ?_
  rw [i_and31 (by omega), t2, w32_id (x := (e : Int)) (by omega), w32_id (x := (c : Int)) (by omega), Int.toNat_natCast, Int.toNat_natCast, n3, n4, n5, i_f5 (by omega), t3]
  have q1 : ftB m a b c < 256 := bts8 _ hr
  have q2 := bts8 (fun r => mu m r c) hr
  have q3 := bts8 (fun r => ba m r c) hr
  have q4 := bts8 (fun r => bf m r e) hr
  rw [b_and (by omega)]
  have e1 : ftB m a b c &&& bts (fun r => bf m r e) (nR m) = bts (fun r => ff m r a && nf m r b && (mu m r c || ba m r c) && bf m r e) (nR m) := by
    unfold ftB
    rw [bts_and]
  rw [e1]
  have q5 := bts8 (fun r => ff m r a && nf m r b && (mu m r c || ba m r c) && bf m r e) hr
  rw [i_andn (by omega) (by omega), b_and (by omega), Int.toNat_natCast, Int.toNat_natCast]
  have l1 : bts (fun r => mu m r c) (nR m) &&& (2147483647 ^^^ bts (fun r => ff m r a && nf m r b && (mu m r c || ba m r c) && bf m r e) (nR m)) ≤ bts (fun r => mu m r c) (nR m) := Nat.and_le_left
  have l2 : bts (fun r => ba m r c) (nR m) &&& bts (fun r => ff m r a && nf m r b && (mu m r c || ba m r c) && bf m r e) (nR m) ≤ bts (fun r => ba m r c) (nR m) := Nat.and_le_left
  rw [b_or (by omega) (by omega)]
  refine ⟨by omega, by omega, by omega, ?_, rfl⟩
  congr 3
  apply Nat.eq_of_testBit_eq
  intro i
  have hn8 := hr.n.2
  rw [Nat.testBit_or, Nat.testBit_and, Nat.testBit_and, bts_tb, bts_tb, bts_tb, bts_tb]
  by_cases hi : i < nR m
  · have hx : (2147483647 ^^^ bts (fun r => ff m r a && nf m r b && (mu m r c || ba m r c) && bf m r e) (nR m)).testBit i = !(ff m i a && nf m i b && (mu m i c || ba m i c) && bf m i e) := by
      rw [Nat.testBit_xor, bts_tb, decide_eq_true hi, show (2147483647 : Nat) = 2 ^ 31 - 1 from rfl, Nat.testBit_two_pow_sub_one, decide_eq_true (by omega)]
      cases (ff m i a && nf m i b && (mu m i c || ba m i c) && bf m i e) <;> rfl
    rw [hx, decide_eq_true hi, brk_t]
    rfl
  · rw [decide_eq_false hi]; rfl
theorem okP_al {m : eW} {a b c e : Nat} : okP m (-1) a b c e = al (fun r => !brk m r a b c e) (nR m) := by
  unfold okP
  refine al_congr (fun r _ => ?_)
  rw [decide_eq_false (by omega), Bool.false_or]
def mfI (m : eW) (a b c rr : Nat) (y : Int) : Prop := (0 ≤ y ∧ y < 131072) ∧ ∀ e, e < 17 → y.toNat.testBit e = ((decide (e = 16) || (decide (e < nP m) && !(isI m c && isI m e))) && al (fun r => !brk m r a b c e) rr)
theorem bb_i {x : Nat} {r : Nat} (hx : x < 2147483648) (hr : r < 32) : w32 (iand (ishr (x : Int) (r : Int)) 1) = if x.testBit r then 1 else 0 := by
  rw [i_bit (by omega) (by omega)]
  unfold bt
  rw [Int.toNat_natCast, Int.toNat_natCast]
  split <;> decide +kernel
theorem c_rmay {d a b c : Nat} {w m : eW} {t : eT} (h : LN w m ∧ RC w m ∧ WFp m ∧ WFr m ∧ c ≤ 16) : Cl d 76 [rA 15, (0, ((tr m a b c : Nat) : Int))] (enc w t) (fun r S2 => r = some (0, ((mfB m a b c : Nat) : Int)) ∧ S2 = enc w t) := by
  obtain ⟨hN, hC, hp, hr, hc⟩ := h
  obtain ⟨t1, t2, t3, t4⟩ := tr_b (m := m) (a := a) (b := b) hr hc
  obtain ⟨_, _, _, n4, n5⟩ := hN.2 c (by omega)
  have hn := hr.n
  have hpn := hp.n
  have hins := insB_b m hp
  have hall : 2 ^ nP m ≤ 2 ^ 16 := Nat.pow_le_pow_right (by decide) hpn.2
  have hall2 : 2 ^ nP m - 1 < 65536 := by omega
  refine g_rmay ?_
  rw [i_and31 (by omega), t2, i_f5 (by omega), t3, hN.1.1, hN.1.2, bb_i (by omega) (by omega), insB_bit]
  have base : ior ((2 ^ nP m - 1 : Nat) : Int) 65536 = (((2 ^ nP m - 1) ||| 2 ^ 16 : Nat) : Int) := by
    rw [show (65536 : Int) = ((2 ^ 16 : Nat) : Int) from rfl, b_or (by omega) (by decide)]
  have bl : (2 ^ nP m - 1) ||| 2 ^ 16 < 131072 := or_lt (k := 17) (by omega) (by decide)
  have bt1 : ∀ e, e < 17 → ((2 ^ nP m - 1) ||| 2 ^ 16 : Nat).testBit e = (decide (e = 16) || decide (e < nP m)) := fun e he => by
    rw [Nat.testBit_or, Nat.testBit_two_pow_sub_one, Nat.testBit_two_pow, Bool.or_comm]
    congr 1
    rw [decide_eq_decide]
    omega
  rw [base]
  have loop : ∀ y, mfI m a b c 0 y → Ev d 76 (fun r S2 => r = some (0, ((mfB m a b c : Nat) : Int)) ∧ S2 = enc w t) 47 [rA 15, (0, ((tr m a b c : Nat) : Int)), (0, (c : Int)), (0, ((ftB m a b c : Nat) : Int)), (0, y), (0, 0), (9, 0)] [] (enc w t) := fun y hy => by
    refine lq2 (σ := Int) (τ := aV) (fun rr y J => Ev d 76 (fun r S2 => r = some (0, ((mfB m a b c : Nat) : Int)) ∧ S2 = enc w t) 47 [rA 15, (0, ((tr m a b c : Nat) : Int)), (0, (c : Int)), (0, ((ftB m a b c : Nat) : Int)), (0, y), (0, (rr : Int)), J] [] (enc w t)) (fun rr y => mfI m a b c rr y) (nR m) ?_ ?_ 0 y (9, 0) (Nat.zero_le _) hy
    · intro r y J hrl hI hE
      obtain ⟨⟨y1, y2⟩, y3⟩ := hI
      obtain ⟨_, _, _, _, _, _, e22⟩ := hC.2 r hrl
      have hbs := behB_s hp hr hrl
      have q1 : ftB m a b c < 256 := bts8 _ hr
      have q2 := bts8 (fun r => mu m r c) hr
      have q3 := bts8 (fun r => ba m r c) hr
      refine g_rmay1 ?_
      rw [hC.1, ← hn.1, w32_id (x := (nR m : Int)) (by omega), w32_id (x := (r : Int)) (by omega), w32_id (x := (c : Int)) (by omega), Int.toNat_natCast, Int.toNat_natCast, n4, n5, e22, bb_i (by omega) (by omega), bb_i (by omega) (by omega), bb_i (by omega) (by omega)]
      have f1 : (ftB m a b c).testBit r = (ff m r a && nf m r b && (mu m r c || ba m r c)) := by unfold ftB; rw [bts_tb, decide_eq_true hrl]; rfl
      have f2 : (bts (fun r => mu m r c) (nR m)).testBit r = mu m r c := by rw [bts_tb, decide_eq_true hrl]; rfl
      have f3 : (bts (fun r => ba m r c) (nR m)).testBit r = ba m r c := by rw [bts_tb, decide_eq_true hrl]; rfl
      rw [f1, f2, f3]
      -- the new bits, by what is asked
      have upd : ∀ (z : Int) (g : Nat → Bool) J2, (0 ≤ z ∧ z < 131072) → (∀ e, e < 17 → z.toNat.testBit e = (y.toNat.testBit e && g e)) → (∀ e, e < 17 → g e = !brk m r a b c e) → Ev d 76 (fun r S2 => r = some (0, ((mfB m a b c : Nat) : Int)) ∧ S2 = enc w t) 47 [rA 15, (0, ((tr m a b c : Nat) : Int)), (0, (c : Int)), (0, ((ftB m a b c : Nat) : Int)), (0, z), (0, (r : Int) + 1), J2] [] (enc w t) := fun z g J2 hz h1 h2 => hE z J2 ⟨hz, fun e he => by
        rw [h1 e he, y3 e he, h2 e he, Bool.and_assoc]
        rfl⟩
      have zero : ∀ e : Nat, (iand y 0).toNat.testBit e = false := fun e => by
        rw [show (0 : Int) = ((0 : Nat) : Int) from rfl, i_and (by omega) (by omega), Int.toNat_natCast, Int.toNat_natCast, Nat.and_zero, Nat.zero_testBit]
      have zero0 : iand y 0 = 0 := by
        rw [show (0 : Int) = ((0 : Nat) : Int) from rfl, i_and (by omega) (by omega), Int.toNat_natCast, Nat.and_zero]
      have andB : iand y (behB m r) = ((y.toNat &&& (behB m r).toNat : Nat) : Int) := i_and (by omega) (by omega)
      have andN : ∀ z : Int, (0 ≤ z ∧ z < 131072) → (0 ≤ iand z (ixor (behB m r) (-1)) ∧ iand z (ixor (behB m r) (-1)) < 131072) ∧ ∀ e, e < 17 → (iand z (ixor (behB m r) (-1))).toNat.testBit e = (z.toNat.testBit e && !bf m r e) := fun z hz => by
        rw [i_andn (by omega) (by omega)]
        have hle : z.toNat &&& (2147483647 ^^^ (behB m r).toNat) ≤ z.toNat := Nat.and_le_left
        refine ⟨by omega, fun e he => ?_⟩
        have := bt_andn z.toNat (behB m r).toNat (p := e) (by omega)
        unfold bt at this
        rw [this, hbs.2 e he]
      have bl2 : (0 ≤ iand y (behB m r) ∧ iand y (behB m r) < 131072) ∧ ∀ e, e < 17 → (iand y (behB m r)).toNat.testBit e = (y.toNat.testBit e && bf m r e) := by
        rw [andB]
        have hle : y.toNat &&& (behB m r).toNat ≤ y.toNat := Nat.and_le_left
        refine ⟨by omega, fun e he => ?_⟩
        rw [Int.toNat_natCast, Nat.testBit_and, hbs.2 e he]
      have hrr : (0 : Int) ≤ (r : Int) ∧ (r : Int) < 9 := by omega
      have hcc : (0 : Int) ≤ (c : Int) ∧ (c : Int) < 17 := by omega
      have one : ¬ ((1 : Int) = 0) := by decide
      refine ⟨fun h9 => by omega, fun _ => ?_⟩
      cases hF : (ff m r a && nf m r b && (mu m r c || ba m r c)) with
      | false =>
        refine ⟨fun _ => ⟨hcc, ?_⟩, fun h9 => absurd rfl h9⟩
        cases hM : mu m r c with
        | false =>
          refine ⟨fun _ => upd y (fun _ => true) _ ⟨y1, y2⟩ (fun e _ => by rw [Bool.and_true]) (fun e _ => ?_), fun h9 => absurd rfl h9⟩
          rw [brk_t, hF, hM]; simp
        | true =>
          refine ⟨fun h9 => absurd h9 one, fun _ => upd _ (fun _ => false) _ (by rw [zero0]; decide) (fun e _ => by rw [zero e, Bool.and_false]) (fun e _ => ?_)⟩
          rw [brk_t, hF, hM]; simp
      | true =>
        refine ⟨fun h9 => absurd h9 one, fun _ => ⟨hcc, ?_⟩⟩
        cases hM : mu m r c with
        | false =>
          refine ⟨fun _ => ⟨hcc, ?_⟩, fun h9 => absurd rfl h9⟩
          cases hB : ba m r c with
          | false =>
            refine ⟨fun _ => upd y (fun _ => true) _ ⟨y1, y2⟩ (fun e _ => by rw [Bool.and_true]) (fun e _ => ?_), fun h9 => absurd rfl h9⟩
            rw [brk_t, hF, hM, hB]; simp
          | true =>
            refine ⟨fun h9 => absurd h9 one, fun _ => ⟨hrr, upd _ (fun e => !bf m r e) _ (andN y ⟨y1, y2⟩).1 (andN y ⟨y1, y2⟩).2 (fun e _ => ?_)⟩⟩
            rw [brk_t, hF, hM, hB]; simp
        | true =>
          refine ⟨fun h9 => absurd h9 one, fun _ => ⟨hrr, hcc, ?_⟩⟩
          cases hB : ba m r c with
          | false =>
            refine ⟨fun _ => upd _ (fun e => bf m r e) _ bl2.1 bl2.2 (fun e _ => ?_), fun h9 => absurd rfl h9⟩
            rw [brk_t, hF, hM, hB]; simp
          | true =>
            refine ⟨fun h9 => absurd h9 one, fun _ => ⟨hrr, upd _ (fun e => false) _ (andN _ bl2.1).1 (fun e he => by rw [(andN _ bl2.1).2 e he, bl2.2 e he]; cases bf m r e <;> simp) (fun e _ => ?_)⟩⟩
            rw [brk_t, hF, hM, hB]; cases bf m r e <;> simp
    · intro y J hI
      refine g_rmay1 ⟨fun _ => ⟨?_, rfl⟩, fun h9 => absurd (by rw [hC.1, ← hn.1]; exact Int.le_refl _) h9⟩
      obtain ⟨⟨y1, y2⟩, y3⟩ := hI
      have : y.toNat = mfB m a b c := by
        apply Nat.eq_of_testBit_eq
        intro e
        unfold mfB
        rw [bts_tb]
        by_cases he : e < 17
        · rw [y3 e he, decide_eq_true he, Bool.true_and]
          unfold goes isE
          rw [okP_al, okP_al]
          by_cases h16 : e = 16
          · rw [if_pos h16, h16, decide_eq_true rfl]; rfl
          · rw [if_neg h16, decide_eq_false h16, Bool.false_or, Bool.and_assoc]
        · rw [decide_eq_false he, Bool.false_and]
          exact Nat.testBit_lt_two_pow (Nat.lt_of_lt_of_le (show y.toNat < 2 ^ 17 by omega) (Nat.pow_le_pow_right (by decide) (by omega)))
      rw [← this]
      congr 2
      omega
  cases hI : isI m c with
  | false =>
    refine ⟨fun _ => loop _ ⟨by omega, fun e he => ?_⟩, fun h9 => absurd rfl h9⟩
    rw [Int.toNat_natCast, bt1 e he, hI]
    show _ = (_ && true)
    simp
  | true =>
    refine ⟨fun h9 => absurd h9 (by decide), fun _ => loop _ ?_⟩
    rw [i_andn (by omega) (by omega), Int.toNat_natCast, Int.toNat_natCast]
    have hle : ((2 ^ nP m - 1) ||| 2 ^ 16) &&& (2147483647 ^^^ insB m) ≤ ((2 ^ nP m - 1) ||| 2 ^ 16) := Nat.and_le_left
    refine ⟨by omega, fun e he => ?_⟩
    have := bt_andn ((2 ^ nP m - 1) ||| 2 ^ 16) (insB m) (p := e) (by omega)
    unfold bt at this
    rw [this, bt1 e he, insB_bit, hI]
    show _ = (_ && true)
    rw [Bool.and_true, Bool.true_and]
    by_cases h16 : e = 16
    · have : isI m 16 = false := by unfold isI; rw [decide_eq_false (by omega)]; rfl
      rw [h16, this]; rfl
    · rw [decide_eq_false h16, Bool.false_or, Bool.false_or]

