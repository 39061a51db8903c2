/-! The model: pairs and sets by their signs, sorts, parts. -/
def poN (m : eW) (u l : Int) : Nat := fsN (fun p => decide (m 68 p = u) && decide (m 69 p = l)) (nP m) 0
def poI (m : eW) (u l : Int) : Int := if poN m u l = nP m then -1 else (poN m u l : Int)
def soN (m : eW) (c : Int) : Nat := fsN (fun i => decide (m 70 i = c)) (nS m) 0
def soI (m : eW) (c : Int) : Int := if soN m c = nS m then -1 else (soN m c : Int)
def poB (m : eW) (us ls : Int) : Nat := bts (fun k => us.toNat.testBit (m 68 k).toNat && ls.toNat.testBit (m 69 k).toNat) (nP m)
def isUp (m : eW) (l : Int) : Bool := an (fun p => decide (m 68 p = l)) (nP m)
theorem fs_at {P : Nat → Bool} {n : Nat} (h : fsN P n 0 ≠ n) : fsN P n 0 < n ∧ P (fsN P n 0) = true ∧ ∀ j, j < fsN P n 0 → P j = false := by
  by_cases hex : ∃ j, 0 ≤ j ∧ j < 0 + n ∧ P j = true
  · obtain ⟨q1, q2, q3, q4⟩ := fsN_spec n 0 hex
    exact ⟨by omega, q1, fun j hj => q4 j (Nat.zero_le _) hj⟩
  · exfalso
    apply h
    have := fsN_none (P := P) n 0 (fun j h2 h3 => by
      cases hh : P j
      · rfl
      · exact absurd ⟨j, h2, h3, hh⟩ hex)
    omega

theorem g_pairOf0 {d : Nat} {Q : Option aV → aS → Prop} {w : eW} {t : eT} {u l : Int} (h : Ev (d) 183 Q 2 [rA 67, (0, u), (0, l), (0, 0)] [] (enc w t)) : Cl (d) 183 [rA 67, (0, u), (0, l)] (enc w t) Q := by
  show Ev (d) 183 Q 0 [rA 67, (0, u), (0, l), (9, 0)] [] (enc w t)
  refine e_ic (show am_cd 183 0 = (0, 1, 0, 0, []) by decide +kernel) ?_
  refine e_sti (la2 := [rA 67, (0, u), (0, l), (0, 0)]) (show am_cd 183 1 = (3, 2, 3, 0, []) by decide +kernel) rfl ?_
  exact h

theorem g_pairOf1 {d : Nat} {Q : Option aV → aS → Prop} {w : eW} {t : eT} {u l i : Int} (h : ((w32 (w 67 0) ≤ w32 i → Q (some (0, (-1))) (enc w t)) ∧ (¬ (w32 (w 67 0) ≤ w32 i) → (0 ≤ w32 i ∧ w32 i < 16) ∧ ((¬ w32 (w 68 (w32 i).toNat) = w32 u → Ev (d) 183 Q 2 [rA 67, (0, u), (0, l), (0, i + 1)] [] (enc w t)) ∧ (¬ (¬ w32 (w 68 (w32 i).toNat) = w32 u) → (0 ≤ w32 i ∧ w32 i < 16) ∧ ((¬ w32 (w 69 (w32 i).toNat) = w32 l → Ev (d) 183 Q 2 [rA 67, (0, u), (0, l), (0, i + 1)] [] (enc w t)) ∧ (¬ (¬ w32 (w 69 (w32 i).toNat) = w32 l) → Q (some (0, i)) (enc w t)))))))) : Ev (d) 183 Q 2 [rA 67, (0, u), (0, l), (0, i)] [] (enc w t) := by
  refine e_ldi (show am_cd 183 2 = (2, 3, 3, 0, []) by decide +kernel) rfl ?_
  refine e_lda (v := 67) (show am_cd 183 3 = (2, 4, 0, 2, []) by decide +kernel) rfl ?_
  refine e_getf (a := 67) (tg := 0) (show am_cd 183 4 = (18, 7, 1200, 0, [168]) by decide +kernel) (by decide +kernel) (by decide +kernel) rfl ?_
  refine e_cmp3 (show am_cd 183 7 = (11, 10, 38, 3, []) by decide +kernel) (fun hc => ?_) (fun hc => ?_)
  · replace h := h.1 hc
    refine e_ic (show am_cd 183 38 = (0, 39, 0, -1, []) by decide +kernel) ?_
    exact e_reti (show am_cd 183 39 = (36, 40, 0, 0, []) by decide +kernel) (by decide +kernel) h
  · replace h := h.2 hc
    refine e_lda (v := 67) (show am_cd 183 10 = (2, 11, 0, 2, []) by decide +kernel) rfl ?_
    refine e_getr (a := 67) (r := 68) (show am_cd 183 11 = (18, 14, 1201, 2, [9]) by decide +kernel) (by decide +kernel) (by decide +kernel) rfl ?_
    refine e_ldi (show am_cd 183 14 = (2, 15, 3, 0, []) by decide +kernel) rfl ?_
    refine e_iald (a := 68) (n := 16) (show am_cd 183 15 = (21, 16, 0, 0, []) by decide +kernel) (by decide +kernel) (by decide +kernel) (by decide +kernel) h.1 ?_
    replace h := h.2
    refine e_ldi (show am_cd 183 16 = (2, 17, 1, 0, []) by decide +kernel) rfl ?_
    refine e_cmp1 (show am_cd 183 17 = (11, 20, 32, 1, []) by decide +kernel) (fun hc => ?_) (fun hc => ?_)
    · replace h := h.1 hc
      refine e_inc (la2 := [rA 67, (0, u), (0, l), (0, i + 1)]) (show am_cd 183 32 = (4, 35, 3, 1, []) by decide +kernel) rfl rfl ?_
      refine e_go (show am_cd 183 35 = (12, 2, 0, 0, []) by decide +kernel) ?_
      exact h
    · replace h := h.2 hc
      refine e_lda (v := 67) (show am_cd 183 20 = (2, 21, 0, 2, []) by decide +kernel) rfl ?_
      refine e_getr (a := 67) (r := 69) (show am_cd 183 21 = (18, 24, 1202, 2, [13]) by decide +kernel) (by decide +kernel) (by decide +kernel) rfl ?_
      refine e_ldi (show am_cd 183 24 = (2, 25, 3, 0, []) by decide +kernel) rfl ?_
      refine e_iald (a := 69) (n := 16) (show am_cd 183 25 = (21, 26, 0, 0, []) by decide +kernel) (by decide +kernel) (by decide +kernel) (by decide +kernel) h.1 ?_
      replace h := h.2
      refine e_ldi (show am_cd 183 26 = (2, 27, 2, 0, []) by decide +kernel) rfl ?_
      refine e_cmp1 (show am_cd 183 27 = (11, 30, 32, 1, []) by decide +kernel) (fun hc => ?_) (fun hc => ?_)
      · replace h := h.1 hc
        refine e_inc (la2 := [rA 67, (0, u), (0, l), (0, i + 1)]) (show am_cd 183 32 = (4, 35, 3, 1, []) by decide +kernel) rfl rfl ?_
        refine e_go (show am_cd 183 35 = (12, 2, 0, 0, []) by decide +kernel) ?_
        exact h
      · replace h := h.2 hc
        refine e_ldi (show am_cd 183 30 = (2, 31, 3, 0, []) by decide +kernel) rfl ?_
        exact e_reti (show am_cd 183 31 = (36, 32, 0, 0, []) by decide +kernel) (by decide +kernel) h

theorem g_setOf0 {d : Nat} {Q : Option aV → aS → Prop} {w : eW} {t : eT} {c : Int} (h : Ev (d) 185 Q 2 [rA 67, (0, c), (0, 0)] [] (enc w t)) : Cl (d) 185 [rA 67, (0, c)] (enc w t) Q := by
  show Ev (d) 185 Q 0 [rA 67, (0, c), (9, 0)] [] (enc w t)
  refine e_ic (show am_cd 185 0 = (0, 1, 0, 0, []) by decide +kernel) ?_
  refine e_sti (la2 := [rA 67, (0, c), (0, 0)]) (show am_cd 185 1 = (3, 2, 2, 0, []) by decide +kernel) rfl ?_
  exact h

theorem g_setOf1 {d : Nat} {Q : Option aV → aS → Prop} {w : eW} {t : eT} {c i : Int} (h : ((w32 (w 67 3) ≤ w32 i → Q (some (0, (-1))) (enc w t)) ∧ (¬ (w32 (w 67 3) ≤ w32 i) → (0 ≤ w32 i ∧ w32 i < 4) ∧ ((¬ w32 (w 70 (w32 i).toNat) = w32 c → Ev (d) 185 Q 2 [rA 67, (0, c), (0, i + 1)] [] (enc w t)) ∧ (¬ (¬ w32 (w 70 (w32 i).toNat) = w32 c) → Q (some (0, i)) (enc w t)))))) : Ev (d) 185 Q 2 [rA 67, (0, c), (0, i)] [] (enc w t) := by
  refine e_ldi (show am_cd 185 2 = (2, 3, 2, 0, []) by decide +kernel) rfl ?_
  refine e_lda (v := 67) (show am_cd 185 3 = (2, 4, 0, 2, []) by decide +kernel) rfl ?_
  refine e_getf (a := 67) (tg := 0) (show am_cd 185 4 = (18, 7, 1203, 0, [180]) by decide +kernel) (by decide +kernel) (by decide +kernel) rfl ?_
  refine e_cmp3 (show am_cd 185 7 = (11, 10, 28, 3, []) by decide +kernel) (fun hc => ?_) (fun hc => ?_)
  · replace h := h.1 hc
    refine e_ic (show am_cd 185 28 = (0, 29, 0, -1, []) by decide +kernel) ?_
    exact e_reti (show am_cd 185 29 = (36, 30, 0, 0, []) by decide +kernel) (by decide +kernel) h
  · replace h := h.2 hc
    refine e_lda (v := 67) (show am_cd 185 10 = (2, 11, 0, 2, []) by decide +kernel) rfl ?_
    refine e_getr (a := 67) (r := 70) (show am_cd 185 11 = (18, 14, 1204, 2, [16]) by decide +kernel) (by decide +kernel) (by decide +kernel) rfl ?_
    refine e_ldi (show am_cd 185 14 = (2, 15, 2, 0, []) by decide +kernel) rfl ?_
    refine e_iald (a := 70) (n := 4) (show am_cd 185 15 = (21, 16, 0, 0, []) by decide +kernel) (by decide +kernel) (by decide +kernel) (by decide +kernel) h.1 ?_
    replace h := h.2
    refine e_ldi (show am_cd 185 16 = (2, 17, 1, 0, []) by decide +kernel) rfl ?_
    refine e_cmp1 (show am_cd 185 17 = (11, 20, 22, 1, []) by decide +kernel) (fun hc => ?_) (fun hc => ?_)
    · replace h := h.1 hc
      refine e_inc (la2 := [rA 67, (0, c), (0, i + 1)]) (show am_cd 185 22 = (4, 25, 2, 1, []) by decide +kernel) rfl rfl ?_
      refine e_go (show am_cd 185 25 = (12, 2, 0, 0, []) by decide +kernel) ?_
      exact h
    · replace h := h.2 hc
      refine e_ldi (show am_cd 185 20 = (2, 21, 2, 0, []) by decide +kernel) rfl ?_
      exact e_reti (show am_cd 185 21 = (36, 22, 0, 0, []) by decide +kernel) (by decide +kernel) h

theorem g_isUpper0 {d : Nat} {Q : Option aV → aS → Prop} {w : eW} {t : eT} {c : Int} (h : Ev (d) 194 Q 2 [rA 67, (0, c), (0, 0)] [] (enc w t)) : Cl (d) 194 [rA 67, (0, c)] (enc w t) Q := by
  show Ev (d) 194 Q 0 [rA 67, (0, c), (9, 0)] [] (enc w t)
  refine e_ic (show am_cd 194 0 = (0, 1, 0, 0, []) by decide +kernel) ?_
  refine e_sti (la2 := [rA 67, (0, c), (0, 0)]) (show am_cd 194 1 = (3, 2, 2, 0, []) by decide +kernel) rfl ?_
  exact h

theorem g_isUpper1 {d : Nat} {Q : Option aV → aS → Prop} {w : eW} {t : eT} {c i : Int} (h : ((w32 (w 67 0) ≤ w32 i → Q (some (0, 0)) (enc w t)) ∧ (¬ (w32 (w 67 0) ≤ w32 i) → (0 ≤ w32 i ∧ w32 i < 16) ∧ ((¬ w32 (w 68 (w32 i).toNat) = w32 c → Ev (d) 194 Q 2 [rA 67, (0, c), (0, i + 1)] [] (enc w t)) ∧ (¬ (¬ w32 (w 68 (w32 i).toNat) = w32 c) → Q (some (0, 1)) (enc w t)))))) : Ev (d) 194 Q 2 [rA 67, (0, c), (0, i)] [] (enc w t) := by
  refine e_ldi (show am_cd 194 2 = (2, 3, 2, 0, []) by decide +kernel) rfl ?_
  refine e_lda (v := 67) (show am_cd 194 3 = (2, 4, 0, 2, []) by decide +kernel) rfl ?_
  refine e_getf (a := 67) (tg := 0) (show am_cd 194 4 = (18, 7, 1200, 0, [168]) by decide +kernel) (by decide +kernel) (by decide +kernel) rfl ?_
  refine e_cmp3 (show am_cd 194 7 = (11, 10, 28, 3, []) by decide +kernel) (fun hc => ?_) (fun hc => ?_)
  · replace h := h.1 hc
    refine e_ic (show am_cd 194 28 = (0, 29, 0, 0, []) by decide +kernel) ?_
    exact e_retz (show am_cd 194 29 = (36, 30, 0, 0, []) by decide +kernel) (by decide +kernel) (Or.inl rfl) h
  · replace h := h.2 hc
    refine e_lda (v := 67) (show am_cd 194 10 = (2, 11, 0, 2, []) by decide +kernel) rfl ?_
    refine e_getr (a := 67) (r := 68) (show am_cd 194 11 = (18, 14, 1201, 2, [9]) by decide +kernel) (by decide +kernel) (by decide +kernel) rfl ?_
    refine e_ldi (show am_cd 194 14 = (2, 15, 2, 0, []) by decide +kernel) rfl ?_
    refine e_iald (a := 68) (n := 16) (show am_cd 194 15 = (21, 16, 0, 0, []) by decide +kernel) (by decide +kernel) (by decide +kernel) (by decide +kernel) h.1 ?_
    replace h := h.2
    refine e_ldi (show am_cd 194 16 = (2, 17, 1, 0, []) by decide +kernel) rfl ?_
    refine e_cmp1 (show am_cd 194 17 = (11, 20, 22, 1, []) by decide +kernel) (fun hc => ?_) (fun hc => ?_)
    · replace h := h.1 hc
      refine e_inc (la2 := [rA 67, (0, c), (0, i + 1)]) (show am_cd 194 22 = (4, 25, 2, 1, []) by decide +kernel) rfl rfl ?_
      refine e_go (show am_cd 194 25 = (12, 2, 0, 0, []) by decide +kernel) ?_
      exact h
    · replace h := h.2 hc
      refine e_ic (show am_cd 194 20 = (0, 21, 0, 1, []) by decide +kernel) ?_
      exact e_retz (show am_cd 194 21 = (36, 22, 0, 0, []) by decide +kernel) (by decide +kernel) (Or.inr rfl) h

theorem g_pairsOf0 {d : Nat} {Q : Option aV → aS → Prop} {w : eW} {t : eT} {a b : Int} (h : Ev (d) 188 Q 5 [rA 67, (0, a), (0, b), (0, 0), (0, 0)] [] (enc w t)) : Cl (d) 188 [rA 67, (0, a), (0, b)] (enc w t) Q := by
  show Ev (d) 188 Q 0 [rA 67, (0, a), (0, b), (9, 0), (9, 0)] [] (enc w t)
  refine e_ic (show am_cd 188 0 = (0, 1, 0, 0, []) by decide +kernel) ?_
  refine e_sti (la2 := [rA 67, (0, a), (0, b), (0, 0), (9, 0)]) (show am_cd 188 1 = (3, 2, 3, 0, []) by decide +kernel) rfl ?_
  refine e_ic (show am_cd 188 2 = (0, 3, 0, 0, []) by decide +kernel) ?_
  refine e_sti (la2 := [rA 67, (0, a), (0, b), (0, 0), (0, 0)]) (show am_cd 188 3 = (3, 5, 4, 0, []) by decide +kernel) rfl ?_
  exact h

theorem g_pairsOf1 {d : Nat} {Q : Option aV → aS → Prop} {w : eW} {t : eT} {a b x i : Int} (h : ((w32 (w 67 0) ≤ w32 i → Q (some (0, x)) (enc w t)) ∧ (¬ (w32 (w 67 0) ≤ w32 i) → (0 ≤ w32 i ∧ w32 i < 16) ∧ ((¬ w32 (iand (ishr a (w 68 (w32 i).toNat)) 1) = w32 1 → Ev (d) 188 Q 5 [rA 67, (0, a), (0, b), (0, ior x 0), (0, i + 1)] [] (enc w t)) ∧ (¬ (¬ w32 (iand (ishr a (w 68 (w32 i).toNat)) 1) = w32 1) → (0 ≤ w32 i ∧ w32 i < 16) ∧ ((¬ w32 (iand (ishr b (w 69 (w32 i).toNat)) 1) = w32 1 → Ev (d) 188 Q 5 [rA 67, (0, a), (0, b), (0, ior x 0), (0, i + 1)] [] (enc w t)) ∧ (¬ (¬ w32 (iand (ishr b (w 69 (w32 i).toNat)) 1) = w32 1) → Ev (d) 188 Q 5 [rA 67, (0, a), (0, b), (0, ior x (ishl 1 i)), (0, i + 1)] [] (enc w t)))))))) : Ev (d) 188 Q 5 [rA 67, (0, a), (0, b), (0, x), (0, i)] [] (enc w t) := by
  refine e_ldi (show am_cd 188 5 = (2, 7, 4, 0, []) by decide +kernel) rfl ?_
  refine e_lda (v := 67) (show am_cd 188 7 = (2, 8, 0, 2, []) by decide +kernel) rfl ?_
  refine e_getf (a := 67) (tg := 0) (show am_cd 188 8 = (18, 11, 1200, 0, [168]) by decide +kernel) (by decide +kernel) (by decide +kernel) rfl ?_
  refine e_cmp3 (show am_cd 188 11 = (11, 14, 61, 3, []) by decide +kernel) (fun hc => ?_) (fun hc => ?_)
  · replace h := h.1 hc
    refine e_ldi (show am_cd 188 61 = (2, 62, 3, 0, []) by decide +kernel) rfl ?_
    exact e_reti (show am_cd 188 62 = (36, 63, 0, 0, []) by decide +kernel) (by decide +kernel) h
  · replace h := h.2 hc
    refine e_ldi (show am_cd 188 14 = (2, 15, 3, 0, []) by decide +kernel) rfl ?_
    refine e_ldi (show am_cd 188 15 = (2, 16, 1, 0, []) by decide +kernel) rfl ?_
    refine e_lda (v := 67) (show am_cd 188 16 = (2, 17, 0, 2, []) by decide +kernel) rfl ?_
    refine e_getr (a := 67) (r := 68) (show am_cd 188 17 = (18, 20, 1201, 2, [9]) by decide +kernel) (by decide +kernel) (by decide +kernel) rfl ?_
    refine e_ldi (show am_cd 188 20 = (2, 22, 4, 0, []) by decide +kernel) rfl ?_
    refine e_iald (a := 68) (n := 16) (show am_cd 188 22 = (21, 23, 0, 0, []) by decide +kernel) (by decide +kernel) (by decide +kernel) (by decide +kernel) h.1 ?_
    replace h := h.2
    refine e_ishr (show am_cd 188 23 = (5, 24, 7, 0, []) by decide +kernel) ?_
    refine e_ic (show am_cd 188 24 = (0, 25, 0, 1, []) by decide +kernel) ?_
    refine e_iand (show am_cd 188 25 = (5, 26, 3, 0, []) by decide +kernel) ?_
    refine e_ic (show am_cd 188 26 = (0, 27, 0, 1, []) by decide +kernel) ?_
    refine e_cmp1 (show am_cd 188 27 = (11, 30, 52, 1, []) by decide +kernel) (fun hc => ?_) (fun hc => ?_)
    · replace h := h.1 hc
      refine e_ic (show am_cd 188 52 = (0, 53, 0, 0, []) by decide +kernel) ?_
      refine e_ior (show am_cd 188 53 = (5, 54, 4, 0, []) by decide +kernel) ?_
      refine e_sti (la2 := [rA 67, (0, a), (0, b), (0, ior x 0), (0, i)]) (show am_cd 188 54 = (3, 55, 3, 0, []) by decide +kernel) rfl ?_
      refine e_inc (la2 := [rA 67, (0, a), (0, b), (0, ior x 0), (0, i + 1)]) (show am_cd 188 55 = (4, 58, 4, 1, []) by decide +kernel) rfl rfl ?_
      refine e_go (show am_cd 188 58 = (12, 5, 0, 0, []) by decide +kernel) ?_
      exact h
    · replace h := h.2 hc
      refine e_ldi (show am_cd 188 30 = (2, 31, 2, 0, []) by decide +kernel) rfl ?_
      refine e_lda (v := 67) (show am_cd 188 31 = (2, 32, 0, 2, []) by decide +kernel) rfl ?_
      refine e_getr (a := 67) (r := 69) (show am_cd 188 32 = (18, 35, 1202, 2, [13]) by decide +kernel) (by decide +kernel) (by decide +kernel) rfl ?_
      refine e_ldi (show am_cd 188 35 = (2, 37, 4, 0, []) by decide +kernel) rfl ?_
      refine e_iald (a := 69) (n := 16) (show am_cd 188 37 = (21, 38, 0, 0, []) by decide +kernel) (by decide +kernel) (by decide +kernel) (by decide +kernel) h.1 ?_
      replace h := h.2
      refine e_ishr (show am_cd 188 38 = (5, 39, 7, 0, []) by decide +kernel) ?_
      refine e_ic (show am_cd 188 39 = (0, 40, 0, 1, []) by decide +kernel) ?_
      refine e_iand (show am_cd 188 40 = (5, 41, 3, 0, []) by decide +kernel) ?_
      refine e_ic (show am_cd 188 41 = (0, 42, 0, 1, []) by decide +kernel) ?_
      refine e_cmp1 (show am_cd 188 42 = (11, 45, 52, 1, []) by decide +kernel) (fun hc => ?_) (fun hc => ?_)
      · replace h := h.1 hc
        refine e_ic (show am_cd 188 52 = (0, 53, 0, 0, []) by decide +kernel) ?_
        refine e_ior (show am_cd 188 53 = (5, 54, 4, 0, []) by decide +kernel) ?_
        refine e_sti (la2 := [rA 67, (0, a), (0, b), (0, ior x 0), (0, i)]) (show am_cd 188 54 = (3, 55, 3, 0, []) by decide +kernel) rfl ?_
        refine e_inc (la2 := [rA 67, (0, a), (0, b), (0, ior x 0), (0, i + 1)]) (show am_cd 188 55 = (4, 58, 4, 1, []) by decide +kernel) rfl rfl ?_
        refine e_go (show am_cd 188 58 = (12, 5, 0, 0, []) by decide +kernel) ?_
        exact h
      · replace h := h.2 hc
        refine e_ic (show am_cd 188 45 = (0, 46, 0, 1, []) by decide +kernel) ?_
        refine e_ldi (show am_cd 188 46 = (2, 48, 4, 0, []) by decide +kernel) rfl ?_
        refine e_ishl (show am_cd 188 48 = (5, 49, 6, 0, []) by decide +kernel) ?_
        refine e_go (show am_cd 188 49 = (12, 53, 0, 0, []) by decide +kernel) ?_
        refine e_ior (show am_cd 188 53 = (5, 54, 4, 0, []) by decide +kernel) ?_
        refine e_sti (la2 := [rA 67, (0, a), (0, b), (0, ior x (ishl 1 i)), (0, i)]) (show am_cd 188 54 = (3, 55, 3, 0, []) by decide +kernel) rfl ?_
        refine e_inc (la2 := [rA 67, (0, a), (0, b), (0, ior x (ishl 1 i)), (0, i + 1)]) (show am_cd 188 55 = (4, 58, 4, 1, []) by decide +kernel) rfl rfl ?_
        refine e_go (show am_cd 188 58 = (12, 5, 0, 0, []) by decide +kernel) ?_
        exact h

theorem c_pairOf {d : Nat} {m w : eW} {t : eT} {u l : Int} (h : MG w m ∧ (-1 ≤ u ∧ u ≤ 27) ∧ (-1 ≤ l ∧ l ≤ 27)) : Cl d 183 [rA 67, (0, u), (0, l)] (enc w t) (fun r S2 => r = some (0, poI m u l) ∧ S2 = enc w t) := by
  obtain ⟨hm, hu, hl⟩ := h
  have hpn := hm.1.n
  refine g_pairOf0 ?_
  have main : ∀ (k i : Nat), i + k = nP m → poN m u l = fsN (fun p => decide (m 68 p = u) && decide (m 69 p = l)) k i → Ev d 183 (fun r S2 => r = some (0, poI m u l) ∧ S2 = enc w t) 2 [rA 67, (0, u), (0, l), (0, (i : Int))] [] (enc w t) := by
    intro k
    induction k with
    | zero =>
      intro i hi hf
      refine g_pairOf1 ?_
      rw [hm.2.2.1.1]
      simp (disch := omega) only [w32_id]
      refine ⟨fun _ => ⟨?_, by trivial⟩, fun h9 => (by omega)⟩
      unfold poI
      rw [if_pos (by rw [hf]; exact hi)]
    | succ k ih =>
      intro i hi hf
      have g1 := hm.2.2.1.2 i (by omega)
      have b1 := hm.1.2.1 i (by omega)
      refine g_pairOf1 ?_
      rw [hm.2.2.1.1]
      simp (disch := omega) only [w32_id, Int.toNat_natCast, g1.1, g1.2]
      rw [fsN] at hf
      refine ⟨fun h9 => (by omega), fun _ => ⟨by omega, fun h1 => ih (i + 1) (by omega) ?_, fun h1 => ⟨by omega, fun h2 => ih (i + 1) (by omega) ?_, fun h2 => ⟨?_, by trivial⟩⟩⟩⟩
      · rw [hf, decide_eq_false h1, Bool.false_and, if_neg (by decide)]
      · rw [hf, decide_eq_false h2, Bool.and_false, if_neg (by decide)]
      · rw [decide_eq_true (show m 68 i = u by omega), decide_eq_true (show m 69 i = l by omega), if_pos (by decide)] at hf
        unfold poI
        rw [hf, if_neg (by omega)]
  exact main (nP m) 0 (by omega) rfl
theorem c_setOf {d : Nat} {m w : eW} {t : eT} {c : Int} (h : WFs m ∧ MGs w m ∧ (-1 ≤ c ∧ c ≤ 255)) : Cl d 185 [rA 67, (0, c)] (enc w t) (fun r S2 => r = some (0, soI m c) ∧ S2 = enc w t) := by
  obtain ⟨hS, hW, hc⟩ := h
  have hsn := hS.n
  refine g_setOf0 ?_
  have main : ∀ (k i : Nat), i + k = nS m → soN m c = fsN (fun i => decide (m 70 i = c)) k i → Ev d 185 (fun r S2 => r = some (0, soI m c) ∧ S2 = enc w t) 2 [rA 67, (0, c), (0, (i : Int))] [] (enc w t) := by
    intro k
    induction k with
    | zero =>
      intro i hi hf
      refine g_setOf1 ?_
      rw [hW.1]
      simp (disch := omega) only [w32_id]
      refine ⟨fun _ => ⟨?_, by trivial⟩, fun h9 => (by omega)⟩
      unfold soI
      rw [if_pos (by rw [hf]; exact hi)]
    | succ k ih =>
      intro i hi hf
      have g1 := (hW.2 i (by omega)).1
      have b1 := hS.2 i (by omega)
      refine g_setOf1 ?_
      rw [hW.1]
      simp (disch := omega) only [w32_id, Int.toNat_natCast, g1]
      rw [fsN] at hf
      refine ⟨fun h9 => (by omega), fun _ => ⟨by omega, fun h1 => ih (i + 1) (by omega) ?_, fun h1 => ⟨?_, by trivial⟩⟩⟩
      · rw [hf, decide_eq_false h1, if_neg (by decide)]
      · rw [decide_eq_true (show m 70 i = c by omega), if_pos rfl] at hf
        unfold soI
        rw [hf, if_neg (by omega)]
  exact main (nS m) 0 (by omega) rfl
theorem c_isUpper {d : Nat} {m w : eW} {t : eT} {c : Int} (h : MG w m ∧ (-1 ≤ c ∧ c ≤ 27)) : Cl d 194 [rA 67, (0, c)] (enc w t) (fun r S2 => r = some (0, bI (isUp m c)) ∧ S2 = enc w t) := by
  obtain ⟨hm, hc⟩ := h
  have hpn := hm.1.n
  refine g_isUpper0 ?_
  have main : ∀ i, i ≤ nP m → an (fun p => decide (m 68 p = c)) i = false → Ev d 194 (fun r S2 => r = some (0, bI (isUp m c)) ∧ S2 = enc w t) 2 [rA 67, (0, c), (0, (i : Int))] [] (enc w t) := by
    refine lp0 (fun i => an (fun p => decide (m 68 p = c)) i = false → Ev d 194 (fun r S2 => r = some (0, bI (isUp m c)) ∧ S2 = enc w t) 2 [rA 67, (0, c), (0, (i : Int))] [] (enc w t)) (nP m) ?_ ?_
    · intro i hi hE hno
      have g1 := (hm.2.2.1.2 i hi).1
      have b1 := (hm.1.2.1 i hi).1
      refine g_isUpper1 ?_
      rw [hm.2.2.1.1]
      simp (disch := omega) only [w32_id, Int.toNat_natCast, g1]
      refine ⟨fun h9 => (by omega), fun _ => ⟨by omega, fun h1 => hE ?_, fun h1 => ⟨?_, by trivial⟩⟩⟩
      · unfold an; rw [hno, decide_eq_false h1]; rfl
      · have : isUp m c = true := an_iff.mpr ⟨i, hi, decide_eq_true (by omega)⟩
        rw [this]; rfl
    · intro hno
      refine g_isUpper1 ?_
      rw [hm.2.2.1.1]
      simp (disch := omega) only [w32_id]
      refine ⟨fun _ => ⟨?_, by trivial⟩, fun h9 => (by omega)⟩
      unfold isUp
      rw [hno]; rfl
  exact main 0 (Nat.zero_le _) rfl
theorem c_pairsOf {d : Nat} {m w : eW} {t : eT} {a b : Int} (h : MG w m ∧ ((0 : Int) ≤ a ∧ (a : Int) < 268435456) ∧ ((0 : Int) ≤ b ∧ (b : Int) < 268435456)) : Cl d 188 [rA 67, (0, a), (0, b)] (enc w t) (fun r S2 => r = some (0, ((poB m a b : Nat) : Int)) ∧ S2 = enc w t) := by
  obtain ⟨hm, ha, hb⟩ := h
  have hpn := hm.1.n
  refine g_pairsOf0 ?_
  refine lp0 (fun i => Ev d 188 (fun r S2 => r = some (0, ((poB m a b : Nat) : Int)) ∧ S2 = enc w t) 5 [rA 67, (0, a), (0, b), (0, (bts (fun k => a.toNat.testBit (m 68 k).toNat && b.toNat.testBit (m 69 k).toNat) i : Int)), (0, (i : Int))] [] (enc w t)) (nP m) ?_ ?_ 0 (Nat.zero_le _)
  · intro i hi hE
    have g1 := hm.2.2.1.2 i hi
    have b1 := hm.1.2.1 i hi
    have hbl := bts_lt (fun k => a.toNat.testBit (m 68 k).toNat && b.toNat.testBit (m 69 k).toNat) i
    have h16 : 2 ^ i ≤ 65536 := Nat.pow_le_pow_right (n := 2) (by decide) (show i ≤ 16 by omega)
    rw [show bts (fun k => a.toNat.testBit (m 68 k).toNat && b.toNat.testBit (m 69 k).toNat) (i + 1) = bts (fun k => a.toNat.testBit (m 68 k).toNat && b.toNat.testBit (m 69 k).toNat) i ||| (if (a.toNat.testBit (m 68 i).toNat && b.toNat.testBit (m 69 i).toNat) then 2 ^ i else 0) from rfl] at hE
    refine g_pairsOf1 ?_
    rw [hm.2.2.1.1]
    simp (disch := omega) only [w32_id, Int.toNat_natCast, g1.1, g1.2]
    rw [i_bit (by omega) (by omega), i_bit (by omega) (by omega)]
    unfold bt
    have zero : (a.toNat.testBit (m 68 i).toNat && b.toNat.testBit (m 69 i).toNat) = false → Ev d 188 (fun r S2 => r = some (0, ((poB m a b : Nat) : Int)) ∧ S2 = enc w t) 5 [rA 67, (0, a), (0, b), (0, ior (bts (fun k => a.toNat.testBit (m 68 k).toNat && b.toNat.testBit (m 69 k).toNat) i : Int) 0), (0, (i : Int) + 1)] [] (enc w t) := fun h9 => by
      rw [h9] at hE
      rw [show (0 : Int) = ((0 : Nat) : Int) from rfl, b_or (by omega) (by decide)]
      exact hE
    cases hA : a.toNat.testBit (m 68 i).toNat with
    | false =>
      rw [hA] at zero
      refine ⟨fun h9 => (by omega), fun _ => ⟨by omega, fun _ => zero rfl, fun h9 => absurd (by decide +kernel) h9⟩⟩
    | true =>
      rw [hA] at zero hE
      refine ⟨fun h9 => (by omega), fun _ => ⟨by omega, fun h9 => absurd (by decide +kernel) h9, fun _ => ⟨by omega, ?_⟩⟩⟩
      cases hB : b.toNat.testBit (m 69 i).toNat with
      | false =>
        rw [hB] at zero
        exact ⟨fun _ => zero rfl, fun h9 => absurd (by decide +kernel) h9⟩
      | true =>
        rw [hB, Bool.true_and, if_pos rfl] at hE
        refine ⟨fun h9 => absurd (by decide +kernel) h9, fun _ => ?_⟩
        rw [i_set (by omega) (by omega), Int.toNat_natCast, Int.toNat_natCast]
        exact hE
  · refine g_pairsOf1 ?_
    rw [hm.2.2.1.1]
    simp (disch := omega) only [w32_id]
    exact ⟨fun _ => ⟨rfl, by trivial⟩, fun h9 => (by omega)⟩

