/-! Whether a good row of so many pairs holds a pair. -/
def an (f : Nat → Bool) : Nat → Bool
  | 0 => false
  | n + 1 => an f n || f n
theorem an_iff {f : Nat → Bool} {n : Nat} : an f n = true ↔ ∃ i, i < n ∧ f i = true := by
  induction n with
  | zero => exact ⟨fun h => (by cases h), fun ⟨i, h, _⟩ => absurd h (Nat.not_lt_zero i)⟩
  | succ n ih =>
    unfold an
    rw [Bool.or_eq_true, ih]
    constructor
    · rintro (⟨i, h1, h2⟩ | h)
      · exact ⟨i, by omega, h2⟩
      · exact ⟨n, by omega, h⟩
    · rintro ⟨i, h1, h2⟩
      by_cases h : i = n
      · subst h; exact Or.inr h2
      · exact Or.inl ⟨i, by omega, h2⟩
theorem an_more {f : Nat → Bool} {i n : Nat} (h : i ≤ n) (hi : an f i = true) : an f n = true := by
  obtain ⟨j, h1, h2⟩ := an_iff.mp hi
  exact an_iff.mpr ⟨j, by omega, h2⟩
def hB (m : eW) (wt : Nat) : Nat → Nat → Nat → Nat → Nat → Bool
  | 0, z, a, b, c => decide (z = 1) && isE m (-1) a b c
  | n + 1, z, a, b, c => an (fun d => goes m (-1) a b c d && hB m wt n (if d = wt then 1 else z) b c d) (nP m)
def PmH (m : eW) (wt : Nat) (key v : Int) : Prop := ∀ l z a b c : Nat, z ≤ 1 → a ≤ 16 → b ≤ 16 → c ≤ 16 → key = (2 * (l : Int) + z) * 4913 + (((a : Int) * 17 + b) * 17 + c) → v = bI (hB m wt l z a b c)
def KyH (key : Int) (l z a b c : Nat) : Prop := key = (2 * (l : Int) + z) * 4913 + (((a : Int) * 17 + b) * 17 + c)
theorem kH_inj {l z a b c l2 z2 a2 b2 c2 : Nat} (h0 : z ≤ 1) (h1 : a ≤ 16) (h2 : b ≤ 16) (h3 : c ≤ 16) (h00 : z2 ≤ 1) (h4 : a2 ≤ 16) (h5 : b2 ≤ 16) (h6 : c2 ≤ 16) (h : (2 * (l : Int) + z) * 4913 + (((a : Int) * 17 + b) * 17 + c) = (2 * (l2 : Int) + z2) * 4913 + (((a2 : Int) * 17 + b2) * 17 + c2)) : l = l2 ∧ z = z2 ∧ a = a2 ∧ b = b2 ∧ c = c2 := by
  have h' : ((2 * l + z : Nat) : Int) * 4913 + (((a : Int) * 17 + b) * 17 + c) = ((2 * l2 + z2 : Nat) : Int) * 4913 + (((a2 : Int) * 17 + b2) * 17 + c2) := by omega
  obtain ⟨q1, q2, q3, q4⟩ := key_inj h1 h2 h3 h4 h5 h6 h'
  exact ⟨by omega, by omega, q2, q3, q4⟩
def HCx (m : eW) (wt : Nat) (w : eW) : Prop := MG w m ∧ w 67 35 = -1 ∧ w 67 45 = (wt : Int) ∧ wt < nP m
theorem HCx.m {m : eW} {wt : Nat} {R F : List Nat} {w w2 : eW} (h : HCx m wt w) (hf : Fm R F w w2) (hR : ∀ a ∈ R, a < 68 ∨ 76 < a) (hF : ∀ k ∈ F, k ≠ 0 ∧ k ≠ 6 ∧ k ≠ 35 ∧ k ≠ 45) : HCx m wt w2 := ⟨h.1.m hf hR (fun k hk => ⟨(hF k hk).1, (hF k hk).2.1⟩), by rw [hf.2 35 (fun h9 => (hF 35 h9).2.2.1 rfl)]; exact h.2.1, by rw [hf.2 45 (fun h9 => (hF 45 h9).2.2.2 rfl)]; exact h.2.2.1, h.2.2.2⟩
def HPR (m : eW) (wt B : Nat) (l z a b c : Int) (w : eW) (_ : eT) : Prop := HCx m wt w ∧ KnW (PmH m wt) w ∧ (0 ≤ l ∧ l.toNat < B ∧ l ≤ 6) ∧ (0 ≤ z ∧ z ≤ 1) ∧ gABC m a b c
def HPO (m : eW) (wt : Nat) (l z a b c : Int) (w : eW) (t : eT) (x : Int) (w2 : eW) (t2 : eT) : Prop := x = bI (hB m wt l.toNat z.toNat a.toNat b.toNat c.toNat) ∧ t2 = t ∧ FrT w w2 ∧ KnW (PmH m wt) w2

theorem g_hF0 {d : Nat} {Q : Option aV → aS → Prop} {w : eW} {t : eT} {l z a b c : Int} {m : eW} {D : Int → Option Int} {wo : Int} {y : Bool} (hw : w32 wo = wo) (h : ((¬ w32 l = 0 → (DV w D ∧ 0 ≤ (((2 * l) + z) * 4913) + ((((a * 17) + b) * 17) + c) ∧ (((2 * l) + z) * 4913) + ((((a * 17) + b) * 17) + c) ≤ 2147483647) ∧ ((((D ((((2 * l) + z) * 4913) + ((((a * 17) + b) * 17) + c))).isSome) = false → Ev (d + 6) 216 Q 79 [rA 67, (0, l), (0, z), (0, a), (0, b), (0, c), (0, (((2 * l) + z) * 4913) + ((((a * 17) + b) * 17) + c)), (0, 0), (0, 0)] [] (enc w t)) ∧ (((D ((((2 * l) + z) * 4913) + ((((a * 17) + b) * 17) + c))).isSome) = true → (DV w D ∧ (0 ≤ (((2 * l) + z) * 4913) + ((((a * 17) + b) * 17) + c) ∧ (((2 * l) + z) * 4913) + ((((a * 17) + b) * 17) + c) ≤ 2147483647) ∧ (D ((((2 * l) + z) * 4913) + ((((a * 17) + b) * 17) + c))).isSome = true) ∧ ((¬ w64 ((D ((((2 * l) + z) * 4913) + ((((a * 17) + b) * 17) + c))).getD 0) = w64 1 → Q (some (0, 0)) (enc w t)) ∧ (¬ (¬ w64 ((D ((((2 * l) + z) * 4913) + ((((a * 17) + b) * 17) + c))).getD 0) = w64 1) → Q (some (0, 1)) (enc w t)))))) ∧ (¬ (¬ w32 l = 0) → ((¬ w32 z = w32 1 → Q (some (0, 0)) (enc w t)) ∧ (¬ (¬ w32 z = w32 1) → (MG w m ∧ w 67 35 = wo ∧ gE a ∧ gE b ∧ gC m c) ∧ (((isE m wo a.toNat b.toNat c.toNat) = false → Q (some (0, 0)) (enc w t)) ∧ ((isE m wo a.toNat b.toNat c.toNat) = true → Q (some (0, 1)) (enc w t)))))))) : Cl (d + 6) 216 [rA 67, (0, l), (0, z), (0, a), (0, b), (0, c)] (enc w t) Q := by
  show Ev (d + 6) 216 Q 0 [rA 67, (0, l), (0, z), (0, a), (0, b), (0, c), (9, 0), (9, 0), (9, 0)] [] (enc w t)
  refine e_ldi (show am_cd 216 0 = (2, 1, 1, 0, []) by decide +kernel) rfl ?_
  refine e_if1 (show am_cd 216 1 = (10, 4, 27, 1, []) by decide +kernel) (fun hc => ?_) (fun hc => ?_)
  · replace h := h.1 hc
    refine e_ic (show am_cd 216 27 = (0, 28, 0, 2, []) by decide +kernel) ?_
    refine e_ldi (show am_cd 216 28 = (2, 29, 1, 0, []) by decide +kernel) rfl ?_
    refine e_imul (show am_cd 216 29 = (5, 30, 2, 0, []) by decide +kernel) ?_
    refine e_ldi (show am_cd 216 30 = (2, 31, 2, 0, []) by decide +kernel) rfl ?_
    refine e_iadd (show am_cd 216 31 = (5, 32, 0, 0, []) by decide +kernel) ?_
    refine e_ic (show am_cd 216 32 = (0, 35, 2, 4913, []) by decide +kernel) ?_
    refine e_imul (show am_cd 216 35 = (5, 36, 2, 0, []) by decide +kernel) ?_
    refine e_ldi (show am_cd 216 36 = (2, 37, 3, 0, []) by decide +kernel) rfl ?_
    refine e_ldi (show am_cd 216 37 = (2, 39, 4, 0, []) by decide +kernel) rfl ?_
    refine e_ldi (show am_cd 216 39 = (2, 41, 5, 0, []) by decide +kernel) rfl ?_
    refine e_cS (z := 0) (as := [(0, a), (0, b), (0, c)]) (rest := [(0, ((2 * l) + z) * 4913)]) (show am_cd 216 41 = (40, 44, 209, 1, [278]) by decide +kernel) (by decide) rfl rfl (Nat.le_of_ble_eq_true rfl) rfl ?_
    show Ev _ 209 _ 0 [(0, a), (0, b), (0, c)] [] _
    refine e_ldi (show am_cd 209 0 = (2, 1, 0, 0, []) by decide +kernel) rfl ?_
    refine e_ic (show am_cd 209 1 = (0, 3, 1, 17, []) by decide +kernel) ?_
    refine e_imul (show am_cd 209 3 = (5, 4, 2, 0, []) by decide +kernel) ?_
    refine e_ldi (show am_cd 209 4 = (2, 5, 1, 0, []) by decide +kernel) rfl ?_
    refine e_iadd (show am_cd 209 5 = (5, 6, 0, 0, []) by decide +kernel) ?_
    refine e_ic (show am_cd 209 6 = (0, 8, 1, 17, []) by decide +kernel) ?_
    refine e_imul (show am_cd 209 8 = (5, 9, 2, 0, []) by decide +kernel) ?_
    refine e_ldi (show am_cd 209 9 = (2, 10, 2, 0, []) by decide +kernel) rfl ?_
    refine e_iadd (show am_cd 209 10 = (5, 11, 0, 0, []) by decide +kernel) ?_
    refine e_reti (show am_cd 209 11 = (36, 12, 0, 0, []) by decide +kernel) (by decide +kernel) ⟨fun _ h9 => (by cases h9), ?_⟩
    show Ev _ 216 _ 44 [rA 67, (0, l), (0, z), (0, a), (0, b), (0, c), (9, 0), (9, 0), (9, 0)] [(0, (((a * 17) + b) * 17) + c), (0, ((2 * l) + z) * 4913)] _
    refine e_iadd (show am_cd 216 44 = (5, 45, 0, 0, []) by decide +kernel) ?_
    refine e_sti (la2 := [rA 67, (0, l), (0, z), (0, a), (0, b), (0, c), (0, (((2 * l) + z) * 4913) + ((((a * 17) + b) * 17) + c)), (9, 0), (9, 0)]) (show am_cd 216 45 = (3, 47, 6, 0, []) by decide +kernel) rfl ?_
    refine e_lda (v := 67) (show am_cd 216 47 = (2, 48, 0, 2, []) by decide +kernel) rfl ?_
    refine e_ldi (show am_cd 216 48 = (2, 50, 6, 0, []) by decide +kernel) rfl ?_
    refine e_cV (z := 0) (a := 67) (as := [(0, (((2 * l) + z) * 4913) + ((((a * 17) + b) * 17) + c))]) (rest := []) (show am_cd 216 50 = (40, 53, 205, 0, [295]) by decide +kernel) (by decide +kernel) rfl rfl (Nat.le_of_ble_eq_true rfl) rfl ?_
    refine Cl.mono (Cl.up (c_isKnown (d := d) h.1) (by omega)) ?_
    rintro _ _ ⟨rfl, rfl⟩
    refine ⟨fun _ h9 => (by cases h9), ?_⟩
    replace h := h.2
    show Ev _ 216 _ 53 [rA 67, (0, l), (0, z), (0, a), (0, b), (0, c), (0, (((2 * l) + z) * 4913) + ((((a * 17) + b) * 17) + c)), (9, 0), (9, 0)] [(0, bI ((D ((((2 * l) + z) * 4913) + ((((a * 17) + b) * 17) + c))).isSome))] _
    refine e_ifb0 (show am_cd 216 53 = (10, 56, 73, 0, []) by decide +kernel) (fun hc => ?_) (fun hc => ?_)
    · replace h := h.1 hc
      refine e_ic (show am_cd 216 73 = (0, 74, 0, 0, []) by decide +kernel) ?_
      refine e_sti (la2 := [rA 67, (0, l), (0, z), (0, a), (0, b), (0, c), (0, (((2 * l) + z) * 4913) + ((((a * 17) + b) * 17) + c)), (0, 0), (9, 0)]) (show am_cd 216 74 = (3, 76, 7, 0, []) by decide +kernel) rfl ?_
      refine e_ic (show am_cd 216 76 = (0, 77, 0, 0, []) by decide +kernel) ?_
      refine e_sti (la2 := [rA 67, (0, l), (0, z), (0, a), (0, b), (0, c), (0, (((2 * l) + z) * 4913) + ((((a * 17) + b) * 17) + c)), (0, 0), (0, 0)]) (show am_cd 216 77 = (3, 79, 8, 0, []) by decide +kernel) rfl ?_
      exact h
    · replace h := h.2 hc
      refine e_lda (v := 67) (show am_cd 216 56 = (2, 57, 0, 2, []) by decide +kernel) rfl ?_
      refine e_ldi (show am_cd 216 57 = (2, 59, 6, 0, []) by decide +kernel) rfl ?_
      refine e_cV (z := 0) (a := 67) (as := [(0, (((2 * l) + z) * 4913) + ((((a * 17) + b) * 17) + c))]) (rest := []) (show am_cd 216 59 = (40, 62, 206, 0, [298]) by decide +kernel) (by decide +kernel) rfl rfl (Nat.le_of_ble_eq_true rfl) rfl ?_
      refine Cl.mono (Cl.up (c_knownD (d := d) h.1) (by omega)) ?_
      rintro _ _ ⟨rfl, rfl⟩
      refine ⟨fun _ h9 => (by cases h9), ?_⟩
      replace h := h.2
      show Ev _ 216 _ 62 [rA 67, (0, l), (0, z), (0, a), (0, b), (0, c), (0, (((2 * l) + z) * 4913) + ((((a * 17) + b) * 17) + c)), (9, 0), (9, 0)] [(1, (D ((((2 * l) + z) * 4913) + ((((a * 17) + b) * 17) + c))).getD 0)] _
      refine e_lc (show am_cd 216 62 = (1, 63, 0, 1, []) by decide +kernel) ?_
      refine e_lcb1 (show am_cd 216 63 = (9, 64, 0, 0, []) by decide +kernel) (show am_cd 216 64 = (10, 67, 71, 1, []) by decide +kernel) (fun hc => ?_) (fun hc => ?_)
      · replace h := h.1 hc
        refine e_ic (show am_cd 216 71 = (0, 72, 0, 0, []) by decide +kernel) ?_
        exact e_retz (show am_cd 216 72 = (36, 73, 0, 0, []) by decide +kernel) (by decide +kernel) (Or.inl rfl) h
      · replace h := h.2 hc
        refine e_ic (show am_cd 216 67 = (0, 68, 0, 1, []) by decide +kernel) ?_
        refine e_go (show am_cd 216 68 = (12, 72, 0, 0, []) by decide +kernel) ?_
        exact e_retz (show am_cd 216 72 = (36, 73, 0, 0, []) by decide +kernel) (by decide +kernel) (Or.inr rfl) h
  · replace h := h.2 hc
    refine e_ldi (show am_cd 216 4 = (2, 5, 2, 0, []) by decide +kernel) rfl ?_
    refine e_ic (show am_cd 216 5 = (0, 6, 0, 1, []) by decide +kernel) ?_
    refine e_cmp1 (show am_cd 216 6 = (11, 9, 25, 1, []) by decide +kernel) (fun hc => ?_) (fun hc => ?_)
    · replace h := h.1 hc
      refine e_ic (show am_cd 216 25 = (0, 26, 0, 0, []) by decide +kernel) ?_
      exact e_retz (show am_cd 216 26 = (36, 27, 0, 0, []) by decide +kernel) (by decide +kernel) (Or.inl rfl) h
    · replace h := h.2 hc
      refine e_lda (v := 67) (show am_cd 216 9 = (2, 10, 0, 2, []) by decide +kernel) rfl ?_
      refine e_ldi (show am_cd 216 10 = (2, 11, 3, 0, []) by decide +kernel) rfl ?_
      refine e_ldi (show am_cd 216 11 = (2, 13, 4, 0, []) by decide +kernel) rfl ?_
      refine e_ldi (show am_cd 216 13 = (2, 15, 5, 0, []) by decide +kernel) rfl ?_
      refine e_cV (z := 0) (a := 67) (as := [(0, a), (0, b), (0, c)]) (rest := []) (show am_cd 216 15 = (40, 18, 211, 0, [285]) by decide +kernel) (by decide +kernel) rfl rfl (Nat.le_of_ble_eq_true rfl) rfl ?_
      refine Cl.mono (Cl.up (c_isEnd (hw := hw) (d := d) h.1) (by omega)) ?_
      rintro _ _ ⟨rfl, rfl⟩
      refine ⟨fun _ h9 => (by cases h9), ?_⟩
      replace h := h.2
      show Ev _ 216 _ 18 [rA 67, (0, l), (0, z), (0, a), (0, b), (0, c), (9, 0), (9, 0), (9, 0)] [(0, bI (isE m wo a.toNat b.toNat c.toNat))] _
      refine e_ifb0 (show am_cd 216 18 = (10, 21, 25, 0, []) by decide +kernel) (fun hc => ?_) (fun hc => ?_)
      · replace h := h.1 hc
        refine e_ic (show am_cd 216 25 = (0, 26, 0, 0, []) by decide +kernel) ?_
        exact e_retz (show am_cd 216 26 = (36, 27, 0, 0, []) by decide +kernel) (by decide +kernel) (Or.inl rfl) h
      · replace h := h.2 hc
        refine e_ic (show am_cd 216 21 = (0, 22, 0, 1, []) by decide +kernel) ?_
        refine e_go (show am_cd 216 22 = (12, 26, 0, 0, []) by decide +kernel) ?_
        exact e_retz (show am_cd 216 26 = (36, 27, 0, 0, []) by decide +kernel) (by decide +kernel) (Or.inr rfl) h

theorem g_hF1 {d : Nat} {Q : Option aV → aS → Prop} {w : eW} {t : eT} {l z a b c key p : Int} {m : eW} {D : Int → Option Int} {wo : Int} {y : Bool} (hw : w32 wo = wo) {PRH : Int → Int → Int → Int → Int → eW → eT → Prop} {POH : Int → Int → Int → Int → Int → eW → eT → Int → eW → eT → Prop} (hrH : ∀ (a1 a2 a3 a4 a5 : Int) (w : eW) (t : eT), PRH a1 a2 a3 a4 a5 w t → Cl (d + 5) 216 [rA 67, (0, a1), (0, a2), (0, a3), (0, a4), (0, a5)] (enc w t) (fun r S2 => ∃ x w2 t2, r = some (0, x) ∧ S2 = enc w2 t2 ∧ POH a1 a2 a3 a4 a5 w t x w2 t2)) (h : ((w32 (w 67 0) ≤ w32 p → Ev (d + 6) 216 Q 150 [rA 67, (0, l), (0, z), (0, a), (0, b), (0, c), (0, key), (0, bI y), (0, p)] [] (enc w t)) ∧ (¬ (w32 (w 67 0) ≤ w32 p) → ((y = true → Ev (d + 6) 216 Q 150 [rA 67, (0, l), (0, z), (0, a), (0, b), (0, c), (0, key), (0, bI y), (0, p)] [] (enc w t)) ∧ (y = false → (MG w m ∧ w 67 35 = wo ∧ gE a ∧ gE b ∧ gC m c ∧ gC m p) ∧ (((goes m wo a.toNat b.toNat c.toNat p.toNat) = false → Ev (d + 6) 216 Q 79 [rA 67, (0, l), (0, z), (0, a), (0, b), (0, c), (0, key), (0, 0), (0, p + 1)] [] (enc w t)) ∧ ((goes m wo a.toNat b.toNat c.toNat p.toNat) = true → ((¬ w32 p = w32 (w 67 45) → (PRH (l - 1) z b c p w t) ∧ (∀ x1 w2 t3, (POH (l - 1) z b c p w t x1 w2 t3) → ((w32 x1 = 0 → Ev (d + 6) 216 Q 79 [rA 67, (0, l), (0, z), (0, a), (0, b), (0, c), (0, key), (0, 0), (0, p + 1)] [] (enc w2 t3)) ∧ (¬ (w32 x1 = 0) → Ev (d + 6) 216 Q 79 [rA 67, (0, l), (0, z), (0, a), (0, b), (0, c), (0, key), (0, 1), (0, p + 1)] [] (enc w2 t3))))) ∧ (¬ (¬ w32 p = w32 (w 67 45)) → (PRH (l - 1) 1 b c p w t) ∧ (∀ x4 w5 t6, (POH (l - 1) 1 b c p w t x4 w5 t6) → ((w32 x4 = 0 → Ev (d + 6) 216 Q 79 [rA 67, (0, l), (0, z), (0, a), (0, b), (0, c), (0, key), (0, 0), (0, p + 1)] [] (enc w5 t6)) ∧ (¬ (w32 x4 = 0) → Ev (d + 6) 216 Q 79 [rA 67, (0, l), (0, z), (0, a), (0, b), (0, c), (0, key), (0, 1), (0, p + 1)] [] (enc w5 t6))))))))))))) : Ev (d + 6) 216 Q 79 [rA 67, (0, l), (0, z), (0, a), (0, b), (0, c), (0, key), (0, bI y), (0, p)] [] (enc w t) := by
  refine e_ldi (show am_cd 216 79 = (2, 81, 8, 0, []) by decide +kernel) rfl ?_
  refine e_lda (v := 67) (show am_cd 216 81 = (2, 82, 0, 2, []) by decide +kernel) rfl ?_
  refine e_getf (a := 67) (tg := 0) (show am_cd 216 82 = (18, 85, 1200, 0, [168]) by decide +kernel) (by decide +kernel) (by decide +kernel) rfl ?_
  refine e_cmp3 (show am_cd 216 85 = (11, 88, 150, 3, []) by decide +kernel) (fun hc => ?_) (fun hc => ?_)
  · replace h := h.1 hc
    exact h
  · replace h := h.2 hc
    refine e_ldi (show am_cd 216 88 = (2, 90, 7, 0, []) by decide +kernel) rfl ?_
    refine e_ifb1 (show am_cd 216 90 = (10, 93, 150, 1, []) by decide +kernel) (fun hc => ?_) (fun hc => ?_)
    · replace h := h.1 hc
      exact h
    · replace h := h.2 hc
      refine e_lda (v := 67) (show am_cd 216 93 = (2, 94, 0, 2, []) by decide +kernel) rfl ?_
      refine e_ldi (show am_cd 216 94 = (2, 95, 3, 0, []) by decide +kernel) rfl ?_
      refine e_ldi (show am_cd 216 95 = (2, 97, 4, 0, []) by decide +kernel) rfl ?_
      refine e_ldi (show am_cd 216 97 = (2, 99, 5, 0, []) by decide +kernel) rfl ?_
      refine e_ldi (show am_cd 216 99 = (2, 101, 8, 0, []) by decide +kernel) rfl ?_
      refine e_cV (z := 0) (a := 67) (as := [(0, a), (0, b), (0, c), (0, p)]) (rest := []) (show am_cd 216 101 = (40, 104, 210, 0, [282]) by decide +kernel) (by decide +kernel) rfl rfl (Nat.le_of_ble_eq_true rfl) rfl ?_
      refine Cl.mono (Cl.up (c_goes (hw := hw) (d := d) h.1) (by omega)) ?_
      rintro _ _ ⟨rfl, rfl⟩
      refine ⟨fun _ h9 => (by cases h9), ?_⟩
      replace h := h.2
      show Ev _ 216 _ 104 [rA 67, (0, l), (0, z), (0, a), (0, b), (0, c), (0, key), (0, bI y), (0, p)] [(0, bI (goes m wo a.toNat b.toNat c.toNat p.toNat))] _
      refine e_ifb0 (show am_cd 216 104 = (10, 107, 141, 0, []) by decide +kernel) (fun hc => ?_) (fun hc => ?_)
      · replace h := h.1 hc
        refine e_ic (show am_cd 216 141 = (0, 142, 0, 0, []) by decide +kernel) ?_
        refine e_sti (la2 := [rA 67, (0, l), (0, z), (0, a), (0, b), (0, c), (0, key), (0, 0), (0, p)]) (show am_cd 216 142 = (3, 144, 7, 0, []) by decide +kernel) rfl ?_
        refine e_inc (la2 := [rA 67, (0, l), (0, z), (0, a), (0, b), (0, c), (0, key), (0, 0), (0, p + 1)]) (show am_cd 216 144 = (4, 147, 8, 1, []) by decide +kernel) rfl rfl ?_
        refine e_go (show am_cd 216 147 = (12, 79, 0, 0, []) by decide +kernel) ?_
        exact h
      · replace h := h.2 hc
        refine e_lda (v := 67) (show am_cd 216 107 = (2, 108, 0, 2, []) by decide +kernel) rfl ?_
        refine e_ldi (show am_cd 216 108 = (2, 109, 1, 0, []) by decide +kernel) rfl ?_
        refine e_ic (show am_cd 216 109 = (0, 110, 0, 1, []) by decide +kernel) ?_
        refine e_isub (show am_cd 216 110 = (5, 111, 1, 0, []) by decide +kernel) ?_
        refine e_ldi (show am_cd 216 111 = (2, 113, 8, 0, []) by decide +kernel) rfl ?_
        refine e_lda (v := 67) (show am_cd 216 113 = (2, 114, 0, 2, []) by decide +kernel) rfl ?_
        refine e_getf (a := 67) (tg := 0) (show am_cd 216 114 = (18, 117, 1245, 0, [301]) by decide +kernel) (by decide +kernel) (by decide +kernel) rfl ?_
        refine e_cmp1 (show am_cd 216 117 = (11, 120, 124, 1, []) by decide +kernel) (fun hc => ?_) (fun hc => ?_)
        · replace h := h.1 hc
          refine e_ldi (show am_cd 216 124 = (2, 125, 2, 0, []) by decide +kernel) rfl ?_
          refine e_ldi (show am_cd 216 125 = (2, 127, 4, 0, []) by decide +kernel) rfl ?_
          refine e_ldi (show am_cd 216 127 = (2, 129, 5, 0, []) by decide +kernel) rfl ?_
          refine e_ldi (show am_cd 216 129 = (2, 131, 8, 0, []) by decide +kernel) rfl ?_
          refine e_cV (z := 0) (a := 67) (as := [(0, l - 1), (0, z), (0, b), (0, c), (0, p)]) (rest := []) (show am_cd 216 131 = (40, 134, 216, 0, [304]) by decide +kernel) (by decide +kernel) rfl rfl (Nat.le_of_ble_eq_true rfl) rfl ?_
          refine Cl.mono (Cl.up (hrH _ _ _ _ _ _ _ h.1) (by omega)) ?_
          rintro _ _ ⟨x1, w2, t3, rfl, rfl, hp⟩
          refine ⟨fun _ h9 => (by cases h9), ?_⟩
          replace h := h.2 x1 w2 t3 hp
          show Ev _ 216 _ 134 [rA 67, (0, l), (0, z), (0, a), (0, b), (0, c), (0, key), (0, bI y), (0, p)] [(0, x1)] _
          refine e_if0 (show am_cd 216 134 = (10, 137, 141, 0, []) by decide +kernel) (fun hc => ?_) (fun hc => ?_)
          · replace h := h.1 hc
            refine e_ic (show am_cd 216 141 = (0, 142, 0, 0, []) by decide +kernel) ?_
            refine e_sti (la2 := [rA 67, (0, l), (0, z), (0, a), (0, b), (0, c), (0, key), (0, 0), (0, p)]) (show am_cd 216 142 = (3, 144, 7, 0, []) by decide +kernel) rfl ?_
            refine e_inc (la2 := [rA 67, (0, l), (0, z), (0, a), (0, b), (0, c), (0, key), (0, 0), (0, p + 1)]) (show am_cd 216 144 = (4, 147, 8, 1, []) by decide +kernel) rfl rfl ?_
            refine e_go (show am_cd 216 147 = (12, 79, 0, 0, []) by decide +kernel) ?_
            exact h
          · replace h := h.2 hc
            refine e_ic (show am_cd 216 137 = (0, 138, 0, 1, []) by decide +kernel) ?_
            refine e_go (show am_cd 216 138 = (12, 142, 0, 0, []) by decide +kernel) ?_
            refine e_sti (la2 := [rA 67, (0, l), (0, z), (0, a), (0, b), (0, c), (0, key), (0, 1), (0, p)]) (show am_cd 216 142 = (3, 144, 7, 0, []) by decide +kernel) rfl ?_
            refine e_inc (la2 := [rA 67, (0, l), (0, z), (0, a), (0, b), (0, c), (0, key), (0, 1), (0, p + 1)]) (show am_cd 216 144 = (4, 147, 8, 1, []) by decide +kernel) rfl rfl ?_
            refine e_go (show am_cd 216 147 = (12, 79, 0, 0, []) by decide +kernel) ?_
            exact h
        · replace h := h.2 hc
          refine e_ic (show am_cd 216 120 = (0, 121, 0, 1, []) by decide +kernel) ?_
          refine e_go (show am_cd 216 121 = (12, 125, 0, 0, []) by decide +kernel) ?_
          refine e_ldi (show am_cd 216 125 = (2, 127, 4, 0, []) by decide +kernel) rfl ?_
          refine e_ldi (show am_cd 216 127 = (2, 129, 5, 0, []) by decide +kernel) rfl ?_
          refine e_ldi (show am_cd 216 129 = (2, 131, 8, 0, []) by decide +kernel) rfl ?_
          refine e_cV (z := 0) (a := 67) (as := [(0, l - 1), (0, 1), (0, b), (0, c), (0, p)]) (rest := []) (show am_cd 216 131 = (40, 134, 216, 0, [304]) by decide +kernel) (by decide +kernel) rfl rfl (Nat.le_of_ble_eq_true rfl) rfl ?_
          refine Cl.mono (Cl.up (hrH _ _ _ _ _ _ _ h.1) (by omega)) ?_
          rintro _ _ ⟨x4, w5, t6, rfl, rfl, hp⟩
          refine ⟨fun _ h9 => (by cases h9), ?_⟩
          replace h := h.2 x4 w5 t6 hp
          show Ev _ 216 _ 134 [rA 67, (0, l), (0, z), (0, a), (0, b), (0, c), (0, key), (0, bI y), (0, p)] [(0, x4)] _
          refine e_if0 (show am_cd 216 134 = (10, 137, 141, 0, []) by decide +kernel) (fun hc => ?_) (fun hc => ?_)
          · replace h := h.1 hc
            refine e_ic (show am_cd 216 141 = (0, 142, 0, 0, []) by decide +kernel) ?_
            refine e_sti (la2 := [rA 67, (0, l), (0, z), (0, a), (0, b), (0, c), (0, key), (0, 0), (0, p)]) (show am_cd 216 142 = (3, 144, 7, 0, []) by decide +kernel) rfl ?_
            refine e_inc (la2 := [rA 67, (0, l), (0, z), (0, a), (0, b), (0, c), (0, key), (0, 0), (0, p + 1)]) (show am_cd 216 144 = (4, 147, 8, 1, []) by decide +kernel) rfl rfl ?_
            refine e_go (show am_cd 216 147 = (12, 79, 0, 0, []) by decide +kernel) ?_
            exact h
          · replace h := h.2 hc
            refine e_ic (show am_cd 216 137 = (0, 138, 0, 1, []) by decide +kernel) ?_
            refine e_go (show am_cd 216 138 = (12, 142, 0, 0, []) by decide +kernel) ?_
            refine e_sti (la2 := [rA 67, (0, l), (0, z), (0, a), (0, b), (0, c), (0, key), (0, 1), (0, p)]) (show am_cd 216 142 = (3, 144, 7, 0, []) by decide +kernel) rfl ?_
            refine e_inc (la2 := [rA 67, (0, l), (0, z), (0, a), (0, b), (0, c), (0, key), (0, 1), (0, p + 1)]) (show am_cd 216 144 = (4, 147, 8, 1, []) by decide +kernel) rfl rfl ?_
            refine e_go (show am_cd 216 147 = (12, 79, 0, 0, []) by decide +kernel) ?_
            exact h

theorem g_hF2 {d : Nat} {Q : Option aV → aS → Prop} {w : eW} {t : eT} {l z a b c key p : Int} {m : eW} {D : Int → Option Int} {wo : Int} {y : Bool} (hw : w32 wo = wo) (h : ((y = false → (DV w D ∧ 0 ≤ key ∧ key ≤ 2147483647) ∧ (∀ w1, (FrT w w1 ∧ w1 67 38 ≤ w 67 38 + 1 ∧ (DV w1 (uD D key 0) ∨ (500000 ≤ w 67 38 ∧ DV w1 D))) → ((¬ w64 0 = w64 1 → Q (some (0, 0)) (enc w1 t)) ∧ (¬ (¬ w64 0 = w64 1) → Q (some (0, 1)) (enc w1 t))))) ∧ (y = true → (DV w D ∧ 0 ≤ key ∧ key ≤ 2147483647) ∧ (∀ w2, (FrT w w2 ∧ w2 67 38 ≤ w 67 38 + 1 ∧ (DV w2 (uD D key 1) ∨ (500000 ≤ w 67 38 ∧ DV w2 D))) → ((¬ w64 1 = w64 1 → Q (some (0, 0)) (enc w2 t)) ∧ (¬ (¬ w64 1 = w64 1) → Q (some (0, 1)) (enc w2 t))))))) : Ev (d + 6) 216 Q 150 [rA 67, (0, l), (0, z), (0, a), (0, b), (0, c), (0, key), (0, bI y), (0, p)] [] (enc w t) := by
  refine e_lda (v := 67) (show am_cd 216 150 = (2, 151, 0, 2, []) by decide +kernel) rfl ?_
  refine e_ldi (show am_cd 216 151 = (2, 153, 6, 0, []) by decide +kernel) rfl ?_
  refine e_ldi (show am_cd 216 153 = (2, 155, 7, 0, []) by decide +kernel) rfl ?_
  refine e_ifb0 (show am_cd 216 155 = (10, 158, 162, 0, []) by decide +kernel) (fun hc => ?_) (fun hc => ?_)
  · replace h := h.1 hc
    refine e_lc (show am_cd 216 162 = (1, 163, 0, 0, []) by decide +kernel) ?_
    refine e_cV (z := 0) (a := 67) (as := [(0, key), (1, 0)]) (rest := []) (show am_cd 216 163 = (40, 166, 207, 0, [307]) by decide +kernel) (by decide +kernel) rfl rfl (Nat.le_of_ble_eq_true rfl) rfl ?_
    refine Cl.mono (Cl.up (c_learns (d := d) h.1) (by omega)) ?_
    rintro _ _ ⟨w1, rfl, rfl, hp⟩
    refine ⟨fun _ h9 => (by cases h9), ?_⟩
    replace h := h.2 w1 hp
    show Ev _ 216 _ 166 [rA 67, (0, l), (0, z), (0, a), (0, b), (0, c), (0, key), (0, bI y), (0, p)] [(1, 0)] _
    refine e_lc (show am_cd 216 166 = (1, 167, 0, 1, []) by decide +kernel) ?_
    refine e_lcb1 (show am_cd 216 167 = (9, 168, 0, 0, []) by decide +kernel) (show am_cd 216 168 = (10, 171, 175, 1, []) by decide +kernel) (fun hc => ?_) (fun hc => ?_)
    · replace h := h.1 hc
      refine e_ic (show am_cd 216 175 = (0, 176, 0, 0, []) by decide +kernel) ?_
      exact e_retz (show am_cd 216 176 = (36, 177, 0, 0, []) by decide +kernel) (by decide +kernel) (Or.inl rfl) h
    · replace h := h.2 hc
      refine e_ic (show am_cd 216 171 = (0, 172, 0, 1, []) by decide +kernel) ?_
      refine e_go (show am_cd 216 172 = (12, 176, 0, 0, []) by decide +kernel) ?_
      exact e_retz (show am_cd 216 176 = (36, 177, 0, 0, []) by decide +kernel) (by decide +kernel) (Or.inr rfl) h
  · replace h := h.2 hc
    refine e_lc (show am_cd 216 158 = (1, 159, 0, 1, []) by decide +kernel) ?_
    refine e_go (show am_cd 216 159 = (12, 163, 0, 0, []) by decide +kernel) ?_
    refine e_cV (z := 0) (a := 67) (as := [(0, key), (1, 1)]) (rest := []) (show am_cd 216 163 = (40, 166, 207, 0, [307]) by decide +kernel) (by decide +kernel) rfl rfl (Nat.le_of_ble_eq_true rfl) rfl ?_
    refine Cl.mono (Cl.up (c_learns (d := d) h.1) (by omega)) ?_
    rintro _ _ ⟨w2, rfl, rfl, hp⟩
    refine ⟨fun _ h9 => (by cases h9), ?_⟩
    replace h := h.2 w2 hp
    show Ev _ 216 _ 166 [rA 67, (0, l), (0, z), (0, a), (0, b), (0, c), (0, key), (0, bI y), (0, p)] [(1, 1)] _
    refine e_lc (show am_cd 216 166 = (1, 167, 0, 1, []) by decide +kernel) ?_
    refine e_lcb1 (show am_cd 216 167 = (9, 168, 0, 0, []) by decide +kernel) (show am_cd 216 168 = (10, 171, 175, 1, []) by decide +kernel) (fun hc => ?_) (fun hc => ?_)
    · replace h := h.1 hc
      refine e_ic (show am_cd 216 175 = (0, 176, 0, 0, []) by decide +kernel) ?_
      exact e_retz (show am_cd 216 176 = (36, 177, 0, 0, []) by decide +kernel) (by decide +kernel) (Or.inl rfl) h
    · replace h := h.2 hc
      refine e_ic (show am_cd 216 171 = (0, 172, 0, 1, []) by decide +kernel) ?_
      refine e_go (show am_cd 216 172 = (12, 176, 0, 0, []) by decide +kernel) ?_
      exact e_retz (show am_cd 216 176 = (36, 177, 0, 0, []) by decide +kernel) (by decide +kernel) (Or.inr rfl) h

theorem c_holdsFromB {d : Nat} {m : eW} {wt : Nat} : ∀ (B : Nat) (l z a b c : Int) (w : eW) (t : eT), HPR m wt B l z a b c w t → Cl (d + B + 5) 216 [rA 67, (0, l), (0, z), (0, a), (0, b), (0, c)] (enc w t) (fun r S2 => ∃ x w2 t2, r = some (0, x) ∧ S2 = enc w2 t2 ∧ HPO m wt l z a b c w t x w2 t2) := by
  intro B
  induction B with
  | zero => intro l z a b c w t h; exact absurd h.2.2.1.2.1 (Nat.not_lt_zero _)
  | succ B ih =>
    intro l z a b c w t h
    obtain ⟨hX, ⟨D, hD, hP⟩, hl, hz, ⟨ha, hb, hc⟩⟩ := h
    have hm := hX.1
    have hwt := hX.2.2.2
    have hpn := hm.1.n
    have hcE : gE c := by unfold gC at hc; unfold gE; omega
    have ha' := ha
    have hb' := hb
    have hc' := hcE
    unfold gE at ha' hb' hc'
    have w10 : ¬ w64 0 = w64 1 := by decide +kernel
    refine g_hF0 (m := m) (D := D) (y := true) hm1 ?_
    have hkr : 0 ≤ (2 * l + z) * 4913 + ((a * 17 + b) * 17 + c) ∧ (2 * l + z) * 4913 + ((a * 17 + b) * 17 + c) ≤ 2147483647 := by omega
    have hkey : KyH ((2 * l + z) * 4913 + ((a * 17 + b) * 17 + c)) l.toNat z.toNat a.toNat b.toNat c.toNat := by
      unfold KyH
      omega
    generalize (2 * l + z) * 4913 + ((a * 17 + b) * 17 + c) = key at hkr hkey ⊢
    simp (disch := omega) only [w32_id]
    refine ⟨fun h0 => ⟨⟨hD, hkr⟩, fun h1 => ?_, fun h1 => ⟨⟨hD, hkr, h1⟩, ?_⟩⟩, fun h0 => ⟨fun h1 => ⟨_, w, t, rfl, rfl, ?_, rfl, FrT.rf w, D, hD, hP⟩, fun h1 => ⟨⟨hm, hX.2.1, ha, hb, hc⟩, fun h2 => ⟨_, w, t, rfl, rfl, ?_, rfl, FrT.rf w, D, hD, hP⟩, fun h2 => ⟨_, w, t, rfl, rfl, ?_, rfl, FrT.rf w, D, hD, hP⟩⟩⟩⟩
    · obtain ⟨L, hL⟩ : ∃ L, l.toNat = L + 1 := ⟨l.toNat - 1, by omega⟩
      have hval : hB m wt l.toNat z.toNat a.toNat b.toNat c.toNat = an (fun d => goes m (-1) a.toNat b.toNat c.toNat d && hB m wt L (if d = wt then 1 else z.toNat) b.toNat c.toNat d) (nP m) := by rw [hL]; rfl
      generalize hF : (fun d => goes m (-1) a.toNat b.toNat c.toNat d && hB m wt L (if d = wt then 1 else z.toNat) b.toNat c.toNat d) = F at hval
      have fin : ∀ (y : Bool) (i : Nat) (σ : eW), y = hB m wt l.toNat z.toNat a.toNat b.toNat c.toNat → FrT w σ → KnW (PmH m wt) σ → Ev (d + B + 6) 216 (fun r S2 => ∃ x w2 t2, r = some (0, x) ∧ S2 = enc w2 t2 ∧ HPO m wt l z a b c w t x w2 t2) 150 [rA 67, (0, l), (0, z), (0, a), (0, b), (0, c), (0, key), (0, bI y), (0, (i : Int))] [] (enc σ t) := by
        intro y i σ hy q1 q2
        obtain ⟨D2, hD2, hP2⟩ := q2
        have lrn : ∀ (v : Int) (w1 : eW), v = bI y → (FrT σ w1 ∧ w1 67 38 ≤ σ 67 38 + 1 ∧ (DV w1 (uD D2 key v) ∨ (500000 ≤ σ 67 38 ∧ DV w1 D2))) → KnW (PmH m wt) w1 := by
          intro v w1 hv h1
          refine KnW.learn hP2 ?_ h1.2.2
          intro l2 z2 a2 b2 c2 k1 k2 k3 k4 k5
          unfold KyH at hkey
          rw [hkey] at k5
          obtain ⟨rfl, rfl, rfl, rfl, rfl⟩ := kH_inj (by omega) (by omega) (by omega) (by omega) k1 k2 k3 k4 k5
          rw [hv, hy]
        refine g_hF2 (m := m) (D := D2) hm1 ?_
        refine ⟨fun h2 => ⟨⟨hD2, hkr⟩, fun w1 h3 => ⟨fun _ => ⟨_, w1, t, rfl, rfl, ?_, rfl, q1.tr h3.1, lrn _ w1 (by rw [h2]; rfl) h3⟩, fun h9 => absurd w10 h9⟩⟩, fun h2 => ⟨⟨hD2, hkr⟩, fun w1 h3 => ⟨fun h9 => absurd rfl h9, fun _ => ⟨_, w1, t, rfl, rfl, ?_, rfl, q1.tr h3.1, lrn _ w1 (by rw [h2]; rfl) h3⟩⟩⟩⟩
        · rw [← hy, h2]; rfl
        · rw [← hy, h2]; rfl
      refine lq1 (fun i (σ : eW) => Ev (d + B + 6) 216 (fun r S2 => ∃ x w2 t2, r = some (0, x) ∧ S2 = enc w2 t2 ∧ HPO m wt l z a b c w t x w2 t2) 79 [rA 67, (0, l), (0, z), (0, a), (0, b), (0, c), (0, key), (0, bI (an F i)), (0, (i : Int))] [] (enc σ t)) (fun i σ => FrT w σ ∧ KnW (PmH m wt) σ) (nP m) ?_ ?_ 0 w (Nat.zero_le _) ⟨FrT.rf w, D, hD, hP⟩
      · intro i σ hi hI hE
        have hX2 := hX.m hI.1.m (by decide) (by decide)
        have hFi : F i = (goes m (-1) a.toNat b.toNat c.toNat i && hB m wt L (if i = wt then 1 else z.toNat) b.toNat c.toNat i) := by rw [← hF]
        rw [show an F (i + 1) = (an F i || F i) from rfl] at hE
        refine g_hF1 (m := m) (D := D) hm1 ih ?_
        rw [hX2.1.2.2.1.1, hX2.2.2.1]
        simp (disch := omega) only [w32_id, Int.toNat_natCast]
        refine ⟨fun h9 => (by omega), fun _ => ⟨fun hy => fin _ i σ ?_ hI.1 hI.2, fun hy => ⟨⟨hX2.1, hX2.2.1, ha, hb, hc, ⟨by omega, by omega⟩⟩, fun hg => ?_, fun hg => ?_⟩⟩⟩
        · rw [hval, hy, an_more (Nat.le_of_lt hi) hy]
        · rw [hFi, hg, Bool.false_and, hy] at hE
          exact hE σ hI
        · rw [hg, Bool.true_and] at hFi
          have rcc : ∀ (z2 : Int), z2.toNat = (if i = wt then 1 else z.toNat) → 0 ≤ z2 → z2 ≤ 1 → (HPR m wt B (l - 1) z2 b c (i : Int) σ t ∧ ∀ x w2 t2, HPO m wt (l - 1) z2 b c (i : Int) σ t x w2 t2 → (w32 x = 0 → Ev (d + B + 6) 216 (fun r S2 => ∃ x w2 t2, r = some (0, x) ∧ S2 = enc w2 t2 ∧ HPO m wt l z a b c w t x w2 t2) 79 [rA 67, (0, l), (0, z), (0, a), (0, b), (0, c), (0, key), (0, 0), (0, (i : Int) + 1)] [] (enc w2 t2)) ∧ (¬ w32 x = 0 → Ev (d + B + 6) 216 (fun r S2 => ∃ x w2 t2, r = some (0, x) ∧ S2 = enc w2 t2 ∧ HPO m wt l z a b c w t x w2 t2) 79 [rA 67, (0, l), (0, z), (0, a), (0, b), (0, c), (0, key), (0, 1), (0, (i : Int) + 1)] [] (enc w2 t2))) := by
            intro z2 hz2 hz3 hz4
            refine ⟨⟨hX2, hI.2, ⟨by omega, by omega, by omega⟩, ⟨hz3, hz4⟩, ⟨hb, hcE, ⟨by omega, by omega⟩⟩⟩, fun x w2 t2 hp => ?_⟩
            obtain ⟨p1, p2, p3, p4⟩ := hp
            subst p2
            rw [show (l - 1).toNat = L by omega, hz2, Int.toNat_natCast, ← hFi] at p1
            rw [p1, bI_w, bI_0]
            have := hE w2 ⟨hI.1.tr p3, p4⟩
            rw [hy, Bool.false_or] at this
            refine ⟨fun h2 => ?_, fun h2 => ?_⟩
            · rw [h2] at this; exact this
            · have h2' : F i = true := by cases hh : F i; exact absurd hh h2; rfl
              rw [h2'] at this; exact this
          refine ⟨fun hne => rcc z ?_ hz.1 hz.2, fun heq => rcc 1 ?_ (by decide) (by decide)⟩
          · rw [if_neg (by omega)]
          · rw [if_pos (by omega)]; rfl
      · intro σ hI
        have hX2 := hX.m hI.1.m (by decide) (by decide)
        refine g_hF1 (m := m) (D := D) hm1 ih ?_
        rw [hX2.1.2.2.1.1]
        simp (disch := omega) only [w32_id]
        exact ⟨fun _ => fin _ (nP m) σ hval.symm hI.1 hI.2, fun h9 => (by omega)⟩
    · cases hDk : D key with
      | none => rw [hDk] at h1; cases h1
      | some v =>
        unfold KyH at hkey
        have := hP _ v hkr.1 hDk l.toNat z.toNat a.toNat b.toNat c.toNat (by omega) (by omega) (by omega) (by omega) hkey
        rw [Option.getD_some, this]
        cases hh : hB m wt l.toNat z.toNat a.toNat b.toNat c.toNat
        · exact ⟨fun _ => ⟨_, w, t, rfl, rfl, by rw [hh]; rfl, rfl, FrT.rf w, D, hD, hP⟩, fun h9 => absurd w10 h9⟩
        · exact ⟨fun h9 => absurd rfl h9, fun _ => ⟨_, w, t, rfl, rfl, by rw [hh]; rfl, rfl, FrT.rf w, D, hD, hP⟩⟩
    · rw [show l.toNat = 0 by omega]
      show _ = bI (decide (z.toNat = 1) && _)
      rw [decide_eq_false (by omega)]; rfl
    · rw [show l.toNat = 0 by omega]
      show _ = bI (decide (z.toNat = 1) && isE m (-1) a.toNat b.toNat c.toNat)
      rw [h2, Bool.and_false]; rfl
    · rw [show l.toNat = 0 by omega]
      show _ = bI (decide (z.toNat = 1) && isE m (-1) a.toNat b.toNat c.toNat)
      rw [h2, decide_eq_true (by omega)]; rfl

