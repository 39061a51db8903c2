/-! Loops; the alphabet. -/
theorem loop_up {σ : Type} (E I : Int → σ → Prop) (n : Int) (hs : ∀ i s, i < n → I i s → (∀ s2, I (i + 1) s2 → E (i + 1) s2) → E i s) (he : ∀ s, I n s → E n s) : ∀ (k : Nat) (i : Int) (s : σ), i ≤ n → (n - i).toNat = k → I i s → E i s := by
  intro k
  induction k with
  | zero =>
    intro i s h1 h2 h3
    have : i = n := by omega
    subst this
    exact he s h3
  | succ k ih =>
    intro i s h1 h2 h3
    exact hs i s (by omega) h3 (fun s2 h4 => ih (i + 1) s2 (by omega) (by omega) h4)

theorem g_numberOf0 {d : Nat} {Q : Option aV → aS → Prop} {w : eW} {t : eT} {x y : Int} (h : Ev (d) 4 Q 2 [rA 8, (0, x), (0, y), (0, 0)] [] (enc w t)) : Cl (d) 4 [rA 8, (0, x), (0, y)] (enc w t) Q := by
  show Ev (d) 4 Q 0 [rA 8, (0, x), (0, y), (9, 0)] [] (enc w t)
  refine e_ic (show am_cd 4 0 = (0, 1, 0, 0, []) by decide +kernel) ?_
  refine e_sti (la2 := [rA 8, (0, x), (0, y), (0, 0)]) (show am_cd 4 1 = (3, 2, 3, 0, []) by decide +kernel) rfl ?_
  exact h

theorem g_numberOf1 {d : Nat} {Q : Option aV → aS → Prop} {w : eW} {t : eT} {x y i : Int} (h : ((w32 (w 8 6) ≤ w32 i → Q (some (0, (-1))) (enc w t)) ∧ (¬ (w32 (w 8 6) ≤ w32 i) → (0 ≤ w32 i ∧ w32 i < 16) ∧ ((¬ w32 (w 9 (w32 i).toNat) = w32 x → Ev (d) 4 Q 2 [rA 8, (0, x), (0, y), (0, i + 1)] [] (enc w t)) ∧ (¬ (¬ w32 (w 9 (w32 i).toNat) = w32 x) → (0 ≤ w32 i ∧ w32 i < 16) ∧ ((¬ w32 (w 10 (w32 i).toNat) = w32 y → Ev (d) 4 Q 2 [rA 8, (0, x), (0, y), (0, i + 1)] [] (enc w t)) ∧ (¬ (¬ w32 (w 10 (w32 i).toNat) = w32 y) → Q (some (0, i)) (enc w t)))))))) : Ev (d) 4 Q 2 [rA 8, (0, x), (0, y), (0, i)] [] (enc w t) := by
  refine e_ldi (show am_cd 4 2 = (2, 3, 3, 0, []) by decide +kernel) rfl ?_
  refine e_lda (v := 8) (show am_cd 4 3 = (2, 4, 0, 2, []) by decide +kernel) rfl ?_
  refine e_getf (a := 8) (tg := 0) (show am_cd 4 4 = (18, 7, 6, 0, [36]) by decide +kernel) (by decide +kernel) (by decide +kernel) rfl ?_
  refine e_cmp3 (show am_cd 4 7 = (11, 10, 38, 3, []) by decide +kernel) (fun hc => ?_) (fun hc => ?_)
  · replace h := h.1 hc
    refine e_ic (show am_cd 4 38 = (0, 39, 0, -1, []) by decide +kernel) ?_
    exact e_reti (show am_cd 4 39 = (36, 40, 0, 0, []) by decide +kernel) (by decide +kernel) h
  · replace h := h.2 hc
    refine e_lda (v := 8) (show am_cd 4 10 = (2, 11, 0, 2, []) by decide +kernel) rfl ?_
    refine e_getr (a := 8) (r := 9) (show am_cd 4 11 = (18, 14, 0, 2, [9]) by decide +kernel) (by decide +kernel) (by decide +kernel) rfl ?_
    refine e_ldi (show am_cd 4 14 = (2, 15, 3, 0, []) by decide +kernel) rfl ?_
    refine e_iald (a := 9) (n := 16) (show am_cd 4 15 = (21, 16, 0, 0, []) by decide +kernel) (by decide +kernel) (by decide +kernel) (by decide +kernel) h.1 ?_
    replace h := h.2
    refine e_ldi (show am_cd 4 16 = (2, 17, 1, 0, []) by decide +kernel) rfl ?_
    refine e_cmp1 (show am_cd 4 17 = (11, 20, 32, 1, []) by decide +kernel) (fun hc => ?_) (fun hc => ?_)
    · replace h := h.1 hc
      refine e_inc (la2 := [rA 8, (0, x), (0, y), (0, i + 1)]) (show am_cd 4 32 = (4, 35, 3, 1, []) by decide +kernel) rfl rfl ?_
      refine e_go (show am_cd 4 35 = (12, 2, 0, 0, []) by decide +kernel) ?_
      exact h
    · replace h := h.2 hc
      refine e_lda (v := 8) (show am_cd 4 20 = (2, 21, 0, 2, []) by decide +kernel) rfl ?_
      refine e_getr (a := 8) (r := 10) (show am_cd 4 21 = (18, 24, 1, 2, [15]) by decide +kernel) (by decide +kernel) (by decide +kernel) rfl ?_
      refine e_ldi (show am_cd 4 24 = (2, 25, 3, 0, []) by decide +kernel) rfl ?_
      refine e_iald (a := 10) (n := 16) (show am_cd 4 25 = (21, 26, 0, 0, []) by decide +kernel) (by decide +kernel) (by decide +kernel) (by decide +kernel) h.1 ?_
      replace h := h.2
      refine e_ldi (show am_cd 4 26 = (2, 27, 2, 0, []) by decide +kernel) rfl ?_
      refine e_cmp1 (show am_cd 4 27 = (11, 30, 32, 1, []) by decide +kernel) (fun hc => ?_) (fun hc => ?_)
      · replace h := h.1 hc
        refine e_inc (la2 := [rA 8, (0, x), (0, y), (0, i + 1)]) (show am_cd 4 32 = (4, 35, 3, 1, []) by decide +kernel) rfl rfl ?_
        refine e_go (show am_cd 4 35 = (12, 2, 0, 0, []) by decide +kernel) ?_
        exact h
      · replace h := h.2 hc
        refine e_ldi (show am_cd 4 30 = (2, 31, 3, 0, []) by decide +kernel) rfl ?_
        exact e_reti (show am_cd 4 31 = (36, 32, 0, 0, []) by decide +kernel) (by decide +kernel) h

/-- the first place below n where P holds, from i on; none: -1 -/
def firstAt (P : Nat → Bool) : Nat → Nat → Int
  | 0, _ => -1
  | k + 1, i => if P i then (i : Int) else firstAt P k (i + 1)
/-- the number of a pair: the first place of its two letters -/
def numOf (w : eW) (x y : Int) : Int := firstAt (fun p => decide (w 9 p = x) && decide (w 10 p = y)) (w 8 6).toNat 0
def AI (w : eW) : Prop := 0 ≤ w 8 6 ∧ w 8 6 ≤ 16 ∧ ∀ j, j < 16 → (0 ≤ w 9 j ∧ w 9 j ≤ 27) ∧ (0 ≤ w 10 j ∧ w 10 j ≤ 27)
theorem c_numberOf {d : Nat} {w : eW} {t : eT} {x y : Int} (h : AI w ∧ (0 ≤ x ∧ x ≤ 27) ∧ 0 ≤ y ∧ y ≤ 27) : Cl d 4 [rA 8, (0, x), (0, y)] (enc w t) (fun r S2 => r = some (0, numOf w x y) ∧ S2 = enc w t) := by
  obtain ⟨⟨h1, h2, h3⟩, hx, hy⟩ := h
  refine g_numberOf0 ?_
  have main : ∀ (k : Nat) (i : Nat), i + k = (w 8 6).toNat → Ev d 4 (fun r S2 => r = some (0, firstAt (fun p => decide (w 9 p = x) && decide (w 10 p = y)) k i) ∧ S2 = enc w t) 2 [rA 8, (0, x), (0, y), (0, (i : Int))] [] (enc w t) := by
    intro k
    induction k with
    | zero =>
      intro i hi
      refine g_numberOf1 ?_
      simp (disch := omega) only [w32_id]
      refine ⟨fun hc => ⟨rfl, trivial⟩, fun hc => ?_⟩
      omega
    | succ k ih =>
      intro i hi
      have hj := h3 i (by omega)
      refine g_numberOf1 ?_
      simp (disch := omega) only [w32_id, Int.toNat_natCast]
      refine ⟨fun hc => (by omega), fun hc => ⟨by omega, fun hne => ?_, fun heq => ⟨by omega, fun hne => ?_, fun heq2 => ?_⟩⟩⟩
      · have := ih (i + 1) (by omega)
        rw [firstAt, if_neg (by simp; intro h9; exact absurd h9 hne)]
        exact this
      · have := ih (i + 1) (by omega)
        rw [firstAt, if_neg (by simp; intro _ h9; exact absurd h9 hne)]
        exact this
      · rw [firstAt, if_pos (by simp; omega)]
        exact ⟨rfl, trivial⟩
  exact main (w 8 6).toNat 0 (by omega)

