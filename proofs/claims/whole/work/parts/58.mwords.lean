/-! Words of so many letters. -/
def wWg (m : eW) (nt : Int) (R : Nat → Nat → Nat) (l g e : Nat) : Nat := if (e : Int) = nt then 0 else if m 77 e = (g : Int) ∧ fmN m e ≤ l then (if m 78 e = -1 then (if fmN m e = l then 1 else 0) else R (l - fmN m e) (m 78 e).toNat) else 0
/-- words from a class on, of l letters, without the entry nt -/
def wW (m : eW) (nt : Int) : Nat → Nat → Nat → Nat
  | 0, _, _ => 0
  | f + 1, l, g => sm (wWg m nt (wW m nt f) l g) (nE m)
theorem wW_stab {m : eW} (he : WFe m) {nt : Int} : ∀ (f f2 l g : Nat), l < f → l < f2 → wW m nt f l g = wW m nt f2 l g := by
  intro f
  induction f with
  | zero => intro f2 l g h; omega
  | succ f ih =>
    intro f2 l g h1 h2
    match f2, h2 with
    | 0, h2 => omega
    | f2 + 1, h2 =>
      unfold wW
      refine sm_congr (fun e hx => ?_)
      have hfm := he.fm hx
      unfold wWg
      by_cases hc : m 77 e = (g : Int) ∧ fmN m e ≤ l
      · rw [if_pos hc, if_pos hc, ih f2 (l - fmN m e) _ (by omega) (by omega)]
      · rw [if_neg hc, if_neg hc]
def wv (m : eW) (nt : Int) (l g : Nat) : Nat := wW m nt 7 l g
theorem wW_step {m : eW} (he : WFe m) {nt : Int} {f l g : Nat} (hl : l ≤ f) : wW m nt (f + 1) l g = sm (wWg m nt (wW m nt (f + 1)) l g) (nE m) := by
  rw [wW]
  refine sm_congr (fun e hx => ?_)
  have hfm := he.fm hx
  unfold wWg
  by_cases hc : m 77 e = (g : Int) ∧ fmN m e ≤ l
  · rw [if_pos hc, if_pos hc, wW_stab he f (f + 1) (l - fmN m e) _ (by omega) (by omega)]
  · rw [if_neg hc, if_neg hc]
theorem wv_eq {m : eW} (he : WFe m) {nt : Int} {l g : Nat} (hl : l ≤ 6) : wv m nt l g = sm (wWg m nt (wv m nt) l g) (nE m) := wW_step he hl
theorem wW_le {m : eW} (he : WFe m) {nt : Int} : ∀ (f l g : Nat), wW m nt f l g ≤ 16 ^ l := by
  intro f
  induction f with
  | zero => intro l g; exact Nat.zero_le _
  | succ f ih =>
    intro l g
    unfold wW
    have hn := he.n.2
    match l with
    | 0 =>
      have hz : sm (wWg m nt (wW m nt f) 0 g) (nE m) = 0 := sm_zero.mpr (fun e hx => by
        have hfm := he.fm hx
        unfold wWg
        rw [if_neg (show ¬ (m 77 e = (g : Int) ∧ fmN m e ≤ 0) by omega), ite_self])
      rw [hz]
      exact Nat.zero_le _
    | l + 1 =>
      have h1 := sm_bound (f := wWg m nt (wW m nt f) (l + 1) g) (n := nE m) (c := 16 ^ l) (fun e hx => by
        have hfm := he.fm hx
        have hpos : 0 < 16 ^ l := Nat.pow_pos (by decide)
        unfold wWg
        split
        · exact Nat.zero_le _
        · split
          · split
            · split <;> omega
            · exact Nat.le_trans (ih _ _) (Nat.pow_le_pow_right (by decide) (by omega))
          · exact Nat.zero_le _)
      refine Nat.le_trans h1 ?_
      rw [Nat.pow_succ, Nat.mul_comm]
      exact Nat.mul_le_mul_left _ hn
theorem wv_le {m : eW} (he : WFe m) {nt : Int} {l g : Nat} (hl : l ≤ 6) : wv m nt l g ≤ 16777216 := Nat.le_trans (wW_le he 7 l g) (Nat.le_trans (Nat.pow_le_pow_right (by decide) hl) (by decide))

theorem g_cW0 {d : Nat} {Q : Option aV → aS → Prop} {w : eW} {t : eT} {n z : Int} (h : Ev (d) 257 Q 2 [rA 67, (0, n), (0, z), (0, 0), (9, 0), (9, 0), (9, 0), (9, 0)] [] (enc w t)) : Cl (d) 257 [rA 67, (0, n), (0, z)] (enc w t) Q := by
  show Ev (d) 257 Q 0 [rA 67, (0, n), (0, z), (9, 0), (9, 0), (9, 0), (9, 0), (9, 0)] [] (enc w t)
  refine e_ic (show am_cd 257 0 = (0, 1, 0, 0, []) by decide +kernel) ?_
  refine e_sti (la2 := [rA 67, (0, n), (0, z), (0, 0), (9, 0), (9, 0), (9, 0), (9, 0)]) (show am_cd 257 1 = (3, 2, 3, 0, []) by decide +kernel) rfl ?_
  exact h

theorem g_cW1 {d : Nat} {Q : Option aV → aS → Prop} {w : eW} {t : eT} {n z l : Int} {J4 J5 J6 J7 : aV} (h : ((w32 n < w32 l → (0 ≤ w32 (4 * n) ∧ w32 (4 * n) < 28) ∧ (Q (some (1, w 99 (w32 (4 * n)).toNat)) (enc w t))) ∧ (¬ (w32 n < w32 l) → Ev (d) 257 Q 10 [rA 67, (0, n), (0, z), (0, l), (0, 0), J5, J6, J7] [] (enc w t)))) : Ev (d) 257 Q 2 [rA 67, (0, n), (0, z), (0, l), J4, J5, J6, J7] [] (enc w t) := by
  refine e_ldi (show am_cd 257 2 = (2, 3, 3, 0, []) by decide +kernel) rfl ?_
  refine e_ldi (show am_cd 257 3 = (2, 4, 1, 0, []) by decide +kernel) rfl ?_
  refine e_cmp4 (show am_cd 257 4 = (11, 7, 158, 4, []) by decide +kernel) (fun hc => ?_) (fun hc => ?_)
  · replace h := h.1 hc
    refine e_lda (v := 67) (show am_cd 257 158 = (2, 159, 0, 2, []) by decide +kernel) rfl ?_
    refine e_getr (a := 67) (r := 99) (show am_cd 257 159 = (18, 162, 1252, 2, [110]) by decide +kernel) (by decide +kernel) (by decide +kernel) rfl ?_
    refine e_ic (show am_cd 257 162 = (0, 163, 0, 4, []) by decide +kernel) ?_
    refine e_ldi (show am_cd 257 163 = (2, 164, 1, 0, []) by decide +kernel) rfl ?_
    refine e_imul (show am_cd 257 164 = (5, 165, 2, 0, []) by decide +kernel) ?_
    refine e_lald (a := 99) (n := 28) (show am_cd 257 165 = (22, 166, 0, 0, []) by decide +kernel) (by decide +kernel) (by decide +kernel) (by decide +kernel) h.1 ?_
    replace h := h.2
    exact e_retl (show am_cd 257 166 = (36, 167, 1, 0, []) by decide +kernel) (by decide +kernel) h
  · replace h := h.2 hc
    refine e_ic (show am_cd 257 7 = (0, 8, 0, 0, []) by decide +kernel) ?_
    refine e_sti (la2 := [rA 67, (0, n), (0, z), (0, l), (0, 0), J5, J6, J7]) (show am_cd 257 8 = (3, 10, 4, 0, []) by decide +kernel) rfl ?_
    exact h

theorem g_cW2 {d : Nat} {Q : Option aV → aS → Prop} {w : eW} {t : eT} {n z l g : Int} {J4 J5 J6 J7 : aV} (h : ((w32 4 ≤ w32 g → Ev (d) 257 Q 2 [rA 67, (0, n), (0, z), (0, l + 1), (0, g), J5, J6, J7] [] (enc w t)) ∧ (¬ (w32 4 ≤ w32 g) → Ev (d) 257 Q 22 [rA 67, (0, n), (0, z), (0, l), (0, g), (1, 0), (9, 0), (0, 0)] [] (enc w t)))) : Ev (d) 257 Q 10 [rA 67, (0, n), (0, z), (0, l), (0, g), J5, J6, J7] [] (enc w t) := by
  refine e_ldi (show am_cd 257 10 = (2, 12, 4, 0, []) by decide +kernel) rfl ?_
  refine e_ic (show am_cd 257 12 = (0, 13, 0, 4, []) by decide +kernel) ?_
  refine e_cmp3 (show am_cd 257 13 = (11, 16, 152, 3, []) by decide +kernel) (fun hc => ?_) (fun hc => ?_)
  · replace h := h.1 hc
    refine e_inc (la2 := [rA 67, (0, n), (0, z), (0, l + 1), (0, g), J5, J6, J7]) (show am_cd 257 152 = (4, 155, 3, 1, []) by decide +kernel) rfl rfl ?_
    refine e_go (show am_cd 257 155 = (12, 2, 0, 0, []) by decide +kernel) ?_
    exact h
  · replace h := h.2 hc
    refine e_lc (show am_cd 257 16 = (1, 17, 0, 0, []) by decide +kernel) ?_
    refine e_stl (la2 := [rA 67, (0, n), (0, z), (0, l), (0, g), (1, 0), (9, 0), J7]) (show am_cd 257 17 = (3, 19, 5, 1, []) by decide +kernel) rfl ?_
    refine e_ic (show am_cd 257 19 = (0, 20, 0, 0, []) by decide +kernel) ?_
    refine e_sti (la2 := [rA 67, (0, n), (0, z), (0, l), (0, g), (1, 0), (9, 0), (0, 0)]) (show am_cd 257 20 = (3, 22, 7, 0, []) by decide +kernel) rfl ?_
    exact h

theorem g_cW3 {d : Nat} {Q : Option aV → aS → Prop} {w : eW} {t : eT} {n z l g x e : Int} {J4 J5 J6 J7 : aV} (h : ((w32 (w 67 12) ≤ w32 e → (0 ≤ w32 ((4 * l) + g) ∧ w32 ((4 * l) + g) < 28) ∧ (Ev (d) 257 Q 10 [rA 67, (0, n), (0, z), (0, l), (0, g + 1), (1, x), (9, 0), (0, e)] [] (enc (wu w 99 (w32 ((4 * l) + g)).toNat x) t))) ∧ (¬ (w32 (w 67 12) ≤ w32 e) → ((w32 e = w32 z → Ev (d) 257 Q 22 [rA 67, (0, n), (0, z), (0, l), (0, g), (1, x), (9, 0), (0, e + 1)] [] (enc w t)) ∧ (¬ (w32 e = w32 z) → (0 ≤ w32 e ∧ w32 e < 16) ∧ ((¬ w32 (w 77 (w32 e).toNat) = w32 g → Ev (d) 257 Q 22 [rA 67, (0, n), (0, z), (0, l), (0, g), (1, x), (9, 0), (0, e + 1)] [] (enc w t)) ∧ (¬ (¬ w32 (w 77 (w32 e).toNat) = w32 g) → (0 ≤ w32 e ∧ w32 e < 16) ∧ ((w32 (w 79 (w32 e).toNat) ≤ w32 l → (0 ≤ w32 e ∧ w32 e < 16) ∧ ((¬ w32 (w 78 (w32 e).toNat) = w32 (-1) → (0 ≤ w32 e ∧ w32 e < 16) ∧ (0 ≤ w32 e ∧ w32 e < 16) ∧ (0 ≤ w32 ((4 * (l - (w 79 (w32 e).toNat))) + (w 78 (w32 e).toNat)) ∧ w32 ((4 * (l - (w 79 (w32 e).toNat))) + (w 78 (w32 e).toNat)) < 28) ∧ (Ev (d) 257 Q 22 [rA 67, (0, n), (0, z), (0, l), (0, g), (1, x + (w 99 (w32 ((4 * (l - (w 79 (w32 e).toNat))) + (w 78 (w32 e).toNat))).toNat)), (9, 0), (0, e + 1)] [] (enc w t))) ∧ (¬ (¬ w32 (w 78 (w32 e).toNat) = w32 (-1)) → (0 ≤ w32 e ∧ w32 e < 16) ∧ ((¬ w32 (w 79 (w32 e).toNat) = w32 l → Ev (d) 257 Q 22 [rA 67, (0, n), (0, z), (0, l), (0, g), (1, x + 0), (9, 0), (0, e + 1)] [] (enc w t)) ∧ (¬ (¬ w32 (w 79 (w32 e).toNat) = w32 l) → Ev (d) 257 Q 22 [rA 67, (0, n), (0, z), (0, l), (0, g), (1, x + 1), (9, 0), (0, e + 1)] [] (enc w t)))))) ∧ (¬ (w32 (w 79 (w32 e).toNat) ≤ w32 l) → Ev (d) 257 Q 22 [rA 67, (0, n), (0, z), (0, l), (0, g), (1, x), (9, 0), (0, e + 1)] [] (enc w t)))))))))) : Ev (d) 257 Q 22 [rA 67, (0, n), (0, z), (0, l), (0, g), (1, x), (9, 0), (0, e)] [] (enc w t) := by
  refine e_ldi (show am_cd 257 22 = (2, 24, 7, 0, []) by decide +kernel) rfl ?_
  refine e_lda (v := 67) (show am_cd 257 24 = (2, 25, 0, 2, []) by decide +kernel) rfl ?_
  refine e_getf (a := 67) (tg := 0) (show am_cd 257 25 = (18, 28, 1212, 0, [186]) by decide +kernel) (by decide +kernel) (by decide +kernel) rfl ?_
  refine e_cmp3 (show am_cd 257 28 = (11, 31, 133, 3, []) by decide +kernel) (fun hc => ?_) (fun hc => ?_)
  · replace h := h.1 hc
    refine e_lda (v := 67) (show am_cd 257 133 = (2, 134, 0, 2, []) by decide +kernel) rfl ?_
    refine e_getr (a := 67) (r := 99) (show am_cd 257 134 = (18, 137, 1252, 2, [110]) by decide +kernel) (by decide +kernel) (by decide +kernel) rfl ?_
    refine e_ic (show am_cd 257 137 = (0, 138, 0, 4, []) by decide +kernel) ?_
    refine e_ldi (show am_cd 257 138 = (2, 139, 3, 0, []) by decide +kernel) rfl ?_
    refine e_imul (show am_cd 257 139 = (5, 140, 2, 0, []) by decide +kernel) ?_
    refine e_ldi (show am_cd 257 140 = (2, 142, 4, 0, []) by decide +kernel) rfl ?_
    refine e_iadd (show am_cd 257 142 = (5, 143, 0, 0, []) by decide +kernel) ?_
    refine e_ldl (show am_cd 257 143 = (2, 145, 5, 1, []) by decide +kernel) rfl ?_
    refine e_last (a := 99) (n := 28) (show am_cd 257 145 = (25, 146, 0, 0, []) by decide +kernel) (by decide +kernel) (by decide +kernel) (by decide +kernel) h.1 ?_
    replace h := h.2
    refine e_inc (la2 := [rA 67, (0, n), (0, z), (0, l), (0, g + 1), (1, x), (9, 0), (0, e)]) (show am_cd 257 146 = (4, 149, 4, 1, []) by decide +kernel) rfl rfl ?_
    refine e_go (show am_cd 257 149 = (12, 10, 0, 0, []) by decide +kernel) ?_
    exact h
  · replace h := h.2 hc
    refine e_ldi (show am_cd 257 31 = (2, 33, 7, 0, []) by decide +kernel) rfl ?_
    refine e_ldi (show am_cd 257 33 = (2, 34, 2, 0, []) by decide +kernel) rfl ?_
    refine e_cmp0 (show am_cd 257 34 = (11, 37, 127, 0, []) by decide +kernel) (fun hc => ?_) (fun hc => ?_)
    · replace h := h.1 hc
      refine e_inc (la2 := [rA 67, (0, n), (0, z), (0, l), (0, g), (1, x), (9, 0), (0, e + 1)]) (show am_cd 257 127 = (4, 130, 7, 1, []) by decide +kernel) rfl rfl ?_
      refine e_go (show am_cd 257 130 = (12, 22, 0, 0, []) by decide +kernel) ?_
      exact h
    · replace h := h.2 hc
      refine e_lda (v := 67) (show am_cd 257 37 = (2, 38, 0, 2, []) by decide +kernel) rfl ?_
      refine e_getr (a := 67) (r := 77) (show am_cd 257 38 = (18, 41, 1213, 2, [37]) by decide +kernel) (by decide +kernel) (by decide +kernel) rfl ?_
      refine e_ldi (show am_cd 257 41 = (2, 43, 7, 0, []) by decide +kernel) rfl ?_
      refine e_iald (a := 77) (n := 16) (show am_cd 257 43 = (21, 44, 0, 0, []) by decide +kernel) (by decide +kernel) (by decide +kernel) (by decide +kernel) h.1 ?_
      replace h := h.2
      refine e_ldi (show am_cd 257 44 = (2, 46, 4, 0, []) by decide +kernel) rfl ?_
      refine e_cmp1 (show am_cd 257 46 = (11, 49, 127, 1, []) by decide +kernel) (fun hc => ?_) (fun hc => ?_)
      · replace h := h.1 hc
        refine e_inc (la2 := [rA 67, (0, n), (0, z), (0, l), (0, g), (1, x), (9, 0), (0, e + 1)]) (show am_cd 257 127 = (4, 130, 7, 1, []) by decide +kernel) rfl rfl ?_
        refine e_go (show am_cd 257 130 = (12, 22, 0, 0, []) by decide +kernel) ?_
        exact h
      · replace h := h.2 hc
        refine e_lda (v := 67) (show am_cd 257 49 = (2, 50, 0, 2, []) by decide +kernel) rfl ?_
        refine e_getr (a := 67) (r := 79) (show am_cd 257 50 = (18, 53, 1215, 2, [43]) by decide +kernel) (by decide +kernel) (by decide +kernel) rfl ?_
        refine e_ldi (show am_cd 257 53 = (2, 55, 7, 0, []) by decide +kernel) rfl ?_
        refine e_iald (a := 79) (n := 16) (show am_cd 257 55 = (21, 56, 0, 0, []) by decide +kernel) (by decide +kernel) (by decide +kernel) (by decide +kernel) h.1 ?_
        replace h := h.2
        refine e_ldi (show am_cd 257 56 = (2, 57, 3, 0, []) by decide +kernel) rfl ?_
        refine e_cmp5 (show am_cd 257 57 = (11, 60, 63, 5, []) by decide +kernel) (fun hc => ?_) (fun hc => ?_)
        · replace h := h.1 hc
          refine e_lda (v := 67) (show am_cd 257 63 = (2, 64, 0, 2, []) by decide +kernel) rfl ?_
          refine e_getr (a := 67) (r := 78) (show am_cd 257 64 = (18, 67, 1214, 2, [40]) by decide +kernel) (by decide +kernel) (by decide +kernel) rfl ?_
          refine e_ldi (show am_cd 257 67 = (2, 69, 7, 0, []) by decide +kernel) rfl ?_
          refine e_iald (a := 78) (n := 16) (show am_cd 257 69 = (21, 70, 0, 0, []) by decide +kernel) (by decide +kernel) (by decide +kernel) (by decide +kernel) h.1 ?_
          replace h := h.2
          refine e_ic (show am_cd 257 70 = (0, 71, 0, -1, []) by decide +kernel) ?_
          refine e_cmp1 (show am_cd 257 71 = (11, 74, 98, 1, []) by decide +kernel) (fun hc => ?_) (fun hc => ?_)
          · replace h := h.1 hc
            refine e_ldl (show am_cd 257 98 = (2, 100, 5, 1, []) by decide +kernel) rfl ?_
            refine e_lda (v := 67) (show am_cd 257 100 = (2, 101, 0, 2, []) by decide +kernel) rfl ?_
            refine e_getr (a := 67) (r := 99) (show am_cd 257 101 = (18, 104, 1252, 2, [110]) by decide +kernel) (by decide +kernel) (by decide +kernel) rfl ?_
            refine e_ic (show am_cd 257 104 = (0, 105, 0, 4, []) by decide +kernel) ?_
            refine e_ldi (show am_cd 257 105 = (2, 106, 3, 0, []) by decide +kernel) rfl ?_
            refine e_lda (v := 67) (show am_cd 257 106 = (2, 107, 0, 2, []) by decide +kernel) rfl ?_
            refine e_getr (a := 67) (r := 79) (show am_cd 257 107 = (18, 110, 1215, 2, [43]) by decide +kernel) (by decide +kernel) (by decide +kernel) rfl ?_
            refine e_ldi (show am_cd 257 110 = (2, 112, 7, 0, []) by decide +kernel) rfl ?_
            refine e_iald (a := 79) (n := 16) (show am_cd 257 112 = (21, 113, 0, 0, []) by decide +kernel) (by decide +kernel) (by decide +kernel) (by decide +kernel) h.1 ?_
            replace h := h.2
            refine e_isub (show am_cd 257 113 = (5, 114, 1, 0, []) by decide +kernel) ?_
            refine e_imul (show am_cd 257 114 = (5, 115, 2, 0, []) by decide +kernel) ?_
            refine e_lda (v := 67) (show am_cd 257 115 = (2, 116, 0, 2, []) by decide +kernel) rfl ?_
            refine e_getr (a := 67) (r := 78) (show am_cd 257 116 = (18, 119, 1214, 2, [40]) by decide +kernel) (by decide +kernel) (by decide +kernel) rfl ?_
            refine e_ldi (show am_cd 257 119 = (2, 121, 7, 0, []) by decide +kernel) rfl ?_
            refine e_iald (a := 78) (n := 16) (show am_cd 257 121 = (21, 122, 0, 0, []) by decide +kernel) (by decide +kernel) (by decide +kernel) (by decide +kernel) h.1 ?_
            replace h := h.2
            refine e_iadd (show am_cd 257 122 = (5, 123, 0, 0, []) by decide +kernel) ?_
            refine e_lald (a := 99) (n := 28) (show am_cd 257 123 = (22, 124, 0, 0, []) by decide +kernel) (by decide +kernel) (by decide +kernel) (by decide +kernel) h.1 ?_
            replace h := h.2
            refine e_ladd (show am_cd 257 124 = (6, 125, 0, 0, []) by decide +kernel) ?_
            refine e_stl (la2 := [rA 67, (0, n), (0, z), (0, l), (0, g), (1, x + (w 99 (w32 ((4 * (l - (w 79 (w32 e).toNat))) + (w 78 (w32 e).toNat))).toNat)), (9, 0), (0, e)]) (show am_cd 257 125 = (3, 127, 5, 1, []) by decide +kernel) rfl ?_
            refine e_inc (la2 := [rA 67, (0, n), (0, z), (0, l), (0, g), (1, x + (w 99 (w32 ((4 * (l - (w 79 (w32 e).toNat))) + (w 78 (w32 e).toNat))).toNat)), (9, 0), (0, e + 1)]) (show am_cd 257 127 = (4, 130, 7, 1, []) by decide +kernel) rfl rfl ?_
            refine e_go (show am_cd 257 130 = (12, 22, 0, 0, []) by decide +kernel) ?_
            exact h
          · replace h := h.2 hc
            refine e_ldl (show am_cd 257 74 = (2, 76, 5, 1, []) by decide +kernel) rfl ?_
            refine e_lda (v := 67) (show am_cd 257 76 = (2, 77, 0, 2, []) by decide +kernel) rfl ?_
            refine e_getr (a := 67) (r := 79) (show am_cd 257 77 = (18, 80, 1215, 2, [43]) by decide +kernel) (by decide +kernel) (by decide +kernel) rfl ?_
            refine e_ldi (show am_cd 257 80 = (2, 82, 7, 0, []) by decide +kernel) rfl ?_
            refine e_iald (a := 79) (n := 16) (show am_cd 257 82 = (21, 83, 0, 0, []) by decide +kernel) (by decide +kernel) (by decide +kernel) (by decide +kernel) h.1 ?_
            replace h := h.2
            refine e_ldi (show am_cd 257 83 = (2, 84, 3, 0, []) by decide +kernel) rfl ?_
            refine e_cmp1 (show am_cd 257 84 = (11, 87, 91, 1, []) by decide +kernel) (fun hc => ?_) (fun hc => ?_)
            · replace h := h.1 hc
              refine e_lc (show am_cd 257 91 = (1, 92, 0, 0, []) by decide +kernel) ?_
              refine e_ladd (show am_cd 257 92 = (6, 93, 0, 0, []) by decide +kernel) ?_
              refine e_stl (la2 := [rA 67, (0, n), (0, z), (0, l), (0, g), (1, x + 0), (9, 0), (0, e)]) (show am_cd 257 93 = (3, 95, 5, 1, []) by decide +kernel) rfl ?_
              refine e_go (show am_cd 257 95 = (12, 127, 0, 0, []) by decide +kernel) ?_
              refine e_inc (la2 := [rA 67, (0, n), (0, z), (0, l), (0, g), (1, x + 0), (9, 0), (0, e + 1)]) (show am_cd 257 127 = (4, 130, 7, 1, []) by decide +kernel) rfl rfl ?_
              refine e_go (show am_cd 257 130 = (12, 22, 0, 0, []) by decide +kernel) ?_
              exact h
            · replace h := h.2 hc
              refine e_lc (show am_cd 257 87 = (1, 88, 0, 1, []) by decide +kernel) ?_
              refine e_go (show am_cd 257 88 = (12, 92, 0, 0, []) by decide +kernel) ?_
              refine e_ladd (show am_cd 257 92 = (6, 93, 0, 0, []) by decide +kernel) ?_
              refine e_stl (la2 := [rA 67, (0, n), (0, z), (0, l), (0, g), (1, x + 1), (9, 0), (0, e)]) (show am_cd 257 93 = (3, 95, 5, 1, []) by decide +kernel) rfl ?_
              refine e_go (show am_cd 257 95 = (12, 127, 0, 0, []) by decide +kernel) ?_
              refine e_inc (la2 := [rA 67, (0, n), (0, z), (0, l), (0, g), (1, x + 1), (9, 0), (0, e + 1)]) (show am_cd 257 127 = (4, 130, 7, 1, []) by decide +kernel) rfl rfl ?_
              refine e_go (show am_cd 257 130 = (12, 22, 0, 0, []) by decide +kernel) ?_
              exact h
        · replace h := h.2 hc
          refine e_go (show am_cd 257 60 = (12, 127, 0, 0, []) by decide +kernel) ?_
          refine e_inc (la2 := [rA 67, (0, n), (0, z), (0, l), (0, g), (1, x), (9, 0), (0, e + 1)]) (show am_cd 257 127 = (4, 130, 7, 1, []) by decide +kernel) rfl rfl ?_
          refine e_go (show am_cd 257 130 = (12, 22, 0, 0, []) by decide +kernel) ?_
          exact h

theorem c_countWords {d : Nat} {m w : eW} {t : eT} {n z : Int} (h : MX w m ∧ (0 ≤ n ∧ n ≤ 6) ∧ okI z) : Cl d 257 [rA 67, (0, n), (0, z)] (enc w t) (fun r S2 => ∃ w2, r = some (1, ((wv m z n.toNat 0 : Nat) : Int)) ∧ S2 = enc w2 t ∧ Fm [99] [] w w2) := by
  obtain ⟨hX, hn, hz⟩ := h
  have he := hX.2.1
  have hne := he.n
  unfold okI at hz
  obtain ⟨N, rfl⟩ : ∃ N : Nat, n = (N : Int) := ⟨n.toNat, by omega⟩
  rw [Int.toNat_natCast]
  generalize hQ : (fun (r : Option aV) (S2 : aS) => ∃ w2, r = some (1, ((wv m z N 0 : Nat) : Int)) ∧ S2 = enc w2 t ∧ Fm [99] [] w w2) = Q
  refine g_cW0 ?_
  refine lq1 (fun l (τ : eW × aV × aV × aV × aV) => Ev d 257 Q 2 [rA 67, (0, (N : Int)), (0, z), (0, (l : Int)), τ.2.1, τ.2.2.1, τ.2.2.2.1, τ.2.2.2.2] [] (enc τ.1 t)) (fun l τ => Fm [99] [] w τ.1 ∧ ∀ l2 g, l2 < l → g < 4 → τ.1 99 (4 * l2 + g) = (wv m z l2 g : Int)) (N + 1) ?_ ?_ 0 (w, (9, 0), (9, 0), (9, 0), (9, 0)) (Nat.zero_le _) ⟨Fm.rf _ _ _, fun l2 g h9 => absurd h9 (Nat.not_lt_zero _)⟩
  · intro l τ hl hI hE
    obtain ⟨σ, J4, J5, J6, J7⟩ := τ
    obtain ⟨i1, i2⟩ := hI
    dsimp only at i1 i2 hE ⊢
    refine g_cW1 ?_
    simp (disch := omega) only [w32_id]
    refine ⟨fun h9 => (by omega), fun _ => ?_⟩
    refine lq1 (fun g (τ : eW × aV × aV × aV) => Ev d 257 Q 10 [rA 67, (0, (N : Int)), (0, z), (0, (l : Int)), (0, (g : Int)), τ.2.1, τ.2.2.1, τ.2.2.2] [] (enc τ.1 t)) (fun g τ => Fm [99] [] w τ.1 ∧ (∀ l2 g, l2 < l → g < 4 → τ.1 99 (4 * l2 + g) = (wv m z l2 g : Int)) ∧ ∀ g2, g2 < g → τ.1 99 (4 * l + g2) = (wv m z l g2 : Int)) 4 ?_ ?_ 0 (σ, J5, J6, J7) (Nat.zero_le _) ⟨i1, i2, fun g2 h9 => absurd h9 (Nat.not_lt_zero _)⟩
    · intro g τ hg hI hE2
      obtain ⟨σ2, K5, K6, K7⟩ := τ
      obtain ⟨j1, j2, j3⟩ := hI
      dsimp only at j1 j2 j3 hE2 ⊢
      have hX2 := hX.m j1 (by decide) (by decide)
      refine g_cW2 (J4 := (9, 0)) ?_
      simp (disch := omega) only [w32_id]
      refine ⟨fun h9 => (by omega), fun _ => ?_⟩
      have heq := wv_eq he (nt := z) (g := g) (show l ≤ 6 by omega)
      refine lp0 (fun e => Ev d 257 Q 22 [rA 67, (0, (N : Int)), (0, z), (0, (l : Int)), (0, (g : Int)), (1, (sm (wWg m z (wv m z) l g) e : Int)), (9, 0), (0, (e : Int))] [] (enc σ2 t)) (nE m) ?_ ?_ 0 (Nat.zero_le _)
      · intro e hx hE3
        obtain ⟨e1, e2, e3, e4⟩ := hX2.2.2.2 e hx
        obtain ⟨f1, f2, f3, f4⟩ := he.2 e hx
        have hfm := he.fm hx
        rw [show sm (wWg m z (wv m z) l g) (e + 1) = sm (wWg m z (wv m z) l g) e + wWg m z (wv m z) l g e from rfl] at hE3
        refine g_cW3 (J4 := (9, 0)) (J5 := (9, 0)) (J6 := (9, 0)) (J7 := (9, 0)) ?_
        rw [hX2.2.2.1]
        have e2' : σ2 78 e = m 78 e := e2
        simp (disch := omega) only [w32_id, Int.toNat_natCast, e1, e2', e3]
        unfold wWg at hE3
        refine ⟨fun h9 => (by omega), fun _ => ⟨fun h1 => ?_, fun h1 => ⟨by omega, fun h2 => ?_, fun h2 => ⟨by omega, fun h3 => ⟨by omega, fun h4 => ⟨by omega, by omega, by omega, ?_⟩, fun h4 => ⟨by omega, fun h5 => ?_, fun h5 => ?_⟩⟩, fun h3 => ?_⟩⟩⟩⟩
        · rw [if_pos h1] at hE3; exact hE3
        · rw [if_neg h1, if_neg (by omega)] at hE3; exact hE3
        · rw [if_neg h1, if_pos (by omega), if_neg h4] at hE3
          rw [show (4 * ((l : Int) - m 79 e) + m 78 e).toNat = 4 * (l - fmN m e) + (m 78 e).toNat by omega, j2 _ _ (by omega) (by omega)]
          exact hE3
        · rw [if_neg h1, if_pos (by omega), if_pos (by omega), if_neg (by omega)] at hE3; exact hE3
        · rw [if_neg h1, if_pos (by omega), if_pos (by omega), if_pos (by omega)] at hE3; exact hE3
        · rw [if_neg h1, if_neg (by omega)] at hE3; exact hE3
      · refine g_cW3 (J4 := (9, 0)) (J5 := (9, 0)) (J6 := (9, 0)) (J7 := (9, 0)) ?_
        rw [hX2.2.2.1]
        simp (disch := omega) only [w32_id]
        refine ⟨fun _ => ⟨by omega, ?_⟩, fun h9 => (by omega)⟩
        rw [show (4 * (l : Int) + (g : Int)).toNat = 4 * l + g by omega]
        refine hE2 (wu σ2 99 (4 * l + g) _, _, _, _) ⟨j1.tr (Fm.pr (by decide) (by decide)), fun l2 g2 h1 h2 => ?_, fun g2 h2 => ?_⟩
        · show wu σ2 99 (4 * l + g) _ 99 (4 * l2 + g2) = _
          rw [wu_nk _ _ (by omega)]
          exact j2 l2 g2 h1 h2
        · show wu σ2 99 (4 * l + g) _ 99 (4 * l + g2) = _
          by_cases h9 : g2 = g
          · subst h9; rw [wu_eq, heq]
          · rw [wu_nk _ _ (by omega)]
            exact j3 g2 (by omega)
    · intro τ hI
      obtain ⟨σ2, K5, K6, K7⟩ := τ
      obtain ⟨j1, j2, j3⟩ := hI
      dsimp only at j1 j2 j3 ⊢
      refine g_cW2 (J4 := (9, 0)) ?_
      simp (disch := omega) only [w32_id]
      refine ⟨fun _ => ?_, fun h9 => (by omega)⟩
      refine hE (σ2, _, _, _, _) ⟨j1, fun l2 g h1 h2 => ?_⟩
      by_cases h9 : l2 = l
      · subst h9; exact j3 g h2
      · exact j2 l2 g (by omega) h2
  · intro τ hI
    obtain ⟨σ, J4, J5, J6, J7⟩ := τ
    obtain ⟨i1, i2⟩ := hI
    dsimp only at i1 i2 ⊢
    refine g_cW1 ?_
    simp (disch := omega) only [w32_id]
    refine ⟨fun _ => ⟨by omega, ?_⟩, fun h9 => (by omega)⟩
    rw [show (4 * (N : Int)).toNat = 4 * N + 0 by omega, i2 N 0 (by omega) (by decide), ← hQ]
    exact ⟨σ, rfl, rfl, i1⟩

