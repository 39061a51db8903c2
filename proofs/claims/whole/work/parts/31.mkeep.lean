/-! The model: rows that are kept. -/
/-- n places of row a from o on are filled -/
def wf (w : eW) (a o n : Nat) (f : Nat → Int) : eW := fun q j => if q = a ∧ o ≤ j ∧ j < o + n then f (j - o) else w q j
theorem wf_0 (w : eW) (a o : Nat) (f : Nat → Int) : wf w a o 0 f = w := by
  funext q j
  unfold wf
  rw [if_neg (by omega)]
theorem wf_succ (w : eW) (a o n : Nat) (f : Nat → Int) : wu (wf w a o n f) a (o + n) (f n) = wf w a o (n + 1) f := by
  funext q j
  unfold wu wf
  by_cases h1 : q = a ∧ j = o + n
  · rw [if_pos h1, if_pos (by omega)]
    congr 1
    omega
  · rw [if_neg h1]
    by_cases h2 : q = a ∧ o ≤ j ∧ j < o + n
    · rw [if_pos h2, if_pos (by omega)]
    · rw [if_neg h2, if_neg (by omega)]
theorem wf_row {w : eW} {a o n q : Nat} {f : Nat → Int} (h : q ≠ a) : wf w a o n f q = w q := by
  funext j
  unfold wf
  rw [if_neg (fun h9 => h h9.1)]
theorem wf_in {w : eW} {a o n j : Nat} {f : Nat → Int} (h : j < n) : wf w a o n f a (o + j) = f j := by
  unfold wf
  rw [if_pos (by omega)]
  congr 1
  omega
theorem wf_out {w : eW} {a o n j : Nat} {f : Nat → Int} (h : j < o ∨ o + n ≤ j) : wf w a o n f a j = w a j := by
  unfold wf
  rw [if_neg (by omega)]
abbrev kT : Type := List (List Nat × List Nat)
def kAt (ks : kT) (i : Nat) : List Nat × List Nat := ks.getD i ([], [])
theorem kAt_l {ks : kT} {x : List Nat × List Nat} {i : Nat} (h : i < ks.length) : kAt (ks ++ [x]) i = kAt ks i := by
  unfold kAt
  simp [List.getD_eq_getElem?_getD, List.getElem?_append_left h]
theorem kAt_n {ks : kT} {x : List Nat × List Nat} : kAt (ks ++ [x]) ks.length = x := by
  unfold kAt
  simp [List.getD_eq_getElem?_getD]
def KM (w : eW) (ks : kT) : Prop := w 67 17 = (ks.length : Int) ∧ ks.length ≤ 20 ∧ ∀ i, i < ks.length → (kAt ks i).1.length ≤ 16 ∧ (kAt ks i).2.length ≤ 6 ∧ w 81 i = ((kAt ks i).1.length : Int) ∧ (∀ k, k < (kAt ks i).1.length → w 82 (16 * i + k) = (((kAt ks i).1.getD k 0 : Nat) : Int)) ∧ w 83 i = (if (kAt ks i).2 = [] then -1 else ((kAt ks i).2.length : Int)) ∧ (∀ k, k < (kAt ks i).2.length → w 84 (6 * i + k) = (((kAt ks i).2.getD k 0 : Nat) : Int))
def MdM (w : eW) (ml : List Nat) : Prop := w 67 40 = (ml.length : Int) ∧ ml.length ≤ 16 ∧ ∀ k, k < ml.length → w 94 k = ((ml.getD k 0 : Nat) : Int)
def WdM (w : eW) (el : List Nat) : Prop := w 67 42 = (el.length : Int) ∧ el.length ≤ 6 ∧ ∀ k, k < el.length → w 95 k = ((el.getD k 0 : Nat) : Int)
/-- behind keeps: only the cells of what is kept have changed -/
def FrK (w w2 : eW) : Prop := (∀ a, a ≠ 67 → (a < 81 ∨ 84 < a) → w2 a = w a) ∧ ∀ k, k ≠ 17 → w2 67 k = w 67 k
theorem take20 (ks : kT) (x : List Nat × List Nat) (h : ks.length = 20) : (ks ++ [x]).take 20 = ks := by
  rw [List.take_append_of_le_length (by omega), List.take_of_length_le (by omega)]
theorem take19 (ks : kT) (x : List Nat × List Nat) (h : ks.length < 20) : (ks ++ [x]).take 20 = ks ++ [x] := List.take_of_length_le (by rw [List.length_append]; simp; omega)

theorem g_keeps0 {d : Nat} {Q : Option aV → aS → Prop} {w : eW} {t : eT} {z : Bool} (h : ((¬ w32 (w 67 17) = w32 20 → (0 ≤ w32 (w 67 17) ∧ w32 (w 67 17) < 20) ∧ (Ev (d) 212 Q 25 [rA 67, (0, bI z), (0, 0)] [] (enc (wu w 81 (w32 (w 67 17)).toNat (w 67 40)) t))) ∧ (¬ (¬ w32 (w 67 17) = w32 20) → Q none (enc w t)))) : Cl (d) 212 [rA 67, (0, bI z)] (enc w t) Q := by
  show Ev (d) 212 Q 0 [rA 67, (0, bI z), (9, 0)] [] (enc w t)
  refine e_lda (v := 67) (show am_cd 212 0 = (2, 1, 0, 2, []) by decide +kernel) rfl ?_
  refine e_getf (a := 67) (tg := 0) (show am_cd 212 1 = (18, 4, 1217, 0, [189]) by decide +kernel) (by decide +kernel) (by decide +kernel) rfl ?_
  refine e_ic (show am_cd 212 4 = (0, 6, 1, 20, []) by decide +kernel) ?_
  refine e_cmp1 (show am_cd 212 6 = (11, 9, 10, 1, []) by decide +kernel) (fun hc => ?_) (fun hc => ?_)
  · replace h := h.1 hc
    refine e_lda (v := 67) (show am_cd 212 10 = (2, 11, 0, 2, []) by decide +kernel) rfl ?_
    refine e_getr (a := 67) (r := 81) (show am_cd 212 11 = (18, 14, 1218, 2, [49]) by decide +kernel) (by decide +kernel) (by decide +kernel) rfl ?_
    refine e_lda (v := 67) (show am_cd 212 14 = (2, 15, 0, 2, []) by decide +kernel) rfl ?_
    refine e_getf (a := 67) (tg := 0) (show am_cd 212 15 = (18, 18, 1217, 0, [189]) by decide +kernel) (by decide +kernel) (by decide +kernel) rfl ?_
    refine e_lda (v := 67) (show am_cd 212 18 = (2, 19, 0, 2, []) by decide +kernel) rfl ?_
    refine e_getf (a := 67) (tg := 0) (show am_cd 212 19 = (18, 22, 1240, 0, [272]) by decide +kernel) (by decide +kernel) (by decide +kernel) rfl ?_
    refine e_iast (a := 81) (n := 20) (show am_cd 212 22 = (24, 23, 0, 0, []) by decide +kernel) (by decide +kernel) (by decide +kernel) (by decide +kernel) h.1 ?_
    replace h := h.2
    refine e_ic (show am_cd 212 23 = (0, 24, 0, 0, []) by decide +kernel) ?_
    refine e_sti (la2 := [rA 67, (0, bI z), (0, 0)]) (show am_cd 212 24 = (3, 25, 2, 0, []) by decide +kernel) rfl ?_
    exact h
  · replace h := h.2 hc
    exact e_retv (show am_cd 212 9 = (36, 10, 3, 0, []) by decide +kernel) (by decide +kernel) h

theorem g_keeps1 {d : Nat} {Q : Option aV → aS → Prop} {w : eW} {t : eT} {i : Int} {z : Bool} (h : ((w32 (w 67 40) ≤ w32 i → ((z = false → (0 ≤ w32 (w 67 17) ∧ w32 (w 67 17) < 20) ∧ (Ev (d) 212 Q 82 [rA 67, (0, bI z), (0, 0)] [] (enc (wu w 83 (w32 (w 67 17)).toNat (-1)) t))) ∧ (z = true → (0 ≤ w32 (w 67 17) ∧ w32 (w 67 17) < 20) ∧ (Ev (d) 212 Q 82 [rA 67, (0, bI z), (0, 0)] [] (enc (wu w 83 (w32 (w 67 17)).toNat (w 67 42)) t))))) ∧ (¬ (w32 (w 67 40) ≤ w32 i) → (0 ≤ w32 i ∧ w32 i < 16) ∧ (0 ≤ w32 ((16 * (w 67 17)) + i) ∧ w32 ((16 * (w 67 17)) + i) < 320) ∧ (Ev (d) 212 Q 25 [rA 67, (0, bI z), (0, i + 1)] [] (enc (wu w 82 (w32 ((16 * (w 67 17)) + i)).toNat (w 94 (w32 i).toNat)) t))))) : Ev (d) 212 Q 25 [rA 67, (0, bI z), (0, i)] [] (enc w t) := by
  refine e_ldi (show am_cd 212 25 = (2, 26, 2, 0, []) by decide +kernel) rfl ?_
  refine e_lda (v := 67) (show am_cd 212 26 = (2, 27, 0, 2, []) by decide +kernel) rfl ?_
  refine e_getf (a := 67) (tg := 0) (show am_cd 212 27 = (18, 30, 1240, 0, [272]) by decide +kernel) (by decide +kernel) (by decide +kernel) rfl ?_
  refine e_cmp3 (show am_cd 212 30 = (11, 33, 59, 3, []) by decide +kernel) (fun hc => ?_) (fun hc => ?_)
  · replace h := h.1 hc
    refine e_lda (v := 67) (show am_cd 212 59 = (2, 60, 0, 2, []) by decide +kernel) rfl ?_
    refine e_getr (a := 67) (r := 83) (show am_cd 212 60 = (18, 63, 1220, 2, [55]) by decide +kernel) (by decide +kernel) (by decide +kernel) rfl ?_
    refine e_lda (v := 67) (show am_cd 212 63 = (2, 64, 0, 2, []) by decide +kernel) rfl ?_
    refine e_getf (a := 67) (tg := 0) (show am_cd 212 64 = (18, 67, 1217, 0, [189]) by decide +kernel) (by decide +kernel) (by decide +kernel) rfl ?_
    refine e_ldi (show am_cd 212 67 = (2, 68, 1, 0, []) by decide +kernel) rfl ?_
    refine e_ifb0 (show am_cd 212 68 = (10, 71, 78, 0, []) by decide +kernel) (fun hc => ?_) (fun hc => ?_)
    · replace h := h.1 hc
      refine e_ic (show am_cd 212 78 = (0, 79, 0, -1, []) by decide +kernel) ?_
      refine e_iast (a := 83) (n := 20) (show am_cd 212 79 = (24, 80, 0, 0, []) by decide +kernel) (by decide +kernel) (by decide +kernel) (by decide +kernel) h.1 ?_
      replace h := h.2
      refine e_ic (show am_cd 212 80 = (0, 81, 0, 0, []) by decide +kernel) ?_
      refine e_sti (la2 := [rA 67, (0, bI z), (0, 0)]) (show am_cd 212 81 = (3, 82, 2, 0, []) by decide +kernel) rfl ?_
      exact h
    · replace h := h.2 hc
      refine e_lda (v := 67) (show am_cd 212 71 = (2, 72, 0, 2, []) by decide +kernel) rfl ?_
      refine e_getf (a := 67) (tg := 0) (show am_cd 212 72 = (18, 75, 1242, 0, [275]) by decide +kernel) (by decide +kernel) (by decide +kernel) rfl ?_
      refine e_go (show am_cd 212 75 = (12, 79, 0, 0, []) by decide +kernel) ?_
      refine e_iast (a := 83) (n := 20) (show am_cd 212 79 = (24, 80, 0, 0, []) by decide +kernel) (by decide +kernel) (by decide +kernel) (by decide +kernel) h.1 ?_
      replace h := h.2
      refine e_ic (show am_cd 212 80 = (0, 81, 0, 0, []) by decide +kernel) ?_
      refine e_sti (la2 := [rA 67, (0, bI z), (0, 0)]) (show am_cd 212 81 = (3, 82, 2, 0, []) by decide +kernel) rfl ?_
      exact h
  · replace h := h.2 hc
    refine e_lda (v := 67) (show am_cd 212 33 = (2, 34, 0, 2, []) by decide +kernel) rfl ?_
    refine e_getr (a := 67) (r := 82) (show am_cd 212 34 = (18, 37, 1219, 2, [52]) by decide +kernel) (by decide +kernel) (by decide +kernel) rfl ?_
    refine e_ic (show am_cd 212 37 = (0, 39, 1, 16, []) by decide +kernel) ?_
    refine e_lda (v := 67) (show am_cd 212 39 = (2, 40, 0, 2, []) by decide +kernel) rfl ?_
    refine e_getf (a := 67) (tg := 0) (show am_cd 212 40 = (18, 43, 1217, 0, [189]) by decide +kernel) (by decide +kernel) (by decide +kernel) rfl ?_
    refine e_imul (show am_cd 212 43 = (5, 44, 2, 0, []) by decide +kernel) ?_
    refine e_ldi (show am_cd 212 44 = (2, 45, 2, 0, []) by decide +kernel) rfl ?_
    refine e_iadd (show am_cd 212 45 = (5, 46, 0, 0, []) by decide +kernel) ?_
    refine e_lda (v := 67) (show am_cd 212 46 = (2, 47, 0, 2, []) by decide +kernel) rfl ?_
    refine e_getr (a := 67) (r := 94) (show am_cd 212 47 = (18, 50, 1239, 2, [95]) by decide +kernel) (by decide +kernel) (by decide +kernel) rfl ?_
    refine e_ldi (show am_cd 212 50 = (2, 51, 2, 0, []) by decide +kernel) rfl ?_
    refine e_iald (a := 94) (n := 16) (show am_cd 212 51 = (21, 52, 0, 0, []) by decide +kernel) (by decide +kernel) (by decide +kernel) (by decide +kernel) h.1 ?_
    replace h := h.2
    refine e_iast (a := 82) (n := 320) (show am_cd 212 52 = (24, 53, 0, 0, []) by decide +kernel) (by decide +kernel) (by decide +kernel) (by decide +kernel) h.1 ?_
    replace h := h.2
    refine e_inc (la2 := [rA 67, (0, bI z), (0, i + 1)]) (show am_cd 212 53 = (4, 56, 2, 1, []) by decide +kernel) rfl rfl ?_
    refine e_go (show am_cd 212 56 = (12, 25, 0, 0, []) by decide +kernel) ?_
    exact h

theorem g_keeps2 {d : Nat} {Q : Option aV → aS → Prop} {w : eW} {t : eT} {i : Int} {z : Bool} (h : ((w32 (w 67 42) ≤ w32 i → Q none (enc (wu w 67 17 ((w 67 17) + 1)) t)) ∧ (¬ (w32 (w 67 42) ≤ w32 i) → ((z = false → Q none (enc (wu w 67 17 ((w 67 17) + 1)) t)) ∧ (z = true → (0 ≤ w32 i ∧ w32 i < 6) ∧ (0 ≤ w32 ((6 * (w 67 17)) + i) ∧ w32 ((6 * (w 67 17)) + i) < 120) ∧ (Ev (d) 212 Q 82 [rA 67, (0, bI z), (0, i + 1)] [] (enc (wu w 84 (w32 ((6 * (w 67 17)) + i)).toNat (w 95 (w32 i).toNat)) t))))))) : Ev (d) 212 Q 82 [rA 67, (0, bI z), (0, i)] [] (enc w t) := by
  refine e_ldi (show am_cd 212 82 = (2, 83, 2, 0, []) by decide +kernel) rfl ?_
  refine e_lda (v := 67) (show am_cd 212 83 = (2, 84, 0, 2, []) by decide +kernel) rfl ?_
  refine e_getf (a := 67) (tg := 0) (show am_cd 212 84 = (18, 87, 1242, 0, [275]) by decide +kernel) (by decide +kernel) (by decide +kernel) rfl ?_
  refine e_cmp3 (show am_cd 212 87 = (11, 90, 120, 3, []) by decide +kernel) (fun hc => ?_) (fun hc => ?_)
  · replace h := h.1 hc
    refine e_lda (v := 67) (show am_cd 212 120 = (2, 121, 0, 2, []) by decide +kernel) rfl ?_
    refine e_dup (show am_cd 212 121 = (13, 122, 0, 0, []) by decide +kernel) (by decide) ?_
    refine e_getf (a := 67) (tg := 0) (show am_cd 212 122 = (18, 125, 1217, 0, [189]) by decide +kernel) (by decide +kernel) (by decide +kernel) rfl ?_
    refine e_ic (show am_cd 212 125 = (0, 126, 0, 1, []) by decide +kernel) ?_
    refine e_iadd (show am_cd 212 126 = (5, 127, 0, 0, []) by decide +kernel) ?_
    refine e_putf (a := 67) (show am_cd 212 127 = (19, 130, 1217, 0, [189]) by decide +kernel) (by decide +kernel) (by decide +kernel) rfl (fun h9 => absurd h9 (by decide)) (fun h9 => absurd h9 (by decide +kernel)) ?_
    exact e_retv (show am_cd 212 130 = (36, 131, 3, 0, []) by decide +kernel) (by decide +kernel) h
  · replace h := h.2 hc
    refine e_ldi (show am_cd 212 90 = (2, 91, 1, 0, []) by decide +kernel) rfl ?_
    refine e_ifb0 (show am_cd 212 91 = (10, 94, 120, 0, []) by decide +kernel) (fun hc => ?_) (fun hc => ?_)
    · replace h := h.1 hc
      refine e_lda (v := 67) (show am_cd 212 120 = (2, 121, 0, 2, []) by decide +kernel) rfl ?_
      refine e_dup (show am_cd 212 121 = (13, 122, 0, 0, []) by decide +kernel) (by decide) ?_
      refine e_getf (a := 67) (tg := 0) (show am_cd 212 122 = (18, 125, 1217, 0, [189]) by decide +kernel) (by decide +kernel) (by decide +kernel) rfl ?_
      refine e_ic (show am_cd 212 125 = (0, 126, 0, 1, []) by decide +kernel) ?_
      refine e_iadd (show am_cd 212 126 = (5, 127, 0, 0, []) by decide +kernel) ?_
      refine e_putf (a := 67) (show am_cd 212 127 = (19, 130, 1217, 0, [189]) by decide +kernel) (by decide +kernel) (by decide +kernel) rfl (fun h9 => absurd h9 (by decide)) (fun h9 => absurd h9 (by decide +kernel)) ?_
      exact e_retv (show am_cd 212 130 = (36, 131, 3, 0, []) by decide +kernel) (by decide +kernel) h
    · replace h := h.2 hc
      refine e_lda (v := 67) (show am_cd 212 94 = (2, 95, 0, 2, []) by decide +kernel) rfl ?_
      refine e_getr (a := 67) (r := 84) (show am_cd 212 95 = (18, 98, 1221, 2, [58]) by decide +kernel) (by decide +kernel) (by decide +kernel) rfl ?_
      refine e_ic (show am_cd 212 98 = (0, 100, 1, 6, []) by decide +kernel) ?_
      refine e_lda (v := 67) (show am_cd 212 100 = (2, 101, 0, 2, []) by decide +kernel) rfl ?_
      refine e_getf (a := 67) (tg := 0) (show am_cd 212 101 = (18, 104, 1217, 0, [189]) by decide +kernel) (by decide +kernel) (by decide +kernel) rfl ?_
      refine e_imul (show am_cd 212 104 = (5, 105, 2, 0, []) by decide +kernel) ?_
      refine e_ldi (show am_cd 212 105 = (2, 106, 2, 0, []) by decide +kernel) rfl ?_
      refine e_iadd (show am_cd 212 106 = (5, 107, 0, 0, []) by decide +kernel) ?_
      refine e_lda (v := 67) (show am_cd 212 107 = (2, 108, 0, 2, []) by decide +kernel) rfl ?_
      refine e_getr (a := 67) (r := 95) (show am_cd 212 108 = (18, 111, 1241, 2, [98]) by decide +kernel) (by decide +kernel) (by decide +kernel) rfl ?_
      refine e_ldi (show am_cd 212 111 = (2, 112, 2, 0, []) by decide +kernel) rfl ?_
      refine e_iald (a := 95) (n := 6) (show am_cd 212 112 = (21, 113, 0, 0, []) by decide +kernel) (by decide +kernel) (by decide +kernel) (by decide +kernel) h.1 ?_
      replace h := h.2
      refine e_iast (a := 84) (n := 120) (show am_cd 212 113 = (24, 114, 0, 0, []) by decide +kernel) (by decide +kernel) (by decide +kernel) (by decide +kernel) h.1 ?_
      replace h := h.2
      refine e_inc (la2 := [rA 67, (0, bI z), (0, i + 1)]) (show am_cd 212 114 = (4, 117, 2, 1, []) by decide +kernel) rfl rfl ?_
      refine e_go (show am_cd 212 117 = (12, 82, 0, 0, []) by decide +kernel) ?_
      exact h

theorem g_lays {d : Nat} {Q : Option aV → aS → Prop} {w : eW} {t : eT} {p : Int} (h : (0 ≤ w32 (w 67 40) ∧ w32 (w 67 40) < 16) ∧ (Q none (enc (wu (wu w 94 (w32 (w 67 40)).toNat p) 67 40 ((w 67 40) + 1)) t))) : Cl (d) 213 [rA 67, (0, p)] (enc w t) Q := by
  show Ev (d) 213 Q 0 [rA 67, (0, p)] [] (enc w t)
  refine e_lda (v := 67) (show am_cd 213 0 = (2, 1, 0, 2, []) by decide +kernel) rfl ?_
  refine e_getr (a := 67) (r := 94) (show am_cd 213 1 = (18, 4, 1239, 2, [95]) by decide +kernel) (by decide +kernel) (by decide +kernel) rfl ?_
  refine e_lda (v := 67) (show am_cd 213 4 = (2, 5, 0, 2, []) by decide +kernel) rfl ?_
  refine e_getf (a := 67) (tg := 0) (show am_cd 213 5 = (18, 8, 1240, 0, [272]) by decide +kernel) (by decide +kernel) (by decide +kernel) rfl ?_
  refine e_ldi (show am_cd 213 8 = (2, 9, 1, 0, []) by decide +kernel) rfl ?_
  refine e_iast (a := 94) (n := 16) (show am_cd 213 9 = (24, 10, 0, 0, []) by decide +kernel) (by decide +kernel) (by decide +kernel) (by decide +kernel) h.1 ?_
  replace h := h.2
  refine e_lda (v := 67) (show am_cd 213 10 = (2, 11, 0, 2, []) by decide +kernel) rfl ?_
  refine e_dup (show am_cd 213 11 = (13, 12, 0, 0, []) by decide +kernel) (by decide) ?_
  refine e_getfE (a := 67) (tg := 0) (v := w 67 40) (show am_cd 213 12 = (18, 15, 1240, 0, [272]) by decide +kernel) (by decide +kernel) (by decide +kernel) rfl rfl ?_
  refine e_ic (show am_cd 213 15 = (0, 16, 0, 1, []) by decide +kernel) ?_
  refine e_iadd (show am_cd 213 16 = (5, 17, 0, 0, []) by decide +kernel) ?_
  refine e_putf (a := 67) (show am_cd 213 17 = (19, 20, 1240, 0, [272]) by decide +kernel) (by decide +kernel) (by decide +kernel) rfl (fun h9 => absurd h9 (by decide)) (fun h9 => absurd h9 (by decide +kernel)) ?_
  exact e_retv (show am_cd 213 20 = (36, 21, 3, 0, []) by decide +kernel) (by decide +kernel) h

theorem KM.add {w : eW} {ks : kT} {ml el : List Nat} (h : KM w ks) (hn : ks.length < 20) (hm : ml.length ≤ 16) (he : el.length ≤ 6) : KM (wu (wf (wu (wf (wu w 81 ks.length (ml.length : Int)) 82 (16 * ks.length) ml.length (fun k => ((ml.getD k 0 : Nat) : Int))) 83 ks.length (if el = [] then -1 else (el.length : Int))) 84 (6 * ks.length) el.length (fun k => ((el.getD k 0 : Nat) : Int))) 67 17 ((ks.length : Int) + 1)) (ks ++ [(ml, el)]) := by
  obtain ⟨h1, h2, h3⟩ := h
  refine ⟨?_, by rw [List.length_append]; simp; omega, fun i hi => ?_⟩
  · rw [wu_eq, List.length_append]; simp
  · rw [List.length_append, List.length_singleton] at hi
    have e81 : (wu (wf (wu (wf (wu w 81 ks.length (ml.length : Int)) 82 (16 * ks.length) ml.length (fun k => ((ml.getD k 0 : Nat) : Int))) 83 ks.length (if el = [] then -1 else (el.length : Int))) 84 (6 * ks.length) el.length (fun k => ((el.getD k 0 : Nat) : Int))) 67 17 ((ks.length : Int) + 1)) 81 = wu w 81 ks.length (ml.length : Int) 81 := by
      rw [wu_row (by decide), wf_row (by decide), wu_row (by decide), wf_row (by decide)]
    have e82 : (wu (wf (wu (wf (wu w 81 ks.length (ml.length : Int)) 82 (16 * ks.length) ml.length (fun k => ((ml.getD k 0 : Nat) : Int))) 83 ks.length (if el = [] then -1 else (el.length : Int))) 84 (6 * ks.length) el.length (fun k => ((el.getD k 0 : Nat) : Int))) 67 17 ((ks.length : Int) + 1)) 82 = wf w 82 (16 * ks.length) ml.length (fun k => ((ml.getD k 0 : Nat) : Int)) 82 := by
      rw [wu_row (by decide), wf_row (by decide), wu_row (by decide)]
      funext j
      unfold wf
      rw [wu_row (by decide)]
    have e83 : (wu (wf (wu (wf (wu w 81 ks.length (ml.length : Int)) 82 (16 * ks.length) ml.length (fun k => ((ml.getD k 0 : Nat) : Int))) 83 ks.length (if el = [] then -1 else (el.length : Int))) 84 (6 * ks.length) el.length (fun k => ((el.getD k 0 : Nat) : Int))) 67 17 ((ks.length : Int) + 1)) 83 = wu w 83 ks.length (if el = [] then -1 else (el.length : Int)) 83 := by
      rw [wu_row (by decide), wf_row (by decide)]
      funext j
      unfold wu
      rw [wf_row (by decide)]
      simp [wu]
    have e84 : (wu (wf (wu (wf (wu w 81 ks.length (ml.length : Int)) 82 (16 * ks.length) ml.length (fun k => ((ml.getD k 0 : Nat) : Int))) 83 ks.length (if el = [] then -1 else (el.length : Int))) 84 (6 * ks.length) el.length (fun k => ((el.getD k 0 : Nat) : Int))) 67 17 ((ks.length : Int) + 1)) 84 = wf w 84 (6 * ks.length) el.length (fun k => ((el.getD k 0 : Nat) : Int)) 84 := by
      rw [wu_row (by decide)]
      funext j
      unfold wf
      rw [wu_row (by decide)]
      simp [wu]
    rw [e81, e82, e83, e84]
    by_cases hin : i < ks.length
    · rw [kAt_l hin]
      obtain ⟨g1, g2, g3, g4, g5, g6⟩ := h3 i hin
      refine ⟨g1, g2, ?_, fun k hk => ?_, ?_, fun k hk => ?_⟩
      · rw [wu_nk _ _ (by omega)]; exact g3
      · rw [wf_out (by omega)]; exact g4 k hk
      · rw [wu_nk _ _ (by omega)]; exact g5
      · rw [wf_out (by omega)]; exact g6 k hk
    · have : i = ks.length := by omega
      subst this
      rw [kAt_n]
      refine ⟨hm, he, wu_eq _ _ _ _, fun k hk => wf_in hk, wu_eq _ _ _ _, fun k hk => wf_in hk⟩
theorem c_keeps {d : Nat} {w : eW} {t : eT} {ks : kT} {ml el : List Nat} {z : Bool} (h : KM w ks ∧ MdM w ml ∧ (z = true → WdM w el ∧ el ≠ []) ∧ (z = false → el = [])) : Cl d 212 [rA 67, (0, bI z)] (enc w t) (fun r S2 => ∃ w2, r = none ∧ S2 = enc w2 t ∧ FrK w w2 ∧ KM w2 ((ks ++ [(ml, el)]).take 20)) := by
  obtain ⟨hk, hm, hz1, hz2⟩ := h
  have hel : el.length ≤ 6 := by
    cases z
    · rw [hz2 rfl]; decide
    · exact (hz1 rfl).1.2.1
  refine g_keeps0 ?_
  rw [hk.1]
  have hl := hk.2.1
  simp (disch := omega) only [w32_id, Int.toNat_natCast]
  refine ⟨fun h1 => ⟨by omega, ?_⟩, fun h1 => ?_⟩
  · rw [take19 _ _ (by omega)]
    have main := hk.add (ml := ml) (el := el) (by omega) hm.2.1 hel
    rw [hm.1]
    have hml := hm.2.1
    refine lp0 (fun i => Ev d 212 _ 25 [rA 67, (0, bI z), (0, (i : Int))] [] (enc (wf (wu w 81 ks.length (ml.length : Int)) 82 (16 * ks.length) i (fun k => ((ml.getD k 0 : Nat) : Int))) t)) ml.length ?_ ?_ 0 (Nat.zero_le _) |> fun hx => by rw [wf_0] at hx; exact hx
    · intro i hi hE
      refine g_keeps1 ?_
      rw [wf_row (by decide), wf_row (by decide), wu_row (by decide), wu_row (by decide), hm.1, hk.1]
      simp (disch := omega) only [w32_id, Int.toNat_natCast]
      rw [hm.2.2 i hi]
      refine ⟨fun h9 => (by omega), fun _ => ⟨by omega, by omega, ?_⟩⟩
      rw [show (16 * (ks.length : Int) + (i : Int)).toNat = 16 * ks.length + i by omega]
      rw [wf_succ (f := fun k => ((ml.getD k 0 : Nat) : Int))]
      exact hE
    · refine g_keeps1 ?_
      rw [wf_row (by decide), wu_row (by decide), hm.1, hk.1]
      simp (disch := omega) only [w32_id, Int.toNat_natCast]
      have fin : ∀ (e0 : Int), e0 = (if el = [] then -1 else (el.length : Int)) → Ev d 212 (fun r S2 => ∃ w2, r = none ∧ S2 = enc w2 t ∧ FrK w w2 ∧ KM w2 (ks ++ [(ml, el)])) 82 [rA 67, (0, bI z), (0, 0)] [] (enc (wu (wf (wu w 81 ks.length (ml.length : Int)) 82 (16 * ks.length) ml.length (fun k => ((ml.getD k 0 : Nat) : Int))) 83 ks.length e0) t) := by
        intro e0 he0
        subst he0
        have last : Ev d 212 (fun r S2 => ∃ w2, r = none ∧ S2 = enc w2 t ∧ FrK w w2 ∧ KM w2 (ks ++ [(ml, el)])) 82 [rA 67, (0, bI z), (0, (el.length : Int))] [] (enc (wf (wu (wf (wu w 81 ks.length (ml.length : Int)) 82 (16 * ks.length) ml.length (fun k => ((ml.getD k 0 : Nat) : Int))) 83 ks.length (if el = [] then -1 else (el.length : Int))) 84 (6 * ks.length) el.length (fun k => ((el.getD k 0 : Nat) : Int))) t) := by
          have hfr : FrK w (wu (wf (wu (wf (wu w 81 ks.length (ml.length : Int)) 82 (16 * ks.length) ml.length (fun k => ((ml.getD k 0 : Nat) : Int))) 83 ks.length (if el = [] then -1 else (el.length : Int))) 84 (6 * ks.length) el.length (fun k => ((el.getD k 0 : Nat) : Int))) 67 17 ((ks.length : Int) + 1)) := by
            refine ⟨fun a a1 a2 => ?_, fun k hk => ?_⟩
            · rw [wu_row a1, wf_row (by omega), wu_row (by omega), wf_row (by omega), wu_row (by omega)]
            · rw [wu_nk _ _ hk, wf_row (by decide), wu_row (by decide), wf_row (by decide), wu_row (by decide)]
          refine g_keeps2 ?_
          rw [wf_row (by decide), wu_row (by decide), wf_row (by decide), wu_row (by decide), hk.1]
          refine ⟨fun _ => ⟨_, rfl, rfl, hfr, main⟩, fun h9 => ⟨fun _ => ⟨_, rfl, rfl, hfr, main⟩, fun hz => ?_⟩⟩
          obtain ⟨⟨e1, e2, e3⟩, e4⟩ := hz1 hz
          rw [e1] at h9
          exact absurd (Int.le_refl _) h9
        by_cases hz : z = true
        · obtain ⟨⟨e1, e2, e3⟩, e4⟩ := hz1 hz
          refine lp0 (fun i => Ev d 212 (fun r S2 => ∃ w2, r = none ∧ S2 = enc w2 t ∧ FrK w w2 ∧ KM w2 (ks ++ [(ml, el)])) 82 [rA 67, (0, bI z), (0, (i : Int))] [] (enc (wf (wu (wf (wu w 81 ks.length (ml.length : Int)) 82 (16 * ks.length) ml.length (fun k => ((ml.getD k 0 : Nat) : Int))) 83 ks.length (if el = [] then -1 else (el.length : Int))) 84 (6 * ks.length) i (fun k => ((el.getD k 0 : Nat) : Int))) t)) el.length ?_ last 0 (Nat.zero_le _) |> fun hx => by rw [wf_0] at hx; exact hx
          intro i hi hE
          refine g_keeps2 ?_
          rw [wf_row (by decide), wu_row (by decide), wf_row (by decide), wu_row (by decide), hk.1, e1, wf_row (by decide), wu_row (by decide), wf_row (by decide), wu_row (by decide)]
          simp (disch := omega) only [w32_id, Int.toNat_natCast]
          rw [e3 i hi]
          refine ⟨fun h9 => (by omega), fun _ => ⟨fun h9 => (by rw [hz] at h9; cases h9), fun _ => ⟨by omega, by omega, ?_⟩⟩⟩
          rw [show (6 * (ks.length : Int) + (i : Int)).toNat = 6 * ks.length + i by omega]
          rw [wf_succ (f := fun k => ((el.getD k 0 : Nat) : Int))]
          exact hE
        · have hz' : z = false := by cases z; rfl; exact absurd rfl hz
          have he := hz2 hz'
          subst he
          have hl := last
          rw [show ([] : List Nat).length = 0 from rfl, wf_0] at hl
          exact hl
      refine ⟨fun _ => ⟨fun hz => ⟨by omega, fin _ ?_⟩, fun hz => ⟨by omega, ?_⟩⟩, fun h9 => (by omega)⟩
      · rw [if_pos (hz2 hz)]
      · obtain ⟨⟨e1, e2, e3⟩, e4⟩ := hz1 hz
        rw [e1]
        exact fin _ (by rw [if_neg e4])
  · rw [take20 _ _ (by omega)]
    exact ⟨w, by trivial, rfl, ⟨fun _ _ _ => rfl, fun _ _ => rfl⟩, hk⟩
theorem MdM.lay {w : eW} {ml : List Nat} {p : Nat} (h : MdM w ml) (hl : ml.length < 16) : MdM (wu (wu w 94 ml.length (p : Int)) 67 40 ((ml.length : Int) + 1)) (ml ++ [p]) := by
  obtain ⟨h1, h2, h3⟩ := h
  refine ⟨?_, by rw [List.length_append]; simp; omega, fun k hk => ?_⟩
  · rw [wu_eq, List.length_append]; simp
  · rw [wu_row (by decide)]
    rw [List.length_append, List.length_singleton] at hk
    by_cases hkl : k = ml.length
    · subst hkl
      rw [wu_eq]
      simp [List.getD_eq_getElem?_getD]
    · rw [wu_nk _ _ hkl, h3 k (by omega)]
      simp [List.getD_eq_getElem?_getD, List.getElem?_append_left (show k < ml.length by omega)]
theorem c_lays {d : Nat} {w : eW} {t : eT} {ml : List Nat} {p : Nat} (h : MdM w ml) (hl : ml.length < 16) : Cl d 213 [rA 67, (0, (p : Int))] (enc w t) (fun r S2 => r = none ∧ S2 = enc (wu (wu w 94 ml.length (p : Int)) 67 40 ((ml.length : Int) + 1)) t) := by
  refine g_lays ?_
  rw [h.1]
  simp (disch := omega) only [w32_id, Int.toNat_natCast]
  exact ⟨by omega, by trivial, by trivial⟩

