/-! The class: a walk begins; its questions. -/

theorem g_pr {d : Nat} {Q : Option aV → aS → Prop} {w : eW} {t : eT} (h : ((w32 (w 37 8) = 0 → Q none (enc w t)) ∧ (¬ (w32 (w 37 8) = 0) → Cl (d + 5) 33 [rA 37, rA 15] (enc w t) (fun r S2 => (∀ x, r ≠ some (6, x)) ∧ Ev (d + 6) 138 Q 21 [rA 1] (r.toList ++ []) S2)))) : Cl (d + 6) 138 [rA 1] (enc w t) Q := by
  show Ev (d + 6) 138 Q 0 [rA 1] [] (enc w t)
  refine e_lda (v := 1) (show am_cd 138 0 = (2, 1, 0, 2, []) by decide +kernel) rfl ?_
  refine e_getr (a := 1) (r := 37) (show am_cd 138 1 = (18, 4, 1104, 2, [40]) by decide +kernel) (by decide +kernel) (by decide +kernel) rfl ?_
  refine e_getf (a := 37) (tg := 0) (show am_cd 138 4 = (18, 7, 408, 0, [141]) by decide +kernel) (by decide +kernel) (by decide +kernel) rfl ?_
  refine e_if0 (show am_cd 138 7 = (10, 10, 21, 0, []) by decide +kernel) (fun hc => ?_) (fun hc => ?_)
  · replace h := h.1 hc
    exact e_retv (show am_cd 138 21 = (36, 22, 3, 0, []) by decide +kernel) (by decide +kernel) h
  · replace h := h.2 hc
    refine e_lda (v := 1) (show am_cd 138 10 = (2, 11, 0, 2, []) by decide +kernel) rfl ?_
    refine e_getr (a := 1) (r := 37) (show am_cd 138 11 = (18, 14, 1104, 2, [40]) by decide +kernel) (by decide +kernel) (by decide +kernel) rfl ?_
    refine e_lda (v := 1) (show am_cd 138 14 = (2, 15, 0, 2, []) by decide +kernel) rfl ?_
    refine e_getr (a := 1) (r := 15) (show am_cd 138 15 = (18, 18, 1102, 2, [26]) by decide +kernel) (by decide +kernel) (by decide +kernel) rfl ?_
    refine e_cV (z := 0) (a := 37) (as := [rA 15]) (rest := []) (show am_cd 138 18 = (40, 21, 33, 0, [249]) by decide +kernel) (by decide +kernel) rfl rfl (Nat.le_of_ble_eq_true rfl) rfl ?_
    exact h

theorem g_prb {d : Nat} {Q : Option aV → aS → Prop} {w : eW} {t : eT} (h : Q none (enc w t)) : Ev (d + 6) 138 Q 21 [rA 1] [] (enc w t) := by
  exact e_retv (show am_cd 138 21 = (36, 22, 3, 0, []) by decide +kernel) (by decide +kernel) h

theorem g_beg {d : Nat} {Q : Option aV → aS → Prop} {w : eW} {t : eT} {k : Int} (h : ((¬ w32 k = w32 1 → Q none (enc (wu (wu (wu (wu w 53 8 k) 53 9 20) 45 2 ((w 45 2) + 1)) 45 3 0) t)) ∧ (¬ (¬ w32 k = w32 1) → Q none (enc (wu (wu (wu (wu w 53 8 k) 53 9 1) 45 2 ((w 45 2) + 1)) 45 3 0) t)))) : Cl (d + 1) 102 [rA 53, (0, k)] (enc w t) Q := by
  show Ev (d + 1) 102 Q 0 [rA 53, (0, k)] [] (enc w t)
  refine e_lda (v := 53) (show am_cd 102 0 = (2, 1, 0, 2, []) by decide +kernel) rfl ?_
  refine e_ldi (show am_cd 102 1 = (2, 2, 1, 0, []) by decide +kernel) rfl ?_
  refine e_putf (a := 53) (show am_cd 102 2 = (19, 5, 1008, 0, [42]) by decide +kernel) (by decide +kernel) (by decide +kernel) rfl (fun h9 => absurd h9 (by decide)) (fun h9 => absurd h9 (by decide +kernel)) ?_
  refine e_lda (v := 53) (show am_cd 102 5 = (2, 6, 0, 2, []) by decide +kernel) rfl ?_
  refine e_lda (v := 53) (show am_cd 102 6 = (2, 7, 0, 2, []) by decide +kernel) rfl ?_
  refine e_getfE (a := 53) (tg := 0) (v := k) (show am_cd 102 7 = (18, 10, 1008, 0, [42]) by decide +kernel) (by decide +kernel) (by decide +kernel) rfl rfl ?_
  refine e_ic (show am_cd 102 10 = (0, 11, 0, 1, []) by decide +kernel) ?_
  refine e_cmp1 (show am_cd 102 11 = (11, 14, 18, 1, []) by decide +kernel) (fun hc => ?_) (fun hc => ?_)
  · replace h := h.1 hc
    refine e_ic (show am_cd 102 18 = (0, 20, 1, 20, []) by decide +kernel) ?_
    refine e_putf (a := 53) (show am_cd 102 20 = (19, 23, 1009, 0, [46]) by decide +kernel) (by decide +kernel) (by decide +kernel) rfl (fun h9 => absurd h9 (by decide)) (fun h9 => absurd h9 (by decide +kernel)) ?_
    refine e_lda (v := 53) (show am_cd 102 23 = (2, 24, 0, 2, []) by decide +kernel) rfl ?_
    refine e_getr (a := 53) (r := 45) (show am_cd 102 24 = (18, 27, 1004, 2, [34]) by decide +kernel) (by decide +kernel) (by decide +kernel) rfl ?_
    refine e_cV (z := 0) (a := 45) (as := []) (rest := []) (show am_cd 102 27 = (40, 30, 43, 0, [49]) by decide +kernel) (by decide +kernel) rfl rfl (Nat.le_of_ble_eq_true rfl) rfl ?_
    show Ev _ 43 _ 0 [rA 45] [] _
    refine e_lda (v := 45) (show am_cd 43 0 = (2, 1, 0, 2, []) by decide +kernel) rfl ?_
    refine e_dup (show am_cd 43 1 = (13, 2, 0, 0, []) by decide +kernel) (by decide) ?_
    refine e_getfE (a := 45) (tg := 0) (v := w 45 2) (show am_cd 43 2 = (18, 5, 502, 0, [18]) by decide +kernel) (by decide +kernel) (by decide +kernel) rfl rfl ?_
    refine e_ic (show am_cd 43 5 = (0, 6, 0, 1, []) by decide +kernel) ?_
    refine e_iadd (show am_cd 43 6 = (5, 7, 0, 0, []) by decide +kernel) ?_
    refine e_putf (a := 45) (show am_cd 43 7 = (19, 10, 502, 0, [18]) by decide +kernel) (by decide +kernel) (by decide +kernel) rfl (fun h9 => absurd h9 (by decide)) (fun h9 => absurd h9 (by decide +kernel)) ?_
    refine e_lda (v := 45) (show am_cd 43 10 = (2, 11, 0, 2, []) by decide +kernel) rfl ?_
    refine e_ic (show am_cd 43 11 = (0, 12, 0, 0, []) by decide +kernel) ?_
    refine e_putf (a := 45) (show am_cd 43 12 = (19, 15, 503, 0, [22]) by decide +kernel) (by decide +kernel) (by decide +kernel) rfl (fun h9 => absurd h9 (by decide)) (fun h9 => absurd h9 (by decide +kernel)) ?_
    refine e_retv (show am_cd 43 15 = (36, 16, 3, 0, []) by decide +kernel) (by decide +kernel) ⟨fun _ h9 => (by cases h9), ?_⟩
    show Ev _ 102 _ 30 [rA 53, (0, k)] [] _
    exact e_retv (show am_cd 102 30 = (36, 31, 3, 0, []) by decide +kernel) (by decide +kernel) h
  · replace h := h.2 hc
    refine e_ic (show am_cd 102 14 = (0, 15, 0, 1, []) by decide +kernel) ?_
    refine e_go (show am_cd 102 15 = (12, 20, 0, 0, []) by decide +kernel) ?_
    refine e_putf (a := 53) (show am_cd 102 20 = (19, 23, 1009, 0, [46]) by decide +kernel) (by decide +kernel) (by decide +kernel) rfl (fun h9 => absurd h9 (by decide)) (fun h9 => absurd h9 (by decide +kernel)) ?_
    refine e_lda (v := 53) (show am_cd 102 23 = (2, 24, 0, 2, []) by decide +kernel) rfl ?_
    refine e_getr (a := 53) (r := 45) (show am_cd 102 24 = (18, 27, 1004, 2, [34]) by decide +kernel) (by decide +kernel) (by decide +kernel) rfl ?_
    refine e_cV (z := 0) (a := 45) (as := []) (rest := []) (show am_cd 102 27 = (40, 30, 43, 0, [49]) by decide +kernel) (by decide +kernel) rfl rfl (Nat.le_of_ble_eq_true rfl) rfl ?_
    show Ev _ 43 _ 0 [rA 45] [] _
    refine e_lda (v := 45) (show am_cd 43 0 = (2, 1, 0, 2, []) by decide +kernel) rfl ?_
    refine e_dup (show am_cd 43 1 = (13, 2, 0, 0, []) by decide +kernel) (by decide) ?_
    refine e_getfE (a := 45) (tg := 0) (v := w 45 2) (show am_cd 43 2 = (18, 5, 502, 0, [18]) by decide +kernel) (by decide +kernel) (by decide +kernel) rfl rfl ?_
    refine e_ic (show am_cd 43 5 = (0, 6, 0, 1, []) by decide +kernel) ?_
    refine e_iadd (show am_cd 43 6 = (5, 7, 0, 0, []) by decide +kernel) ?_
    refine e_putf (a := 45) (show am_cd 43 7 = (19, 10, 502, 0, [18]) by decide +kernel) (by decide +kernel) (by decide +kernel) rfl (fun h9 => absurd h9 (by decide)) (fun h9 => absurd h9 (by decide +kernel)) ?_
    refine e_lda (v := 45) (show am_cd 43 10 = (2, 11, 0, 2, []) by decide +kernel) rfl ?_
    refine e_ic (show am_cd 43 11 = (0, 12, 0, 0, []) by decide +kernel) ?_
    refine e_putf (a := 45) (show am_cd 43 12 = (19, 15, 503, 0, [22]) by decide +kernel) (by decide +kernel) (by decide +kernel) rfl (fun h9 => absurd h9 (by decide)) (fun h9 => absurd h9 (by decide +kernel)) ?_
    refine e_retv (show am_cd 43 15 = (36, 16, 3, 0, []) by decide +kernel) (by decide +kernel) ⟨fun _ h9 => (by cases h9), ?_⟩
    show Ev _ 102 _ 30 [rA 53, (0, k)] [] _
    exact e_retv (show am_cd 102 30 = (36, 31, 3, 0, []) by decide +kernel) (by decide +kernel) h

theorem g_iw {d : Nat} {Q : Option aV → aS → Prop} {w : eW} {t : eT} {s : Int} (h : ((w32 (w 53 8) = 0 → ((¬ w32 s = 0 → Q (some (0, 0)) (enc w t)) ∧ (¬ (¬ w32 s = 0) → Q (some (0, 1)) (enc w t)))) ∧ (w32 (w 53 8) = 1 → ((¬ w32 s = w32 1 → Q (some (0, 0)) (enc w t)) ∧ (¬ (¬ w32 s = w32 1) → Q (some (0, 1)) (enc w t)))) ∧ (w32 (w 53 8) = 2 → ((¬ w32 s = w32 (w 2 8) → Q (some (0, 0)) (enc w t)) ∧ (¬ (¬ w32 s = w32 (w 2 8)) → Q (some (0, 1)) (enc w t)))) ∧ (w32 (w 53 8) = 3 → ((¬ w32 (irem s 7) = w32 (w 2 8) → Q (some (0, 0)) (enc w t)) ∧ (¬ (¬ w32 (irem s 7) = w32 (w 2 8)) → Q (some (0, 1)) (enc w t)))) ∧ ((w32 (w 53 8) < 0 ∨ 4 ≤ w32 (w 53 8)) → ((¬ w32 (idiv s 294) = w32 20 → Q (some (0, 0)) (enc w t)) ∧ (¬ (¬ w32 (idiv s 294) = w32 20) → ((¬ w32 (irem s 7) = w32 (w 2 8) → Q (some (0, 0)) (enc w t)) ∧ (¬ (¬ w32 (irem s 7) = w32 (w 2 8)) → Q (some (0, 1)) (enc w t)))))))) : Cl (d + 4) 107 [rA 53, (0, s)] (enc w t) Q := by
  show Ev (d + 4) 107 Q 0 [rA 53, (0, s)] [] (enc w t)
  refine e_lda (v := 53) (show am_cd 107 0 = (2, 1, 0, 2, []) by decide +kernel) rfl ?_
  refine e_getf (a := 53) (tg := 0) (show am_cd 107 1 = (18, 4, 1008, 0, [42]) by decide +kernel) (by decide +kernel) (by decide +kernel) rfl ?_
  refine e_tsw (x := w 53 8) (show am_cd 107 4 = (30, 94, 32, 0, [36, 46, 57, 74]) by decide +kernel) (fun i tg hi hx => ?_) (fun hx => ?_)
  · match i, hi with
    | 0, hi =>
      cases hi
      replace h := h.1 (by omega)
      refine e_ldi (show am_cd 107 36 = (2, 37, 1, 0, []) by decide +kernel) rfl ?_
      refine e_if1 (show am_cd 107 37 = (10, 40, 44, 1, []) by decide +kernel) (fun hc => ?_) (fun hc => ?_)
      · replace h := h.1 hc
        refine e_ic (show am_cd 107 44 = (0, 45, 0, 0, []) by decide +kernel) ?_
        exact e_retz (show am_cd 107 45 = (36, 46, 0, 0, []) by decide +kernel) (by decide +kernel) (Or.inl rfl) h
      · replace h := h.2 hc
        refine e_ic (show am_cd 107 40 = (0, 41, 0, 1, []) by decide +kernel) ?_
        refine e_go (show am_cd 107 41 = (12, 45, 0, 0, []) by decide +kernel) ?_
        exact e_retz (show am_cd 107 45 = (36, 46, 0, 0, []) by decide +kernel) (by decide +kernel) (Or.inr rfl) h
    | 1, hi =>
      cases hi
      replace h := h.2.1 (by omega)
      refine e_ldi (show am_cd 107 46 = (2, 47, 1, 0, []) by decide +kernel) rfl ?_
      refine e_ic (show am_cd 107 47 = (0, 48, 0, 1, []) by decide +kernel) ?_
      refine e_cmp1 (show am_cd 107 48 = (11, 51, 55, 1, []) by decide +kernel) (fun hc => ?_) (fun hc => ?_)
      · replace h := h.1 hc
        refine e_ic (show am_cd 107 55 = (0, 56, 0, 0, []) by decide +kernel) ?_
        exact e_retz (show am_cd 107 56 = (36, 57, 0, 0, []) by decide +kernel) (by decide +kernel) (Or.inl rfl) h
      · replace h := h.2 hc
        refine e_ic (show am_cd 107 51 = (0, 52, 0, 1, []) by decide +kernel) ?_
        refine e_go (show am_cd 107 52 = (12, 56, 0, 0, []) by decide +kernel) ?_
        exact e_retz (show am_cd 107 56 = (36, 57, 0, 0, []) by decide +kernel) (by decide +kernel) (Or.inr rfl) h
    | 2, hi =>
      cases hi
      replace h := h.2.2.1 (by omega)
      refine e_ldi (show am_cd 107 57 = (2, 58, 1, 0, []) by decide +kernel) rfl ?_
      refine e_lda (v := 53) (show am_cd 107 58 = (2, 59, 0, 2, []) by decide +kernel) rfl ?_
      refine e_getr (a := 53) (r := 2) (show am_cd 107 59 = (18, 62, 1000, 2, [18]) by decide +kernel) (by decide +kernel) (by decide +kernel) rfl ?_
      refine e_getf (a := 2) (tg := 0) (show am_cd 107 62 = (18, 65, 808, 0, [123]) by decide +kernel) (by decide +kernel) (by decide +kernel) rfl ?_
      refine e_cmp1 (show am_cd 107 65 = (11, 68, 72, 1, []) by decide +kernel) (fun hc => ?_) (fun hc => ?_)
      · replace h := h.1 hc
        refine e_ic (show am_cd 107 72 = (0, 73, 0, 0, []) by decide +kernel) ?_
        exact e_retz (show am_cd 107 73 = (36, 74, 0, 0, []) by decide +kernel) (by decide +kernel) (Or.inl rfl) h
      · replace h := h.2 hc
        refine e_ic (show am_cd 107 68 = (0, 69, 0, 1, []) by decide +kernel) ?_
        refine e_go (show am_cd 107 69 = (12, 73, 0, 0, []) by decide +kernel) ?_
        exact e_retz (show am_cd 107 73 = (36, 74, 0, 0, []) by decide +kernel) (by decide +kernel) (Or.inr rfl) h
    | 3, hi =>
      cases hi
      replace h := h.2.2.2.1 (by omega)
      refine e_ldi (show am_cd 107 74 = (2, 75, 1, 0, []) by decide +kernel) rfl ?_
      refine e_ic (show am_cd 107 75 = (0, 77, 1, 7, []) by decide +kernel) ?_
      refine e_irem (show am_cd 107 77 = (5, 78, 10, 0, []) by decide +kernel) (by decide) ?_
      refine e_lda (v := 53) (show am_cd 107 78 = (2, 79, 0, 2, []) by decide +kernel) rfl ?_
      refine e_getr (a := 53) (r := 2) (show am_cd 107 79 = (18, 82, 1000, 2, [18]) by decide +kernel) (by decide +kernel) (by decide +kernel) rfl ?_
      refine e_getf (a := 2) (tg := 0) (show am_cd 107 82 = (18, 85, 808, 0, [123]) by decide +kernel) (by decide +kernel) (by decide +kernel) rfl ?_
      refine e_cmp1 (show am_cd 107 85 = (11, 88, 92, 1, []) by decide +kernel) (fun hc => ?_) (fun hc => ?_)
      · replace h := h.1 hc
        refine e_ic (show am_cd 107 92 = (0, 93, 0, 0, []) by decide +kernel) ?_
        exact e_retz (show am_cd 107 93 = (36, 94, 0, 0, []) by decide +kernel) (by decide +kernel) (Or.inl rfl) h
      · replace h := h.2 hc
        refine e_ic (show am_cd 107 88 = (0, 89, 0, 1, []) by decide +kernel) ?_
        refine e_go (show am_cd 107 89 = (12, 93, 0, 0, []) by decide +kernel) ?_
        exact e_retz (show am_cd 107 93 = (36, 94, 0, 0, []) by decide +kernel) (by decide +kernel) (Or.inr rfl) h
    | i + 4, hi => cases hi
  · replace h := h.2.2.2.2 (by simp only [List.length_cons, List.length_nil] at hx; omega)
    refine e_ldi (show am_cd 107 94 = (2, 95, 1, 0, []) by decide +kernel) rfl ?_
    refine e_cS (z := 0) (as := [(0, s)]) (rest := []) (show am_cd 107 95 = (40, 98, 118, 1, [107]) by decide +kernel) (by decide) rfl rfl (Nat.le_of_ble_eq_true rfl) rfl ?_
    show Ev _ 118 _ 0 [(0, s)] [] _
    refine e_ldi (show am_cd 118 0 = (2, 1, 0, 0, []) by decide +kernel) rfl ?_
    refine e_ic (show am_cd 118 1 = (0, 4, 2, 294, []) by decide +kernel) ?_
    refine e_idiv (show am_cd 118 4 = (5, 5, 9, 0, []) by decide +kernel) (by decide) ?_
    refine e_reti (show am_cd 118 5 = (36, 6, 0, 0, []) by decide +kernel) (by decide +kernel) ⟨fun _ h9 => (by cases h9), ?_⟩
    show Ev _ 107 _ 98 [rA 53, (0, s)] [(0, idiv s 294)] _
    refine e_ic (show am_cd 107 98 = (0, 100, 1, 20, []) by decide +kernel) ?_
    refine e_cmp1 (show am_cd 107 100 = (11, 103, 121, 1, []) by decide +kernel) (fun hc => ?_) (fun hc => ?_)
    · replace h := h.1 hc
      refine e_ic (show am_cd 107 121 = (0, 122, 0, 0, []) by decide +kernel) ?_
      exact e_retz (show am_cd 107 122 = (36, 123, 0, 0, []) by decide +kernel) (by decide +kernel) (Or.inl rfl) h
    · replace h := h.2 hc
      refine e_ldi (show am_cd 107 103 = (2, 104, 1, 0, []) by decide +kernel) rfl ?_
      refine e_ic (show am_cd 107 104 = (0, 106, 1, 7, []) by decide +kernel) ?_
      refine e_irem (show am_cd 107 106 = (5, 107, 10, 0, []) by decide +kernel) (by decide) ?_
      refine e_lda (v := 53) (show am_cd 107 107 = (2, 108, 0, 2, []) by decide +kernel) rfl ?_
      refine e_getr (a := 53) (r := 2) (show am_cd 107 108 = (18, 111, 1000, 2, [18]) by decide +kernel) (by decide +kernel) (by decide +kernel) rfl ?_
      refine e_getf (a := 2) (tg := 0) (show am_cd 107 111 = (18, 114, 808, 0, [123]) by decide +kernel) (by decide +kernel) (by decide +kernel) rfl ?_
      refine e_cmp1 (show am_cd 107 114 = (11, 117, 121, 1, []) by decide +kernel) (fun hc => ?_) (fun hc => ?_)
      · replace h := h.1 hc
        refine e_ic (show am_cd 107 121 = (0, 122, 0, 0, []) by decide +kernel) ?_
        exact e_retz (show am_cd 107 122 = (36, 123, 0, 0, []) by decide +kernel) (by decide +kernel) (Or.inl rfl) h
      · replace h := h.2 hc
        refine e_ic (show am_cd 107 117 = (0, 118, 0, 1, []) by decide +kernel) ?_
        refine e_go (show am_cd 107 118 = (12, 122, 0, 0, []) by decide +kernel) ?_
        exact e_retz (show am_cd 107 122 = (36, 123, 0, 0, []) by decide +kernel) (by decide +kernel) (Or.inr rfl) h

theorem g_wu {d : Nat} {Q : Option aV → aS → Prop} {w : eW} {t : eT} {s : Int} (h : ((w32 (w 2 8) ≤ w32 s → Q (some (0, 0)) (enc w t)) ∧ (¬ (w32 (w 2 8) ≤ w32 s) → (0 ≤ w32 s ∧ w32 s < 6) ∧ (0 ≤ w32 (w 6 (w32 s).toNat) ∧ w32 (w 6 (w32 s).toNat) < 28) ∧ (Q (some (0, w 11 (w32 (w 6 (w32 s).toNat)).toNat)) (enc w t))))) : Cl (d + 1) 109 [rA 53, (0, s)] (enc w t) Q := by
  show Ev (d + 1) 109 Q 0 [rA 53, (0, s)] [] (enc w t)
  refine e_ldi (show am_cd 109 0 = (2, 1, 1, 0, []) by decide +kernel) rfl ?_
  refine e_lda (v := 53) (show am_cd 109 1 = (2, 2, 0, 2, []) by decide +kernel) rfl ?_
  refine e_getr (a := 53) (r := 2) (show am_cd 109 2 = (18, 5, 1000, 2, [18]) by decide +kernel) (by decide +kernel) (by decide +kernel) rfl ?_
  refine e_getf (a := 2) (tg := 0) (show am_cd 109 5 = (18, 8, 808, 0, [123]) by decide +kernel) (by decide +kernel) (by decide +kernel) rfl ?_
  refine e_cmp3 (show am_cd 109 8 = (11, 11, 31, 3, []) by decide +kernel) (fun hc => ?_) (fun hc => ?_)
  · replace h := h.1 hc
    refine e_ic (show am_cd 109 31 = (0, 32, 0, 0, []) by decide +kernel) ?_
    exact e_reti (show am_cd 109 32 = (36, 33, 0, 0, []) by decide +kernel) (by decide +kernel) h
  · replace h := h.2 hc
    refine e_lda (v := 53) (show am_cd 109 11 = (2, 12, 0, 2, []) by decide +kernel) rfl ?_
    refine e_getr (a := 53) (r := 8) (show am_cd 109 12 = (18, 15, 1001, 2, [22]) by decide +kernel) (by decide +kernel) (by decide +kernel) rfl ?_
    refine e_getr (a := 8) (r := 11) (show am_cd 109 15 = (18, 18, 2, 2, [146]) by decide +kernel) (by decide +kernel) (by decide +kernel) rfl ?_
    refine e_lda (v := 53) (show am_cd 109 18 = (2, 19, 0, 2, []) by decide +kernel) rfl ?_
    refine e_getr (a := 53) (r := 2) (show am_cd 109 19 = (18, 22, 1000, 2, [18]) by decide +kernel) (by decide +kernel) (by decide +kernel) rfl ?_
    refine e_getr (a := 2) (r := 6) (show am_cd 109 22 = (18, 25, 803, 2, [149]) by decide +kernel) (by decide +kernel) (by decide +kernel) rfl ?_
    refine e_ldi (show am_cd 109 25 = (2, 26, 1, 0, []) by decide +kernel) rfl ?_
    refine e_iald (a := 6) (n := 6) (show am_cd 109 26 = (21, 27, 0, 0, []) by decide +kernel) (by decide +kernel) (by decide +kernel) (by decide +kernel) h.1 ?_
    replace h := h.2
    refine e_iald (a := 11) (n := 28) (show am_cd 109 27 = (21, 28, 0, 0, []) by decide +kernel) (by decide +kernel) (by decide +kernel) (by decide +kernel) h.1 ?_
    replace h := h.2
    refine e_go (show am_cd 109 28 = (12, 32, 0, 0, []) by decide +kernel) ?_
    exact e_reti (show am_cd 109 32 = (36, 33, 0, 0, []) by decide +kernel) (by decide +kernel) h

theorem g_wl {d : Nat} {Q : Option aV → aS → Prop} {w : eW} {t : eT} {s : Int} (h : ((w32 (w 2 8) ≤ w32 s → Q (some (0, 0)) (enc w t)) ∧ (¬ (w32 (w 2 8) ≤ w32 s) → (0 ≤ w32 s ∧ w32 s < 6) ∧ (0 ≤ w32 (w 6 (w32 s).toNat) ∧ w32 (w 6 (w32 s).toNat) < 28) ∧ (Q (some (0, w 12 (w32 (w 6 (w32 s).toNat)).toNat)) (enc w t))))) : Cl (d + 1) 110 [rA 53, (0, s)] (enc w t) Q := by
  show Ev (d + 1) 110 Q 0 [rA 53, (0, s)] [] (enc w t)
  refine e_ldi (show am_cd 110 0 = (2, 1, 1, 0, []) by decide +kernel) rfl ?_
  refine e_lda (v := 53) (show am_cd 110 1 = (2, 2, 0, 2, []) by decide +kernel) rfl ?_
  refine e_getr (a := 53) (r := 2) (show am_cd 110 2 = (18, 5, 1000, 2, [18]) by decide +kernel) (by decide +kernel) (by decide +kernel) rfl ?_
  refine e_getf (a := 2) (tg := 0) (show am_cd 110 5 = (18, 8, 808, 0, [123]) by decide +kernel) (by decide +kernel) (by decide +kernel) rfl ?_
  refine e_cmp3 (show am_cd 110 8 = (11, 11, 31, 3, []) by decide +kernel) (fun hc => ?_) (fun hc => ?_)
  · replace h := h.1 hc
    refine e_ic (show am_cd 110 31 = (0, 32, 0, 0, []) by decide +kernel) ?_
    exact e_reti (show am_cd 110 32 = (36, 33, 0, 0, []) by decide +kernel) (by decide +kernel) h
  · replace h := h.2 hc
    refine e_lda (v := 53) (show am_cd 110 11 = (2, 12, 0, 2, []) by decide +kernel) rfl ?_
    refine e_getr (a := 53) (r := 8) (show am_cd 110 12 = (18, 15, 1001, 2, [22]) by decide +kernel) (by decide +kernel) (by decide +kernel) rfl ?_
    refine e_getr (a := 8) (r := 12) (show am_cd 110 15 = (18, 18, 3, 2, [152]) by decide +kernel) (by decide +kernel) (by decide +kernel) rfl ?_
    refine e_lda (v := 53) (show am_cd 110 18 = (2, 19, 0, 2, []) by decide +kernel) rfl ?_
    refine e_getr (a := 53) (r := 2) (show am_cd 110 19 = (18, 22, 1000, 2, [18]) by decide +kernel) (by decide +kernel) (by decide +kernel) rfl ?_
    refine e_getr (a := 2) (r := 6) (show am_cd 110 22 = (18, 25, 803, 2, [149]) by decide +kernel) (by decide +kernel) (by decide +kernel) rfl ?_
    refine e_ldi (show am_cd 110 25 = (2, 26, 1, 0, []) by decide +kernel) rfl ?_
    refine e_iald (a := 6) (n := 6) (show am_cd 110 26 = (21, 27, 0, 0, []) by decide +kernel) (by decide +kernel) (by decide +kernel) (by decide +kernel) h.1 ?_
    replace h := h.2
    refine e_iald (a := 12) (n := 28) (show am_cd 110 27 = (21, 28, 0, 0, []) by decide +kernel) (by decide +kernel) (by decide +kernel) (by decide +kernel) h.1 ?_
    replace h := h.2
    refine e_go (show am_cd 110 28 = (12, 32, 0, 0, []) by decide +kernel) ?_
    exact e_reti (show am_cd 110 32 = (36, 33, 0, 0, []) by decide +kernel) (by decide +kernel) h

theorem g_ptr {d : Nat} {Q : Option aV → aS → Prop} {w : eW} {t : eT} {i j : Int} (h : ((w32 (w 2 8) ≤ w32 j → ((w32 ((8 - i) - ((w 2 8) - j)) ≤ 0 → Q (some (0, 0)) (enc w t)) ∧ (¬ (w32 ((8 - i) - ((w 2 8) - j)) ≤ 0) → Q (some (0, ior 0 (w 12 0))) (enc w t)))) ∧ (¬ (w32 (w 2 8) ≤ w32 j) → (0 ≤ w32 j ∧ w32 j < 6) ∧ (0 ≤ w32 (w 6 (w32 j).toNat) ∧ w32 (w 6 (w32 j).toNat) < 28) ∧ ((w32 ((8 - i) - ((w 2 8) - j)) ≤ 0 → Q (some (0, ior (w 12 (w32 (w 6 (w32 j).toNat)).toNat) 0)) (enc w t)) ∧ (¬ (w32 ((8 - i) - ((w 2 8) - j)) ≤ 0) → Q (some (0, ior (w 12 (w32 (w 6 (w32 j).toNat)).toNat) (w 12 0))) (enc w t)))))) : Cl (d + 2) 111 [rA 53, (0, i), (0, j)] (enc w t) Q := by
  show Ev (d + 2) 111 Q 0 [rA 53, (0, i), (0, j), (9, 0)] [] (enc w t)
  refine e_ic (show am_cd 111 0 = (0, 2, 1, 8, []) by decide +kernel) ?_
  refine e_ldi (show am_cd 111 2 = (2, 3, 1, 0, []) by decide +kernel) rfl ?_
  refine e_isub (show am_cd 111 3 = (5, 4, 1, 0, []) by decide +kernel) ?_
  refine e_lda (v := 53) (show am_cd 111 4 = (2, 5, 0, 2, []) by decide +kernel) rfl ?_
  refine e_getr (a := 53) (r := 2) (show am_cd 111 5 = (18, 8, 1000, 2, [18]) by decide +kernel) (by decide +kernel) (by decide +kernel) rfl ?_
  refine e_getf (a := 2) (tg := 0) (show am_cd 111 8 = (18, 11, 808, 0, [123]) by decide +kernel) (by decide +kernel) (by decide +kernel) rfl ?_
  refine e_ldi (show am_cd 111 11 = (2, 12, 2, 0, []) by decide +kernel) rfl ?_
  refine e_isub (show am_cd 111 12 = (5, 13, 1, 0, []) by decide +kernel) ?_
  refine e_isub (show am_cd 111 13 = (5, 14, 1, 0, []) by decide +kernel) ?_
  refine e_sti (la2 := [rA 53, (0, i), (0, j), (0, (8 - i) - ((w 2 8) - j))]) (show am_cd 111 14 = (3, 15, 3, 0, []) by decide +kernel) rfl ?_
  refine e_lda (v := 53) (show am_cd 111 15 = (2, 16, 0, 2, []) by decide +kernel) rfl ?_
  refine e_ldi (show am_cd 111 16 = (2, 17, 2, 0, []) by decide +kernel) rfl ?_
  refine e_cV (z := 0) (a := 53) (as := [(0, j)]) (rest := []) (show am_cd 111 17 = (40, 20, 110, 0, [155]) by decide +kernel) (by decide +kernel) rfl rfl (Nat.le_of_ble_eq_true rfl) rfl ?_
  show Ev _ 110 _ 0 [rA 53, (0, j)] [] _
  refine e_ldi (show am_cd 110 0 = (2, 1, 1, 0, []) by decide +kernel) rfl ?_
  refine e_lda (v := 53) (show am_cd 110 1 = (2, 2, 0, 2, []) by decide +kernel) rfl ?_
  refine e_getr (a := 53) (r := 2) (show am_cd 110 2 = (18, 5, 1000, 2, [18]) by decide +kernel) (by decide +kernel) (by decide +kernel) rfl ?_
  refine e_getf (a := 2) (tg := 0) (show am_cd 110 5 = (18, 8, 808, 0, [123]) by decide +kernel) (by decide +kernel) (by decide +kernel) rfl ?_
  refine e_cmp3 (show am_cd 110 8 = (11, 11, 31, 3, []) by decide +kernel) (fun hc => ?_) (fun hc => ?_)
  · replace h := h.1 hc
    refine e_ic (show am_cd 110 31 = (0, 32, 0, 0, []) by decide +kernel) ?_
    refine e_reti (show am_cd 110 32 = (36, 33, 0, 0, []) by decide +kernel) (by decide +kernel) ⟨fun _ h9 => (by cases h9), ?_⟩
    show Ev _ 111 _ 20 [rA 53, (0, i), (0, j), (0, (8 - i) - ((w 2 8) - j))] [(0, 0)] _
    refine e_ldi (show am_cd 111 20 = (2, 21, 3, 0, []) by decide +kernel) rfl ?_
    refine e_if5 (show am_cd 111 21 = (10, 24, 36, 5, []) by decide +kernel) (fun hc => ?_) (fun hc => ?_)
    · replace h := h.1 hc
      refine e_ic (show am_cd 111 36 = (0, 37, 0, 0, []) by decide +kernel) ?_
      refine e_iok (r := 0) (show am_cd 111 37 = (5, 38, 4, 0, []) by decide +kernel) (by decide +kernel) (by decide +kernel) ?_
      exact e_reti (show am_cd 111 38 = (36, 39, 0, 0, []) by decide +kernel) (by decide +kernel) h
    · replace h := h.2 hc
      refine e_lda (v := 53) (show am_cd 111 24 = (2, 25, 0, 2, []) by decide +kernel) rfl ?_
      refine e_getr (a := 53) (r := 8) (show am_cd 111 25 = (18, 28, 1001, 2, [22]) by decide +kernel) (by decide +kernel) (by decide +kernel) rfl ?_
      refine e_getr (a := 8) (r := 12) (show am_cd 111 28 = (18, 31, 3, 2, [152]) by decide +kernel) (by decide +kernel) (by decide +kernel) rfl ?_
      refine e_ic (show am_cd 111 31 = (0, 32, 0, 0, []) by decide +kernel) ?_
      refine e_ialdK (a := 12) (n := 28) (j := 0) (v := w 12 0) (show am_cd 111 32 = (21, 33, 0, 0, []) by decide +kernel) (by decide +kernel) (by decide +kernel) (by decide +kernel) (by decide +kernel) (by decide +kernel) rfl ?_
      refine e_go (show am_cd 111 33 = (12, 37, 0, 0, []) by decide +kernel) ?_
      refine e_ior (show am_cd 111 37 = (5, 38, 4, 0, []) by decide +kernel) ?_
      exact e_reti (show am_cd 111 38 = (36, 39, 0, 0, []) by decide +kernel) (by decide +kernel) h
  · replace h := h.2 hc
    refine e_lda (v := 53) (show am_cd 110 11 = (2, 12, 0, 2, []) by decide +kernel) rfl ?_
    refine e_getr (a := 53) (r := 8) (show am_cd 110 12 = (18, 15, 1001, 2, [22]) by decide +kernel) (by decide +kernel) (by decide +kernel) rfl ?_
    refine e_getr (a := 8) (r := 12) (show am_cd 110 15 = (18, 18, 3, 2, [152]) by decide +kernel) (by decide +kernel) (by decide +kernel) rfl ?_
    refine e_lda (v := 53) (show am_cd 110 18 = (2, 19, 0, 2, []) by decide +kernel) rfl ?_
    refine e_getr (a := 53) (r := 2) (show am_cd 110 19 = (18, 22, 1000, 2, [18]) by decide +kernel) (by decide +kernel) (by decide +kernel) rfl ?_
    refine e_getr (a := 2) (r := 6) (show am_cd 110 22 = (18, 25, 803, 2, [149]) by decide +kernel) (by decide +kernel) (by decide +kernel) rfl ?_
    refine e_ldi (show am_cd 110 25 = (2, 26, 1, 0, []) by decide +kernel) rfl ?_
    refine e_iald (a := 6) (n := 6) (show am_cd 110 26 = (21, 27, 0, 0, []) by decide +kernel) (by decide +kernel) (by decide +kernel) (by decide +kernel) h.1 ?_
    replace h := h.2
    refine e_iald (a := 12) (n := 28) (show am_cd 110 27 = (21, 28, 0, 0, []) by decide +kernel) (by decide +kernel) (by decide +kernel) (by decide +kernel) h.1 ?_
    replace h := h.2
    refine e_go (show am_cd 110 28 = (12, 32, 0, 0, []) by decide +kernel) ?_
    refine e_reti (show am_cd 110 32 = (36, 33, 0, 0, []) by decide +kernel) (by decide +kernel) ⟨fun _ h9 => (by cases h9), ?_⟩
    show Ev _ 111 _ 20 [rA 53, (0, i), (0, j), (0, (8 - i) - ((w 2 8) - j))] [(0, w 12 (w32 (w 6 (w32 j).toNat)).toNat)] _
    refine e_ldi (show am_cd 111 20 = (2, 21, 3, 0, []) by decide +kernel) rfl ?_
    refine e_if5 (show am_cd 111 21 = (10, 24, 36, 5, []) by decide +kernel) (fun hc => ?_) (fun hc => ?_)
    · replace h := h.1 hc
      refine e_ic (show am_cd 111 36 = (0, 37, 0, 0, []) by decide +kernel) ?_
      refine e_ior (show am_cd 111 37 = (5, 38, 4, 0, []) by decide +kernel) ?_
      exact e_reti (show am_cd 111 38 = (36, 39, 0, 0, []) by decide +kernel) (by decide +kernel) h
    · replace h := h.2 hc
      refine e_lda (v := 53) (show am_cd 111 24 = (2, 25, 0, 2, []) by decide +kernel) rfl ?_
      refine e_getr (a := 53) (r := 8) (show am_cd 111 25 = (18, 28, 1001, 2, [22]) by decide +kernel) (by decide +kernel) (by decide +kernel) rfl ?_
      refine e_getr (a := 8) (r := 12) (show am_cd 111 28 = (18, 31, 3, 2, [152]) by decide +kernel) (by decide +kernel) (by decide +kernel) rfl ?_
      refine e_ic (show am_cd 111 31 = (0, 32, 0, 0, []) by decide +kernel) ?_
      refine e_ialdK (a := 12) (n := 28) (j := 0) (v := w 12 0) (show am_cd 111 32 = (21, 33, 0, 0, []) by decide +kernel) (by decide +kernel) (by decide +kernel) (by decide +kernel) (by decide +kernel) (by decide +kernel) rfl ?_
      refine e_go (show am_cd 111 33 = (12, 37, 0, 0, []) by decide +kernel) ?_
      refine e_ior (show am_cd 111 37 = (5, 38, 4, 0, []) by decide +kernel) ?_
      exact e_reti (show am_cd 111 38 = (36, 39, 0, 0, []) by decide +kernel) (by decide +kernel) h

theorem g_ptf {d : Nat} {Q : Option aV → aS → Prop} {w : eW} {t : eT} {s : Int} (h : ((w32 (w 2 8) ≤ w32 (irem s 7) → ((w32 (idiv s 294) < w32 16 → (0 ≤ w32 (((idiv s 294) * 5) + (irem (idiv s 49) 6)) ∧ w32 (((idiv s 294) * 5) + (irem (idiv s 49) 6)) < 80) ∧ (0 ≤ w32 (w 32 (w32 (((idiv s 294) * 5) + (irem (idiv s 49) 6))).toNat) ∧ w32 (w 32 (w32 (((idiv s 294) * 5) + (irem (idiv s 49) 6))).toNat) < 28) ∧ (Q (some (0, ior (iand (w 11 (w32 (w 32 (w32 (((idiv s 294) * 5) + (irem (idiv s 49) 6))).toNat)).toNat) (ior 0 (w 12 0))) (iand (w 8 8) 0))) (enc w t))) ∧ (¬ (w32 (idiv s 294) < w32 16) → ((¬ w32 (idiv s 294) = w32 20 → Q (some (0, 0)) (enc w t)) ∧ (¬ (¬ w32 (idiv s 294) = w32 20) → Q (some (0, iand (w 8 8) 0)) (enc w t)))))) ∧ (¬ (w32 (w 2 8) ≤ w32 (irem s 7)) → (0 ≤ w32 (irem s 7) ∧ w32 (irem s 7) < 6) ∧ (0 ≤ w32 (w 6 (w32 (irem s 7)).toNat) ∧ w32 (w 6 (w32 (irem s 7)).toNat) < 28) ∧ ((w32 (idiv s 294) < w32 16 → (0 ≤ w32 (((idiv s 294) * 5) + (irem (idiv s 49) 6)) ∧ w32 (((idiv s 294) * 5) + (irem (idiv s 49) 6)) < 80) ∧ (0 ≤ w32 (w 32 (w32 (((idiv s 294) * 5) + (irem (idiv s 49) 6))).toNat) ∧ w32 (w 32 (w32 (((idiv s 294) * 5) + (irem (idiv s 49) 6))).toNat) < 28) ∧ (Q (some (0, ior (iand (w 11 (w32 (w 32 (w32 (((idiv s 294) * 5) + (irem (idiv s 49) 6))).toNat)).toNat) (ior (w 12 (w32 (w 6 (w32 (irem s 7)).toNat)).toNat) (w 12 0))) (iand (w 8 8) (w 12 (w32 (w 6 (w32 (irem s 7)).toNat)).toNat)))) (enc w t))) ∧ (¬ (w32 (idiv s 294) < w32 16) → ((¬ w32 (idiv s 294) = w32 20 → Q (some (0, 0)) (enc w t)) ∧ (¬ (¬ w32 (idiv s 294) = w32 20) → Q (some (0, iand (w 8 8) (w 12 (w32 (w 6 (w32 (irem s 7)).toNat)).toNat))) (enc w t)))))))) : Cl (d + 2) 112 [rA 53, (0, s)] (enc w t) Q := by
  show Ev (d + 2) 112 Q 0 [rA 53, (0, s), (9, 0), (9, 0), (9, 0)] [] (enc w t)
  refine e_lda (v := 53) (show am_cd 112 0 = (2, 1, 0, 2, []) by decide +kernel) rfl ?_
  refine e_ldi (show am_cd 112 1 = (2, 2, 1, 0, []) by decide +kernel) rfl ?_
  refine e_ic (show am_cd 112 2 = (0, 4, 1, 7, []) by decide +kernel) ?_
  refine e_irem (show am_cd 112 4 = (5, 5, 10, 0, []) by decide +kernel) (by decide) ?_
  refine e_cV (z := 0) (a := 53) (as := [(0, irem s 7)]) (rest := []) (show am_cd 112 5 = (40, 8, 110, 0, [155]) by decide +kernel) (by decide +kernel) rfl rfl (Nat.le_of_ble_eq_true rfl) rfl ?_
  show Ev _ 110 _ 0 [rA 53, (0, irem s 7)] [] _
  refine e_ldi (show am_cd 110 0 = (2, 1, 1, 0, []) by decide +kernel) rfl ?_
  refine e_lda (v := 53) (show am_cd 110 1 = (2, 2, 0, 2, []) by decide +kernel) rfl ?_
  refine e_getr (a := 53) (r := 2) (show am_cd 110 2 = (18, 5, 1000, 2, [18]) by decide +kernel) (by decide +kernel) (by decide +kernel) rfl ?_
  refine e_getf (a := 2) (tg := 0) (show am_cd 110 5 = (18, 8, 808, 0, [123]) by decide +kernel) (by decide +kernel) (by decide +kernel) rfl ?_
  refine e_cmp3 (show am_cd 110 8 = (11, 11, 31, 3, []) by decide +kernel) (fun hc => ?_) (fun hc => ?_)
  · replace h := h.1 hc
    refine e_ic (show am_cd 110 31 = (0, 32, 0, 0, []) by decide +kernel) ?_
    refine e_reti (show am_cd 110 32 = (36, 33, 0, 0, []) by decide +kernel) (by decide +kernel) ⟨fun _ h9 => (by cases h9), ?_⟩
    show Ev _ 112 _ 8 [rA 53, (0, s), (9, 0), (9, 0), (9, 0)] [(0, 0)] _
    refine e_sti (la2 := [rA 53, (0, s), (0, 0), (9, 0), (9, 0)]) (show am_cd 112 8 = (3, 9, 2, 0, []) by decide +kernel) rfl ?_
    refine e_ldi (show am_cd 112 9 = (2, 10, 1, 0, []) by decide +kernel) rfl ?_
    refine e_cS (z := 0) (as := [(0, s)]) (rest := []) (show am_cd 112 10 = (40, 13, 118, 1, [107]) by decide +kernel) (by decide) rfl rfl (Nat.le_of_ble_eq_true rfl) rfl ?_
    show Ev _ 118 _ 0 [(0, s)] [] _
    refine e_ldi (show am_cd 118 0 = (2, 1, 0, 0, []) by decide +kernel) rfl ?_
    refine e_ic (show am_cd 118 1 = (0, 4, 2, 294, []) by decide +kernel) ?_
    refine e_idiv (show am_cd 118 4 = (5, 5, 9, 0, []) by decide +kernel) (by decide) ?_
    refine e_reti (show am_cd 118 5 = (36, 6, 0, 0, []) by decide +kernel) (by decide +kernel) ⟨fun _ h9 => (by cases h9), ?_⟩
    show Ev _ 112 _ 13 [rA 53, (0, s), (0, 0), (9, 0), (9, 0)] [(0, idiv s 294)] _
    refine e_sti (la2 := [rA 53, (0, s), (0, 0), (0, idiv s 294), (9, 0)]) (show am_cd 112 13 = (3, 14, 3, 0, []) by decide +kernel) rfl ?_
    refine e_ldi (show am_cd 112 14 = (2, 15, 3, 0, []) by decide +kernel) rfl ?_
    refine e_ic (show am_cd 112 15 = (0, 17, 1, 16, []) by decide +kernel) ?_
    refine e_cmp2 (show am_cd 112 17 = (11, 20, 40, 2, []) by decide +kernel) (fun hc => ?_) (fun hc => ?_)
    · replace h := h.1 hc
      refine e_lda (v := 53) (show am_cd 112 40 = (2, 41, 0, 2, []) by decide +kernel) rfl ?_
      refine e_getr (a := 53) (r := 8) (show am_cd 112 41 = (18, 44, 1001, 2, [22]) by decide +kernel) (by decide +kernel) (by decide +kernel) rfl ?_
      refine e_getr (a := 8) (r := 11) (show am_cd 112 44 = (18, 47, 2, 2, [146]) by decide +kernel) (by decide +kernel) (by decide +kernel) rfl ?_
      refine e_lda (v := 53) (show am_cd 112 47 = (2, 48, 0, 2, []) by decide +kernel) rfl ?_
      refine e_getr (a := 53) (r := 28) (show am_cd 112 48 = (18, 51, 1002, 2, [26]) by decide +kernel) (by decide +kernel) (by decide +kernel) rfl ?_
      refine e_getr (a := 28) (r := 32) (show am_cd 112 51 = (18, 54, 303, 2, [158]) by decide +kernel) (by decide +kernel) (by decide +kernel) rfl ?_
      refine e_ldi (show am_cd 112 54 = (2, 55, 3, 0, []) by decide +kernel) rfl ?_
      refine e_ic (show am_cd 112 55 = (0, 56, 0, 5, []) by decide +kernel) ?_
      refine e_imul (show am_cd 112 56 = (5, 57, 2, 0, []) by decide +kernel) ?_
      refine e_ldi (show am_cd 112 57 = (2, 58, 1, 0, []) by decide +kernel) rfl ?_
      refine e_cS (z := 0) (as := [(0, s)]) (rest := [(0, (idiv s 294) * 5), rA 32, rA 11]) (show am_cd 112 58 = (40, 61, 119, 1, [110]) by decide +kernel) (by decide) rfl rfl (Nat.le_of_ble_eq_true rfl) rfl ?_
      show Ev _ 119 _ 0 [(0, s)] [] _
      refine e_ldi (show am_cd 119 0 = (2, 1, 0, 0, []) by decide +kernel) rfl ?_
      refine e_ic (show am_cd 119 1 = (0, 3, 1, 49, []) by decide +kernel) ?_
      refine e_idiv (show am_cd 119 3 = (5, 4, 9, 0, []) by decide +kernel) (by decide) ?_
      refine e_ic (show am_cd 119 4 = (0, 6, 1, 6, []) by decide +kernel) ?_
      refine e_irem (show am_cd 119 6 = (5, 7, 10, 0, []) by decide +kernel) (by decide) ?_
      refine e_reti (show am_cd 119 7 = (36, 8, 0, 0, []) by decide +kernel) (by decide +kernel) ⟨fun _ h9 => (by cases h9), ?_⟩
      show Ev _ 112 _ 61 [rA 53, (0, s), (0, 0), (0, idiv s 294), (9, 0)] [(0, irem (idiv s 49) 6), (0, (idiv s 294) * 5), rA 32, rA 11] _
      refine e_iadd (show am_cd 112 61 = (5, 62, 0, 0, []) by decide +kernel) ?_
      refine e_iald (a := 32) (n := 80) (show am_cd 112 62 = (21, 63, 0, 0, []) by decide +kernel) (by decide +kernel) (by decide +kernel) (by decide +kernel) h.1 ?_
      replace h := h.2
      refine e_iald (a := 11) (n := 28) (show am_cd 112 63 = (21, 64, 0, 0, []) by decide +kernel) (by decide +kernel) (by decide +kernel) (by decide +kernel) h.1 ?_
      replace h := h.2
      refine e_sti (la2 := [rA 53, (0, s), (0, 0), (0, idiv s 294), (0, w 11 (w32 (w 32 (w32 (((idiv s 294) * 5) + (irem (idiv s 49) 6))).toNat)).toNat)]) (show am_cd 112 64 = (3, 66, 4, 0, []) by decide +kernel) rfl ?_
      refine e_ldi (show am_cd 112 66 = (2, 68, 4, 0, []) by decide +kernel) rfl ?_
      refine e_ldi (show am_cd 112 68 = (2, 69, 2, 0, []) by decide +kernel) rfl ?_
      refine e_lda (v := 53) (show am_cd 112 69 = (2, 70, 0, 2, []) by decide +kernel) rfl ?_
      refine e_getr (a := 53) (r := 8) (show am_cd 112 70 = (18, 73, 1001, 2, [22]) by decide +kernel) (by decide +kernel) (by decide +kernel) rfl ?_
      refine e_getr (a := 8) (r := 12) (show am_cd 112 73 = (18, 76, 3, 2, [152]) by decide +kernel) (by decide +kernel) (by decide +kernel) rfl ?_
      refine e_ic (show am_cd 112 76 = (0, 77, 0, 0, []) by decide +kernel) ?_
      refine e_ialdK (a := 12) (n := 28) (j := 0) (v := w 12 0) (show am_cd 112 77 = (21, 78, 0, 0, []) by decide +kernel) (by decide +kernel) (by decide +kernel) (by decide +kernel) (by decide +kernel) (by decide +kernel) rfl ?_
      refine e_ior (show am_cd 112 78 = (5, 79, 4, 0, []) by decide +kernel) ?_
      refine e_iand (show am_cd 112 79 = (5, 80, 3, 0, []) by decide +kernel) ?_
      refine e_lda (v := 53) (show am_cd 112 80 = (2, 81, 0, 2, []) by decide +kernel) rfl ?_
      refine e_getr (a := 53) (r := 8) (show am_cd 112 81 = (18, 84, 1001, 2, [22]) by decide +kernel) (by decide +kernel) (by decide +kernel) rfl ?_
      refine e_getf (a := 8) (tg := 0) (show am_cd 112 84 = (18, 87, 8, 0, [137]) by decide +kernel) (by decide +kernel) (by decide +kernel) rfl ?_
      refine e_ldi (show am_cd 112 87 = (2, 88, 2, 0, []) by decide +kernel) rfl ?_
      refine e_iand (show am_cd 112 88 = (5, 89, 3, 0, []) by decide +kernel) ?_
      refine e_ior (show am_cd 112 89 = (5, 90, 4, 0, []) by decide +kernel) ?_
      exact e_reti (show am_cd 112 90 = (36, 91, 0, 0, []) by decide +kernel) (by decide +kernel) h
    · replace h := h.2 hc
      refine e_ldi (show am_cd 112 20 = (2, 21, 3, 0, []) by decide +kernel) rfl ?_
      refine e_ic (show am_cd 112 21 = (0, 23, 1, 20, []) by decide +kernel) ?_
      refine e_cmp1 (show am_cd 112 23 = (11, 26, 38, 1, []) by decide +kernel) (fun hc => ?_) (fun hc => ?_)
      · replace h := h.1 hc
        refine e_ic (show am_cd 112 38 = (0, 39, 0, 0, []) by decide +kernel) ?_
        exact e_reti (show am_cd 112 39 = (36, 40, 0, 0, []) by decide +kernel) (by decide +kernel) h
      · replace h := h.2 hc
        refine e_lda (v := 53) (show am_cd 112 26 = (2, 27, 0, 2, []) by decide +kernel) rfl ?_
        refine e_getr (a := 53) (r := 8) (show am_cd 112 27 = (18, 30, 1001, 2, [22]) by decide +kernel) (by decide +kernel) (by decide +kernel) rfl ?_
        refine e_getf (a := 8) (tg := 0) (show am_cd 112 30 = (18, 33, 8, 0, [137]) by decide +kernel) (by decide +kernel) (by decide +kernel) rfl ?_
        refine e_ldi (show am_cd 112 33 = (2, 34, 2, 0, []) by decide +kernel) rfl ?_
        refine e_iand (show am_cd 112 34 = (5, 35, 3, 0, []) by decide +kernel) ?_
        refine e_go (show am_cd 112 35 = (12, 39, 0, 0, []) by decide +kernel) ?_
        exact e_reti (show am_cd 112 39 = (36, 40, 0, 0, []) by decide +kernel) (by decide +kernel) h
  · replace h := h.2 hc
    refine e_lda (v := 53) (show am_cd 110 11 = (2, 12, 0, 2, []) by decide +kernel) rfl ?_
    refine e_getr (a := 53) (r := 8) (show am_cd 110 12 = (18, 15, 1001, 2, [22]) by decide +kernel) (by decide +kernel) (by decide +kernel) rfl ?_
    refine e_getr (a := 8) (r := 12) (show am_cd 110 15 = (18, 18, 3, 2, [152]) by decide +kernel) (by decide +kernel) (by decide +kernel) rfl ?_
    refine e_lda (v := 53) (show am_cd 110 18 = (2, 19, 0, 2, []) by decide +kernel) rfl ?_
    refine e_getr (a := 53) (r := 2) (show am_cd 110 19 = (18, 22, 1000, 2, [18]) by decide +kernel) (by decide +kernel) (by decide +kernel) rfl ?_
    refine e_getr (a := 2) (r := 6) (show am_cd 110 22 = (18, 25, 803, 2, [149]) by decide +kernel) (by decide +kernel) (by decide +kernel) rfl ?_
    refine e_ldi (show am_cd 110 25 = (2, 26, 1, 0, []) by decide +kernel) rfl ?_
    refine e_iald (a := 6) (n := 6) (show am_cd 110 26 = (21, 27, 0, 0, []) by decide +kernel) (by decide +kernel) (by decide +kernel) (by decide +kernel) h.1 ?_
    replace h := h.2
    refine e_iald (a := 12) (n := 28) (show am_cd 110 27 = (21, 28, 0, 0, []) by decide +kernel) (by decide +kernel) (by decide +kernel) (by decide +kernel) h.1 ?_
    replace h := h.2
    refine e_go (show am_cd 110 28 = (12, 32, 0, 0, []) by decide +kernel) ?_
    refine e_reti (show am_cd 110 32 = (36, 33, 0, 0, []) by decide +kernel) (by decide +kernel) ⟨fun _ h9 => (by cases h9), ?_⟩
    show Ev _ 112 _ 8 [rA 53, (0, s), (9, 0), (9, 0), (9, 0)] [(0, w 12 (w32 (w 6 (w32 (irem s 7)).toNat)).toNat)] _
    refine e_sti (la2 := [rA 53, (0, s), (0, w 12 (w32 (w 6 (w32 (irem s 7)).toNat)).toNat), (9, 0), (9, 0)]) (show am_cd 112 8 = (3, 9, 2, 0, []) by decide +kernel) rfl ?_
    refine e_ldi (show am_cd 112 9 = (2, 10, 1, 0, []) by decide +kernel) rfl ?_
    refine e_cS (z := 0) (as := [(0, s)]) (rest := []) (show am_cd 112 10 = (40, 13, 118, 1, [107]) by decide +kernel) (by decide) rfl rfl (Nat.le_of_ble_eq_true rfl) rfl ?_
    show Ev _ 118 _ 0 [(0, s)] [] _
    refine e_ldi (show am_cd 118 0 = (2, 1, 0, 0, []) by decide +kernel) rfl ?_
    refine e_ic (show am_cd 118 1 = (0, 4, 2, 294, []) by decide +kernel) ?_
    refine e_idiv (show am_cd 118 4 = (5, 5, 9, 0, []) by decide +kernel) (by decide) ?_
    refine e_reti (show am_cd 118 5 = (36, 6, 0, 0, []) by decide +kernel) (by decide +kernel) ⟨fun _ h9 => (by cases h9), ?_⟩
    show Ev _ 112 _ 13 [rA 53, (0, s), (0, w 12 (w32 (w 6 (w32 (irem s 7)).toNat)).toNat), (9, 0), (9, 0)] [(0, idiv s 294)] _
    refine e_sti (la2 := [rA 53, (0, s), (0, w 12 (w32 (w 6 (w32 (irem s 7)).toNat)).toNat), (0, idiv s 294), (9, 0)]) (show am_cd 112 13 = (3, 14, 3, 0, []) by decide +kernel) rfl ?_
    refine e_ldi (show am_cd 112 14 = (2, 15, 3, 0, []) by decide +kernel) rfl ?_
    refine e_ic (show am_cd 112 15 = (0, 17, 1, 16, []) by decide +kernel) ?_
    refine e_cmp2 (show am_cd 112 17 = (11, 20, 40, 2, []) by decide +kernel) (fun hc => ?_) (fun hc => ?_)
    · replace h := h.1 hc
      refine e_lda (v := 53) (show am_cd 112 40 = (2, 41, 0, 2, []) by decide +kernel) rfl ?_
      refine e_getr (a := 53) (r := 8) (show am_cd 112 41 = (18, 44, 1001, 2, [22]) by decide +kernel) (by decide +kernel) (by decide +kernel) rfl ?_
      refine e_getr (a := 8) (r := 11) (show am_cd 112 44 = (18, 47, 2, 2, [146]) by decide +kernel) (by decide +kernel) (by decide +kernel) rfl ?_
      refine e_lda (v := 53) (show am_cd 112 47 = (2, 48, 0, 2, []) by decide +kernel) rfl ?_
      refine e_getr (a := 53) (r := 28) (show am_cd 112 48 = (18, 51, 1002, 2, [26]) by decide +kernel) (by decide +kernel) (by decide +kernel) rfl ?_
      refine e_getr (a := 28) (r := 32) (show am_cd 112 51 = (18, 54, 303, 2, [158]) by decide +kernel) (by decide +kernel) (by decide +kernel) rfl ?_
      refine e_ldi (show am_cd 112 54 = (2, 55, 3, 0, []) by decide +kernel) rfl ?_
      refine e_ic (show am_cd 112 55 = (0, 56, 0, 5, []) by decide +kernel) ?_
      refine e_imul (show am_cd 112 56 = (5, 57, 2, 0, []) by decide +kernel) ?_
      refine e_ldi (show am_cd 112 57 = (2, 58, 1, 0, []) by decide +kernel) rfl ?_
      refine e_cS (z := 0) (as := [(0, s)]) (rest := [(0, (idiv s 294) * 5), rA 32, rA 11]) (show am_cd 112 58 = (40, 61, 119, 1, [110]) by decide +kernel) (by decide) rfl rfl (Nat.le_of_ble_eq_true rfl) rfl ?_
      show Ev _ 119 _ 0 [(0, s)] [] _
      refine e_ldi (show am_cd 119 0 = (2, 1, 0, 0, []) by decide +kernel) rfl ?_
      refine e_ic (show am_cd 119 1 = (0, 3, 1, 49, []) by decide +kernel) ?_
      refine e_idiv (show am_cd 119 3 = (5, 4, 9, 0, []) by decide +kernel) (by decide) ?_
      refine e_ic (show am_cd 119 4 = (0, 6, 1, 6, []) by decide +kernel) ?_
      refine e_irem (show am_cd 119 6 = (5, 7, 10, 0, []) by decide +kernel) (by decide) ?_
      refine e_reti (show am_cd 119 7 = (36, 8, 0, 0, []) by decide +kernel) (by decide +kernel) ⟨fun _ h9 => (by cases h9), ?_⟩
      show Ev _ 112 _ 61 [rA 53, (0, s), (0, w 12 (w32 (w 6 (w32 (irem s 7)).toNat)).toNat), (0, idiv s 294), (9, 0)] [(0, irem (idiv s 49) 6), (0, (idiv s 294) * 5), rA 32, rA 11] _
      refine e_iadd (show am_cd 112 61 = (5, 62, 0, 0, []) by decide +kernel) ?_
      refine e_iald (a := 32) (n := 80) (show am_cd 112 62 = (21, 63, 0, 0, []) by decide +kernel) (by decide +kernel) (by decide +kernel) (by decide +kernel) h.1 ?_
      replace h := h.2
      refine e_iald (a := 11) (n := 28) (show am_cd 112 63 = (21, 64, 0, 0, []) by decide +kernel) (by decide +kernel) (by decide +kernel) (by decide +kernel) h.1 ?_
      replace h := h.2
      refine e_sti (la2 := [rA 53, (0, s), (0, w 12 (w32 (w 6 (w32 (irem s 7)).toNat)).toNat), (0, idiv s 294), (0, w 11 (w32 (w 32 (w32 (((idiv s 294) * 5) + (irem (idiv s 49) 6))).toNat)).toNat)]) (show am_cd 112 64 = (3, 66, 4, 0, []) by decide +kernel) rfl ?_
      refine e_ldi (show am_cd 112 66 = (2, 68, 4, 0, []) by decide +kernel) rfl ?_
      refine e_ldi (show am_cd 112 68 = (2, 69, 2, 0, []) by decide +kernel) rfl ?_
      refine e_lda (v := 53) (show am_cd 112 69 = (2, 70, 0, 2, []) by decide +kernel) rfl ?_
      refine e_getr (a := 53) (r := 8) (show am_cd 112 70 = (18, 73, 1001, 2, [22]) by decide +kernel) (by decide +kernel) (by decide +kernel) rfl ?_
      refine e_getr (a := 8) (r := 12) (show am_cd 112 73 = (18, 76, 3, 2, [152]) by decide +kernel) (by decide +kernel) (by decide +kernel) rfl ?_
      refine e_ic (show am_cd 112 76 = (0, 77, 0, 0, []) by decide +kernel) ?_
      refine e_ialdK (a := 12) (n := 28) (j := 0) (v := w 12 0) (show am_cd 112 77 = (21, 78, 0, 0, []) by decide +kernel) (by decide +kernel) (by decide +kernel) (by decide +kernel) (by decide +kernel) (by decide +kernel) rfl ?_
      refine e_ior (show am_cd 112 78 = (5, 79, 4, 0, []) by decide +kernel) ?_
      refine e_iand (show am_cd 112 79 = (5, 80, 3, 0, []) by decide +kernel) ?_
      refine e_lda (v := 53) (show am_cd 112 80 = (2, 81, 0, 2, []) by decide +kernel) rfl ?_
      refine e_getr (a := 53) (r := 8) (show am_cd 112 81 = (18, 84, 1001, 2, [22]) by decide +kernel) (by decide +kernel) (by decide +kernel) rfl ?_
      refine e_getf (a := 8) (tg := 0) (show am_cd 112 84 = (18, 87, 8, 0, [137]) by decide +kernel) (by decide +kernel) (by decide +kernel) rfl ?_
      refine e_ldi (show am_cd 112 87 = (2, 88, 2, 0, []) by decide +kernel) rfl ?_
      refine e_iand (show am_cd 112 88 = (5, 89, 3, 0, []) by decide +kernel) ?_
      refine e_ior (show am_cd 112 89 = (5, 90, 4, 0, []) by decide +kernel) ?_
      exact e_reti (show am_cd 112 90 = (36, 91, 0, 0, []) by decide +kernel) (by decide +kernel) h
    · replace h := h.2 hc
      refine e_ldi (show am_cd 112 20 = (2, 21, 3, 0, []) by decide +kernel) rfl ?_
      refine e_ic (show am_cd 112 21 = (0, 23, 1, 20, []) by decide +kernel) ?_
      refine e_cmp1 (show am_cd 112 23 = (11, 26, 38, 1, []) by decide +kernel) (fun hc => ?_) (fun hc => ?_)
      · replace h := h.1 hc
        refine e_ic (show am_cd 112 38 = (0, 39, 0, 0, []) by decide +kernel) ?_
        exact e_reti (show am_cd 112 39 = (36, 40, 0, 0, []) by decide +kernel) (by decide +kernel) h
      · replace h := h.2 hc
        refine e_lda (v := 53) (show am_cd 112 26 = (2, 27, 0, 2, []) by decide +kernel) rfl ?_
        refine e_getr (a := 53) (r := 8) (show am_cd 112 27 = (18, 30, 1001, 2, [22]) by decide +kernel) (by decide +kernel) (by decide +kernel) rfl ?_
        refine e_getf (a := 8) (tg := 0) (show am_cd 112 30 = (18, 33, 8, 0, [137]) by decide +kernel) (by decide +kernel) (by decide +kernel) rfl ?_
        refine e_ldi (show am_cd 112 33 = (2, 34, 2, 0, []) by decide +kernel) rfl ?_
        refine e_iand (show am_cd 112 34 = (5, 35, 3, 0, []) by decide +kernel) ?_
        refine e_go (show am_cd 112 35 = (12, 39, 0, 0, []) by decide +kernel) ?_
        exact e_reti (show am_cd 112 39 = (36, 40, 0, 0, []) by decide +kernel) (by decide +kernel) h

theorem g_pa {d : Nat} {Q : Option aV → aS → Prop} {w : eW} {t : eT} {s : Int} {m : eW} (h : ((w32 (w 53 8) = 0 → ((w32 s ≤ 0 → Q (some (0, 0)) (enc w t)) ∧ (¬ (w32 s ≤ 0) → (AC w m ∧ WFp m) ∧ (Q (some (0, ((2 ^ nP m - 1 : Nat) : Int))) (enc w t))))) ∧ (w32 (w 53 8) = 1 → ((w32 s ≤ w32 1 → Q (some (0, 0)) (enc w t)) ∧ (¬ (w32 s ≤ w32 1) → (AC w m ∧ WFp m) ∧ (Q (some (0, ((2 ^ nP m - 1 : Nat) : Int))) (enc w t))))) ∧ (w32 (w 53 8) = 2 → ((w32 (w 2 8) ≤ w32 s → Q (some (0, ior 0 (w 8 8))) (enc w t)) ∧ (¬ (w32 (w 2 8) ≤ w32 s) → (0 ≤ w32 s ∧ w32 s < 6) ∧ (0 ≤ w32 (w 6 (w32 s).toNat) ∧ w32 (w 6 (w32 s).toNat) < 28) ∧ (Q (some (0, ior (w 11 (w32 (w 6 (w32 s).toNat)).toNat) (w 8 8))) (enc w t))))) ∧ (w32 (w 53 8) = 3 → Cl (d + 4) 111 [rA 53, (0, idiv s 7), (0, irem s 7)] (enc w t) (fun r S2 => (∀ x, r ≠ some (6, x)) ∧ Ev (d + 5) 108 Q 95 [rA 53, (0, s)] (r.toList ++ []) S2)) ∧ ((w32 (w 53 8) < 0 ∨ 4 ≤ w32 (w 53 8)) → Cl (d + 4) 112 [rA 53, (0, s)] (enc w t) (fun r S2 => (∀ x, r ≠ some (6, x)) ∧ Ev (d + 5) 108 Q 101 [rA 53, (0, s)] (r.toList ++ []) S2)))) : Cl (d + 5) 108 [rA 53, (0, s)] (enc w t) Q := by
  show Ev (d + 5) 108 Q 0 [rA 53, (0, s)] [] (enc w t)
  refine e_lda (v := 53) (show am_cd 108 0 = (2, 1, 0, 2, []) by decide +kernel) rfl ?_
  refine e_getf (a := 53) (tg := 0) (show am_cd 108 1 = (18, 4, 1008, 0, [42]) by decide +kernel) (by decide +kernel) (by decide +kernel) rfl ?_
  refine e_tsw (x := w 53 8) (show am_cd 108 4 = (30, 96, 32, 0, [36, 52, 69, 83]) by decide +kernel) (fun i tg hi hx => ?_) (fun hx => ?_)
  · match i, hi with
    | 0, hi =>
      cases hi
      replace h := h.1 (by omega)
      refine e_ldi (show am_cd 108 36 = (2, 37, 1, 0, []) by decide +kernel) rfl ?_
      refine e_if5 (show am_cd 108 37 = (10, 40, 50, 5, []) by decide +kernel) (fun hc => ?_) (fun hc => ?_)
      · replace h := h.1 hc
        refine e_ic (show am_cd 108 50 = (0, 51, 0, 0, []) by decide +kernel) ?_
        exact e_reti (show am_cd 108 51 = (36, 52, 0, 0, []) by decide +kernel) (by decide +kernel) h
      · replace h := h.2 hc
        refine e_lda (v := 53) (show am_cd 108 40 = (2, 41, 0, 2, []) by decide +kernel) rfl ?_
        refine e_getr (a := 53) (r := 8) (show am_cd 108 41 = (18, 44, 1001, 2, [22]) by decide +kernel) (by decide +kernel) (by decide +kernel) rfl ?_
        refine e_cV (z := 0) (a := 8) (as := []) (rest := []) (show am_cd 108 44 = (40, 47, 2, 0, [128]) by decide +kernel) (by decide +kernel) rfl rfl (Nat.le_of_ble_eq_true rfl) rfl ?_
        refine Cl.mono (Cl.up (c_allP (m := m) (d := d) h.1) (by omega)) ?_
        rintro _ _ ⟨rfl, rfl⟩
        refine ⟨fun _ h9 => (by cases h9), ?_⟩
        replace h := h.2
        show Ev _ 108 _ 47 [rA 53, (0, s)] [(0, ((2 ^ nP m - 1 : Nat) : Int))] _
        refine e_go (show am_cd 108 47 = (12, 51, 0, 0, []) by decide +kernel) ?_
        exact e_reti (show am_cd 108 51 = (36, 52, 0, 0, []) by decide +kernel) (by decide +kernel) h
    | 1, hi =>
      cases hi
      replace h := h.2.1 (by omega)
      refine e_ldi (show am_cd 108 52 = (2, 53, 1, 0, []) by decide +kernel) rfl ?_
      refine e_ic (show am_cd 108 53 = (0, 54, 0, 1, []) by decide +kernel) ?_
      refine e_cmp5 (show am_cd 108 54 = (11, 57, 67, 5, []) by decide +kernel) (fun hc => ?_) (fun hc => ?_)
      · replace h := h.1 hc
        refine e_ic (show am_cd 108 67 = (0, 68, 0, 0, []) by decide +kernel) ?_
        exact e_reti (show am_cd 108 68 = (36, 69, 0, 0, []) by decide +kernel) (by decide +kernel) h
      · replace h := h.2 hc
        refine e_lda (v := 53) (show am_cd 108 57 = (2, 58, 0, 2, []) by decide +kernel) rfl ?_
        refine e_getr (a := 53) (r := 8) (show am_cd 108 58 = (18, 61, 1001, 2, [22]) by decide +kernel) (by decide +kernel) (by decide +kernel) rfl ?_
        refine e_cV (z := 0) (a := 8) (as := []) (rest := []) (show am_cd 108 61 = (40, 64, 2, 0, [128]) by decide +kernel) (by decide +kernel) rfl rfl (Nat.le_of_ble_eq_true rfl) rfl ?_
        refine Cl.mono (Cl.up (c_allP (m := m) (d := d) h.1) (by omega)) ?_
        rintro _ _ ⟨rfl, rfl⟩
        refine ⟨fun _ h9 => (by cases h9), ?_⟩
        replace h := h.2
        show Ev _ 108 _ 64 [rA 53, (0, s)] [(0, ((2 ^ nP m - 1 : Nat) : Int))] _
        refine e_go (show am_cd 108 64 = (12, 68, 0, 0, []) by decide +kernel) ?_
        exact e_reti (show am_cd 108 68 = (36, 69, 0, 0, []) by decide +kernel) (by decide +kernel) h
    | 2, hi =>
      cases hi
      replace h := h.2.2.1 (by omega)
      refine e_lda (v := 53) (show am_cd 108 69 = (2, 70, 0, 2, []) by decide +kernel) rfl ?_
      refine e_ldi (show am_cd 108 70 = (2, 71, 1, 0, []) by decide +kernel) rfl ?_
      refine e_cV (z := 0) (a := 53) (as := [(0, s)]) (rest := []) (show am_cd 108 71 = (40, 74, 109, 0, [134]) by decide +kernel) (by decide +kernel) rfl rfl (Nat.le_of_ble_eq_true rfl) rfl ?_
      show Ev _ 109 _ 0 [rA 53, (0, s)] [] _
      refine e_ldi (show am_cd 109 0 = (2, 1, 1, 0, []) by decide +kernel) rfl ?_
      refine e_lda (v := 53) (show am_cd 109 1 = (2, 2, 0, 2, []) by decide +kernel) rfl ?_
      refine e_getr (a := 53) (r := 2) (show am_cd 109 2 = (18, 5, 1000, 2, [18]) by decide +kernel) (by decide +kernel) (by decide +kernel) rfl ?_
      refine e_getf (a := 2) (tg := 0) (show am_cd 109 5 = (18, 8, 808, 0, [123]) by decide +kernel) (by decide +kernel) (by decide +kernel) rfl ?_
      refine e_cmp3 (show am_cd 109 8 = (11, 11, 31, 3, []) by decide +kernel) (fun hc => ?_) (fun hc => ?_)
      · replace h := h.1 hc
        refine e_ic (show am_cd 109 31 = (0, 32, 0, 0, []) by decide +kernel) ?_
        refine e_reti (show am_cd 109 32 = (36, 33, 0, 0, []) by decide +kernel) (by decide +kernel) ⟨fun _ h9 => (by cases h9), ?_⟩
        show Ev _ 108 _ 74 [rA 53, (0, s)] [(0, 0)] _
        refine e_lda (v := 53) (show am_cd 108 74 = (2, 75, 0, 2, []) by decide +kernel) rfl ?_
        refine e_getr (a := 53) (r := 8) (show am_cd 108 75 = (18, 78, 1001, 2, [22]) by decide +kernel) (by decide +kernel) (by decide +kernel) rfl ?_
        refine e_getf (a := 8) (tg := 0) (show am_cd 108 78 = (18, 81, 8, 0, [137]) by decide +kernel) (by decide +kernel) (by decide +kernel) rfl ?_
        refine e_ior (show am_cd 108 81 = (5, 82, 4, 0, []) by decide +kernel) ?_
        exact e_reti (show am_cd 108 82 = (36, 83, 0, 0, []) by decide +kernel) (by decide +kernel) h
      · replace h := h.2 hc
        refine e_lda (v := 53) (show am_cd 109 11 = (2, 12, 0, 2, []) by decide +kernel) rfl ?_
        refine e_getr (a := 53) (r := 8) (show am_cd 109 12 = (18, 15, 1001, 2, [22]) by decide +kernel) (by decide +kernel) (by decide +kernel) rfl ?_
        refine e_getr (a := 8) (r := 11) (show am_cd 109 15 = (18, 18, 2, 2, [146]) by decide +kernel) (by decide +kernel) (by decide +kernel) rfl ?_
        refine e_lda (v := 53) (show am_cd 109 18 = (2, 19, 0, 2, []) by decide +kernel) rfl ?_
        refine e_getr (a := 53) (r := 2) (show am_cd 109 19 = (18, 22, 1000, 2, [18]) by decide +kernel) (by decide +kernel) (by decide +kernel) rfl ?_
        refine e_getr (a := 2) (r := 6) (show am_cd 109 22 = (18, 25, 803, 2, [149]) by decide +kernel) (by decide +kernel) (by decide +kernel) rfl ?_
        refine e_ldi (show am_cd 109 25 = (2, 26, 1, 0, []) by decide +kernel) rfl ?_
        refine e_iald (a := 6) (n := 6) (show am_cd 109 26 = (21, 27, 0, 0, []) by decide +kernel) (by decide +kernel) (by decide +kernel) (by decide +kernel) h.1 ?_
        replace h := h.2
        refine e_iald (a := 11) (n := 28) (show am_cd 109 27 = (21, 28, 0, 0, []) by decide +kernel) (by decide +kernel) (by decide +kernel) (by decide +kernel) h.1 ?_
        replace h := h.2
        refine e_go (show am_cd 109 28 = (12, 32, 0, 0, []) by decide +kernel) ?_
        refine e_reti (show am_cd 109 32 = (36, 33, 0, 0, []) by decide +kernel) (by decide +kernel) ⟨fun _ h9 => (by cases h9), ?_⟩
        show Ev _ 108 _ 74 [rA 53, (0, s)] [(0, w 11 (w32 (w 6 (w32 s).toNat)).toNat)] _
        refine e_lda (v := 53) (show am_cd 108 74 = (2, 75, 0, 2, []) by decide +kernel) rfl ?_
        refine e_getr (a := 53) (r := 8) (show am_cd 108 75 = (18, 78, 1001, 2, [22]) by decide +kernel) (by decide +kernel) (by decide +kernel) rfl ?_
        refine e_getf (a := 8) (tg := 0) (show am_cd 108 78 = (18, 81, 8, 0, [137]) by decide +kernel) (by decide +kernel) (by decide +kernel) rfl ?_
        refine e_ior (show am_cd 108 81 = (5, 82, 4, 0, []) by decide +kernel) ?_
        exact e_reti (show am_cd 108 82 = (36, 83, 0, 0, []) by decide +kernel) (by decide +kernel) h
    | 3, hi =>
      cases hi
      replace h := h.2.2.2.1 (by omega)
      refine e_lda (v := 53) (show am_cd 108 83 = (2, 84, 0, 2, []) by decide +kernel) rfl ?_
      refine e_ldi (show am_cd 108 84 = (2, 85, 1, 0, []) by decide +kernel) rfl ?_
      refine e_ic (show am_cd 108 85 = (0, 87, 1, 7, []) by decide +kernel) ?_
      refine e_idiv (show am_cd 108 87 = (5, 88, 9, 0, []) by decide +kernel) (by decide) ?_
      refine e_ldi (show am_cd 108 88 = (2, 89, 1, 0, []) by decide +kernel) rfl ?_
      refine e_ic (show am_cd 108 89 = (0, 91, 1, 7, []) by decide +kernel) ?_
      refine e_irem (show am_cd 108 91 = (5, 92, 10, 0, []) by decide +kernel) (by decide) ?_
      refine e_cV (z := 0) (a := 53) (as := [(0, idiv s 7), (0, irem s 7)]) (rest := []) (show am_cd 108 92 = (40, 95, 111, 0, [140]) by decide +kernel) (by decide +kernel) rfl rfl (Nat.le_of_ble_eq_true rfl) rfl ?_
      exact h
    | i + 4, hi => cases hi
  · replace h := h.2.2.2.2 (by simp only [List.length_cons, List.length_nil] at hx; omega)
    refine e_lda (v := 53) (show am_cd 108 96 = (2, 97, 0, 2, []) by decide +kernel) rfl ?_
    refine e_ldi (show am_cd 108 97 = (2, 98, 1, 0, []) by decide +kernel) rfl ?_
    refine e_cV (z := 0) (a := 53) (as := [(0, s)]) (rest := []) (show am_cd 108 98 = (40, 101, 112, 0, [143]) by decide +kernel) (by decide +kernel) rfl rfl (Nat.le_of_ble_eq_true rfl) rfl ?_
    exact h

theorem g_sfb {d : Nat} {Q : Option aV → aS → Prop} {w : eW} {t : eT} {s p : Int} {m : eW} (h : (0 ≤ w32 p ∧ w32 p < 16) ∧ ((¬ w32 (w 10 (w32 p).toNat) = 0 → (AC w m ∧ WFp m ∧ ((0 : Int) ≤ p ∧ (p : Int) < 32)) ∧ (((isI m p.toNat) = true → Q (some (0, ((((((idiv s 294) * 6) + (irem (idiv s 49) 6)) * 7) + (irem (idiv s 7) 7)) * 7) + ((irem s 7) + 1))) (enc w t)) ∧ ((isI m p.toNat) = false → ((w32 16 ≤ w32 (idiv s 294) → Q (some (0, ((((((idiv s 294) * 6) + (irem (idiv s 49) 6)) * 7) + (irem (idiv s 7) 7)) * 7) + ((irem s 7) + 1))) (enc w t)) ∧ (¬ (w32 16 ≤ w32 (idiv s 294)) → (0 ≤ w32 (idiv s 294) ∧ w32 (idiv s 294) < 16) ∧ ((w32 (irem (idiv s 49) 6 + 1) < w32 (w 31 (w32 (idiv s 294)).toNat) → Q (some (0, ((((((idiv s 294) * 6) + (irem (idiv s 49) 6 + 1)) * 7) + (irem (idiv s 7) 7)) * 7) + ((irem s 7) + 1))) (enc w t)) ∧ (¬ (w32 (irem (idiv s 49) 6 + 1) < w32 (w 31 (w32 (idiv s 294)).toNat)) → (0 ≤ w32 (idiv s 294) ∧ w32 (idiv s 294) < 16) ∧ ((¬ w32 (w 30 (w32 (idiv s 294)).toNat) = w32 (-1) → (0 ≤ w32 (idiv s 294) ∧ w32 (idiv s 294) < 16) ∧ (Q (some (0, ((((((16 + (w 30 (w32 (idiv s 294)).toNat)) * 6) + 0) * 7) + (irem (idiv s 7) 7)) * 7) + ((irem s 7) + 1))) (enc w t))) ∧ (¬ (¬ w32 (w 30 (w32 (idiv s 294)).toNat) = w32 (-1)) → Q (some (0, ((840 + (irem (idiv s 7) 7)) * 7) + ((irem s 7) + 1))) (enc w t)))))))))) ∧ (¬ (¬ w32 (w 10 (w32 p).toNat) = 0) → (AC w m ∧ WFp m ∧ ((0 : Int) ≤ p ∧ (p : Int) < 32)) ∧ (((isI m p.toNat) = true → Q (some (0, ((((((idiv s 294) * 6) + (irem (idiv s 49) 6)) * 7) + (irem (idiv s 7) 7)) * 7) + ((irem s 7) + 0))) (enc w t)) ∧ ((isI m p.toNat) = false → ((w32 16 ≤ w32 (idiv s 294) → Q (some (0, ((((((idiv s 294) * 6) + (irem (idiv s 49) 6)) * 7) + (irem (idiv s 7) 7)) * 7) + ((irem s 7) + 0))) (enc w t)) ∧ (¬ (w32 16 ≤ w32 (idiv s 294)) → (0 ≤ w32 (idiv s 294) ∧ w32 (idiv s 294) < 16) ∧ ((w32 (irem (idiv s 49) 6 + 1) < w32 (w 31 (w32 (idiv s 294)).toNat) → Q (some (0, ((((((idiv s 294) * 6) + (irem (idiv s 49) 6 + 1)) * 7) + (irem (idiv s 7) 7)) * 7) + ((irem s 7) + 0))) (enc w t)) ∧ (¬ (w32 (irem (idiv s 49) 6 + 1) < w32 (w 31 (w32 (idiv s 294)).toNat)) → (0 ≤ w32 (idiv s 294) ∧ w32 (idiv s 294) < 16) ∧ ((¬ w32 (w 30 (w32 (idiv s 294)).toNat) = w32 (-1) → (0 ≤ w32 (idiv s 294) ∧ w32 (idiv s 294) < 16) ∧ (Q (some (0, ((((((16 + (w 30 (w32 (idiv s 294)).toNat)) * 6) + 0) * 7) + (irem (idiv s 7) 7)) * 7) + ((irem s 7) + 0))) (enc w t))) ∧ (¬ (¬ w32 (w 30 (w32 (idiv s 294)).toNat) = w32 (-1)) → Q (some (0, ((840 + (irem (idiv s 7) 7)) * 7) + ((irem s 7) + 0))) (enc w t)))))))))))) : Cl (d + 4) 114 [rA 53, (0, s), (0, p)] (enc w t) Q := by
  show Ev (d + 4) 114 Q 0 [rA 53, (0, s), (0, p), (9, 0), (9, 0), (9, 0)] [] (enc w t)
  refine e_ldi (show am_cd 114 0 = (2, 1, 1, 0, []) by decide +kernel) rfl ?_
  refine e_ic (show am_cd 114 1 = (0, 3, 1, 7, []) by decide +kernel) ?_
  refine e_irem (show am_cd 114 3 = (5, 4, 10, 0, []) by decide +kernel) (by decide) ?_
  refine e_lda (v := 53) (show am_cd 114 4 = (2, 5, 0, 2, []) by decide +kernel) rfl ?_
  refine e_getr (a := 53) (r := 8) (show am_cd 114 5 = (18, 8, 1001, 2, [22]) by decide +kernel) (by decide +kernel) (by decide +kernel) rfl ?_
  refine e_getr (a := 8) (r := 10) (show am_cd 114 8 = (18, 11, 1, 2, [169]) by decide +kernel) (by decide +kernel) (by decide +kernel) rfl ?_
  refine e_ldi (show am_cd 114 11 = (2, 12, 2, 0, []) by decide +kernel) rfl ?_
  refine e_iald (a := 10) (n := 16) (show am_cd 114 12 = (21, 13, 0, 0, []) by decide +kernel) (by decide +kernel) (by decide +kernel) (by decide +kernel) h.1 ?_
  replace h := h.2
  refine e_if1 (show am_cd 114 13 = (10, 16, 20, 1, []) by decide +kernel) (fun hc => ?_) (fun hc => ?_)
  · replace h := h.1 hc
    refine e_ic (show am_cd 114 20 = (0, 21, 0, 1, []) by decide +kernel) ?_
    refine e_iadd (show am_cd 114 21 = (5, 22, 0, 0, []) by decide +kernel) ?_
    refine e_sti (la2 := [rA 53, (0, s), (0, p), (0, (irem s 7) + 1), (9, 0), (9, 0)]) (show am_cd 114 22 = (3, 23, 3, 0, []) by decide +kernel) rfl ?_
    refine e_ldi (show am_cd 114 23 = (2, 24, 1, 0, []) by decide +kernel) rfl ?_
    refine e_cS (z := 0) (as := [(0, s)]) (rest := []) (show am_cd 114 24 = (40, 27, 118, 1, [107]) by decide +kernel) (by decide) rfl rfl (Nat.le_of_ble_eq_true rfl) rfl ?_
    show Ev _ 118 _ 0 [(0, s)] [] _
    refine e_ldi (show am_cd 118 0 = (2, 1, 0, 0, []) by decide +kernel) rfl ?_
    refine e_ic (show am_cd 118 1 = (0, 4, 2, 294, []) by decide +kernel) ?_
    refine e_idiv (show am_cd 118 4 = (5, 5, 9, 0, []) by decide +kernel) (by decide) ?_
    refine e_reti (show am_cd 118 5 = (36, 6, 0, 0, []) by decide +kernel) (by decide +kernel) ⟨fun _ h9 => (by cases h9), ?_⟩
    show Ev _ 114 _ 27 [rA 53, (0, s), (0, p), (0, (irem s 7) + 1), (9, 0), (9, 0)] [(0, idiv s 294)] _
    refine e_sti (la2 := [rA 53, (0, s), (0, p), (0, (irem s 7) + 1), (0, idiv s 294), (9, 0)]) (show am_cd 114 27 = (3, 29, 4, 0, []) by decide +kernel) rfl ?_
    refine e_ldi (show am_cd 114 29 = (2, 30, 1, 0, []) by decide +kernel) rfl ?_
    refine e_cS (z := 0) (as := [(0, s)]) (rest := []) (show am_cd 114 30 = (40, 33, 119, 1, [110]) by decide +kernel) (by decide) rfl rfl (Nat.le_of_ble_eq_true rfl) rfl ?_
    show Ev _ 119 _ 0 [(0, s)] [] _
    refine e_ldi (show am_cd 119 0 = (2, 1, 0, 0, []) by decide +kernel) rfl ?_
    refine e_ic (show am_cd 119 1 = (0, 3, 1, 49, []) by decide +kernel) ?_
    refine e_idiv (show am_cd 119 3 = (5, 4, 9, 0, []) by decide +kernel) (by decide) ?_
    refine e_ic (show am_cd 119 4 = (0, 6, 1, 6, []) by decide +kernel) ?_
    refine e_irem (show am_cd 119 6 = (5, 7, 10, 0, []) by decide +kernel) (by decide) ?_
    refine e_reti (show am_cd 119 7 = (36, 8, 0, 0, []) by decide +kernel) (by decide +kernel) ⟨fun _ h9 => (by cases h9), ?_⟩
    show Ev _ 114 _ 33 [rA 53, (0, s), (0, p), (0, (irem s 7) + 1), (0, idiv s 294), (9, 0)] [(0, irem (idiv s 49) 6)] _
    refine e_sti (la2 := [rA 53, (0, s), (0, p), (0, (irem s 7) + 1), (0, idiv s 294), (0, irem (idiv s 49) 6)]) (show am_cd 114 33 = (3, 35, 5, 0, []) by decide +kernel) rfl ?_
    refine e_lda (v := 53) (show am_cd 114 35 = (2, 36, 0, 2, []) by decide +kernel) rfl ?_
    refine e_getr (a := 53) (r := 8) (show am_cd 114 36 = (18, 39, 1001, 2, [22]) by decide +kernel) (by decide +kernel) (by decide +kernel) rfl ?_
    refine e_ldi (show am_cd 114 39 = (2, 40, 2, 0, []) by decide +kernel) rfl ?_
    refine e_cV (z := 0) (a := 8) (as := [(0, p)]) (rest := []) (show am_cd 114 40 = (40, 43, 3, 0, [166]) by decide +kernel) (by decide +kernel) rfl rfl (Nat.le_of_ble_eq_true rfl) rfl ?_
    refine Cl.mono (Cl.up (c_isIc (d := d) h.1) (by omega)) ?_
    rintro _ _ ⟨rfl, rfl⟩
    refine ⟨fun _ h9 => (by cases h9), ?_⟩
    replace h := h.2
    show Ev _ 114 _ 43 [rA 53, (0, s), (0, p), (0, (irem s 7) + 1), (0, idiv s 294), (0, irem (idiv s 49) 6)] [(0, bI (isI m p.toNat))] _
    refine e_ifb1 (show am_cd 114 43 = (10, 46, 108, 1, []) by decide +kernel) (fun hc => ?_) (fun hc => ?_)
    · replace h := h.1 hc
      refine e_ldi (show am_cd 114 108 = (2, 110, 4, 0, []) by decide +kernel) rfl ?_
      refine e_ldi (show am_cd 114 110 = (2, 112, 5, 0, []) by decide +kernel) rfl ?_
      refine e_ldi (show am_cd 114 112 = (2, 113, 1, 0, []) by decide +kernel) rfl ?_
      refine e_cS (z := 0) (as := [(0, s)]) (rest := [(0, irem (idiv s 49) 6), (0, idiv s 294)]) (show am_cd 114 113 = (40, 116, 120, 1, [181]) by decide +kernel) (by decide) rfl rfl (Nat.le_of_ble_eq_true rfl) rfl ?_
      show Ev _ 120 _ 0 [(0, s)] [] _
      refine e_ldi (show am_cd 120 0 = (2, 1, 0, 0, []) by decide +kernel) rfl ?_
      refine e_ic (show am_cd 120 1 = (0, 3, 1, 7, []) by decide +kernel) ?_
      refine e_idiv (show am_cd 120 3 = (5, 4, 9, 0, []) by decide +kernel) (by decide) ?_
      refine e_ic (show am_cd 120 4 = (0, 6, 1, 7, []) by decide +kernel) ?_
      refine e_irem (show am_cd 120 6 = (5, 7, 10, 0, []) by decide +kernel) (by decide) ?_
      refine e_reti (show am_cd 120 7 = (36, 8, 0, 0, []) by decide +kernel) (by decide +kernel) ⟨fun _ h9 => (by cases h9), ?_⟩
      show Ev _ 114 _ 116 [rA 53, (0, s), (0, p), (0, (irem s 7) + 1), (0, idiv s 294), (0, irem (idiv s 49) 6)] [(0, irem (idiv s 7) 7), (0, irem (idiv s 49) 6), (0, idiv s 294)] _
      refine e_ldi (show am_cd 114 116 = (2, 117, 3, 0, []) by decide +kernel) rfl ?_
      refine e_cS (z := 0) (as := [(0, idiv s 294), (0, irem (idiv s 49) 6), (0, irem (idiv s 7) 7), (0, (irem s 7) + 1)]) (rest := []) (show am_cd 114 117 = (40, 120, 117, 1, [184]) by decide +kernel) (by decide) rfl rfl (Nat.le_of_ble_eq_true rfl) rfl ?_
      show Ev _ 117 _ 0 [(0, idiv s 294), (0, irem (idiv s 49) 6), (0, irem (idiv s 7) 7), (0, (irem s 7) + 1)] [] _
      refine e_ldi (show am_cd 117 0 = (2, 1, 0, 0, []) by decide +kernel) rfl ?_
      refine e_ic (show am_cd 117 1 = (0, 3, 1, 6, []) by decide +kernel) ?_
      refine e_imul (show am_cd 117 3 = (5, 4, 2, 0, []) by decide +kernel) ?_
      refine e_ldi (show am_cd 117 4 = (2, 5, 1, 0, []) by decide +kernel) rfl ?_
      refine e_iadd (show am_cd 117 5 = (5, 6, 0, 0, []) by decide +kernel) ?_
      refine e_ic (show am_cd 117 6 = (0, 8, 1, 7, []) by decide +kernel) ?_
      refine e_imul (show am_cd 117 8 = (5, 9, 2, 0, []) by decide +kernel) ?_
      refine e_ldi (show am_cd 117 9 = (2, 10, 2, 0, []) by decide +kernel) rfl ?_
      refine e_iadd (show am_cd 117 10 = (5, 11, 0, 0, []) by decide +kernel) ?_
      refine e_ic (show am_cd 117 11 = (0, 13, 1, 7, []) by decide +kernel) ?_
      refine e_imul (show am_cd 117 13 = (5, 14, 2, 0, []) by decide +kernel) ?_
      refine e_ldi (show am_cd 117 14 = (2, 15, 3, 0, []) by decide +kernel) rfl ?_
      refine e_iadd (show am_cd 117 15 = (5, 16, 0, 0, []) by decide +kernel) ?_
      refine e_reti (show am_cd 117 16 = (36, 17, 0, 0, []) by decide +kernel) (by decide +kernel) ⟨fun _ h9 => (by cases h9), ?_⟩
      show Ev _ 114 _ 120 [rA 53, (0, s), (0, p), (0, (irem s 7) + 1), (0, idiv s 294), (0, irem (idiv s 49) 6)] [(0, ((((((idiv s 294) * 6) + (irem (idiv s 49) 6)) * 7) + (irem (idiv s 7) 7)) * 7) + ((irem s 7) + 1))] _
      exact e_reti (show am_cd 114 120 = (36, 121, 0, 0, []) by decide +kernel) (by decide +kernel) h
    · replace h := h.2 hc
      refine e_ldi (show am_cd 114 46 = (2, 48, 4, 0, []) by decide +kernel) rfl ?_
      refine e_ic (show am_cd 114 48 = (0, 50, 1, 16, []) by decide +kernel) ?_
      refine e_cmp3 (show am_cd 114 50 = (11, 53, 108, 3, []) by decide +kernel) (fun hc => ?_) (fun hc => ?_)
      · replace h := h.1 hc
        refine e_ldi (show am_cd 114 108 = (2, 110, 4, 0, []) by decide +kernel) rfl ?_
        refine e_ldi (show am_cd 114 110 = (2, 112, 5, 0, []) by decide +kernel) rfl ?_
        refine e_ldi (show am_cd 114 112 = (2, 113, 1, 0, []) by decide +kernel) rfl ?_
        refine e_cS (z := 0) (as := [(0, s)]) (rest := [(0, irem (idiv s 49) 6), (0, idiv s 294)]) (show am_cd 114 113 = (40, 116, 120, 1, [181]) by decide +kernel) (by decide) rfl rfl (Nat.le_of_ble_eq_true rfl) rfl ?_
        show Ev _ 120 _ 0 [(0, s)] [] _
        refine e_ldi (show am_cd 120 0 = (2, 1, 0, 0, []) by decide +kernel) rfl ?_
        refine e_ic (show am_cd 120 1 = (0, 3, 1, 7, []) by decide +kernel) ?_
        refine e_idiv (show am_cd 120 3 = (5, 4, 9, 0, []) by decide +kernel) (by decide) ?_
        refine e_ic (show am_cd 120 4 = (0, 6, 1, 7, []) by decide +kernel) ?_
        refine e_irem (show am_cd 120 6 = (5, 7, 10, 0, []) by decide +kernel) (by decide) ?_
        refine e_reti (show am_cd 120 7 = (36, 8, 0, 0, []) by decide +kernel) (by decide +kernel) ⟨fun _ h9 => (by cases h9), ?_⟩
        show Ev _ 114 _ 116 [rA 53, (0, s), (0, p), (0, (irem s 7) + 1), (0, idiv s 294), (0, irem (idiv s 49) 6)] [(0, irem (idiv s 7) 7), (0, irem (idiv s 49) 6), (0, idiv s 294)] _
        refine e_ldi (show am_cd 114 116 = (2, 117, 3, 0, []) by decide +kernel) rfl ?_
        refine e_cS (z := 0) (as := [(0, idiv s 294), (0, irem (idiv s 49) 6), (0, irem (idiv s 7) 7), (0, (irem s 7) + 1)]) (rest := []) (show am_cd 114 117 = (40, 120, 117, 1, [184]) by decide +kernel) (by decide) rfl rfl (Nat.le_of_ble_eq_true rfl) rfl ?_
        show Ev _ 117 _ 0 [(0, idiv s 294), (0, irem (idiv s 49) 6), (0, irem (idiv s 7) 7), (0, (irem s 7) + 1)] [] _
        refine e_ldi (show am_cd 117 0 = (2, 1, 0, 0, []) by decide +kernel) rfl ?_
        refine e_ic (show am_cd 117 1 = (0, 3, 1, 6, []) by decide +kernel) ?_
        refine e_imul (show am_cd 117 3 = (5, 4, 2, 0, []) by decide +kernel) ?_
        refine e_ldi (show am_cd 117 4 = (2, 5, 1, 0, []) by decide +kernel) rfl ?_
        refine e_iadd (show am_cd 117 5 = (5, 6, 0, 0, []) by decide +kernel) ?_
        refine e_ic (show am_cd 117 6 = (0, 8, 1, 7, []) by decide +kernel) ?_
        refine e_imul (show am_cd 117 8 = (5, 9, 2, 0, []) by decide +kernel) ?_
        refine e_ldi (show am_cd 117 9 = (2, 10, 2, 0, []) by decide +kernel) rfl ?_
        refine e_iadd (show am_cd 117 10 = (5, 11, 0, 0, []) by decide +kernel) ?_
        refine e_ic (show am_cd 117 11 = (0, 13, 1, 7, []) by decide +kernel) ?_
        refine e_imul (show am_cd 117 13 = (5, 14, 2, 0, []) by decide +kernel) ?_
        refine e_ldi (show am_cd 117 14 = (2, 15, 3, 0, []) by decide +kernel) rfl ?_
        refine e_iadd (show am_cd 117 15 = (5, 16, 0, 0, []) by decide +kernel) ?_
        refine e_reti (show am_cd 117 16 = (36, 17, 0, 0, []) by decide +kernel) (by decide +kernel) ⟨fun _ h9 => (by cases h9), ?_⟩
        show Ev _ 114 _ 120 [rA 53, (0, s), (0, p), (0, (irem s 7) + 1), (0, idiv s 294), (0, irem (idiv s 49) 6)] [(0, ((((((idiv s 294) * 6) + (irem (idiv s 49) 6)) * 7) + (irem (idiv s 7) 7)) * 7) + ((irem s 7) + 1))] _
        exact e_reti (show am_cd 114 120 = (36, 121, 0, 0, []) by decide +kernel) (by decide +kernel) h
      · replace h := h.2 hc
        refine e_inc (la2 := [rA 53, (0, s), (0, p), (0, (irem s 7) + 1), (0, idiv s 294), (0, irem (idiv s 49) 6 + 1)]) (show am_cd 114 53 = (4, 56, 5, 1, []) by decide +kernel) rfl rfl ?_
        refine e_ldi (show am_cd 114 56 = (2, 58, 5, 0, []) by decide +kernel) rfl ?_
        refine e_lda (v := 53) (show am_cd 114 58 = (2, 59, 0, 2, []) by decide +kernel) rfl ?_
        refine e_getr (a := 53) (r := 28) (show am_cd 114 59 = (18, 62, 1002, 2, [26]) by decide +kernel) (by decide +kernel) (by decide +kernel) rfl ?_
        refine e_getr (a := 28) (r := 31) (show am_cd 114 62 = (18, 65, 302, 2, [175]) by decide +kernel) (by decide +kernel) (by decide +kernel) rfl ?_
        refine e_ldi (show am_cd 114 65 = (2, 67, 4, 0, []) by decide +kernel) rfl ?_
        refine e_iald (a := 31) (n := 16) (show am_cd 114 67 = (21, 68, 0, 0, []) by decide +kernel) (by decide +kernel) (by decide +kernel) (by decide +kernel) h.1 ?_
        replace h := h.2
        refine e_cmp2 (show am_cd 114 68 = (11, 71, 108, 2, []) by decide +kernel) (fun hc => ?_) (fun hc => ?_)
        · replace h := h.1 hc
          refine e_ldi (show am_cd 114 108 = (2, 110, 4, 0, []) by decide +kernel) rfl ?_
          refine e_ldi (show am_cd 114 110 = (2, 112, 5, 0, []) by decide +kernel) rfl ?_
          refine e_ldi (show am_cd 114 112 = (2, 113, 1, 0, []) by decide +kernel) rfl ?_
          refine e_cS (z := 0) (as := [(0, s)]) (rest := [(0, irem (idiv s 49) 6 + 1), (0, idiv s 294)]) (show am_cd 114 113 = (40, 116, 120, 1, [181]) by decide +kernel) (by decide) rfl rfl (Nat.le_of_ble_eq_true rfl) rfl ?_
          show Ev _ 120 _ 0 [(0, s)] [] _
          refine e_ldi (show am_cd 120 0 = (2, 1, 0, 0, []) by decide +kernel) rfl ?_
          refine e_ic (show am_cd 120 1 = (0, 3, 1, 7, []) by decide +kernel) ?_
          refine e_idiv (show am_cd 120 3 = (5, 4, 9, 0, []) by decide +kernel) (by decide) ?_
          refine e_ic (show am_cd 120 4 = (0, 6, 1, 7, []) by decide +kernel) ?_
          refine e_irem (show am_cd 120 6 = (5, 7, 10, 0, []) by decide +kernel) (by decide) ?_
          refine e_reti (show am_cd 120 7 = (36, 8, 0, 0, []) by decide +kernel) (by decide +kernel) ⟨fun _ h9 => (by cases h9), ?_⟩
          show Ev _ 114 _ 116 [rA 53, (0, s), (0, p), (0, (irem s 7) + 1), (0, idiv s 294), (0, irem (idiv s 49) 6 + 1)] [(0, irem (idiv s 7) 7), (0, irem (idiv s 49) 6 + 1), (0, idiv s 294)] _
          refine e_ldi (show am_cd 114 116 = (2, 117, 3, 0, []) by decide +kernel) rfl ?_
          refine e_cS (z := 0) (as := [(0, idiv s 294), (0, irem (idiv s 49) 6 + 1), (0, irem (idiv s 7) 7), (0, (irem s 7) + 1)]) (rest := []) (show am_cd 114 117 = (40, 120, 117, 1, [184]) by decide +kernel) (by decide) rfl rfl (Nat.le_of_ble_eq_true rfl) rfl ?_
          show Ev _ 117 _ 0 [(0, idiv s 294), (0, irem (idiv s 49) 6 + 1), (0, irem (idiv s 7) 7), (0, (irem s 7) + 1)] [] _
          refine e_ldi (show am_cd 117 0 = (2, 1, 0, 0, []) by decide +kernel) rfl ?_
          refine e_ic (show am_cd 117 1 = (0, 3, 1, 6, []) by decide +kernel) ?_
          refine e_imul (show am_cd 117 3 = (5, 4, 2, 0, []) by decide +kernel) ?_
          refine e_ldi (show am_cd 117 4 = (2, 5, 1, 0, []) by decide +kernel) rfl ?_
          refine e_iadd (show am_cd 117 5 = (5, 6, 0, 0, []) by decide +kernel) ?_
          refine e_ic (show am_cd 117 6 = (0, 8, 1, 7, []) by decide +kernel) ?_
          refine e_imul (show am_cd 117 8 = (5, 9, 2, 0, []) by decide +kernel) ?_
          refine e_ldi (show am_cd 117 9 = (2, 10, 2, 0, []) by decide +kernel) rfl ?_
          refine e_iadd (show am_cd 117 10 = (5, 11, 0, 0, []) by decide +kernel) ?_
          refine e_ic (show am_cd 117 11 = (0, 13, 1, 7, []) by decide +kernel) ?_
          refine e_imul (show am_cd 117 13 = (5, 14, 2, 0, []) by decide +kernel) ?_
          refine e_ldi (show am_cd 117 14 = (2, 15, 3, 0, []) by decide +kernel) rfl ?_
          refine e_iadd (show am_cd 117 15 = (5, 16, 0, 0, []) by decide +kernel) ?_
          refine e_reti (show am_cd 117 16 = (36, 17, 0, 0, []) by decide +kernel) (by decide +kernel) ⟨fun _ h9 => (by cases h9), ?_⟩
          show Ev _ 114 _ 120 [rA 53, (0, s), (0, p), (0, (irem s 7) + 1), (0, idiv s 294), (0, irem (idiv s 49) 6 + 1)] [(0, ((((((idiv s 294) * 6) + (irem (idiv s 49) 6 + 1)) * 7) + (irem (idiv s 7) 7)) * 7) + ((irem s 7) + 1))] _
          exact e_reti (show am_cd 114 120 = (36, 121, 0, 0, []) by decide +kernel) (by decide +kernel) h
        · replace h := h.2 hc
          refine e_ic (show am_cd 114 71 = (0, 72, 0, 0, []) by decide +kernel) ?_
          refine e_sti (la2 := [rA 53, (0, s), (0, p), (0, (irem s 7) + 1), (0, idiv s 294), (0, 0)]) (show am_cd 114 72 = (3, 74, 5, 0, []) by decide +kernel) rfl ?_
          refine e_lda (v := 53) (show am_cd 114 74 = (2, 75, 0, 2, []) by decide +kernel) rfl ?_
          refine e_getr (a := 53) (r := 28) (show am_cd 114 75 = (18, 78, 1002, 2, [26]) by decide +kernel) (by decide +kernel) (by decide +kernel) rfl ?_
          refine e_getr (a := 28) (r := 30) (show am_cd 114 78 = (18, 81, 301, 2, [178]) by decide +kernel) (by decide +kernel) (by decide +kernel) rfl ?_
          refine e_ldi (show am_cd 114 81 = (2, 83, 4, 0, []) by decide +kernel) rfl ?_
          refine e_iald (a := 30) (n := 16) (show am_cd 114 83 = (21, 84, 0, 0, []) by decide +kernel) (by decide +kernel) (by decide +kernel) (by decide +kernel) h.1 ?_
          replace h := h.2
          refine e_ic (show am_cd 114 84 = (0, 85, 0, -1, []) by decide +kernel) ?_
          refine e_cmp1 (show am_cd 114 85 = (11, 88, 93, 1, []) by decide +kernel) (fun hc => ?_) (fun hc => ?_)
          · replace h := h.1 hc
            refine e_ic (show am_cd 114 93 = (0, 95, 1, 16, []) by decide +kernel) ?_
            refine e_lda (v := 53) (show am_cd 114 95 = (2, 96, 0, 2, []) by decide +kernel) rfl ?_
            refine e_getr (a := 53) (r := 28) (show am_cd 114 96 = (18, 99, 1002, 2, [26]) by decide +kernel) (by decide +kernel) (by decide +kernel) rfl ?_
            refine e_getr (a := 28) (r := 30) (show am_cd 114 99 = (18, 102, 301, 2, [178]) by decide +kernel) (by decide +kernel) (by decide +kernel) rfl ?_
            refine e_ldi (show am_cd 114 102 = (2, 104, 4, 0, []) by decide +kernel) rfl ?_
            refine e_iald (a := 30) (n := 16) (show am_cd 114 104 = (21, 105, 0, 0, []) by decide +kernel) (by decide +kernel) (by decide +kernel) (by decide +kernel) h.1 ?_
            replace h := h.2
            refine e_iadd (show am_cd 114 105 = (5, 106, 0, 0, []) by decide +kernel) ?_
            refine e_sti (la2 := [rA 53, (0, s), (0, p), (0, (irem s 7) + 1), (0, 16 + (w 30 (w32 (idiv s 294)).toNat)), (0, 0)]) (show am_cd 114 106 = (3, 108, 4, 0, []) by decide +kernel) rfl ?_
            refine e_ldi (show am_cd 114 108 = (2, 110, 4, 0, []) by decide +kernel) rfl ?_
            refine e_ldi (show am_cd 114 110 = (2, 112, 5, 0, []) by decide +kernel) rfl ?_
            refine e_ldi (show am_cd 114 112 = (2, 113, 1, 0, []) by decide +kernel) rfl ?_
            refine e_cS (z := 0) (as := [(0, s)]) (rest := [(0, 0), (0, 16 + (w 30 (w32 (idiv s 294)).toNat))]) (show am_cd 114 113 = (40, 116, 120, 1, [181]) by decide +kernel) (by decide) rfl rfl (Nat.le_of_ble_eq_true rfl) rfl ?_
            show Ev _ 120 _ 0 [(0, s)] [] _
            refine e_ldi (show am_cd 120 0 = (2, 1, 0, 0, []) by decide +kernel) rfl ?_
            refine e_ic (show am_cd 120 1 = (0, 3, 1, 7, []) by decide +kernel) ?_
            refine e_idiv (show am_cd 120 3 = (5, 4, 9, 0, []) by decide +kernel) (by decide) ?_
            refine e_ic (show am_cd 120 4 = (0, 6, 1, 7, []) by decide +kernel) ?_
            refine e_irem (show am_cd 120 6 = (5, 7, 10, 0, []) by decide +kernel) (by decide) ?_
            refine e_reti (show am_cd 120 7 = (36, 8, 0, 0, []) by decide +kernel) (by decide +kernel) ⟨fun _ h9 => (by cases h9), ?_⟩
            show Ev _ 114 _ 116 [rA 53, (0, s), (0, p), (0, (irem s 7) + 1), (0, 16 + (w 30 (w32 (idiv s 294)).toNat)), (0, 0)] [(0, irem (idiv s 7) 7), (0, 0), (0, 16 + (w 30 (w32 (idiv s 294)).toNat))] _
            refine e_ldi (show am_cd 114 116 = (2, 117, 3, 0, []) by decide +kernel) rfl ?_
            refine e_cS (z := 0) (as := [(0, 16 + (w 30 (w32 (idiv s 294)).toNat)), (0, 0), (0, irem (idiv s 7) 7), (0, (irem s 7) + 1)]) (rest := []) (show am_cd 114 117 = (40, 120, 117, 1, [184]) by decide +kernel) (by decide) rfl rfl (Nat.le_of_ble_eq_true rfl) rfl ?_
            show Ev _ 117 _ 0 [(0, 16 + (w 30 (w32 (idiv s 294)).toNat)), (0, 0), (0, irem (idiv s 7) 7), (0, (irem s 7) + 1)] [] _
            refine e_ldi (show am_cd 117 0 = (2, 1, 0, 0, []) by decide +kernel) rfl ?_
            refine e_ic (show am_cd 117 1 = (0, 3, 1, 6, []) by decide +kernel) ?_
            refine e_imul (show am_cd 117 3 = (5, 4, 2, 0, []) by decide +kernel) ?_
            refine e_ldi (show am_cd 117 4 = (2, 5, 1, 0, []) by decide +kernel) rfl ?_
            refine e_iadd (show am_cd 117 5 = (5, 6, 0, 0, []) by decide +kernel) ?_
            refine e_ic (show am_cd 117 6 = (0, 8, 1, 7, []) by decide +kernel) ?_
            refine e_imul (show am_cd 117 8 = (5, 9, 2, 0, []) by decide +kernel) ?_
            refine e_ldi (show am_cd 117 9 = (2, 10, 2, 0, []) by decide +kernel) rfl ?_
            refine e_iadd (show am_cd 117 10 = (5, 11, 0, 0, []) by decide +kernel) ?_
            refine e_ic (show am_cd 117 11 = (0, 13, 1, 7, []) by decide +kernel) ?_
            refine e_imul (show am_cd 117 13 = (5, 14, 2, 0, []) by decide +kernel) ?_
            refine e_ldi (show am_cd 117 14 = (2, 15, 3, 0, []) by decide +kernel) rfl ?_
            refine e_iadd (show am_cd 117 15 = (5, 16, 0, 0, []) by decide +kernel) ?_
            refine e_reti (show am_cd 117 16 = (36, 17, 0, 0, []) by decide +kernel) (by decide +kernel) ⟨fun _ h9 => (by cases h9), ?_⟩
            show Ev _ 114 _ 120 [rA 53, (0, s), (0, p), (0, (irem s 7) + 1), (0, 16 + (w 30 (w32 (idiv s 294)).toNat)), (0, 0)] [(0, ((((((16 + (w 30 (w32 (idiv s 294)).toNat)) * 6) + 0) * 7) + (irem (idiv s 7) 7)) * 7) + ((irem s 7) + 1))] _
            exact e_reti (show am_cd 114 120 = (36, 121, 0, 0, []) by decide +kernel) (by decide +kernel) h
          · replace h := h.2 hc
            refine e_ic (show am_cd 114 88 = (0, 90, 1, 20, []) by decide +kernel) ?_
            refine e_go (show am_cd 114 90 = (12, 106, 0, 0, []) by decide +kernel) ?_
            refine e_sti (la2 := [rA 53, (0, s), (0, p), (0, (irem s 7) + 1), (0, 20), (0, 0)]) (show am_cd 114 106 = (3, 108, 4, 0, []) by decide +kernel) rfl ?_
            refine e_ldi (show am_cd 114 108 = (2, 110, 4, 0, []) by decide +kernel) rfl ?_
            refine e_ldi (show am_cd 114 110 = (2, 112, 5, 0, []) by decide +kernel) rfl ?_
            refine e_ldi (show am_cd 114 112 = (2, 113, 1, 0, []) by decide +kernel) rfl ?_
            refine e_cS (z := 0) (as := [(0, s)]) (rest := [(0, 0), (0, 20)]) (show am_cd 114 113 = (40, 116, 120, 1, [181]) by decide +kernel) (by decide) rfl rfl (Nat.le_of_ble_eq_true rfl) rfl ?_
            show Ev _ 120 _ 0 [(0, s)] [] _
            refine e_ldi (show am_cd 120 0 = (2, 1, 0, 0, []) by decide +kernel) rfl ?_
            refine e_ic (show am_cd 120 1 = (0, 3, 1, 7, []) by decide +kernel) ?_
            refine e_idiv (show am_cd 120 3 = (5, 4, 9, 0, []) by decide +kernel) (by decide) ?_
            refine e_ic (show am_cd 120 4 = (0, 6, 1, 7, []) by decide +kernel) ?_
            refine e_irem (show am_cd 120 6 = (5, 7, 10, 0, []) by decide +kernel) (by decide) ?_
            refine e_reti (show am_cd 120 7 = (36, 8, 0, 0, []) by decide +kernel) (by decide +kernel) ⟨fun _ h9 => (by cases h9), ?_⟩
            show Ev _ 114 _ 116 [rA 53, (0, s), (0, p), (0, (irem s 7) + 1), (0, 20), (0, 0)] [(0, irem (idiv s 7) 7), (0, 0), (0, 20)] _
            refine e_ldi (show am_cd 114 116 = (2, 117, 3, 0, []) by decide +kernel) rfl ?_
            refine e_cS (z := 0) (as := [(0, 20), (0, 0), (0, irem (idiv s 7) 7), (0, (irem s 7) + 1)]) (rest := []) (show am_cd 114 117 = (40, 120, 117, 1, [184]) by decide +kernel) (by decide) rfl rfl (Nat.le_of_ble_eq_true rfl) rfl ?_
            show Ev _ 117 _ 0 [(0, 20), (0, 0), (0, irem (idiv s 7) 7), (0, (irem s 7) + 1)] [] _
            refine e_ldi (show am_cd 117 0 = (2, 1, 0, 0, []) by decide +kernel) rfl ?_
            refine e_ic (show am_cd 117 1 = (0, 3, 1, 6, []) by decide +kernel) ?_
            refine e_iok (r := 120) (show am_cd 117 3 = (5, 4, 2, 0, []) by decide +kernel) (by decide +kernel) (by decide +kernel) ?_
            refine e_ldi (show am_cd 117 4 = (2, 5, 1, 0, []) by decide +kernel) rfl ?_
            refine e_iok (r := 120) (show am_cd 117 5 = (5, 6, 0, 0, []) by decide +kernel) (by decide +kernel) (by decide +kernel) ?_
            refine e_ic (show am_cd 117 6 = (0, 8, 1, 7, []) by decide +kernel) ?_
            refine e_iok (r := 840) (show am_cd 117 8 = (5, 9, 2, 0, []) by decide +kernel) (by decide +kernel) (by decide +kernel) ?_
            refine e_ldi (show am_cd 117 9 = (2, 10, 2, 0, []) by decide +kernel) rfl ?_
            refine e_iadd (show am_cd 117 10 = (5, 11, 0, 0, []) by decide +kernel) ?_
            refine e_ic (show am_cd 117 11 = (0, 13, 1, 7, []) by decide +kernel) ?_
            refine e_imul (show am_cd 117 13 = (5, 14, 2, 0, []) by decide +kernel) ?_
            refine e_ldi (show am_cd 117 14 = (2, 15, 3, 0, []) by decide +kernel) rfl ?_
            refine e_iadd (show am_cd 117 15 = (5, 16, 0, 0, []) by decide +kernel) ?_
            refine e_reti (show am_cd 117 16 = (36, 17, 0, 0, []) by decide +kernel) (by decide +kernel) ⟨fun _ h9 => (by cases h9), ?_⟩
            show Ev _ 114 _ 120 [rA 53, (0, s), (0, p), (0, (irem s 7) + 1), (0, 20), (0, 0)] [(0, ((840 + (irem (idiv s 7) 7)) * 7) + ((irem s 7) + 1))] _
            exact e_reti (show am_cd 114 120 = (36, 121, 0, 0, []) by decide +kernel) (by decide +kernel) h
  · replace h := h.2 hc
    refine e_ic (show am_cd 114 16 = (0, 17, 0, 0, []) by decide +kernel) ?_
    refine e_go (show am_cd 114 17 = (12, 21, 0, 0, []) by decide +kernel) ?_
    refine e_iadd (show am_cd 114 21 = (5, 22, 0, 0, []) by decide +kernel) ?_
    refine e_sti (la2 := [rA 53, (0, s), (0, p), (0, (irem s 7) + 0), (9, 0), (9, 0)]) (show am_cd 114 22 = (3, 23, 3, 0, []) by decide +kernel) rfl ?_
    refine e_ldi (show am_cd 114 23 = (2, 24, 1, 0, []) by decide +kernel) rfl ?_
    refine e_cS (z := 0) (as := [(0, s)]) (rest := []) (show am_cd 114 24 = (40, 27, 118, 1, [107]) by decide +kernel) (by decide) rfl rfl (Nat.le_of_ble_eq_true rfl) rfl ?_
    show Ev _ 118 _ 0 [(0, s)] [] _
    refine e_ldi (show am_cd 118 0 = (2, 1, 0, 0, []) by decide +kernel) rfl ?_
    refine e_ic (show am_cd 118 1 = (0, 4, 2, 294, []) by decide +kernel) ?_
    refine e_idiv (show am_cd 118 4 = (5, 5, 9, 0, []) by decide +kernel) (by decide) ?_
    refine e_reti (show am_cd 118 5 = (36, 6, 0, 0, []) by decide +kernel) (by decide +kernel) ⟨fun _ h9 => (by cases h9), ?_⟩
    show Ev _ 114 _ 27 [rA 53, (0, s), (0, p), (0, (irem s 7) + 0), (9, 0), (9, 0)] [(0, idiv s 294)] _
    refine e_sti (la2 := [rA 53, (0, s), (0, p), (0, (irem s 7) + 0), (0, idiv s 294), (9, 0)]) (show am_cd 114 27 = (3, 29, 4, 0, []) by decide +kernel) rfl ?_
    refine e_ldi (show am_cd 114 29 = (2, 30, 1, 0, []) by decide +kernel) rfl ?_
    refine e_cS (z := 0) (as := [(0, s)]) (rest := []) (show am_cd 114 30 = (40, 33, 119, 1, [110]) by decide +kernel) (by decide) rfl rfl (Nat.le_of_ble_eq_true rfl) rfl ?_
    show Ev _ 119 _ 0 [(0, s)] [] _
    refine e_ldi (show am_cd 119 0 = (2, 1, 0, 0, []) by decide +kernel) rfl ?_
    refine e_ic (show am_cd 119 1 = (0, 3, 1, 49, []) by decide +kernel) ?_
    refine e_idiv (show am_cd 119 3 = (5, 4, 9, 0, []) by decide +kernel) (by decide) ?_
    refine e_ic (show am_cd 119 4 = (0, 6, 1, 6, []) by decide +kernel) ?_
    refine e_irem (show am_cd 119 6 = (5, 7, 10, 0, []) by decide +kernel) (by decide) ?_
    refine e_reti (show am_cd 119 7 = (36, 8, 0, 0, []) by decide +kernel) (by decide +kernel) ⟨fun _ h9 => (by cases h9), ?_⟩
    show Ev _ 114 _ 33 [rA 53, (0, s), (0, p), (0, (irem s 7) + 0), (0, idiv s 294), (9, 0)] [(0, irem (idiv s 49) 6)] _
    refine e_sti (la2 := [rA 53, (0, s), (0, p), (0, (irem s 7) + 0), (0, idiv s 294), (0, irem (idiv s 49) 6)]) (show am_cd 114 33 = (3, 35, 5, 0, []) by decide +kernel) rfl ?_
    refine e_lda (v := 53) (show am_cd 114 35 = (2, 36, 0, 2, []) by decide +kernel) rfl ?_
    refine e_getr (a := 53) (r := 8) (show am_cd 114 36 = (18, 39, 1001, 2, [22]) by decide +kernel) (by decide +kernel) (by decide +kernel) rfl ?_
    refine e_ldi (show am_cd 114 39 = (2, 40, 2, 0, []) by decide +kernel) rfl ?_
    refine e_cV (z := 0) (a := 8) (as := [(0, p)]) (rest := []) (show am_cd 114 40 = (40, 43, 3, 0, [166]) by decide +kernel) (by decide +kernel) rfl rfl (Nat.le_of_ble_eq_true rfl) rfl ?_
    refine Cl.mono (Cl.up (c_isIc (d := d) h.1) (by omega)) ?_
    rintro _ _ ⟨rfl, rfl⟩
    refine ⟨fun _ h9 => (by cases h9), ?_⟩
    replace h := h.2
    show Ev _ 114 _ 43 [rA 53, (0, s), (0, p), (0, (irem s 7) + 0), (0, idiv s 294), (0, irem (idiv s 49) 6)] [(0, bI (isI m p.toNat))] _
    refine e_ifb1 (show am_cd 114 43 = (10, 46, 108, 1, []) by decide +kernel) (fun hc => ?_) (fun hc => ?_)
    · replace h := h.1 hc
      refine e_ldi (show am_cd 114 108 = (2, 110, 4, 0, []) by decide +kernel) rfl ?_
      refine e_ldi (show am_cd 114 110 = (2, 112, 5, 0, []) by decide +kernel) rfl ?_
      refine e_ldi (show am_cd 114 112 = (2, 113, 1, 0, []) by decide +kernel) rfl ?_
      refine e_cS (z := 0) (as := [(0, s)]) (rest := [(0, irem (idiv s 49) 6), (0, idiv s 294)]) (show am_cd 114 113 = (40, 116, 120, 1, [181]) by decide +kernel) (by decide) rfl rfl (Nat.le_of_ble_eq_true rfl) rfl ?_
      show Ev _ 120 _ 0 [(0, s)] [] _
      refine e_ldi (show am_cd 120 0 = (2, 1, 0, 0, []) by decide +kernel) rfl ?_
      refine e_ic (show am_cd 120 1 = (0, 3, 1, 7, []) by decide +kernel) ?_
      refine e_idiv (show am_cd 120 3 = (5, 4, 9, 0, []) by decide +kernel) (by decide) ?_
      refine e_ic (show am_cd 120 4 = (0, 6, 1, 7, []) by decide +kernel) ?_
      refine e_irem (show am_cd 120 6 = (5, 7, 10, 0, []) by decide +kernel) (by decide) ?_
      refine e_reti (show am_cd 120 7 = (36, 8, 0, 0, []) by decide +kernel) (by decide +kernel) ⟨fun _ h9 => (by cases h9), ?_⟩
      show Ev _ 114 _ 116 [rA 53, (0, s), (0, p), (0, (irem s 7) + 0), (0, idiv s 294), (0, irem (idiv s 49) 6)] [(0, irem (idiv s 7) 7), (0, irem (idiv s 49) 6), (0, idiv s 294)] _
      refine e_ldi (show am_cd 114 116 = (2, 117, 3, 0, []) by decide +kernel) rfl ?_
      refine e_cS (z := 0) (as := [(0, idiv s 294), (0, irem (idiv s 49) 6), (0, irem (idiv s 7) 7), (0, (irem s 7) + 0)]) (rest := []) (show am_cd 114 117 = (40, 120, 117, 1, [184]) by decide +kernel) (by decide) rfl rfl (Nat.le_of_ble_eq_true rfl) rfl ?_
      show Ev _ 117 _ 0 [(0, idiv s 294), (0, irem (idiv s 49) 6), (0, irem (idiv s 7) 7), (0, (irem s 7) + 0)] [] _
      refine e_ldi (show am_cd 117 0 = (2, 1, 0, 0, []) by decide +kernel) rfl ?_
      refine e_ic (show am_cd 117 1 = (0, 3, 1, 6, []) by decide +kernel) ?_
      refine e_imul (show am_cd 117 3 = (5, 4, 2, 0, []) by decide +kernel) ?_
      refine e_ldi (show am_cd 117 4 = (2, 5, 1, 0, []) by decide +kernel) rfl ?_
      refine e_iadd (show am_cd 117 5 = (5, 6, 0, 0, []) by decide +kernel) ?_
      refine e_ic (show am_cd 117 6 = (0, 8, 1, 7, []) by decide +kernel) ?_
      refine e_imul (show am_cd 117 8 = (5, 9, 2, 0, []) by decide +kernel) ?_
      refine e_ldi (show am_cd 117 9 = (2, 10, 2, 0, []) by decide +kernel) rfl ?_
      refine e_iadd (show am_cd 117 10 = (5, 11, 0, 0, []) by decide +kernel) ?_
      refine e_ic (show am_cd 117 11 = (0, 13, 1, 7, []) by decide +kernel) ?_
      refine e_imul (show am_cd 117 13 = (5, 14, 2, 0, []) by decide +kernel) ?_
      refine e_ldi (show am_cd 117 14 = (2, 15, 3, 0, []) by decide +kernel) rfl ?_
      refine e_iadd (show am_cd 117 15 = (5, 16, 0, 0, []) by decide +kernel) ?_
      refine e_reti (show am_cd 117 16 = (36, 17, 0, 0, []) by decide +kernel) (by decide +kernel) ⟨fun _ h9 => (by cases h9), ?_⟩
      show Ev _ 114 _ 120 [rA 53, (0, s), (0, p), (0, (irem s 7) + 0), (0, idiv s 294), (0, irem (idiv s 49) 6)] [(0, ((((((idiv s 294) * 6) + (irem (idiv s 49) 6)) * 7) + (irem (idiv s 7) 7)) * 7) + ((irem s 7) + 0))] _
      exact e_reti (show am_cd 114 120 = (36, 121, 0, 0, []) by decide +kernel) (by decide +kernel) h
    · replace h := h.2 hc
      refine e_ldi (show am_cd 114 46 = (2, 48, 4, 0, []) by decide +kernel) rfl ?_
      refine e_ic (show am_cd 114 48 = (0, 50, 1, 16, []) by decide +kernel) ?_
      refine e_cmp3 (show am_cd 114 50 = (11, 53, 108, 3, []) by decide +kernel) (fun hc => ?_) (fun hc => ?_)
      · replace h := h.1 hc
        refine e_ldi (show am_cd 114 108 = (2, 110, 4, 0, []) by decide +kernel) rfl ?_
        refine e_ldi (show am_cd 114 110 = (2, 112, 5, 0, []) by decide +kernel) rfl ?_
        refine e_ldi (show am_cd 114 112 = (2, 113, 1, 0, []) by decide +kernel) rfl ?_
        refine e_cS (z := 0) (as := [(0, s)]) (rest := [(0, irem (idiv s 49) 6), (0, idiv s 294)]) (show am_cd 114 113 = (40, 116, 120, 1, [181]) by decide +kernel) (by decide) rfl rfl (Nat.le_of_ble_eq_true rfl) rfl ?_
        show Ev _ 120 _ 0 [(0, s)] [] _
        refine e_ldi (show am_cd 120 0 = (2, 1, 0, 0, []) by decide +kernel) rfl ?_
        refine e_ic (show am_cd 120 1 = (0, 3, 1, 7, []) by decide +kernel) ?_
        refine e_idiv (show am_cd 120 3 = (5, 4, 9, 0, []) by decide +kernel) (by decide) ?_
        refine e_ic (show am_cd 120 4 = (0, 6, 1, 7, []) by decide +kernel) ?_
        refine e_irem (show am_cd 120 6 = (5, 7, 10, 0, []) by decide +kernel) (by decide) ?_
        refine e_reti (show am_cd 120 7 = (36, 8, 0, 0, []) by decide +kernel) (by decide +kernel) ⟨fun _ h9 => (by cases h9), ?_⟩
        show Ev _ 114 _ 116 [rA 53, (0, s), (0, p), (0, (irem s 7) + 0), (0, idiv s 294), (0, irem (idiv s 49) 6)] [(0, irem (idiv s 7) 7), (0, irem (idiv s 49) 6), (0, idiv s 294)] _
        refine e_ldi (show am_cd 114 116 = (2, 117, 3, 0, []) by decide +kernel) rfl ?_
        refine e_cS (z := 0) (as := [(0, idiv s 294), (0, irem (idiv s 49) 6), (0, irem (idiv s 7) 7), (0, (irem s 7) + 0)]) (rest := []) (show am_cd 114 117 = (40, 120, 117, 1, [184]) by decide +kernel) (by decide) rfl rfl (Nat.le_of_ble_eq_true rfl) rfl ?_
        show Ev _ 117 _ 0 [(0, idiv s 294), (0, irem (idiv s 49) 6), (0, irem (idiv s 7) 7), (0, (irem s 7) + 0)] [] _
        refine e_ldi (show am_cd 117 0 = (2, 1, 0, 0, []) by decide +kernel) rfl ?_
        refine e_ic (show am_cd 117 1 = (0, 3, 1, 6, []) by decide +kernel) ?_
        refine e_imul (show am_cd 117 3 = (5, 4, 2, 0, []) by decide +kernel) ?_
        refine e_ldi (show am_cd 117 4 = (2, 5, 1, 0, []) by decide +kernel) rfl ?_
        refine e_iadd (show am_cd 117 5 = (5, 6, 0, 0, []) by decide +kernel) ?_
        refine e_ic (show am_cd 117 6 = (0, 8, 1, 7, []) by decide +kernel) ?_
        refine e_imul (show am_cd 117 8 = (5, 9, 2, 0, []) by decide +kernel) ?_
        refine e_ldi (show am_cd 117 9 = (2, 10, 2, 0, []) by decide +kernel) rfl ?_
        refine e_iadd (show am_cd 117 10 = (5, 11, 0, 0, []) by decide +kernel) ?_
        refine e_ic (show am_cd 117 11 = (0, 13, 1, 7, []) by decide +kernel) ?_
        refine e_imul (show am_cd 117 13 = (5, 14, 2, 0, []) by decide +kernel) ?_
        refine e_ldi (show am_cd 117 14 = (2, 15, 3, 0, []) by decide +kernel) rfl ?_
        refine e_iadd (show am_cd 117 15 = (5, 16, 0, 0, []) by decide +kernel) ?_
        refine e_reti (show am_cd 117 16 = (36, 17, 0, 0, []) by decide +kernel) (by decide +kernel) ⟨fun _ h9 => (by cases h9), ?_⟩
        show Ev _ 114 _ 120 [rA 53, (0, s), (0, p), (0, (irem s 7) + 0), (0, idiv s 294), (0, irem (idiv s 49) 6)] [(0, ((((((idiv s 294) * 6) + (irem (idiv s 49) 6)) * 7) + (irem (idiv s 7) 7)) * 7) + ((irem s 7) + 0))] _
        exact e_reti (show am_cd 114 120 = (36, 121, 0, 0, []) by decide +kernel) (by decide +kernel) h
      · replace h := h.2 hc
        refine e_inc (la2 := [rA 53, (0, s), (0, p), (0, (irem s 7) + 0), (0, idiv s 294), (0, irem (idiv s 49) 6 + 1)]) (show am_cd 114 53 = (4, 56, 5, 1, []) by decide +kernel) rfl rfl ?_
        refine e_ldi (show am_cd 114 56 = (2, 58, 5, 0, []) by decide +kernel) rfl ?_
        refine e_lda (v := 53) (show am_cd 114 58 = (2, 59, 0, 2, []) by decide +kernel) rfl ?_
        refine e_getr (a := 53) (r := 28) (show am_cd 114 59 = (18, 62, 1002, 2, [26]) by decide +kernel) (by decide +kernel) (by decide +kernel) rfl ?_
        refine e_getr (a := 28) (r := 31) (show am_cd 114 62 = (18, 65, 302, 2, [175]) by decide +kernel) (by decide +kernel) (by decide +kernel) rfl ?_
        refine e_ldi (show am_cd 114 65 = (2, 67, 4, 0, []) by decide +kernel) rfl ?_
        refine e_iald (a := 31) (n := 16) (show am_cd 114 67 = (21, 68, 0, 0, []) by decide +kernel) (by decide +kernel) (by decide +kernel) (by decide +kernel) h.1 ?_
        replace h := h.2
        refine e_cmp2 (show am_cd 114 68 = (11, 71, 108, 2, []) by decide +kernel) (fun hc => ?_) (fun hc => ?_)
        · replace h := h.1 hc
          refine e_ldi (show am_cd 114 108 = (2, 110, 4, 0, []) by decide +kernel) rfl ?_
          refine e_ldi (show am_cd 114 110 = (2, 112, 5, 0, []) by decide +kernel) rfl ?_
          refine e_ldi (show am_cd 114 112 = (2, 113, 1, 0, []) by decide +kernel) rfl ?_
          refine e_cS (z := 0) (as := [(0, s)]) (rest := [(0, irem (idiv s 49) 6 + 1), (0, idiv s 294)]) (show am_cd 114 113 = (40, 116, 120, 1, [181]) by decide +kernel) (by decide) rfl rfl (Nat.le_of_ble_eq_true rfl) rfl ?_
          show Ev _ 120 _ 0 [(0, s)] [] _
          refine e_ldi (show am_cd 120 0 = (2, 1, 0, 0, []) by decide +kernel) rfl ?_
          refine e_ic (show am_cd 120 1 = (0, 3, 1, 7, []) by decide +kernel) ?_
          refine e_idiv (show am_cd 120 3 = (5, 4, 9, 0, []) by decide +kernel) (by decide) ?_
          refine e_ic (show am_cd 120 4 = (0, 6, 1, 7, []) by decide +kernel) ?_
          refine e_irem (show am_cd 120 6 = (5, 7, 10, 0, []) by decide +kernel) (by decide) ?_
          refine e_reti (show am_cd 120 7 = (36, 8, 0, 0, []) by decide +kernel) (by decide +kernel) ⟨fun _ h9 => (by cases h9), ?_⟩
          show Ev _ 114 _ 116 [rA 53, (0, s), (0, p), (0, (irem s 7) + 0), (0, idiv s 294), (0, irem (idiv s 49) 6 + 1)] [(0, irem (idiv s 7) 7), (0, irem (idiv s 49) 6 + 1), (0, idiv s 294)] _
          refine e_ldi (show am_cd 114 116 = (2, 117, 3, 0, []) by decide +kernel) rfl ?_
          refine e_cS (z := 0) (as := [(0, idiv s 294), (0, irem (idiv s 49) 6 + 1), (0, irem (idiv s 7) 7), (0, (irem s 7) + 0)]) (rest := []) (show am_cd 114 117 = (40, 120, 117, 1, [184]) by decide +kernel) (by decide) rfl rfl (Nat.le_of_ble_eq_true rfl) rfl ?_
          show Ev _ 117 _ 0 [(0, idiv s 294), (0, irem (idiv s 49) 6 + 1), (0, irem (idiv s 7) 7), (0, (irem s 7) + 0)] [] _
          refine e_ldi (show am_cd 117 0 = (2, 1, 0, 0, []) by decide +kernel) rfl ?_
          refine e_ic (show am_cd 117 1 = (0, 3, 1, 6, []) by decide +kernel) ?_
          refine e_imul (show am_cd 117 3 = (5, 4, 2, 0, []) by decide +kernel) ?_
          refine e_ldi (show am_cd 117 4 = (2, 5, 1, 0, []) by decide +kernel) rfl ?_
          refine e_iadd (show am_cd 117 5 = (5, 6, 0, 0, []) by decide +kernel) ?_
          refine e_ic (show am_cd 117 6 = (0, 8, 1, 7, []) by decide +kernel) ?_
          refine e_imul (show am_cd 117 8 = (5, 9, 2, 0, []) by decide +kernel) ?_
          refine e_ldi (show am_cd 117 9 = (2, 10, 2, 0, []) by decide +kernel) rfl ?_
          refine e_iadd (show am_cd 117 10 = (5, 11, 0, 0, []) by decide +kernel) ?_
          refine e_ic (show am_cd 117 11 = (0, 13, 1, 7, []) by decide +kernel) ?_
          refine e_imul (show am_cd 117 13 = (5, 14, 2, 0, []) by decide +kernel) ?_
          refine e_ldi (show am_cd 117 14 = (2, 15, 3, 0, []) by decide +kernel) rfl ?_
          refine e_iadd (show am_cd 117 15 = (5, 16, 0, 0, []) by decide +kernel) ?_
          refine e_reti (show am_cd 117 16 = (36, 17, 0, 0, []) by decide +kernel) (by decide +kernel) ⟨fun _ h9 => (by cases h9), ?_⟩
          show Ev _ 114 _ 120 [rA 53, (0, s), (0, p), (0, (irem s 7) + 0), (0, idiv s 294), (0, irem (idiv s 49) 6 + 1)] [(0, ((((((idiv s 294) * 6) + (irem (idiv s 49) 6 + 1)) * 7) + (irem (idiv s 7) 7)) * 7) + ((irem s 7) + 0))] _
          exact e_reti (show am_cd 114 120 = (36, 121, 0, 0, []) by decide +kernel) (by decide +kernel) h
        · replace h := h.2 hc
          refine e_ic (show am_cd 114 71 = (0, 72, 0, 0, []) by decide +kernel) ?_
          refine e_sti (la2 := [rA 53, (0, s), (0, p), (0, (irem s 7) + 0), (0, idiv s 294), (0, 0)]) (show am_cd 114 72 = (3, 74, 5, 0, []) by decide +kernel) rfl ?_
          refine e_lda (v := 53) (show am_cd 114 74 = (2, 75, 0, 2, []) by decide +kernel) rfl ?_
          refine e_getr (a := 53) (r := 28) (show am_cd 114 75 = (18, 78, 1002, 2, [26]) by decide +kernel) (by decide +kernel) (by decide +kernel) rfl ?_
          refine e_getr (a := 28) (r := 30) (show am_cd 114 78 = (18, 81, 301, 2, [178]) by decide +kernel) (by decide +kernel) (by decide +kernel) rfl ?_
          refine e_ldi (show am_cd 114 81 = (2, 83, 4, 0, []) by decide +kernel) rfl ?_
          refine e_iald (a := 30) (n := 16) (show am_cd 114 83 = (21, 84, 0, 0, []) by decide +kernel) (by decide +kernel) (by decide +kernel) (by decide +kernel) h.1 ?_
          replace h := h.2
          refine e_ic (show am_cd 114 84 = (0, 85, 0, -1, []) by decide +kernel) ?_
          refine e_cmp1 (show am_cd 114 85 = (11, 88, 93, 1, []) by decide +kernel) (fun hc => ?_) (fun hc => ?_)
          · replace h := h.1 hc
            refine e_ic (show am_cd 114 93 = (0, 95, 1, 16, []) by decide +kernel) ?_
            refine e_lda (v := 53) (show am_cd 114 95 = (2, 96, 0, 2, []) by decide +kernel) rfl ?_
            refine e_getr (a := 53) (r := 28) (show am_cd 114 96 = (18, 99, 1002, 2, [26]) by decide +kernel) (by decide +kernel) (by decide +kernel) rfl ?_
            refine e_getr (a := 28) (r := 30) (show am_cd 114 99 = (18, 102, 301, 2, [178]) by decide +kernel) (by decide +kernel) (by decide +kernel) rfl ?_
            refine e_ldi (show am_cd 114 102 = (2, 104, 4, 0, []) by decide +kernel) rfl ?_
            refine e_iald (a := 30) (n := 16) (show am_cd 114 104 = (21, 105, 0, 0, []) by decide +kernel) (by decide +kernel) (by decide +kernel) (by decide +kernel) h.1 ?_
            replace h := h.2
            refine e_iadd (show am_cd 114 105 = (5, 106, 0, 0, []) by decide +kernel) ?_
            refine e_sti (la2 := [rA 53, (0, s), (0, p), (0, (irem s 7) + 0), (0, 16 + (w 30 (w32 (idiv s 294)).toNat)), (0, 0)]) (show am_cd 114 106 = (3, 108, 4, 0, []) by decide +kernel) rfl ?_
            refine e_ldi (show am_cd 114 108 = (2, 110, 4, 0, []) by decide +kernel) rfl ?_
            refine e_ldi (show am_cd 114 110 = (2, 112, 5, 0, []) by decide +kernel) rfl ?_
            refine e_ldi (show am_cd 114 112 = (2, 113, 1, 0, []) by decide +kernel) rfl ?_
            refine e_cS (z := 0) (as := [(0, s)]) (rest := [(0, 0), (0, 16 + (w 30 (w32 (idiv s 294)).toNat))]) (show am_cd 114 113 = (40, 116, 120, 1, [181]) by decide +kernel) (by decide) rfl rfl (Nat.le_of_ble_eq_true rfl) rfl ?_
            show Ev _ 120 _ 0 [(0, s)] [] _
            refine e_ldi (show am_cd 120 0 = (2, 1, 0, 0, []) by decide +kernel) rfl ?_
            refine e_ic (show am_cd 120 1 = (0, 3, 1, 7, []) by decide +kernel) ?_
            refine e_idiv (show am_cd 120 3 = (5, 4, 9, 0, []) by decide +kernel) (by decide) ?_
            refine e_ic (show am_cd 120 4 = (0, 6, 1, 7, []) by decide +kernel) ?_
            refine e_irem (show am_cd 120 6 = (5, 7, 10, 0, []) by decide +kernel) (by decide) ?_
            refine e_reti (show am_cd 120 7 = (36, 8, 0, 0, []) by decide +kernel) (by decide +kernel) ⟨fun _ h9 => (by cases h9), ?_⟩
            show Ev _ 114 _ 116 [rA 53, (0, s), (0, p), (0, (irem s 7) + 0), (0, 16 + (w 30 (w32 (idiv s 294)).toNat)), (0, 0)] [(0, irem (idiv s 7) 7), (0, 0), (0, 16 + (w 30 (w32 (idiv s 294)).toNat))] _
            refine e_ldi (show am_cd 114 116 = (2, 117, 3, 0, []) by decide +kernel) rfl ?_
            refine e_cS (z := 0) (as := [(0, 16 + (w 30 (w32 (idiv s 294)).toNat)), (0, 0), (0, irem (idiv s 7) 7), (0, (irem s 7) + 0)]) (rest := []) (show am_cd 114 117 = (40, 120, 117, 1, [184]) by decide +kernel) (by decide) rfl rfl (Nat.le_of_ble_eq_true rfl) rfl ?_
            show Ev _ 117 _ 0 [(0, 16 + (w 30 (w32 (idiv s 294)).toNat)), (0, 0), (0, irem (idiv s 7) 7), (0, (irem s 7) + 0)] [] _
            refine e_ldi (show am_cd 117 0 = (2, 1, 0, 0, []) by decide +kernel) rfl ?_
            refine e_ic (show am_cd 117 1 = (0, 3, 1, 6, []) by decide +kernel) ?_
            refine e_imul (show am_cd 117 3 = (5, 4, 2, 0, []) by decide +kernel) ?_
            refine e_ldi (show am_cd 117 4 = (2, 5, 1, 0, []) by decide +kernel) rfl ?_
            refine e_iadd (show am_cd 117 5 = (5, 6, 0, 0, []) by decide +kernel) ?_
            refine e_ic (show am_cd 117 6 = (0, 8, 1, 7, []) by decide +kernel) ?_
            refine e_imul (show am_cd 117 8 = (5, 9, 2, 0, []) by decide +kernel) ?_
            refine e_ldi (show am_cd 117 9 = (2, 10, 2, 0, []) by decide +kernel) rfl ?_
            refine e_iadd (show am_cd 117 10 = (5, 11, 0, 0, []) by decide +kernel) ?_
            refine e_ic (show am_cd 117 11 = (0, 13, 1, 7, []) by decide +kernel) ?_
            refine e_imul (show am_cd 117 13 = (5, 14, 2, 0, []) by decide +kernel) ?_
            refine e_ldi (show am_cd 117 14 = (2, 15, 3, 0, []) by decide +kernel) rfl ?_
            refine e_iadd (show am_cd 117 15 = (5, 16, 0, 0, []) by decide +kernel) ?_
            refine e_reti (show am_cd 117 16 = (36, 17, 0, 0, []) by decide +kernel) (by decide +kernel) ⟨fun _ h9 => (by cases h9), ?_⟩
            show Ev _ 114 _ 120 [rA 53, (0, s), (0, p), (0, (irem s 7) + 0), (0, 16 + (w 30 (w32 (idiv s 294)).toNat)), (0, 0)] [(0, ((((((16 + (w 30 (w32 (idiv s 294)).toNat)) * 6) + 0) * 7) + (irem (idiv s 7) 7)) * 7) + ((irem s 7) + 0))] _
            exact e_reti (show am_cd 114 120 = (36, 121, 0, 0, []) by decide +kernel) (by decide +kernel) h
          · replace h := h.2 hc
            refine e_ic (show am_cd 114 88 = (0, 90, 1, 20, []) by decide +kernel) ?_
            refine e_go (show am_cd 114 90 = (12, 106, 0, 0, []) by decide +kernel) ?_
            refine e_sti (la2 := [rA 53, (0, s), (0, p), (0, (irem s 7) + 0), (0, 20), (0, 0)]) (show am_cd 114 106 = (3, 108, 4, 0, []) by decide +kernel) rfl ?_
            refine e_ldi (show am_cd 114 108 = (2, 110, 4, 0, []) by decide +kernel) rfl ?_
            refine e_ldi (show am_cd 114 110 = (2, 112, 5, 0, []) by decide +kernel) rfl ?_
            refine e_ldi (show am_cd 114 112 = (2, 113, 1, 0, []) by decide +kernel) rfl ?_
            refine e_cS (z := 0) (as := [(0, s)]) (rest := [(0, 0), (0, 20)]) (show am_cd 114 113 = (40, 116, 120, 1, [181]) by decide +kernel) (by decide) rfl rfl (Nat.le_of_ble_eq_true rfl) rfl ?_
            show Ev _ 120 _ 0 [(0, s)] [] _
            refine e_ldi (show am_cd 120 0 = (2, 1, 0, 0, []) by decide +kernel) rfl ?_
            refine e_ic (show am_cd 120 1 = (0, 3, 1, 7, []) by decide +kernel) ?_
            refine e_idiv (show am_cd 120 3 = (5, 4, 9, 0, []) by decide +kernel) (by decide) ?_
            refine e_ic (show am_cd 120 4 = (0, 6, 1, 7, []) by decide +kernel) ?_
            refine e_irem (show am_cd 120 6 = (5, 7, 10, 0, []) by decide +kernel) (by decide) ?_
            refine e_reti (show am_cd 120 7 = (36, 8, 0, 0, []) by decide +kernel) (by decide +kernel) ⟨fun _ h9 => (by cases h9), ?_⟩
            show Ev _ 114 _ 116 [rA 53, (0, s), (0, p), (0, (irem s 7) + 0), (0, 20), (0, 0)] [(0, irem (idiv s 7) 7), (0, 0), (0, 20)] _
            refine e_ldi (show am_cd 114 116 = (2, 117, 3, 0, []) by decide +kernel) rfl ?_
            refine e_cS (z := 0) (as := [(0, 20), (0, 0), (0, irem (idiv s 7) 7), (0, (irem s 7) + 0)]) (rest := []) (show am_cd 114 117 = (40, 120, 117, 1, [184]) by decide +kernel) (by decide) rfl rfl (Nat.le_of_ble_eq_true rfl) rfl ?_
            show Ev _ 117 _ 0 [(0, 20), (0, 0), (0, irem (idiv s 7) 7), (0, (irem s 7) + 0)] [] _
            refine e_ldi (show am_cd 117 0 = (2, 1, 0, 0, []) by decide +kernel) rfl ?_
            refine e_ic (show am_cd 117 1 = (0, 3, 1, 6, []) by decide +kernel) ?_
            refine e_iok (r := 120) (show am_cd 117 3 = (5, 4, 2, 0, []) by decide +kernel) (by decide +kernel) (by decide +kernel) ?_
            refine e_ldi (show am_cd 117 4 = (2, 5, 1, 0, []) by decide +kernel) rfl ?_
            refine e_iok (r := 120) (show am_cd 117 5 = (5, 6, 0, 0, []) by decide +kernel) (by decide +kernel) (by decide +kernel) ?_
            refine e_ic (show am_cd 117 6 = (0, 8, 1, 7, []) by decide +kernel) ?_
            refine e_iok (r := 840) (show am_cd 117 8 = (5, 9, 2, 0, []) by decide +kernel) (by decide +kernel) (by decide +kernel) ?_
            refine e_ldi (show am_cd 117 9 = (2, 10, 2, 0, []) by decide +kernel) rfl ?_
            refine e_iadd (show am_cd 117 10 = (5, 11, 0, 0, []) by decide +kernel) ?_
            refine e_ic (show am_cd 117 11 = (0, 13, 1, 7, []) by decide +kernel) ?_
            refine e_imul (show am_cd 117 13 = (5, 14, 2, 0, []) by decide +kernel) ?_
            refine e_ldi (show am_cd 117 14 = (2, 15, 3, 0, []) by decide +kernel) rfl ?_
            refine e_iadd (show am_cd 117 15 = (5, 16, 0, 0, []) by decide +kernel) ?_
            refine e_reti (show am_cd 117 16 = (36, 17, 0, 0, []) by decide +kernel) (by decide +kernel) ⟨fun _ h9 => (by cases h9), ?_⟩
            show Ev _ 114 _ 120 [rA 53, (0, s), (0, p), (0, (irem s 7) + 0), (0, 20), (0, 0)] [(0, ((840 + (irem (idiv s 7) 7)) * 7) + ((irem s 7) + 0))] _
            exact e_reti (show am_cd 114 120 = (36, 121, 0, 0, []) by decide +kernel) (by decide +kernel) h

theorem g_sb {d : Nat} {Q : Option aV → aS → Prop} {w : eW} {t : eT} {s p : Int} {m : eW} (h : ((w32 (w 53 8) = 0 → Q (some (0, s - 1)) (enc w t)) ∧ (w32 (w 53 8) = 1 → ((¬ w32 p = w32 (w 53 10) → Q (some (0, ior (s - 2) 0)) (enc w t)) ∧ (¬ (¬ w32 p = w32 (w 53 10)) → Q (some (0, ior (s - 2) 1)) (enc w t)))) ∧ (w32 (w 53 8) = 2 → (AC w m ∧ WFp m ∧ ((0 : Int) ≤ p ∧ (p : Int) < 32)) ∧ (((isI m p.toNat) = false → Q (some (0, s + 1)) (enc w t)) ∧ ((isI m p.toNat) = true → Q (some (0, s)) (enc w t)))) ∧ (w32 (w 53 8) = 3 → (0 ≤ w32 p ∧ w32 p < 16) ∧ ((¬ w32 (w 10 (w32 p).toNat) = 0 → Q (some (0, (s + 7) + 1)) (enc w t)) ∧ (¬ (¬ w32 (w 10 (w32 p).toNat) = 0) → Q (some (0, (s + 7) + 0)) (enc w t)))) ∧ ((w32 (w 53 8) < 0 ∨ 4 ≤ w32 (w 53 8)) → Cl (d + 4) 114 [rA 53, (0, s), (0, p)] (enc w t) (fun r S2 => (∀ x, r ≠ some (6, x)) ∧ Ev (d + 5) 113 Q 106 [rA 53, (0, s), (0, p)] (r.toList ++ []) S2)))) : Cl (d + 5) 113 [rA 53, (0, s), (0, p)] (enc w t) Q := by
  show Ev (d + 5) 113 Q 0 [rA 53, (0, s), (0, p)] [] (enc w t)
  refine e_lda (v := 53) (show am_cd 113 0 = (2, 1, 0, 2, []) by decide +kernel) rfl ?_
  refine e_getf (a := 53) (tg := 0) (show am_cd 113 1 = (18, 4, 1008, 0, [42]) by decide +kernel) (by decide +kernel) (by decide +kernel) rfl ?_
  refine e_tsw (x := w 53 8) (show am_cd 113 4 = (30, 100, 32, 0, [36, 40, 58, 77]) by decide +kernel) (fun i tg hi hx => ?_) (fun hx => ?_)
  · match i, hi with
    | 0, hi =>
      cases hi
      replace h := h.1 (by omega)
      refine e_ldi (show am_cd 113 36 = (2, 37, 1, 0, []) by decide +kernel) rfl ?_
      refine e_ic (show am_cd 113 37 = (0, 38, 0, 1, []) by decide +kernel) ?_
      refine e_isub (show am_cd 113 38 = (5, 39, 1, 0, []) by decide +kernel) ?_
      exact e_reti (show am_cd 113 39 = (36, 40, 0, 0, []) by decide +kernel) (by decide +kernel) h
    | 1, hi =>
      cases hi
      replace h := h.2.1 (by omega)
      refine e_ldi (show am_cd 113 40 = (2, 41, 1, 0, []) by decide +kernel) rfl ?_
      refine e_ic (show am_cd 113 41 = (0, 42, 0, 2, []) by decide +kernel) ?_
      refine e_isub (show am_cd 113 42 = (5, 43, 1, 0, []) by decide +kernel) ?_
      refine e_ldi (show am_cd 113 43 = (2, 44, 2, 0, []) by decide +kernel) rfl ?_
      refine e_lda (v := 53) (show am_cd 113 44 = (2, 45, 0, 2, []) by decide +kernel) rfl ?_
      refine e_getf (a := 53) (tg := 0) (show am_cd 113 45 = (18, 48, 1010, 0, [163]) by decide +kernel) (by decide +kernel) (by decide +kernel) rfl ?_
      refine e_cmp1 (show am_cd 113 48 = (11, 51, 55, 1, []) by decide +kernel) (fun hc => ?_) (fun hc => ?_)
      · replace h := h.1 hc
        refine e_ic (show am_cd 113 55 = (0, 56, 0, 0, []) by decide +kernel) ?_
        refine e_ior (show am_cd 113 56 = (5, 57, 4, 0, []) by decide +kernel) ?_
        exact e_reti (show am_cd 113 57 = (36, 58, 0, 0, []) by decide +kernel) (by decide +kernel) h
      · replace h := h.2 hc
        refine e_ic (show am_cd 113 51 = (0, 52, 0, 1, []) by decide +kernel) ?_
        refine e_go (show am_cd 113 52 = (12, 56, 0, 0, []) by decide +kernel) ?_
        refine e_ior (show am_cd 113 56 = (5, 57, 4, 0, []) by decide +kernel) ?_
        exact e_reti (show am_cd 113 57 = (36, 58, 0, 0, []) by decide +kernel) (by decide +kernel) h
    | 2, hi =>
      cases hi
      replace h := h.2.2.1 (by omega)
      refine e_lda (v := 53) (show am_cd 113 58 = (2, 59, 0, 2, []) by decide +kernel) rfl ?_
      refine e_getr (a := 53) (r := 8) (show am_cd 113 59 = (18, 62, 1001, 2, [22]) by decide +kernel) (by decide +kernel) (by decide +kernel) rfl ?_
      refine e_ldi (show am_cd 113 62 = (2, 63, 2, 0, []) by decide +kernel) rfl ?_
      refine e_cV (z := 0) (a := 8) (as := [(0, p)]) (rest := []) (show am_cd 113 63 = (40, 66, 3, 0, [166]) by decide +kernel) (by decide +kernel) rfl rfl (Nat.le_of_ble_eq_true rfl) rfl ?_
      refine Cl.mono (Cl.up (c_isIc (d := d) h.1) (by omega)) ?_
      rintro _ _ ⟨rfl, rfl⟩
      refine ⟨fun _ h9 => (by cases h9), ?_⟩
      replace h := h.2
      show Ev _ 113 _ 66 [rA 53, (0, s), (0, p)] [(0, bI (isI m p.toNat))] _
      refine e_ifb0 (show am_cd 113 66 = (10, 69, 73, 0, []) by decide +kernel) (fun hc => ?_) (fun hc => ?_)
      · replace h := h.1 hc
        refine e_ldi (show am_cd 113 73 = (2, 74, 1, 0, []) by decide +kernel) rfl ?_
        refine e_ic (show am_cd 113 74 = (0, 75, 0, 1, []) by decide +kernel) ?_
        refine e_iadd (show am_cd 113 75 = (5, 76, 0, 0, []) by decide +kernel) ?_
        exact e_reti (show am_cd 113 76 = (36, 77, 0, 0, []) by decide +kernel) (by decide +kernel) h
      · replace h := h.2 hc
        refine e_ldi (show am_cd 113 69 = (2, 70, 1, 0, []) by decide +kernel) rfl ?_
        refine e_go (show am_cd 113 70 = (12, 76, 0, 0, []) by decide +kernel) ?_
        exact e_reti (show am_cd 113 76 = (36, 77, 0, 0, []) by decide +kernel) (by decide +kernel) h
    | 3, hi =>
      cases hi
      replace h := h.2.2.2.1 (by omega)
      refine e_ldi (show am_cd 113 77 = (2, 78, 1, 0, []) by decide +kernel) rfl ?_
      refine e_ic (show am_cd 113 78 = (0, 80, 1, 7, []) by decide +kernel) ?_
      refine e_iadd (show am_cd 113 80 = (5, 81, 0, 0, []) by decide +kernel) ?_
      refine e_lda (v := 53) (show am_cd 113 81 = (2, 82, 0, 2, []) by decide +kernel) rfl ?_
      refine e_getr (a := 53) (r := 8) (show am_cd 113 82 = (18, 85, 1001, 2, [22]) by decide +kernel) (by decide +kernel) (by decide +kernel) rfl ?_
      refine e_getr (a := 8) (r := 10) (show am_cd 113 85 = (18, 88, 1, 2, [169]) by decide +kernel) (by decide +kernel) (by decide +kernel) rfl ?_
      refine e_ldi (show am_cd 113 88 = (2, 89, 2, 0, []) by decide +kernel) rfl ?_
      refine e_iald (a := 10) (n := 16) (show am_cd 113 89 = (21, 90, 0, 0, []) by decide +kernel) (by decide +kernel) (by decide +kernel) (by decide +kernel) h.1 ?_
      replace h := h.2
      refine e_if1 (show am_cd 113 90 = (10, 93, 97, 1, []) by decide +kernel) (fun hc => ?_) (fun hc => ?_)
      · replace h := h.1 hc
        refine e_ic (show am_cd 113 97 = (0, 98, 0, 1, []) by decide +kernel) ?_
        refine e_iadd (show am_cd 113 98 = (5, 99, 0, 0, []) by decide +kernel) ?_
        exact e_reti (show am_cd 113 99 = (36, 100, 0, 0, []) by decide +kernel) (by decide +kernel) h
      · replace h := h.2 hc
        refine e_ic (show am_cd 113 93 = (0, 94, 0, 0, []) by decide +kernel) ?_
        refine e_go (show am_cd 113 94 = (12, 98, 0, 0, []) by decide +kernel) ?_
        refine e_iadd (show am_cd 113 98 = (5, 99, 0, 0, []) by decide +kernel) ?_
        exact e_reti (show am_cd 113 99 = (36, 100, 0, 0, []) by decide +kernel) (by decide +kernel) h
    | i + 4, hi => cases hi
  · replace h := h.2.2.2.2 (by simp only [List.length_cons, List.length_nil] at hx; omega)
    refine e_lda (v := 53) (show am_cd 113 100 = (2, 101, 0, 2, []) by decide +kernel) rfl ?_
    refine e_ldi (show am_cd 113 101 = (2, 102, 1, 0, []) by decide +kernel) rfl ?_
    refine e_ldi (show am_cd 113 102 = (2, 103, 2, 0, []) by decide +kernel) rfl ?_
    refine e_cV (z := 0) (a := 53) (as := [(0, s), (0, p)]) (rest := []) (show am_cd 113 103 = (40, 106, 114, 0, [172]) by decide +kernel) (by decide +kernel) rfl rfl (Nat.le_of_ble_eq_true rfl) rfl ?_
    exact h

theorem g_pa3 {d : Nat} {Q : Option aV → aS → Prop} {w : eW} {t : eT} {s y : Int} {m : eW} (h : Q (some (0, y)) (enc w t)) : Ev (d + 5) 108 Q 95 [rA 53, (0, s)] [(0, y)] (enc w t) := by
  exact e_reti (show am_cd 108 95 = (36, 96, 0, 0, []) by decide +kernel) (by decide +kernel) h

theorem g_pa4 {d : Nat} {Q : Option aV → aS → Prop} {w : eW} {t : eT} {s y : Int} {m : eW} (h : Q (some (0, y)) (enc w t)) : Ev (d + 5) 108 Q 101 [rA 53, (0, s)] [(0, y)] (enc w t) := by
  exact e_reti (show am_cd 108 101 = (36, 102, 0, 0, []) by decide +kernel) (by decide +kernel) h

theorem g_sb4 {d : Nat} {Q : Option aV → aS → Prop} {w : eW} {t : eT} {s p y : Int} {m : eW} (h : Q (some (0, y)) (enc w t)) : Ev (d + 5) 113 Q 106 [rA 53, (0, s), (0, p)] [(0, y)] (enc w t) := by
  exact e_reti (show am_cd 113 106 = (36, 107, 0, 0, []) by decide +kernel) (by decide +kernel) h

theorem g_sw {d : Nat} {Q : Option aV → aS → Prop} {w : eW} {t : eT} {s e : Int} (h : (0 ≤ w32 e ∧ w32 e < 16) ∧ ((¬ w32 (w 30 (w32 e).toNat) = w32 (-1) → (0 ≤ w32 e ∧ w32 e < 16) ∧ (Q (some (0, (((((e * 6) + 0) * 7) + ((irem (idiv s 7) 7) + (w 31 (w32 e).toNat))) * 7) + (irem s 7))) (enc w t))) ∧ (¬ (¬ w32 (w 30 (w32 e).toNat) = w32 (-1)) → Q (some (0, (((((e * 6) + 0) * 7) + 0) * 7) + (irem s 7))) (enc w t)))) : Cl (d + 3) 116 [rA 53, (0, s), (0, e)] (enc w t) Q := by
  show Ev (d + 3) 116 Q 0 [rA 53, (0, s), (0, e), (9, 0)] [] (enc w t)
  refine e_lda (v := 53) (show am_cd 116 0 = (2, 1, 0, 2, []) by decide +kernel) rfl ?_
  refine e_getr (a := 53) (r := 28) (show am_cd 116 1 = (18, 4, 1002, 2, [26]) by decide +kernel) (by decide +kernel) (by decide +kernel) rfl ?_
  refine e_getr (a := 28) (r := 30) (show am_cd 116 4 = (18, 7, 301, 2, [178]) by decide +kernel) (by decide +kernel) (by decide +kernel) rfl ?_
  refine e_ldi (show am_cd 116 7 = (2, 8, 2, 0, []) by decide +kernel) rfl ?_
  refine e_iald (a := 30) (n := 16) (show am_cd 116 8 = (21, 9, 0, 0, []) by decide +kernel) (by decide +kernel) (by decide +kernel) (by decide +kernel) h.1 ?_
  replace h := h.2
  refine e_ic (show am_cd 116 9 = (0, 10, 0, -1, []) by decide +kernel) ?_
  refine e_cmp1 (show am_cd 116 10 = (11, 13, 17, 1, []) by decide +kernel) (fun hc => ?_) (fun hc => ?_)
  · replace h := h.1 hc
    refine e_ldi (show am_cd 116 17 = (2, 18, 1, 0, []) by decide +kernel) rfl ?_
    refine e_cS (z := 0) (as := [(0, s)]) (rest := []) (show am_cd 116 18 = (40, 21, 120, 1, [181]) by decide +kernel) (by decide) rfl rfl (Nat.le_of_ble_eq_true rfl) rfl ?_
    show Ev _ 120 _ 0 [(0, s)] [] _
    refine e_ldi (show am_cd 120 0 = (2, 1, 0, 0, []) by decide +kernel) rfl ?_
    refine e_ic (show am_cd 120 1 = (0, 3, 1, 7, []) by decide +kernel) ?_
    refine e_idiv (show am_cd 120 3 = (5, 4, 9, 0, []) by decide +kernel) (by decide) ?_
    refine e_ic (show am_cd 120 4 = (0, 6, 1, 7, []) by decide +kernel) ?_
    refine e_irem (show am_cd 120 6 = (5, 7, 10, 0, []) by decide +kernel) (by decide) ?_
    refine e_reti (show am_cd 120 7 = (36, 8, 0, 0, []) by decide +kernel) (by decide +kernel) ⟨fun _ h9 => (by cases h9), ?_⟩
    show Ev _ 116 _ 21 [rA 53, (0, s), (0, e), (9, 0)] [(0, irem (idiv s 7) 7)] _
    refine e_lda (v := 53) (show am_cd 116 21 = (2, 22, 0, 2, []) by decide +kernel) rfl ?_
    refine e_getr (a := 53) (r := 28) (show am_cd 116 22 = (18, 25, 1002, 2, [26]) by decide +kernel) (by decide +kernel) (by decide +kernel) rfl ?_
    refine e_getr (a := 28) (r := 31) (show am_cd 116 25 = (18, 28, 302, 2, [175]) by decide +kernel) (by decide +kernel) (by decide +kernel) rfl ?_
    refine e_ldi (show am_cd 116 28 = (2, 29, 2, 0, []) by decide +kernel) rfl ?_
    refine e_iald (a := 31) (n := 16) (show am_cd 116 29 = (21, 30, 0, 0, []) by decide +kernel) (by decide +kernel) (by decide +kernel) (by decide +kernel) h.1 ?_
    replace h := h.2
    refine e_iadd (show am_cd 116 30 = (5, 31, 0, 0, []) by decide +kernel) ?_
    refine e_sti (la2 := [rA 53, (0, s), (0, e), (0, (irem (idiv s 7) 7) + (w 31 (w32 e).toNat))]) (show am_cd 116 31 = (3, 32, 3, 0, []) by decide +kernel) rfl ?_
    refine e_ldi (show am_cd 116 32 = (2, 33, 2, 0, []) by decide +kernel) rfl ?_
    refine e_ic (show am_cd 116 33 = (0, 34, 0, 0, []) by decide +kernel) ?_
    refine e_ldi (show am_cd 116 34 = (2, 35, 3, 0, []) by decide +kernel) rfl ?_
    refine e_ldi (show am_cd 116 35 = (2, 36, 1, 0, []) by decide +kernel) rfl ?_
    refine e_ic (show am_cd 116 36 = (0, 38, 1, 7, []) by decide +kernel) ?_
    refine e_irem (show am_cd 116 38 = (5, 39, 10, 0, []) by decide +kernel) (by decide) ?_
    refine e_cS (z := 0) (as := [(0, e), (0, 0), (0, (irem (idiv s 7) 7) + (w 31 (w32 e).toNat)), (0, irem s 7)]) (rest := []) (show am_cd 116 39 = (40, 42, 117, 1, [184]) by decide +kernel) (by decide) rfl rfl (Nat.le_of_ble_eq_true rfl) rfl ?_
    show Ev _ 117 _ 0 [(0, e), (0, 0), (0, (irem (idiv s 7) 7) + (w 31 (w32 e).toNat)), (0, irem s 7)] [] _
    refine e_ldi (show am_cd 117 0 = (2, 1, 0, 0, []) by decide +kernel) rfl ?_
    refine e_ic (show am_cd 117 1 = (0, 3, 1, 6, []) by decide +kernel) ?_
    refine e_imul (show am_cd 117 3 = (5, 4, 2, 0, []) by decide +kernel) ?_
    refine e_ldi (show am_cd 117 4 = (2, 5, 1, 0, []) by decide +kernel) rfl ?_
    refine e_iadd (show am_cd 117 5 = (5, 6, 0, 0, []) by decide +kernel) ?_
    refine e_ic (show am_cd 117 6 = (0, 8, 1, 7, []) by decide +kernel) ?_
    refine e_imul (show am_cd 117 8 = (5, 9, 2, 0, []) by decide +kernel) ?_
    refine e_ldi (show am_cd 117 9 = (2, 10, 2, 0, []) by decide +kernel) rfl ?_
    refine e_iadd (show am_cd 117 10 = (5, 11, 0, 0, []) by decide +kernel) ?_
    refine e_ic (show am_cd 117 11 = (0, 13, 1, 7, []) by decide +kernel) ?_
    refine e_imul (show am_cd 117 13 = (5, 14, 2, 0, []) by decide +kernel) ?_
    refine e_ldi (show am_cd 117 14 = (2, 15, 3, 0, []) by decide +kernel) rfl ?_
    refine e_iadd (show am_cd 117 15 = (5, 16, 0, 0, []) by decide +kernel) ?_
    refine e_reti (show am_cd 117 16 = (36, 17, 0, 0, []) by decide +kernel) (by decide +kernel) ⟨fun _ h9 => (by cases h9), ?_⟩
    show Ev _ 116 _ 42 [rA 53, (0, s), (0, e), (0, (irem (idiv s 7) 7) + (w 31 (w32 e).toNat))] [(0, (((((e * 6) + 0) * 7) + ((irem (idiv s 7) 7) + (w 31 (w32 e).toNat))) * 7) + (irem s 7))] _
    exact e_reti (show am_cd 116 42 = (36, 43, 0, 0, []) by decide +kernel) (by decide +kernel) h
  · replace h := h.2 hc
    refine e_ic (show am_cd 116 13 = (0, 14, 0, 0, []) by decide +kernel) ?_
    refine e_go (show am_cd 116 14 = (12, 31, 0, 0, []) by decide +kernel) ?_
    refine e_sti (la2 := [rA 53, (0, s), (0, e), (0, 0)]) (show am_cd 116 31 = (3, 32, 3, 0, []) by decide +kernel) rfl ?_
    refine e_ldi (show am_cd 116 32 = (2, 33, 2, 0, []) by decide +kernel) rfl ?_
    refine e_ic (show am_cd 116 33 = (0, 34, 0, 0, []) by decide +kernel) ?_
    refine e_ldi (show am_cd 116 34 = (2, 35, 3, 0, []) by decide +kernel) rfl ?_
    refine e_ldi (show am_cd 116 35 = (2, 36, 1, 0, []) by decide +kernel) rfl ?_
    refine e_ic (show am_cd 116 36 = (0, 38, 1, 7, []) by decide +kernel) ?_
    refine e_irem (show am_cd 116 38 = (5, 39, 10, 0, []) by decide +kernel) (by decide) ?_
    refine e_cS (z := 0) (as := [(0, e), (0, 0), (0, 0), (0, irem s 7)]) (rest := []) (show am_cd 116 39 = (40, 42, 117, 1, [184]) by decide +kernel) (by decide) rfl rfl (Nat.le_of_ble_eq_true rfl) rfl ?_
    show Ev _ 117 _ 0 [(0, e), (0, 0), (0, 0), (0, irem s 7)] [] _
    refine e_ldi (show am_cd 117 0 = (2, 1, 0, 0, []) by decide +kernel) rfl ?_
    refine e_ic (show am_cd 117 1 = (0, 3, 1, 6, []) by decide +kernel) ?_
    refine e_imul (show am_cd 117 3 = (5, 4, 2, 0, []) by decide +kernel) ?_
    refine e_ldi (show am_cd 117 4 = (2, 5, 1, 0, []) by decide +kernel) rfl ?_
    refine e_iadd (show am_cd 117 5 = (5, 6, 0, 0, []) by decide +kernel) ?_
    refine e_ic (show am_cd 117 6 = (0, 8, 1, 7, []) by decide +kernel) ?_
    refine e_imul (show am_cd 117 8 = (5, 9, 2, 0, []) by decide +kernel) ?_
    refine e_ldi (show am_cd 117 9 = (2, 10, 2, 0, []) by decide +kernel) rfl ?_
    refine e_iadd (show am_cd 117 10 = (5, 11, 0, 0, []) by decide +kernel) ?_
    refine e_ic (show am_cd 117 11 = (0, 13, 1, 7, []) by decide +kernel) ?_
    refine e_imul (show am_cd 117 13 = (5, 14, 2, 0, []) by decide +kernel) ?_
    refine e_ldi (show am_cd 117 14 = (2, 15, 3, 0, []) by decide +kernel) rfl ?_
    refine e_iadd (show am_cd 117 15 = (5, 16, 0, 0, []) by decide +kernel) ?_
    refine e_reti (show am_cd 117 16 = (36, 17, 0, 0, []) by decide +kernel) (by decide +kernel) ⟨fun _ h9 => (by cases h9), ?_⟩
    show Ev _ 116 _ 42 [rA 53, (0, s), (0, e), (0, 0)] [(0, (((((e * 6) + 0) * 7) + 0) * 7) + (irem s 7))] _
    exact e_reti (show am_cd 116 42 = (36, 43, 0, 0, []) by decide +kernel) (by decide +kernel) h

theorem g_ea {d : Nat} {Q : Option aV → aS → Prop} {w : eW} {t : eT} {s : Int} (h : ((w32 (w 53 8) = w32 4 → ((w32 ((idiv s 294) - 16) < 0 → Q (some (0, 0)) (enc w t)) ∧ (¬ (w32 ((idiv s 294) - 16) < 0) → ((w32 ((idiv s 294) - 16) < w32 4 → Ev (d + 3) 115 Q 34 [rA 53, (0, s), (0, (idiv s 294) - 16), (0, 0), (0, 0)] [] (enc w t)) ∧ (¬ (w32 ((idiv s 294) - 16) < w32 4) → Q (some (0, 0)) (enc w t)))))) ∧ (¬ (w32 (w 53 8) = w32 4) → Q (some (0, 0)) (enc w t)))) : Cl (d + 3) 115 [rA 53, (0, s)] (enc w t) Q := by
  show Ev (d + 3) 115 Q 0 [rA 53, (0, s), (9, 0), (9, 0), (9, 0)] [] (enc w t)
  refine e_lda (v := 53) (show am_cd 115 0 = (2, 1, 0, 2, []) by decide +kernel) rfl ?_
  refine e_getf (a := 53) (tg := 0) (show am_cd 115 1 = (18, 4, 1008, 0, [42]) by decide +kernel) (by decide +kernel) (by decide +kernel) rfl ?_
  refine e_ic (show am_cd 115 4 = (0, 5, 0, 4, []) by decide +kernel) ?_
  refine e_cmp0 (show am_cd 115 5 = (11, 8, 10, 0, []) by decide +kernel) (fun hc => ?_) (fun hc => ?_)
  · replace h := h.1 hc
    refine e_ldi (show am_cd 115 10 = (2, 11, 1, 0, []) by decide +kernel) rfl ?_
    refine e_cS (z := 0) (as := [(0, s)]) (rest := []) (show am_cd 115 11 = (40, 14, 118, 1, [107]) by decide +kernel) (by decide) rfl rfl (Nat.le_of_ble_eq_true rfl) rfl ?_
    show Ev _ 118 _ 0 [(0, s)] [] _
    refine e_ldi (show am_cd 118 0 = (2, 1, 0, 0, []) by decide +kernel) rfl ?_
    refine e_ic (show am_cd 118 1 = (0, 4, 2, 294, []) by decide +kernel) ?_
    refine e_idiv (show am_cd 118 4 = (5, 5, 9, 0, []) by decide +kernel) (by decide) ?_
    refine e_reti (show am_cd 118 5 = (36, 6, 0, 0, []) by decide +kernel) (by decide +kernel) ⟨fun _ h9 => (by cases h9), ?_⟩
    show Ev _ 115 _ 14 [rA 53, (0, s), (9, 0), (9, 0), (9, 0)] [(0, idiv s 294)] _
    refine e_ic (show am_cd 115 14 = (0, 16, 1, 16, []) by decide +kernel) ?_
    refine e_isub (show am_cd 115 16 = (5, 17, 1, 0, []) by decide +kernel) ?_
    refine e_sti (la2 := [rA 53, (0, s), (0, (idiv s 294) - 16), (9, 0), (9, 0)]) (show am_cd 115 17 = (3, 18, 2, 0, []) by decide +kernel) rfl ?_
    refine e_ldi (show am_cd 115 18 = (2, 19, 2, 0, []) by decide +kernel) rfl ?_
    refine e_if2 (show am_cd 115 19 = (10, 22, 27, 2, []) by decide +kernel) (fun hc => ?_) (fun hc => ?_)
    · replace h := h.1 hc
      refine e_ic (show am_cd 115 27 = (0, 28, 0, 0, []) by decide +kernel) ?_
      exact e_reti (show am_cd 115 28 = (36, 29, 0, 0, []) by decide +kernel) (by decide +kernel) h
    · replace h := h.2 hc
      refine e_ldi (show am_cd 115 22 = (2, 23, 2, 0, []) by decide +kernel) rfl ?_
      refine e_ic (show am_cd 115 23 = (0, 24, 0, 4, []) by decide +kernel) ?_
      refine e_cmp2 (show am_cd 115 24 = (11, 27, 29, 2, []) by decide +kernel) (fun hc => ?_) (fun hc => ?_)
      · replace h := h.1 hc
        refine e_ic (show am_cd 115 29 = (0, 30, 0, 0, []) by decide +kernel) ?_
        refine e_sti (la2 := [rA 53, (0, s), (0, (idiv s 294) - 16), (0, 0), (9, 0)]) (show am_cd 115 30 = (3, 31, 3, 0, []) by decide +kernel) rfl ?_
        refine e_ic (show am_cd 115 31 = (0, 32, 0, 0, []) by decide +kernel) ?_
        refine e_sti (la2 := [rA 53, (0, s), (0, (idiv s 294) - 16), (0, 0), (0, 0)]) (show am_cd 115 32 = (3, 34, 4, 0, []) by decide +kernel) rfl ?_
        exact h
      · replace h := h.2 hc
        refine e_ic (show am_cd 115 27 = (0, 28, 0, 0, []) by decide +kernel) ?_
        exact e_reti (show am_cd 115 28 = (36, 29, 0, 0, []) by decide +kernel) (by decide +kernel) h
  · replace h := h.2 hc
    refine e_ic (show am_cd 115 8 = (0, 9, 0, 0, []) by decide +kernel) ?_
    exact e_reti (show am_cd 115 9 = (36, 10, 0, 0, []) by decide +kernel) (by decide +kernel) h

theorem g_ea1 {d : Nat} {Q : Option aV → aS → Prop} {w : eW} {t : eT} {s gr bi e : Int} (h : ((w32 (w 28 8) ≤ w32 e → Q (some (0, bi)) (enc w t)) ∧ (¬ (w32 (w 28 8) ≤ w32 e) → (0 ≤ w32 e ∧ w32 e < 16) ∧ ((¬ w32 (w 29 (w32 e).toNat) = w32 gr → Ev (d + 3) 115 Q 34 [rA 53, (0, s), (0, gr), (0, bi), (0, e + 1)] [] (enc w t)) ∧ (¬ (¬ w32 (w 29 (w32 e).toNat) = w32 gr) → (0 ≤ w32 e ∧ w32 e < 16) ∧ (0 ≤ w32 e ∧ w32 e < 16) ∧ ((¬ w32 (w 30 (w32 e).toNat) = w32 (-1) → (0 ≤ w32 e ∧ w32 e < 16) ∧ (0 ≤ w32 (w 30 (w32 e).toNat) ∧ w32 (w 30 (w32 e).toNat) < 4) ∧ ((w32 6 < w32 ((irem (idiv s 7) 7) + ((w 31 (w32 e).toNat) + (w 36 (w32 (w 30 (w32 e).toNat)).toNat))) → Ev (d + 3) 115 Q 34 [rA 53, (0, s), (0, gr), (0, bi), (0, e + 1)] [] (enc w t)) ∧ (¬ (w32 6 < w32 ((irem (idiv s 7) 7) + ((w 31 (w32 e).toNat) + (w 36 (w32 (w 30 (w32 e).toNat)).toNat)))) → Ev (d + 3) 115 Q 34 [rA 53, (0, s), (0, gr), (0, ior bi (ishl 1 e)), (0, e + 1)] [] (enc w t)))) ∧ (¬ (¬ w32 (w 30 (w32 e).toNat) = w32 (-1)) → ((w32 6 < w32 ((irem (idiv s 7) 7) + ((w 31 (w32 e).toNat) + 0)) → Ev (d + 3) 115 Q 34 [rA 53, (0, s), (0, gr), (0, bi), (0, e + 1)] [] (enc w t)) ∧ (¬ (w32 6 < w32 ((irem (idiv s 7) 7) + ((w 31 (w32 e).toNat) + 0))) → Ev (d + 3) 115 Q 34 [rA 53, (0, s), (0, gr), (0, ior bi (ishl 1 e)), (0, e + 1)] [] (enc w t)))))))))) : Ev (d + 3) 115 Q 34 [rA 53, (0, s), (0, gr), (0, bi), (0, e)] [] (enc w t) := by
  refine e_ldi (show am_cd 115 34 = (2, 36, 4, 0, []) by decide +kernel) rfl ?_
  refine e_lda (v := 53) (show am_cd 115 36 = (2, 37, 0, 2, []) by decide +kernel) rfl ?_
  refine e_getr (a := 53) (r := 28) (show am_cd 115 37 = (18, 40, 1002, 2, [26]) by decide +kernel) (by decide +kernel) (by decide +kernel) rfl ?_
  refine e_getf (a := 28) (tg := 0) (show am_cd 115 40 = (18, 43, 308, 0, [188]) by decide +kernel) (by decide +kernel) (by decide +kernel) rfl ?_
  refine e_cmp3 (show am_cd 115 43 = (11, 46, 92, 3, []) by decide +kernel) (fun hc => ?_) (fun hc => ?_)
  · replace h := h.1 hc
    refine e_ldi (show am_cd 115 92 = (2, 93, 3, 0, []) by decide +kernel) rfl ?_
    exact e_reti (show am_cd 115 93 = (36, 94, 0, 0, []) by decide +kernel) (by decide +kernel) h
  · replace h := h.2 hc
    refine e_lda (v := 53) (show am_cd 115 46 = (2, 47, 0, 2, []) by decide +kernel) rfl ?_
    refine e_getr (a := 53) (r := 28) (show am_cd 115 47 = (18, 50, 1002, 2, [26]) by decide +kernel) (by decide +kernel) (by decide +kernel) rfl ?_
    refine e_getr (a := 28) (r := 29) (show am_cd 115 50 = (18, 53, 300, 2, [189]) by decide +kernel) (by decide +kernel) (by decide +kernel) rfl ?_
    refine e_ldi (show am_cd 115 53 = (2, 55, 4, 0, []) by decide +kernel) rfl ?_
    refine e_iald (a := 29) (n := 16) (show am_cd 115 55 = (21, 56, 0, 0, []) by decide +kernel) (by decide +kernel) (by decide +kernel) (by decide +kernel) h.1 ?_
    replace h := h.2
    refine e_ldi (show am_cd 115 56 = (2, 57, 2, 0, []) by decide +kernel) rfl ?_
    refine e_cmp1 (show am_cd 115 57 = (11, 60, 86, 1, []) by decide +kernel) (fun hc => ?_) (fun hc => ?_)
    · replace h := h.1 hc
      refine e_inc (la2 := [rA 53, (0, s), (0, gr), (0, bi), (0, e + 1)]) (show am_cd 115 86 = (4, 89, 4, 1, []) by decide +kernel) rfl rfl ?_
      refine e_go (show am_cd 115 89 = (12, 34, 0, 0, []) by decide +kernel) ?_
      exact h
    · replace h := h.2 hc
      refine e_ldi (show am_cd 115 60 = (2, 61, 1, 0, []) by decide +kernel) rfl ?_
      refine e_cS (z := 0) (as := [(0, s)]) (rest := []) (show am_cd 115 61 = (40, 64, 120, 1, [181]) by decide +kernel) (by decide) rfl rfl (Nat.le_of_ble_eq_true rfl) rfl ?_
      show Ev _ 120 _ 0 [(0, s)] [] _
      refine e_ldi (show am_cd 120 0 = (2, 1, 0, 0, []) by decide +kernel) rfl ?_
      refine e_ic (show am_cd 120 1 = (0, 3, 1, 7, []) by decide +kernel) ?_
      refine e_idiv (show am_cd 120 3 = (5, 4, 9, 0, []) by decide +kernel) (by decide) ?_
      refine e_ic (show am_cd 120 4 = (0, 6, 1, 7, []) by decide +kernel) ?_
      refine e_irem (show am_cd 120 6 = (5, 7, 10, 0, []) by decide +kernel) (by decide) ?_
      refine e_reti (show am_cd 120 7 = (36, 8, 0, 0, []) by decide +kernel) (by decide +kernel) ⟨fun _ h9 => (by cases h9), ?_⟩
      show Ev _ 115 _ 64 [rA 53, (0, s), (0, gr), (0, bi), (0, e)] [(0, irem (idiv s 7) 7)] _
      refine e_lda (v := 53) (show am_cd 115 64 = (2, 65, 0, 2, []) by decide +kernel) rfl ?_
      refine e_getr (a := 53) (r := 28) (show am_cd 115 65 = (18, 68, 1002, 2, [26]) by decide +kernel) (by decide +kernel) (by decide +kernel) rfl ?_
      refine e_ldi (show am_cd 115 68 = (2, 70, 4, 0, []) by decide +kernel) rfl ?_
      refine e_cV (z := 0) (a := 28) (as := [(0, e)]) (rest := [(0, irem (idiv s 7) 7)]) (show am_cd 115 70 = (40, 73, 24, 0, [192]) by decide +kernel) (by decide +kernel) rfl rfl (Nat.le_of_ble_eq_true rfl) rfl ?_
      show Ev _ 24 _ 0 [rA 28, (0, e)] [] _
      refine e_lda (v := 28) (show am_cd 24 0 = (2, 1, 0, 2, []) by decide +kernel) rfl ?_
      refine e_getr (a := 28) (r := 31) (show am_cd 24 1 = (18, 4, 302, 2, [18]) by decide +kernel) (by decide +kernel) (by decide +kernel) rfl ?_
      refine e_ldi (show am_cd 24 4 = (2, 5, 1, 0, []) by decide +kernel) rfl ?_
      refine e_iald (a := 31) (n := 16) (show am_cd 24 5 = (21, 6, 0, 0, []) by decide +kernel) (by decide +kernel) (by decide +kernel) (by decide +kernel) h.1 ?_
      replace h := h.2
      refine e_lda (v := 28) (show am_cd 24 6 = (2, 7, 0, 2, []) by decide +kernel) rfl ?_
      refine e_getr (a := 28) (r := 30) (show am_cd 24 7 = (18, 10, 301, 2, [15]) by decide +kernel) (by decide +kernel) (by decide +kernel) rfl ?_
      refine e_ldi (show am_cd 24 10 = (2, 11, 1, 0, []) by decide +kernel) rfl ?_
      refine e_iald (a := 30) (n := 16) (show am_cd 24 11 = (21, 12, 0, 0, []) by decide +kernel) (by decide +kernel) (by decide +kernel) (by decide +kernel) h.1 ?_
      replace h := h.2
      refine e_ic (show am_cd 24 12 = (0, 13, 0, -1, []) by decide +kernel) ?_
      refine e_cmp1 (show am_cd 24 13 = (11, 16, 20, 1, []) by decide +kernel) (fun hc => ?_) (fun hc => ?_)
      · replace h := h.1 hc
        refine e_lda (v := 28) (show am_cd 24 20 = (2, 21, 0, 2, []) by decide +kernel) rfl ?_
        refine e_getr (a := 28) (r := 36) (show am_cd 24 21 = (18, 24, 307, 2, [37]) by decide +kernel) (by decide +kernel) (by decide +kernel) rfl ?_
        refine e_lda (v := 28) (show am_cd 24 24 = (2, 25, 0, 2, []) by decide +kernel) rfl ?_
        refine e_getr (a := 28) (r := 30) (show am_cd 24 25 = (18, 28, 301, 2, [15]) by decide +kernel) (by decide +kernel) (by decide +kernel) rfl ?_
        refine e_ldi (show am_cd 24 28 = (2, 29, 1, 0, []) by decide +kernel) rfl ?_
        refine e_iald (a := 30) (n := 16) (show am_cd 24 29 = (21, 30, 0, 0, []) by decide +kernel) (by decide +kernel) (by decide +kernel) (by decide +kernel) h.1 ?_
        replace h := h.2
        refine e_iald (a := 36) (n := 4) (show am_cd 24 30 = (21, 31, 0, 0, []) by decide +kernel) (by decide +kernel) (by decide +kernel) (by decide +kernel) h.1 ?_
        replace h := h.2
        refine e_iadd (show am_cd 24 31 = (5, 32, 0, 0, []) by decide +kernel) ?_
        refine e_reti (show am_cd 24 32 = (36, 33, 0, 0, []) by decide +kernel) (by decide +kernel) ⟨fun _ h9 => (by cases h9), ?_⟩
        show Ev _ 115 _ 73 [rA 53, (0, s), (0, gr), (0, bi), (0, e)] [(0, (w 31 (w32 e).toNat) + (w 36 (w32 (w 30 (w32 e).toNat)).toNat)), (0, irem (idiv s 7) 7)] _
        refine e_iadd (show am_cd 115 73 = (5, 74, 0, 0, []) by decide +kernel) ?_
        refine e_ic (show am_cd 115 74 = (0, 76, 1, 6, []) by decide +kernel) ?_
        refine e_cmp4 (show am_cd 115 76 = (11, 79, 86, 4, []) by decide +kernel) (fun hc => ?_) (fun hc => ?_)
        · replace h := h.1 hc
          refine e_inc (la2 := [rA 53, (0, s), (0, gr), (0, bi), (0, e + 1)]) (show am_cd 115 86 = (4, 89, 4, 1, []) by decide +kernel) rfl rfl ?_
          refine e_go (show am_cd 115 89 = (12, 34, 0, 0, []) by decide +kernel) ?_
          exact h
        · replace h := h.2 hc
          refine e_ldi (show am_cd 115 79 = (2, 80, 3, 0, []) by decide +kernel) rfl ?_
          refine e_ic (show am_cd 115 80 = (0, 81, 0, 1, []) by decide +kernel) ?_
          refine e_ldi (show am_cd 115 81 = (2, 83, 4, 0, []) by decide +kernel) rfl ?_
          refine e_ishl (show am_cd 115 83 = (5, 84, 6, 0, []) by decide +kernel) ?_
          refine e_ior (show am_cd 115 84 = (5, 85, 4, 0, []) by decide +kernel) ?_
          refine e_sti (la2 := [rA 53, (0, s), (0, gr), (0, ior bi (ishl 1 e)), (0, e)]) (show am_cd 115 85 = (3, 86, 3, 0, []) by decide +kernel) rfl ?_
          refine e_inc (la2 := [rA 53, (0, s), (0, gr), (0, ior bi (ishl 1 e)), (0, e + 1)]) (show am_cd 115 86 = (4, 89, 4, 1, []) by decide +kernel) rfl rfl ?_
          refine e_go (show am_cd 115 89 = (12, 34, 0, 0, []) by decide +kernel) ?_
          exact h
      · replace h := h.2 hc
        refine e_ic (show am_cd 24 16 = (0, 17, 0, 0, []) by decide +kernel) ?_
        refine e_go (show am_cd 24 17 = (12, 31, 0, 0, []) by decide +kernel) ?_
        refine e_iadd (show am_cd 24 31 = (5, 32, 0, 0, []) by decide +kernel) ?_
        refine e_reti (show am_cd 24 32 = (36, 33, 0, 0, []) by decide +kernel) (by decide +kernel) ⟨fun _ h9 => (by cases h9), ?_⟩
        show Ev _ 115 _ 73 [rA 53, (0, s), (0, gr), (0, bi), (0, e)] [(0, (w 31 (w32 e).toNat) + 0), (0, irem (idiv s 7) 7)] _
        refine e_iadd (show am_cd 115 73 = (5, 74, 0, 0, []) by decide +kernel) ?_
        refine e_ic (show am_cd 115 74 = (0, 76, 1, 6, []) by decide +kernel) ?_
        refine e_cmp4 (show am_cd 115 76 = (11, 79, 86, 4, []) by decide +kernel) (fun hc => ?_) (fun hc => ?_)
        · replace h := h.1 hc
          refine e_inc (la2 := [rA 53, (0, s), (0, gr), (0, bi), (0, e + 1)]) (show am_cd 115 86 = (4, 89, 4, 1, []) by decide +kernel) rfl rfl ?_
          refine e_go (show am_cd 115 89 = (12, 34, 0, 0, []) by decide +kernel) ?_
          exact h
        · replace h := h.2 hc
          refine e_ldi (show am_cd 115 79 = (2, 80, 3, 0, []) by decide +kernel) rfl ?_
          refine e_ic (show am_cd 115 80 = (0, 81, 0, 1, []) by decide +kernel) ?_
          refine e_ldi (show am_cd 115 81 = (2, 83, 4, 0, []) by decide +kernel) rfl ?_
          refine e_ishl (show am_cd 115 83 = (5, 84, 6, 0, []) by decide +kernel) ?_
          refine e_ior (show am_cd 115 84 = (5, 85, 4, 0, []) by decide +kernel) ?_
          refine e_sti (la2 := [rA 53, (0, s), (0, gr), (0, ior bi (ishl 1 e)), (0, e)]) (show am_cd 115 85 = (3, 86, 3, 0, []) by decide +kernel) rfl ?_
          refine e_inc (la2 := [rA 53, (0, s), (0, gr), (0, ior bi (ishl 1 e)), (0, e + 1)]) (show am_cd 115 86 = (4, 89, 4, 1, []) by decide +kernel) rfl rfl ?_
          refine e_go (show am_cd 115 89 = (12, 34, 0, 0, []) by decide +kernel) ?_
          exact h

