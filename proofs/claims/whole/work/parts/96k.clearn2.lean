/-! The class: rules learned; a draft kept; a rule taken out. -/
theorem lq2 {σ τ : Type} (E : Nat → σ → τ → Prop) (I : Nat → σ → Prop) (n : Nat) (hs : ∀ i s j, i < n → I i s → (∀ s2 j2, I (i + 1) s2 → E (i + 1) s2 j2) → E i s j) (he : ∀ s j, I n s → E n s j) : ∀ i s j, i ≤ n → I i s → E i s j := fun i s j hi hI =>
  lq1 (σ := σ × τ) (fun i x => E i x.1 x.2) (fun i x => I i x.1) n (fun i x h1 h2 h3 => hs i x.1 x.2 h1 h2 (fun s2 j2 h4 => h3 (s2, j2) h4)) (fun x h1 => he x.1 x.2 h1) i (s, j) hi hI

theorem g_learn {d : Nat} {Q : Option aV → aS → Prop} {w : eW} {t : eT} {m : eW} (h : (AC w m ∧ WFp m) ∧ (fxA 23 20 17) ∧ (fxA 24 20 17) ∧ (fxA 25 20 17) ∧ (fxA 26 20 17) ∧ (fxA 27 20 17) ∧ (Ev (d + 2) 70 Q 58 [rA 15, rA 8, (0, 0), (9, 0)] [] (enc (wfl (wfl (wfl (wfl (wfl (wu (wu w 15 16 ((2 ^ nP m - 1 : Nat) : Int)) 15 17 (w 8 8)) 23 17 0) 24 17 0) 25 17 0) 26 17 0) 27 17 0) t))) : Cl (d + 2) 70 [rA 15, rA 8] (enc w t) Q := by
  show Ev (d + 2) 70 Q 0 [rA 15, rA 8, (9, 0), (9, 0)] [] (enc w t)
  refine e_lda (v := 15) (show am_cd 70 0 = (2, 1, 0, 2, []) by decide +kernel) rfl ?_
  refine e_lda (v := 8) (show am_cd 70 1 = (2, 2, 1, 2, []) by decide +kernel) rfl ?_
  refine e_cV (z := 0) (a := 8) (as := []) (rest := [rA 15]) (show am_cd 70 2 = (40, 5, 2, 0, [98]) by decide +kernel) (by decide +kernel) rfl rfl (Nat.le_of_ble_eq_true rfl) rfl ?_
  refine Cl.mono (Cl.up (c_allP (m := m) (d := d) h.1) (by omega)) ?_
  rintro _ _ ⟨rfl, rfl⟩
  refine ⟨fun _ h9 => (by cases h9), ?_⟩
  replace h := h.2
  show Ev _ 70 _ 5 [rA 15, rA 8, (9, 0), (9, 0)] [(0, ((2 ^ nP m - 1 : Nat) : Int)), rA 15] _
  refine e_putf (a := 15) (show am_cd 70 5 = (19, 8, 716, 0, [112]) by decide +kernel) (by decide +kernel) (by decide +kernel) rfl (fun h9 => absurd h9 (by decide)) (fun h9 => absurd h9 (by decide +kernel)) ?_
  refine e_lda (v := 15) (show am_cd 70 8 = (2, 9, 0, 2, []) by decide +kernel) rfl ?_
  refine e_lda (v := 8) (show am_cd 70 9 = (2, 10, 1, 2, []) by decide +kernel) rfl ?_
  refine e_getfE (a := 8) (tg := 0) (v := w 8 8) (show am_cd 70 10 = (18, 13, 8, 0, [115]) by decide +kernel) (by decide +kernel) (by decide +kernel) rfl rfl ?_
  refine e_putf (a := 15) (show am_cd 70 13 = (19, 16, 717, 0, [118]) by decide +kernel) (by decide +kernel) (by decide +kernel) rfl (fun h9 => absurd h9 (by decide)) (fun h9 => absurd h9 (by decide +kernel)) ?_
  refine e_lda (v := 15) (show am_cd 70 16 = (2, 17, 0, 2, []) by decide +kernel) rfl ?_
  refine e_getr (a := 15) (r := 23) (show am_cd 70 17 = (18, 20, 707, 2, [33]) by decide +kernel) (by decide +kernel) (by decide +kernel) rfl ?_
  refine e_ic (show am_cd 70 20 = (0, 21, 0, 0, []) by decide +kernel) ?_
  refine e_cS (z := 0) (as := [rA 23, (0, 0)]) (rest := []) (show am_cd 70 21 = (40, 24, 269, 1, [119]) by decide +kernel) (by decide) rfl rfl (Nat.le_of_ble_eq_true rfl) rfl ?_
  refine Cl.mono (Cl.up (c_fillI (d := d) h.1) (by omega)) ?_
  rintro _ _ ⟨rfl, rfl⟩
  refine ⟨fun _ h9 => (by cases h9), ?_⟩
  replace h := h.2
  show Ev _ 70 _ 24 [rA 15, rA 8, (9, 0), (9, 0)] [] _
  refine e_lda (v := 15) (show am_cd 70 24 = (2, 25, 0, 2, []) by decide +kernel) rfl ?_
  refine e_getr (a := 15) (r := 24) (show am_cd 70 25 = (18, 28, 708, 2, [36]) by decide +kernel) (by decide +kernel) (by decide +kernel) rfl ?_
  refine e_ic (show am_cd 70 28 = (0, 29, 0, 0, []) by decide +kernel) ?_
  refine e_cS (z := 0) (as := [rA 24, (0, 0)]) (rest := []) (show am_cd 70 29 = (40, 32, 269, 1, [119]) by decide +kernel) (by decide) rfl rfl (Nat.le_of_ble_eq_true rfl) rfl ?_
  refine Cl.mono (Cl.up (c_fillI (d := d) h.1) (by omega)) ?_
  rintro _ _ ⟨rfl, rfl⟩
  refine ⟨fun _ h9 => (by cases h9), ?_⟩
  replace h := h.2
  show Ev _ 70 _ 32 [rA 15, rA 8, (9, 0), (9, 0)] [] _
  refine e_lda (v := 15) (show am_cd 70 32 = (2, 33, 0, 2, []) by decide +kernel) rfl ?_
  refine e_getr (a := 15) (r := 25) (show am_cd 70 33 = (18, 36, 709, 2, [39]) by decide +kernel) (by decide +kernel) (by decide +kernel) rfl ?_
  refine e_ic (show am_cd 70 36 = (0, 37, 0, 0, []) by decide +kernel) ?_
  refine e_cS (z := 0) (as := [rA 25, (0, 0)]) (rest := []) (show am_cd 70 37 = (40, 40, 269, 1, [119]) by decide +kernel) (by decide) rfl rfl (Nat.le_of_ble_eq_true rfl) rfl ?_
  refine Cl.mono (Cl.up (c_fillI (d := d) h.1) (by omega)) ?_
  rintro _ _ ⟨rfl, rfl⟩
  refine ⟨fun _ h9 => (by cases h9), ?_⟩
  replace h := h.2
  show Ev _ 70 _ 40 [rA 15, rA 8, (9, 0), (9, 0)] [] _
  refine e_lda (v := 15) (show am_cd 70 40 = (2, 41, 0, 2, []) by decide +kernel) rfl ?_
  refine e_getr (a := 15) (r := 26) (show am_cd 70 41 = (18, 44, 710, 2, [42]) by decide +kernel) (by decide +kernel) (by decide +kernel) rfl ?_
  refine e_ic (show am_cd 70 44 = (0, 45, 0, 0, []) by decide +kernel) ?_
  refine e_cS (z := 0) (as := [rA 26, (0, 0)]) (rest := []) (show am_cd 70 45 = (40, 48, 269, 1, [119]) by decide +kernel) (by decide) rfl rfl (Nat.le_of_ble_eq_true rfl) rfl ?_
  refine Cl.mono (Cl.up (c_fillI (d := d) h.1) (by omega)) ?_
  rintro _ _ ⟨rfl, rfl⟩
  refine ⟨fun _ h9 => (by cases h9), ?_⟩
  replace h := h.2
  show Ev _ 70 _ 48 [rA 15, rA 8, (9, 0), (9, 0)] [] _
  refine e_lda (v := 15) (show am_cd 70 48 = (2, 49, 0, 2, []) by decide +kernel) rfl ?_
  refine e_getr (a := 15) (r := 27) (show am_cd 70 49 = (18, 52, 711, 2, [45]) by decide +kernel) (by decide +kernel) (by decide +kernel) rfl ?_
  refine e_ic (show am_cd 70 52 = (0, 53, 0, 0, []) by decide +kernel) ?_
  refine e_cS (z := 0) (as := [rA 27, (0, 0)]) (rest := []) (show am_cd 70 53 = (40, 56, 269, 1, [119]) by decide +kernel) (by decide) rfl rfl (Nat.le_of_ble_eq_true rfl) rfl ?_
  refine Cl.mono (Cl.up (c_fillI (d := d) h.1) (by omega)) ?_
  rintro _ _ ⟨rfl, rfl⟩
  refine ⟨fun _ h9 => (by cases h9), ?_⟩
  replace h := h.2
  show Ev _ 70 _ 56 [rA 15, rA 8, (9, 0), (9, 0)] [] _
  refine e_ic (show am_cd 70 56 = (0, 57, 0, 0, []) by decide +kernel) ?_
  refine e_sti (la2 := [rA 15, rA 8, (0, 0), (9, 0)]) (show am_cd 70 57 = (3, 58, 2, 0, []) by decide +kernel) rfl ?_
  exact h

theorem g_learn1 {d : Nat} {Q : Option aV → aS → Prop} {w : eW} {t : eT} {r : Int} {m : eW} {Jn : aV} (h : ((w32 (w 15 12) ≤ w32 r → Q none (enc w t)) ∧ (¬ (w32 (w 15 12) ≤ w32 r) → Ev (d + 2) 70 Q 68 [rA 15, rA 8, (0, r), (0, 0)] [] (enc w t)))) : Ev (d + 2) 70 Q 58 [rA 15, rA 8, (0, r), Jn] [] (enc w t) := by
  refine e_ldi (show am_cd 70 58 = (2, 59, 2, 0, []) by decide +kernel) rfl ?_
  refine e_lda (v := 15) (show am_cd 70 59 = (2, 60, 0, 2, []) by decide +kernel) rfl ?_
  refine e_getf (a := 15) (tg := 0) (show am_cd 70 60 = (18, 63, 712, 0, [82]) by decide +kernel) (by decide +kernel) (by decide +kernel) rfl ?_
  refine e_cmp3 (show am_cd 70 63 = (11, 66, 155, 3, []) by decide +kernel) (fun hc => ?_) (fun hc => ?_)
  · replace h := h.1 hc
    exact e_retv (show am_cd 70 155 = (36, 156, 3, 0, []) by decide +kernel) (by decide +kernel) h
  · replace h := h.2 hc
    refine e_ic (show am_cd 70 66 = (0, 67, 0, 0, []) by decide +kernel) ?_
    refine e_sti (la2 := [rA 15, rA 8, (0, r), (0, 0)]) (show am_cd 70 67 = (3, 68, 3, 0, []) by decide +kernel) rfl ?_
    exact h

theorem g_learn2 {d : Nat} {Q : Option aV → aS → Prop} {w : eW} {t : eT} {rr p : Int} {m : eW} (h : ((w32 17 ≤ w32 p → Cl (d + 1) 71 [rA 15, (0, rr), rA 8] (enc w t) (fun r S2 => (∀ x, r ≠ some (6, x)) ∧ Ev (d + 2) 70 Q 149 [rA 15, rA 8, (0, rr), (0, p)] (r.toList ++ []) S2)) ∧ (¬ (w32 17 ≤ w32 p) → (0 ≤ w32 p ∧ w32 p < 17) ∧ (0 ≤ w32 rr ∧ w32 rr < 9) ∧ (0 ≤ w32 p ∧ w32 p < 17) ∧ (0 ≤ w32 p ∧ w32 p < 17) ∧ (0 ≤ w32 rr ∧ w32 rr < 9) ∧ (0 ≤ w32 p ∧ w32 p < 17) ∧ (0 ≤ w32 p ∧ w32 p < 17) ∧ (0 ≤ w32 rr ∧ w32 rr < 9) ∧ (0 ≤ w32 p ∧ w32 p < 17) ∧ (Ev (d + 2) 70 Q 68 [rA 15, rA 8, (0, rr), (0, p + 1)] [] (enc (wu (wu (wu w 23 (w32 p).toNat (ior (w 23 (w32 p).toNat) (ishl (iand (ishr (w 20 (w32 rr).toNat) p) 1) rr))) 24 (w32 p).toNat (ior (w 24 (w32 p).toNat) (ishl (iand (ishr (w 21 (w32 rr).toNat) p) 1) rr))) 25 (w32 p).toNat (ior (w 25 (w32 p).toNat) (ishl (iand (ishr (w 22 (w32 rr).toNat) p) 1) rr))) t))))) : Ev (d + 2) 70 Q 68 [rA 15, rA 8, (0, rr), (0, p)] [] (enc w t) := by
  refine e_ldi (show am_cd 70 68 = (2, 69, 3, 0, []) by decide +kernel) rfl ?_
  refine e_ic (show am_cd 70 69 = (0, 71, 1, 17, []) by decide +kernel) ?_
  refine e_cmp3 (show am_cd 70 71 = (11, 74, 143, 3, []) by decide +kernel) (fun hc => ?_) (fun hc => ?_)
  · replace h := h.1 hc
    refine e_lda (v := 15) (show am_cd 70 143 = (2, 144, 0, 2, []) by decide +kernel) rfl ?_
    refine e_ldi (show am_cd 70 144 = (2, 145, 2, 0, []) by decide +kernel) rfl ?_
    refine e_lda (v := 8) (show am_cd 70 145 = (2, 146, 1, 2, []) by decide +kernel) rfl ?_
    refine e_cV (z := 0) (a := 15) (as := [(0, rr), rA 8]) (rest := []) (show am_cd 70 146 = (40, 149, 71, 0, [125]) by decide +kernel) (by decide +kernel) rfl rfl (Nat.le_of_ble_eq_true rfl) rfl ?_
    exact h
  · replace h := h.2 hc
    refine e_lda (v := 15) (show am_cd 70 74 = (2, 75, 0, 2, []) by decide +kernel) rfl ?_
    refine e_getr (a := 15) (r := 23) (show am_cd 70 75 = (18, 78, 707, 2, [33]) by decide +kernel) (by decide +kernel) (by decide +kernel) rfl ?_
    refine e_ldi (show am_cd 70 78 = (2, 79, 3, 0, []) by decide +kernel) rfl ?_
    refine e_dup2 (show am_cd 70 79 = (14, 80, 0, 0, []) by decide +kernel) (by decide) ?_
    refine e_iald (a := 23) (n := 17) (show am_cd 70 80 = (21, 81, 0, 0, []) by decide +kernel) (by decide +kernel) (by decide +kernel) (by decide +kernel) h.1 ?_
    replace h := h.2
    refine e_lda (v := 15) (show am_cd 70 81 = (2, 82, 0, 2, []) by decide +kernel) rfl ?_
    refine e_getr (a := 15) (r := 20) (show am_cd 70 82 = (18, 85, 704, 2, [24]) by decide +kernel) (by decide +kernel) (by decide +kernel) rfl ?_
    refine e_ldi (show am_cd 70 85 = (2, 86, 2, 0, []) by decide +kernel) rfl ?_
    refine e_iald (a := 20) (n := 9) (show am_cd 70 86 = (21, 87, 0, 0, []) by decide +kernel) (by decide +kernel) (by decide +kernel) (by decide +kernel) h.1 ?_
    replace h := h.2
    refine e_ldi (show am_cd 70 87 = (2, 88, 3, 0, []) by decide +kernel) rfl ?_
    refine e_ishr (show am_cd 70 88 = (5, 89, 7, 0, []) by decide +kernel) ?_
    refine e_ic (show am_cd 70 89 = (0, 90, 0, 1, []) by decide +kernel) ?_
    refine e_iand (show am_cd 70 90 = (5, 91, 3, 0, []) by decide +kernel) ?_
    refine e_ldi (show am_cd 70 91 = (2, 92, 2, 0, []) by decide +kernel) rfl ?_
    refine e_ishl (show am_cd 70 92 = (5, 93, 6, 0, []) by decide +kernel) ?_
    refine e_ior (show am_cd 70 93 = (5, 94, 4, 0, []) by decide +kernel) ?_
    refine e_iast (a := 23) (n := 17) (show am_cd 70 94 = (24, 95, 0, 0, []) by decide +kernel) (by decide +kernel) (by decide +kernel) (by decide +kernel) h.1 ?_
    replace h := h.2
    refine e_lda (v := 15) (show am_cd 70 95 = (2, 96, 0, 2, []) by decide +kernel) rfl ?_
    refine e_getr (a := 15) (r := 24) (show am_cd 70 96 = (18, 99, 708, 2, [36]) by decide +kernel) (by decide +kernel) (by decide +kernel) rfl ?_
    refine e_ldi (show am_cd 70 99 = (2, 100, 3, 0, []) by decide +kernel) rfl ?_
    refine e_dup2 (show am_cd 70 100 = (14, 101, 0, 0, []) by decide +kernel) (by decide) ?_
    refine e_ialdE (a := 24) (n := 17) (v := w 24 (w32 p).toNat) (show am_cd 70 101 = (21, 102, 0, 0, []) by decide +kernel) (by decide +kernel) (by decide +kernel) (by decide +kernel) h.1 rfl ?_
    replace h := h.2
    refine e_lda (v := 15) (show am_cd 70 102 = (2, 103, 0, 2, []) by decide +kernel) rfl ?_
    refine e_getr (a := 15) (r := 21) (show am_cd 70 103 = (18, 106, 705, 2, [27]) by decide +kernel) (by decide +kernel) (by decide +kernel) rfl ?_
    refine e_ldi (show am_cd 70 106 = (2, 107, 2, 0, []) by decide +kernel) rfl ?_
    refine e_ialdE (a := 21) (n := 9) (v := w 21 (w32 rr).toNat) (show am_cd 70 107 = (21, 108, 0, 0, []) by decide +kernel) (by decide +kernel) (by decide +kernel) (by decide +kernel) h.1 rfl ?_
    replace h := h.2
    refine e_ldi (show am_cd 70 108 = (2, 109, 3, 0, []) by decide +kernel) rfl ?_
    refine e_ishr (show am_cd 70 109 = (5, 110, 7, 0, []) by decide +kernel) ?_
    refine e_ic (show am_cd 70 110 = (0, 111, 0, 1, []) by decide +kernel) ?_
    refine e_iand (show am_cd 70 111 = (5, 112, 3, 0, []) by decide +kernel) ?_
    refine e_ldi (show am_cd 70 112 = (2, 113, 2, 0, []) by decide +kernel) rfl ?_
    refine e_ishl (show am_cd 70 113 = (5, 114, 6, 0, []) by decide +kernel) ?_
    refine e_ior (show am_cd 70 114 = (5, 115, 4, 0, []) by decide +kernel) ?_
    refine e_iast (a := 24) (n := 17) (show am_cd 70 115 = (24, 116, 0, 0, []) by decide +kernel) (by decide +kernel) (by decide +kernel) (by decide +kernel) h.1 ?_
    replace h := h.2
    refine e_lda (v := 15) (show am_cd 70 116 = (2, 117, 0, 2, []) by decide +kernel) rfl ?_
    refine e_getr (a := 15) (r := 25) (show am_cd 70 117 = (18, 120, 709, 2, [39]) by decide +kernel) (by decide +kernel) (by decide +kernel) rfl ?_
    refine e_ldi (show am_cd 70 120 = (2, 121, 3, 0, []) by decide +kernel) rfl ?_
    refine e_dup2 (show am_cd 70 121 = (14, 122, 0, 0, []) by decide +kernel) (by decide) ?_
    refine e_ialdE (a := 25) (n := 17) (v := w 25 (w32 p).toNat) (show am_cd 70 122 = (21, 123, 0, 0, []) by decide +kernel) (by decide +kernel) (by decide +kernel) (by decide +kernel) h.1 rfl ?_
    replace h := h.2
    refine e_lda (v := 15) (show am_cd 70 123 = (2, 124, 0, 2, []) by decide +kernel) rfl ?_
    refine e_getr (a := 15) (r := 22) (show am_cd 70 124 = (18, 127, 706, 2, [30]) by decide +kernel) (by decide +kernel) (by decide +kernel) rfl ?_
    refine e_ldi (show am_cd 70 127 = (2, 128, 2, 0, []) by decide +kernel) rfl ?_
    refine e_ialdE (a := 22) (n := 9) (v := w 22 (w32 rr).toNat) (show am_cd 70 128 = (21, 129, 0, 0, []) by decide +kernel) (by decide +kernel) (by decide +kernel) (by decide +kernel) h.1 rfl ?_
    replace h := h.2
    refine e_ldi (show am_cd 70 129 = (2, 130, 3, 0, []) by decide +kernel) rfl ?_
    refine e_ishr (show am_cd 70 130 = (5, 131, 7, 0, []) by decide +kernel) ?_
    refine e_ic (show am_cd 70 131 = (0, 132, 0, 1, []) by decide +kernel) ?_
    refine e_iand (show am_cd 70 132 = (5, 133, 3, 0, []) by decide +kernel) ?_
    refine e_ldi (show am_cd 70 133 = (2, 134, 2, 0, []) by decide +kernel) rfl ?_
    refine e_ishl (show am_cd 70 134 = (5, 135, 6, 0, []) by decide +kernel) ?_
    refine e_ior (show am_cd 70 135 = (5, 136, 4, 0, []) by decide +kernel) ?_
    refine e_iast (a := 25) (n := 17) (show am_cd 70 136 = (24, 137, 0, 0, []) by decide +kernel) (by decide +kernel) (by decide +kernel) (by decide +kernel) h.1 ?_
    replace h := h.2
    refine e_inc (la2 := [rA 15, rA 8, (0, rr), (0, p + 1)]) (show am_cd 70 137 = (4, 140, 3, 1, []) by decide +kernel) rfl rfl ?_
    refine e_go (show am_cd 70 140 = (12, 68, 0, 0, []) by decide +kernel) ?_
    exact h

theorem g_learn3 {d : Nat} {Q : Option aV → aS → Prop} {w : eW} {t : eT} {rr p : Int} {m : eW} (h : Ev (d + 2) 70 Q 58 [rA 15, rA 8, (0, rr + 1), (0, p)] [] (enc w t)) : Ev (d + 2) 70 Q 149 [rA 15, rA 8, (0, rr), (0, p)] [] (enc w t) := by
  refine e_inc (la2 := [rA 15, rA 8, (0, rr + 1), (0, p)]) (show am_cd 70 149 = (4, 152, 2, 1, []) by decide +kernel) rfl rfl ?_
  refine e_go (show am_cd 70 152 = (12, 58, 0, 0, []) by decide +kernel) ?_
  exact h

def LnJ (m w0 : eW) (r p : Nat) (w1 : eW) : Prop := Fc [23, 24, 25, 26, 27] [(15, 16), (15, 17)] w0 w1 ∧ (w1 15 16 = ((2 ^ nP m - 1 : Nat) : Int) ∧ w1 15 17 = (insB m : Int)) ∧ ∀ q, q < 17 → w1 23 q = ((bts (fun r => ff m r q) (if q < p then r + 1 else r) : Nat) : Int) ∧ w1 24 q = ((bts (fun r => nf m r q) (if q < p then r + 1 else r) : Nat) : Int) ∧ w1 25 q = ((bts (fun r => bf m r q) (if q < p then r + 1 else r) : Nat) : Int) ∧ w1 26 q = ((bts (fun r => mu m r q) r : Nat) : Int) ∧ w1 27 q = ((bts (fun r => ba m r q) r : Nat) : Int)
theorem RC.fc {w w2 m : eW} {R : List Nat} {F : List (Nat × Nat)} (h : RC w m) (hf : Fc R F w w2) (hR : ∀ a ∈ R, a < 15 ∨ 22 < a) (hF : F.all (fun p => decide (p.1 < 15) || decide (22 < p.1) || (decide (p.1 = 15) && !decide (p.2 = 12))) = true) : RC w2 m := by
  have hF2 : ∀ a k, 15 ≤ a → a ≤ 22 → (a = 15 → k = 12) → w2 a k = w a k := fun a k h1 h2 h3 => hf a k (fun h9 => by have := hR a h9; omega) (fun h9 => by
    have := List.all_eq_true.mp hF _ h9
    simp at this
    omega)
  refine ⟨by rw [hF2 15 12 (by omega) (by omega) (fun _ => rfl)]; exact h.1, fun r hr => ?_⟩
  have := h.2 r hr
  rw [hF2 16 r (by omega) (by omega) (by omega), hF2 17 r (by omega) (by omega) (by omega), hF2 18 r (by omega) (by omega) (by omega), hF2 19 r (by omega) (by omega) (by omega), hF2 20 r (by omega) (by omega) (by omega), hF2 21 r (by omega) (by omega) (by omega), hF2 22 r (by omega) (by omega) (by omega)]
  exact this
theorem ldS_b {m : eW} {r p : Nat} {a : Nat} {F : Nat → Nat → Bool} {w w2 : eW} (hr : r < 9) (hp : p < 17) (h : ldS m r a (F r) w w2) (h1 : w a p = ((bts (fun r => F r p) r : Nat) : Int)) : w2 a p = ((bts (fun r => F r p) (r + 1) : Nat) : Int) := by
  rw [h p hp, h1, show bts (fun r => F r p) (r + 1) = bts (fun r => F r p) r ||| (if F r p then 2 ^ r else 0) from rfl]
  cases F r p with
  | true =>
    show ior _ _ = ((bts (fun r => F r p) r ||| 2 ^ r : Nat) : Int)
    exact bts_setI (by omega)
  | false =>
    show _ = ((bts (fun r => F r p) r ||| 0 : Nat) : Int)
    rw [Nat.or_zero]
    rfl
theorem c_learn {d : Nat} {w m : eW} {t : eT} (h : RC w m ∧ AC w m ∧ WFp m ∧ WFr m) : Cl (d + 2) 70 [rA 15, rA 8] (enc w t) (fun z S2 => ∃ w2, z = none ∧ S2 = enc w2 t ∧ Fc [23, 24, 25, 26, 27] [(15, 16), (15, 17)] w w2 ∧ LN w2 m) := by
  obtain ⟨hR, hA, hp, hr⟩ := h
  have hn := hr.n
  have hpn := hp.n
  refine g_learn (m := m) ⟨⟨hA, hp⟩, ⟨by decide, by decide, by decide, by decide⟩, ⟨by decide, by decide, by decide, by decide⟩, ⟨by decide, by decide, by decide, by decide⟩, ⟨by decide, by decide, by decide, by decide⟩, ⟨by decide, by decide, by decide, by decide⟩, ?_⟩
  refine lq2 (σ := eW) (τ := aV) (fun r w1 J => Ev (d + 2) 70 (fun z S2 => ∃ w2, z = none ∧ S2 = enc w2 t ∧ Fc [23, 24, 25, 26, 27] [(15, 16), (15, 17)] w w2 ∧ LN w2 m) 58 [rA 15, rA 8, (0, (r : Int)), J] [] (enc w1 t)) (fun r w1 => LnJ m w r 0 w1) (nR m) ?_ ?_ 0 _ (9, 0) (Nat.zero_le _) ?_
  · intro r w1 J hrl hI hE
    have hR1 : RC w1 m := hR.fc hI.1 (by decide) (by decide)
    refine g_learn1 (m := m) ⟨fun h9 => absurd h9 (by rw [hR1.1, ← hn.1, w32_id (by omega), w32_id (by omega)]; omega), fun _ => ?_⟩
    refine lq1 (σ := eW) (fun p w2 => Ev (d + 2) 70 (fun z S2 => ∃ w2, z = none ∧ S2 = enc w2 t ∧ Fc [23, 24, 25, 26, 27] [(15, 16), (15, 17)] w w2 ∧ LN w2 m) 68 [rA 15, rA 8, (0, (r : Int)), (0, (p : Int))] [] (enc w2 t)) (fun p w2 => LnJ m w r p w2) 17 ?_ ?_ 0 w1 (by omega) hI
    · intro p w2 hpl hJ hE2
      have hR2 : RC w2 m := hR.fc hJ.1 (by decide) (by decide)
      obtain ⟨_, _, _, _, e20, e21, e22⟩ := hR2.2 r hrl
      obtain ⟨q1, q2, q3, _, _⟩ := hJ.2.2 p hpl
      rw [if_neg (Nat.lt_irrefl p)] at q1 q2 q3
      have s1 := farB_s hp hr hrl
      have s2 := nearB_s hp hr hrl
      have s3 := behB_s hp hr hrl
      have rr : (0 : Int) ≤ (r : Int) ∧ (r : Int) < 9 := by omega
      have pp : (0 : Int) ≤ (p : Int) ∧ (p : Int) < 17 := by omega
      refine g_learn2 (m := m) ⟨fun h9 => absurd h9 (by rw [w32_id (by omega), w32_id (by omega)]; omega), fun _ => ?_⟩
      rw [w32_id (x := (r : Int)) (by omega), w32_id (x := (p : Int)) (by omega), Int.toNat_natCast, Int.toNat_natCast, e20, e21, e22, q1, q2, q3, orS (F := fun r => ff m r p) (by omega) s1.1 hpl (s1.2 p hpl), orS (F := fun r => nf m r p) (by omega) s2.1 hpl (s2.2 p hpl), orS (F := fun r => bf m r p) (by omega) s3.1 hpl (s3.2 p hpl)]
      refine ⟨pp, rr, pp, pp, rr, pp, pp, rr, pp, hE2 _ ⟨((hJ.1.tr (Fc.pr (by decide))).tr (Fc.pr (by decide))).tr (Fc.pr (by decide)), hJ.2.1, fun q hq => ?_⟩⟩
      have hz := hJ.2.2 q hq
      by_cases h9 : q = p
      · subst h9
        rw [if_pos (Nat.lt_succ_self q)]
        refine ⟨by simp [wu], by simp [wu], by simp [wu], ?_, ?_⟩
        · simp only [wu]; simp; exact hz.2.2.2.1
        · simp only [wu]; simp; exact hz.2.2.2.2
      · rw [show (if q < p + 1 then r + 1 else r) = (if q < p then r + 1 else r) by (by_cases h8 : q < p; rw [if_pos h8, if_pos (by omega)]; rw [if_neg h8, if_neg (by omega)])]
        simp only [wu, h9, and_false, if_false]
        exact hz
    · intro w2 hJ
      have hR2 : RC w2 m := hR.fc hJ.1 (by decide) (by decide)
      have hA2 : AC w2 m := hA.fc hJ.1 (by decide) (by decide)
      refine g_learn2 (m := m) ⟨fun _ => ?_, fun h9 => absurd (Int.le_refl _) h9⟩
      refine (c_ld (r := r) ⟨hR2, hA2, hp, hr, hrl⟩).mono (fun z S2 hz => ?_)
      obtain ⟨w3, rfl, rfl, f3, s26, s27⟩ := hz
      refine ⟨fun _ h9 => (by cases h9), g_learn3 (m := m) (hE w3 _ ⟨hJ.1.tr (f3.mo (by decide) (by decide)), ?_, fun q hq => ?_⟩)⟩
      · rw [f3 _ _ (by decide) (by decide), f3 _ _ (by decide) (by decide)]; exact hJ.2.1
      · obtain ⟨q1, q2, q3, q4, q5⟩ := hJ.2.2 q hq
        rw [if_pos hq] at q1 q2 q3
        rw [if_neg (Nat.not_lt_zero q)]
        rw [f3.row (a := 23) (by decide) (by decide), f3.row (a := 24) (by decide) (by decide), f3.row (a := 25) (by decide) (by decide)]
        exact ⟨q1, q2, q3, ldS_b (F := fun r q => mu m r q) (by omega) hq s26 q4, ldS_b (F := fun r q => ba m r q) (by omega) hq s27 q5⟩
  · intro w1 J hI
    have hR1 : RC w1 m := hR.fc hI.1 (by decide) (by decide)
    refine g_learn1 (m := m) ⟨fun _ => ⟨w1, rfl, rfl, hI.1, hI.2.1, fun q hq => ?_⟩, fun h9 => absurd (by rw [hR1.1, hn.1]; exact Int.le_refl _) h9⟩
    have := hI.2.2 q hq
    rw [if_neg (Nat.not_lt_zero q)] at this
    exact this
  · refine ⟨((((((Fc.pf (by decide)).tr (Fc.pf (by decide))).tr (Fc.wfl (by decide))).tr (Fc.wfl (by decide))).tr (Fc.wfl (by decide))).tr (Fc.wfl (by decide))).tr (Fc.wfl (by decide)), ⟨?_, ?_⟩, fun q hq => ?_⟩
    · rw [wfl_na (by decide), wfl_na (by decide), wfl_na (by decide), wfl_na (by decide), wfl_na (by decide)]; rfl
    · rw [wfl_na (by decide), wfl_na (by decide), wfl_na (by decide), wfl_na (by decide), wfl_na (by decide)]; exact hA.2.2.2
    · rw [if_neg (Nat.not_lt_zero q)]
      refine ⟨?_, ?_, ?_, ?_, ?_⟩
      · rw [wfl_na (by decide), wfl_na (by decide), wfl_na (by decide), wfl_na (by decide), wfl_at hq]; rfl
      · rw [wfl_na (by decide), wfl_na (by decide), wfl_na (by decide), wfl_at hq]; rfl
      · rw [wfl_na (by decide), wfl_na (by decide), wfl_at hq]; rfl
      · rw [wfl_na (by decide), wfl_at hq]; rfl
      · rw [wfl_at hq]; rfl

theorem g_kd {d : Nat} {Q : Option aV → aS → Prop} {w : eW} {t : eT} {v : Int} (h : ((w32 8 ≤ w32 (w 15 12) → Q none (enc w t)) ∧ (¬ (w32 8 ≤ w32 (w 15 12)) → (0 ≤ w32 (w 15 12) ∧ w32 (w 15 12) < 9) ∧ (Q none (enc (wu (wu w 16 (w32 (w 15 12)).toNat v) 15 12 ((w 15 12) + 1)) t))))) : Cl (d) 68 [rA 15, (0, v)] (enc w t) Q := by
  show Ev (d) 68 Q 0 [rA 15, (0, v)] [] (enc w t)
  refine e_lda (v := 15) (show am_cd 68 0 = (2, 1, 0, 2, []) by decide +kernel) rfl ?_
  refine e_getf (a := 15) (tg := 0) (show am_cd 68 1 = (18, 4, 712, 0, [82]) by decide +kernel) (by decide +kernel) (by decide +kernel) rfl ?_
  refine e_ic (show am_cd 68 4 = (0, 6, 1, 8, []) by decide +kernel) ?_
  refine e_cmp3 (show am_cd 68 6 = (11, 9, 29, 3, []) by decide +kernel) (fun hc => ?_) (fun hc => ?_)
  · replace h := h.1 hc
    exact e_retv (show am_cd 68 29 = (36, 30, 3, 0, []) by decide +kernel) (by decide +kernel) h
  · replace h := h.2 hc
    refine e_lda (v := 15) (show am_cd 68 9 = (2, 10, 0, 2, []) by decide +kernel) rfl ?_
    refine e_getr (a := 15) (r := 16) (show am_cd 68 10 = (18, 13, 700, 2, [9]) by decide +kernel) (by decide +kernel) (by decide +kernel) rfl ?_
    refine e_lda (v := 15) (show am_cd 68 13 = (2, 14, 0, 2, []) by decide +kernel) rfl ?_
    refine e_getf (a := 15) (tg := 0) (show am_cd 68 14 = (18, 17, 712, 0, [82]) by decide +kernel) (by decide +kernel) (by decide +kernel) rfl ?_
    refine e_ldi (show am_cd 68 17 = (2, 18, 1, 0, []) by decide +kernel) rfl ?_
    refine e_iast (a := 16) (n := 9) (show am_cd 68 18 = (24, 19, 0, 0, []) by decide +kernel) (by decide +kernel) (by decide +kernel) (by decide +kernel) h.1 ?_
    replace h := h.2
    refine e_lda (v := 15) (show am_cd 68 19 = (2, 20, 0, 2, []) by decide +kernel) rfl ?_
    refine e_dup (show am_cd 68 20 = (13, 21, 0, 0, []) by decide +kernel) (by decide) ?_
    refine e_getfE (a := 15) (tg := 0) (v := w 15 12) (show am_cd 68 21 = (18, 24, 712, 0, [82]) by decide +kernel) (by decide +kernel) (by decide +kernel) rfl rfl ?_
    refine e_ic (show am_cd 68 24 = (0, 25, 0, 1, []) by decide +kernel) ?_
    refine e_iadd (show am_cd 68 25 = (5, 26, 0, 0, []) by decide +kernel) ?_
    refine e_putf (a := 15) (show am_cd 68 26 = (19, 29, 712, 0, [82]) by decide +kernel) (by decide +kernel) (by decide +kernel) rfl (fun h9 => absurd h9 (by decide)) (fun h9 => absurd h9 (by decide +kernel)) ?_
    exact e_retv (show am_cd 68 29 = (36, 30, 3, 0, []) by decide +kernel) (by decide +kernel) h

theorem g_rem {d : Nat} {Q : Option aV → aS → Prop} {w : eW} {t : eT} {a : Int} (h : Ev (d) 69 Q 2 [rA 15, (0, a), (0, a)] [] (enc w t)) : Cl (d) 69 [rA 15, (0, a)] (enc w t) Q := by
  show Ev (d) 69 Q 0 [rA 15, (0, a), (9, 0)] [] (enc w t)
  refine e_ldi (show am_cd 69 0 = (2, 1, 1, 0, []) by decide +kernel) rfl ?_
  refine e_sti (la2 := [rA 15, (0, a), (0, a)]) (show am_cd 69 1 = (3, 2, 2, 0, []) by decide +kernel) rfl ?_
  exact h

theorem g_rem1 {d : Nat} {Q : Option aV → aS → Prop} {w : eW} {t : eT} {a k : Int} (h : ((w32 (w 15 12) ≤ w32 (k + 1) → Q none (enc (wu w 15 12 ((w 15 12) - 1)) t)) ∧ (¬ (w32 (w 15 12) ≤ w32 (k + 1)) → (0 ≤ w32 (k + 1) ∧ w32 (k + 1) < 9) ∧ (0 ≤ w32 k ∧ w32 k < 9) ∧ (0 ≤ w32 (k + 1) ∧ w32 (k + 1) < 9) ∧ (0 ≤ w32 k ∧ w32 k < 9) ∧ (0 ≤ w32 (k + 1) ∧ w32 (k + 1) < 9) ∧ (0 ≤ w32 k ∧ w32 k < 9) ∧ (0 ≤ w32 (k + 1) ∧ w32 (k + 1) < 9) ∧ (0 ≤ w32 k ∧ w32 k < 9) ∧ (0 ≤ w32 (k + 1) ∧ w32 (k + 1) < 9) ∧ (0 ≤ w32 k ∧ w32 k < 9) ∧ (0 ≤ w32 (k + 1) ∧ w32 (k + 1) < 9) ∧ (0 ≤ w32 k ∧ w32 k < 9) ∧ (0 ≤ w32 (k + 1) ∧ w32 (k + 1) < 9) ∧ (0 ≤ w32 k ∧ w32 k < 9) ∧ (Ev (d) 69 Q 2 [rA 15, (0, a), (0, k + 1)] [] (enc (wu (wu (wu (wu (wu (wu (wu w 16 (w32 k).toNat (w 16 (w32 (k + 1)).toNat)) 17 (w32 k).toNat (w 17 (w32 (k + 1)).toNat)) 18 (w32 k).toNat (w 18 (w32 (k + 1)).toNat)) 19 (w32 k).toNat (w 19 (w32 (k + 1)).toNat)) 20 (w32 k).toNat (w 20 (w32 (k + 1)).toNat)) 21 (w32 k).toNat (w 21 (w32 (k + 1)).toNat)) 22 (w32 k).toNat (w 22 (w32 (k + 1)).toNat)) t))))) : Ev (d) 69 Q 2 [rA 15, (0, a), (0, k)] [] (enc w t) := by
  refine e_ldi (show am_cd 69 2 = (2, 3, 2, 0, []) by decide +kernel) rfl ?_
  refine e_ic (show am_cd 69 3 = (0, 4, 0, 1, []) by decide +kernel) ?_
  refine e_iadd (show am_cd 69 4 = (5, 5, 0, 0, []) by decide +kernel) ?_
  refine e_lda (v := 15) (show am_cd 69 5 = (2, 6, 0, 2, []) by decide +kernel) rfl ?_
  refine e_getf (a := 15) (tg := 0) (show am_cd 69 6 = (18, 9, 712, 0, [82]) by decide +kernel) (by decide +kernel) (by decide +kernel) rfl ?_
  refine e_cmp3 (show am_cd 69 9 = (11, 12, 116, 3, []) by decide +kernel) (fun hc => ?_) (fun hc => ?_)
  · replace h := h.1 hc
    refine e_lda (v := 15) (show am_cd 69 116 = (2, 117, 0, 2, []) by decide +kernel) rfl ?_
    refine e_dup (show am_cd 69 117 = (13, 118, 0, 0, []) by decide +kernel) (by decide) ?_
    refine e_getf (a := 15) (tg := 0) (show am_cd 69 118 = (18, 121, 712, 0, [82]) by decide +kernel) (by decide +kernel) (by decide +kernel) rfl ?_
    refine e_ic (show am_cd 69 121 = (0, 122, 0, 1, []) by decide +kernel) ?_
    refine e_isub (show am_cd 69 122 = (5, 123, 1, 0, []) by decide +kernel) ?_
    refine e_putf (a := 15) (show am_cd 69 123 = (19, 126, 712, 0, [82]) by decide +kernel) (by decide +kernel) (by decide +kernel) rfl (fun h9 => absurd h9 (by decide)) (fun h9 => absurd h9 (by decide +kernel)) ?_
    exact e_retv (show am_cd 69 126 = (36, 127, 3, 0, []) by decide +kernel) (by decide +kernel) h
  · replace h := h.2 hc
    refine e_lda (v := 15) (show am_cd 69 12 = (2, 13, 0, 2, []) by decide +kernel) rfl ?_
    refine e_getr (a := 15) (r := 16) (show am_cd 69 13 = (18, 16, 700, 2, [9]) by decide +kernel) (by decide +kernel) (by decide +kernel) rfl ?_
    refine e_ldi (show am_cd 69 16 = (2, 17, 2, 0, []) by decide +kernel) rfl ?_
    refine e_lda (v := 15) (show am_cd 69 17 = (2, 18, 0, 2, []) by decide +kernel) rfl ?_
    refine e_getr (a := 15) (r := 16) (show am_cd 69 18 = (18, 21, 700, 2, [9]) by decide +kernel) (by decide +kernel) (by decide +kernel) rfl ?_
    refine e_ldi (show am_cd 69 21 = (2, 22, 2, 0, []) by decide +kernel) rfl ?_
    refine e_ic (show am_cd 69 22 = (0, 23, 0, 1, []) by decide +kernel) ?_
    refine e_iadd (show am_cd 69 23 = (5, 24, 0, 0, []) by decide +kernel) ?_
    refine e_iald (a := 16) (n := 9) (show am_cd 69 24 = (21, 25, 0, 0, []) by decide +kernel) (by decide +kernel) (by decide +kernel) (by decide +kernel) h.1 ?_
    replace h := h.2
    refine e_iast (a := 16) (n := 9) (show am_cd 69 25 = (24, 26, 0, 0, []) by decide +kernel) (by decide +kernel) (by decide +kernel) (by decide +kernel) h.1 ?_
    replace h := h.2
    refine e_lda (v := 15) (show am_cd 69 26 = (2, 27, 0, 2, []) by decide +kernel) rfl ?_
    refine e_getr (a := 15) (r := 17) (show am_cd 69 27 = (18, 30, 701, 2, [15]) by decide +kernel) (by decide +kernel) (by decide +kernel) rfl ?_
    refine e_ldi (show am_cd 69 30 = (2, 31, 2, 0, []) by decide +kernel) rfl ?_
    refine e_lda (v := 15) (show am_cd 69 31 = (2, 32, 0, 2, []) by decide +kernel) rfl ?_
    refine e_getr (a := 15) (r := 17) (show am_cd 69 32 = (18, 35, 701, 2, [15]) by decide +kernel) (by decide +kernel) (by decide +kernel) rfl ?_
    refine e_ldi (show am_cd 69 35 = (2, 36, 2, 0, []) by decide +kernel) rfl ?_
    refine e_ic (show am_cd 69 36 = (0, 37, 0, 1, []) by decide +kernel) ?_
    refine e_iadd (show am_cd 69 37 = (5, 38, 0, 0, []) by decide +kernel) ?_
    refine e_ialdE (a := 17) (n := 9) (v := w 17 (w32 (k + 1)).toNat) (show am_cd 69 38 = (21, 39, 0, 0, []) by decide +kernel) (by decide +kernel) (by decide +kernel) (by decide +kernel) h.1 rfl ?_
    replace h := h.2
    refine e_iast (a := 17) (n := 9) (show am_cd 69 39 = (24, 40, 0, 0, []) by decide +kernel) (by decide +kernel) (by decide +kernel) (by decide +kernel) h.1 ?_
    replace h := h.2
    refine e_lda (v := 15) (show am_cd 69 40 = (2, 41, 0, 2, []) by decide +kernel) rfl ?_
    refine e_getr (a := 15) (r := 18) (show am_cd 69 41 = (18, 44, 702, 2, [18]) by decide +kernel) (by decide +kernel) (by decide +kernel) rfl ?_
    refine e_ldi (show am_cd 69 44 = (2, 45, 2, 0, []) by decide +kernel) rfl ?_
    refine e_lda (v := 15) (show am_cd 69 45 = (2, 46, 0, 2, []) by decide +kernel) rfl ?_
    refine e_getr (a := 15) (r := 18) (show am_cd 69 46 = (18, 49, 702, 2, [18]) by decide +kernel) (by decide +kernel) (by decide +kernel) rfl ?_
    refine e_ldi (show am_cd 69 49 = (2, 50, 2, 0, []) by decide +kernel) rfl ?_
    refine e_ic (show am_cd 69 50 = (0, 51, 0, 1, []) by decide +kernel) ?_
    refine e_iadd (show am_cd 69 51 = (5, 52, 0, 0, []) by decide +kernel) ?_
    refine e_ialdE (a := 18) (n := 9) (v := w 18 (w32 (k + 1)).toNat) (show am_cd 69 52 = (21, 53, 0, 0, []) by decide +kernel) (by decide +kernel) (by decide +kernel) (by decide +kernel) h.1 rfl ?_
    replace h := h.2
    refine e_iast (a := 18) (n := 9) (show am_cd 69 53 = (24, 54, 0, 0, []) by decide +kernel) (by decide +kernel) (by decide +kernel) (by decide +kernel) h.1 ?_
    replace h := h.2
    refine e_lda (v := 15) (show am_cd 69 54 = (2, 55, 0, 2, []) by decide +kernel) rfl ?_
    refine e_getr (a := 15) (r := 19) (show am_cd 69 55 = (18, 58, 703, 2, [21]) by decide +kernel) (by decide +kernel) (by decide +kernel) rfl ?_
    refine e_ldi (show am_cd 69 58 = (2, 59, 2, 0, []) by decide +kernel) rfl ?_
    refine e_lda (v := 15) (show am_cd 69 59 = (2, 60, 0, 2, []) by decide +kernel) rfl ?_
    refine e_getr (a := 15) (r := 19) (show am_cd 69 60 = (18, 63, 703, 2, [21]) by decide +kernel) (by decide +kernel) (by decide +kernel) rfl ?_
    refine e_ldi (show am_cd 69 63 = (2, 64, 2, 0, []) by decide +kernel) rfl ?_
    refine e_ic (show am_cd 69 64 = (0, 65, 0, 1, []) by decide +kernel) ?_
    refine e_iadd (show am_cd 69 65 = (5, 66, 0, 0, []) by decide +kernel) ?_
    refine e_ialdE (a := 19) (n := 9) (v := w 19 (w32 (k + 1)).toNat) (show am_cd 69 66 = (21, 67, 0, 0, []) by decide +kernel) (by decide +kernel) (by decide +kernel) (by decide +kernel) h.1 rfl ?_
    replace h := h.2
    refine e_iast (a := 19) (n := 9) (show am_cd 69 67 = (24, 68, 0, 0, []) by decide +kernel) (by decide +kernel) (by decide +kernel) (by decide +kernel) h.1 ?_
    replace h := h.2
    refine e_lda (v := 15) (show am_cd 69 68 = (2, 69, 0, 2, []) by decide +kernel) rfl ?_
    refine e_getr (a := 15) (r := 20) (show am_cd 69 69 = (18, 72, 704, 2, [24]) by decide +kernel) (by decide +kernel) (by decide +kernel) rfl ?_
    refine e_ldi (show am_cd 69 72 = (2, 73, 2, 0, []) by decide +kernel) rfl ?_
    refine e_lda (v := 15) (show am_cd 69 73 = (2, 74, 0, 2, []) by decide +kernel) rfl ?_
    refine e_getr (a := 15) (r := 20) (show am_cd 69 74 = (18, 77, 704, 2, [24]) by decide +kernel) (by decide +kernel) (by decide +kernel) rfl ?_
    refine e_ldi (show am_cd 69 77 = (2, 78, 2, 0, []) by decide +kernel) rfl ?_
    refine e_ic (show am_cd 69 78 = (0, 79, 0, 1, []) by decide +kernel) ?_
    refine e_iadd (show am_cd 69 79 = (5, 80, 0, 0, []) by decide +kernel) ?_
    refine e_ialdE (a := 20) (n := 9) (v := w 20 (w32 (k + 1)).toNat) (show am_cd 69 80 = (21, 81, 0, 0, []) by decide +kernel) (by decide +kernel) (by decide +kernel) (by decide +kernel) h.1 rfl ?_
    replace h := h.2
    refine e_iast (a := 20) (n := 9) (show am_cd 69 81 = (24, 82, 0, 0, []) by decide +kernel) (by decide +kernel) (by decide +kernel) (by decide +kernel) h.1 ?_
    replace h := h.2
    refine e_lda (v := 15) (show am_cd 69 82 = (2, 83, 0, 2, []) by decide +kernel) rfl ?_
    refine e_getr (a := 15) (r := 21) (show am_cd 69 83 = (18, 86, 705, 2, [27]) by decide +kernel) (by decide +kernel) (by decide +kernel) rfl ?_
    refine e_ldi (show am_cd 69 86 = (2, 87, 2, 0, []) by decide +kernel) rfl ?_
    refine e_lda (v := 15) (show am_cd 69 87 = (2, 88, 0, 2, []) by decide +kernel) rfl ?_
    refine e_getr (a := 15) (r := 21) (show am_cd 69 88 = (18, 91, 705, 2, [27]) by decide +kernel) (by decide +kernel) (by decide +kernel) rfl ?_
    refine e_ldi (show am_cd 69 91 = (2, 92, 2, 0, []) by decide +kernel) rfl ?_
    refine e_ic (show am_cd 69 92 = (0, 93, 0, 1, []) by decide +kernel) ?_
    refine e_iadd (show am_cd 69 93 = (5, 94, 0, 0, []) by decide +kernel) ?_
    refine e_ialdE (a := 21) (n := 9) (v := w 21 (w32 (k + 1)).toNat) (show am_cd 69 94 = (21, 95, 0, 0, []) by decide +kernel) (by decide +kernel) (by decide +kernel) (by decide +kernel) h.1 rfl ?_
    replace h := h.2
    refine e_iast (a := 21) (n := 9) (show am_cd 69 95 = (24, 96, 0, 0, []) by decide +kernel) (by decide +kernel) (by decide +kernel) (by decide +kernel) h.1 ?_
    replace h := h.2
    refine e_lda (v := 15) (show am_cd 69 96 = (2, 97, 0, 2, []) by decide +kernel) rfl ?_
    refine e_getr (a := 15) (r := 22) (show am_cd 69 97 = (18, 100, 706, 2, [30]) by decide +kernel) (by decide +kernel) (by decide +kernel) rfl ?_
    refine e_ldi (show am_cd 69 100 = (2, 101, 2, 0, []) by decide +kernel) rfl ?_
    refine e_lda (v := 15) (show am_cd 69 101 = (2, 102, 0, 2, []) by decide +kernel) rfl ?_
    refine e_getr (a := 15) (r := 22) (show am_cd 69 102 = (18, 105, 706, 2, [30]) by decide +kernel) (by decide +kernel) (by decide +kernel) rfl ?_
    refine e_ldi (show am_cd 69 105 = (2, 106, 2, 0, []) by decide +kernel) rfl ?_
    refine e_ic (show am_cd 69 106 = (0, 107, 0, 1, []) by decide +kernel) ?_
    refine e_iadd (show am_cd 69 107 = (5, 108, 0, 0, []) by decide +kernel) ?_
    refine e_ialdE (a := 22) (n := 9) (v := w 22 (w32 (k + 1)).toNat) (show am_cd 69 108 = (21, 109, 0, 0, []) by decide +kernel) (by decide +kernel) (by decide +kernel) (by decide +kernel) h.1 rfl ?_
    replace h := h.2
    refine e_iast (a := 22) (n := 9) (show am_cd 69 109 = (24, 110, 0, 0, []) by decide +kernel) (by decide +kernel) (by decide +kernel) (by decide +kernel) h.1 ?_
    replace h := h.2
    refine e_inc (la2 := [rA 15, (0, a), (0, k + 1)]) (show am_cd 69 110 = (4, 113, 2, 1, []) by decide +kernel) rfl rfl ?_
    refine e_go (show am_cd 69 113 = (12, 2, 0, 0, []) by decide +kernel) ?_
    exact h

theorem RC.draft {w m : eW} {pr so : Int} {ls : List Int} {ri : Option Int} {w4 : eW} (h : RC w m) (hr : WFr m) (hl : ls.length ≤ 2) (ho : Ot (nR m) w w4) (e16 : w4 16 (nR m) = pr) (e17 : w4 17 (nR m) = so) (hL : LfC w4 (nR m) ls) (hR : RtC w4 (nR m) ri) (e12 : w4 15 12 = m 67 6 + 1) : RC w4 (ruW m pr so ls ri) := by
  have hn := hr.n
  have nR2 : nR (ruW m pr so ls ri) = nR m + 1 := by unfold nR; rw [ruW_6]; omega
  refine ⟨by rw [e12, ruW_6], fun r hrl => ?_⟩
  rw [nR2] at hrl
  unfold farB nearB behB
  by_cases h9 : r = nR m
  · subst h9
    obtain ⟨n1, n2, n3, n4, n5, n6, n7⟩ := @ruW_new m pr so ls ri
    rw [n1, n2, n3, n4, n5, n6, n7]
    obtain ⟨l1, l2, l3⟩ := hL
    obtain ⟨r1, r2⟩ := hR
    refine ⟨e16, e17, l1, r1, ?_, ?_, ?_⟩
    · rw [l2]
      by_cases h2 : ls.length = 2
      · rw [if_pos h2, if_pos (by omega)]
      · rw [if_neg h2, if_neg (by omega)]
    · rw [l3]
      by_cases h2 : ls.length = 2
      · rw [if_pos h2, if_pos (show (ls.length : Int) = 2 by omega)]
      · rw [if_neg h2, if_neg (show ¬ (ls.length : Int) = 2 by omega)]
        by_cases h1 : ls.length = 1
        · rw [if_pos h1, if_pos (show (ls.length : Int) = 1 by omega)]
        · rw [if_neg h1, if_neg (show ¬ (ls.length : Int) = 1 by omega)]
    · rw [r2]
      cases ri with
      | none => rfl
      | some v => rfl
  · have hrl2 : r < nR m := by omega
    rw [ho 16 r (by omega) (by omega) h9, ho 17 r (by omega) (by omega) h9, ho 18 r (by omega) (by omega) h9, ho 19 r (by omega) (by omega) h9, ho 20 r (by omega) (by omega) h9, ho 21 r (by omega) (by omega) h9, ho 22 r (by omega) (by omega) h9]
    rw [ruW_old (by omega) hrl2, ruW_old (by omega) hrl2, ruW_old (by omega) hrl2, ruW_old (by omega) hrl2, ruW_oldf (by omega), ruW_oldf (by omega), ruW_oldf (by omega)]
    exact h.2 r hrl2
/-- rows 16 .. 22 moved down from r, up to k -/
def rmW (w : eW) (r k : Nat) : eW := fun a j => if (16 ≤ a ∧ a ≤ 22) ∧ r ≤ j ∧ j < k then w a (j + 1) else w a j
theorem rmW_a {w : eW} {r k a j : Nat} (ha : 16 ≤ a ∧ a ≤ 22) : rmW w r k a j = if r ≤ j ∧ j < k then w a (j + 1) else w a j := by
  unfold rmW
  by_cases h : r ≤ j ∧ j < k
  · rw [if_pos h, if_pos ⟨ha, h⟩]
  · rw [if_neg h, if_neg (fun h9 => h h9.2)]
theorem rmW_step {w : eW} {r k : Nat} (hk : r ≤ k) : wu (wu (wu (wu (wu (wu (wu (rmW w r k) 16 k (w 16 (k + 1))) 17 k (w 17 (k + 1))) 18 k (w 18 (k + 1))) 19 k (w 19 (k + 1))) 20 k (w 20 (k + 1))) 21 k (w 21 (k + 1))) 22 k (w 22 (k + 1)) = rmW w r (k + 1) := by
  funext a j
  by_cases ha : 16 ≤ a ∧ a ≤ 22
  · rw [rmW_a ha]
    by_cases hj : j = k
    · subst hj
      rw [if_pos (by omega)]
      rcases (by omega : a = 16 ∨ a = 17 ∨ a = 18 ∨ a = 19 ∨ a = 20 ∨ a = 21 ∨ a = 22) with e | e | e | e | e | e | e <;> subst e <;> simp [wu]
    · rw [wu_nk _ _ hj, wu_nk _ _ hj, wu_nk _ _ hj, wu_nk _ _ hj, wu_nk _ _ hj, wu_nk _ _ hj, wu_nk _ _ hj, rmW_a ha]
      by_cases h9 : r ≤ j ∧ j < k
      · rw [if_pos h9, if_pos (by omega)]
      · rw [if_neg h9, if_neg (by omega)]
  · rw [wu_na _ _ (by omega), wu_na _ _ (by omega), wu_na _ _ (by omega), wu_na _ _ (by omega), wu_na _ _ (by omega), wu_na _ _ (by omega), wu_na _ _ (by omega)]
    unfold rmW
    rw [if_neg (fun h9 => ha h9.1), if_neg (fun h9 => ha h9.1)]
theorem c_rem {d r n : Nat} {w : eW} {t : eT} (h : w 15 12 = (n : Int) ∧ n ≤ 8 ∧ r < n) : Cl d 69 [rA 15, (0, (r : Int))] (enc w t) (fun z S2 => z = none ∧ S2 = enc (wu (rmW w r (n - 1)) 15 12 ((n : Int) - 1)) t) := by
  obtain ⟨hn, h8, hr⟩ := h
  refine g_rem ?_
  have e12 : ∀ k, rmW w r k 15 12 = (n : Int) := fun k => hn
  have key := lp0 (fun k => Ev d 69 (fun z S2 => z = none ∧ S2 = enc (wu (rmW w r (n - 1)) 15 12 ((n : Int) - 1)) t) 2 [rA 15, (0, (r : Int)), (0, ((r + k : Nat) : Int))] [] (enc (rmW w r (r + k)) t)) (n - 1 - r) ?_ ?_ 0 (Nat.zero_le _)
  · have e : rmW w r (r + 0) = w := by
      funext a j
      unfold rmW
      rw [if_neg (by omega)]
    rw [e] at key
    exact key
  · intro k hk hE
    have k1 : (0 : Int) ≤ ((r + k : Nat) : Int) + 1 ∧ ((r + k : Nat) : Int) + 1 < 9 := by omega
    have k0 : (0 : Int) ≤ ((r + k : Nat) : Int) ∧ ((r + k : Nat) : Int) < 9 := by omega
    refine g_rem1 ⟨fun h9 => absurd h9 (by rw [e12, w32_id (by omega), w32_id (by omega)]; omega), fun _ => ?_⟩
    rw [w32_id (x := ((r + k : Nat) : Int) + 1) (by omega), w32_id (x := ((r + k : Nat) : Int)) (by omega), Int.toNat_natCast, show (((r + k : Nat) : Int) + 1).toNat = r + k + 1 by omega]
    refine ⟨k1, k0, k1, k0, k1, k0, k1, k0, k1, k0, k1, k0, k1, k0, ?_⟩
    have ov : ∀ a, 16 ≤ a → a ≤ 22 → rmW w r (r + k) a (r + k + 1) = w a (r + k + 1) := fun a h1 h2 => by rw [rmW_a ⟨h1, h2⟩, if_neg (by omega)]
    rw [ov 16 (by omega) (by omega), ov 17 (by omega) (by omega), ov 18 (by omega) (by omega), ov 19 (by omega) (by omega), ov 20 (by omega) (by omega), ov 21 (by omega) (by omega), ov 22 (by omega) (by omega), rmW_step (by omega)]
    exact hE
  · refine g_rem1 ⟨fun _ => ⟨rfl, ?_⟩, fun h9 => absurd (by rw [e12, w32_id (by omega), w32_id (by omega)]; omega) h9⟩
    rw [e12, show r + (n - 1 - r) = n - 1 by omega]
theorem RC.rem {w m w4 : eW} {r : Nat} (h : RC w m) (hr : WFr m) (hl : r < nR m) (e : ∀ a j, 16 ≤ a → a ≤ 22 → w4 a j = rmW w r (nR m - 1) a j) (e12 : w4 15 12 = m 67 6 - 1) : RC w4 (dropM m r) := by
  have hn := hr.n
  have hd := (dropM_n hr hl).1
  refine ⟨by rw [e12]; unfold dropM; simp, fun k hk => ?_⟩
  rw [hd] at hk
  unfold farB nearB behB
  rw [show dropM m r 76 (3 * k) = dropM m r 76 (3 * k + 0) from rfl, dropM_at (by omega), dropM_at (by omega), dropM_at (by omega), dropM_at (by omega), dropM_76 (by omega), dropM_76 (by omega), dropM_76 (by omega)]
  rw [e 16 k (by omega) (by omega), e 17 k (by omega) (by omega), e 18 k (by omega) (by omega), e 19 k (by omega) (by omega), e 20 k (by omega) (by omega), e 21 k (by omega) (by omega), e 22 k (by omega) (by omega)]
  have hq : ∀ a, 16 ≤ a → a ≤ 22 → rmW w r (nR m - 1) a k = w a (if r ≤ k then k + 1 else k) := fun a h1 h2 => by
    rw [rmW_a ⟨h1, h2⟩]
    by_cases h9 : r ≤ k
    · rw [if_pos h9, if_pos (by omega)]
    · rw [if_neg h9, if_neg (by omega)]
  rw [hq 16 (by omega) (by omega), hq 17 (by omega) (by omega), hq 18 (by omega) (by omega), hq 19 (by omega) (by omega), hq 20 (by omega) (by omega), hq 21 (by omega) (by omega), hq 22 (by omega) (by omega)]
  exact h.2 _ (by split <;> omega)

