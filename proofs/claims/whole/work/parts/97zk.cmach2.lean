/-! The class: the machine: regions. -/

theorem g_ltt0 {d : Nat} {Q : Option aV → aS → Prop} {w : eW} {t : eT} {s n : Int} (h : Ev (d + 1) 37 Q 2 [rA 37, (0, s), (0, n), (0, 0), (9, 0)] [] (enc w t)) : Cl (d + 1) 37 [rA 37, (0, s), (0, n)] (enc w t) Q := by
  show Ev (d + 1) 37 Q 0 [rA 37, (0, s), (0, n), (9, 0), (9, 0)] [] (enc w t)
  refine e_ic (show am_cd 37 0 = (0, 1, 0, 0, []) by decide +kernel) ?_
  refine e_sti (la2 := [rA 37, (0, s), (0, n), (0, 0), (9, 0)]) (show am_cd 37 1 = (3, 2, 3, 0, []) by decide +kernel) rfl ?_
  exact h

theorem g_ltt1 {d : Nat} {Q : Option aV → aS → Prop} {w : eW} {t : eT} {s n p : Int} {J : aV} (h : ((w32 16 ≤ w32 p → Q (some (0, 0)) (enc w t)) ∧ (¬ (w32 16 ≤ w32 p) → (dyK t (w 37 6) 20 ∧ 0 ≤ w32 ((s * 16) + p) ∧ w32 ((s * 16) + p) < dyL t (w 37 6)) ∧ ((w32 (w (w 37 6).toNat (w32 ((s * 16) + p)).toNat) = w32 (-1) → Ev (d + 1) 37 Q 2 [rA 37, (0, s), (0, n), (0, p + 1), (0, w (w 37 6).toNat (w32 ((s * 16) + p)).toNat)] [] (enc w t)) ∧ (¬ (w32 (w (w 37 6).toNat (w32 ((s * 16) + p)).toNat) = w32 (-1)) → (dyK t (w 37 5) 20 ∧ 0 ≤ w32 (w (w 37 6).toNat (w32 ((s * 16) + p)).toNat) ∧ w32 (w (w 37 6).toNat (w32 ((s * 16) + p)).toNat) < dyL t (w 37 5)) ∧ ((¬ w32 (w (w 37 5).toNat (w32 (w (w 37 6).toNat (w32 ((s * 16) + p)).toNat)).toNat) = w32 n → Ev (d + 1) 37 Q 2 [rA 37, (0, s), (0, n), (0, p + 1), (0, w (w 37 6).toNat (w32 ((s * 16) + p)).toNat)] [] (enc w t)) ∧ (¬ (¬ w32 (w (w 37 5).toNat (w32 (w (w 37 6).toNat (w32 ((s * 16) + p)).toNat)).toNat) = w32 n) → Q (some (0, 1)) (enc w t)))))))) : Ev (d + 1) 37 Q 2 [rA 37, (0, s), (0, n), (0, p), J] [] (enc w t) := by
  refine e_ldi (show am_cd 37 2 = (2, 3, 3, 0, []) by decide +kernel) rfl ?_
  refine e_ic (show am_cd 37 3 = (0, 5, 1, 16, []) by decide +kernel) ?_
  refine e_cmp3 (show am_cd 37 5 = (11, 8, 46, 3, []) by decide +kernel) (fun hc => ?_) (fun hc => ?_)
  · replace h := h.1 hc
    refine e_ic (show am_cd 37 46 = (0, 47, 0, 0, []) by decide +kernel) ?_
    exact e_retz (show am_cd 37 47 = (36, 48, 0, 0, []) by decide +kernel) (by decide +kernel) (Or.inl rfl) h
  · replace h := h.2 hc
    refine e_lda (v := 37) (show am_cd 37 8 = (2, 9, 0, 2, []) by decide +kernel) rfl ?_
    refine e_getf (a := 37) (tg := 2) (show am_cd 37 9 = (18, 12, 406, 2, [31]) by decide +kernel) (by decide +kernel) (by decide +kernel) rfl ?_
    refine e_ldi (show am_cd 37 12 = (2, 13, 1, 0, []) by decide +kernel) rfl ?_
    refine e_ic (show am_cd 37 13 = (0, 15, 1, 16, []) by decide +kernel) ?_
    refine e_imul (show am_cd 37 15 = (5, 16, 2, 0, []) by decide +kernel) ?_
    refine e_ldi (show am_cd 37 16 = (2, 17, 3, 0, []) by decide +kernel) rfl ?_
    refine e_iadd (show am_cd 37 17 = (5, 18, 0, 0, []) by decide +kernel) ?_
    refine e_ialdD (show am_cd 37 18 = (21, 19, 0, 0, []) by decide +kernel) h.1 ?_
    replace h := h.2
    refine e_sti (la2 := [rA 37, (0, s), (0, n), (0, p), (0, w (w 37 6).toNat (w32 ((s * 16) + p)).toNat)]) (show am_cd 37 19 = (3, 21, 4, 0, []) by decide +kernel) rfl ?_
    refine e_ldi (show am_cd 37 21 = (2, 23, 4, 0, []) by decide +kernel) rfl ?_
    refine e_ic (show am_cd 37 23 = (0, 24, 0, -1, []) by decide +kernel) ?_
    refine e_cmp0 (show am_cd 37 24 = (11, 27, 40, 0, []) by decide +kernel) (fun hc => ?_) (fun hc => ?_)
    · replace h := h.1 hc
      refine e_inc (la2 := [rA 37, (0, s), (0, n), (0, p + 1), (0, w (w 37 6).toNat (w32 ((s * 16) + p)).toNat)]) (show am_cd 37 40 = (4, 43, 3, 1, []) by decide +kernel) rfl rfl ?_
      refine e_go (show am_cd 37 43 = (12, 2, 0, 0, []) by decide +kernel) ?_
      exact h
    · replace h := h.2 hc
      refine e_lda (v := 37) (show am_cd 37 27 = (2, 28, 0, 2, []) by decide +kernel) rfl ?_
      refine e_getf (a := 37) (tg := 2) (show am_cd 37 28 = (18, 31, 405, 2, [28]) by decide +kernel) (by decide +kernel) (by decide +kernel) rfl ?_
      refine e_ldi (show am_cd 37 31 = (2, 33, 4, 0, []) by decide +kernel) rfl ?_
      refine e_ialdD (show am_cd 37 33 = (21, 34, 0, 0, []) by decide +kernel) h.1 ?_
      replace h := h.2
      refine e_ldi (show am_cd 37 34 = (2, 35, 2, 0, []) by decide +kernel) rfl ?_
      refine e_cmp1 (show am_cd 37 35 = (11, 38, 40, 1, []) by decide +kernel) (fun hc => ?_) (fun hc => ?_)
      · replace h := h.1 hc
        refine e_inc (la2 := [rA 37, (0, s), (0, n), (0, p + 1), (0, w (w 37 6).toNat (w32 ((s * 16) + p)).toNat)]) (show am_cd 37 40 = (4, 43, 3, 1, []) by decide +kernel) rfl rfl ?_
        refine e_go (show am_cd 37 43 = (12, 2, 0, 0, []) by decide +kernel) ?_
        exact h
      · replace h := h.2 hc
        refine e_ic (show am_cd 37 38 = (0, 39, 0, 1, []) by decide +kernel) ?_
        exact e_retz (show am_cd 37 39 = (36, 40, 0, 0, []) by decide +kernel) (by decide +kernel) (Or.inr rfl) h

theorem g_fewc0 {d : Nat} {Q : Option aV → aS → Prop} {w : eW} {t : eT} {p : Int} (h : Ev (d + 2) 38 Q 5 [rA 37, (0, p), (0, 7), (0, 0), (9, 0)] [] (enc w t)) : Cl (d + 2) 38 [rA 37, (0, p)] (enc w t) Q := by
  show Ev (d + 2) 38 Q 0 [rA 37, (0, p), (9, 0), (9, 0), (9, 0)] [] (enc w t)
  refine e_ic (show am_cd 38 0 = (0, 2, 1, 7, []) by decide +kernel) ?_
  refine e_sti (la2 := [rA 37, (0, p), (0, 7), (9, 0), (9, 0)]) (show am_cd 38 2 = (3, 3, 2, 0, []) by decide +kernel) rfl ?_
  refine e_ic (show am_cd 38 3 = (0, 4, 0, 0, []) by decide +kernel) ?_
  refine e_sti (la2 := [rA 37, (0, p), (0, 7), (0, 0), (9, 0)]) (show am_cd 38 4 = (3, 5, 3, 0, []) by decide +kernel) rfl ?_
  exact h

theorem g_fewc1 {d : Nat} {Q : Option aV → aS → Prop} {w : eW} {t : eT} {p f s : Int} {J : aV} (h : ((w32 (w 37 7) ≤ w32 s → Q (some (0, f)) (enc w t)) ∧ (¬ (w32 (w 37 7) ≤ w32 s) → (RgM w t (w 37 7).toNat ∧ ((0 : Int) ≤ s ∧ (s : Int) < w 37 7) ∧ (0 : Int) ≤ p ∧ (p : Int) < 16) ∧ (∀ x1, (x1 = mA w s.toNat p.toNat) → ((w32 x1 = w32 (-1) → Ev (d + 2) 38 Q 5 [rA 37, (0, p), (0, f), (0, s + 1), (0, x1)] [] (enc w t)) ∧ (¬ (w32 x1 = w32 (-1)) → (dyK t (w 37 4) 20 ∧ 0 ≤ w32 s ∧ w32 s < dyL t (w 37 4)) ∧ (dyK t (w 37 5) 20 ∧ 0 ≤ w32 x1 ∧ w32 x1 < dyL t (w 37 5)) ∧ (Ev (d + 2) 38 Q 5 [rA 37, (0, p), (0, if w32 (((w (w 37 4).toNat (w32 s).toNat) + 1) + (w (w 37 5).toNat (w32 x1).toNat)) < w32 f then (((w (w 37 4).toNat (w32 s).toNat) + 1) + (w (w 37 5).toNat (w32 x1).toNat)) else f), (0, s + 1), (0, x1)] [] (enc w t)))))))) : Ev (d + 2) 38 Q 5 [rA 37, (0, p), (0, f), (0, s), J] [] (enc w t) := by
  refine e_ldi (show am_cd 38 5 = (2, 6, 3, 0, []) by decide +kernel) rfl ?_
  refine e_lda (v := 37) (show am_cd 38 6 = (2, 7, 0, 2, []) by decide +kernel) rfl ?_
  refine e_getf (a := 37) (tg := 0) (show am_cd 38 7 = (18, 10, 407, 0, [38]) by decide +kernel) (by decide +kernel) (by decide +kernel) rfl ?_
  refine e_cmp3 (show am_cd 38 10 = (11, 13, 54, 3, []) by decide +kernel) (fun hc => ?_) (fun hc => ?_)
  · replace h := h.1 hc
    refine e_ldi (show am_cd 38 54 = (2, 55, 2, 0, []) by decide +kernel) rfl ?_
    exact e_reti (show am_cd 38 55 = (36, 56, 0, 0, []) by decide +kernel) (by decide +kernel) h
  · replace h := h.2 hc
    refine e_lda (v := 37) (show am_cd 38 13 = (2, 14, 0, 2, []) by decide +kernel) rfl ?_
    refine e_ldi (show am_cd 38 14 = (2, 15, 3, 0, []) by decide +kernel) rfl ?_
    refine e_ldi (show am_cd 38 15 = (2, 16, 1, 0, []) by decide +kernel) rfl ?_
    refine e_cV (z := 0) (a := 37) (as := [(0, s), (0, p)]) (rest := []) (show am_cd 38 16 = (40, 19, 41, 0, [96]) by decide +kernel) (by decide +kernel) rfl rfl (Nat.le_of_ble_eq_true rfl) rfl ?_
    refine Cl.mono (Cl.up (c_behU (d := d) h.1) (by omega)) ?_
    rintro _ _ ⟨x1, rfl, rfl, hp⟩
    refine ⟨fun _ h9 => (by cases h9), ?_⟩
    replace h := h.2 x1 hp
    show Ev _ 38 _ 19 [rA 37, (0, p), (0, f), (0, s), J] [(0, x1)] _
    refine e_sti (la2 := [rA 37, (0, p), (0, f), (0, s), (0, x1)]) (show am_cd 38 19 = (3, 21, 4, 0, []) by decide +kernel) rfl ?_
    refine e_ldi (show am_cd 38 21 = (2, 23, 4, 0, []) by decide +kernel) rfl ?_
    refine e_ic (show am_cd 38 23 = (0, 24, 0, -1, []) by decide +kernel) ?_
    refine e_cmp0 (show am_cd 38 24 = (11, 27, 48, 0, []) by decide +kernel) (fun hc => ?_) (fun hc => ?_)
    · replace h := h.1 hc
      refine e_inc (la2 := [rA 37, (0, p), (0, f), (0, s + 1), (0, x1)]) (show am_cd 38 48 = (4, 51, 3, 1, []) by decide +kernel) rfl rfl ?_
      refine e_go (show am_cd 38 51 = (12, 5, 0, 0, []) by decide +kernel) ?_
      exact h
    · replace h := h.2 hc
      refine e_ldi (show am_cd 38 27 = (2, 28, 2, 0, []) by decide +kernel) rfl ?_
      refine e_lda (v := 37) (show am_cd 38 28 = (2, 29, 0, 2, []) by decide +kernel) rfl ?_
      refine e_getf (a := 37) (tg := 2) (show am_cd 38 29 = (18, 32, 404, 2, [25]) by decide +kernel) (by decide +kernel) (by decide +kernel) rfl ?_
      refine e_ldi (show am_cd 38 32 = (2, 33, 3, 0, []) by decide +kernel) rfl ?_
      refine e_ialdD (show am_cd 38 33 = (21, 34, 0, 0, []) by decide +kernel) h.1 ?_
      replace h := h.2
      refine e_ic (show am_cd 38 34 = (0, 35, 0, 1, []) by decide +kernel) ?_
      refine e_iadd (show am_cd 38 35 = (5, 36, 0, 0, []) by decide +kernel) ?_
      refine e_lda (v := 37) (show am_cd 38 36 = (2, 37, 0, 2, []) by decide +kernel) rfl ?_
      refine e_getf (a := 37) (tg := 2) (show am_cd 38 37 = (18, 40, 405, 2, [28]) by decide +kernel) (by decide +kernel) (by decide +kernel) rfl ?_
      refine e_ldi (show am_cd 38 40 = (2, 42, 4, 0, []) by decide +kernel) rfl ?_
      refine e_ialdD (show am_cd 38 42 = (21, 43, 0, 0, []) by decide +kernel) h.1 ?_
      replace h := h.2
      refine e_iadd (show am_cd 38 43 = (5, 44, 0, 0, []) by decide +kernel) ?_
      refine e_min (z := 0) (show am_cd 38 44 = (33, 47, 10, 0, [76]) by decide +kernel) (Nat.le_of_ble_eq_true rfl) ?_
      refine e_sti (la2 := [rA 37, (0, p), (0, if w32 (((w (w 37 4).toNat (w32 s).toNat) + 1) + (w (w 37 5).toNat (w32 x1).toNat)) < w32 f then (((w (w 37 4).toNat (w32 s).toNat) + 1) + (w (w 37 5).toNat (w32 x1).toNat)) else f), (0, s), (0, x1)]) (show am_cd 38 47 = (3, 48, 2, 0, []) by decide +kernel) rfl ?_
      refine e_inc (la2 := [rA 37, (0, p), (0, if w32 (((w (w 37 4).toNat (w32 s).toNat) + 1) + (w (w 37 5).toNat (w32 x1).toNat)) < w32 f then (((w (w 37 4).toNat (w32 s).toNat) + 1) + (w (w 37 5).toNat (w32 x1).toNat)) else f), (0, s + 1), (0, x1)]) (show am_cd 38 48 = (4, 51, 3, 1, []) by decide +kernel) rfl rfl ?_
      refine e_go (show am_cd 38 51 = (12, 5, 0, 0, []) by decide +kernel) ?_
      exact h

theorem g_mt0 {d : Nat} {Q : Option aV → aS → Prop} {w : eW} {t : eT} (h : Ev (d + 3) 36 Q 2 [rA 37, (0, 0), (9, 0)] [] (enc w t)) : Cl (d + 3) 36 [rA 37] (enc w t) Q := by
  show Ev (d + 3) 36 Q 0 [rA 37, (9, 0), (9, 0)] [] (enc w t)
  refine e_ic (show am_cd 36 0 = (0, 1, 0, 0, []) by decide +kernel) ?_
  refine e_sti (la2 := [rA 37, (0, 0), (9, 0)]) (show am_cd 36 1 = (3, 2, 1, 0, []) by decide +kernel) rfl ?_
  exact h

theorem g_mt1 {d : Nat} {Q : Option aV → aS → Prop} {w : eW} {t : eT} {s : Int} {J : aV} (h5 : 0 ≤ w 37 5) (h : ((w32 (w 37 7) ≤ w32 s → Ev (d + 3) 36 Q 38 [rA 37, (0, 1), J] [] (enc w t)) ∧ (¬ (w32 (w 37 7) ≤ w32 s) → Cl (d + 2) 40 [rA 37, (0, s)] (enc w t) (fun r S2 => (∀ x, r ≠ some (6, x)) ∧ Ev (d + 3) 36 Q 20 [rA 37, (0, s), J] (r.toList ++ [(0, s), (2, w 37 5)]) S2)))) : Ev (d + 3) 36 Q 2 [rA 37, (0, s), J] [] (enc w t) := by
  refine e_ldi (show am_cd 36 2 = (2, 3, 1, 0, []) by decide +kernel) rfl ?_
  refine e_lda (v := 37) (show am_cd 36 3 = (2, 4, 0, 2, []) by decide +kernel) rfl ?_
  refine e_getf (a := 37) (tg := 0) (show am_cd 36 4 = (18, 7, 407, 0, [38]) by decide +kernel) (by decide +kernel) (by decide +kernel) rfl ?_
  refine e_cmp3 (show am_cd 36 7 = (11, 10, 36, 3, []) by decide +kernel) (fun hc => ?_) (fun hc => ?_)
  · replace h := h.1 hc
    refine e_ic (show am_cd 36 36 = (0, 37, 0, 1, []) by decide +kernel) ?_
    refine e_sti (la2 := [rA 37, (0, 1), J]) (show am_cd 36 37 = (3, 38, 1, 0, []) by decide +kernel) rfl ?_
    exact h
  · replace h := h.2 hc
    refine e_lda (v := 37) (show am_cd 36 10 = (2, 11, 0, 2, []) by decide +kernel) rfl ?_
    refine e_getf (a := 37) (tg := 2) (show am_cd 36 11 = (18, 14, 405, 2, [28]) by decide +kernel) (by decide +kernel) (by decide +kernel) rfl ?_
    refine e_ldi (show am_cd 36 14 = (2, 15, 1, 0, []) by decide +kernel) rfl ?_
    refine e_lda (v := 37) (show am_cd 36 15 = (2, 16, 0, 2, []) by decide +kernel) rfl ?_
    refine e_ldi (show am_cd 36 16 = (2, 17, 1, 0, []) by decide +kernel) rfl ?_
    refine e_cV (z := 0) (a := 37) (as := [(0, s)]) (rest := [(0, s), (2, w 37 5)]) (show am_cd 36 17 = (40, 20, 40, 0, [88]) by decide +kernel) (by decide +kernel) rfl rfl (Nat.le_of_ble_eq_true rfl) (by show (true && (true && (true && (decide (0 ≤ w 37 5) && true)))) = true; rw [decide_eq_true h5]; rfl) ?_
    exact h

theorem g_mt1b {d : Nat} {Q : Option aV → aS → Prop} {w : eW} {t : eT} {s y A : Int} {J : aV} (h : ((w32 y = 0 → (dyK t A 20 ∧ 0 ≤ w32 s ∧ w32 s < dyL t A) ∧ (Ev (d + 3) 36 Q 2 [rA 37, (0, s + 1), J] [] (enc (wu w A.toNat (w32 s).toNat 7) t))) ∧ (¬ (w32 y = 0) → (dyK t A 20 ∧ 0 ≤ w32 s ∧ w32 s < dyL t A) ∧ (Ev (d + 3) 36 Q 2 [rA 37, (0, s + 1), J] [] (enc (wu w A.toNat (w32 s).toNat 0) t))))) : Ev (d + 3) 36 Q 20 [rA 37, (0, s), J] [(0, y), (0, s), (2, A)] (enc w t) := by
  refine e_if0 (show am_cd 36 20 = (10, 23, 27, 0, []) by decide +kernel) (fun hc => ?_) (fun hc => ?_)
  · replace h := h.1 hc
    refine e_ic (show am_cd 36 27 = (0, 29, 1, 7, []) by decide +kernel) ?_
    refine e_iastD (show am_cd 36 29 = (24, 30, 0, 0, []) by decide +kernel) h.1 ?_
    replace h := h.2
    refine e_inc (la2 := [rA 37, (0, s + 1), J]) (show am_cd 36 30 = (4, 33, 1, 1, []) by decide +kernel) rfl rfl ?_
    refine e_go (show am_cd 36 33 = (12, 2, 0, 0, []) by decide +kernel) ?_
    exact h
  · replace h := h.2 hc
    refine e_ic (show am_cd 36 23 = (0, 24, 0, 0, []) by decide +kernel) ?_
    refine e_go (show am_cd 36 24 = (12, 29, 0, 0, []) by decide +kernel) ?_
    refine e_iastD (show am_cd 36 29 = (24, 30, 0, 0, []) by decide +kernel) h.1 ?_
    replace h := h.2
    refine e_inc (la2 := [rA 37, (0, s + 1), J]) (show am_cd 36 30 = (4, 33, 1, 1, []) by decide +kernel) rfl rfl ?_
    refine e_go (show am_cd 36 33 = (12, 2, 0, 0, []) by decide +kernel) ?_
    exact h

theorem g_mt2 {d : Nat} {Q : Option aV → aS → Prop} {w : eW} {t : eT} {n : Int} {J : aV} (h : ((w32 6 < w32 n → Q none (enc w t)) ∧ (¬ (w32 6 < w32 n) → Ev (d + 3) 36 Q 46 [rA 37, (0, n), (0, 0)] [] (enc w t)))) : Ev (d + 3) 36 Q 38 [rA 37, (0, n), J] [] (enc w t) := by
  refine e_ldi (show am_cd 36 38 = (2, 39, 1, 0, []) by decide +kernel) rfl ?_
  refine e_ic (show am_cd 36 39 = (0, 41, 1, 6, []) by decide +kernel) ?_
  refine e_cmp4 (show am_cd 36 41 = (11, 44, 94, 4, []) by decide +kernel) (fun hc => ?_) (fun hc => ?_)
  · replace h := h.1 hc
    exact e_retv (show am_cd 36 94 = (36, 95, 3, 0, []) by decide +kernel) (by decide +kernel) h
  · replace h := h.2 hc
    refine e_ic (show am_cd 36 44 = (0, 45, 0, 0, []) by decide +kernel) ?_
    refine e_sti (la2 := [rA 37, (0, n), (0, 0)]) (show am_cd 36 45 = (3, 46, 2, 0, []) by decide +kernel) rfl ?_
    exact h

theorem g_mt3 {d : Nat} {Q : Option aV → aS → Prop} {w : eW} {t : eT} {n s : Int} (h : ((w32 (w 37 7) ≤ w32 s → Ev (d + 3) 36 Q 38 [rA 37, (0, n + 1), (0, s)] [] (enc w t)) ∧ (¬ (w32 (w 37 7) ≤ w32 s) → (dyK t (w 37 5) 20 ∧ 0 ≤ w32 s ∧ w32 s < dyL t (w 37 5)) ∧ ((w32 (w (w 37 5).toNat (w32 s).toNat) ≤ w32 n → Ev (d + 3) 36 Q 46 [rA 37, (0, n), (0, s + 1)] [] (enc w t)) ∧ (¬ (w32 (w (w 37 5).toNat (w32 s).toNat) ≤ w32 n) → Cl (d + 2) 37 [rA 37, (0, s), (0, n - 1)] (enc w t) (fun r S2 => (∀ x, r ≠ some (6, x)) ∧ Ev (d + 3) 36 Q 72 [rA 37, (0, n), (0, s)] (r.toList ++ []) S2)))))) : Ev (d + 3) 36 Q 46 [rA 37, (0, n), (0, s)] [] (enc w t) := by
  refine e_ldi (show am_cd 36 46 = (2, 47, 2, 0, []) by decide +kernel) rfl ?_
  refine e_lda (v := 37) (show am_cd 36 47 = (2, 48, 0, 2, []) by decide +kernel) rfl ?_
  refine e_getf (a := 37) (tg := 0) (show am_cd 36 48 = (18, 51, 407, 0, [38]) by decide +kernel) (by decide +kernel) (by decide +kernel) rfl ?_
  refine e_cmp3 (show am_cd 36 51 = (11, 54, 88, 3, []) by decide +kernel) (fun hc => ?_) (fun hc => ?_)
  · replace h := h.1 hc
    refine e_inc (la2 := [rA 37, (0, n + 1), (0, s)]) (show am_cd 36 88 = (4, 91, 1, 1, []) by decide +kernel) rfl rfl ?_
    refine e_go (show am_cd 36 91 = (12, 38, 0, 0, []) by decide +kernel) ?_
    exact h
  · replace h := h.2 hc
    refine e_lda (v := 37) (show am_cd 36 54 = (2, 55, 0, 2, []) by decide +kernel) rfl ?_
    refine e_getf (a := 37) (tg := 2) (show am_cd 36 55 = (18, 58, 405, 2, [28]) by decide +kernel) (by decide +kernel) (by decide +kernel) rfl ?_
    refine e_ldi (show am_cd 36 58 = (2, 59, 2, 0, []) by decide +kernel) rfl ?_
    refine e_ialdD (show am_cd 36 59 = (21, 60, 0, 0, []) by decide +kernel) h.1 ?_
    replace h := h.2
    refine e_ldi (show am_cd 36 60 = (2, 61, 1, 0, []) by decide +kernel) rfl ?_
    refine e_cmp5 (show am_cd 36 61 = (11, 64, 82, 5, []) by decide +kernel) (fun hc => ?_) (fun hc => ?_)
    · replace h := h.1 hc
      refine e_inc (la2 := [rA 37, (0, n), (0, s + 1)]) (show am_cd 36 82 = (4, 85, 2, 1, []) by decide +kernel) rfl rfl ?_
      refine e_go (show am_cd 36 85 = (12, 46, 0, 0, []) by decide +kernel) ?_
      exact h
    · replace h := h.2 hc
      refine e_lda (v := 37) (show am_cd 36 64 = (2, 65, 0, 2, []) by decide +kernel) rfl ?_
      refine e_ldi (show am_cd 36 65 = (2, 66, 2, 0, []) by decide +kernel) rfl ?_
      refine e_ldi (show am_cd 36 66 = (2, 67, 1, 0, []) by decide +kernel) rfl ?_
      refine e_ic (show am_cd 36 67 = (0, 68, 0, 1, []) by decide +kernel) ?_
      refine e_isub (show am_cd 36 68 = (5, 69, 1, 0, []) by decide +kernel) ?_
      refine e_cV (z := 0) (a := 37) (as := [(0, s), (0, n - 1)]) (rest := []) (show am_cd 36 69 = (40, 72, 37, 0, [92]) by decide +kernel) (by decide +kernel) rfl rfl (Nat.le_of_ble_eq_true rfl) rfl ?_
      exact h

theorem g_mt3b {d : Nat} {Q : Option aV → aS → Prop} {w : eW} {t : eT} {n s y : Int} (h : ((w32 y = 0 → Ev (d + 3) 36 Q 46 [rA 37, (0, n), (0, s + 1)] [] (enc w t)) ∧ (¬ (w32 y = 0) → (dyK t (w 37 5) 20 ∧ 0 ≤ w32 s ∧ w32 s < dyL t (w 37 5)) ∧ (Ev (d + 3) 36 Q 46 [rA 37, (0, n), (0, s + 1)] [] (enc (wu w (w 37 5).toNat (w32 s).toNat n) t))))) : Ev (d + 3) 36 Q 72 [rA 37, (0, n), (0, s)] [(0, y)] (enc w t) := by
  refine e_if0 (show am_cd 36 72 = (10, 75, 82, 0, []) by decide +kernel) (fun hc => ?_) (fun hc => ?_)
  · replace h := h.1 hc
    refine e_inc (la2 := [rA 37, (0, n), (0, s + 1)]) (show am_cd 36 82 = (4, 85, 2, 1, []) by decide +kernel) rfl rfl ?_
    refine e_go (show am_cd 36 85 = (12, 46, 0, 0, []) by decide +kernel) ?_
    exact h
  · replace h := h.2 hc
    refine e_lda (v := 37) (show am_cd 36 75 = (2, 76, 0, 2, []) by decide +kernel) rfl ?_
    refine e_getf (a := 37) (tg := 2) (show am_cd 36 76 = (18, 79, 405, 2, [28]) by decide +kernel) (by decide +kernel) (by decide +kernel) rfl ?_
    refine e_ldi (show am_cd 36 79 = (2, 80, 2, 0, []) by decide +kernel) rfl ?_
    refine e_ldi (show am_cd 36 80 = (2, 81, 1, 0, []) by decide +kernel) rfl ?_
    refine e_iastD (show am_cd 36 81 = (24, 82, 0, 0, []) by decide +kernel) h.1 ?_
    replace h := h.2
    refine e_inc (la2 := [rA 37, (0, n), (0, s + 1)]) (show am_cd 36 82 = (4, 85, 2, 1, []) by decide +kernel) rfl rfl ?_
    refine e_go (show am_cd 36 85 = (12, 46, 0, 0, []) by decide +kernel) ?_
    exact h

theorem g_bd0 {d : Nat} {Q : Option aV → aS → Prop} {w : eW} {t : eT}{m : eW} (h : (fxA 38 20 64) ∧ (LN (wfl (wu (wu w 37 8 0) 37 7 0) 38 64 (-1)) m ∧ WFp m ∧ WFr m) ∧ (Cl (d + 4) 34 [rA 37, rA 15, (0, ((tr m 16 16 16 : Nat) : Int)), (0, 0)] (enc (wfl (wu (wu w 37 8 0) 37 7 0) 38 64 (-1)) t) (fun r S2 => (∀ x, r ≠ some (6, x)) ∧ Ev (d + 5) 33 Q 28 [rA 37, rA 15, (9, 0), (9, 0), (9, 0), (9, 0)] (r.toList ++ []) S2))) : Cl (d + 5) 33 [rA 37, rA 15] (enc w t) Q := by
  show Ev (d + 5) 33 Q 0 [rA 37, rA 15, (9, 0), (9, 0), (9, 0), (9, 0)] [] (enc w t)
  refine e_lda (v := 37) (show am_cd 33 0 = (2, 1, 0, 2, []) by decide +kernel) rfl ?_
  refine e_ic (show am_cd 33 1 = (0, 2, 0, 0, []) by decide +kernel) ?_
  refine e_putf (a := 37) (show am_cd 33 2 = (19, 5, 408, 0, [34]) by decide +kernel) (by decide +kernel) (by decide +kernel) rfl (fun h9 => absurd h9 (by decide)) (fun _ => Or.inl rfl) ?_
  refine e_lda (v := 37) (show am_cd 33 5 = (2, 6, 0, 2, []) by decide +kernel) rfl ?_
  refine e_ic (show am_cd 33 6 = (0, 7, 0, 0, []) by decide +kernel) ?_
  refine e_putf (a := 37) (show am_cd 33 7 = (19, 10, 407, 0, [38]) by decide +kernel) (by decide +kernel) (by decide +kernel) rfl (fun h9 => absurd h9 (by decide)) (fun h9 => absurd h9 (by decide +kernel)) ?_
  refine e_lda (v := 37) (show am_cd 33 10 = (2, 11, 0, 2, []) by decide +kernel) rfl ?_
  refine e_getr (a := 37) (r := 38) (show am_cd 33 11 = (18, 14, 400, 2, [9]) by decide +kernel) (by decide +kernel) (by decide +kernel) rfl ?_
  refine e_ic (show am_cd 33 14 = (0, 15, 0, -1, []) by decide +kernel) ?_
  refine e_cS (z := 0) (as := [rA 38, (0, (-1))]) (rest := []) (show am_cd 33 15 = (40, 18, 269, 1, [42]) by decide +kernel) (by decide) rfl rfl (Nat.le_of_ble_eq_true rfl) rfl ?_
  refine Cl.mono (Cl.up (c_fillI (d := d) h.1) (by omega)) ?_
  rintro _ _ ⟨rfl, rfl⟩
  refine ⟨fun _ h9 => (by cases h9), ?_⟩
  replace h := h.2
  show Ev _ 33 _ 18 [rA 37, rA 15, (9, 0), (9, 0), (9, 0), (9, 0)] [] _
  refine e_lda (v := 37) (show am_cd 33 18 = (2, 19, 0, 2, []) by decide +kernel) rfl ?_
  refine e_lda (v := 15) (show am_cd 33 19 = (2, 20, 1, 2, []) by decide +kernel) rfl ?_
  refine e_lda (v := 15) (show am_cd 33 20 = (2, 21, 1, 2, []) by decide +kernel) rfl ?_
  refine e_cV (z := 0) (a := 15) (as := []) (rest := [rA 15, rA 37]) (show am_cd 33 21 = (40, 24, 73, 0, [48]) by decide +kernel) (by decide +kernel) rfl rfl (Nat.le_of_ble_eq_true rfl) rfl ?_
  refine Cl.mono (Cl.up (c_rstart (d := d) h.1) (by omega)) ?_
  rintro _ _ ⟨rfl, rfl⟩
  refine ⟨fun _ h9 => (by cases h9), ?_⟩
  replace h := h.2
  show Ev _ 33 _ 24 [rA 37, rA 15, (9, 0), (9, 0), (9, 0), (9, 0)] [(0, ((tr m 16 16 16 : Nat) : Int)), rA 15, rA 37] _
  refine e_ic (show am_cd 33 24 = (0, 25, 0, 0, []) by decide +kernel) ?_
  refine e_cV (z := 0) (a := 37) (as := [rA 15, (0, ((tr m 16 16 16 : Nat) : Int)), (0, 0)]) (rest := []) (show am_cd 33 25 = (40, 28, 34, 0, [54]) by decide +kernel) (by decide +kernel) rfl rfl (Nat.le_of_ble_eq_true rfl) rfl ?_
  exact h

theorem g_bd0b {d : Nat} {Q : Option aV → aS → Prop} {w : eW} {t : eT} {y : Int}{m : eW} (h : Ev (d + 5) 33 Q 31 [rA 37, rA 15, (0, 0), (9, 0), (9, 0), (9, 0)] [] (enc w t)) : Ev (d + 5) 33 Q 28 [rA 37, rA 15, (9, 0), (9, 0), (9, 0), (9, 0)] [(0, y)] (enc w t) := by
  refine e_pop (show am_cd 33 28 = (16, 29, 0, 0, []) by decide +kernel) (by decide) ?_
  refine e_ic (show am_cd 33 29 = (0, 30, 0, 0, []) by decide +kernel) ?_
  refine e_sti (la2 := [rA 37, rA 15, (0, 0), (9, 0), (9, 0), (9, 0)]) (show am_cd 33 30 = (3, 31, 2, 0, []) by decide +kernel) rfl ?_
  exact h

theorem g_bd1 {d : Nat} {Q : Option aV → aS → Prop} {w : eW} {t : eT} {s : Int}{m : eW} {J J2 J3 : aV} (h : ((w32 (w 37 7) ≤ w32 s → Cl (d + 4) 36 [rA 37] (enc w t) (fun r S2 => (∀ x, r ≠ some (6, x)) ∧ Ev (d + 5) 33 Q 131 [rA 37, rA 15, (0, s), J, J2, J3] (r.toList ++ []) S2)) ∧ (¬ (w32 (w 37 7) ≤ w32 s) → ((w32 4369 ≤ w32 s → Cl (d + 4) 36 [rA 37] (enc w t) (fun r S2 => (∀ x, r ≠ some (6, x)) ∧ Ev (d + 5) 33 Q 131 [rA 37, rA 15, (0, s), J, J2, J3] (r.toList ++ []) S2)) ∧ (¬ (w32 4369 ≤ w32 s) → (RgM w t (w 37 7).toNat ∧ (0 : Int) ≤ s ∧ (s : Int) < w 37 7) ∧ (∀ x1, (x1 = iand (mK w s.toNat) 131071) → Ev (d + 5) 33 Q 55 [rA 37, rA 15, (0, s), (0, x1), (0, 0), J3] [] (enc w t))))))) : Ev (d + 5) 33 Q 31 [rA 37, rA 15, (0, s), J, J2, J3] [] (enc w t) := by
  refine e_ldi (show am_cd 33 31 = (2, 32, 2, 0, []) by decide +kernel) rfl ?_
  refine e_lda (v := 37) (show am_cd 33 32 = (2, 33, 0, 2, []) by decide +kernel) rfl ?_
  refine e_getf (a := 37) (tg := 0) (show am_cd 33 33 = (18, 36, 407, 0, [38]) by decide +kernel) (by decide +kernel) (by decide +kernel) rfl ?_
  refine e_cmp3 (show am_cd 33 36 = (11, 39, 127, 3, []) by decide +kernel) (fun hc => ?_) (fun hc => ?_)
  · replace h := h.1 hc
    refine e_lda (v := 37) (show am_cd 33 127 = (2, 128, 0, 2, []) by decide +kernel) rfl ?_
    refine e_cV (z := 0) (a := 37) (as := []) (rest := []) (show am_cd 33 128 = (40, 131, 36, 0, [66]) by decide +kernel) (by decide +kernel) rfl rfl (Nat.le_of_ble_eq_true rfl) rfl ?_
    exact h
  · replace h := h.2 hc
    refine e_ldi (show am_cd 33 39 = (2, 40, 2, 0, []) by decide +kernel) rfl ?_
    refine e_ic (show am_cd 33 40 = (0, 43, 2, 4369, []) by decide +kernel) ?_
    refine e_cmp3 (show am_cd 33 43 = (11, 46, 127, 3, []) by decide +kernel) (fun hc => ?_) (fun hc => ?_)
    · replace h := h.1 hc
      refine e_lda (v := 37) (show am_cd 33 127 = (2, 128, 0, 2, []) by decide +kernel) rfl ?_
      refine e_cV (z := 0) (a := 37) (as := []) (rest := []) (show am_cd 33 128 = (40, 131, 36, 0, [66]) by decide +kernel) (by decide +kernel) rfl rfl (Nat.le_of_ble_eq_true rfl) rfl ?_
      exact h
    · replace h := h.2 hc
      refine e_lda (v := 37) (show am_cd 33 46 = (2, 47, 0, 2, []) by decide +kernel) rfl ?_
      refine e_ldi (show am_cd 33 47 = (2, 48, 2, 0, []) by decide +kernel) rfl ?_
      refine e_cV (z := 0) (a := 37) (as := [(0, s)]) (rest := []) (show am_cd 33 48 = (40, 51, 39, 0, [58]) by decide +kernel) (by decide +kernel) rfl rfl (Nat.le_of_ble_eq_true rfl) rfl ?_
      refine Cl.mono (Cl.up (c_mfoU (d := d) h.1) (by omega)) ?_
      rintro _ _ ⟨x1, rfl, rfl, hp⟩
      refine ⟨fun _ h9 => (by cases h9), ?_⟩
      replace h := h.2 x1 hp
      show Ev _ 33 _ 51 [rA 37, rA 15, (0, s), J, J2, J3] [(0, x1)] _
      refine e_sti (la2 := [rA 37, rA 15, (0, s), (0, x1), J2, J3]) (show am_cd 33 51 = (3, 52, 3, 0, []) by decide +kernel) rfl ?_
      refine e_ic (show am_cd 33 52 = (0, 53, 0, 0, []) by decide +kernel) ?_
      refine e_sti (la2 := [rA 37, rA 15, (0, s), (0, x1), (0, 0), J3]) (show am_cd 33 53 = (3, 55, 4, 0, []) by decide +kernel) rfl ?_
      exact h

theorem g_bd1b {d : Nat} {Q : Option aV → aS → Prop} {w : eW} {t : eT} {s : Int}{m : eW} {J J2 J3 : aV} (h : Q none (enc w t)) : Ev (d + 5) 33 Q 131 [rA 37, rA 15, (0, s), J, J2, J3] [] (enc w t) := by
  exact e_retv (show am_cd 33 131 = (36, 132, 3, 0, []) by decide +kernel) (by decide +kernel) h

theorem g_bd2 {d : Nat} {Q : Option aV → aS → Prop} {w : eW} {t : eT} {s y p : Int}{m : eW} {J3 : aV} (h : ((w32 16 ≤ w32 p → Ev (d + 5) 33 Q 31 [rA 37, rA 15, (0, s + 1), (0, y), (0, p), J3] [] (enc w t)) ∧ (¬ (w32 16 ≤ w32 p) → ((w32 (iand (ishr y p) 1) = 0 → Ev (d + 5) 33 Q 101 [rA 37, rA 15, (0, s), (0, y), (0, p), (0, (-1))] [] (enc w t)) ∧ (¬ (w32 (iand (ishr y p) 1) = 0) → (dyK t (w 37 3) 20 ∧ 0 ≤ w32 s ∧ w32 s < dyL t (w 37 3)) ∧ (∃ g1, (LN w m ∧ WFp m ∧ WFr m ∧ (w (w 37 3).toNat (w32 s).toNat) = ((trG m g1 : Nat) : Int) ∧ gL g1 ≤ 16 ∧ (0 : Int) ≤ p ∧ (p : Int) ≤ 16) ∧ (∀ x2, (x2 = ((trG m (gN g1 p.toNat) : Nat) : Int)) → (dyK t (w 37 4) 20 ∧ 0 ≤ w32 s ∧ w32 s < dyL t (w 37 4)) ∧ (Cl (d + 4) 34 [rA 37, rA 15, (0, x2), (0, (w (w 37 4).toNat (w32 s).toNat) + 1)] (enc w t) (fun r S2 => (∀ x, r ≠ some (6, x)) ∧ Ev (d + 5) 33 Q 99 [rA 37, rA 15, (0, s), (0, y), (0, p), (0, (-1))] (r.toList ++ []) S2))))))))) : Ev (d + 5) 33 Q 55 [rA 37, rA 15, (0, s), (0, y), (0, p), J3] [] (enc w t) := by
  refine e_ldi (show am_cd 33 55 = (2, 57, 4, 0, []) by decide +kernel) rfl ?_
  refine e_ic (show am_cd 33 57 = (0, 59, 1, 16, []) by decide +kernel) ?_
  refine e_cmp3 (show am_cd 33 59 = (11, 62, 121, 3, []) by decide +kernel) (fun hc => ?_) (fun hc => ?_)
  · replace h := h.1 hc
    refine e_inc (la2 := [rA 37, rA 15, (0, s + 1), (0, y), (0, p), J3]) (show am_cd 33 121 = (4, 124, 2, 1, []) by decide +kernel) rfl rfl ?_
    refine e_go (show am_cd 33 124 = (12, 31, 0, 0, []) by decide +kernel) ?_
    exact h
  · replace h := h.2 hc
    refine e_ic (show am_cd 33 62 = (0, 63, 0, -1, []) by decide +kernel) ?_
    refine e_sti (la2 := [rA 37, rA 15, (0, s), (0, y), (0, p), (0, (-1))]) (show am_cd 33 63 = (3, 65, 5, 0, []) by decide +kernel) rfl ?_
    refine e_ldi (show am_cd 33 65 = (2, 66, 3, 0, []) by decide +kernel) rfl ?_
    refine e_ldi (show am_cd 33 66 = (2, 68, 4, 0, []) by decide +kernel) rfl ?_
    refine e_ishr (show am_cd 33 68 = (5, 69, 7, 0, []) by decide +kernel) ?_
    refine e_ic (show am_cd 33 69 = (0, 70, 0, 1, []) by decide +kernel) ?_
    refine e_iand (show am_cd 33 70 = (5, 71, 3, 0, []) by decide +kernel) ?_
    refine e_if0 (show am_cd 33 71 = (10, 74, 101, 0, []) by decide +kernel) (fun hc => ?_) (fun hc => ?_)
    · replace h := h.1 hc
      exact h
    · replace h := h.2 hc
      refine e_lda (v := 37) (show am_cd 33 74 = (2, 75, 0, 2, []) by decide +kernel) rfl ?_
      refine e_lda (v := 15) (show am_cd 33 75 = (2, 76, 1, 2, []) by decide +kernel) rfl ?_
      refine e_lda (v := 15) (show am_cd 33 76 = (2, 77, 1, 2, []) by decide +kernel) rfl ?_
      refine e_lda (v := 37) (show am_cd 33 77 = (2, 78, 0, 2, []) by decide +kernel) rfl ?_
      refine e_getf (a := 37) (tg := 2) (show am_cd 33 78 = (18, 81, 403, 2, [22]) by decide +kernel) (by decide +kernel) (by decide +kernel) rfl ?_
      refine e_ldi (show am_cd 33 81 = (2, 82, 2, 0, []) by decide +kernel) rfl ?_
      refine e_ialdD (show am_cd 33 82 = (21, 83, 0, 0, []) by decide +kernel) h.1 ?_
      replace h := h.2
      refine e_ldi (show am_cd 33 83 = (2, 85, 4, 0, []) by decide +kernel) rfl ?_
      refine e_cV (z := 0) (a := 15) (as := [(0, w (w 37 3).toNat (w32 s).toNat), (0, p)]) (rest := [rA 15, rA 37]) (show am_cd 33 85 = (40, 88, 74, 0, [62]) by decide +kernel) (by decide +kernel) rfl rfl (Nat.le_of_ble_eq_true rfl) rfl ?_
      obtain ⟨g1, h⟩ := h
      refine Cl.mono (Cl.up (c_rfollowU (d := d) g1 h.1) (by omega)) ?_
      rintro _ _ ⟨x2, rfl, rfl, hp⟩
      refine ⟨fun _ h9 => (by cases h9), ?_⟩
      replace h := h.2 x2 hp
      show Ev _ 33 _ 88 [rA 37, rA 15, (0, s), (0, y), (0, p), (0, (-1))] [(0, x2), rA 15, rA 37] _
      refine e_lda (v := 37) (show am_cd 33 88 = (2, 89, 0, 2, []) by decide +kernel) rfl ?_
      refine e_getf (a := 37) (tg := 2) (show am_cd 33 89 = (18, 92, 404, 2, [25]) by decide +kernel) (by decide +kernel) (by decide +kernel) rfl ?_
      refine e_ldi (show am_cd 33 92 = (2, 93, 2, 0, []) by decide +kernel) rfl ?_
      refine e_ialdD (show am_cd 33 93 = (21, 94, 0, 0, []) by decide +kernel) h.1 ?_
      replace h := h.2
      refine e_ic (show am_cd 33 94 = (0, 95, 0, 1, []) by decide +kernel) ?_
      refine e_iadd (show am_cd 33 95 = (5, 96, 0, 0, []) by decide +kernel) ?_
      refine e_cV (z := 0) (a := 37) (as := [rA 15, (0, x2), (0, (w (w 37 4).toNat (w32 s).toNat) + 1)]) (rest := []) (show am_cd 33 96 = (40, 99, 34, 0, [54]) by decide +kernel) (by decide +kernel) rfl rfl (Nat.le_of_ble_eq_true rfl) rfl ?_
      exact h

theorem g_bd2b {d : Nat} {Q : Option aV → aS → Prop} {w : eW} {t : eT} {s y p q : Int}{m : eW} (h : Ev (d + 5) 33 Q 101 [rA 37, rA 15, (0, s), (0, y), (0, p), (0, q)] [] (enc w t)) : Ev (d + 5) 33 Q 99 [rA 37, rA 15, (0, s), (0, y), (0, p), (0, (-1))] [(0, q)] (enc w t) := by
  refine e_sti (la2 := [rA 37, rA 15, (0, s), (0, y), (0, p), (0, q)]) (show am_cd 33 99 = (3, 101, 5, 0, []) by decide +kernel) rfl ?_
  exact h

theorem g_bd3 {d : Nat} {Q : Option aV → aS → Prop} {w : eW} {t : eT} {s y p q : Int}{m : eW} (h : (dyK t (w 37 6) 20 ∧ 0 ≤ w32 ((s * 16) + p) ∧ w32 ((s * 16) + p) < dyL t (w 37 6)) ∧ (Ev (d + 5) 33 Q 55 [rA 37, rA 15, (0, s), (0, y), (0, p + 1), (0, q)] [] (enc (wu w (w 37 6).toNat (w32 ((s * 16) + p)).toNat q) t))) : Ev (d + 5) 33 Q 101 [rA 37, rA 15, (0, s), (0, y), (0, p), (0, q)] [] (enc w t) := by
  refine e_lda (v := 37) (show am_cd 33 101 = (2, 102, 0, 2, []) by decide +kernel) rfl ?_
  refine e_getf (a := 37) (tg := 2) (show am_cd 33 102 = (18, 105, 406, 2, [31]) by decide +kernel) (by decide +kernel) (by decide +kernel) rfl ?_
  refine e_ldi (show am_cd 33 105 = (2, 106, 2, 0, []) by decide +kernel) rfl ?_
  refine e_ic (show am_cd 33 106 = (0, 108, 1, 16, []) by decide +kernel) ?_
  refine e_imul (show am_cd 33 108 = (5, 109, 2, 0, []) by decide +kernel) ?_
  refine e_ldi (show am_cd 33 109 = (2, 111, 4, 0, []) by decide +kernel) rfl ?_
  refine e_iadd (show am_cd 33 111 = (5, 112, 0, 0, []) by decide +kernel) ?_
  refine e_ldi (show am_cd 33 112 = (2, 114, 5, 0, []) by decide +kernel) rfl ?_
  refine e_iastD (show am_cd 33 114 = (24, 115, 0, 0, []) by decide +kernel) h.1 ?_
  replace h := h.2
  refine e_inc (la2 := [rA 37, rA 15, (0, s), (0, y), (0, p + 1), (0, q)]) (show am_cd 33 115 = (4, 118, 4, 1, []) by decide +kernel) rfl rfl ?_
  refine e_go (show am_cd 33 118 = (12, 55, 0, 0, []) by decide +kernel) ?_
  exact h

