/-! The model: letters and signs of the text. -/
theorem g_expect {d : Nat} {Q : Option aV → aS → Prop} {w : eW} {t : eT} {c : Int} {tx : List Int} (h : (Px w tx ∧ (0 : Int) ≤ c ∧ (c : Int) ≤ 255) ∧ (∀ w1, (Px w1 tx ∧ Fm [] [28, 29] w w1 ∧ stW w1 = psS tx (stW w) c) → (((psB tx (stW w) c) = true → Q none (enc w1 t)) ∧ ((psB tx (stW w) c) = false → (Px w1 tx ∧ 0 ≤ w1 67 28 ∧ w1 67 28 ≤ 81) ∧ (Q none (enc (ftW w1 (w1 67 28)) t)))))) : Cl (d + 2) 175 [rA 67, (0, c)] (enc w t) Q := by
  show Ev (d + 2) 175 Q 0 [rA 67, (0, c)] [] (enc w t)
  refine e_lda (v := 67) (show am_cd 175 0 = (2, 1, 0, 2, []) by decide +kernel) rfl ?_
  refine e_ldi (show am_cd 175 1 = (2, 2, 1, 0, []) by decide +kernel) rfl ?_
  refine e_cV (z := 0) (a := 67) (as := [(0, c)]) (rest := []) (show am_cd 175 2 = (40, 5, 174, 0, [139]) by decide +kernel) (by decide +kernel) rfl rfl (Nat.le_of_ble_eq_true rfl) rfl ?_
  refine Cl.mono (Cl.up (c_passes (d := d) h.1) (by omega)) ?_
  rintro _ _ ⟨w1, rfl, rfl, hp⟩
  refine ⟨fun _ h9 => (by cases h9), ?_⟩
  replace h := h.2 w1 hp
  show Ev _ 175 _ 5 [rA 67, (0, c)] [(0, bI (psB tx (stW w) c))] _
  refine e_ifb1 (show am_cd 175 5 = (10, 8, 16, 1, []) by decide +kernel) (fun hc => ?_) (fun hc => ?_)
  · replace h := h.1 hc
    exact e_retv (show am_cd 175 16 = (36, 17, 3, 0, []) by decide +kernel) (by decide +kernel) h
  · replace h := h.2 hc
    refine e_lda (v := 67) (show am_cd 175 8 = (2, 9, 0, 2, []) by decide +kernel) rfl ?_
    refine e_lda (v := 67) (show am_cd 175 9 = (2, 10, 0, 2, []) by decide +kernel) rfl ?_
    refine e_getf (a := 67) (tg := 0) (show am_cd 175 10 = (18, 13, 1228, 0, [129]) by decide +kernel) (by decide +kernel) (by decide +kernel) rfl ?_
    refine e_cV (z := 0) (a := 67) (as := [(0, w1 67 28)]) (rest := []) (show am_cd 175 13 = (40, 16, 172, 0, [143]) by decide +kernel) (by decide +kernel) rfl rfl (Nat.le_of_ble_eq_true rfl) rfl ?_
    refine Cl.mono (Cl.up (c_fault (d := d) h.1) (by omega)) ?_
    rintro _ _ ⟨rfl, rfl⟩
    refine ⟨fun _ h9 => (by cases h9), ?_⟩
    replace h := h.2
    show Ev _ 175 _ 16 [rA 67, (0, c)] [] _
    exact e_retv (show am_cd 175 16 = (36, 17, 3, 0, []) by decide +kernel) (by decide +kernel) h

theorem g_ends {d : Nat} {Q : Option aV → aS → Prop} {w : eW} {t : eT} {tx : List Int} (h : ((w32 (w 67 27) ≤ w32 (w 67 28) → Q none (enc w t)) ∧ (¬ (w32 (w 67 27) ≤ w32 (w 67 28)) → (Px w tx ∧ 0 ≤ w 67 28 ∧ w 67 28 ≤ 81) ∧ (Q none (enc (ftW w (w 67 28)) t))))) : Cl (d + 1) 176 [rA 67] (enc w t) Q := by
  show Ev (d + 1) 176 Q 0 [rA 67] [] (enc w t)
  refine e_lda (v := 67) (show am_cd 176 0 = (2, 1, 0, 2, []) by decide +kernel) rfl ?_
  refine e_getf (a := 67) (tg := 0) (show am_cd 176 1 = (18, 4, 1228, 0, [129]) by decide +kernel) (by decide +kernel) (by decide +kernel) rfl ?_
  refine e_lda (v := 67) (show am_cd 176 4 = (2, 5, 0, 2, []) by decide +kernel) rfl ?_
  refine e_getf (a := 67) (tg := 0) (show am_cd 176 5 = (18, 8, 1227, 0, [126]) by decide +kernel) (by decide +kernel) (by decide +kernel) rfl ?_
  refine e_cmp3 (show am_cd 176 8 = (11, 11, 19, 3, []) by decide +kernel) (fun hc => ?_) (fun hc => ?_)
  · replace h := h.1 hc
    exact e_retv (show am_cd 176 19 = (36, 20, 3, 0, []) by decide +kernel) (by decide +kernel) h
  · replace h := h.2 hc
    refine e_lda (v := 67) (show am_cd 176 11 = (2, 12, 0, 2, []) by decide +kernel) rfl ?_
    refine e_lda (v := 67) (show am_cd 176 12 = (2, 13, 0, 2, []) by decide +kernel) rfl ?_
    refine e_getf (a := 67) (tg := 0) (show am_cd 176 13 = (18, 16, 1228, 0, [129]) by decide +kernel) (by decide +kernel) (by decide +kernel) rfl ?_
    refine e_cV (z := 0) (a := 67) (as := [(0, w 67 28)]) (rest := []) (show am_cd 176 16 = (40, 19, 172, 0, [143]) by decide +kernel) (by decide +kernel) rfl rfl (Nat.le_of_ble_eq_true rfl) rfl ?_
    refine Cl.mono (Cl.up (c_fault (d := d) h.1) (by omega)) ?_
    rintro _ _ ⟨rfl, rfl⟩
    refine ⟨fun _ h9 => (by cases h9), ?_⟩
    replace h := h.2
    show Ev _ 176 _ 19 [rA 67] [] _
    exact e_retv (show am_cd 176 19 = (36, 20, 3, 0, []) by decide +kernel) (by decide +kernel) h

theorem g_isLetter {d : Nat} {Q : Option aV → aS → Prop} {w : eW} {t : eT} {tx : List Int} (h : ((¬ w32 (w 67 29) = w32 (-1) → Q (some (0, 0)) (enc w t)) ∧ (¬ (¬ w32 (w 67 29) = w32 (-1)) → (Px w tx) ∧ (-1 ≤ hrI tx (w 67 28) ∧ hrI tx (w 67 28) ≤ 255) ∧ ((w32 ((ltO (hrI tx (w 67 28))).getD (-1)) = w32 (-1) → Q (some (0, 0)) (enc w t)) ∧ (¬ (w32 ((ltO (hrI tx (w 67 28))).getD (-1)) = w32 (-1)) → Q (some (0, 1)) (enc w t)))))) : Cl (d + 2) 179 [rA 67] (enc w t) Q := by
  show Ev (d + 2) 179 Q 0 [rA 67] [] (enc w t)
  refine e_lda (v := 67) (show am_cd 179 0 = (2, 1, 0, 2, []) by decide +kernel) rfl ?_
  refine e_getf (a := 67) (tg := 0) (show am_cd 179 1 = (18, 4, 1229, 0, [132]) by decide +kernel) (by decide +kernel) (by decide +kernel) rfl ?_
  refine e_ic (show am_cd 179 4 = (0, 5, 0, -1, []) by decide +kernel) ?_
  refine e_cmp1 (show am_cd 179 5 = (11, 8, 23, 1, []) by decide +kernel) (fun hc => ?_) (fun hc => ?_)
  · replace h := h.1 hc
    refine e_ic (show am_cd 179 23 = (0, 24, 0, 0, []) by decide +kernel) ?_
    exact e_retz (show am_cd 179 24 = (36, 25, 0, 0, []) by decide +kernel) (by decide +kernel) (Or.inl rfl) h
  · replace h := h.2 hc
    refine e_lda (v := 67) (show am_cd 179 8 = (2, 9, 0, 2, []) by decide +kernel) rfl ?_
    refine e_cV (z := 0) (a := 67) (as := []) (rest := []) (show am_cd 179 9 = (40, 12, 171, 0, [135]) by decide +kernel) (by decide +kernel) rfl rfl (Nat.le_of_ble_eq_true rfl) rfl ?_
    refine Cl.mono (Cl.up (c_here (d := d) h.1) (by omega)) ?_
    rintro _ _ ⟨rfl, rfl⟩
    refine ⟨fun _ h9 => (by cases h9), ?_⟩
    replace h := h.2
    show Ev _ 179 _ 12 [rA 67] [(0, hrI tx (w 67 28))] _
    refine e_cS (z := 0) (as := [(0, hrI tx (w 67 28))]) (rest := []) (show am_cd 179 12 = (40, 15, 177, 1, [151]) by decide +kernel) (by decide) rfl rfl (Nat.le_of_ble_eq_true rfl) rfl ?_
    refine Cl.mono (Cl.up (c_letterOf (d := d) h.1) (by omega)) ?_
    rintro _ _ ⟨rfl, rfl⟩
    refine ⟨fun _ h9 => (by cases h9), ?_⟩
    replace h := h.2
    show Ev _ 179 _ 15 [rA 67] [(0, (ltO (hrI tx (w 67 28))).getD (-1))] _
    refine e_ic (show am_cd 179 15 = (0, 16, 0, -1, []) by decide +kernel) ?_
    refine e_cmp0 (show am_cd 179 16 = (11, 19, 23, 0, []) by decide +kernel) (fun hc => ?_) (fun hc => ?_)
    · replace h := h.1 hc
      refine e_ic (show am_cd 179 23 = (0, 24, 0, 0, []) by decide +kernel) ?_
      exact e_retz (show am_cd 179 24 = (36, 25, 0, 0, []) by decide +kernel) (by decide +kernel) (Or.inl rfl) h
    · replace h := h.2 hc
      refine e_ic (show am_cd 179 19 = (0, 20, 0, 1, []) by decide +kernel) ?_
      refine e_go (show am_cd 179 20 = (12, 24, 0, 0, []) by decide +kernel) ?_
      exact e_retz (show am_cd 179 24 = (36, 25, 0, 0, []) by decide +kernel) (by decide +kernel) (Or.inr rfl) h

theorem g_readLetter {d : Nat} {Q : Option aV → aS → Prop} {w : eW} {t : eT} {tx : List Int} (h : (Px w tx) ∧ (-1 ≤ hrI tx (w 67 28) ∧ hrI tx (w 67 28) ≤ 255) ∧ ((¬ w32 (w 67 29) = w32 (-1) → ((¬ w32 (w 67 29) = w32 (-1) → Q (some (0, (ltO (hrI tx (w 67 28))).getD (-1))) (enc w t)) ∧ (¬ (¬ w32 (w 67 29) = w32 (-1)) → Q (some (0, (ltO (hrI tx (w 67 28))).getD (-1))) (enc (wu w 67 28 ((w 67 28) + 1)) t)))) ∧ (¬ (¬ w32 (w 67 29) = w32 (-1)) → ((¬ w32 ((ltO (hrI tx (w 67 28))).getD (-1)) = w32 (-1) → ((¬ w32 (w 67 29) = w32 (-1) → Q (some (0, (ltO (hrI tx (w 67 28))).getD (-1))) (enc w t)) ∧ (¬ (¬ w32 (w 67 29) = w32 (-1)) → Q (some (0, (ltO (hrI tx (w 67 28))).getD (-1))) (enc (wu w 67 28 ((w 67 28) + 1)) t)))) ∧ (¬ (¬ w32 ((ltO (hrI tx (w 67 28))).getD (-1)) = w32 (-1)) → (Px w tx ∧ 0 ≤ w 67 28 ∧ w 67 28 ≤ 81) ∧ ((¬ w32 ((ftW w (w 67 28)) 67 29) = w32 (-1) → Q (some (0, (ltO (hrI tx (w 67 28))).getD (-1))) (enc (ftW w (w 67 28)) t)) ∧ (¬ (¬ w32 ((ftW w (w 67 28)) 67 29) = w32 (-1)) → Q (some (0, (ltO (hrI tx (w 67 28))).getD (-1))) (enc (wu (ftW w (w 67 28)) 67 28 (((ftW w (w 67 28)) 67 28) + 1)) t)))))))) : Cl (d + 2) 180 [rA 67] (enc w t) Q := by
  show Ev (d + 2) 180 Q 0 [rA 67, (9, 0)] [] (enc w t)
  refine e_lda (v := 67) (show am_cd 180 0 = (2, 1, 0, 2, []) by decide +kernel) rfl ?_
  refine e_cV (z := 0) (a := 67) (as := []) (rest := []) (show am_cd 180 1 = (40, 4, 171, 0, [135]) by decide +kernel) (by decide +kernel) rfl rfl (Nat.le_of_ble_eq_true rfl) rfl ?_
  refine Cl.mono (Cl.up (c_here (d := d) h.1) (by omega)) ?_
  rintro _ _ ⟨rfl, rfl⟩
  refine ⟨fun _ h9 => (by cases h9), ?_⟩
  replace h := h.2
  show Ev _ 180 _ 4 [rA 67, (9, 0)] [(0, hrI tx (w 67 28))] _
  refine e_cS (z := 0) (as := [(0, hrI tx (w 67 28))]) (rest := []) (show am_cd 180 4 = (40, 7, 177, 1, [151]) by decide +kernel) (by decide) rfl rfl (Nat.le_of_ble_eq_true rfl) rfl ?_
  refine Cl.mono (Cl.up (c_letterOf (d := d) h.1) (by omega)) ?_
  rintro _ _ ⟨rfl, rfl⟩
  refine ⟨fun _ h9 => (by cases h9), ?_⟩
  replace h := h.2
  show Ev _ 180 _ 7 [rA 67, (9, 0)] [(0, (ltO (hrI tx (w 67 28))).getD (-1))] _
  refine e_sti (la2 := [rA 67, (0, (ltO (hrI tx (w 67 28))).getD (-1))]) (show am_cd 180 7 = (3, 8, 1, 0, []) by decide +kernel) rfl ?_
  refine e_lda (v := 67) (show am_cd 180 8 = (2, 9, 0, 2, []) by decide +kernel) rfl ?_
  refine e_getf (a := 67) (tg := 0) (show am_cd 180 9 = (18, 12, 1229, 0, [132]) by decide +kernel) (by decide +kernel) (by decide +kernel) rfl ?_
  refine e_ic (show am_cd 180 12 = (0, 13, 0, -1, []) by decide +kernel) ?_
  refine e_cmp1 (show am_cd 180 13 = (11, 16, 29, 1, []) by decide +kernel) (fun hc => ?_) (fun hc => ?_)
  · replace h := h.1 hc
    refine e_lda (v := 67) (show am_cd 180 29 = (2, 30, 0, 2, []) by decide +kernel) rfl ?_
    refine e_getf (a := 67) (tg := 0) (show am_cd 180 30 = (18, 33, 1229, 0, [132]) by decide +kernel) (by decide +kernel) (by decide +kernel) rfl ?_
    refine e_ic (show am_cd 180 33 = (0, 34, 0, -1, []) by decide +kernel) ?_
    refine e_cmp1 (show am_cd 180 34 = (11, 37, 47, 1, []) by decide +kernel) (fun hc => ?_) (fun hc => ?_)
    · replace h := h.1 hc
      refine e_ldi (show am_cd 180 47 = (2, 48, 1, 0, []) by decide +kernel) rfl ?_
      exact e_reti (show am_cd 180 48 = (36, 49, 0, 0, []) by decide +kernel) (by decide +kernel) h
    · replace h := h.2 hc
      refine e_lda (v := 67) (show am_cd 180 37 = (2, 38, 0, 2, []) by decide +kernel) rfl ?_
      refine e_dup (show am_cd 180 38 = (13, 39, 0, 0, []) by decide +kernel) (by decide) ?_
      refine e_getf (a := 67) (tg := 0) (show am_cd 180 39 = (18, 42, 1228, 0, [129]) by decide +kernel) (by decide +kernel) (by decide +kernel) rfl ?_
      refine e_ic (show am_cd 180 42 = (0, 43, 0, 1, []) by decide +kernel) ?_
      refine e_iadd (show am_cd 180 43 = (5, 44, 0, 0, []) by decide +kernel) ?_
      refine e_putf (a := 67) (show am_cd 180 44 = (19, 47, 1228, 0, [129]) by decide +kernel) (by decide +kernel) (by decide +kernel) rfl (fun h9 => absurd h9 (by decide)) (fun h9 => absurd h9 (by decide +kernel)) ?_
      refine e_ldi (show am_cd 180 47 = (2, 48, 1, 0, []) by decide +kernel) rfl ?_
      exact e_reti (show am_cd 180 48 = (36, 49, 0, 0, []) by decide +kernel) (by decide +kernel) h
  · replace h := h.2 hc
    refine e_ldi (show am_cd 180 16 = (2, 17, 1, 0, []) by decide +kernel) rfl ?_
    refine e_ic (show am_cd 180 17 = (0, 18, 0, -1, []) by decide +kernel) ?_
    refine e_cmp1 (show am_cd 180 18 = (11, 21, 29, 1, []) by decide +kernel) (fun hc => ?_) (fun hc => ?_)
    · replace h := h.1 hc
      refine e_lda (v := 67) (show am_cd 180 29 = (2, 30, 0, 2, []) by decide +kernel) rfl ?_
      refine e_getf (a := 67) (tg := 0) (show am_cd 180 30 = (18, 33, 1229, 0, [132]) by decide +kernel) (by decide +kernel) (by decide +kernel) rfl ?_
      refine e_ic (show am_cd 180 33 = (0, 34, 0, -1, []) by decide +kernel) ?_
      refine e_cmp1 (show am_cd 180 34 = (11, 37, 47, 1, []) by decide +kernel) (fun hc => ?_) (fun hc => ?_)
      · replace h := h.1 hc
        refine e_ldi (show am_cd 180 47 = (2, 48, 1, 0, []) by decide +kernel) rfl ?_
        exact e_reti (show am_cd 180 48 = (36, 49, 0, 0, []) by decide +kernel) (by decide +kernel) h
      · replace h := h.2 hc
        refine e_lda (v := 67) (show am_cd 180 37 = (2, 38, 0, 2, []) by decide +kernel) rfl ?_
        refine e_dup (show am_cd 180 38 = (13, 39, 0, 0, []) by decide +kernel) (by decide) ?_
        refine e_getf (a := 67) (tg := 0) (show am_cd 180 39 = (18, 42, 1228, 0, [129]) by decide +kernel) (by decide +kernel) (by decide +kernel) rfl ?_
        refine e_ic (show am_cd 180 42 = (0, 43, 0, 1, []) by decide +kernel) ?_
        refine e_iadd (show am_cd 180 43 = (5, 44, 0, 0, []) by decide +kernel) ?_
        refine e_putf (a := 67) (show am_cd 180 44 = (19, 47, 1228, 0, [129]) by decide +kernel) (by decide +kernel) (by decide +kernel) rfl (fun h9 => absurd h9 (by decide)) (fun h9 => absurd h9 (by decide +kernel)) ?_
        refine e_ldi (show am_cd 180 47 = (2, 48, 1, 0, []) by decide +kernel) rfl ?_
        exact e_reti (show am_cd 180 48 = (36, 49, 0, 0, []) by decide +kernel) (by decide +kernel) h
    · replace h := h.2 hc
      refine e_lda (v := 67) (show am_cd 180 21 = (2, 22, 0, 2, []) by decide +kernel) rfl ?_
      refine e_lda (v := 67) (show am_cd 180 22 = (2, 23, 0, 2, []) by decide +kernel) rfl ?_
      refine e_getf (a := 67) (tg := 0) (show am_cd 180 23 = (18, 26, 1228, 0, [129]) by decide +kernel) (by decide +kernel) (by decide +kernel) rfl ?_
      refine e_cV (z := 0) (a := 67) (as := [(0, w 67 28)]) (rest := []) (show am_cd 180 26 = (40, 29, 172, 0, [143]) by decide +kernel) (by decide +kernel) rfl rfl (Nat.le_of_ble_eq_true rfl) rfl ?_
      refine Cl.mono (Cl.up (c_fault (d := d) h.1) (by omega)) ?_
      rintro _ _ ⟨rfl, rfl⟩
      refine ⟨fun _ h9 => (by cases h9), ?_⟩
      replace h := h.2
      show Ev _ 180 _ 29 [rA 67, (0, (ltO (hrI tx (w 67 28))).getD (-1))] [] _
      refine e_lda (v := 67) (show am_cd 180 29 = (2, 30, 0, 2, []) by decide +kernel) rfl ?_
      refine e_getf (a := 67) (tg := 0) (show am_cd 180 30 = (18, 33, 1229, 0, [132]) by decide +kernel) (by decide +kernel) (by decide +kernel) rfl ?_
      refine e_ic (show am_cd 180 33 = (0, 34, 0, -1, []) by decide +kernel) ?_
      refine e_cmp1 (show am_cd 180 34 = (11, 37, 47, 1, []) by decide +kernel) (fun hc => ?_) (fun hc => ?_)
      · replace h := h.1 hc
        refine e_ldi (show am_cd 180 47 = (2, 48, 1, 0, []) by decide +kernel) rfl ?_
        exact e_reti (show am_cd 180 48 = (36, 49, 0, 0, []) by decide +kernel) (by decide +kernel) h
      · replace h := h.2 hc
        refine e_lda (v := 67) (show am_cd 180 37 = (2, 38, 0, 2, []) by decide +kernel) rfl ?_
        refine e_dup (show am_cd 180 38 = (13, 39, 0, 0, []) by decide +kernel) (by decide) ?_
        refine e_getf (a := 67) (tg := 0) (show am_cd 180 39 = (18, 42, 1228, 0, [129]) by decide +kernel) (by decide +kernel) (by decide +kernel) rfl ?_
        refine e_ic (show am_cd 180 42 = (0, 43, 0, 1, []) by decide +kernel) ?_
        refine e_iadd (show am_cd 180 43 = (5, 44, 0, 0, []) by decide +kernel) ?_
        refine e_putf (a := 67) (show am_cd 180 44 = (19, 47, 1228, 0, [129]) by decide +kernel) (by decide +kernel) (by decide +kernel) rfl (fun h9 => absurd h9 (by decide)) (fun h9 => absurd h9 (by decide +kernel)) ?_
        refine e_ldi (show am_cd 180 47 = (2, 48, 1, 0, []) by decide +kernel) rfl ?_
        exact e_reti (show am_cd 180 48 = (36, 49, 0, 0, []) by decide +kernel) (by decide +kernel) h

theorem stW_at {w : eW} {tx : List Int} (h : Px w tx) {p : Nat} (hs : stW w = .ok p) : w 67 29 = -1 ∧ w 67 28 = (p : Int) ∧ p ≤ tx.length := by
  unfold stW at hs
  by_cases h1 : w 67 29 = -1
  · rw [if_pos h1] at hs
    injection hs with hs
    have h6 := h.2.2.2.2.2
    have h5 := h.2.2.2.2.1
    omega
  · rw [if_neg h1] at hs
    cases hs
theorem stW_er {w : eW} {tx : List Int} (h : Px w tx) {q : Nat} (hs : stW w = .error q) : w 67 29 = (q : Int) ∧ q ≤ 81 := by
  unfold stW at hs
  by_cases h1 : w 67 29 = -1
  · rw [if_pos h1] at hs
    cases hs
  · rw [if_neg h1] at hs
    injection hs with hs
    have h6 := h.2.2.2.2.2
    omega
theorem c_expect {d : Nat} {w : eW} {t : eT} {tx : List Int} {c : Int} (h : Px w tx ∧ (0 : Int) ≤ c ∧ (c : Int) ≤ 255) : Cl (d + 2) 175 [rA 67, (0, c)] (enc w t) (fun r S2 => ∃ w2, r = none ∧ S2 = enc w2 t ∧ Px w2 tx ∧ Fm [] [28, 29] w w2 ∧ stW w2 = exS tx (stW w) c) := by
  refine g_expect (tx := tx) ⟨h, fun w1 hw => ?_⟩
  obtain ⟨h1, h2, h3⟩ := hw
  have hb := h1.b
  refine ⟨fun h4 => ⟨w1, rfl, rfl, h1, h2, ?_⟩, fun h4 => ⟨⟨h1, hb.1⟩, _, rfl, rfl, (h1.ft hb.1).1, h2.tr (h1.ft hb.1).2, ?_⟩⟩
  · rw [h3]
    cases hs : stW w with
    | error q => rw [hs] at h4; cases h4
    | ok p =>
      rw [hs] at h4
      have h4 := of_decide_eq_true h4
      unfold psS exS
      dsimp only
      rw [if_pos h4, if_pos h4]
  · rw [stW_ft h1 hb.1, h3]
    cases hs : stW w with
    | error q => rfl
    | ok p =>
      rw [hs] at h4 h3
      have h4 := of_decide_eq_false h4
      unfold psS at h3
      dsimp only at h3
      rw [if_neg h4] at h3
      have h5 := (stW_at h1 h3).2.1
      have hps : psS tx (.ok p) c = .ok p := if_neg h4
      have hex : exS tx (.ok p) c = .error p := if_neg h4
      rw [hps, hex, h5]
      rfl
theorem c_ends {d : Nat} {w : eW} {t : eT} {tx : List Int} (h : Px w tx) : Cl (d + 1) 176 [rA 67] (enc w t) (fun r S2 => ∃ w2, r = none ∧ S2 = enc w2 t ∧ Px w2 tx ∧ Fm [] [28, 29] w w2 ∧ stW w2 = enS tx (stW w)) := by
  have hb := h.b
  have hl := h.2.1
  refine g_ends (tx := tx) ?_
  rw [h.1]
  simp (disch := omega) only [w32_id]
  refine ⟨fun h1 => ⟨w, by trivial, rfl, h, Fm.rf _ _ _, ?_⟩, fun h1 => ⟨⟨h, hb.1⟩, _, by trivial, rfl, (h.ft hb.1).1, (h.ft hb.1).2, ?_⟩⟩
  · cases hs : stW w with
    | error q => rfl
    | ok p =>
      have h5 := (stW_at h hs).2.1
      unfold enS
      dsimp only
      rw [if_neg (by omega)]
  · rw [stW_ft h hb.1]
    cases hs : stW w with
    | error q => rfl
    | ok p =>
      have h5 := (stW_at h hs).2.1
      unfold enS
      dsimp only
      rw [if_pos (by omega), h5]
      rfl
theorem ltO_g {c : Int} : (ltO c).getD (-1) = -1 ↔ ltO c = none := by
  cases h : ltO c with
  | none => simp
  | some l =>
    have := ltO_b h
    simp
    omega
theorem ltO_r (c : Int) : -1 ≤ (ltO c).getD (-1) ∧ (ltO c).getD (-1) ≤ 26 := by
  cases h : ltO c with
  | none => exact ⟨by decide, by decide⟩
  | some l =>
    have := ltO_b h
    simp only [Option.getD_some]
    omega
theorem c_isLetter {d : Nat} {w : eW} {t : eT} {tx : List Int} (h : Px w tx) : Cl (d + 2) 179 [rA 67] (enc w t) (fun r S2 => r = some (0, bI (ilB tx (stW w))) ∧ S2 = enc w t) := by
  have hb := h.b
  have hh := h.hrb (w 67 28).toNat
  have hrr := ltO_r (hrI tx (w 67 28))
  refine g_isLetter (tx := tx) ?_
  simp (disch := omega) only [w32_id]
  unfold ilB stW
  refine ⟨fun h1 => ?_, fun h1 => ⟨h, hh, fun h2 => ?_, fun h2 => ?_⟩⟩
  · rw [if_neg h1]; exact ⟨by trivial, by trivial⟩
  · rw [if_pos (by omega)]
    dsimp only
    have h2 := ltO_g.mp h2
    unfold hrI at h2
    rw [h2]
    exact ⟨rfl, by trivial⟩
  · rw [if_pos (by omega)]
    dsimp only
    cases hc : ltO (hr tx (w 67 28).toNat) with
    | none => exact absurd (ltO_g.mpr hc) h2
    | some l => exact ⟨rfl, by trivial⟩
theorem c_readLetter {d : Nat} {w : eW} {t : eT} {tx : List Int} (h : Px w tx) : Cl (d + 2) 180 [rA 67] (enc w t) (fun r S2 => ∃ x w2, r = some (0, x) ∧ S2 = enc w2 t ∧ Px w2 tx ∧ Fm [] [28, 29] w w2 ∧ stW w2 = stE (bnd (stW w) (rdL tx)) ∧ rvO (bnd (stW w) (rdL tx)) x ∧ -1 ≤ x ∧ x ≤ 26) := by
  have hb := h.b
  have hh := h.hrb (w 67 28).toNat
  have hrr := ltO_r (hrI tx (w 67 28))
  have h6 := h.2.2.2.2.2
  refine g_readLetter (tx := tx) ⟨h, hh, ?_⟩
  simp (disch := omega) only [w32_id]
  have ft := h.ft hb.1
  refine ⟨fun h1 => ?_, fun h1 => ⟨fun h2 => ?_, fun h2 => ?_⟩⟩
  · -- a fault stands already
    have hs : stW w = .error (w 67 29).toNat := if_neg h1
    refine ⟨fun h3 => ⟨_, w, rfl, rfl, h, Fm.rf _ _ _, by rw [hs]; rfl, by rw [hs]; trivial, hrr⟩, fun h3 => absurd h1 h3⟩
  · have h1' : w 67 29 = -1 := by omega
    have hs : stW w = .ok (w 67 28).toNat := if_pos h1'
    cases hc : ltO (hrI tx (w 67 28)) with
    | none => exact absurd (ltO_g.mpr hc) h2
    | some l =>
      have hl := ltO_b hc
      have hlt : (w 67 28).toNat < tx.length := by
        by_cases h9 : (w 67 28).toNat < tx.length
        · exact h9
        · have : hrI tx (w 67 28) = -1 := if_neg h9
          rw [this] at hc
          cases hc
      have hrd : rdL tx (w 67 28).toNat = .ok (l, (w 67 28).toNat + 1) := by
        unfold rdL
        unfold hrI at hc
        rw [hc]
      have q : Fm [] [28, 29] w (wu w 67 28 (w 67 28 + 1)) := Fm.pf (by decide)
      refine ⟨fun h3 => absurd h1' h3, fun h3 => ⟨_, _, rfl, rfl, h.fr q (by decide) (by decide) (by rw [wu_eq]; omega) (Or.inl ⟨by rw [wu_nk _ _ (by decide)]; exact h1', by rw [wu_eq]; omega⟩), q, ?_, ?_, ?_⟩⟩
      · rw [hs]
        show stW _ = stE (rdL tx _)
        rw [hrd]
        unfold stW
        rw [wu_nk _ _ (by decide), if_pos h1', wu_eq]
        show Except.ok _ = Except.ok _
        congr 1
        omega
      · rw [hs]
        show rvO (rdL tx _) _
        rw [hrd]
        rfl
      · simp only [Option.getD_some]
        omega
  · have h1' : w 67 29 = -1 := by omega
    have hs : stW w = .ok (w 67 28).toNat := if_pos h1'
    have hc := ltO_g.mp (show (ltO (hrI tx (w 67 28))).getD (-1) = -1 by omega)
    have hrd : rdL tx (w 67 28).toNat = .error (w 67 28).toNat := by
      unfold rdL
      unfold hrI at hc
      rw [hc]
    refine ⟨⟨h, hb.1⟩, ?_⟩
    have e29 : ftW w (w 67 28) 67 29 = w 67 28 := by unfold ftW; rw [if_pos h1', wu_eq]
    rw [e29]
    simp (disch := omega) only [w32_id]
    refine ⟨fun h3 => ⟨_, _, rfl, rfl, ft.1, ft.2, ?_, ?_, hrr⟩, fun h3 => (by omega)⟩
    · rw [stW_ft h hb.1, hs]
      show _ = stE (rdL tx _)
      rw [hrd]
      rfl
    · rw [hs]
      show rvO (rdL tx _) _
      rw [hrd]
      trivial

theorem g_readSign {d : Nat} {Q : Option aV → aS → Prop} {w : eW} {t : eT} {tx : List Int} (h : (Px w tx ∧ (0 : Int) ≤ 48 ∧ (48 : Int) ≤ 255) ∧ (∀ w1, (Px w1 tx ∧ Fm [] [28, 29] w w1 ∧ stW w1 = psS tx (stW w) 48) → (((psB tx (stW w) 48) = false → (Px w1 tx) ∧ (∀ x2 w3, (Px w3 tx ∧ Fm [] [28, 29] w1 w3 ∧ stW w3 = stE (bnd (stW w1) (rdL tx)) ∧ rvO (bnd (stW w1) (rdL tx)) x2 ∧ -1 ≤ x2 ∧ x2 ≤ 26) → Q (some (0, x2)) (enc w3 t))) ∧ ((psB tx (stW w) 48) = true → Q (some (0, 27)) (enc w1 t))))) : Cl (d + 3) 181 [rA 67] (enc w t) Q := by
  show Ev (d + 3) 181 Q 0 [rA 67] [] (enc w t)
  refine e_lda (v := 67) (show am_cd 181 0 = (2, 1, 0, 2, []) by decide +kernel) rfl ?_
  refine e_ic (show am_cd 181 1 = (0, 3, 1, 48, []) by decide +kernel) ?_
  refine e_cV (z := 0) (a := 67) (as := [(0, 48)]) (rest := []) (show am_cd 181 3 = (40, 6, 174, 0, [139]) by decide +kernel) (by decide +kernel) rfl rfl (Nat.le_of_ble_eq_true rfl) rfl ?_
  refine Cl.mono (Cl.up (c_passes (d := d) h.1) (by omega)) ?_
  rintro _ _ ⟨w1, rfl, rfl, hp⟩
  refine ⟨fun _ h9 => (by cases h9), ?_⟩
  replace h := h.2 w1 hp
  show Ev _ 181 _ 6 [rA 67] [(0, bI (psB tx (stW w) 48))] _
  refine e_ifb0 (show am_cd 181 6 = (10, 9, 14, 0, []) by decide +kernel) (fun hc => ?_) (fun hc => ?_)
  · replace h := h.1 hc
    refine e_lda (v := 67) (show am_cd 181 14 = (2, 15, 0, 2, []) by decide +kernel) rfl ?_
    refine e_cV (z := 0) (a := 67) (as := []) (rest := []) (show am_cd 181 15 = (40, 18, 180, 0, [155]) by decide +kernel) (by decide +kernel) rfl rfl (Nat.le_of_ble_eq_true rfl) rfl ?_
    refine Cl.mono (Cl.up (c_readLetter (d := d) h.1) (by omega)) ?_
    rintro _ _ ⟨x2, w3, rfl, rfl, hp⟩
    refine ⟨fun _ h9 => (by cases h9), ?_⟩
    replace h := h.2 x2 w3 hp
    show Ev _ 181 _ 18 [rA 67] [(0, x2)] _
    exact e_reti (show am_cd 181 18 = (36, 19, 0, 0, []) by decide +kernel) (by decide +kernel) h
  · replace h := h.2 hc
    refine e_ic (show am_cd 181 9 = (0, 11, 1, 27, []) by decide +kernel) ?_
    refine e_go (show am_cd 181 11 = (12, 18, 0, 0, []) by decide +kernel) ?_
    exact e_reti (show am_cd 181 18 = (36, 19, 0, 0, []) by decide +kernel) (by decide +kernel) h

theorem c_readSign {d : Nat} {w : eW} {t : eT} {tx : List Int} (h : Px w tx) : Cl (d + 3) 181 [rA 67] (enc w t) (fun r S2 => ∃ x w2, r = some (0, x) ∧ S2 = enc w2 t ∧ Px w2 tx ∧ Fm [] [28, 29] w w2 ∧ stW w2 = stE (bnd (stW w) (rdS tx)) ∧ rvO (bnd (stW w) (rdS tx)) x ∧ -1 ≤ x ∧ x ≤ 27) := by
  refine g_readSign (tx := tx) ⟨⟨h, by decide, by decide⟩, fun w1 hw => ?_⟩
  obtain ⟨h1, h2, h3⟩ := hw
  refine ⟨fun h4 => ⟨h1, fun x w2 hw2 => ?_⟩, fun h4 => ⟨_, w1, rfl, rfl, h1, h2, ?_, ?_, by decide, by decide⟩⟩
  · obtain ⟨k1, k2, k3, k4, k5⟩ := hw2
    have hst : stW w1 = stW w := by
      rw [h3]
      cases hs : stW w with
      | error q => rfl
      | ok p =>
        rw [hs] at h4
        have h4 := of_decide_eq_false h4
        show (if _ then _ else _) = _
        rw [if_neg h4]
    have hrd : bnd (stW w) (rdS tx) = bnd (stW w) (rdL tx) := by
      cases hs : stW w with
      | error q => rfl
      | ok p =>
        rw [hs] at h4
        have h4 := of_decide_eq_false h4
        show rdS tx p = rdL tx p
        unfold rdS rdL sgO
        rw [if_neg h4]
    rw [hst] at k3 k4
    rw [hrd]
    exact ⟨x, w2, rfl, rfl, k1, h2.tr k2, k3, k4, k5.1, by omega⟩
  · rw [h3]
    cases hs : stW w with
    | error q => rw [hs] at h4; cases h4
    | ok p =>
      rw [hs] at h4
      have h4 := of_decide_eq_true h4
      show (if _ then _ else _) = stE (rdS tx p)
      unfold rdS sgO
      rw [if_pos h4, if_pos h4]
      rfl
  · cases hs : stW w with
    | error q => trivial
    | ok p =>
      rw [hs] at h4
      have h4 := of_decide_eq_true h4
      show rvO (rdS tx p) _
      unfold rdS sgO
      rw [if_pos h4]
      rfl

