/-! The model: names. -/
def nmB (tx : List Int) : Nat → Nat → Nat → Except Nat Nat
  | 0, p, _ => .error p
  | k + 1, p, b => match ltO (hr tx p) with
    | none => .error p
    | some l => if b.testBit l.toNat = true then .error p else if p + 1 < tx.length then nmB tx k (p + 1) (b ||| 2 ^ l.toNat) else .ok (b ||| 2 ^ l.toNat)
def nmC (c : Int) (r : Except Nat Nat) : Except Nat (Int × Nat) := match r with
  | .error q => .error q
  | .ok b => .ok (c, b)
def nmsR (tx : List Int) : Except Nat (Int × Nat) := if 65 ≤ hr tx 0 ∧ hr tx 0 ≤ 90 then (if hr tx 1 = 61 then nmC (hr tx 0) (nmB tx 26 2 0) else .error 1) else .error 0
def namesV (tx : List Int) (m : eW) : Int := match nmsR tx with
  | .error q => -21 - (q : Int)
  | .ok y => if soN m y.1 = nS m then (if nS m = 4 then -3 else (nS m : Int) + 1) else -2
def namesM (tx : List Int) (m : eW) : eW := match nmsR tx with
  | .error _ => m
  | .ok y => if soN m y.1 = nS m then (if nS m = 4 then m else wu (wu (wu m 70 (nS m) y.1) 71 (nS m) (y.2 : Int)) 67 3 (m 67 3 + 1)) else m
theorem or_b {b l : Nat} (hb : b < 2 ^ 27) (hl : l ≤ 26) : b ||| 2 ^ l < 2 ^ 27 ∧ 0 < b ||| 2 ^ l := by
  have h2 : 2 ^ l < 2 ^ 27 := Nat.pow_lt_pow_right (by decide) (by omega)
  refine ⟨Nat.or_lt_two_pow hb h2, ?_⟩
  have h3 : 2 ^ l ≤ b ||| 2 ^ l := Nat.right_le_or
  have := Nat.two_pow_pos l
  omega
theorem nmB_b {tx : List Int} : ∀ {k p b x : Nat}, b < 2 ^ 27 → nmB tx k p b = .ok x → 0 < x ∧ x < 2 ^ 27 := by
  intro k
  induction k with
  | zero => intro p b x hb h; cases h
  | succ k ih =>
    intro p b x hb h
    unfold nmB at h
    cases hl : ltO (hr tx p) with
    | none => rw [hl] at h; cases h
    | some l =>
      rw [hl] at h
      have h26 := ltO_b hl
      have ob := or_b hb (show l.toNat ≤ 26 by omega)
      dsimp only at h
      by_cases h1 : b.testBit l.toNat = true
      · rw [if_pos h1] at h; cases h
      · rw [if_neg h1] at h
        by_cases h2 : p + 1 < tx.length
        · rw [if_pos h2] at h
          exact ih ob.1 h
        · rw [if_neg h2] at h
          cases h
          exact ⟨ob.2, ob.1⟩
theorem nmsR_b {tx : List Int} {y : Int × Nat} (h : nmsR tx = .ok y) : (65 ≤ y.1 ∧ y.1 ≤ 90) ∧ 0 < y.2 ∧ y.2 < 2 ^ 27 := by
  unfold nmsR at h
  by_cases h1 : 65 ≤ hr tx 0 ∧ hr tx 0 ≤ 90
  · rw [if_pos h1] at h
    by_cases h2 : hr tx 1 = 61
    · rw [if_pos h2] at h
      cases hB : nmB tx 26 2 0 with
      | error q => rw [hB] at h; cases h
      | ok b =>
        rw [hB] at h
        cases h
        exact ⟨h1, nmB_b (by decide) hB⟩
    · rw [if_neg h2] at h; cases h
  · rw [if_neg h1] at h; cases h

theorem g_mnames0 {d : Nat} {Q : Option aV → aS → Prop} {w : eW} {t : eT} {tx : List Int} (h : (Px (wu (wu (wu (wu (wu w 67 26 0) 67 27 (w 67 23)) 67 23 0) 67 28 0) 67 29 (-1)) tx) ∧ (((decide (w64 65 ≤ w64 (w32 (hrI tx ((wu (wu (wu (wu (wu w 67 26 0) 67 27 (w 67 23)) 67 23 0) 67 28 0) 67 29 (-1)) 67 28))) ∧ w64 (w32 (hrI tx ((wu (wu (wu (wu (wu w 67 26 0) 67 27 (w 67 23)) 67 23 0) 67 28 0) 67 29 (-1)) 67 28))) ≤ w64 90)) = true → Ev (d + 3) 186 Q 36 [rA 67, (0, hrI tx ((wu (wu (wu (wu (wu w 67 26 0) 67 27 (w 67 23)) 67 23 0) 67 28 0) 67 29 (-1)) 67 28)), (9, 0), (9, 0), (9, 0)] [] (enc (wu (wu (wu (wu (wu w 67 26 0) 67 27 (w 67 23)) 67 23 0) 67 28 0) 67 29 (-1)) t)) ∧ ((decide (w64 65 ≤ w64 (w32 (hrI tx ((wu (wu (wu (wu (wu w 67 26 0) 67 27 (w 67 23)) 67 23 0) 67 28 0) 67 29 (-1)) 67 28))) ∧ w64 (w32 (hrI tx ((wu (wu (wu (wu (wu w 67 26 0) 67 27 (w 67 23)) 67 23 0) 67 28 0) 67 29 (-1)) 67 28))) ≤ w64 90)) = false → (Px (wu (wu (wu (wu (wu w 67 26 0) 67 27 (w 67 23)) 67 23 0) 67 28 0) 67 29 (-1)) tx ∧ (0 : Int) ≤ 0 ∧ (0 : Int) ≤ 81) ∧ (Ev (d + 3) 186 Q 36 [rA 67, (0, hrI tx ((wu (wu (wu (wu (wu w 67 26 0) 67 27 (w 67 23)) 67 23 0) 67 28 0) 67 29 (-1)) 67 28)), (9, 0), (9, 0), (9, 0)] [] (enc (ftW (wu (wu (wu (wu (wu w 67 26 0) 67 27 (w 67 23)) 67 23 0) 67 28 0) 67 29 (-1)) 0) t))))) : Cl (d + 3) 186 [rA 67] (enc w t) Q := by
  show Ev (d + 3) 186 Q 0 [rA 67, (9, 0), (9, 0), (9, 0), (9, 0)] [] (enc w t)
  refine e_lda (v := 67) (show am_cd 186 0 = (2, 1, 0, 2, []) by decide +kernel) rfl ?_
  refine e_ic (show am_cd 186 1 = (0, 2, 0, 0, []) by decide +kernel) ?_
  refine e_putf (a := 67) (show am_cd 186 2 = (19, 5, 1226, 0, [113]) by decide +kernel) (by decide +kernel) (by decide +kernel) rfl (fun h9 => absurd h9 (by decide)) (fun h9 => absurd h9 (by decide +kernel)) ?_
  refine e_lda (v := 67) (show am_cd 186 5 = (2, 6, 0, 2, []) by decide +kernel) rfl ?_
  refine e_cV (z := 0) (a := 67) (as := []) (rest := []) (show am_cd 186 6 = (40, 9, 170, 0, [171]) by decide +kernel) (by decide +kernel) rfl rfl (Nat.le_of_ble_eq_true rfl) rfl ?_
  show Ev _ 170 _ 0 [rA 67] [] _
  refine e_lda (v := 67) (show am_cd 170 0 = (2, 1, 0, 2, []) by decide +kernel) rfl ?_
  refine e_lda (v := 67) (show am_cd 170 1 = (2, 2, 0, 2, []) by decide +kernel) rfl ?_
  refine e_getfE (a := 67) (tg := 0) (v := w 67 23) (show am_cd 170 2 = (18, 5, 1223, 0, [119]) by decide +kernel) (by decide +kernel) (by decide +kernel) rfl rfl ?_
  refine e_putf (a := 67) (show am_cd 170 5 = (19, 8, 1227, 0, [126]) by decide +kernel) (by decide +kernel) (by decide +kernel) rfl (fun h9 => absurd h9 (by decide)) (fun h9 => absurd h9 (by decide +kernel)) ?_
  refine e_lda (v := 67) (show am_cd 170 8 = (2, 9, 0, 2, []) by decide +kernel) rfl ?_
  refine e_ic (show am_cd 170 9 = (0, 10, 0, 0, []) by decide +kernel) ?_
  refine e_putf (a := 67) (show am_cd 170 10 = (19, 13, 1223, 0, [119]) by decide +kernel) (by decide +kernel) (by decide +kernel) rfl (fun h9 => absurd h9 (by decide)) (fun h9 => absurd h9 (by decide +kernel)) ?_
  refine e_lda (v := 67) (show am_cd 170 13 = (2, 14, 0, 2, []) by decide +kernel) rfl ?_
  refine e_ic (show am_cd 170 14 = (0, 15, 0, 0, []) by decide +kernel) ?_
  refine e_putf (a := 67) (show am_cd 170 15 = (19, 18, 1228, 0, [129]) by decide +kernel) (by decide +kernel) (by decide +kernel) rfl (fun h9 => absurd h9 (by decide)) (fun h9 => absurd h9 (by decide +kernel)) ?_
  refine e_lda (v := 67) (show am_cd 170 18 = (2, 19, 0, 2, []) by decide +kernel) rfl ?_
  refine e_ic (show am_cd 170 19 = (0, 20, 0, -1, []) by decide +kernel) ?_
  refine e_putf (a := 67) (show am_cd 170 20 = (19, 23, 1229, 0, [132]) by decide +kernel) (by decide +kernel) (by decide +kernel) rfl (fun h9 => absurd h9 (by decide)) (fun h9 => absurd h9 (by decide +kernel)) ?_
  refine e_retv (show am_cd 170 23 = (36, 24, 3, 0, []) by decide +kernel) (by decide +kernel) ⟨fun _ h9 => (by cases h9), ?_⟩
  show Ev _ 186 _ 9 [rA 67, (9, 0), (9, 0), (9, 0), (9, 0)] [] _
  refine e_lda (v := 67) (show am_cd 186 9 = (2, 10, 0, 2, []) by decide +kernel) rfl ?_
  refine e_cV (z := 0) (a := 67) (as := []) (rest := []) (show am_cd 186 10 = (40, 13, 171, 0, [135]) by decide +kernel) (by decide +kernel) rfl rfl (Nat.le_of_ble_eq_true rfl) rfl ?_
  refine Cl.mono (Cl.up (c_here (d := d) h.1) (by omega)) ?_
  rintro _ _ ⟨rfl, rfl⟩
  refine ⟨fun _ h9 => (by cases h9), ?_⟩
  replace h := h.2
  show Ev _ 186 _ 13 [rA 67, (9, 0), (9, 0), (9, 0), (9, 0)] [(0, hrI tx ((wu (wu (wu (wu (wu w 67 26 0) 67 27 (w 67 23)) 67 23 0) 67 28 0) 67 29 (-1)) 67 28))] _
  refine e_sti (la2 := [rA 67, (0, hrI tx ((wu (wu (wu (wu (wu w 67 26 0) 67 27 (w 67 23)) 67 23 0) 67 28 0) 67 29 (-1)) 67 28)), (9, 0), (9, 0), (9, 0)]) (show am_cd 186 13 = (3, 14, 1, 0, []) by decide +kernel) rfl ?_
  refine e_ldi (show am_cd 186 14 = (2, 15, 1, 0, []) by decide +kernel) rfl ?_
  refine e_i2l (show am_cd 186 15 = (8, 16, 0, 0, []) by decide +kernel) ?_
  refine e_lc (show am_cd 186 16 = (1, 19, 1, 65, [192]) by decide +kernel) ?_
  refine e_lc (show am_cd 186 19 = (1, 22, 1, 90, [194]) by decide +kernel) ?_
  refine e_cS (z := 0) (as := [(1, w32 (hrI tx ((wu (wu (wu (wu (wu w 67 26 0) 67 27 (w 67 23)) 67 23 0) 67 28 0) 67 29 (-1)) 67 28))), (1, 65), (1, 90)]) (rest := []) (show am_cd 186 22 = (40, 25, 165, 1, [122]) by decide +kernel) (by decide) rfl rfl (Nat.le_of_ble_eq_true rfl) rfl ?_
  refine Cl.mono (Cl.up (c_in (d := d)) (by omega)) ?_
  rintro _ _ ⟨rfl, rfl⟩
  refine ⟨fun _ h9 => (by cases h9), ?_⟩
  show Ev _ 186 _ 25 [rA 67, (0, hrI tx ((wu (wu (wu (wu (wu w 67 26 0) 67 27 (w 67 23)) 67 23 0) 67 28 0) 67 29 (-1)) 67 28)), (9, 0), (9, 0), (9, 0)] [(0, bI (decide (w64 65 ≤ w64 (w32 (hrI tx ((wu (wu (wu (wu (wu w 67 26 0) 67 27 (w 67 23)) 67 23 0) 67 28 0) 67 29 (-1)) 67 28))) ∧ w64 (w32 (hrI tx ((wu (wu (wu (wu (wu w 67 26 0) 67 27 (w 67 23)) 67 23 0) 67 28 0) 67 29 (-1)) 67 28))) ≤ w64 90)))] _
  refine e_ifb1 (show am_cd 186 25 = (10, 28, 36, 1, []) by decide +kernel) (fun hc => ?_) (fun hc => ?_)
  · replace h := h.1 hc
    exact h
  · replace h := h.2 hc
    refine e_lda (v := 67) (show am_cd 186 28 = (2, 29, 0, 2, []) by decide +kernel) rfl ?_
    refine e_lda (v := 67) (show am_cd 186 29 = (2, 30, 0, 2, []) by decide +kernel) rfl ?_
    refine e_getfE (a := 67) (tg := 0) (v := 0) (show am_cd 186 30 = (18, 33, 1228, 0, [129]) by decide +kernel) (by decide +kernel) (by decide +kernel) rfl rfl ?_
    refine e_cV (z := 0) (a := 67) (as := [(0, 0)]) (rest := []) (show am_cd 186 33 = (40, 36, 172, 0, [143]) by decide +kernel) (by decide +kernel) rfl rfl (Nat.le_of_ble_eq_true rfl) rfl ?_
    refine Cl.mono (Cl.up (c_fault (d := d) h.1) (by omega)) ?_
    rintro _ _ ⟨rfl, rfl⟩
    refine ⟨fun _ h9 => (by cases h9), ?_⟩
    replace h := h.2
    show Ev _ 186 _ 36 [rA 67, (0, hrI tx ((wu (wu (wu (wu (wu w 67 26 0) 67 27 (w 67 23)) 67 23 0) 67 28 0) 67 29 (-1)) 67 28)), (9, 0), (9, 0), (9, 0)] [] _
    exact h

theorem g_mnames1 {d : Nat} {Q : Option aV → aS → Prop} {w : eW} {t : eT} {c : Int} {tx : List Int} (h : (Px (wu w 67 28 ((w 67 28) + 1)) tx ∧ (0 : Int) ≤ 61 ∧ (61 : Int) ≤ 255) ∧ (∀ w1, (Px w1 tx ∧ Fm [] [28, 29] (wu w 67 28 ((w 67 28) + 1)) w1 ∧ stW w1 = exS tx (stW (wu w 67 28 ((w 67 28) + 1))) 61) → Ev (d + 3) 186 Q 56 [rA 67, (0, c), (0, 0), (0, 0), (9, 0)] [] (enc w1 t))) : Ev (d + 3) 186 Q 36 [rA 67, (0, c), (9, 0), (9, 0), (9, 0)] [] (enc w t) := by
  refine e_lda (v := 67) (show am_cd 186 36 = (2, 37, 0, 2, []) by decide +kernel) rfl ?_
  refine e_dup (show am_cd 186 37 = (13, 38, 0, 0, []) by decide +kernel) (by decide) ?_
  refine e_getf (a := 67) (tg := 0) (show am_cd 186 38 = (18, 41, 1228, 0, [129]) by decide +kernel) (by decide +kernel) (by decide +kernel) rfl ?_
  refine e_ic (show am_cd 186 41 = (0, 42, 0, 1, []) by decide +kernel) ?_
  refine e_iadd (show am_cd 186 42 = (5, 43, 0, 0, []) by decide +kernel) ?_
  refine e_putf (a := 67) (show am_cd 186 43 = (19, 46, 1228, 0, [129]) by decide +kernel) (by decide +kernel) (by decide +kernel) rfl (fun h9 => absurd h9 (by decide)) (fun h9 => absurd h9 (by decide +kernel)) ?_
  refine e_lda (v := 67) (show am_cd 186 46 = (2, 47, 0, 2, []) by decide +kernel) rfl ?_
  refine e_ic (show am_cd 186 47 = (0, 49, 1, 61, []) by decide +kernel) ?_
  refine e_cV (z := 0) (a := 67) (as := [(0, 61)]) (rest := []) (show am_cd 186 49 = (40, 52, 175, 0, [161]) by decide +kernel) (by decide +kernel) rfl rfl (Nat.le_of_ble_eq_true rfl) rfl ?_
  refine Cl.mono (Cl.up (c_expect (d := d) h.1) (by omega)) ?_
  rintro _ _ ⟨w1, rfl, rfl, hp⟩
  refine ⟨fun _ h9 => (by cases h9), ?_⟩
  replace h := h.2 w1 hp
  show Ev _ 186 _ 52 [rA 67, (0, c), (9, 0), (9, 0), (9, 0)] [] _
  refine e_ic (show am_cd 186 52 = (0, 53, 0, 0, []) by decide +kernel) ?_
  refine e_sti (la2 := [rA 67, (0, c), (0, 0), (9, 0), (9, 0)]) (show am_cd 186 53 = (3, 54, 2, 0, []) by decide +kernel) rfl ?_
  refine e_ic (show am_cd 186 54 = (0, 55, 0, 0, []) by decide +kernel) ?_
  refine e_sti (la2 := [rA 67, (0, c), (0, 0), (0, 0), (9, 0)]) (show am_cd 186 55 = (3, 56, 3, 0, []) by decide +kernel) rfl ?_
  exact h

theorem g_mnames2 {d : Nat} {Q : Option aV → aS → Prop} {w : eW} {t : eT} {c b n : Int} {tx : List Int} {J4 : aV} (h : ((¬ w32 (w 67 29) = w32 (-1) → Ev (d + 3) 186 Q 153 [rA 67, (0, c), (0, b), (0, n), J4] [] (enc w t)) ∧ (¬ (¬ w32 (w 67 29) = w32 (-1)) → ((w32 n = 0 → Ev (d + 3) 186 Q 79 [rA 67, (0, c), (0, b), (0, n), J4] [] (enc w t)) ∧ (¬ (w32 n = 0) → ((w32 (w 67 27) ≤ w32 (w 67 28) → Ev (d + 3) 186 Q 153 [rA 67, (0, c), (0, b), (0, n), J4] [] (enc w t)) ∧ (¬ (w32 (w 67 27) ≤ w32 (w 67 28)) → Ev (d + 3) 186 Q 79 [rA 67, (0, c), (0, b), (0, n), J4] [] (enc w t)))))))) : Ev (d + 3) 186 Q 56 [rA 67, (0, c), (0, b), (0, n), J4] [] (enc w t) := by
  refine e_lda (v := 67) (show am_cd 186 56 = (2, 57, 0, 2, []) by decide +kernel) rfl ?_
  refine e_getf (a := 67) (tg := 0) (show am_cd 186 57 = (18, 60, 1229, 0, [132]) by decide +kernel) (by decide +kernel) (by decide +kernel) rfl ?_
  refine e_ic (show am_cd 186 60 = (0, 61, 0, -1, []) by decide +kernel) ?_
  refine e_cmp1 (show am_cd 186 61 = (11, 64, 153, 1, []) by decide +kernel) (fun hc => ?_) (fun hc => ?_)
  · replace h := h.1 hc
    exact h
  · replace h := h.2 hc
    refine e_ldi (show am_cd 186 64 = (2, 65, 3, 0, []) by decide +kernel) rfl ?_
    refine e_if0 (show am_cd 186 65 = (10, 68, 79, 0, []) by decide +kernel) (fun hc => ?_) (fun hc => ?_)
    · replace h := h.1 hc
      exact h
    · replace h := h.2 hc
      refine e_lda (v := 67) (show am_cd 186 68 = (2, 69, 0, 2, []) by decide +kernel) rfl ?_
      refine e_getf (a := 67) (tg := 0) (show am_cd 186 69 = (18, 72, 1228, 0, [129]) by decide +kernel) (by decide +kernel) (by decide +kernel) rfl ?_
      refine e_lda (v := 67) (show am_cd 186 72 = (2, 73, 0, 2, []) by decide +kernel) rfl ?_
      refine e_getf (a := 67) (tg := 0) (show am_cd 186 73 = (18, 76, 1227, 0, [126]) by decide +kernel) (by decide +kernel) (by decide +kernel) rfl ?_
      refine e_cmp3 (show am_cd 186 76 = (11, 79, 153, 3, []) by decide +kernel) (fun hc => ?_) (fun hc => ?_)
      · replace h := h.1 hc
        exact h
      · replace h := h.2 hc
        exact h

theorem g_mnames4 {d : Nat} {Q : Option aV → aS → Prop} {w : eW} {t : eT} {c b n : Int} {tx : List Int} {J4 : aV} (h : (Px w tx) ∧ (-1 ≤ hrI tx (w 67 28) ∧ hrI tx (w 67 28) ≤ 255) ∧ ((w32 ((ltO (hrI tx (w 67 28))).getD (-1)) = w32 (-1) → (Px w tx ∧ (0 : Int) ≤ w 67 28 ∧ (w 67 28 : Int) ≤ 81) ∧ (Ev (d + 3) 186 Q 118 [rA 67, (0, c), (0, b), (0, n), (0, (ltO (hrI tx (w 67 28))).getD (-1))] [] (enc (ftW w (w 67 28)) t))) ∧ (¬ (w32 ((ltO (hrI tx (w 67 28))).getD (-1)) = w32 (-1)) → ((w32 (iand (ishr b ((ltO (hrI tx (w 67 28))).getD (-1))) 1) = w32 1 → (Px w tx ∧ (0 : Int) ≤ w 67 28 ∧ (w 67 28 : Int) ≤ 81) ∧ (Ev (d + 3) 186 Q 118 [rA 67, (0, c), (0, b), (0, n), (0, (ltO (hrI tx (w 67 28))).getD (-1))] [] (enc (ftW w (w 67 28)) t))) ∧ (¬ (w32 (iand (ishr b ((ltO (hrI tx (w 67 28))).getD (-1))) 1) = w32 1) → ((¬ w32 n = w32 26 → Ev (d + 3) 186 Q 118 [rA 67, (0, c), (0, b), (0, n), (0, (ltO (hrI tx (w 67 28))).getD (-1))] [] (enc w t)) ∧ (¬ (¬ w32 n = w32 26) → (Px w tx ∧ (0 : Int) ≤ w 67 28 ∧ (w 67 28 : Int) ≤ 81) ∧ (Ev (d + 3) 186 Q 118 [rA 67, (0, c), (0, b), (0, n), (0, (ltO (hrI tx (w 67 28))).getD (-1))] [] (enc (ftW w (w 67 28)) t))))))))) : Ev (d + 3) 186 Q 79 [rA 67, (0, c), (0, b), (0, n), J4] [] (enc w t) := by
  refine e_lda (v := 67) (show am_cd 186 79 = (2, 80, 0, 2, []) by decide +kernel) rfl ?_
  refine e_cV (z := 0) (a := 67) (as := []) (rest := []) (show am_cd 186 80 = (40, 83, 171, 0, [135]) by decide +kernel) (by decide +kernel) rfl rfl (Nat.le_of_ble_eq_true rfl) rfl ?_
  refine Cl.mono (Cl.up (c_here (d := d) h.1) (by omega)) ?_
  rintro _ _ ⟨rfl, rfl⟩
  refine ⟨fun _ h9 => (by cases h9), ?_⟩
  replace h := h.2
  show Ev _ 186 _ 83 [rA 67, (0, c), (0, b), (0, n), J4] [(0, hrI tx (w 67 28))] _
  refine e_cS (z := 0) (as := [(0, hrI tx (w 67 28))]) (rest := []) (show am_cd 186 83 = (40, 86, 177, 1, [151]) by decide +kernel) (by decide) rfl rfl (Nat.le_of_ble_eq_true rfl) rfl ?_
  refine Cl.mono (Cl.up (c_letterOf (d := d) h.1) (by omega)) ?_
  rintro _ _ ⟨rfl, rfl⟩
  refine ⟨fun _ h9 => (by cases h9), ?_⟩
  replace h := h.2
  show Ev _ 186 _ 86 [rA 67, (0, c), (0, b), (0, n), J4] [(0, (ltO (hrI tx (w 67 28))).getD (-1))] _
  refine e_sti (la2 := [rA 67, (0, c), (0, b), (0, n), (0, (ltO (hrI tx (w 67 28))).getD (-1))]) (show am_cd 186 86 = (3, 88, 4, 0, []) by decide +kernel) rfl ?_
  refine e_ldi (show am_cd 186 88 = (2, 90, 4, 0, []) by decide +kernel) rfl ?_
  refine e_ic (show am_cd 186 90 = (0, 91, 0, -1, []) by decide +kernel) ?_
  refine e_cmp0 (show am_cd 186 91 = (11, 94, 110, 0, []) by decide +kernel) (fun hc => ?_) (fun hc => ?_)
  · replace h := h.1 hc
    refine e_lda (v := 67) (show am_cd 186 110 = (2, 111, 0, 2, []) by decide +kernel) rfl ?_
    refine e_lda (v := 67) (show am_cd 186 111 = (2, 112, 0, 2, []) by decide +kernel) rfl ?_
    refine e_getf (a := 67) (tg := 0) (show am_cd 186 112 = (18, 115, 1228, 0, [129]) by decide +kernel) (by decide +kernel) (by decide +kernel) rfl ?_
    refine e_cV (z := 0) (a := 67) (as := [(0, w 67 28)]) (rest := []) (show am_cd 186 115 = (40, 118, 172, 0, [143]) by decide +kernel) (by decide +kernel) rfl rfl (Nat.le_of_ble_eq_true rfl) rfl ?_
    refine Cl.mono (Cl.up (c_fault (d := d) h.1) (by omega)) ?_
    rintro _ _ ⟨rfl, rfl⟩
    refine ⟨fun _ h9 => (by cases h9), ?_⟩
    replace h := h.2
    show Ev _ 186 _ 118 [rA 67, (0, c), (0, b), (0, n), (0, (ltO (hrI tx (w 67 28))).getD (-1))] [] _
    exact h
  · replace h := h.2 hc
    refine e_ldi (show am_cd 186 94 = (2, 95, 2, 0, []) by decide +kernel) rfl ?_
    refine e_ldi (show am_cd 186 95 = (2, 97, 4, 0, []) by decide +kernel) rfl ?_
    refine e_ishr (show am_cd 186 97 = (5, 98, 7, 0, []) by decide +kernel) ?_
    refine e_ic (show am_cd 186 98 = (0, 99, 0, 1, []) by decide +kernel) ?_
    refine e_iand (show am_cd 186 99 = (5, 100, 3, 0, []) by decide +kernel) ?_
    refine e_ic (show am_cd 186 100 = (0, 101, 0, 1, []) by decide +kernel) ?_
    refine e_cmp0 (show am_cd 186 101 = (11, 104, 110, 0, []) by decide +kernel) (fun hc => ?_) (fun hc => ?_)
    · replace h := h.1 hc
      refine e_lda (v := 67) (show am_cd 186 110 = (2, 111, 0, 2, []) by decide +kernel) rfl ?_
      refine e_lda (v := 67) (show am_cd 186 111 = (2, 112, 0, 2, []) by decide +kernel) rfl ?_
      refine e_getf (a := 67) (tg := 0) (show am_cd 186 112 = (18, 115, 1228, 0, [129]) by decide +kernel) (by decide +kernel) (by decide +kernel) rfl ?_
      refine e_cV (z := 0) (a := 67) (as := [(0, w 67 28)]) (rest := []) (show am_cd 186 115 = (40, 118, 172, 0, [143]) by decide +kernel) (by decide +kernel) rfl rfl (Nat.le_of_ble_eq_true rfl) rfl ?_
      refine Cl.mono (Cl.up (c_fault (d := d) h.1) (by omega)) ?_
      rintro _ _ ⟨rfl, rfl⟩
      refine ⟨fun _ h9 => (by cases h9), ?_⟩
      replace h := h.2
      show Ev _ 186 _ 118 [rA 67, (0, c), (0, b), (0, n), (0, (ltO (hrI tx (w 67 28))).getD (-1))] [] _
      exact h
    · replace h := h.2 hc
      refine e_ldi (show am_cd 186 104 = (2, 105, 3, 0, []) by decide +kernel) rfl ?_
      refine e_ic (show am_cd 186 105 = (0, 107, 1, 26, []) by decide +kernel) ?_
      refine e_cmp1 (show am_cd 186 107 = (11, 110, 118, 1, []) by decide +kernel) (fun hc => ?_) (fun hc => ?_)
      · replace h := h.1 hc
        exact h
      · replace h := h.2 hc
        refine e_lda (v := 67) (show am_cd 186 110 = (2, 111, 0, 2, []) by decide +kernel) rfl ?_
        refine e_lda (v := 67) (show am_cd 186 111 = (2, 112, 0, 2, []) by decide +kernel) rfl ?_
        refine e_getf (a := 67) (tg := 0) (show am_cd 186 112 = (18, 115, 1228, 0, [129]) by decide +kernel) (by decide +kernel) (by decide +kernel) rfl ?_
        refine e_cV (z := 0) (a := 67) (as := [(0, w 67 28)]) (rest := []) (show am_cd 186 115 = (40, 118, 172, 0, [143]) by decide +kernel) (by decide +kernel) rfl rfl (Nat.le_of_ble_eq_true rfl) rfl ?_
        refine Cl.mono (Cl.up (c_fault (d := d) h.1) (by omega)) ?_
        rintro _ _ ⟨rfl, rfl⟩
        refine ⟨fun _ h9 => (by cases h9), ?_⟩
        replace h := h.2
        show Ev _ 186 _ 118 [rA 67, (0, c), (0, b), (0, n), (0, (ltO (hrI tx (w 67 28))).getD (-1))] [] _
        exact h

theorem g_mnames5 {d : Nat} {Q : Option aV → aS → Prop} {w : eW} {t : eT} {c b n l : Int} {tx : List Int} (h : ((¬ w32 (w 67 29) = w32 (-1) → Ev (d + 3) 186 Q 56 [rA 67, (0, c), (0, ior b 0), (0, n + 1), (0, l)] [] (enc (wu w 67 28 ((w 67 28) + 1)) t)) ∧ (¬ (¬ w32 (w 67 29) = w32 (-1)) → Ev (d + 3) 186 Q 56 [rA 67, (0, c), (0, ior b (ishl 1 l)), (0, n + 1), (0, l)] [] (enc (wu w 67 28 ((w 67 28) + 1)) t)))) : Ev (d + 3) 186 Q 118 [rA 67, (0, c), (0, b), (0, n), (0, l)] [] (enc w t) := by
  refine e_ldi (show am_cd 186 118 = (2, 119, 2, 0, []) by decide +kernel) rfl ?_
  refine e_lda (v := 67) (show am_cd 186 119 = (2, 120, 0, 2, []) by decide +kernel) rfl ?_
  refine e_getf (a := 67) (tg := 0) (show am_cd 186 120 = (18, 123, 1229, 0, [132]) by decide +kernel) (by decide +kernel) (by decide +kernel) rfl ?_
  refine e_ic (show am_cd 186 123 = (0, 124, 0, -1, []) by decide +kernel) ?_
  refine e_cmp1 (show am_cd 186 124 = (11, 127, 134, 1, []) by decide +kernel) (fun hc => ?_) (fun hc => ?_)
  · replace h := h.1 hc
    refine e_ic (show am_cd 186 134 = (0, 135, 0, 0, []) by decide +kernel) ?_
    refine e_ior (show am_cd 186 135 = (5, 136, 4, 0, []) by decide +kernel) ?_
    refine e_sti (la2 := [rA 67, (0, c), (0, ior b 0), (0, n), (0, l)]) (show am_cd 186 136 = (3, 137, 2, 0, []) by decide +kernel) rfl ?_
    refine e_inc (la2 := [rA 67, (0, c), (0, ior b 0), (0, n + 1), (0, l)]) (show am_cd 186 137 = (4, 140, 3, 1, []) by decide +kernel) rfl rfl ?_
    refine e_lda (v := 67) (show am_cd 186 140 = (2, 141, 0, 2, []) by decide +kernel) rfl ?_
    refine e_dup (show am_cd 186 141 = (13, 142, 0, 0, []) by decide +kernel) (by decide) ?_
    refine e_getf (a := 67) (tg := 0) (show am_cd 186 142 = (18, 145, 1228, 0, [129]) by decide +kernel) (by decide +kernel) (by decide +kernel) rfl ?_
    refine e_ic (show am_cd 186 145 = (0, 146, 0, 1, []) by decide +kernel) ?_
    refine e_iadd (show am_cd 186 146 = (5, 147, 0, 0, []) by decide +kernel) ?_
    refine e_putf (a := 67) (show am_cd 186 147 = (19, 150, 1228, 0, [129]) by decide +kernel) (by decide +kernel) (by decide +kernel) rfl (fun h9 => absurd h9 (by decide)) (fun h9 => absurd h9 (by decide +kernel)) ?_
    refine e_go (show am_cd 186 150 = (12, 56, 0, 0, []) by decide +kernel) ?_
    exact h
  · replace h := h.2 hc
    refine e_ic (show am_cd 186 127 = (0, 128, 0, 1, []) by decide +kernel) ?_
    refine e_ldi (show am_cd 186 128 = (2, 130, 4, 0, []) by decide +kernel) rfl ?_
    refine e_ishl (show am_cd 186 130 = (5, 131, 6, 0, []) by decide +kernel) ?_
    refine e_go (show am_cd 186 131 = (12, 135, 0, 0, []) by decide +kernel) ?_
    refine e_ior (show am_cd 186 135 = (5, 136, 4, 0, []) by decide +kernel) ?_
    refine e_sti (la2 := [rA 67, (0, c), (0, ior b (ishl 1 l)), (0, n), (0, l)]) (show am_cd 186 136 = (3, 137, 2, 0, []) by decide +kernel) rfl ?_
    refine e_inc (la2 := [rA 67, (0, c), (0, ior b (ishl 1 l)), (0, n + 1), (0, l)]) (show am_cd 186 137 = (4, 140, 3, 1, []) by decide +kernel) rfl rfl ?_
    refine e_lda (v := 67) (show am_cd 186 140 = (2, 141, 0, 2, []) by decide +kernel) rfl ?_
    refine e_dup (show am_cd 186 141 = (13, 142, 0, 0, []) by decide +kernel) (by decide) ?_
    refine e_getf (a := 67) (tg := 0) (show am_cd 186 142 = (18, 145, 1228, 0, [129]) by decide +kernel) (by decide +kernel) (by decide +kernel) rfl ?_
    refine e_ic (show am_cd 186 145 = (0, 146, 0, 1, []) by decide +kernel) ?_
    refine e_iadd (show am_cd 186 146 = (5, 147, 0, 0, []) by decide +kernel) ?_
    refine e_putf (a := 67) (show am_cd 186 147 = (19, 150, 1228, 0, [129]) by decide +kernel) (by decide +kernel) (by decide +kernel) rfl (fun h9 => absurd h9 (by decide)) (fun h9 => absurd h9 (by decide +kernel)) ?_
    refine e_go (show am_cd 186 150 = (12, 56, 0, 0, []) by decide +kernel) ?_
    exact h

theorem g_mnames3 {d : Nat} {Q : Option aV → aS → Prop} {w : eW} {t : eT} {c b n : Int} {tx : List Int} {J4 : aV} {m : eW} (h : ((w32 (w 67 29) = w32 (-1) → (WFs m ∧ MGs w m ∧ (-1 ≤ c ∧ c ≤ 255)) ∧ ((w32 (soI m c) = w32 (-1) → ((¬ w32 (w 67 3) = w32 4 → (0 ≤ w32 (w 67 3) ∧ w32 (w 67 3) < 4) ∧ (0 ≤ w32 (w 67 3) ∧ w32 (w 67 3) < 4) ∧ (Q (some (0, (w 67 3) + 1)) (enc (wu (wu (wu w 70 (w32 (w 67 3)).toNat c) 71 (w32 (w 67 3)).toNat b) 67 3 ((w 67 3) + 1)) t))) ∧ (¬ (¬ w32 (w 67 3) = w32 4) → Q (some (0, (-3))) (enc w t)))) ∧ (¬ (w32 (soI m c) = w32 (-1)) → Q (some (0, (-2))) (enc w t)))) ∧ (¬ (w32 (w 67 29) = w32 (-1)) → Q (some (0, (-21) - (w 67 29))) (enc w t)))) : Ev (d + 3) 186 Q 153 [rA 67, (0, c), (0, b), (0, n), J4] [] (enc w t) := by
  refine e_lda (v := 67) (show am_cd 186 153 = (2, 154, 0, 2, []) by decide +kernel) rfl ?_
  refine e_getf (a := 67) (tg := 0) (show am_cd 186 154 = (18, 157, 1229, 0, [132]) by decide +kernel) (by decide +kernel) (by decide +kernel) rfl ?_
  refine e_ic (show am_cd 186 157 = (0, 158, 0, -1, []) by decide +kernel) ?_
  refine e_cmp0 (show am_cd 186 158 = (11, 161, 166, 0, []) by decide +kernel) (fun hc => ?_) (fun hc => ?_)
  · replace h := h.1 hc
    refine e_lda (v := 67) (show am_cd 186 166 = (2, 167, 0, 2, []) by decide +kernel) rfl ?_
    refine e_ldi (show am_cd 186 167 = (2, 168, 1, 0, []) by decide +kernel) rfl ?_
    refine e_cV (z := 0) (a := 67) (as := [(0, c)]) (rest := []) (show am_cd 186 168 = (40, 171, 185, 0, [196]) by decide +kernel) (by decide +kernel) rfl rfl (Nat.le_of_ble_eq_true rfl) rfl ?_
    refine Cl.mono (Cl.up (c_setOf (d := d) h.1) (by omega)) ?_
    rintro _ _ ⟨rfl, rfl⟩
    refine ⟨fun _ h9 => (by cases h9), ?_⟩
    replace h := h.2
    show Ev _ 186 _ 171 [rA 67, (0, c), (0, b), (0, n), J4] [(0, soI m c)] _
    refine e_ic (show am_cd 186 171 = (0, 172, 0, -1, []) by decide +kernel) ?_
    refine e_cmp0 (show am_cd 186 172 = (11, 175, 178, 0, []) by decide +kernel) (fun hc => ?_) (fun hc => ?_)
    · replace h := h.1 hc
      refine e_lda (v := 67) (show am_cd 186 178 = (2, 179, 0, 2, []) by decide +kernel) rfl ?_
      refine e_getf (a := 67) (tg := 0) (show am_cd 186 179 = (18, 182, 1203, 0, [180]) by decide +kernel) (by decide +kernel) (by decide +kernel) rfl ?_
      refine e_ic (show am_cd 186 182 = (0, 183, 0, 4, []) by decide +kernel) ?_
      refine e_cmp1 (show am_cd 186 183 = (11, 186, 189, 1, []) by decide +kernel) (fun hc => ?_) (fun hc => ?_)
      · replace h := h.1 hc
        refine e_lda (v := 67) (show am_cd 186 189 = (2, 190, 0, 2, []) by decide +kernel) rfl ?_
        refine e_getr (a := 67) (r := 70) (show am_cd 186 190 = (18, 193, 1204, 2, [16]) by decide +kernel) (by decide +kernel) (by decide +kernel) rfl ?_
        refine e_lda (v := 67) (show am_cd 186 193 = (2, 194, 0, 2, []) by decide +kernel) rfl ?_
        refine e_getf (a := 67) (tg := 0) (show am_cd 186 194 = (18, 197, 1203, 0, [180]) by decide +kernel) (by decide +kernel) (by decide +kernel) rfl ?_
        refine e_ldi (show am_cd 186 197 = (2, 198, 1, 0, []) by decide +kernel) rfl ?_
        refine e_iast (a := 70) (n := 4) (show am_cd 186 198 = (24, 199, 0, 0, []) by decide +kernel) (by decide +kernel) (by decide +kernel) (by decide +kernel) h.1 ?_
        replace h := h.2
        refine e_lda (v := 67) (show am_cd 186 199 = (2, 200, 0, 2, []) by decide +kernel) rfl ?_
        refine e_getr (a := 67) (r := 71) (show am_cd 186 200 = (18, 203, 1205, 2, [19]) by decide +kernel) (by decide +kernel) (by decide +kernel) rfl ?_
        refine e_lda (v := 67) (show am_cd 186 203 = (2, 204, 0, 2, []) by decide +kernel) rfl ?_
        refine e_getfE (a := 67) (tg := 0) (v := w 67 3) (show am_cd 186 204 = (18, 207, 1203, 0, [180]) by decide +kernel) (by decide +kernel) (by decide +kernel) rfl rfl ?_
        refine e_ldi (show am_cd 186 207 = (2, 208, 2, 0, []) by decide +kernel) rfl ?_
        refine e_iast (a := 71) (n := 4) (show am_cd 186 208 = (24, 209, 0, 0, []) by decide +kernel) (by decide +kernel) (by decide +kernel) (by decide +kernel) h.1 ?_
        replace h := h.2
        refine e_lda (v := 67) (show am_cd 186 209 = (2, 210, 0, 2, []) by decide +kernel) rfl ?_
        refine e_dup (show am_cd 186 210 = (13, 211, 0, 0, []) by decide +kernel) (by decide) ?_
        refine e_getfE (a := 67) (tg := 0) (v := w 67 3) (show am_cd 186 211 = (18, 214, 1203, 0, [180]) by decide +kernel) (by decide +kernel) (by decide +kernel) rfl rfl ?_
        refine e_ic (show am_cd 186 214 = (0, 215, 0, 1, []) by decide +kernel) ?_
        refine e_iadd (show am_cd 186 215 = (5, 216, 0, 0, []) by decide +kernel) ?_
        refine e_putf (a := 67) (show am_cd 186 216 = (19, 219, 1203, 0, [180]) by decide +kernel) (by decide +kernel) (by decide +kernel) rfl (fun h9 => absurd h9 (by decide)) (fun h9 => absurd h9 (by decide +kernel)) ?_
        refine e_lda (v := 67) (show am_cd 186 219 = (2, 220, 0, 2, []) by decide +kernel) rfl ?_
        refine e_getfE (a := 67) (tg := 0) (v := (w 67 3) + 1) (show am_cd 186 220 = (18, 223, 1203, 0, [180]) by decide +kernel) (by decide +kernel) (by decide +kernel) rfl rfl ?_
        exact e_reti (show am_cd 186 223 = (36, 224, 0, 0, []) by decide +kernel) (by decide +kernel) h
      · replace h := h.2 hc
        refine e_ic (show am_cd 186 186 = (0, 188, 1, -3, []) by decide +kernel) ?_
        exact e_reti (show am_cd 186 188 = (36, 189, 0, 0, []) by decide +kernel) (by decide +kernel) h
    · replace h := h.2 hc
      refine e_ic (show am_cd 186 175 = (0, 177, 1, -2, []) by decide +kernel) ?_
      exact e_reti (show am_cd 186 177 = (36, 178, 0, 0, []) by decide +kernel) (by decide +kernel) h
  · replace h := h.2 hc
    refine e_lda (v := 67) (show am_cd 186 161 = (2, 162, 0, 2, []) by decide +kernel) rfl ?_
    refine e_cV (z := 0) (a := 67) (as := []) (rest := []) (show am_cd 186 162 = (40, 165, 173, 0, [177]) by decide +kernel) (by decide +kernel) rfl rfl (Nat.le_of_ble_eq_true rfl) rfl ?_
    show Ev _ 173 _ 0 [rA 67] [] _
    refine e_ic (show am_cd 173 0 = (0, 2, 1, -21, []) by decide +kernel) ?_
    refine e_lda (v := 67) (show am_cd 173 2 = (2, 3, 0, 2, []) by decide +kernel) rfl ?_
    refine e_getf (a := 67) (tg := 0) (show am_cd 173 3 = (18, 6, 1229, 0, [132]) by decide +kernel) (by decide +kernel) (by decide +kernel) rfl ?_
    refine e_isub (show am_cd 173 6 = (5, 7, 1, 0, []) by decide +kernel) ?_
    refine e_reti (show am_cd 173 7 = (36, 8, 0, 0, []) by decide +kernel) (by decide +kernel) ⟨fun _ h9 => (by cases h9), ?_⟩
    show Ev _ 186 _ 165 [rA 67, (0, c), (0, b), (0, n), J4] [(0, (-21) - (w 67 29))] _
    exact e_reti (show am_cd 186 165 = (36, 166, 0, 0, []) by decide +kernel) (by decide +kernel) h

theorem nsM_mi {w m : eW} {ks : kT} {rl : List Int} {c : Int} {b : Nat} (h : MI w m ks rl []) (hc : 65 ≤ c ∧ c ≤ 90) (hb : 0 < b ∧ b < 2 ^ 27) (hn : nS m < 4) : MI (wu (wu (wu w 70 (nS m) c) 71 (nS m) (b : Int)) 67 3 (m 67 3 + 1)) (wu (wu (wu m 70 (nS m) c) 71 (nS m) (b : Int)) 67 3 (m 67 3 + 1)) ks rl [] := by
  obtain ⟨h1, h2, h3, h4, h5, h6, h7⟩ := h
  have f : ∀ v : eW, Fm [70, 71] [3] v (wu (wu (wu v 70 (nS m) c) 71 (nS m) (b : Int)) 67 3 (m 67 3 + 1)) := fun v => ((Fm.pr (by decide) (by decide)).tr (Fm.pr (by decide) (by decide))).tr (Fm.pf (by decide))
  have fw := f w
  have fm := f m
  have hsn := h2.n
  have e3 : ∀ v : eW, (wu (wu (wu v 70 (nS m) c) 71 (nS m) (b : Int)) 67 3 (m 67 3 + 1)) 67 3 = m 67 3 + 1 := fun v => by rw [wu_eq]
  have at0 : ∀ v : eW, (wu (wu (wu v 70 (nS m) c) 71 (nS m) (b : Int)) 67 3 (m 67 3 + 1)) 70 (nS m) = c ∧ (wu (wu (wu v 70 (nS m) c) 71 (nS m) (b : Int)) 67 3 (m 67 3 + 1)) 71 (nS m) = (b : Int) := fun v => ⟨by rw [wu_na _ _ (by decide), wu_na _ _ (by decide), wu_eq], by rw [wu_na _ _ (by decide), wu_eq]⟩
  have at1 : ∀ (v : eW) (i : Nat), i ≠ nS m → (wu (wu (wu v 70 (nS m) c) 71 (nS m) (b : Int)) 67 3 (m 67 3 + 1)) 70 i = v 70 i ∧ (wu (wu (wu v 70 (nS m) c) 71 (nS m) (b : Int)) 67 3 (m 67 3 + 1)) 71 i = v 71 i := fun v i hi => ⟨by rw [wu_na _ _ (by decide), wu_na _ _ (by decide), wu_nk _ _ hi], by rw [wu_na _ _ (by decide), wu_nk _ _ hi, wu_na _ _ (by decide)]⟩
  have n1 : nS (wu (wu (wu m 70 (nS m) c) 71 (nS m) (b : Int)) 67 3 (m 67 3 + 1)) = nS m + 1 := by
    show ((wu (wu (wu m 70 (nS m) c) 71 (nS m) (b : Int)) 67 3 (m 67 3 + 1)) 67 3).toNat = _
    rw [e3]
    omega
  have hb2 : (b : Int) < 2 ^ 27 := by
    have := Int.ofNat_lt.mpr hb.2
    exact this
  have mxm : ∀ v : eW, MX v m → MX v (wu (wu (wu m 70 (nS m) c) 71 (nS m) (b : Int)) 67 3 (m 67 3 + 1)) := by
    intro v hv
    have r : ∀ a, a ≠ 67 → a ≠ 70 → a ≠ 71 → (wu (wu (wu m 70 (nS m) c) 71 (nS m) (b : Int)) 67 3 (m 67 3 + 1)) a = m a := fun a a1 a2 a3 => fm.1 a a1 (by simp; omega)
    have g : ∀ k, k ≠ 3 → (wu (wu (wu m 70 (nS m) c) 71 (nS m) (b : Int)) 67 3 (m 67 3 + 1)) 67 k = m 67 k := fun k hk => fm.2 k (by simp; omega)
    generalize wu (wu (wu m 70 (nS m) c) 71 (nS m) (b : Int)) 67 3 (m 67 3 + 1) = m2 at r g
    unfold MX MG WFp WFr WFe MGp MGr MGe PT nP nR nE at *
    rw [g 0 (by decide), g 6 (by decide), g 12 (by decide), r 68 (by decide) (by decide) (by decide), r 69 (by decide) (by decide) (by decide), r 72 (by decide) (by decide) (by decide), r 73 (by decide) (by decide) (by decide), r 74 (by decide) (by decide) (by decide), r 75 (by decide) (by decide) (by decide), r 76 (by decide) (by decide) (by decide), r 77 (by decide) (by decide) (by decide), r 78 (by decide) (by decide) (by decide), r 79 (by decide) (by decide) (by decide), r 80 (by decide) (by decide) (by decide)]
    exact hv
  have mxw : MX (wu (wu (wu w 70 (nS m) c) 71 (nS m) (b : Int)) 67 3 (m 67 3 + 1)) m := by
    have r : ∀ a, a ≠ 67 → a ≠ 70 → a ≠ 71 → (wu (wu (wu w 70 (nS m) c) 71 (nS m) (b : Int)) 67 3 (m 67 3 + 1)) a = w a := fun a a1 a2 a3 => fw.1 a a1 (by simp; omega)
    have g : ∀ k, k ≠ 3 → (wu (wu (wu w 70 (nS m) c) 71 (nS m) (b : Int)) 67 3 (m 67 3 + 1)) 67 k = w 67 k := fun k hk => fw.2 k (by simp; omega)
    generalize wu (wu (wu w 70 (nS m) c) 71 (nS m) (b : Int)) 67 3 (m 67 3 + 1) = w2 at r g
    unfold MX MG MGp MGr MGe at *
    rw [g 0 (by decide), g 6 (by decide), g 12 (by decide), r 68 (by decide) (by decide) (by decide), r 69 (by decide) (by decide) (by decide), r 72 (by decide) (by decide) (by decide), r 73 (by decide) (by decide) (by decide), r 74 (by decide) (by decide) (by decide), r 75 (by decide) (by decide) (by decide), r 76 (by decide) (by decide) (by decide), r 77 (by decide) (by decide) (by decide), r 78 (by decide) (by decide) (by decide), r 79 (by decide) (by decide) (by decide), r 80 (by decide) (by decide) (by decide)]
    exact h1
  refine ⟨mxm _ mxw, ⟨⟨by rw [e3]; omega, by rw [e3]; omega⟩, fun i hi => ?_⟩, ⟨by rw [e3, e3], fun i hi => ?_⟩, h4.m fw (by decide) (by decide), h5.m fw (by decide) (by decide), TxM.nil (by rw [fw.2 23 (by decide)]; exact h6.1), by rw [fw.2 35 (by decide)]; exact h7⟩
  · rw [n1] at hi
    by_cases h9 : i = nS m
    · rw [h9, (at0 m).1, (at0 m).2]
      exact ⟨hc, by omega, hb2⟩
    · rw [(at1 m i h9).1, (at1 m i h9).2]
      exact h2.2 i (by omega)
  · rw [n1] at hi
    by_cases h9 : i = nS m
    · rw [h9, (at0 m).1, (at0 m).2, (at0 w).1, (at0 w).2]
      exact ⟨rfl, rfl⟩
    · rw [(at1 m i h9).1, (at1 m i h9).2, (at1 w i h9).1, (at1 w i h9).2]
      exact h3.2 i (by omega)

