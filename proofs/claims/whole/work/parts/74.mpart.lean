/-! The model: sorts, what a sign in a part stands for. -/
def rdO (tx : List Int) (p : Nat) : Except Nat (Int × Nat) := if hr tx p = 61 then (if hr tx (p + 1) = 62 then .ok (0, p + 2) else .error (p + 1))
  else if hr tx p = 47 then (if hr tx (p + 1) = 60 then (if hr tx (p + 2) = 61 then .ok (3, p + 3) else .error (p + 2)) else .error (p + 1))
  else if hr tx p = 60 then (if hr tx (p + 1) = 61 then (if hr tx (p + 2) = 62 then .ok (2, p + 3) else .ok (1, p + 2)) else .error (p + 1))
  else .error p
def rdM (m : eW) (tx : List Int) (p : Nat) : Except Nat (Int × Nat) := if 65 ≤ hr tx p ∧ hr tx p ≤ 90 then (if soN m (hr tx p) = nS m then .error p else .ok (m 71 (soN m (hr tx p)), p + 1))
  else match rdS tx p with
    | .error q => .error q
    | .ok y => .ok (((2 ^ y.1.toNat : Nat) : Int), y.2)

theorem g_readSort {d : Nat} {Q : Option aV → aS → Prop} {w : eW} {t : eT} {tx : List Int} {m : eW} (h : (Px w tx ∧ (0 : Int) ≤ 61 ∧ (61 : Int) ≤ 255) ∧ (∀ w1, (Px w1 tx ∧ Fm [] [28, 29] w w1 ∧ stW w1 = psS tx (stW w) 61) → (((psB tx (stW w) 61) = false → (Px w1 tx ∧ (0 : Int) ≤ 47 ∧ (47 : Int) ≤ 255) ∧ (∀ w2, (Px w2 tx ∧ Fm [] [28, 29] w1 w2 ∧ stW w2 = psS tx (stW w1) 47) → (((psB tx (stW w1) 47) = false → (Px w2 tx ∧ (0 : Int) ≤ 60 ∧ (60 : Int) ≤ 255) ∧ (∀ w3, (Px w3 tx ∧ Fm [] [28, 29] w2 w3 ∧ stW w3 = exS tx (stW w2) 60) → (Px w3 tx ∧ (0 : Int) ≤ 61 ∧ (61 : Int) ≤ 255) ∧ (∀ w4, (Px w4 tx ∧ Fm [] [28, 29] w3 w4 ∧ stW w4 = exS tx (stW w3) 61) → (Px w4 tx ∧ (0 : Int) ≤ 62 ∧ (62 : Int) ≤ 255) ∧ (∀ w5, (Px w5 tx ∧ Fm [] [28, 29] w4 w5 ∧ stW w5 = psS tx (stW w4) 62) → (((psB tx (stW w4) 62) = false → Q (some (0, 1)) (enc w5 t)) ∧ ((psB tx (stW w4) 62) = true → Q (some (0, 2)) (enc w5 t))))))) ∧ ((psB tx (stW w1) 47) = true → (Px w2 tx ∧ (0 : Int) ≤ 60 ∧ (60 : Int) ≤ 255) ∧ (∀ w6, (Px w6 tx ∧ Fm [] [28, 29] w2 w6 ∧ stW w6 = exS tx (stW w2) 60) → (Px w6 tx ∧ (0 : Int) ≤ 61 ∧ (61 : Int) ≤ 255) ∧ (∀ w7, (Px w7 tx ∧ Fm [] [28, 29] w6 w7 ∧ stW w7 = exS tx (stW w6) 61) → Q (some (0, 3)) (enc w7 t))))))) ∧ ((psB tx (stW w) 61) = true → (Px w1 tx ∧ (0 : Int) ≤ 62 ∧ (62 : Int) ≤ 255) ∧ (∀ w8, (Px w8 tx ∧ Fm [] [28, 29] w1 w8 ∧ stW w8 = exS tx (stW w1) 62) → Q (some (0, 0)) (enc w8 t)))))) : Cl (d + 3) 190 [rA 67] (enc w t) Q := by
  show Ev (d + 3) 190 Q 0 [rA 67] [] (enc w t)
  refine e_lda (v := 67) (show am_cd 190 0 = (2, 1, 0, 2, []) by decide +kernel) rfl ?_
  refine e_ic (show am_cd 190 1 = (0, 3, 1, 61, []) by decide +kernel) ?_
  refine e_cV (z := 0) (a := 67) (as := [(0, 61)]) (rest := []) (show am_cd 190 3 = (40, 6, 174, 0, [139]) by decide +kernel) (by decide +kernel) rfl rfl (Nat.le_of_ble_eq_true rfl) rfl ?_
  refine Cl.mono (Cl.up (c_passes (d := d) h.1) (by omega)) ?_
  rintro _ _ ⟨w1, rfl, rfl, hp⟩
  refine ⟨fun _ h9 => (by cases h9), ?_⟩
  replace h := h.2 w1 hp
  show Ev _ 190 _ 6 [rA 67] [(0, bI (psB tx (stW w) 61))] _
  refine e_ifb0 (show am_cd 190 6 = (10, 9, 17, 0, []) by decide +kernel) (fun hc => ?_) (fun hc => ?_)
  · replace h := h.1 hc
    refine e_lda (v := 67) (show am_cd 190 17 = (2, 18, 0, 2, []) by decide +kernel) rfl ?_
    refine e_ic (show am_cd 190 18 = (0, 20, 1, 47, []) by decide +kernel) ?_
    refine e_cV (z := 0) (a := 67) (as := [(0, 47)]) (rest := []) (show am_cd 190 20 = (40, 23, 174, 0, [139]) by decide +kernel) (by decide +kernel) rfl rfl (Nat.le_of_ble_eq_true rfl) rfl ?_
    refine Cl.mono (Cl.up (c_passes (d := d) h.1) (by omega)) ?_
    rintro _ _ ⟨w2, rfl, rfl, hp⟩
    refine ⟨fun _ h9 => (by cases h9), ?_⟩
    replace h := h.2 w2 hp
    show Ev _ 190 _ 23 [rA 67] [(0, bI (psB tx (stW w1) 47))] _
    refine e_ifb0 (show am_cd 190 23 = (10, 26, 40, 0, []) by decide +kernel) (fun hc => ?_) (fun hc => ?_)
    · replace h := h.1 hc
      refine e_lda (v := 67) (show am_cd 190 40 = (2, 41, 0, 2, []) by decide +kernel) rfl ?_
      refine e_ic (show am_cd 190 41 = (0, 43, 1, 60, []) by decide +kernel) ?_
      refine e_cV (z := 0) (a := 67) (as := [(0, 60)]) (rest := []) (show am_cd 190 43 = (40, 46, 175, 0, [161]) by decide +kernel) (by decide +kernel) rfl rfl (Nat.le_of_ble_eq_true rfl) rfl ?_
      refine Cl.mono (Cl.up (c_expect (d := d) h.1) (by omega)) ?_
      rintro _ _ ⟨w3, rfl, rfl, hp⟩
      refine ⟨fun _ h9 => (by cases h9), ?_⟩
      replace h := h.2 w3 hp
      show Ev _ 190 _ 46 [rA 67] [] _
      refine e_lda (v := 67) (show am_cd 190 46 = (2, 47, 0, 2, []) by decide +kernel) rfl ?_
      refine e_ic (show am_cd 190 47 = (0, 49, 1, 61, []) by decide +kernel) ?_
      refine e_cV (z := 0) (a := 67) (as := [(0, 61)]) (rest := []) (show am_cd 190 49 = (40, 52, 175, 0, [161]) by decide +kernel) (by decide +kernel) rfl rfl (Nat.le_of_ble_eq_true rfl) rfl ?_
      refine Cl.mono (Cl.up (c_expect (d := d) h.1) (by omega)) ?_
      rintro _ _ ⟨w4, rfl, rfl, hp⟩
      refine ⟨fun _ h9 => (by cases h9), ?_⟩
      replace h := h.2 w4 hp
      show Ev _ 190 _ 52 [rA 67] [] _
      refine e_lda (v := 67) (show am_cd 190 52 = (2, 53, 0, 2, []) by decide +kernel) rfl ?_
      refine e_ic (show am_cd 190 53 = (0, 55, 1, 62, []) by decide +kernel) ?_
      refine e_cV (z := 0) (a := 67) (as := [(0, 62)]) (rest := []) (show am_cd 190 55 = (40, 58, 174, 0, [139]) by decide +kernel) (by decide +kernel) rfl rfl (Nat.le_of_ble_eq_true rfl) rfl ?_
      refine Cl.mono (Cl.up (c_passes (d := d) h.1) (by omega)) ?_
      rintro _ _ ⟨w5, rfl, rfl, hp⟩
      refine ⟨fun _ h9 => (by cases h9), ?_⟩
      replace h := h.2 w5 hp
      show Ev _ 190 _ 58 [rA 67] [(0, bI (psB tx (stW w4) 62))] _
      refine e_ifb0 (show am_cd 190 58 = (10, 61, 65, 0, []) by decide +kernel) (fun hc => ?_) (fun hc => ?_)
      · replace h := h.1 hc
        refine e_ic (show am_cd 190 65 = (0, 66, 0, 1, []) by decide +kernel) ?_
        exact e_reti (show am_cd 190 66 = (36, 67, 0, 0, []) by decide +kernel) (by decide +kernel) h
      · replace h := h.2 hc
        refine e_ic (show am_cd 190 61 = (0, 62, 0, 2, []) by decide +kernel) ?_
        refine e_go (show am_cd 190 62 = (12, 66, 0, 0, []) by decide +kernel) ?_
        exact e_reti (show am_cd 190 66 = (36, 67, 0, 0, []) by decide +kernel) (by decide +kernel) h
    · replace h := h.2 hc
      refine e_lda (v := 67) (show am_cd 190 26 = (2, 27, 0, 2, []) by decide +kernel) rfl ?_
      refine e_ic (show am_cd 190 27 = (0, 29, 1, 60, []) by decide +kernel) ?_
      refine e_cV (z := 0) (a := 67) (as := [(0, 60)]) (rest := []) (show am_cd 190 29 = (40, 32, 175, 0, [161]) by decide +kernel) (by decide +kernel) rfl rfl (Nat.le_of_ble_eq_true rfl) rfl ?_
      refine Cl.mono (Cl.up (c_expect (d := d) h.1) (by omega)) ?_
      rintro _ _ ⟨w6, rfl, rfl, hp⟩
      refine ⟨fun _ h9 => (by cases h9), ?_⟩
      replace h := h.2 w6 hp
      show Ev _ 190 _ 32 [rA 67] [] _
      refine e_lda (v := 67) (show am_cd 190 32 = (2, 33, 0, 2, []) by decide +kernel) rfl ?_
      refine e_ic (show am_cd 190 33 = (0, 35, 1, 61, []) by decide +kernel) ?_
      refine e_cV (z := 0) (a := 67) (as := [(0, 61)]) (rest := []) (show am_cd 190 35 = (40, 38, 175, 0, [161]) by decide +kernel) (by decide +kernel) rfl rfl (Nat.le_of_ble_eq_true rfl) rfl ?_
      refine Cl.mono (Cl.up (c_expect (d := d) h.1) (by omega)) ?_
      rintro _ _ ⟨w7, rfl, rfl, hp⟩
      refine ⟨fun _ h9 => (by cases h9), ?_⟩
      replace h := h.2 w7 hp
      show Ev _ 190 _ 38 [rA 67] [] _
      refine e_ic (show am_cd 190 38 = (0, 39, 0, 3, []) by decide +kernel) ?_
      exact e_reti (show am_cd 190 39 = (36, 40, 0, 0, []) by decide +kernel) (by decide +kernel) h
  · replace h := h.2 hc
    refine e_lda (v := 67) (show am_cd 190 9 = (2, 10, 0, 2, []) by decide +kernel) rfl ?_
    refine e_ic (show am_cd 190 10 = (0, 12, 1, 62, []) by decide +kernel) ?_
    refine e_cV (z := 0) (a := 67) (as := [(0, 62)]) (rest := []) (show am_cd 190 12 = (40, 15, 175, 0, [161]) by decide +kernel) (by decide +kernel) rfl rfl (Nat.le_of_ble_eq_true rfl) rfl ?_
    refine Cl.mono (Cl.up (c_expect (d := d) h.1) (by omega)) ?_
    rintro _ _ ⟨w8, rfl, rfl, hp⟩
    refine ⟨fun _ h9 => (by cases h9), ?_⟩
    replace h := h.2 w8 hp
    show Ev _ 190 _ 15 [rA 67] [] _
    refine e_ic (show am_cd 190 15 = (0, 16, 0, 0, []) by decide +kernel) ?_
    exact e_reti (show am_cd 190 16 = (36, 17, 0, 0, []) by decide +kernel) (by decide +kernel) h

theorem g_readSome {d : Nat} {Q : Option aV → aS → Prop} {w : eW} {t : eT} {tx : List Int} {m : eW} (h : ((¬ w32 (w 67 29) = w32 (-1) → (Px w tx) ∧ (∀ x1 w2, (Px w2 tx ∧ Fm [] [28, 29] w w2 ∧ stW w2 = stE (bnd (stW w) (rdS tx)) ∧ rvO (bnd (stW w) (rdS tx)) x1 ∧ -1 ≤ x1 ∧ x1 ≤ 27) → ((¬ w32 (w2 67 29) = w32 (-1) → Q (some (0, 0)) (enc w2 t)) ∧ (¬ (¬ w32 (w2 67 29) = w32 (-1)) → Q (some (0, ishl 1 x1)) (enc w2 t))))) ∧ (¬ (¬ w32 (w 67 29) = w32 (-1)) → (Px w tx) ∧ (((decide (w64 65 ≤ w64 (w32 (hrI tx (w 67 28))) ∧ w64 (w32 (hrI tx (w 67 28))) ≤ w64 90)) = false → (Px w tx) ∧ (∀ x3 w4, (Px w4 tx ∧ Fm [] [28, 29] w w4 ∧ stW w4 = stE (bnd (stW w) (rdS tx)) ∧ rvO (bnd (stW w) (rdS tx)) x3 ∧ -1 ≤ x3 ∧ x3 ≤ 27) → ((¬ w32 (w4 67 29) = w32 (-1) → Q (some (0, 0)) (enc w4 t)) ∧ (¬ (¬ w32 (w4 67 29) = w32 (-1)) → Q (some (0, ishl 1 x3)) (enc w4 t))))) ∧ ((decide (w64 65 ≤ w64 (w32 (hrI tx (w 67 28))) ∧ w64 (w32 (hrI tx (w 67 28))) ≤ w64 90)) = true → (Px w tx) ∧ (WFs m ∧ MGs w m ∧ (-1 ≤ hrI tx (w 67 28) ∧ hrI tx (w 67 28) ≤ 255)) ∧ ((¬ w32 (soI m (hrI tx (w 67 28))) = w32 (-1) → ((¬ w32 (soI m (hrI tx (w 67 28))) = w32 (-1) → (0 ≤ w32 (soI m (hrI tx (w 67 28))) ∧ w32 (soI m (hrI tx (w 67 28))) < 4) ∧ (Q (some (0, w 71 (w32 (soI m (hrI tx (w 67 28)))).toNat)) (enc (wu w 67 28 ((w 67 28) + 1)) t))) ∧ (¬ (¬ w32 (soI m (hrI tx (w 67 28))) = w32 (-1)) → Q (some (0, 0)) (enc (wu w 67 28 ((w 67 28) + 1)) t)))) ∧ (¬ (¬ w32 (soI m (hrI tx (w 67 28))) = w32 (-1)) → (Px w tx ∧ 0 ≤ w 67 28 ∧ w 67 28 ≤ 81) ∧ ((¬ w32 (soI m (hrI tx (w 67 28))) = w32 (-1) → (0 ≤ w32 (soI m (hrI tx (w 67 28))) ∧ w32 (soI m (hrI tx (w 67 28))) < 4) ∧ (Q (some (0, (ftW w (w 67 28)) 71 (w32 (soI m (hrI tx (w 67 28)))).toNat)) (enc (wu (ftW w (w 67 28)) 67 28 (((ftW w (w 67 28)) 67 28) + 1)) t))) ∧ (¬ (¬ w32 (soI m (hrI tx (w 67 28))) = w32 (-1)) → Q (some (0, 0)) (enc (wu (ftW w (w 67 28)) 67 28 (((ftW w (w 67 28)) 67 28) + 1)) t)))))))))) : Cl (d + 4) 187 [rA 67] (enc w t) Q := by
  show Ev (d + 4) 187 Q 0 [rA 67, (9, 0)] [] (enc w t)
  refine e_lda (v := 67) (show am_cd 187 0 = (2, 1, 0, 2, []) by decide +kernel) rfl ?_
  refine e_getf (a := 67) (tg := 0) (show am_cd 187 1 = (18, 4, 1229, 0, [132]) by decide +kernel) (by decide +kernel) (by decide +kernel) rfl ?_
  refine e_ic (show am_cd 187 4 = (0, 5, 0, -1, []) by decide +kernel) ?_
  refine e_cmp1 (show am_cd 187 5 = (11, 8, 73, 1, []) by decide +kernel) (fun hc => ?_) (fun hc => ?_)
  · replace h := h.1 hc
    refine e_lda (v := 67) (show am_cd 187 73 = (2, 74, 0, 2, []) by decide +kernel) rfl ?_
    refine e_cV (z := 0) (a := 67) (as := []) (rest := []) (show am_cd 187 74 = (40, 77, 181, 0, [158]) by decide +kernel) (by decide +kernel) rfl rfl (Nat.le_of_ble_eq_true rfl) rfl ?_
    refine Cl.mono (Cl.up (c_readSign (d := d) h.1) (by omega)) ?_
    rintro _ _ ⟨x1, w2, rfl, rfl, hp⟩
    refine ⟨fun _ h9 => (by cases h9), ?_⟩
    replace h := h.2 x1 w2 hp
    show Ev _ 187 _ 77 [rA 67, (9, 0)] [(0, x1)] _
    refine e_sti (la2 := [rA 67, (0, x1)]) (show am_cd 187 77 = (3, 78, 1, 0, []) by decide +kernel) rfl ?_
    refine e_lda (v := 67) (show am_cd 187 78 = (2, 79, 0, 2, []) by decide +kernel) rfl ?_
    refine e_getf (a := 67) (tg := 0) (show am_cd 187 79 = (18, 82, 1229, 0, [132]) by decide +kernel) (by decide +kernel) (by decide +kernel) rfl ?_
    refine e_ic (show am_cd 187 82 = (0, 83, 0, -1, []) by decide +kernel) ?_
    refine e_cmp1 (show am_cd 187 83 = (11, 86, 92, 1, []) by decide +kernel) (fun hc => ?_) (fun hc => ?_)
    · replace h := h.1 hc
      refine e_ic (show am_cd 187 92 = (0, 93, 0, 0, []) by decide +kernel) ?_
      exact e_reti (show am_cd 187 93 = (36, 94, 0, 0, []) by decide +kernel) (by decide +kernel) h
    · replace h := h.2 hc
      refine e_ic (show am_cd 187 86 = (0, 87, 0, 1, []) by decide +kernel) ?_
      refine e_ldi (show am_cd 187 87 = (2, 88, 1, 0, []) by decide +kernel) rfl ?_
      refine e_ishl (show am_cd 187 88 = (5, 89, 6, 0, []) by decide +kernel) ?_
      refine e_go (show am_cd 187 89 = (12, 93, 0, 0, []) by decide +kernel) ?_
      exact e_reti (show am_cd 187 93 = (36, 94, 0, 0, []) by decide +kernel) (by decide +kernel) h
  · replace h := h.2 hc
    refine e_lda (v := 67) (show am_cd 187 8 = (2, 9, 0, 2, []) by decide +kernel) rfl ?_
    refine e_cV (z := 0) (a := 67) (as := []) (rest := []) (show am_cd 187 9 = (40, 12, 171, 0, [135]) by decide +kernel) (by decide +kernel) rfl rfl (Nat.le_of_ble_eq_true rfl) rfl ?_
    refine Cl.mono (Cl.up (c_here (d := d) h.1) (by omega)) ?_
    rintro _ _ ⟨rfl, rfl⟩
    refine ⟨fun _ h9 => (by cases h9), ?_⟩
    replace h := h.2
    show Ev _ 187 _ 12 [rA 67, (9, 0)] [(0, hrI tx (w 67 28))] _
    refine e_i2l (show am_cd 187 12 = (8, 13, 0, 0, []) by decide +kernel) ?_
    refine e_lc (show am_cd 187 13 = (1, 16, 1, 65, [192]) by decide +kernel) ?_
    refine e_lc (show am_cd 187 16 = (1, 19, 1, 90, [194]) by decide +kernel) ?_
    refine e_cS (z := 0) (as := [(1, w32 (hrI tx (w 67 28))), (1, 65), (1, 90)]) (rest := []) (show am_cd 187 19 = (40, 22, 165, 1, [122]) by decide +kernel) (by decide) rfl rfl (Nat.le_of_ble_eq_true rfl) rfl ?_
    refine Cl.mono (Cl.up (c_in (d := d)) (by omega)) ?_
    rintro _ _ ⟨rfl, rfl⟩
    refine ⟨fun _ h9 => (by cases h9), ?_⟩
    show Ev _ 187 _ 22 [rA 67, (9, 0)] [(0, bI (decide (w64 65 ≤ w64 (w32 (hrI tx (w 67 28))) ∧ w64 (w32 (hrI tx (w 67 28))) ≤ w64 90)))] _
    refine e_ifb0 (show am_cd 187 22 = (10, 25, 73, 0, []) by decide +kernel) (fun hc => ?_) (fun hc => ?_)
    · replace h := h.1 hc
      refine e_lda (v := 67) (show am_cd 187 73 = (2, 74, 0, 2, []) by decide +kernel) rfl ?_
      refine e_cV (z := 0) (a := 67) (as := []) (rest := []) (show am_cd 187 74 = (40, 77, 181, 0, [158]) by decide +kernel) (by decide +kernel) rfl rfl (Nat.le_of_ble_eq_true rfl) rfl ?_
      refine Cl.mono (Cl.up (c_readSign (d := d) h.1) (by omega)) ?_
      rintro _ _ ⟨x3, w4, rfl, rfl, hp⟩
      refine ⟨fun _ h9 => (by cases h9), ?_⟩
      replace h := h.2 x3 w4 hp
      show Ev _ 187 _ 77 [rA 67, (9, 0)] [(0, x3)] _
      refine e_sti (la2 := [rA 67, (0, x3)]) (show am_cd 187 77 = (3, 78, 1, 0, []) by decide +kernel) rfl ?_
      refine e_lda (v := 67) (show am_cd 187 78 = (2, 79, 0, 2, []) by decide +kernel) rfl ?_
      refine e_getf (a := 67) (tg := 0) (show am_cd 187 79 = (18, 82, 1229, 0, [132]) by decide +kernel) (by decide +kernel) (by decide +kernel) rfl ?_
      refine e_ic (show am_cd 187 82 = (0, 83, 0, -1, []) by decide +kernel) ?_
      refine e_cmp1 (show am_cd 187 83 = (11, 86, 92, 1, []) by decide +kernel) (fun hc => ?_) (fun hc => ?_)
      · replace h := h.1 hc
        refine e_ic (show am_cd 187 92 = (0, 93, 0, 0, []) by decide +kernel) ?_
        exact e_reti (show am_cd 187 93 = (36, 94, 0, 0, []) by decide +kernel) (by decide +kernel) h
      · replace h := h.2 hc
        refine e_ic (show am_cd 187 86 = (0, 87, 0, 1, []) by decide +kernel) ?_
        refine e_ldi (show am_cd 187 87 = (2, 88, 1, 0, []) by decide +kernel) rfl ?_
        refine e_ishl (show am_cd 187 88 = (5, 89, 6, 0, []) by decide +kernel) ?_
        refine e_go (show am_cd 187 89 = (12, 93, 0, 0, []) by decide +kernel) ?_
        exact e_reti (show am_cd 187 93 = (36, 94, 0, 0, []) by decide +kernel) (by decide +kernel) h
    · replace h := h.2 hc
      refine e_lda (v := 67) (show am_cd 187 25 = (2, 26, 0, 2, []) by decide +kernel) rfl ?_
      refine e_lda (v := 67) (show am_cd 187 26 = (2, 27, 0, 2, []) by decide +kernel) rfl ?_
      refine e_cV (z := 0) (a := 67) (as := []) (rest := [rA 67]) (show am_cd 187 27 = (40, 30, 171, 0, [135]) by decide +kernel) (by decide +kernel) rfl rfl (Nat.le_of_ble_eq_true rfl) rfl ?_
      refine Cl.mono (Cl.up (c_here (d := d) h.1) (by omega)) ?_
      rintro _ _ ⟨rfl, rfl⟩
      refine ⟨fun _ h9 => (by cases h9), ?_⟩
      replace h := h.2
      show Ev _ 187 _ 30 [rA 67, (9, 0)] [(0, hrI tx (w 67 28)), rA 67] _
      refine e_cV (z := 0) (a := 67) (as := [(0, hrI tx (w 67 28))]) (rest := []) (show am_cd 187 30 = (40, 33, 185, 0, [196]) by decide +kernel) (by decide +kernel) rfl rfl (Nat.le_of_ble_eq_true rfl) rfl ?_
      refine Cl.mono (Cl.up (c_setOf (d := d) h.1) (by omega)) ?_
      rintro _ _ ⟨rfl, rfl⟩
      refine ⟨fun _ h9 => (by cases h9), ?_⟩
      replace h := h.2
      show Ev _ 187 _ 33 [rA 67, (9, 0)] [(0, soI m (hrI tx (w 67 28)))] _
      refine e_sti (la2 := [rA 67, (0, soI m (hrI tx (w 67 28)))]) (show am_cd 187 33 = (3, 34, 1, 0, []) by decide +kernel) rfl ?_
      refine e_ldi (show am_cd 187 34 = (2, 35, 1, 0, []) by decide +kernel) rfl ?_
      refine e_ic (show am_cd 187 35 = (0, 36, 0, -1, []) by decide +kernel) ?_
      refine e_cmp1 (show am_cd 187 36 = (11, 39, 47, 1, []) by decide +kernel) (fun hc => ?_) (fun hc => ?_)
      · replace h := h.1 hc
        refine e_lda (v := 67) (show am_cd 187 47 = (2, 48, 0, 2, []) by decide +kernel) rfl ?_
        refine e_dup (show am_cd 187 48 = (13, 49, 0, 0, []) by decide +kernel) (by decide) ?_
        refine e_getf (a := 67) (tg := 0) (show am_cd 187 49 = (18, 52, 1228, 0, [129]) by decide +kernel) (by decide +kernel) (by decide +kernel) rfl ?_
        refine e_ic (show am_cd 187 52 = (0, 53, 0, 1, []) by decide +kernel) ?_
        refine e_iadd (show am_cd 187 53 = (5, 54, 0, 0, []) by decide +kernel) ?_
        refine e_putf (a := 67) (show am_cd 187 54 = (19, 57, 1228, 0, [129]) by decide +kernel) (by decide +kernel) (by decide +kernel) rfl (fun h9 => absurd h9 (by decide)) (fun h9 => absurd h9 (by decide +kernel)) ?_
        refine e_ldi (show am_cd 187 57 = (2, 58, 1, 0, []) by decide +kernel) rfl ?_
        refine e_ic (show am_cd 187 58 = (0, 59, 0, -1, []) by decide +kernel) ?_
        refine e_cmp1 (show am_cd 187 59 = (11, 62, 66, 1, []) by decide +kernel) (fun hc => ?_) (fun hc => ?_)
        · replace h := h.1 hc
          refine e_lda (v := 67) (show am_cd 187 66 = (2, 67, 0, 2, []) by decide +kernel) rfl ?_
          refine e_getr (a := 67) (r := 71) (show am_cd 187 67 = (18, 70, 1205, 2, [19]) by decide +kernel) (by decide +kernel) (by decide +kernel) rfl ?_
          refine e_ldi (show am_cd 187 70 = (2, 71, 1, 0, []) by decide +kernel) rfl ?_
          refine e_ialdE (a := 71) (n := 4) (v := w 71 (w32 (soI m (hrI tx (w 67 28)))).toNat) (show am_cd 187 71 = (21, 72, 0, 0, []) by decide +kernel) (by decide +kernel) (by decide +kernel) (by decide +kernel) h.1 rfl ?_
          replace h := h.2
          exact e_reti (show am_cd 187 72 = (36, 73, 0, 0, []) by decide +kernel) (by decide +kernel) h
        · replace h := h.2 hc
          refine e_ic (show am_cd 187 62 = (0, 63, 0, 0, []) by decide +kernel) ?_
          refine e_go (show am_cd 187 63 = (12, 72, 0, 0, []) by decide +kernel) ?_
          exact e_reti (show am_cd 187 72 = (36, 73, 0, 0, []) by decide +kernel) (by decide +kernel) h
      · replace h := h.2 hc
        refine e_lda (v := 67) (show am_cd 187 39 = (2, 40, 0, 2, []) by decide +kernel) rfl ?_
        refine e_lda (v := 67) (show am_cd 187 40 = (2, 41, 0, 2, []) by decide +kernel) rfl ?_
        refine e_getf (a := 67) (tg := 0) (show am_cd 187 41 = (18, 44, 1228, 0, [129]) by decide +kernel) (by decide +kernel) (by decide +kernel) rfl ?_
        refine e_cV (z := 0) (a := 67) (as := [(0, w 67 28)]) (rest := []) (show am_cd 187 44 = (40, 47, 172, 0, [143]) by decide +kernel) (by decide +kernel) rfl rfl (Nat.le_of_ble_eq_true rfl) rfl ?_
        refine Cl.mono (Cl.up (c_fault (d := d) h.1) (by omega)) ?_
        rintro _ _ ⟨rfl, rfl⟩
        refine ⟨fun _ h9 => (by cases h9), ?_⟩
        replace h := h.2
        show Ev _ 187 _ 47 [rA 67, (0, soI m (hrI tx (w 67 28)))] [] _
        refine e_lda (v := 67) (show am_cd 187 47 = (2, 48, 0, 2, []) by decide +kernel) rfl ?_
        refine e_dup (show am_cd 187 48 = (13, 49, 0, 0, []) by decide +kernel) (by decide) ?_
        refine e_getf (a := 67) (tg := 0) (show am_cd 187 49 = (18, 52, 1228, 0, [129]) by decide +kernel) (by decide +kernel) (by decide +kernel) rfl ?_
        refine e_ic (show am_cd 187 52 = (0, 53, 0, 1, []) by decide +kernel) ?_
        refine e_iadd (show am_cd 187 53 = (5, 54, 0, 0, []) by decide +kernel) ?_
        refine e_putf (a := 67) (show am_cd 187 54 = (19, 57, 1228, 0, [129]) by decide +kernel) (by decide +kernel) (by decide +kernel) rfl (fun h9 => absurd h9 (by decide)) (fun h9 => absurd h9 (by decide +kernel)) ?_
        refine e_ldi (show am_cd 187 57 = (2, 58, 1, 0, []) by decide +kernel) rfl ?_
        refine e_ic (show am_cd 187 58 = (0, 59, 0, -1, []) by decide +kernel) ?_
        refine e_cmp1 (show am_cd 187 59 = (11, 62, 66, 1, []) by decide +kernel) (fun hc => ?_) (fun hc => ?_)
        · replace h := h.1 hc
          refine e_lda (v := 67) (show am_cd 187 66 = (2, 67, 0, 2, []) by decide +kernel) rfl ?_
          refine e_getr (a := 67) (r := 71) (show am_cd 187 67 = (18, 70, 1205, 2, [19]) by decide +kernel) (by decide +kernel) (by decide +kernel) rfl ?_
          refine e_ldi (show am_cd 187 70 = (2, 71, 1, 0, []) by decide +kernel) rfl ?_
          refine e_ialdE (a := 71) (n := 4) (v := (ftW w (w 67 28)) 71 (w32 (soI m (hrI tx (w 67 28)))).toNat) (show am_cd 187 71 = (21, 72, 0, 0, []) by decide +kernel) (by decide +kernel) (by decide +kernel) (by decide +kernel) h.1 rfl ?_
          replace h := h.2
          exact e_reti (show am_cd 187 72 = (36, 73, 0, 0, []) by decide +kernel) (by decide +kernel) h
        · replace h := h.2 hc
          refine e_ic (show am_cd 187 62 = (0, 63, 0, 0, []) by decide +kernel) ?_
          refine e_go (show am_cd 187 63 = (12, 72, 0, 0, []) by decide +kernel) ?_
          exact e_reti (show am_cd 187 72 = (36, 73, 0, 0, []) by decide +kernel) (by decide +kernel) h

theorem c_readSort {d : Nat} {w : eW} {t : eT} {tx : List Int} (h : Px w tx) : Cl (d + 3) 190 [rA 67] (enc w t) (fun r S2 => ∃ x w2, r = some (0, x) ∧ S2 = enc w2 t ∧ Px w2 tx ∧ Fm [] [28, 29] w w2 ∧ stW w2 = stE (bnd (stW w) (rdO tx)) ∧ rvO (bnd (stW w) (rdO tx)) x ∧ 0 ≤ x ∧ x ≤ 3) := by
  refine g_readSort (tx := tx) (m := w) ⟨⟨h, by decide, by decide⟩, fun w1 hw1 => ?_⟩
  obtain ⟨a1, a2, a3⟩ := hw1
  refine ⟨fun h1 => ⟨⟨a1, by decide, by decide⟩, fun w2 hw2 => ?_⟩, fun h1 => ⟨⟨a1, by decide, by decide⟩, fun w8 hw8 => ⟨0, w8, rfl, rfl, hw8.1, a2.tr hw8.2.1, ?_⟩⟩⟩
  · obtain ⟨b1, b2, b3⟩ := hw2
    refine ⟨fun h2 => ⟨⟨b1, by decide, by decide⟩, fun w3 hw3 => ⟨⟨hw3.1, by decide, by decide⟩, fun w4 hw4 => ⟨⟨hw4.1, by decide, by decide⟩, fun w5 hw5 => ?_⟩⟩⟩, fun h2 => ⟨⟨b1, by decide, by decide⟩, fun w6 hw6 => ⟨⟨hw6.1, by decide, by decide⟩, fun w7 hw7 => ⟨3, w7, rfl, rfl, hw7.1, (a2.tr b2).tr (hw6.2.1.tr hw7.2.1), ?_⟩⟩⟩⟩
    · have fr := (a2.tr b2).tr (hw3.2.1.tr (hw4.2.1.tr hw5.2.1))
      refine ⟨fun h3 => ⟨1, w5, rfl, rfl, hw5.1, fr, ?_⟩, fun h3 => ⟨2, w5, rfl, rfl, hw5.1, fr, ?_⟩⟩
      · rw [hw5.2.2]
        rw [hw4.2.2, hw3.2.2, b3, a3] at h3 ⊢
        rw [a3] at h2
        cases hs : stW w with
        | error q => exact ⟨rfl, trivial, by decide, by decide⟩
        | ok p =>
          rw [hs] at h1 h2 h3
          have h1 := of_decide_eq_false h1
          simp only [psS, psB, exS, bnd, rdO, if_neg h1] at h2 h3 ⊢
          have h2 := of_decide_eq_false h2
          simp only [if_neg h2] at h3 ⊢
          by_cases h4 : hr tx p = 60
          · simp only [if_pos h4] at h3 ⊢
            by_cases h5 : hr tx (p + 1) = 61
            · simp only [if_pos h5] at h3 ⊢
              have h3 := of_decide_eq_false h3
              simp only [if_neg h3]
              exact ⟨rfl, rfl, by decide, by decide⟩
            · simp only [if_neg h5]
              exact ⟨rfl, trivial, by decide, by decide⟩
          · simp only [if_neg h4]
            exact ⟨rfl, trivial, by decide, by decide⟩
      · rw [hw5.2.2]
        rw [hw4.2.2, hw3.2.2, b3, a3] at h3 ⊢
        rw [a3] at h2
        cases hs : stW w with
        | error q => rw [hs] at h3; cases h3
        | ok p =>
          rw [hs] at h1 h2 h3
          have h1 := of_decide_eq_false h1
          simp only [psS, psB, exS, bnd, rdO, if_neg h1] at h2 h3 ⊢
          have h2 := of_decide_eq_false h2
          simp only [if_neg h2] at h3 ⊢
          by_cases h4 : hr tx p = 60
          · simp only [if_pos h4] at h3 ⊢
            by_cases h5 : hr tx (p + 1) = 61
            · simp only [if_pos h5] at h3 ⊢
              have h3 := of_decide_eq_true h3
              simp only [if_pos h3]
              exact ⟨rfl, rfl, by decide, by decide⟩
            · simp only [if_neg h5] at h3
              cases h3
          · simp only [if_neg h4] at h3
            cases h3
    · rw [hw7.2.2, hw6.2.2, b3]
      rw [a3] at h2 ⊢
      cases hs : stW w with
      | error q => rw [hs] at h2; cases h2
      | ok p =>
        rw [hs] at h1 h2
        have h1 := of_decide_eq_false h1
        simp only [psS, psB, exS, bnd, rdO, if_neg h1] at h2 ⊢
        have h2 := of_decide_eq_true h2
        simp only [if_pos h2]
        by_cases h4 : hr tx (p + 1) = 60
        · simp only [if_pos h4]
          by_cases h5 : hr tx (p + 2) = 61
          · simp only [if_pos h5, show p + 1 + 1 = p + 2 from rfl]
            exact ⟨rfl, rfl, by decide, by decide⟩
          · simp only [if_neg h5, show p + 1 + 1 = p + 2 from rfl]
            exact ⟨rfl, trivial, by decide, by decide⟩
        · simp only [if_neg h4]
          exact ⟨rfl, trivial, by decide, by decide⟩
  · rw [hw8.2.2, a3]
    cases hs : stW w with
    | error q => rw [hs] at h1; cases h1
    | ok p =>
      rw [hs] at h1
      have h1 := of_decide_eq_true h1
      simp only [psS, exS, bnd, rdO, if_pos h1]
      by_cases h4 : hr tx (p + 1) = 62
      · simp only [if_pos h4]
        exact ⟨rfl, rfl, by decide, by decide⟩
      · simp only [if_neg h4]
        exact ⟨rfl, trivial, by decide, by decide⟩
theorem soN_le (m : eW) (c : Int) : soN m c ≤ nS m := by
  have := fsN_le (P := fun i => decide (m 70 i = c)) (nS m) 0
  unfold soN
  omega
theorem soI_b {m : eW} (h : WFs m) (c : Int) : -1 ≤ soI m c ∧ soI m c < 4 := by
  have := soN_le m c
  have := h.n
  unfold soI
  split <;> omega
theorem c_readSome {d : Nat} {m w : eW} {t : eT} {tx : List Int} (h : Px w tx ∧ WFs m ∧ MGs w m) : Cl (d + 4) 187 [rA 67] (enc w t) (fun r S2 => ∃ x w2, r = some (0, x) ∧ S2 = enc w2 t ∧ Px w2 tx ∧ Fm [] [28, 29] w w2 ∧ stW w2 = stE (bnd (stW w) (rdM m tx)) ∧ rvO (bnd (stW w) (rdM m tx)) x ∧ 0 ≤ x ∧ x < 268435456) := by
  obtain ⟨hP, hS, hW⟩ := h
  have hb := hP.b
  have hh : -1 ≤ hrI tx (w 67 28) ∧ hrI tx (w 67 28) ≤ 255 := hP.hrb (w 67 28).toNat
  have hsb := soI_b hS (hrI tx (w 67 28))
  have h6 := hP.2.2.2.2.2
  have one : ∀ x1 : Int, 0 ≤ x1 ∧ x1 ≤ 27 → ishl 1 x1 = ((2 ^ x1.toNat : Nat) : Int) ∧ (2 ^ x1.toNat : Nat) < 268435456 := fun x1 hx => ⟨i_one (by omega), by
    have := Nat.pow_le_pow_right (n := 2) (by decide) (show x1.toNat ≤ 27 by omega)
    have h27 : 2 ^ 27 < 268435456 := by decide
    omega⟩
  have viaS : bnd (stW w) (rdM m tx) = (match bnd (stW w) (rdS tx) with
      | .error q => .error q
      | .ok y => .ok (((2 ^ y.1.toNat : Nat) : Int), y.2)) → ∀ (x1 : Int) (w2 : eW), (Px w2 tx ∧ Fm [] [28, 29] w w2 ∧ stW w2 = stE (bnd (stW w) (rdS tx)) ∧ rvO (bnd (stW w) (rdS tx)) x1 ∧ -1 ≤ x1 ∧ x1 ≤ 27) → (¬ w32 (w2 67 29) = w32 (-1) → ∃ x w3, some ((0 : Nat), (0 : Int)) = some (0, x) ∧ enc w2 t = enc w3 t ∧ Px w3 tx ∧ Fm [] [28, 29] w w3 ∧ stW w3 = stE (bnd (stW w) (rdM m tx)) ∧ rvO (bnd (stW w) (rdM m tx)) x ∧ 0 ≤ x ∧ x < 268435456) ∧ (¬ ¬ w32 (w2 67 29) = w32 (-1) → ∃ x w3, some ((0 : Nat), ishl 1 x1) = some (0, x) ∧ enc w2 t = enc w3 t ∧ Px w3 tx ∧ Fm [] [28, 29] w w3 ∧ stW w3 = stE (bnd (stW w) (rdM m tx)) ∧ rvO (bnd (stW w) (rdM m tx)) x ∧ 0 ≤ x ∧ x < 268435456) := by
    intro hv x1 w2 hw2
    obtain ⟨a1, a2, a3, a4, a5⟩ := hw2
    have hb2 := a1.b
    rw [hv]
    simp (disch := omega) only [w32_id]
    refine ⟨fun h1 => ⟨0, w2, rfl, rfl, a1, a2, ?_⟩, fun h1 => ?_⟩
    · have hs : stW w2 = .error (w2 67 29).toNat := if_neg h1
      rw [hs] at a3
      cases hR : bnd (stW w) (rdS tx) with
      | error q => rw [hs, a3, hR]; exact ⟨rfl, trivial, by decide, by decide⟩
      | ok y => rw [hR] at a3; cases a3
    · have hs : stW w2 = .ok (w2 67 28).toNat := if_pos (by omega)
      cases hR : bnd (stW w) (rdS tx) with
      | error q => rw [hs, hR] at a3; cases a3
      | ok y =>
        rw [hR] at a3 a4
        have a4 : x1 = y.1 := a4
        have hyb : 0 ≤ y.1 ∧ y.1 ≤ 27 := by
          cases hs0 : stW w with
          | error q => rw [hs0] at hR; cases hR
          | ok p => rw [hs0] at hR; exact rdS_b hR
        have := one x1 (by omega)
        rw [this.1, a4]
        rw [a4] at this
        exact ⟨_, w2, rfl, rfl, a1, a2, a3, rfl, Int.natCast_nonneg _, Int.ofNat_lt.mpr this.2⟩
  refine g_readSome (tx := tx) (m := m) ?_
  simp (disch := omega) only [w32_id, w64_id]
  refine ⟨fun h1 => ⟨hP, fun x1 w2 hw2 => ?_⟩, fun h1 => ⟨hP, fun h2 => ⟨hP, fun x3 w4 hw4 => ?_⟩, fun h2 => ⟨hP, ⟨hS, hW, hh⟩, fun h3 => ?_, fun h3 => ?_⟩⟩⟩
  · have hs : stW w = .error (w 67 29).toNat := if_neg h1
    have hb2 := hw2.1.b
    have := viaS (by rw [hs]; rfl) x1 w2 hw2
    simp (disch := omega) only [w32_id] at this ⊢
    exact this
  · have hs : stW w = .ok (w 67 28).toNat := if_pos (by omega)
    have h2 := of_decide_eq_false h2
    have hb2 := hw4.1.b
    have := viaS (by
      rw [hs]
      show rdM m tx _ = (match rdS tx _ with
        | .error q => .error q
        | .ok y => .ok (((2 ^ y.1.toNat : Nat) : Int), y.2))
      unfold rdM
      unfold hrI at h2
      rw [if_neg h2]) x3 w4 hw4
    simp (disch := omega) only [w32_id] at this ⊢
    exact this
  · have hs : stW w = .ok (w 67 28).toNat := if_pos (by omega)
    have h2 := of_decide_eq_true h2
    have hlt : (w 67 28).toNat < tx.length := by
      by_cases h9 : (w 67 28).toNat < tx.length
      · exact h9
      · have : hrI tx (w 67 28) = -1 := if_neg h9
        omega
    have hne : soN m (hrI tx (w 67 28)) ≠ nS m := fun h9 => h3 (by unfold soI; rw [if_pos h9])
    have hsi : soI m (hrI tx (w 67 28)) = (soN m (hrI tx (w 67 28)) : Int) := by unfold soI; rw [if_neg hne]
    have hat := fs_at (P := fun i => decide (m 70 i = hrI tx (w 67 28))) (n := nS m) hne
    have hlt2 : soN m (hrI tx (w 67 28)) < nS m := hat.1
    have g1 := (hW.2 _ hlt2).2
    have b1 := (hS.2 _ hlt2).2
    have hsn := hS.n
    have hrd : rdM m tx (w 67 28).toNat = .ok (m 71 (soN m (hrI tx (w 67 28))), (w 67 28).toNat + 1) := by
      unfold rdM
      unfold hrI at h2 hne ⊢
      rw [if_pos h2, if_neg hne]
    have q : Fm [] [28, 29] w (wu w 67 28 (w 67 28 + 1)) := Fm.pf (by decide)
    refine ⟨fun _ => ⟨by omega, ?_⟩, fun h9 => absurd h3 h9⟩
    rw [hsi, Int.toNat_natCast, g1]
    refine ⟨_, _, rfl, rfl, hP.fr q (by decide) (by decide) (by rw [wu_eq]; omega) (Or.inl ⟨by rw [wu_nk _ _ (by decide)]; omega, by rw [wu_eq]; omega⟩), q, ?_, ?_, by omega, by have := b1.2; omega⟩
    · rw [hs]
      show stW _ = stE (rdM m tx _)
      rw [hrd]
      unfold stW
      rw [wu_nk _ _ (by decide), if_pos (by omega), wu_eq]
      show Except.ok _ = Except.ok _
      congr 1
      omega
    · rw [hs]
      show rvO (rdM m tx _) _
      rw [hrd]
      rfl
  · have hs : stW w = .ok (w 67 28).toNat := if_pos (by omega)
    have h2 := of_decide_eq_true h2
    have hlt : (w 67 28).toNat < tx.length := by
      by_cases h9 : (w 67 28).toNat < tx.length
      · exact h9
      · have : hrI tx (w 67 28) = -1 := if_neg h9
        omega
    have hne : soN m (hrI tx (w 67 28)) = nS m := by
      by_cases h9 : soN m (hrI tx (w 67 28)) = nS m
      · exact h9
      · unfold soI at h3
        rw [if_neg h9] at h3
        omega
    have hrd : rdM m tx (w 67 28).toNat = .error (w 67 28).toNat := by
      unfold rdM
      unfold hrI at h2 hne
      rw [if_pos h2, if_pos hne]
    have ft := hP.ft hb.1
    have e29 : ftW w (w 67 28) 67 29 = w 67 28 := by unfold ftW; rw [if_pos (by omega), wu_eq]
    have e28 : ftW w (w 67 28) 67 28 = w 67 28 := by unfold ftW; rw [if_pos (by omega), wu_nk _ _ (by decide)]
    refine ⟨⟨hP, hb.1⟩, fun h9 => absurd h9 h3, fun _ => ?_⟩
    have q : Fm [] [28, 29] (ftW w (w 67 28)) (wu (ftW w (w 67 28)) 67 28 (ftW w (w 67 28) 67 28 + 1)) := Fm.pf (by decide)
    refine ⟨0, _, rfl, rfl, ft.1.fr q (by decide) (by decide) (by rw [wu_eq]; omega) (Or.inr ⟨by rw [wu_nk _ _ (by decide)]; omega, by rw [wu_nk _ _ (by decide)]; omega, by rw [wu_eq]; omega⟩), ft.2.tr q, ?_, ?_, by decide, by decide⟩
    · rw [hs]
      show stW _ = stE (rdM m tx _)
      rw [hrd]
      unfold stW
      rw [wu_nk _ _ (by decide), e29, if_neg (by omega)]
      rfl
    · rw [hs]
      show rvO (rdM m tx _) _
      rw [hrd]
      trivial

