/-! The law: rounds that may throw: regions. -/

theorem g_tA152 {d : Nat} {Q : Option aV → aS → Prop} {w : eW} {t : eT} {i : Int} {J5 J6 J7 : aV} (h : (0 ≤ w32 (i + 1) ∧ w32 (i + 1) < ((t.1 0).2 : Int)) ∧ (0 ≤ w32 (i + 2) ∧ w32 (i + 2) < ((t.1 0).2 : Int)) ∧ (Ev (d + 120) 272 Q 520 [rA 0, rA 1, rA 67, rA 100, (0, i), J5, J6, J7] [rA 100, (0, w 0 (w32 (i + 2)).toNat), (0, w 0 (w32 (i + 1)).toNat), rA 1] (enc w t))) : Ev (d + 120) 272 Q 506 [rA 0, rA 1, rA 67, rA 100, (0, i), J5, J6, J7] [] (enc w t) := by
  refine e_lda (v := 1) (show am_cd 272 506 = (2, 507, 1, 2, []) by decide +kernel) rfl ?_
  refine e_lda (v := 0) (show am_cd 272 507 = (2, 508, 0, 2, []) by decide +kernel) rfl ?_
  refine e_ldi (show am_cd 272 508 = (2, 510, 4, 0, []) by decide +kernel) rfl ?_
  refine e_ic (show am_cd 272 510 = (0, 511, 0, 1, []) by decide +kernel) ?_
  refine e_iadd (show am_cd 272 511 = (5, 512, 0, 0, []) by decide +kernel) ?_
  refine e_scr (show am_cd 272 512 = (21, 513, 0, 0, []) by decide +kernel) h.1 ?_
  replace h := h.2
  refine e_lda (v := 0) (show am_cd 272 513 = (2, 514, 0, 2, []) by decide +kernel) rfl ?_
  refine e_ldi (show am_cd 272 514 = (2, 516, 4, 0, []) by decide +kernel) rfl ?_
  refine e_ic (show am_cd 272 516 = (0, 517, 0, 2, []) by decide +kernel) ?_
  refine e_iadd (show am_cd 272 517 = (5, 518, 0, 0, []) by decide +kernel) ?_
  refine e_scr (show am_cd 272 518 = (21, 519, 0, 0, []) by decide +kernel) h.1 ?_
  replace h := h.2
  refine e_lda (v := 100) (show am_cd 272 519 = (2, 520, 3, 2, []) by decide +kernel) rfl ?_
  exact h

theorem g_tB152 {d : Nat} {Q : Option aV → aS → Prop} {w : eW} {t : eT} {i v : Int} {J5 J6 J7 : aV} (h : (0 ≤ w32 (i + 1) ∧ w32 (i + 1) < ((t.1 0).2 : Int)) ∧ (0 ≤ w32 (i + 2) ∧ w32 (i + 2) < ((t.1 0).2 : Int)) ∧ (Cl (d + 119) 254 [rA 67, (0, w 0 (w32 (i + 1)).toNat), (0, w 0 (w32 (i + 2)).toNat)] (enc w t) (fun r S2 => (∀ x, r ≠ some (6, x)) ∧ Ev (d + 120) 272 Q 541 [rA 0, rA 1, rA 67, rA 100, (0, i), (0, v), J6, J7] (r.toList ++ []) S2))) : Ev (d + 120) 272 Q 523 [rA 0, rA 1, rA 67, rA 100, (0, i), J5, J6, J7] [(0, v)] (enc w t) := by
  refine e_sti (la2 := [rA 0, rA 1, rA 67, rA 100, (0, i), (0, v), J6, J7]) (show am_cd 272 523 = (3, 525, 5, 0, []) by decide +kernel) rfl ?_
  refine e_lda (v := 67) (show am_cd 272 525 = (2, 526, 2, 2, []) by decide +kernel) rfl ?_
  refine e_lda (v := 0) (show am_cd 272 526 = (2, 527, 0, 2, []) by decide +kernel) rfl ?_
  refine e_ldi (show am_cd 272 527 = (2, 529, 4, 0, []) by decide +kernel) rfl ?_
  refine e_ic (show am_cd 272 529 = (0, 530, 0, 1, []) by decide +kernel) ?_
  refine e_iadd (show am_cd 272 530 = (5, 531, 0, 0, []) by decide +kernel) ?_
  refine e_scr (show am_cd 272 531 = (21, 532, 0, 0, []) by decide +kernel) h.1 ?_
  replace h := h.2
  refine e_lda (v := 0) (show am_cd 272 532 = (2, 533, 0, 2, []) by decide +kernel) rfl ?_
  refine e_ldi (show am_cd 272 533 = (2, 535, 4, 0, []) by decide +kernel) rfl ?_
  refine e_ic (show am_cd 272 535 = (0, 536, 0, 2, []) by decide +kernel) ?_
  refine e_iadd (show am_cd 272 536 = (5, 537, 0, 0, []) by decide +kernel) ?_
  refine e_scr (show am_cd 272 537 = (21, 538, 0, 0, []) by decide +kernel) h.1 ?_
  replace h := h.2
  refine e_cV (z := 0) (a := 67) (as := [(0, w 0 (w32 (i + 1)).toNat), (0, w 0 (w32 (i + 2)).toNat)]) (rest := []) (show am_cd 272 538 = (40, 541, 254, 0, [111]) by decide +kernel) (by decide +kernel) rfl rfl (Nat.le_of_ble_eq_true rfl) rfl ?_
  exact h

theorem g_tC152 {d : Nat} {Q : Option aV → aS → Prop} {w : eW} {t : eT} {i v y : Int} {J6 J7 : aV} (h : Cl (d + 119) 164 [rA 67] (enc w t) (fun r S2 => (∀ x, r ≠ some (6, x)) ∧ Ev (d + 120) 272 Q 547 [rA 0, rA 1, rA 67, rA 100, (0, i), (0, v), (0, y), J7] (r.toList ++ []) S2)) : Ev (d + 120) 272 Q 541 [rA 0, rA 1, rA 67, rA 100, (0, i), (0, v), J6, J7] [(0, y)] (enc w t) := by
  refine e_sti (la2 := [rA 0, rA 1, rA 67, rA 100, (0, i), (0, v), (0, y), J7]) (show am_cd 272 541 = (3, 543, 6, 0, []) by decide +kernel) rfl ?_
  refine e_lda (v := 67) (show am_cd 272 543 = (2, 544, 2, 2, []) by decide +kernel) rfl ?_
  refine e_cV (z := 0) (a := 67) (as := []) (rest := []) (show am_cd 272 544 = (40, 547, 164, 0, [112]) by decide +kernel) (by decide +kernel) rfl rfl (Nat.le_of_ble_eq_true rfl) rfl ?_
  exact h

theorem g_tD152 {d : Nat} {Q : Option aV → aS → Prop} {w : eW} {t : eT} {i v y z : Int} {J7 : aV} (h : ((w32 z = w32 v → ((¬ w32 v = 0 → Ev (d + 120) 272 Q 929 [rA 0, rA 1, rA 67, rA 100, (0, i), (0, v), (0, y), J7] [] (enc w t)) ∧ (¬ (¬ w32 v = 0) → ((w64 (w 100 0) = w64 (w32 y) → Ev (d + 120) 272 Q 929 [rA 0, rA 1, rA 67, rA 100, (0, i), (0, v), (0, y), J7] [] (enc w t)) ∧ (¬ (w64 (w 100 0) = w64 (w32 y)) → Q (some (0, 0)) (enc w t)))))) ∧ (¬ (w32 z = w32 v) → Q (some (0, 0)) (enc w t)))) : Ev (d + 120) 272 Q 547 [rA 0, rA 1, rA 67, rA 100, (0, i), (0, v), (0, y), J7] [(0, z)] (enc w t) := by
  refine e_ldi (show am_cd 272 547 = (2, 549, 5, 0, []) by decide +kernel) rfl ?_
  refine e_cmp0 (show am_cd 272 549 = (11, 552, 554, 0, []) by decide +kernel) (fun hc => ?_) (fun hc => ?_)
  · replace h := h.1 hc
    refine e_ldi (show am_cd 272 554 = (2, 556, 5, 0, []) by decide +kernel) rfl ?_
    refine e_if1 (show am_cd 272 556 = (10, 559, 571, 1, []) by decide +kernel) (fun hc => ?_) (fun hc => ?_)
    · replace h := h.1 hc
      refine e_go (show am_cd 272 571 = (12, 929, 0, 0, []) by decide +kernel) ?_
      exact h
    · replace h := h.2 hc
      refine e_lda (v := 100) (show am_cd 272 559 = (2, 560, 3, 2, []) by decide +kernel) rfl ?_
      refine e_ic (show am_cd 272 560 = (0, 561, 0, 0, []) by decide +kernel) ?_
      refine e_laldK (a := 100) (n := 1) (j := 0) (v := w 100 0) (show am_cd 272 561 = (22, 562, 0, 0, []) by decide +kernel) (by decide +kernel) (by decide +kernel) (by decide +kernel) (by decide +kernel) (by decide +kernel) rfl ?_
      refine e_ldi (show am_cd 272 562 = (2, 564, 6, 0, []) by decide +kernel) rfl ?_
      refine e_i2l (show am_cd 272 564 = (8, 565, 0, 0, []) by decide +kernel) ?_
      refine e_lcb0 (show am_cd 272 565 = (9, 566, 0, 0, []) by decide +kernel) (show am_cd 272 566 = (10, 569, 571, 0, []) by decide +kernel) (fun hc => ?_) (fun hc => ?_)
      · replace h := h.1 hc
        refine e_go (show am_cd 272 571 = (12, 929, 0, 0, []) by decide +kernel) ?_
        exact h
      · replace h := h.2 hc
        refine e_ic (show am_cd 272 569 = (0, 570, 0, 0, []) by decide +kernel) ?_
        exact e_retz (show am_cd 272 570 = (36, 571, 0, 0, []) by decide +kernel) (by decide +kernel) (Or.inl rfl) h
  · replace h := h.2 hc
    refine e_ic (show am_cd 272 552 = (0, 553, 0, 0, []) by decide +kernel) ?_
    exact e_retz (show am_cd 272 553 = (36, 554, 0, 0, []) by decide +kernel) (by decide +kernel) (Or.inl rfl) h

theorem g_tA153 {d : Nat} {Q : Option aV → aS → Prop} {w : eW} {t : eT} {i : Int} {J5 J6 J7 : aV} (h : (0 ≤ w32 (i + 1) ∧ w32 (i + 1) < ((t.1 0).2 : Int)) ∧ (0 ≤ w32 (i + 2) ∧ w32 (i + 2) < ((t.1 0).2 : Int)) ∧ (0 ≤ w32 (i + 3) ∧ w32 (i + 3) < ((t.1 0).2 : Int)) ∧ (Ev (d + 120) 272 Q 594 [rA 0, rA 1, rA 67, rA 100, (0, i), J5, J6, J7] [rA 100, (0, w 0 (w32 (i + 3)).toNat), (0, w 0 (w32 (i + 2)).toNat), (0, w 0 (w32 (i + 1)).toNat), rA 1] (enc w t))) : Ev (d + 120) 272 Q 574 [rA 0, rA 1, rA 67, rA 100, (0, i), J5, J6, J7] [] (enc w t) := by
  refine e_lda (v := 1) (show am_cd 272 574 = (2, 575, 1, 2, []) by decide +kernel) rfl ?_
  refine e_lda (v := 0) (show am_cd 272 575 = (2, 576, 0, 2, []) by decide +kernel) rfl ?_
  refine e_ldi (show am_cd 272 576 = (2, 578, 4, 0, []) by decide +kernel) rfl ?_
  refine e_ic (show am_cd 272 578 = (0, 579, 0, 1, []) by decide +kernel) ?_
  refine e_iadd (show am_cd 272 579 = (5, 580, 0, 0, []) by decide +kernel) ?_
  refine e_scr (show am_cd 272 580 = (21, 581, 0, 0, []) by decide +kernel) h.1 ?_
  replace h := h.2
  refine e_lda (v := 0) (show am_cd 272 581 = (2, 582, 0, 2, []) by decide +kernel) rfl ?_
  refine e_ldi (show am_cd 272 582 = (2, 584, 4, 0, []) by decide +kernel) rfl ?_
  refine e_ic (show am_cd 272 584 = (0, 585, 0, 2, []) by decide +kernel) ?_
  refine e_iadd (show am_cd 272 585 = (5, 586, 0, 0, []) by decide +kernel) ?_
  refine e_scr (show am_cd 272 586 = (21, 587, 0, 0, []) by decide +kernel) h.1 ?_
  replace h := h.2
  refine e_lda (v := 0) (show am_cd 272 587 = (2, 588, 0, 2, []) by decide +kernel) rfl ?_
  refine e_ldi (show am_cd 272 588 = (2, 590, 4, 0, []) by decide +kernel) rfl ?_
  refine e_ic (show am_cd 272 590 = (0, 591, 0, 3, []) by decide +kernel) ?_
  refine e_iadd (show am_cd 272 591 = (5, 592, 0, 0, []) by decide +kernel) ?_
  refine e_scr (show am_cd 272 592 = (21, 593, 0, 0, []) by decide +kernel) h.1 ?_
  replace h := h.2
  refine e_lda (v := 100) (show am_cd 272 593 = (2, 594, 3, 2, []) by decide +kernel) rfl ?_
  exact h

theorem g_tB153 {d : Nat} {Q : Option aV → aS → Prop} {w : eW} {t : eT} {i v : Int} {J5 J6 J7 : aV} (h : (0 ≤ w32 (i + 1) ∧ w32 (i + 1) < ((t.1 0).2 : Int)) ∧ (0 ≤ w32 (i + 2) ∧ w32 (i + 2) < ((t.1 0).2 : Int)) ∧ (0 ≤ w32 (i + 3) ∧ w32 (i + 3) < ((t.1 0).2 : Int)) ∧ (Cl (d + 119) 255 [rA 67, (0, w 0 (w32 (i + 1)).toNat), (0, w 0 (w32 (i + 2)).toNat), (0, w 0 (w32 (i + 3)).toNat)] (enc w t) (fun r S2 => (∀ x, r ≠ some (6, x)) ∧ Ev (d + 120) 272 Q 621 [rA 0, rA 1, rA 67, rA 100, (0, i), (0, v), J6, J7] (r.toList ++ []) S2))) : Ev (d + 120) 272 Q 597 [rA 0, rA 1, rA 67, rA 100, (0, i), J5, J6, J7] [(0, v)] (enc w t) := by
  refine e_sti (la2 := [rA 0, rA 1, rA 67, rA 100, (0, i), (0, v), J6, J7]) (show am_cd 272 597 = (3, 599, 5, 0, []) by decide +kernel) rfl ?_
  refine e_lda (v := 67) (show am_cd 272 599 = (2, 600, 2, 2, []) by decide +kernel) rfl ?_
  refine e_lda (v := 0) (show am_cd 272 600 = (2, 601, 0, 2, []) by decide +kernel) rfl ?_
  refine e_ldi (show am_cd 272 601 = (2, 603, 4, 0, []) by decide +kernel) rfl ?_
  refine e_ic (show am_cd 272 603 = (0, 604, 0, 1, []) by decide +kernel) ?_
  refine e_iadd (show am_cd 272 604 = (5, 605, 0, 0, []) by decide +kernel) ?_
  refine e_scr (show am_cd 272 605 = (21, 606, 0, 0, []) by decide +kernel) h.1 ?_
  replace h := h.2
  refine e_lda (v := 0) (show am_cd 272 606 = (2, 607, 0, 2, []) by decide +kernel) rfl ?_
  refine e_ldi (show am_cd 272 607 = (2, 609, 4, 0, []) by decide +kernel) rfl ?_
  refine e_ic (show am_cd 272 609 = (0, 610, 0, 2, []) by decide +kernel) ?_
  refine e_iadd (show am_cd 272 610 = (5, 611, 0, 0, []) by decide +kernel) ?_
  refine e_scr (show am_cd 272 611 = (21, 612, 0, 0, []) by decide +kernel) h.1 ?_
  replace h := h.2
  refine e_lda (v := 0) (show am_cd 272 612 = (2, 613, 0, 2, []) by decide +kernel) rfl ?_
  refine e_ldi (show am_cd 272 613 = (2, 615, 4, 0, []) by decide +kernel) rfl ?_
  refine e_ic (show am_cd 272 615 = (0, 616, 0, 3, []) by decide +kernel) ?_
  refine e_iadd (show am_cd 272 616 = (5, 617, 0, 0, []) by decide +kernel) ?_
  refine e_scr (show am_cd 272 617 = (21, 618, 0, 0, []) by decide +kernel) h.1 ?_
  replace h := h.2
  refine e_cV (z := 0) (a := 67) (as := [(0, w 0 (w32 (i + 1)).toNat), (0, w 0 (w32 (i + 2)).toNat), (0, w 0 (w32 (i + 3)).toNat)]) (rest := []) (show am_cd 272 618 = (40, 621, 255, 0, [118]) by decide +kernel) (by decide +kernel) rfl rfl (Nat.le_of_ble_eq_true rfl) rfl ?_
  exact h

theorem g_tC153 {d : Nat} {Q : Option aV → aS → Prop} {w : eW} {t : eT} {i v y : Int} {J6 J7 : aV} (h : Cl (d + 119) 164 [rA 67] (enc w t) (fun r S2 => (∀ x, r ≠ some (6, x)) ∧ Ev (d + 120) 272 Q 627 [rA 0, rA 1, rA 67, rA 100, (0, i), (0, v), (0, y), J7] (r.toList ++ []) S2)) : Ev (d + 120) 272 Q 621 [rA 0, rA 1, rA 67, rA 100, (0, i), (0, v), J6, J7] [(0, y)] (enc w t) := by
  refine e_sti (la2 := [rA 0, rA 1, rA 67, rA 100, (0, i), (0, v), (0, y), J7]) (show am_cd 272 621 = (3, 623, 6, 0, []) by decide +kernel) rfl ?_
  refine e_lda (v := 67) (show am_cd 272 623 = (2, 624, 2, 2, []) by decide +kernel) rfl ?_
  refine e_cV (z := 0) (a := 67) (as := []) (rest := []) (show am_cd 272 624 = (40, 627, 164, 0, [112]) by decide +kernel) (by decide +kernel) rfl rfl (Nat.le_of_ble_eq_true rfl) rfl ?_
  exact h

theorem g_tD153 {d : Nat} {Q : Option aV → aS → Prop} {w : eW} {t : eT} {i v y z : Int} {J7 : aV} (h : ((w32 z = w32 v → ((¬ w32 v = 0 → Ev (d + 120) 272 Q 929 [rA 0, rA 1, rA 67, rA 100, (0, i), (0, v), (0, y), J7] [] (enc w t)) ∧ (¬ (¬ w32 v = 0) → ((w64 (w 100 0) = w64 (w32 y) → Ev (d + 120) 272 Q 929 [rA 0, rA 1, rA 67, rA 100, (0, i), (0, v), (0, y), J7] [] (enc w t)) ∧ (¬ (w64 (w 100 0) = w64 (w32 y)) → Q (some (0, 0)) (enc w t)))))) ∧ (¬ (w32 z = w32 v) → Q (some (0, 0)) (enc w t)))) : Ev (d + 120) 272 Q 627 [rA 0, rA 1, rA 67, rA 100, (0, i), (0, v), (0, y), J7] [(0, z)] (enc w t) := by
  refine e_ldi (show am_cd 272 627 = (2, 629, 5, 0, []) by decide +kernel) rfl ?_
  refine e_cmp0 (show am_cd 272 629 = (11, 632, 634, 0, []) by decide +kernel) (fun hc => ?_) (fun hc => ?_)
  · replace h := h.1 hc
    refine e_ldi (show am_cd 272 634 = (2, 636, 5, 0, []) by decide +kernel) rfl ?_
    refine e_if1 (show am_cd 272 636 = (10, 639, 651, 1, []) by decide +kernel) (fun hc => ?_) (fun hc => ?_)
    · replace h := h.1 hc
      refine e_go (show am_cd 272 651 = (12, 929, 0, 0, []) by decide +kernel) ?_
      exact h
    · replace h := h.2 hc
      refine e_lda (v := 100) (show am_cd 272 639 = (2, 640, 3, 2, []) by decide +kernel) rfl ?_
      refine e_ic (show am_cd 272 640 = (0, 641, 0, 0, []) by decide +kernel) ?_
      refine e_laldK (a := 100) (n := 1) (j := 0) (v := w 100 0) (show am_cd 272 641 = (22, 642, 0, 0, []) by decide +kernel) (by decide +kernel) (by decide +kernel) (by decide +kernel) (by decide +kernel) (by decide +kernel) rfl ?_
      refine e_ldi (show am_cd 272 642 = (2, 644, 6, 0, []) by decide +kernel) rfl ?_
      refine e_i2l (show am_cd 272 644 = (8, 645, 0, 0, []) by decide +kernel) ?_
      refine e_lcb0 (show am_cd 272 645 = (9, 646, 0, 0, []) by decide +kernel) (show am_cd 272 646 = (10, 649, 651, 0, []) by decide +kernel) (fun hc => ?_) (fun hc => ?_)
      · replace h := h.1 hc
        refine e_go (show am_cd 272 651 = (12, 929, 0, 0, []) by decide +kernel) ?_
        exact h
      · replace h := h.2 hc
        refine e_ic (show am_cd 272 649 = (0, 650, 0, 0, []) by decide +kernel) ?_
        exact e_retz (show am_cd 272 650 = (36, 651, 0, 0, []) by decide +kernel) (by decide +kernel) (Or.inl rfl) h
  · replace h := h.2 hc
    refine e_ic (show am_cd 272 632 = (0, 633, 0, 0, []) by decide +kernel) ?_
    exact e_retz (show am_cd 272 633 = (36, 634, 0, 0, []) by decide +kernel) (by decide +kernel) (Or.inl rfl) h

theorem g_tA154 {d : Nat} {Q : Option aV → aS → Prop} {w : eW} {t : eT} {i : Int} {J5 J6 J7 : aV} (h : (0 ≤ w32 (i + 1) ∧ w32 (i + 1) < ((t.1 0).2 : Int)) ∧ (0 ≤ w32 (i + 2) ∧ w32 (i + 2) < ((t.1 0).2 : Int)) ∧ (Ev (d + 120) 272 Q 668 [rA 0, rA 1, rA 67, rA 100, (0, i), J5, J6, J7] [rA 100, (0, w 0 (w32 (i + 2)).toNat), (0, w 0 (w32 (i + 1)).toNat), rA 1] (enc w t))) : Ev (d + 120) 272 Q 654 [rA 0, rA 1, rA 67, rA 100, (0, i), J5, J6, J7] [] (enc w t) := by
  refine e_lda (v := 1) (show am_cd 272 654 = (2, 655, 1, 2, []) by decide +kernel) rfl ?_
  refine e_lda (v := 0) (show am_cd 272 655 = (2, 656, 0, 2, []) by decide +kernel) rfl ?_
  refine e_ldi (show am_cd 272 656 = (2, 658, 4, 0, []) by decide +kernel) rfl ?_
  refine e_ic (show am_cd 272 658 = (0, 659, 0, 1, []) by decide +kernel) ?_
  refine e_iadd (show am_cd 272 659 = (5, 660, 0, 0, []) by decide +kernel) ?_
  refine e_scr (show am_cd 272 660 = (21, 661, 0, 0, []) by decide +kernel) h.1 ?_
  replace h := h.2
  refine e_lda (v := 0) (show am_cd 272 661 = (2, 662, 0, 2, []) by decide +kernel) rfl ?_
  refine e_ldi (show am_cd 272 662 = (2, 664, 4, 0, []) by decide +kernel) rfl ?_
  refine e_ic (show am_cd 272 664 = (0, 665, 0, 2, []) by decide +kernel) ?_
  refine e_iadd (show am_cd 272 665 = (5, 666, 0, 0, []) by decide +kernel) ?_
  refine e_scr (show am_cd 272 666 = (21, 667, 0, 0, []) by decide +kernel) h.1 ?_
  replace h := h.2
  refine e_lda (v := 100) (show am_cd 272 667 = (2, 668, 3, 2, []) by decide +kernel) rfl ?_
  exact h

theorem g_tB154 {d : Nat} {Q : Option aV → aS → Prop} {w : eW} {t : eT} {i v : Int} {J5 J6 J7 : aV} (h : (0 ≤ w32 (i + 1) ∧ w32 (i + 1) < ((t.1 0).2 : Int)) ∧ (0 ≤ w32 (i + 2) ∧ w32 (i + 2) < ((t.1 0).2 : Int)) ∧ (Cl (d + 119) 256 [rA 67, (0, w 0 (w32 (i + 1)).toNat), (0, w 0 (w32 (i + 2)).toNat)] (enc w t) (fun r S2 => (∀ x, r ≠ some (6, x)) ∧ Ev (d + 120) 272 Q 689 [rA 0, rA 1, rA 67, rA 100, (0, i), (0, v), J6, J7] (r.toList ++ []) S2))) : Ev (d + 120) 272 Q 671 [rA 0, rA 1, rA 67, rA 100, (0, i), J5, J6, J7] [(0, v)] (enc w t) := by
  refine e_sti (la2 := [rA 0, rA 1, rA 67, rA 100, (0, i), (0, v), J6, J7]) (show am_cd 272 671 = (3, 673, 5, 0, []) by decide +kernel) rfl ?_
  refine e_lda (v := 67) (show am_cd 272 673 = (2, 674, 2, 2, []) by decide +kernel) rfl ?_
  refine e_lda (v := 0) (show am_cd 272 674 = (2, 675, 0, 2, []) by decide +kernel) rfl ?_
  refine e_ldi (show am_cd 272 675 = (2, 677, 4, 0, []) by decide +kernel) rfl ?_
  refine e_ic (show am_cd 272 677 = (0, 678, 0, 1, []) by decide +kernel) ?_
  refine e_iadd (show am_cd 272 678 = (5, 679, 0, 0, []) by decide +kernel) ?_
  refine e_scr (show am_cd 272 679 = (21, 680, 0, 0, []) by decide +kernel) h.1 ?_
  replace h := h.2
  refine e_lda (v := 0) (show am_cd 272 680 = (2, 681, 0, 2, []) by decide +kernel) rfl ?_
  refine e_ldi (show am_cd 272 681 = (2, 683, 4, 0, []) by decide +kernel) rfl ?_
  refine e_ic (show am_cd 272 683 = (0, 684, 0, 2, []) by decide +kernel) ?_
  refine e_iadd (show am_cd 272 684 = (5, 685, 0, 0, []) by decide +kernel) ?_
  refine e_scr (show am_cd 272 685 = (21, 686, 0, 0, []) by decide +kernel) h.1 ?_
  replace h := h.2
  refine e_cV (z := 0) (a := 67) (as := [(0, w 0 (w32 (i + 1)).toNat), (0, w 0 (w32 (i + 2)).toNat)]) (rest := []) (show am_cd 272 686 = (40, 689, 256, 0, [121]) by decide +kernel) (by decide +kernel) rfl rfl (Nat.le_of_ble_eq_true rfl) rfl ?_
  exact h

theorem g_tC154 {d : Nat} {Q : Option aV → aS → Prop} {w : eW} {t : eT} {i v y : Int} {J6 J7 : aV} (h : Cl (d + 119) 164 [rA 67] (enc w t) (fun r S2 => (∀ x, r ≠ some (6, x)) ∧ Ev (d + 120) 272 Q 695 [rA 0, rA 1, rA 67, rA 100, (0, i), (0, v), (0, y), J7] (r.toList ++ []) S2)) : Ev (d + 120) 272 Q 689 [rA 0, rA 1, rA 67, rA 100, (0, i), (0, v), J6, J7] [(0, y)] (enc w t) := by
  refine e_sti (la2 := [rA 0, rA 1, rA 67, rA 100, (0, i), (0, v), (0, y), J7]) (show am_cd 272 689 = (3, 691, 6, 0, []) by decide +kernel) rfl ?_
  refine e_lda (v := 67) (show am_cd 272 691 = (2, 692, 2, 2, []) by decide +kernel) rfl ?_
  refine e_cV (z := 0) (a := 67) (as := []) (rest := []) (show am_cd 272 692 = (40, 695, 164, 0, [112]) by decide +kernel) (by decide +kernel) rfl rfl (Nat.le_of_ble_eq_true rfl) rfl ?_
  exact h

theorem g_tD154 {d : Nat} {Q : Option aV → aS → Prop} {w : eW} {t : eT} {i v y z : Int} {J7 : aV} (h : ((w32 z = w32 v → ((¬ w32 v = 0 → Ev (d + 120) 272 Q 929 [rA 0, rA 1, rA 67, rA 100, (0, i), (0, v), (0, y), J7] [] (enc w t)) ∧ (¬ (¬ w32 v = 0) → ((w64 (w 100 0) = w64 (w32 y) → Ev (d + 120) 272 Q 929 [rA 0, rA 1, rA 67, rA 100, (0, i), (0, v), (0, y), J7] [] (enc w t)) ∧ (¬ (w64 (w 100 0) = w64 (w32 y)) → Q (some (0, 0)) (enc w t)))))) ∧ (¬ (w32 z = w32 v) → Q (some (0, 0)) (enc w t)))) : Ev (d + 120) 272 Q 695 [rA 0, rA 1, rA 67, rA 100, (0, i), (0, v), (0, y), J7] [(0, z)] (enc w t) := by
  refine e_ldi (show am_cd 272 695 = (2, 697, 5, 0, []) by decide +kernel) rfl ?_
  refine e_cmp0 (show am_cd 272 697 = (11, 700, 702, 0, []) by decide +kernel) (fun hc => ?_) (fun hc => ?_)
  · replace h := h.1 hc
    refine e_ldi (show am_cd 272 702 = (2, 704, 5, 0, []) by decide +kernel) rfl ?_
    refine e_if1 (show am_cd 272 704 = (10, 707, 719, 1, []) by decide +kernel) (fun hc => ?_) (fun hc => ?_)
    · replace h := h.1 hc
      refine e_go (show am_cd 272 719 = (12, 929, 0, 0, []) by decide +kernel) ?_
      exact h
    · replace h := h.2 hc
      refine e_lda (v := 100) (show am_cd 272 707 = (2, 708, 3, 2, []) by decide +kernel) rfl ?_
      refine e_ic (show am_cd 272 708 = (0, 709, 0, 0, []) by decide +kernel) ?_
      refine e_laldK (a := 100) (n := 1) (j := 0) (v := w 100 0) (show am_cd 272 709 = (22, 710, 0, 0, []) by decide +kernel) (by decide +kernel) (by decide +kernel) (by decide +kernel) (by decide +kernel) (by decide +kernel) rfl ?_
      refine e_ldi (show am_cd 272 710 = (2, 712, 6, 0, []) by decide +kernel) rfl ?_
      refine e_i2l (show am_cd 272 712 = (8, 713, 0, 0, []) by decide +kernel) ?_
      refine e_lcb0 (show am_cd 272 713 = (9, 714, 0, 0, []) by decide +kernel) (show am_cd 272 714 = (10, 717, 719, 0, []) by decide +kernel) (fun hc => ?_) (fun hc => ?_)
      · replace h := h.1 hc
        refine e_go (show am_cd 272 719 = (12, 929, 0, 0, []) by decide +kernel) ?_
        exact h
      · replace h := h.2 hc
        refine e_ic (show am_cd 272 717 = (0, 718, 0, 0, []) by decide +kernel) ?_
        exact e_retz (show am_cd 272 718 = (36, 719, 0, 0, []) by decide +kernel) (by decide +kernel) (Or.inl rfl) h
  · replace h := h.2 hc
    refine e_ic (show am_cd 272 700 = (0, 701, 0, 0, []) by decide +kernel) ?_
    exact e_retz (show am_cd 272 701 = (36, 702, 0, 0, []) by decide +kernel) (by decide +kernel) (Or.inl rfl) h

theorem g_tA160 {d : Nat} {Q : Option aV → aS → Prop} {w : eW} {t : eT} {i : Int} {J5 J6 J7 : aV} (h : (0 ≤ w32 (i + 1) ∧ w32 (i + 1) < ((t.1 0).2 : Int)) ∧ (Ev (d + 120) 272 Q 882 [rA 0, rA 1, rA 67, rA 100, (0, i), J5, J6, J7] [rA 100, (0, w 0 (w32 (i + 1)).toNat), rA 1] (enc w t))) : Ev (d + 120) 272 Q 874 [rA 0, rA 1, rA 67, rA 100, (0, i), J5, J6, J7] [] (enc w t) := by
  refine e_lda (v := 1) (show am_cd 272 874 = (2, 875, 1, 2, []) by decide +kernel) rfl ?_
  refine e_lda (v := 0) (show am_cd 272 875 = (2, 876, 0, 2, []) by decide +kernel) rfl ?_
  refine e_ldi (show am_cd 272 876 = (2, 878, 4, 0, []) by decide +kernel) rfl ?_
  refine e_ic (show am_cd 272 878 = (0, 879, 0, 1, []) by decide +kernel) ?_
  refine e_iadd (show am_cd 272 879 = (5, 880, 0, 0, []) by decide +kernel) ?_
  refine e_scr (show am_cd 272 880 = (21, 881, 0, 0, []) by decide +kernel) h.1 ?_
  replace h := h.2
  refine e_lda (v := 100) (show am_cd 272 881 = (2, 882, 3, 2, []) by decide +kernel) rfl ?_
  exact h

theorem g_tB160 {d : Nat} {Q : Option aV → aS → Prop} {w : eW} {t : eT} {i v : Int} {J5 J6 J7 : aV} (h : (0 ≤ w32 (i + 1) ∧ w32 (i + 1) < ((t.1 0).2 : Int)) ∧ (Cl (d + 119) 266 [rA 67, (0, w 0 (w32 (i + 1)).toNat)] (enc w t) (fun r S2 => (∀ x, r ≠ some (6, x)) ∧ Ev (d + 120) 272 Q 897 [rA 0, rA 1, rA 67, rA 100, (0, i), (0, v), J6, J7] (r.toList ++ []) S2))) : Ev (d + 120) 272 Q 885 [rA 0, rA 1, rA 67, rA 100, (0, i), J5, J6, J7] [(0, v)] (enc w t) := by
  refine e_sti (la2 := [rA 0, rA 1, rA 67, rA 100, (0, i), (0, v), J6, J7]) (show am_cd 272 885 = (3, 887, 5, 0, []) by decide +kernel) rfl ?_
  refine e_lda (v := 67) (show am_cd 272 887 = (2, 888, 2, 2, []) by decide +kernel) rfl ?_
  refine e_lda (v := 0) (show am_cd 272 888 = (2, 889, 0, 2, []) by decide +kernel) rfl ?_
  refine e_ldi (show am_cd 272 889 = (2, 891, 4, 0, []) by decide +kernel) rfl ?_
  refine e_ic (show am_cd 272 891 = (0, 892, 0, 1, []) by decide +kernel) ?_
  refine e_iadd (show am_cd 272 892 = (5, 893, 0, 0, []) by decide +kernel) ?_
  refine e_scr (show am_cd 272 893 = (21, 894, 0, 0, []) by decide +kernel) h.1 ?_
  replace h := h.2
  refine e_cV (z := 0) (a := 67) (as := [(0, w 0 (w32 (i + 1)).toNat)]) (rest := []) (show am_cd 272 894 = (40, 897, 266, 0, [146]) by decide +kernel) (by decide +kernel) rfl rfl (Nat.le_of_ble_eq_true rfl) rfl ?_
  exact h

theorem g_tC160 {d : Nat} {Q : Option aV → aS → Prop} {w : eW} {t : eT} {i v y : Int} {J6 J7 : aV} (h : Cl (d + 119) 164 [rA 67] (enc w t) (fun r S2 => (∀ x, r ≠ some (6, x)) ∧ Ev (d + 120) 272 Q 903 [rA 0, rA 1, rA 67, rA 100, (0, i), (0, v), (1, y), (9, 0)] (r.toList ++ []) S2)) : Ev (d + 120) 272 Q 897 [rA 0, rA 1, rA 67, rA 100, (0, i), (0, v), J6, J7] [(1, y)] (enc w t) := by
  refine e_stl (la2 := [rA 0, rA 1, rA 67, rA 100, (0, i), (0, v), (1, y), (9, 0)]) (show am_cd 272 897 = (3, 899, 6, 1, []) by decide +kernel) rfl ?_
  refine e_lda (v := 67) (show am_cd 272 899 = (2, 900, 2, 2, []) by decide +kernel) rfl ?_
  refine e_cV (z := 0) (a := 67) (as := []) (rest := []) (show am_cd 272 900 = (40, 903, 164, 0, [112]) by decide +kernel) (by decide +kernel) rfl rfl (Nat.le_of_ble_eq_true rfl) rfl ?_
  exact h

theorem g_tD160 {d : Nat} {Q : Option aV → aS → Prop} {w : eW} {t : eT} {i v y z : Int} (h : ((w32 z = w32 v → ((¬ w32 v = 0 → Ev (d + 120) 272 Q 929 [rA 0, rA 1, rA 67, rA 100, (0, i), (0, v), (1, y), (9, 0)] [] (enc w t)) ∧ (¬ (¬ w32 v = 0) → ((w64 (w 100 0) = w64 y → Ev (d + 120) 272 Q 929 [rA 0, rA 1, rA 67, rA 100, (0, i), (0, v), (1, y), (9, 0)] [] (enc w t)) ∧ (¬ (w64 (w 100 0) = w64 y) → Q (some (0, 0)) (enc w t)))))) ∧ (¬ (w32 z = w32 v) → Q (some (0, 0)) (enc w t)))) : Ev (d + 120) 272 Q 903 [rA 0, rA 1, rA 67, rA 100, (0, i), (0, v), (1, y), (9, 0)] [(0, z)] (enc w t) := by
  refine e_ldi (show am_cd 272 903 = (2, 905, 5, 0, []) by decide +kernel) rfl ?_
  refine e_cmp0 (show am_cd 272 905 = (11, 908, 910, 0, []) by decide +kernel) (fun hc => ?_) (fun hc => ?_)
  · replace h := h.1 hc
    refine e_ldi (show am_cd 272 910 = (2, 912, 5, 0, []) by decide +kernel) rfl ?_
    refine e_if1 (show am_cd 272 912 = (10, 915, 926, 1, []) by decide +kernel) (fun hc => ?_) (fun hc => ?_)
    · replace h := h.1 hc
      refine e_go (show am_cd 272 926 = (12, 929, 0, 0, []) by decide +kernel) ?_
      exact h
    · replace h := h.2 hc
      refine e_lda (v := 100) (show am_cd 272 915 = (2, 916, 3, 2, []) by decide +kernel) rfl ?_
      refine e_ic (show am_cd 272 916 = (0, 917, 0, 0, []) by decide +kernel) ?_
      refine e_laldK (a := 100) (n := 1) (j := 0) (v := w 100 0) (show am_cd 272 917 = (22, 918, 0, 0, []) by decide +kernel) (by decide +kernel) (by decide +kernel) (by decide +kernel) (by decide +kernel) (by decide +kernel) rfl ?_
      refine e_ldl (show am_cd 272 918 = (2, 920, 6, 1, []) by decide +kernel) rfl ?_
      refine e_lcb0 (show am_cd 272 920 = (9, 921, 0, 0, []) by decide +kernel) (show am_cd 272 921 = (10, 924, 926, 0, []) by decide +kernel) (fun hc => ?_) (fun hc => ?_)
      · replace h := h.1 hc
        refine e_go (show am_cd 272 926 = (12, 929, 0, 0, []) by decide +kernel) ?_
        exact h
      · replace h := h.2 hc
        refine e_ic (show am_cd 272 924 = (0, 925, 0, 0, []) by decide +kernel) ?_
        exact e_retz (show am_cd 272 925 = (36, 926, 0, 0, []) by decide +kernel) (by decide +kernel) (Or.inl rfl) h
  · replace h := h.2 hc
    refine e_ic (show am_cd 272 908 = (0, 909, 0, 0, []) by decide +kernel) ?_
    exact e_retz (show am_cd 272 909 = (36, 910, 0, 0, []) by decide +kernel) (by decide +kernel) (Or.inl rfl) h

