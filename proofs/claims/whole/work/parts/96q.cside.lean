/-! The class: a side of what is kept. -/

theorem g_cside {d : Nat} {Q : Option aV → aS → Prop} {w : eW} {t : eT} {i s k : Int} (h : ((w32 i < 0 → Q (some (6, ((102 + t.2.1 : Nat) : Int))) (enc (wz w (102 + t.2.1)) (tx t))) ∧ (¬ (w32 i < 0) → ((w32 (w 48 4) ≤ w32 i → Q (some (6, ((102 + t.2.1 : Nat) : Int))) (enc (wz w (102 + t.2.1)) (tx t))) ∧ (¬ (w32 (w 48 4) ≤ w32 i) → ((w32 s < 0 → Q (some (6, ((102 + t.2.1 : Nat) : Int))) (enc (wz w (102 + t.2.1)) (tx t))) ∧ (¬ (w32 s < 0) → ((w32 1 < w32 s → Q (some (6, ((102 + t.2.1 : Nat) : Int))) (enc (wz w (102 + t.2.1)) (tx t))) ∧ (¬ (w32 1 < w32 s) → ((w32 (-1) ≤ w32 k → ((¬ w32 s = 0 → Ev (d + 2) 153 Q 66 [rA 1, (0, i), (0, s), (0, k), rA 10, (0, 0), (0, 0), (9, 0)] [] (enc w t)) ∧ (¬ (¬ w32 s = 0) → Ev (d + 2) 153 Q 66 [rA 1, (0, i), (0, s), (0, k), rA 9, (0, 0), (0, 0), (9, 0)] [] (enc w t)))) ∧ (¬ (w32 (-1) ≤ w32 k) → Q (some (6, ((102 + t.2.1 : Nat) : Int))) (enc (wz w (102 + t.2.1)) (tx t))))))))))))) : Cl (d + 2) 153 [rA 1, (0, i), (0, s), (0, k)] (enc w t) Q := by
  show Ev (d + 2) 153 Q 0 [rA 1, (0, i), (0, s), (0, k), (9, 0), (9, 0), (9, 0), (9, 0)] [] (enc w t)
  refine e_ldi (show am_cd 153 0 = (2, 1, 1, 0, []) by decide +kernel) rfl ?_
  refine e_if2 (show am_cd 153 1 = (10, 4, 29, 2, []) by decide +kernel) (fun hc => ?_) (fun hc => ?_)
  · replace h := h.1 hc
    exact e_thr (show am_cd 153 29 = (38, 32, 0, 0, []) by decide +kernel) h
  · replace h := h.2 hc
    refine e_ldi (show am_cd 153 4 = (2, 5, 1, 0, []) by decide +kernel) rfl ?_
    refine e_lda (v := 1) (show am_cd 153 5 = (2, 6, 0, 2, []) by decide +kernel) rfl ?_
    refine e_getr (a := 1) (r := 48) (show am_cd 153 6 = (18, 9, 1106, 2, [54]) by decide +kernel) (by decide +kernel) (by decide +kernel) rfl ?_
    refine e_getf (a := 48) (tg := 0) (show am_cd 153 9 = (18, 12, 204, 0, [140]) by decide +kernel) (by decide +kernel) (by decide +kernel) rfl ?_
    refine e_cmp3 (show am_cd 153 12 = (11, 15, 29, 3, []) by decide +kernel) (fun hc => ?_) (fun hc => ?_)
    · replace h := h.1 hc
      exact e_thr (show am_cd 153 29 = (38, 32, 0, 0, []) by decide +kernel) h
    · replace h := h.2 hc
      refine e_ldi (show am_cd 153 15 = (2, 16, 2, 0, []) by decide +kernel) rfl ?_
      refine e_if2 (show am_cd 153 16 = (10, 19, 29, 2, []) by decide +kernel) (fun hc => ?_) (fun hc => ?_)
      · replace h := h.1 hc
        exact e_thr (show am_cd 153 29 = (38, 32, 0, 0, []) by decide +kernel) h
      · replace h := h.2 hc
        refine e_ldi (show am_cd 153 19 = (2, 20, 2, 0, []) by decide +kernel) rfl ?_
        refine e_ic (show am_cd 153 20 = (0, 21, 0, 1, []) by decide +kernel) ?_
        refine e_cmp4 (show am_cd 153 21 = (11, 24, 29, 4, []) by decide +kernel) (fun hc => ?_) (fun hc => ?_)
        · replace h := h.1 hc
          exact e_thr (show am_cd 153 29 = (38, 32, 0, 0, []) by decide +kernel) h
        · replace h := h.2 hc
          refine e_ldi (show am_cd 153 24 = (2, 25, 3, 0, []) by decide +kernel) rfl ?_
          refine e_ic (show am_cd 153 25 = (0, 26, 0, -1, []) by decide +kernel) ?_
          refine e_cmp3 (show am_cd 153 26 = (11, 29, 37, 3, []) by decide +kernel) (fun hc => ?_) (fun hc => ?_)
          · replace h := h.1 hc
            refine e_ldi (show am_cd 153 37 = (2, 38, 2, 0, []) by decide +kernel) rfl ?_
            refine e_if1 (show am_cd 153 38 = (10, 41, 51, 1, []) by decide +kernel) (fun hc => ?_) (fun hc => ?_)
            · replace h := h.1 hc
              refine e_lda (v := 1) (show am_cd 153 51 = (2, 52, 0, 2, []) by decide +kernel) rfl ?_
              refine e_getr (a := 1) (r := 8) (show am_cd 153 52 = (18, 55, 1101, 2, [19]) by decide +kernel) (by decide +kernel) (by decide +kernel) rfl ?_
              refine e_getr (a := 8) (r := 10) (show am_cd 153 55 = (18, 58, 1, 2, [315]) by decide +kernel) (by decide +kernel) (by decide +kernel) rfl ?_
              refine e_sta (v := 10) (la2 := [rA 1, (0, i), (0, s), (0, k), rA 10, (9, 0), (9, 0), (9, 0)]) (show am_cd 153 58 = (3, 60, 4, 2, []) by decide +kernel) rfl ?_
              refine e_ic (show am_cd 153 60 = (0, 61, 0, 0, []) by decide +kernel) ?_
              refine e_sti (la2 := [rA 1, (0, i), (0, s), (0, k), rA 10, (0, 0), (9, 0), (9, 0)]) (show am_cd 153 61 = (3, 63, 5, 0, []) by decide +kernel) rfl ?_
              refine e_ic (show am_cd 153 63 = (0, 64, 0, 0, []) by decide +kernel) ?_
              refine e_sti (la2 := [rA 1, (0, i), (0, s), (0, k), rA 10, (0, 0), (0, 0), (9, 0)]) (show am_cd 153 64 = (3, 66, 6, 0, []) by decide +kernel) rfl ?_
              exact h
            · replace h := h.2 hc
              refine e_lda (v := 1) (show am_cd 153 41 = (2, 42, 0, 2, []) by decide +kernel) rfl ?_
              refine e_getr (a := 1) (r := 8) (show am_cd 153 42 = (18, 45, 1101, 2, [19]) by decide +kernel) (by decide +kernel) (by decide +kernel) rfl ?_
              refine e_getr (a := 8) (r := 9) (show am_cd 153 45 = (18, 48, 0, 2, [312]) by decide +kernel) (by decide +kernel) (by decide +kernel) rfl ?_
              refine e_go (show am_cd 153 48 = (12, 58, 0, 0, []) by decide +kernel) ?_
              refine e_sta (v := 9) (la2 := [rA 1, (0, i), (0, s), (0, k), rA 9, (9, 0), (9, 0), (9, 0)]) (show am_cd 153 58 = (3, 60, 4, 2, []) by decide +kernel) rfl ?_
              refine e_ic (show am_cd 153 60 = (0, 61, 0, 0, []) by decide +kernel) ?_
              refine e_sti (la2 := [rA 1, (0, i), (0, s), (0, k), rA 9, (0, 0), (9, 0), (9, 0)]) (show am_cd 153 61 = (3, 63, 5, 0, []) by decide +kernel) rfl ?_
              refine e_ic (show am_cd 153 63 = (0, 64, 0, 0, []) by decide +kernel) ?_
              refine e_sti (la2 := [rA 1, (0, i), (0, s), (0, k), rA 9, (0, 0), (0, 0), (9, 0)]) (show am_cd 153 64 = (3, 66, 6, 0, []) by decide +kernel) rfl ?_
              exact h
          · replace h := h.2 hc
            exact e_thr (show am_cd 153 29 = (38, 32, 0, 0, []) by decide +kernel) h

theorem g_cside9 {d : Nat} {Q : Option aV → aS → Prop} {w : eW} {t : eT} {i s k n j : Int} {Jn : aV} (h : (0 ≤ w32 i ∧ w32 i < 20) ∧ ((w32 (w 49 (w32 i).toNat) ≤ w32 j → ((w32 k = w32 (-1) → Q (some (0, n)) (enc w t)) ∧ (¬ (w32 k = w32 (-1)) → Q (some (6, ((102 + t.2.1 : Nat) : Int))) (enc (wz w (102 + t.2.1)) (tx t))))) ∧ (¬ (w32 (w 49 (w32 i).toNat) ≤ w32 j) → (0 ≤ w32 ((i * 13) + j) ∧ w32 ((i * 13) + j) < 260) ∧ (0 ≤ w32 (w 51 (w32 ((i * 13) + j)).toNat) ∧ w32 (w 51 (w32 ((i * 13) + j)).toNat) < 16) ∧ ((w32 (w 9 (w32 (w 51 (w32 ((i * 13) + j)).toNat)).toNat) = 0 → Ev (d + 2) 153 Q 66 [rA 1, (0, i), (0, s), (0, k), rA 9, (0, n), (0, j + 1), (0, w 9 (w32 (w 51 (w32 ((i * 13) + j)).toNat)).toNat)] [] (enc w t)) ∧ (¬ (w32 (w 9 (w32 (w 51 (w32 ((i * 13) + j)).toNat)).toNat) = 0) → ((¬ w32 n = w32 k → Ev (d + 2) 153 Q 66 [rA 1, (0, i), (0, s), (0, k), rA 9, (0, n + 1), (0, j + 1), (0, w 9 (w32 (w 51 (w32 ((i * 13) + j)).toNat)).toNat)] [] (enc w t)) ∧ (¬ (¬ w32 n = w32 k) → ((¬ w32 (w 9 (w32 (w 51 (w32 ((i * 13) + j)).toNat)).toNat) = w32 27 → Q (some (0, 96 + (w 9 (w32 (w 51 (w32 ((i * 13) + j)).toNat)).toNat))) (enc w t)) ∧ (¬ (¬ w32 (w 9 (w32 (w 51 (w32 ((i * 13) + j)).toNat)).toNat) = w32 27) → Q (some (0, 43)) (enc w t)))))))))) : Ev (d + 2) 153 Q 66 [rA 1, (0, i), (0, s), (0, k), rA 9, (0, n), (0, j), Jn] [] (enc w t) := by
  refine e_ldi (show am_cd 153 66 = (2, 68, 6, 0, []) by decide +kernel) rfl ?_
  refine e_lda (v := 1) (show am_cd 153 68 = (2, 69, 0, 2, []) by decide +kernel) rfl ?_
  refine e_getr (a := 1) (r := 48) (show am_cd 153 69 = (18, 72, 1106, 2, [54]) by decide +kernel) (by decide +kernel) (by decide +kernel) rfl ?_
  refine e_getr (a := 48) (r := 49) (show am_cd 153 72 = (18, 75, 200, 2, [303]) by decide +kernel) (by decide +kernel) (by decide +kernel) rfl ?_
  refine e_ldi (show am_cd 153 75 = (2, 76, 1, 0, []) by decide +kernel) rfl ?_
  refine e_iald (a := 49) (n := 20) (show am_cd 153 76 = (21, 77, 0, 0, []) by decide +kernel) (by decide +kernel) (by decide +kernel) (by decide +kernel) h.1 ?_
  replace h := h.2
  refine e_cmp3 (show am_cd 153 77 = (11, 80, 121, 3, []) by decide +kernel) (fun hc => ?_) (fun hc => ?_)
  · replace h := h.1 hc
    refine e_ldi (show am_cd 153 121 = (2, 122, 3, 0, []) by decide +kernel) rfl ?_
    refine e_ic (show am_cd 153 122 = (0, 123, 0, -1, []) by decide +kernel) ?_
    refine e_cmp0 (show am_cd 153 123 = (11, 126, 134, 0, []) by decide +kernel) (fun hc => ?_) (fun hc => ?_)
    · replace h := h.1 hc
      refine e_ldi (show am_cd 153 134 = (2, 136, 5, 0, []) by decide +kernel) rfl ?_
      exact e_reti (show am_cd 153 136 = (36, 137, 0, 0, []) by decide +kernel) (by decide +kernel) h
    · replace h := h.2 hc
      exact e_thr (show am_cd 153 126 = (38, 129, 0, 0, []) by decide +kernel) h
  · replace h := h.2 hc
    refine e_lda (v := 9) (show am_cd 153 80 = (2, 82, 4, 2, []) by decide +kernel) rfl ?_
    refine e_lda (v := 1) (show am_cd 153 82 = (2, 83, 0, 2, []) by decide +kernel) rfl ?_
    refine e_getr (a := 1) (r := 48) (show am_cd 153 83 = (18, 86, 1106, 2, [54]) by decide +kernel) (by decide +kernel) (by decide +kernel) rfl ?_
    refine e_ldi (show am_cd 153 86 = (2, 87, 1, 0, []) by decide +kernel) rfl ?_
    refine e_ldi (show am_cd 153 87 = (2, 89, 6, 0, []) by decide +kernel) rfl ?_
    refine e_cV (z := 0) (a := 48) (as := [(0, i), (0, j)]) (rest := [rA 9]) (show am_cd 153 89 = (40, 92, 18, 0, [309]) by decide +kernel) (by decide +kernel) rfl rfl (Nat.le_of_ble_eq_true rfl) rfl ?_
    show Ev _ 18 _ 0 [rA 48, (0, i), (0, j)] [] _
    refine e_lda (v := 48) (show am_cd 18 0 = (2, 1, 0, 2, []) by decide +kernel) rfl ?_
    refine e_getr (a := 48) (r := 51) (show am_cd 18 1 = (18, 4, 202, 2, [18]) by decide +kernel) (by decide +kernel) (by decide +kernel) rfl ?_
    refine e_ldi (show am_cd 18 4 = (2, 5, 1, 0, []) by decide +kernel) rfl ?_
    refine e_ic (show am_cd 18 5 = (0, 7, 1, 13, []) by decide +kernel) ?_
    refine e_imul (show am_cd 18 7 = (5, 8, 2, 0, []) by decide +kernel) ?_
    refine e_ldi (show am_cd 18 8 = (2, 9, 2, 0, []) by decide +kernel) rfl ?_
    refine e_iadd (show am_cd 18 9 = (5, 10, 0, 0, []) by decide +kernel) ?_
    refine e_iald (a := 51) (n := 260) (show am_cd 18 10 = (21, 11, 0, 0, []) by decide +kernel) (by decide +kernel) (by decide +kernel) (by decide +kernel) h.1 ?_
    replace h := h.2
    refine e_reti (show am_cd 18 11 = (36, 12, 0, 0, []) by decide +kernel) (by decide +kernel) ⟨fun _ h9 => (by cases h9), ?_⟩
    show Ev _ 153 _ 92 [rA 1, (0, i), (0, s), (0, k), rA 9, (0, n), (0, j), Jn] [(0, w 51 (w32 ((i * 13) + j)).toNat), rA 9] _
    refine e_iald (a := 9) (n := 16) (show am_cd 153 92 = (21, 93, 0, 0, []) by decide +kernel) (by decide +kernel) (by decide +kernel) (by decide +kernel) h.1 ?_
    replace h := h.2
    refine e_sti (la2 := [rA 1, (0, i), (0, s), (0, k), rA 9, (0, n), (0, j), (0, w 9 (w32 (w 51 (w32 ((i * 13) + j)).toNat)).toNat)]) (show am_cd 153 93 = (3, 95, 7, 0, []) by decide +kernel) rfl ?_
    refine e_ldi (show am_cd 153 95 = (2, 97, 7, 0, []) by decide +kernel) rfl ?_
    refine e_if0 (show am_cd 153 97 = (10, 100, 115, 0, []) by decide +kernel) (fun hc => ?_) (fun hc => ?_)
    · replace h := h.1 hc
      refine e_inc (la2 := [rA 1, (0, i), (0, s), (0, k), rA 9, (0, n), (0, j + 1), (0, w 9 (w32 (w 51 (w32 ((i * 13) + j)).toNat)).toNat)]) (show am_cd 153 115 = (4, 118, 6, 1, []) by decide +kernel) rfl rfl ?_
      refine e_go (show am_cd 153 118 = (12, 66, 0, 0, []) by decide +kernel) ?_
      exact h
    · replace h := h.2 hc
      refine e_ldi (show am_cd 153 100 = (2, 102, 5, 0, []) by decide +kernel) rfl ?_
      refine e_ldi (show am_cd 153 102 = (2, 103, 3, 0, []) by decide +kernel) rfl ?_
      refine e_cmp1 (show am_cd 153 103 = (11, 106, 112, 1, []) by decide +kernel) (fun hc => ?_) (fun hc => ?_)
      · replace h := h.1 hc
        refine e_inc (la2 := [rA 1, (0, i), (0, s), (0, k), rA 9, (0, n + 1), (0, j), (0, w 9 (w32 (w 51 (w32 ((i * 13) + j)).toNat)).toNat)]) (show am_cd 153 112 = (4, 115, 5, 1, []) by decide +kernel) rfl rfl ?_
        refine e_inc (la2 := [rA 1, (0, i), (0, s), (0, k), rA 9, (0, n + 1), (0, j + 1), (0, w 9 (w32 (w 51 (w32 ((i * 13) + j)).toNat)).toNat)]) (show am_cd 153 115 = (4, 118, 6, 1, []) by decide +kernel) rfl rfl ?_
        refine e_go (show am_cd 153 118 = (12, 66, 0, 0, []) by decide +kernel) ?_
        exact h
      · replace h := h.2 hc
        refine e_ldi (show am_cd 153 106 = (2, 108, 7, 0, []) by decide +kernel) rfl ?_
        refine e_cS (z := 0) (as := [(0, w 9 (w32 (w 51 (w32 ((i * 13) + j)).toNat)).toNat)]) (rest := []) (show am_cd 153 108 = (40, 111, 162, 1, [318]) by decide +kernel) (by decide) rfl rfl (Nat.le_of_ble_eq_true rfl) rfl ?_
        show Ev _ 162 _ 0 [(0, w 9 (w32 (w 51 (w32 ((i * 13) + j)).toNat)).toNat)] [] _
        refine e_ldi (show am_cd 162 0 = (2, 1, 0, 0, []) by decide +kernel) rfl ?_
        refine e_ic (show am_cd 162 1 = (0, 3, 1, 27, []) by decide +kernel) ?_
        refine e_cmp1 (show am_cd 162 3 = (11, 6, 11, 1, []) by decide +kernel) (fun hc => ?_) (fun hc => ?_)
        · replace h := h.1 hc
          refine e_ic (show am_cd 162 11 = (0, 13, 1, 96, []) by decide +kernel) ?_
          refine e_ldi (show am_cd 162 13 = (2, 14, 0, 0, []) by decide +kernel) rfl ?_
          refine e_iadd (show am_cd 162 14 = (5, 15, 0, 0, []) by decide +kernel) ?_
          refine e_reti (show am_cd 162 15 = (36, 16, 0, 0, []) by decide +kernel) (by decide +kernel) ⟨fun _ h9 => (by cases h9), ?_⟩
          show Ev _ 153 _ 111 [rA 1, (0, i), (0, s), (0, k), rA 9, (0, n), (0, j), (0, w 9 (w32 (w 51 (w32 ((i * 13) + j)).toNat)).toNat)] [(0, 96 + (w 9 (w32 (w 51 (w32 ((i * 13) + j)).toNat)).toNat))] _
          exact e_reti (show am_cd 153 111 = (36, 112, 0, 0, []) by decide +kernel) (by decide +kernel) h
        · replace h := h.2 hc
          refine e_ic (show am_cd 162 6 = (0, 8, 1, 43, []) by decide +kernel) ?_
          refine e_go (show am_cd 162 8 = (12, 15, 0, 0, []) by decide +kernel) ?_
          refine e_reti (show am_cd 162 15 = (36, 16, 0, 0, []) by decide +kernel) (by decide +kernel) ⟨fun _ h9 => (by cases h9), ?_⟩
          show Ev _ 153 _ 111 [rA 1, (0, i), (0, s), (0, k), rA 9, (0, n), (0, j), (0, w 9 (w32 (w 51 (w32 ((i * 13) + j)).toNat)).toNat)] [(0, 43)] _
          exact e_reti (show am_cd 153 111 = (36, 112, 0, 0, []) by decide +kernel) (by decide +kernel) h

theorem g_cside10 {d : Nat} {Q : Option aV → aS → Prop} {w : eW} {t : eT} {i s k n j : Int} {Jn : aV} (h : (0 ≤ w32 i ∧ w32 i < 20) ∧ ((w32 (w 49 (w32 i).toNat) ≤ w32 j → ((w32 k = w32 (-1) → Q (some (0, n)) (enc w t)) ∧ (¬ (w32 k = w32 (-1)) → Q (some (6, ((102 + t.2.1 : Nat) : Int))) (enc (wz w (102 + t.2.1)) (tx t))))) ∧ (¬ (w32 (w 49 (w32 i).toNat) ≤ w32 j) → (0 ≤ w32 ((i * 13) + j) ∧ w32 ((i * 13) + j) < 260) ∧ (0 ≤ w32 (w 51 (w32 ((i * 13) + j)).toNat) ∧ w32 (w 51 (w32 ((i * 13) + j)).toNat) < 16) ∧ ((w32 (w 10 (w32 (w 51 (w32 ((i * 13) + j)).toNat)).toNat) = 0 → Ev (d + 2) 153 Q 66 [rA 1, (0, i), (0, s), (0, k), rA 10, (0, n), (0, j + 1), (0, w 10 (w32 (w 51 (w32 ((i * 13) + j)).toNat)).toNat)] [] (enc w t)) ∧ (¬ (w32 (w 10 (w32 (w 51 (w32 ((i * 13) + j)).toNat)).toNat) = 0) → ((¬ w32 n = w32 k → Ev (d + 2) 153 Q 66 [rA 1, (0, i), (0, s), (0, k), rA 10, (0, n + 1), (0, j + 1), (0, w 10 (w32 (w 51 (w32 ((i * 13) + j)).toNat)).toNat)] [] (enc w t)) ∧ (¬ (¬ w32 n = w32 k) → ((¬ w32 (w 10 (w32 (w 51 (w32 ((i * 13) + j)).toNat)).toNat) = w32 27 → Q (some (0, 96 + (w 10 (w32 (w 51 (w32 ((i * 13) + j)).toNat)).toNat))) (enc w t)) ∧ (¬ (¬ w32 (w 10 (w32 (w 51 (w32 ((i * 13) + j)).toNat)).toNat) = w32 27) → Q (some (0, 43)) (enc w t)))))))))) : Ev (d + 2) 153 Q 66 [rA 1, (0, i), (0, s), (0, k), rA 10, (0, n), (0, j), Jn] [] (enc w t) := by
  refine e_ldi (show am_cd 153 66 = (2, 68, 6, 0, []) by decide +kernel) rfl ?_
  refine e_lda (v := 1) (show am_cd 153 68 = (2, 69, 0, 2, []) by decide +kernel) rfl ?_
  refine e_getr (a := 1) (r := 48) (show am_cd 153 69 = (18, 72, 1106, 2, [54]) by decide +kernel) (by decide +kernel) (by decide +kernel) rfl ?_
  refine e_getr (a := 48) (r := 49) (show am_cd 153 72 = (18, 75, 200, 2, [303]) by decide +kernel) (by decide +kernel) (by decide +kernel) rfl ?_
  refine e_ldi (show am_cd 153 75 = (2, 76, 1, 0, []) by decide +kernel) rfl ?_
  refine e_iald (a := 49) (n := 20) (show am_cd 153 76 = (21, 77, 0, 0, []) by decide +kernel) (by decide +kernel) (by decide +kernel) (by decide +kernel) h.1 ?_
  replace h := h.2
  refine e_cmp3 (show am_cd 153 77 = (11, 80, 121, 3, []) by decide +kernel) (fun hc => ?_) (fun hc => ?_)
  · replace h := h.1 hc
    refine e_ldi (show am_cd 153 121 = (2, 122, 3, 0, []) by decide +kernel) rfl ?_
    refine e_ic (show am_cd 153 122 = (0, 123, 0, -1, []) by decide +kernel) ?_
    refine e_cmp0 (show am_cd 153 123 = (11, 126, 134, 0, []) by decide +kernel) (fun hc => ?_) (fun hc => ?_)
    · replace h := h.1 hc
      refine e_ldi (show am_cd 153 134 = (2, 136, 5, 0, []) by decide +kernel) rfl ?_
      exact e_reti (show am_cd 153 136 = (36, 137, 0, 0, []) by decide +kernel) (by decide +kernel) h
    · replace h := h.2 hc
      exact e_thr (show am_cd 153 126 = (38, 129, 0, 0, []) by decide +kernel) h
  · replace h := h.2 hc
    refine e_lda (v := 10) (show am_cd 153 80 = (2, 82, 4, 2, []) by decide +kernel) rfl ?_
    refine e_lda (v := 1) (show am_cd 153 82 = (2, 83, 0, 2, []) by decide +kernel) rfl ?_
    refine e_getr (a := 1) (r := 48) (show am_cd 153 83 = (18, 86, 1106, 2, [54]) by decide +kernel) (by decide +kernel) (by decide +kernel) rfl ?_
    refine e_ldi (show am_cd 153 86 = (2, 87, 1, 0, []) by decide +kernel) rfl ?_
    refine e_ldi (show am_cd 153 87 = (2, 89, 6, 0, []) by decide +kernel) rfl ?_
    refine e_cV (z := 0) (a := 48) (as := [(0, i), (0, j)]) (rest := [rA 10]) (show am_cd 153 89 = (40, 92, 18, 0, [309]) by decide +kernel) (by decide +kernel) rfl rfl (Nat.le_of_ble_eq_true rfl) rfl ?_
    show Ev _ 18 _ 0 [rA 48, (0, i), (0, j)] [] _
    refine e_lda (v := 48) (show am_cd 18 0 = (2, 1, 0, 2, []) by decide +kernel) rfl ?_
    refine e_getr (a := 48) (r := 51) (show am_cd 18 1 = (18, 4, 202, 2, [18]) by decide +kernel) (by decide +kernel) (by decide +kernel) rfl ?_
    refine e_ldi (show am_cd 18 4 = (2, 5, 1, 0, []) by decide +kernel) rfl ?_
    refine e_ic (show am_cd 18 5 = (0, 7, 1, 13, []) by decide +kernel) ?_
    refine e_imul (show am_cd 18 7 = (5, 8, 2, 0, []) by decide +kernel) ?_
    refine e_ldi (show am_cd 18 8 = (2, 9, 2, 0, []) by decide +kernel) rfl ?_
    refine e_iadd (show am_cd 18 9 = (5, 10, 0, 0, []) by decide +kernel) ?_
    refine e_iald (a := 51) (n := 260) (show am_cd 18 10 = (21, 11, 0, 0, []) by decide +kernel) (by decide +kernel) (by decide +kernel) (by decide +kernel) h.1 ?_
    replace h := h.2
    refine e_reti (show am_cd 18 11 = (36, 12, 0, 0, []) by decide +kernel) (by decide +kernel) ⟨fun _ h9 => (by cases h9), ?_⟩
    show Ev _ 153 _ 92 [rA 1, (0, i), (0, s), (0, k), rA 10, (0, n), (0, j), Jn] [(0, w 51 (w32 ((i * 13) + j)).toNat), rA 10] _
    refine e_iald (a := 10) (n := 16) (show am_cd 153 92 = (21, 93, 0, 0, []) by decide +kernel) (by decide +kernel) (by decide +kernel) (by decide +kernel) h.1 ?_
    replace h := h.2
    refine e_sti (la2 := [rA 1, (0, i), (0, s), (0, k), rA 10, (0, n), (0, j), (0, w 10 (w32 (w 51 (w32 ((i * 13) + j)).toNat)).toNat)]) (show am_cd 153 93 = (3, 95, 7, 0, []) by decide +kernel) rfl ?_
    refine e_ldi (show am_cd 153 95 = (2, 97, 7, 0, []) by decide +kernel) rfl ?_
    refine e_if0 (show am_cd 153 97 = (10, 100, 115, 0, []) by decide +kernel) (fun hc => ?_) (fun hc => ?_)
    · replace h := h.1 hc
      refine e_inc (la2 := [rA 1, (0, i), (0, s), (0, k), rA 10, (0, n), (0, j + 1), (0, w 10 (w32 (w 51 (w32 ((i * 13) + j)).toNat)).toNat)]) (show am_cd 153 115 = (4, 118, 6, 1, []) by decide +kernel) rfl rfl ?_
      refine e_go (show am_cd 153 118 = (12, 66, 0, 0, []) by decide +kernel) ?_
      exact h
    · replace h := h.2 hc
      refine e_ldi (show am_cd 153 100 = (2, 102, 5, 0, []) by decide +kernel) rfl ?_
      refine e_ldi (show am_cd 153 102 = (2, 103, 3, 0, []) by decide +kernel) rfl ?_
      refine e_cmp1 (show am_cd 153 103 = (11, 106, 112, 1, []) by decide +kernel) (fun hc => ?_) (fun hc => ?_)
      · replace h := h.1 hc
        refine e_inc (la2 := [rA 1, (0, i), (0, s), (0, k), rA 10, (0, n + 1), (0, j), (0, w 10 (w32 (w 51 (w32 ((i * 13) + j)).toNat)).toNat)]) (show am_cd 153 112 = (4, 115, 5, 1, []) by decide +kernel) rfl rfl ?_
        refine e_inc (la2 := [rA 1, (0, i), (0, s), (0, k), rA 10, (0, n + 1), (0, j + 1), (0, w 10 (w32 (w 51 (w32 ((i * 13) + j)).toNat)).toNat)]) (show am_cd 153 115 = (4, 118, 6, 1, []) by decide +kernel) rfl rfl ?_
        refine e_go (show am_cd 153 118 = (12, 66, 0, 0, []) by decide +kernel) ?_
        exact h
      · replace h := h.2 hc
        refine e_ldi (show am_cd 153 106 = (2, 108, 7, 0, []) by decide +kernel) rfl ?_
        refine e_cS (z := 0) (as := [(0, w 10 (w32 (w 51 (w32 ((i * 13) + j)).toNat)).toNat)]) (rest := []) (show am_cd 153 108 = (40, 111, 162, 1, [318]) by decide +kernel) (by decide) rfl rfl (Nat.le_of_ble_eq_true rfl) rfl ?_
        show Ev _ 162 _ 0 [(0, w 10 (w32 (w 51 (w32 ((i * 13) + j)).toNat)).toNat)] [] _
        refine e_ldi (show am_cd 162 0 = (2, 1, 0, 0, []) by decide +kernel) rfl ?_
        refine e_ic (show am_cd 162 1 = (0, 3, 1, 27, []) by decide +kernel) ?_
        refine e_cmp1 (show am_cd 162 3 = (11, 6, 11, 1, []) by decide +kernel) (fun hc => ?_) (fun hc => ?_)
        · replace h := h.1 hc
          refine e_ic (show am_cd 162 11 = (0, 13, 1, 96, []) by decide +kernel) ?_
          refine e_ldi (show am_cd 162 13 = (2, 14, 0, 0, []) by decide +kernel) rfl ?_
          refine e_iadd (show am_cd 162 14 = (5, 15, 0, 0, []) by decide +kernel) ?_
          refine e_reti (show am_cd 162 15 = (36, 16, 0, 0, []) by decide +kernel) (by decide +kernel) ⟨fun _ h9 => (by cases h9), ?_⟩
          show Ev _ 153 _ 111 [rA 1, (0, i), (0, s), (0, k), rA 10, (0, n), (0, j), (0, w 10 (w32 (w 51 (w32 ((i * 13) + j)).toNat)).toNat)] [(0, 96 + (w 10 (w32 (w 51 (w32 ((i * 13) + j)).toNat)).toNat))] _
          exact e_reti (show am_cd 153 111 = (36, 112, 0, 0, []) by decide +kernel) (by decide +kernel) h
        · replace h := h.2 hc
          refine e_ic (show am_cd 162 6 = (0, 8, 1, 43, []) by decide +kernel) ?_
          refine e_go (show am_cd 162 8 = (12, 15, 0, 0, []) by decide +kernel) ?_
          refine e_reti (show am_cd 162 15 = (36, 16, 0, 0, []) by decide +kernel) (by decide +kernel) ⟨fun _ h9 => (by cases h9), ?_⟩
          show Ev _ 153 _ 111 [rA 1, (0, i), (0, s), (0, k), rA 10, (0, n), (0, j), (0, w 10 (w32 (w 51 (w32 ((i * 13) + j)).toNat)).toNat)] [(0, 43)] _
          exact e_reti (show am_cd 153 111 = (36, 112, 0, 0, []) by decide +kernel) (by decide +kernel) h

theorem e_side9 {d : Nat} {w : eW} {t : eT} {b : Nat × Nat} {m : eW} {ks : kT} {rl tl : List Int} {i k : Int} {Q : Option aV → aS → Prop} (h : CI w t b m ks rl tl) (hi : 0 ≤ i ∧ i < (ks.length : Int)) (hk : -1 ≤ k ∧ k ≤ 2147483647) (hp : WFp m) (hb : ∀ p ∈ (kAt ks i.toNat).1, p < nP m)
    (no : Q (some (6, ((102 + t.2.1 : Nat) : Int))) (enc (wz w (102 + t.2.1)) (tx t)) ∨ True) : ∀ (rest : List Nat) (j n : Nat) (J : aV), (kAt ks i.toNat).1.drop j = rest → j + rest.length = (kAt ks i.toNat).1.length → n ≤ j → (k = -1 ∨ (n : Int) ≤ k) →
    (∀ x, (if k = -1 then some ((n + (sdL m 0 rest).length : Nat) : Int) else if k < ((n + (sdL m 0 rest).length : Nat) : Int) then some (sgn ((sdL m 0 rest).getD (k - n).toNat 0)) else none) = some x → Q (some (0, x)) (enc w t)) →
    ((if k = -1 then some ((n + (sdL m 0 rest).length : Nat) : Int) else if k < ((n + (sdL m 0 rest).length : Nat) : Int) then some (sgn ((sdL m 0 rest).getD (k - n).toNat 0)) else none) = none → Q (some (6, ((102 + t.2.1 : Nat) : Int))) (enc (wz w (102 + t.2.1)) (tx t))) →
    Ev (d + 2) 153 Q 66 [rA 1, (0, i), (0, 0), (0, k), rA 9, (0, (n : Int)), (0, (j : Int)), J] [] (enc w t) := by
  obtain ⟨e1, e2, e3⟩ := h.2.2.2.1
  obtain ⟨l1, l2, l3, l4, l5, l6⟩ := e3 i.toNat (by omega)
  have hA := h.1.2.1
  intro rest
  induction rest with
  | nil =>
    intro j n J hd hj hn hkn hy hz
    rw [List.length_nil, Nat.add_zero] at hj
    refine g_cside9 ?_
    simp (disch := omega) only [w32_id]
    rw [l3]
    have es : (sdL m 0 []).length = 0 := rfl
    rw [es, Nat.add_zero] at hy hz
    refine ⟨by omega, fun _ => ⟨fun h1 => hy _ (by rw [if_pos h1]), fun h1 => hz (by rw [if_neg h1, if_neg (by omega)])⟩, fun h9 => by omega⟩
  | cons p rest ih =>
    intro j n J hd hj hn hkn hy hz
    rw [List.length_cons] at hj
    have hjl : j < (kAt ks i.toNat).1.length := by omega
    have hdj : (kAt ks i.toNat).1.getD j 0 = p := by
      have : ((kAt ks i.toNat).1.drop j).getD 0 0 = p := by rw [hd]; rfl
      rw [← this]
      simp [List.getD]
    have hdr : (kAt ks i.toNat).1.drop (j + 1) = rest := by
      have : ((kAt ks i.toNat).1.drop j).drop 1 = rest := by rw [hd]; rfl
      rw [List.drop_drop] at this
      exact this
    have hpn : p < nP m := hb p (by rw [← hdj]; exact gD_mem hjl)
    have hpb := hp.2.1 p hpn
    have hp16 := hp.n.2
    have hcb := cdI_b hpb.1
    have e51 := l4 j hjl
    rw [hdj] at e51
    have ec := (hA.2.1 p hpn).1
    refine g_cside9 ?_
    simp (disch := omega) only [w32_id]
    rw [show (i * 13 + (j : Int)).toNat = 13 * i.toNat + j by omega, l3, e51, w32_id (x := (p : Int)) (by omega), Int.toNat_natCast, ec]
    simp (disch := omega) only [w32_id]
    have hf : sdL m 0 (p :: rest) = if m 68 p = 27 then sdL m 0 rest else m 68 p :: sdL m 0 rest := by
      unfold sdL
      rw [List.map_cons, List.filter_cons]
      have : sdC m 0 p = m 68 p := rfl
      rw [this]
      by_cases h9 : m 68 p = 27
      · rw [if_pos h9, decide_eq_true h9]; rfl
      · rw [if_neg h9, decide_eq_false h9]; rfl
    rw [hf] at hy hz
    refine ⟨by omega, fun h9 => by omega, fun _ => ⟨by omega, by omega, fun h0 => ?_, fun h0 => ?_⟩⟩
    · have h27 := (cdI_0 hpb.1).mp h0
      rw [if_pos h27] at hy hz
      exact ih (j + 1) n _ hdr (by omega) (by omega) hkn hy hz
    · have h27 : ¬ m 68 p = 27 := fun h9 => h0 ((cdI_0 hpb.1).mpr h9)
      rw [if_neg h27, List.length_cons] at hy hz
      refine ⟨fun h1 => ?_, fun h1 => ?_⟩
      · have heq : (if k = -1 then some ((n + ((sdL m 0 rest).length + 1) : Nat) : Int) else if k < ((n + ((sdL m 0 rest).length + 1) : Nat) : Int) then some (sgn ((m 68 p :: sdL m 0 rest).getD (k - n).toNat 0)) else none) = (if k = -1 then some ((n + 1 + (sdL m 0 rest).length : Nat) : Int) else if k < ((n + 1 + (sdL m 0 rest).length : Nat) : Int) then some (sgn ((sdL m 0 rest).getD (k - ((n + 1 : Nat) : Int)).toNat 0)) else none) := by
          by_cases hk1 : k = -1
          · rw [if_pos hk1, if_pos hk1]; congr 2; omega
          · rw [if_neg hk1, if_neg hk1, show n + ((sdL m 0 rest).length + 1) = n + 1 + (sdL m 0 rest).length by omega, show (k - (n : Int)).toNat = (k - ((n + 1 : Nat) : Int)).toNat + 1 by omega]
            rfl
        rw [heq] at hy hz
        exact ih (j + 1) (n + 1) _ hdr (by omega) (by omega) (by omega) hy hz
      · have hk1 : ¬ k = -1 := by omega
        have hkn2 : (k - (n : Int)).toNat = 0 := by omega
        have hcd : cdI (m 68 p) = m 68 p + 1 := by unfold cdI; rw [if_neg h27]
        rw [hcd]
        have val : ∀ y, y = sgn (m 68 p) → Q (some (0, y)) (enc w t) := fun y hy2 => hy y (by rw [if_neg hk1, if_pos (by omega), hkn2, hy2]; rfl)
        unfold sgn at val
        refine ⟨fun h2 => val _ (by rw [if_neg (by omega)]; omega), fun h2 => val _ (by rw [if_pos (by omega)])⟩

theorem e_side10 {d : Nat} {w : eW} {t : eT} {b : Nat × Nat} {m : eW} {ks : kT} {rl tl : List Int} {i k : Int} {Q : Option aV → aS → Prop} (h : CI w t b m ks rl tl) (hi : 0 ≤ i ∧ i < (ks.length : Int)) (hk : -1 ≤ k ∧ k ≤ 2147483647) (hp : WFp m) (hb : ∀ p ∈ (kAt ks i.toNat).1, p < nP m)
    (no : Q (some (6, ((102 + t.2.1 : Nat) : Int))) (enc (wz w (102 + t.2.1)) (tx t)) ∨ True) : ∀ (rest : List Nat) (j n : Nat) (J : aV), (kAt ks i.toNat).1.drop j = rest → j + rest.length = (kAt ks i.toNat).1.length → n ≤ j → (k = -1 ∨ (n : Int) ≤ k) →
    (∀ x, (if k = -1 then some ((n + (sdL m 1 rest).length : Nat) : Int) else if k < ((n + (sdL m 1 rest).length : Nat) : Int) then some (sgn ((sdL m 1 rest).getD (k - n).toNat 0)) else none) = some x → Q (some (0, x)) (enc w t)) →
    ((if k = -1 then some ((n + (sdL m 1 rest).length : Nat) : Int) else if k < ((n + (sdL m 1 rest).length : Nat) : Int) then some (sgn ((sdL m 1 rest).getD (k - n).toNat 0)) else none) = none → Q (some (6, ((102 + t.2.1 : Nat) : Int))) (enc (wz w (102 + t.2.1)) (tx t))) →
    Ev (d + 2) 153 Q 66 [rA 1, (0, i), (0, 1), (0, k), rA 10, (0, (n : Int)), (0, (j : Int)), J] [] (enc w t) := by
  obtain ⟨e1, e2, e3⟩ := h.2.2.2.1
  obtain ⟨l1, l2, l3, l4, l5, l6⟩ := e3 i.toNat (by omega)
  have hA := h.1.2.1
  intro rest
  induction rest with
  | nil =>
    intro j n J hd hj hn hkn hy hz
    rw [List.length_nil, Nat.add_zero] at hj
    refine g_cside10 ?_
    simp (disch := omega) only [w32_id]
    rw [l3]
    have es : (sdL m 1 []).length = 0 := rfl
    rw [es, Nat.add_zero] at hy hz
    refine ⟨by omega, fun _ => ⟨fun h1 => hy _ (by rw [if_pos h1]), fun h1 => hz (by rw [if_neg h1, if_neg (by omega)])⟩, fun h9 => by omega⟩
  | cons p rest ih =>
    intro j n J hd hj hn hkn hy hz
    rw [List.length_cons] at hj
    have hjl : j < (kAt ks i.toNat).1.length := by omega
    have hdj : (kAt ks i.toNat).1.getD j 0 = p := by
      have : ((kAt ks i.toNat).1.drop j).getD 0 0 = p := by rw [hd]; rfl
      rw [← this]
      simp [List.getD]
    have hdr : (kAt ks i.toNat).1.drop (j + 1) = rest := by
      have : ((kAt ks i.toNat).1.drop j).drop 1 = rest := by rw [hd]; rfl
      rw [List.drop_drop] at this
      exact this
    have hpn : p < nP m := hb p (by rw [← hdj]; exact gD_mem hjl)
    have hpb := hp.2.1 p hpn
    have hp16 := hp.n.2
    have hcb := cdI_b hpb.2.1
    have e51 := l4 j hjl
    rw [hdj] at e51
    have ec := (hA.2.1 p hpn).2
    refine g_cside10 ?_
    simp (disch := omega) only [w32_id]
    rw [show (i * 13 + (j : Int)).toNat = 13 * i.toNat + j by omega, l3, e51, w32_id (x := (p : Int)) (by omega), Int.toNat_natCast, ec]
    simp (disch := omega) only [w32_id]
    have hf : sdL m 1 (p :: rest) = if m 69 p = 27 then sdL m 1 rest else m 69 p :: sdL m 1 rest := by
      unfold sdL
      rw [List.map_cons, List.filter_cons]
      have : sdC m 1 p = m 69 p := rfl
      rw [this]
      by_cases h9 : m 69 p = 27
      · rw [if_pos h9, decide_eq_true h9]; rfl
      · rw [if_neg h9, decide_eq_false h9]; rfl
    rw [hf] at hy hz
    refine ⟨by omega, fun h9 => by omega, fun _ => ⟨by omega, by omega, fun h0 => ?_, fun h0 => ?_⟩⟩
    · have h27 := (cdI_0 hpb.2.1).mp h0
      rw [if_pos h27] at hy hz
      exact ih (j + 1) n _ hdr (by omega) (by omega) hkn hy hz
    · have h27 : ¬ m 69 p = 27 := fun h9 => h0 ((cdI_0 hpb.2.1).mpr h9)
      rw [if_neg h27, List.length_cons] at hy hz
      refine ⟨fun h1 => ?_, fun h1 => ?_⟩
      · have heq : (if k = -1 then some ((n + ((sdL m 1 rest).length + 1) : Nat) : Int) else if k < ((n + ((sdL m 1 rest).length + 1) : Nat) : Int) then some (sgn ((m 69 p :: sdL m 1 rest).getD (k - n).toNat 0)) else none) = (if k = -1 then some ((n + 1 + (sdL m 1 rest).length : Nat) : Int) else if k < ((n + 1 + (sdL m 1 rest).length : Nat) : Int) then some (sgn ((sdL m 1 rest).getD (k - ((n + 1 : Nat) : Int)).toNat 0)) else none) := by
          by_cases hk1 : k = -1
          · rw [if_pos hk1, if_pos hk1]; congr 2; omega
          · rw [if_neg hk1, if_neg hk1, show n + ((sdL m 1 rest).length + 1) = n + 1 + (sdL m 1 rest).length by omega, show (k - (n : Int)).toNat = (k - ((n + 1 : Nat) : Int)).toNat + 1 by omega]
            rfl
        rw [heq] at hy hz
        exact ih (j + 1) (n + 1) _ hdr (by omega) (by omega) (by omega) hy hz
      · have hk1 : ¬ k = -1 := by omega
        have hkn2 : (k - (n : Int)).toNat = 0 := by omega
        have hcd : cdI (m 69 p) = m 69 p + 1 := by unfold cdI; rw [if_neg h27]
        rw [hcd]
        have val : ∀ y, y = sgn (m 69 p) → Q (some (0, y)) (enc w t) := fun y hy2 => hy y (by rw [if_neg hk1, if_pos (by omega), hkn2, hy2]; rfl)
        unfold sgn at val
        refine ⟨fun h2 => val _ (by rw [if_neg (by omega)]; omega), fun h2 => val _ (by rw [if_pos (by omega)])⟩

theorem k_side {d : Nat} {w : eW} {t : eT} {b : Nat × Nat} {m : eW} {ks : kT} {rl tl : List Int} {i s k : Int} (h : CI w t b m ks rl tl) (hp : WFp m) (hkb : KB (nP m) ks) (hi : okI i) (hs : okI s) (hk : okI k) : Cl (d + 2) 153 [rA 1, (0, i), (0, s), (0, k)] (enc w t) (AnT w m b ks rl tl 0 (sideO m ks i s k)) := by
  have hi2 : -2147483648 ≤ i ∧ i ≤ 2147483647 := hi
  have hs2 : -2147483648 ≤ s ∧ s ≤ 2147483647 := hs
  have hk2 : -2147483648 ≤ k ∧ k ≤ 2147483647 := hk
  obtain ⟨e1, e2, e3⟩ := h.2.2.2.1
  refine g_cside ?_
  rw [e1]
  simp (disch := omega) only [w32_id]
  have nope : ¬ ((0 ≤ i ∧ i < (ks.length : Int)) ∧ 0 ≤ s ∧ s ≤ 1) → AnT w m b ks rl tl 0 (sideO m ks i s k) (some (6, ((102 + t.2.1 : Nat) : Int))) (enc (wz w (102 + t.2.1)) (tx t)) := fun h9 => AnT.no h (by unfold sideO; rw [if_neg h9])
  refine ⟨fun h0 => nope (by omega), fun h0 => ⟨fun h1 => nope (by omega), fun h1 => ⟨fun h2 => nope (by omega), fun h2 => ⟨fun h3 => nope (by omega), fun h3 => ⟨fun h4 => ?_, fun h4 => AnT.no h (by unfold sideO; rw [if_pos (by omega), if_neg (by omega), if_neg (by omega)])⟩⟩⟩⟩⟩
  have hb : ∀ p ∈ (kAt ks i.toNat).1, p < nP m := fun p hpp => by
    have hm : kAt ks i.toNat ∈ ks := by
      unfold kAt
      exact gD_mem (by omega)
    exact (hkb _ hm).2.1 p hpp
  have eS : ∀ z : Int, s = z → sideO m ks i s k = (if k = -1 then some ((0 + (sdL m z (kAt ks i.toNat).1).length : Nat) : Int) else if k < ((0 + (sdL m z (kAt ks i.toNat).1).length : Nat) : Int) then some (sgn ((sdL m z (kAt ks i.toNat).1).getD (k - ((0 : Nat) : Int)).toNat 0)) else none) := fun z hz => by
    unfold sideO
    rw [if_pos (by omega), hz, Nat.zero_add]
    by_cases hk1 : k = -1
    · rw [if_pos hk1, if_pos hk1]
    · rw [if_neg hk1, if_neg hk1]
      by_cases hk3 : k < ((sdL m z (kAt ks i.toNat).1).length : Int)
      · rw [if_pos hk3, if_pos (by omega), show (k - ((0 : Nat) : Int)).toNat = k.toNat by omega]
      · rw [if_neg hk3, if_neg (by omega)]
  refine ⟨fun h5 => ?_, fun h5 => ?_⟩
  · have s1 : s = 1 := by omega
    subst s1
    refine e_side10 h (by omega) (by omega) hp hb (Or.inr trivial) (kAt ks i.toNat).1 0 0 _ rfl (by omega) (by omega) (by omega) (fun x hx => AnT.yes h ?_) (fun hx => AnT.no h ?_)
    · rw [eS 1 rfl]; exact hx
    · rw [eS 1 rfl]; exact hx
  · have s1 : s = 0 := by omega
    subst s1
    refine e_side9 h (by omega) (by omega) hp hb (Or.inr trivial) (kAt ks i.toNat).1 0 0 _ rfl (by omega) (by omega) (by omega) (fun x hx => AnT.yes h ?_) (fun hx => AnT.no h ?_)
    · rw [eS 0 rfl]; exact hx
    · rw [eS 0 rfl]; exact hx

