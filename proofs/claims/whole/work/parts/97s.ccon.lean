/-! The class: conflict, conflicts. -/

theorem g_ccf {d : Nat} {Q : Option aV → aS → Prop} {w : eW} {t : eT} {a c : Int} {m : eW} {ks : kT} {ml : List Nat} (h : ((w32 a < 0 → Q (some (0, (-1))) (enc w t)) ∧ (¬ (w32 a < 0) → ((w32 (w 15 12) ≤ w32 a → Q (some (0, (-1))) (enc w t)) ∧ (¬ (w32 (w 15 12) ≤ w32 a) → ((w32 c < 0 → Q (some (0, (-1))) (enc w t)) ∧ (¬ (w32 c < 0) → ((w32 (w 15 12) ≤ w32 c → Q (some (0, (-1))) (enc w t)) ∧ (¬ (w32 (w 15 12) ≤ w32 c) → ((¬ w32 a = w32 c → (RC w m ∧ AC w m ∧ WFp m ∧ WFr m ∧ (0 ≤ a ∧ a < (nR m : Int)) ∧ (0 ≤ c ∧ c < (nR m : Int))) ∧ (∀ x1 w2, (fwQ m a.toNat c.toNat w x1 w2) → ((¬ w32 x1 = w32 (-1) → (fxA 63 20 4 ∧ KC (wu w2 48 4 0) ks ∧ (x1 = (ml.length : Int) ∧ ml.length ≤ 4 ∧ ml.length ≤ 13) ∧ (∀ k, k < ml.length → (wu w2 48 4 0) 63 k = ((ml.getD k 0 : Nat) : Int)) ∧ (63 < 48 ∨ 52 < 63)) ∧ (∀ w3, (KC w3 ((ks ++ [(ml, [])]).take 20) ∧ Fc [49, 50, 51] [(48, 4)] (wu w2 48 4 0) w3) → ((0 : Int) ≤ (wu w3 1 14 0) 1 14 ∧ (wu w3 1 14 0) 1 14 < 24) ∧ (Q (some (0, x1)) (enc (tlW (wu w3 1 14 0) (w32 (w3 61 4))) t)))) ∧ (¬ (¬ w32 x1 = w32 (-1)) → Q (some (0, (-2))) (enc w2 t))))) ∧ (¬ (¬ w32 a = w32 c) → Q (some (0, (-1))) (enc w t)))))))))))) : Cl (d + 4) 142 [rA 1, (0, a), (0, c)] (enc w t) Q := by
  show Ev (d + 4) 142 Q 0 [rA 1, (0, a), (0, c), (9, 0)] [] (enc w t)
  refine e_ldi (show am_cd 142 0 = (2, 1, 1, 0, []) by decide +kernel) rfl ?_
  refine e_if2 (show am_cd 142 1 = (10, 4, 35, 2, []) by decide +kernel) (fun hc => ?_) (fun hc => ?_)
  · replace h := h.1 hc
    refine e_ic (show am_cd 142 35 = (0, 36, 0, -1, []) by decide +kernel) ?_
    exact e_reti (show am_cd 142 36 = (36, 37, 0, 0, []) by decide +kernel) (by decide +kernel) h
  · replace h := h.2 hc
    refine e_ldi (show am_cd 142 4 = (2, 5, 1, 0, []) by decide +kernel) rfl ?_
    refine e_lda (v := 1) (show am_cd 142 5 = (2, 6, 0, 2, []) by decide +kernel) rfl ?_
    refine e_getr (a := 1) (r := 15) (show am_cd 142 6 = (18, 9, 1102, 2, [26]) by decide +kernel) (by decide +kernel) (by decide +kernel) rfl ?_
    refine e_getf (a := 15) (tg := 0) (show am_cd 142 9 = (18, 12, 712, 0, [134]) by decide +kernel) (by decide +kernel) (by decide +kernel) rfl ?_
    refine e_cmp3 (show am_cd 142 12 = (11, 15, 35, 3, []) by decide +kernel) (fun hc => ?_) (fun hc => ?_)
    · replace h := h.1 hc
      refine e_ic (show am_cd 142 35 = (0, 36, 0, -1, []) by decide +kernel) ?_
      exact e_reti (show am_cd 142 36 = (36, 37, 0, 0, []) by decide +kernel) (by decide +kernel) h
    · replace h := h.2 hc
      refine e_ldi (show am_cd 142 15 = (2, 16, 2, 0, []) by decide +kernel) rfl ?_
      refine e_if2 (show am_cd 142 16 = (10, 19, 35, 2, []) by decide +kernel) (fun hc => ?_) (fun hc => ?_)
      · replace h := h.1 hc
        refine e_ic (show am_cd 142 35 = (0, 36, 0, -1, []) by decide +kernel) ?_
        exact e_reti (show am_cd 142 36 = (36, 37, 0, 0, []) by decide +kernel) (by decide +kernel) h
      · replace h := h.2 hc
        refine e_ldi (show am_cd 142 19 = (2, 20, 2, 0, []) by decide +kernel) rfl ?_
        refine e_lda (v := 1) (show am_cd 142 20 = (2, 21, 0, 2, []) by decide +kernel) rfl ?_
        refine e_getr (a := 1) (r := 15) (show am_cd 142 21 = (18, 24, 1102, 2, [26]) by decide +kernel) (by decide +kernel) (by decide +kernel) rfl ?_
        refine e_getf (a := 15) (tg := 0) (show am_cd 142 24 = (18, 27, 712, 0, [134]) by decide +kernel) (by decide +kernel) (by decide +kernel) rfl ?_
        refine e_cmp3 (show am_cd 142 27 = (11, 30, 35, 3, []) by decide +kernel) (fun hc => ?_) (fun hc => ?_)
        · replace h := h.1 hc
          refine e_ic (show am_cd 142 35 = (0, 36, 0, -1, []) by decide +kernel) ?_
          exact e_reti (show am_cd 142 36 = (36, 37, 0, 0, []) by decide +kernel) (by decide +kernel) h
        · replace h := h.2 hc
          refine e_ldi (show am_cd 142 30 = (2, 31, 1, 0, []) by decide +kernel) rfl ?_
          refine e_ldi (show am_cd 142 31 = (2, 32, 2, 0, []) by decide +kernel) rfl ?_
          refine e_cmp1 (show am_cd 142 32 = (11, 35, 37, 1, []) by decide +kernel) (fun hc => ?_) (fun hc => ?_)
          · replace h := h.1 hc
            refine e_lda (v := 1) (show am_cd 142 37 = (2, 38, 0, 2, []) by decide +kernel) rfl ?_
            refine e_getr (a := 1) (r := 61) (show am_cd 142 38 = (18, 41, 1110, 2, [90]) by decide +kernel) (by decide +kernel) (by decide +kernel) rfl ?_
            refine e_ldi (show am_cd 142 41 = (2, 42, 1, 0, []) by decide +kernel) rfl ?_
            refine e_ldi (show am_cd 142 42 = (2, 43, 2, 0, []) by decide +kernel) rfl ?_
            refine e_cV (z := 0) (a := 61) (as := [(0, a), (0, c)]) (rest := []) (show am_cd 142 43 = (40, 46, 10, 0, [274]) by decide +kernel) (by decide +kernel) rfl rfl (Nat.le_of_ble_eq_true rfl) rfl ?_
            refine Cl.mono (Cl.up (c_few (m := m) (d := d) h.1) (by omega)) ?_
            rintro _ _ ⟨x1, w2, rfl, rfl, hp⟩
            refine ⟨fun _ h9 => (by cases h9), ?_⟩
            replace h := h.2 x1 w2 hp
            show Ev _ 142 _ 46 [rA 1, (0, a), (0, c), (9, 0)] [(0, x1)] _
            refine e_sti (la2 := [rA 1, (0, a), (0, c), (0, x1)]) (show am_cd 142 46 = (3, 47, 3, 0, []) by decide +kernel) rfl ?_
            refine e_ldi (show am_cd 142 47 = (2, 48, 3, 0, []) by decide +kernel) rfl ?_
            refine e_ic (show am_cd 142 48 = (0, 49, 0, -1, []) by decide +kernel) ?_
            refine e_cmp1 (show am_cd 142 49 = (11, 52, 55, 1, []) by decide +kernel) (fun hc => ?_) (fun hc => ?_)
            · replace h := h.1 hc
              refine e_lda (v := 1) (show am_cd 142 55 = (2, 56, 0, 2, []) by decide +kernel) rfl ?_
              refine e_getr (a := 1) (r := 48) (show am_cd 142 56 = (18, 59, 1106, 2, [54]) by decide +kernel) (by decide +kernel) (by decide +kernel) rfl ?_
              refine e_ic (show am_cd 142 59 = (0, 60, 0, 0, []) by decide +kernel) ?_
              refine e_putf (a := 48) (show am_cd 142 60 = (19, 63, 204, 0, [140]) by decide +kernel) (by decide +kernel) (by decide +kernel) rfl (fun h9 => absurd h9 (by decide)) (fun h9 => absurd h9 (by decide +kernel)) ?_
              refine e_lda (v := 1) (show am_cd 142 63 = (2, 64, 0, 2, []) by decide +kernel) rfl ?_
              refine e_getr (a := 1) (r := 48) (show am_cd 142 64 = (18, 67, 1106, 2, [54]) by decide +kernel) (by decide +kernel) (by decide +kernel) rfl ?_
              refine e_lda (v := 1) (show am_cd 142 67 = (2, 68, 0, 2, []) by decide +kernel) rfl ?_
              refine e_getr (a := 1) (r := 61) (show am_cd 142 68 = (18, 71, 1110, 2, [90]) by decide +kernel) (by decide +kernel) (by decide +kernel) rfl ?_
              refine e_getr (a := 61) (r := 63) (show am_cd 142 71 = (18, 74, 103, 2, [277]) by decide +kernel) (by decide +kernel) (by decide +kernel) rfl ?_
              refine e_ldi (show am_cd 142 74 = (2, 75, 3, 0, []) by decide +kernel) rfl ?_
              refine e_cV (z := 0) (a := 48) (as := [rA 63, (0, x1)]) (rest := []) (show am_cd 142 75 = (40, 78, 16, 0, [280]) by decide +kernel) (by decide +kernel) rfl rfl (Nat.le_of_ble_eq_true rfl) rfl ?_
              refine Cl.mono (Cl.up (c_kadd (ks := ks) (ml := ml) (d := d) h.1) (by omega)) ?_
              rintro _ _ ⟨w3, rfl, rfl, hp⟩
              refine ⟨fun _ h9 => (by cases h9), ?_⟩
              replace h := h.2 w3 hp
              show Ev _ 142 _ 78 [rA 1, (0, a), (0, c), (0, x1)] [] _
              refine e_lda (v := 1) (show am_cd 142 78 = (2, 79, 0, 2, []) by decide +kernel) rfl ?_
              refine e_ic (show am_cd 142 79 = (0, 80, 0, 0, []) by decide +kernel) ?_
              refine e_putf (a := 1) (show am_cd 142 80 = (19, 83, 1114, 0, [242]) by decide +kernel) (by decide +kernel) (by decide +kernel) rfl (fun h9 => absurd h9 (by decide)) (fun h9 => absurd h9 (by decide +kernel)) ?_
              refine e_lda (v := 1) (show am_cd 142 83 = (2, 84, 0, 2, []) by decide +kernel) rfl ?_
              refine e_lda (v := 1) (show am_cd 142 84 = (2, 85, 0, 2, []) by decide +kernel) rfl ?_
              refine e_getr (a := 1) (r := 61) (show am_cd 142 85 = (18, 88, 1110, 2, [90]) by decide +kernel) (by decide +kernel) (by decide +kernel) rfl ?_
              refine e_getfE (a := 61) (tg := 0) (v := w3 61 4) (show am_cd 142 88 = (18, 91, 104, 0, [283]) by decide +kernel) (by decide +kernel) (by decide +kernel) rfl rfl ?_
              refine e_i2l (show am_cd 142 91 = (8, 92, 0, 0, []) by decide +kernel) ?_
              refine e_cV (z := 0) (a := 1) (as := [(1, w32 (w3 61 4))]) (rest := []) (show am_cd 142 92 = (40, 95, 137, 0, [245]) by decide +kernel) (by decide +kernel) rfl rfl (Nat.le_of_ble_eq_true rfl) rfl ?_
              refine Cl.mono (Cl.up (c_ctell (d := d) h.1) (by omega)) ?_
              rintro _ _ ⟨rfl, rfl⟩
              refine ⟨fun _ h9 => (by cases h9), ?_⟩
              replace h := h.2
              show Ev _ 142 _ 95 [rA 1, (0, a), (0, c), (0, x1)] [] _
              refine e_ldi (show am_cd 142 95 = (2, 96, 3, 0, []) by decide +kernel) rfl ?_
              exact e_reti (show am_cd 142 96 = (36, 97, 0, 0, []) by decide +kernel) (by decide +kernel) h
            · replace h := h.2 hc
              refine e_ic (show am_cd 142 52 = (0, 54, 1, -2, []) by decide +kernel) ?_
              exact e_reti (show am_cd 142 54 = (36, 55, 0, 0, []) by decide +kernel) (by decide +kernel) h
          · replace h := h.2 hc
            refine e_ic (show am_cd 142 35 = (0, 36, 0, -1, []) by decide +kernel) ?_
            exact e_reti (show am_cd 142 36 = (36, 37, 0, 0, []) by decide +kernel) (by decide +kernel) h

theorem g_ccs {d : Nat} {Q : Option aV → aS → Prop} {w : eW} {t : eT} {m : eW} {ks : kT} {ml : List Nat} (h : Ev (d + 4) 143 Q 9 [rA 1, (0, 0), (0, 0), (9, 0)] [] (enc (wu w 1 14 0) t)) : Cl (d + 4) 143 [rA 1] (enc w t) Q := by
  show Ev (d + 4) 143 Q 0 [rA 1, (9, 0), (9, 0), (9, 0)] [] (enc w t)
  refine e_ic (show am_cd 143 0 = (0, 1, 0, 0, []) by decide +kernel) ?_
  refine e_sti (la2 := [rA 1, (0, 0), (9, 0), (9, 0)]) (show am_cd 143 1 = (3, 2, 1, 0, []) by decide +kernel) rfl ?_
  refine e_lda (v := 1) (show am_cd 143 2 = (2, 3, 0, 2, []) by decide +kernel) rfl ?_
  refine e_ic (show am_cd 143 3 = (0, 4, 0, 0, []) by decide +kernel) ?_
  refine e_putf (a := 1) (show am_cd 143 4 = (19, 7, 1114, 0, [242]) by decide +kernel) (by decide +kernel) (by decide +kernel) rfl (fun h9 => absurd h9 (by decide)) (fun h9 => absurd h9 (by decide +kernel)) ?_
  refine e_ic (show am_cd 143 7 = (0, 8, 0, 0, []) by decide +kernel) ?_
  refine e_sti (la2 := [rA 1, (0, 0), (0, 0), (9, 0)]) (show am_cd 143 8 = (3, 9, 2, 0, []) by decide +kernel) rfl ?_
  exact h

theorem g_ccs1 {d : Nat} {Q : Option aV → aS → Prop} {w : eW} {t : eT} {n a : Int} {m : eW} {ks : kT} {ml : List Nat} {Jn : aV} (h : ((w32 (w 15 12) ≤ w32 a → Q (some (0, n)) (enc w t)) ∧ (¬ (w32 (w 15 12) ≤ w32 a) → Ev (d + 4) 143 Q 24 [rA 1, (0, n), (0, a), (0, a + 1)] [] (enc w t)))) : Ev (d + 4) 143 Q 9 [rA 1, (0, n), (0, a), Jn] [] (enc w t) := by
  refine e_ldi (show am_cd 143 9 = (2, 10, 2, 0, []) by decide +kernel) rfl ?_
  refine e_lda (v := 1) (show am_cd 143 10 = (2, 11, 0, 2, []) by decide +kernel) rfl ?_
  refine e_getr (a := 1) (r := 15) (show am_cd 143 11 = (18, 14, 1102, 2, [26]) by decide +kernel) (by decide +kernel) (by decide +kernel) rfl ?_
  refine e_getf (a := 15) (tg := 0) (show am_cd 143 14 = (18, 17, 712, 0, [134]) by decide +kernel) (by decide +kernel) (by decide +kernel) rfl ?_
  refine e_cmp3 (show am_cd 143 17 = (11, 20, 79, 3, []) by decide +kernel) (fun hc => ?_) (fun hc => ?_)
  · replace h := h.1 hc
    refine e_ldi (show am_cd 143 79 = (2, 80, 1, 0, []) by decide +kernel) rfl ?_
    exact e_reti (show am_cd 143 80 = (36, 81, 0, 0, []) by decide +kernel) (by decide +kernel) h
  · replace h := h.2 hc
    refine e_ldi (show am_cd 143 20 = (2, 21, 2, 0, []) by decide +kernel) rfl ?_
    refine e_ic (show am_cd 143 21 = (0, 22, 0, 1, []) by decide +kernel) ?_
    refine e_iadd (show am_cd 143 22 = (5, 23, 0, 0, []) by decide +kernel) ?_
    refine e_sti (la2 := [rA 1, (0, n), (0, a), (0, a + 1)]) (show am_cd 143 23 = (3, 24, 3, 0, []) by decide +kernel) rfl ?_
    exact h

theorem g_ccs2 {d : Nat} {Q : Option aV → aS → Prop} {w : eW} {t : eT} {n a c : Int} {m : eW} {ks : kT} {ml : List Nat} (h : ((w32 (w 15 12) ≤ w32 c → Ev (d + 4) 143 Q 9 [rA 1, (0, n), (0, a + 1), (0, c)] [] (enc w t)) ∧ (¬ (w32 (w 15 12) ≤ w32 c) → (RC w m ∧ AC w m ∧ WFp m ∧ WFr m ∧ (0 ≤ a ∧ a < (nR m : Int)) ∧ (0 ≤ c ∧ c < (nR m : Int))) ∧ (∀ x1 w2, (fwQ m a.toNat c.toNat w x1 w2) → ((w32 x1 = w32 (-1) → Ev (d + 4) 143 Q 24 [rA 1, (0, n), (0, a), (0, c + 1)] [] (enc w2 t)) ∧ (¬ (w32 x1 = w32 (-1)) → ((¬ w32 n = 0 → Ev (d + 4) 143 Q 24 [rA 1, (0, n + 1), (0, a), (0, c + 1)] [] (enc w2 t)) ∧ (¬ (¬ w32 n = 0) → ((0 : Int) ≤ w2 1 14 ∧ w2 1 14 < 24) ∧ ((0 : Int) ≤ (tlW w2 (w32 a)) 1 14 ∧ (tlW w2 (w32 a)) 1 14 < 24) ∧ (Ev (d + 4) 143 Q 24 [rA 1, (0, n + 1), (0, a), (0, c + 1)] [] (enc (tlW (tlW w2 (w32 a)) (w32 c)) t)))))))))) : Ev (d + 4) 143 Q 24 [rA 1, (0, n), (0, a), (0, c)] [] (enc w t) := by
  refine e_ldi (show am_cd 143 24 = (2, 25, 3, 0, []) by decide +kernel) rfl ?_
  refine e_lda (v := 1) (show am_cd 143 25 = (2, 26, 0, 2, []) by decide +kernel) rfl ?_
  refine e_getr (a := 1) (r := 15) (show am_cd 143 26 = (18, 29, 1102, 2, [26]) by decide +kernel) (by decide +kernel) (by decide +kernel) rfl ?_
  refine e_getf (a := 15) (tg := 0) (show am_cd 143 29 = (18, 32, 712, 0, [134]) by decide +kernel) (by decide +kernel) (by decide +kernel) rfl ?_
  refine e_cmp3 (show am_cd 143 32 = (11, 35, 73, 3, []) by decide +kernel) (fun hc => ?_) (fun hc => ?_)
  · replace h := h.1 hc
    refine e_inc (la2 := [rA 1, (0, n), (0, a + 1), (0, c)]) (show am_cd 143 73 = (4, 76, 2, 1, []) by decide +kernel) rfl rfl ?_
    refine e_go (show am_cd 143 76 = (12, 9, 0, 0, []) by decide +kernel) ?_
    exact h
  · replace h := h.2 hc
    refine e_lda (v := 1) (show am_cd 143 35 = (2, 36, 0, 2, []) by decide +kernel) rfl ?_
    refine e_getr (a := 1) (r := 61) (show am_cd 143 36 = (18, 39, 1110, 2, [90]) by decide +kernel) (by decide +kernel) (by decide +kernel) rfl ?_
    refine e_ldi (show am_cd 143 39 = (2, 40, 2, 0, []) by decide +kernel) rfl ?_
    refine e_ldi (show am_cd 143 40 = (2, 41, 3, 0, []) by decide +kernel) rfl ?_
    refine e_cV (z := 0) (a := 61) (as := [(0, a), (0, c)]) (rest := []) (show am_cd 143 41 = (40, 44, 10, 0, [274]) by decide +kernel) (by decide +kernel) rfl rfl (Nat.le_of_ble_eq_true rfl) rfl ?_
    refine Cl.mono (Cl.up (c_few (m := m) (d := d) h.1) (by omega)) ?_
    rintro _ _ ⟨x1, w2, rfl, rfl, hp⟩
    refine ⟨fun _ h9 => (by cases h9), ?_⟩
    replace h := h.2 x1 w2 hp
    show Ev _ 143 _ 44 [rA 1, (0, n), (0, a), (0, c)] [(0, x1)] _
    refine e_ic (show am_cd 143 44 = (0, 45, 0, -1, []) by decide +kernel) ?_
    refine e_cmp0 (show am_cd 143 45 = (11, 48, 67, 0, []) by decide +kernel) (fun hc => ?_) (fun hc => ?_)
    · replace h := h.1 hc
      refine e_inc (la2 := [rA 1, (0, n), (0, a), (0, c + 1)]) (show am_cd 143 67 = (4, 70, 3, 1, []) by decide +kernel) rfl rfl ?_
      refine e_go (show am_cd 143 70 = (12, 24, 0, 0, []) by decide +kernel) ?_
      exact h
    · replace h := h.2 hc
      refine e_ldi (show am_cd 143 48 = (2, 49, 1, 0, []) by decide +kernel) rfl ?_
      refine e_if1 (show am_cd 143 49 = (10, 52, 64, 1, []) by decide +kernel) (fun hc => ?_) (fun hc => ?_)
      · replace h := h.1 hc
        refine e_inc (la2 := [rA 1, (0, n + 1), (0, a), (0, c)]) (show am_cd 143 64 = (4, 67, 1, 1, []) by decide +kernel) rfl rfl ?_
        refine e_inc (la2 := [rA 1, (0, n + 1), (0, a), (0, c + 1)]) (show am_cd 143 67 = (4, 70, 3, 1, []) by decide +kernel) rfl rfl ?_
        refine e_go (show am_cd 143 70 = (12, 24, 0, 0, []) by decide +kernel) ?_
        exact h
      · replace h := h.2 hc
        refine e_lda (v := 1) (show am_cd 143 52 = (2, 53, 0, 2, []) by decide +kernel) rfl ?_
        refine e_ldi (show am_cd 143 53 = (2, 54, 2, 0, []) by decide +kernel) rfl ?_
        refine e_i2l (show am_cd 143 54 = (8, 55, 0, 0, []) by decide +kernel) ?_
        refine e_cV (z := 0) (a := 1) (as := [(1, w32 a)]) (rest := []) (show am_cd 143 55 = (40, 58, 137, 0, [245]) by decide +kernel) (by decide +kernel) rfl rfl (Nat.le_of_ble_eq_true rfl) rfl ?_
        refine Cl.mono (Cl.up (c_ctell (d := d) h.1) (by omega)) ?_
        rintro _ _ ⟨rfl, rfl⟩
        refine ⟨fun _ h9 => (by cases h9), ?_⟩
        replace h := h.2
        show Ev _ 143 _ 58 [rA 1, (0, n), (0, a), (0, c)] [] _
        refine e_lda (v := 1) (show am_cd 143 58 = (2, 59, 0, 2, []) by decide +kernel) rfl ?_
        refine e_ldi (show am_cd 143 59 = (2, 60, 3, 0, []) by decide +kernel) rfl ?_
        refine e_i2l (show am_cd 143 60 = (8, 61, 0, 0, []) by decide +kernel) ?_
        refine e_cV (z := 0) (a := 1) (as := [(1, w32 c)]) (rest := []) (show am_cd 143 61 = (40, 64, 137, 0, [245]) by decide +kernel) (by decide +kernel) rfl rfl (Nat.le_of_ble_eq_true rfl) rfl ?_
        refine Cl.mono (Cl.up (c_ctell (d := d) h.1) (by omega)) ?_
        rintro _ _ ⟨rfl, rfl⟩
        refine ⟨fun _ h9 => (by cases h9), ?_⟩
        replace h := h.2
        show Ev _ 143 _ 64 [rA 1, (0, n), (0, a), (0, c)] [] _
        refine e_inc (la2 := [rA 1, (0, n + 1), (0, a), (0, c)]) (show am_cd 143 64 = (4, 67, 1, 1, []) by decide +kernel) rfl rfl ?_
        refine e_inc (la2 := [rA 1, (0, n + 1), (0, a), (0, c + 1)]) (show am_cd 143 67 = (4, 70, 3, 1, []) by decide +kernel) rfl rfl ?_
        refine e_go (show am_cd 143 70 = (12, 24, 0, 0, []) by decide +kernel) ?_
        exact h

