/-! The model: the call finds. -/
def findsL (tx : List Int) (m : eW) (l : List Int) : fT := fl m (ltF l) l.length 1 0 0 0 0 16 16 16
def findsV (tx : List Int) (m : eW) : Int := match lsR tx 6 with
  | .error e => -21 - (e : Int)
  | .ok l => ((findsL tx m l).length : Int)
def findsK (tx : List Int) (m : eW) (ks : kT) : kT := match lsR tx 6 with
  | .error _ => ks
  | .ok l => (findsL tx m l).take 20
theorem adF_0 (L : fT) : (adF ([], [], []) L).1 = L.take 20 := by
  unfold adF
  simp
theorem MI.mk2 {R F : List Nat} {w w2 m : eW} {ks ks2 : kT} {rl : List Int} (h : MI w m ks rl []) (hf : Fm R F w w2) (hk : KM w2 ks2) (hR : ∀ a ∈ R, (a < 68 ∨ 80 < a) ∧ a ≠ 86 ∧ a ≠ 67) (hF : ∀ k ∈ F, k ≠ 0 ∧ k ≠ 3 ∧ k ≠ 6 ∧ k ≠ 12 ∧ k ≠ 23 ∧ k ≠ 25 ∧ k ≠ 35) : MI w2 m ks2 rl [] := by
  obtain ⟨a1, a2, a3, a4, a5, a6, a7⟩ := h
  exact ⟨a1.m hf (fun a ha => (hR a ha).1) (fun k hk => ⟨(hF k hk).1, (hF k hk).2.2.1, (hF k hk).2.2.2.1⟩), a2, a3.m hf ⟨fun h9 => by have := hR _ h9; omega, fun h9 => by have := hR _ h9; omega⟩ (fun h9 => by have := hF _ h9; omega), hk, a5.m hf (fun h9 => by have := hR _ h9; omega) (fun h9 => by have := hF _ h9; omega), TxM.nil (by rw [hf.2 23 (fun h9 => by have := hF _ h9; omega)]; exact a6.1), by rw [hf.2 35 (fun h9 => by have := hF _ h9; omega)]; exact a7⟩

theorem g_mfinds0 {d : Nat} {Q : Option aV → aS → Prop} {w : eW} {t : eT} {tx : List Int} (h : (Px (wu (wu (wu (wu (wu w 67 26 0) 67 27 (w 67 23)) 67 23 0) 67 28 0) 67 29 (-1)) tx ∧ ((1 : Int) ≤ 6 ∧ (6 : Int) ≤ 6) ∧ (91 = 90 ∨ 91 = 91)) ∧ (∀ x1 w2, (RlQ tx 91 6 (wu (wu (wu (wu (wu w 67 26 0) 67 27 (w 67 23)) 67 23 0) 67 28 0) 67 29 (-1)) (bnd (stW (wu (wu (wu (wu (wu w 67 26 0) 67 27 (w 67 23)) 67 23 0) 67 28 0) 67 29 (-1))) (rdLs tx 6)) x1 w2) → ((¬ w32 (w2 67 29) = w32 (-1) → Ev (d + 106) 249 Q 32 [rA 67, (0, x1), (9, 0), (9, 0)] [] (enc w2 t)) ∧ (¬ (¬ w32 (w2 67 29) = w32 (-1)) → (Px w2 tx) ∧ (∀ w3, (Px w3 tx ∧ Fm [] [28, 29] w2 w3 ∧ stW w3 = enS tx (stW w2)) → Ev (d + 106) 249 Q 32 [rA 67, (0, x1), (9, 0), (9, 0)] [] (enc w3 t)))))) : Cl (d + 106) 249 [rA 67] (enc w t) Q := by
  show Ev (d + 106) 249 Q 0 [rA 67, (9, 0), (9, 0), (9, 0)] [] (enc w t)
  refine e_lda (v := 67) (show am_cd 249 0 = (2, 1, 0, 2, []) by decide +kernel) rfl ?_
  refine e_ic (show am_cd 249 1 = (0, 2, 0, 0, []) by decide +kernel) ?_
  refine e_putf (a := 67) (show am_cd 249 2 = (19, 5, 1226, 0, [113]) by decide +kernel) (by decide +kernel) (by decide +kernel) rfl (fun h9 => absurd h9 (by decide)) (fun h9 => absurd h9 (by decide +kernel)) ?_
  refine e_lda (v := 67) (show am_cd 249 5 = (2, 6, 0, 2, []) by decide +kernel) rfl ?_
  refine e_cV (z := 0) (a := 67) (as := []) (rest := []) (show am_cd 249 6 = (40, 9, 170, 0, [171]) by decide +kernel) (by decide +kernel) rfl rfl (Nat.le_of_ble_eq_true rfl) rfl ?_
  show Ev _ 170 _ 0 [rA 67] [] _
  refine e_lda (v := 67) (show am_cd 170 0 = (2, 1, 0, 2, []) by decide +kernel) rfl ?_
  refine e_lda (v := 67) (show am_cd 170 1 = (2, 2, 0, 2, []) by decide +kernel) rfl ?_
  refine e_getfE (a := 67) (tg := 0) (v := w 67 23) (show am_cd 170 2 = (18, 5, 1223, 0, [119]) by decide +kernel) (by decide +kernel) (by decide +kernel) rfl rfl ?_
  refine e_putf (a := 67) (show am_cd 170 5 = (19, 8, 1227, 0, [126]) by decide +kernel) (by decide +kernel) (by decide +kernel) rfl (fun h9 => absurd h9 (by decide)) (fun h9 => absurd h9 (by decide +kernel)) ?_
  refine e_lda (v := 67) (show am_cd 170 8 = (2, 9, 0, 2, []) by decide +kernel) rfl ?_
  refine e_ic (show am_cd 170 9 = (0, 10, 0, 0, []) by decide +kernel) ?_
  refine e_putf (a := 67) (show am_cd 170 10 = (19, 13, 1223, 0, [119]) by decide +kernel) (by decide +kernel) (by decide +kernel) rfl (fun h9 => absurd h9 (by decide)) (fun h9 => absurd h9 (by decide +kernel)) ?_
  refine e_lda (v := 67) (show am_cd 170 13 = (2, 14, 0, 2, []) by decide +kernel) rfl ?_
  refine e_ic (show am_cd 170 14 = (0, 15, 0, 0, []) by decide +kernel) ?_
  refine e_putf (a := 67) (show am_cd 170 15 = (19, 18, 1228, 0, [129]) by decide +kernel) (by decide +kernel) (by decide +kernel) rfl (fun h9 => absurd h9 (by decide)) (fun h9 => absurd h9 (by decide +kernel)) ?_
  refine e_lda (v := 67) (show am_cd 170 18 = (2, 19, 0, 2, []) by decide +kernel) rfl ?_
  refine e_ic (show am_cd 170 19 = (0, 20, 0, -1, []) by decide +kernel) ?_
  refine e_putf (a := 67) (show am_cd 170 20 = (19, 23, 1229, 0, [132]) by decide +kernel) (by decide +kernel) (by decide +kernel) rfl (fun h9 => absurd h9 (by decide)) (fun h9 => absurd h9 (by decide +kernel)) ?_
  refine e_retv (show am_cd 170 23 = (36, 24, 3, 0, []) by decide +kernel) (by decide +kernel) ⟨fun _ h9 => (by cases h9), ?_⟩
  show Ev _ 249 _ 9 [rA 67, (9, 0), (9, 0), (9, 0)] [] _
  refine e_lda (v := 67) (show am_cd 249 9 = (2, 10, 0, 2, []) by decide +kernel) rfl ?_
  refine e_lda (v := 67) (show am_cd 249 10 = (2, 11, 0, 2, []) by decide +kernel) rfl ?_
  refine e_getr (a := 67) (r := 91) (show am_cd 249 11 = (18, 14, 1234, 2, [81]) by decide +kernel) (by decide +kernel) (by decide +kernel) rfl ?_
  refine e_ic (show am_cd 249 14 = (0, 16, 1, 6, []) by decide +kernel) ?_
  refine e_cV (z := 0) (a := 67) (as := [rA 91, (0, 6)]) (rest := []) (show am_cd 249 16 = (40, 19, 193, 0, [222]) by decide +kernel) (by decide +kernel) rfl rfl (Nat.le_of_ble_eq_true rfl) rfl ?_
  refine Cl.mono (Cl.up (c_readLetters (d := d) h.1) (by omega)) ?_
  rintro _ _ ⟨x1, w2, rfl, rfl, hp⟩
  refine ⟨fun _ h9 => (by cases h9), ?_⟩
  replace h := h.2 x1 w2 hp
  show Ev _ 249 _ 19 [rA 67, (9, 0), (9, 0), (9, 0)] [(0, x1)] _
  refine e_sti (la2 := [rA 67, (0, x1), (9, 0), (9, 0)]) (show am_cd 249 19 = (3, 20, 1, 0, []) by decide +kernel) rfl ?_
  refine e_lda (v := 67) (show am_cd 249 20 = (2, 21, 0, 2, []) by decide +kernel) rfl ?_
  refine e_getf (a := 67) (tg := 0) (show am_cd 249 21 = (18, 24, 1229, 0, [132]) by decide +kernel) (by decide +kernel) (by decide +kernel) rfl ?_
  refine e_ic (show am_cd 249 24 = (0, 25, 0, -1, []) by decide +kernel) ?_
  refine e_cmp1 (show am_cd 249 25 = (11, 28, 32, 1, []) by decide +kernel) (fun hc => ?_) (fun hc => ?_)
  · replace h := h.1 hc
    exact h
  · replace h := h.2 hc
    refine e_lda (v := 67) (show am_cd 249 28 = (2, 29, 0, 2, []) by decide +kernel) rfl ?_
    refine e_cV (z := 0) (a := 67) (as := []) (rest := []) (show am_cd 249 29 = (40, 32, 176, 0, [165]) by decide +kernel) (by decide +kernel) rfl rfl (Nat.le_of_ble_eq_true rfl) rfl ?_
    refine Cl.mono (Cl.up (c_ends (d := d) h.1) (by omega)) ?_
    rintro _ _ ⟨w3, rfl, rfl, hp⟩
    refine ⟨fun _ h9 => (by cases h9), ?_⟩
    replace h := h.2 w3 hp
    show Ev _ 249 _ 32 [rA 67, (0, x1), (9, 0), (9, 0)] [] _
    exact h

theorem g_mfinds1 {d : Nat} {Q : Option aV → aS → Prop} {w : eW} {t : eT} {n : Int} {m : eW} {ll : Nat → Int} {nl : Nat} (h : ((w32 (w 67 29) = w32 (-1) → ∀ w1, (FrT (wu w 67 48 n) w1 ∧ w1 67 38 = 0 ∧ DV w1 (fun _ => none)) → (FNR m ll nl 19 0 0 0 16 16 16 w1 t) ∧ (∀ x2 w3 t4, (FNO m ll nl 0 0 0 16 16 16 w1 t x2 w3 t4) → ((w64 x2 ≤ w64 0 → Q (some (1, x2)) (enc (wu (wu (wu w3 67 17 0) 67 40 0) 67 42 0) t4)) ∧ (¬ (w64 x2 ≤ w64 0) → (CER m ll nl 19 ([], [], []) 0 0 0 16 16 16 (wu (wu (wu w3 67 17 0) 67 40 0) 67 42 0) t4) ∧ (∀ w5 t6, (CEO m ll nl ([], [], []) 0 0 0 16 16 16 (wu (wu (wu w3 67 17 0) 67 40 0) 67 42 0) t4 w5 t6) → Q (some (1, x2)) (enc w5 t6)))))) ∧ (¬ (w32 (w 67 29) = w32 (-1)) → Q (some (1, w32 ((-21) - (w 67 29)))) (enc w t)))) : Ev (d + 106) 249 Q 32 [rA 67, (0, n), (9, 0), (9, 0)] [] (enc w t) := by
  refine e_lda (v := 67) (show am_cd 249 32 = (2, 33, 0, 2, []) by decide +kernel) rfl ?_
  refine e_getf (a := 67) (tg := 0) (show am_cd 249 33 = (18, 36, 1229, 0, [132]) by decide +kernel) (by decide +kernel) (by decide +kernel) rfl ?_
  refine e_ic (show am_cd 249 36 = (0, 37, 0, -1, []) by decide +kernel) ?_
  refine e_cmp0 (show am_cd 249 37 = (11, 40, 46, 0, []) by decide +kernel) (fun hc => ?_) (fun hc => ?_)
  · replace h := h.1 hc
    refine e_lda (v := 67) (show am_cd 249 46 = (2, 47, 0, 2, []) by decide +kernel) rfl ?_
    refine e_ldi (show am_cd 249 47 = (2, 48, 1, 0, []) by decide +kernel) rfl ?_
    refine e_putf (a := 67) (show am_cd 249 48 = (19, 51, 1248, 0, [348]) by decide +kernel) (by decide +kernel) (by decide +kernel) rfl (fun h9 => absurd h9 (by decide)) (fun h9 => absurd h9 (by decide +kernel)) ?_
    refine e_lda (v := 67) (show am_cd 249 51 = (2, 52, 0, 2, []) by decide +kernel) rfl ?_
    refine e_cV (z := 0) (a := 67) (as := []) (rest := []) (show am_cd 249 52 = (40, 55, 208, 0, [311]) by decide +kernel) (by decide +kernel) rfl rfl (Nat.le_of_ble_eq_true rfl) rfl ?_
    refine Cl.mono (Cl.up (c_forget (d := d)) (by omega)) ?_
    rintro _ _ ⟨w1, rfl, rfl, hp⟩
    refine ⟨fun _ h9 => (by cases h9), ?_⟩
    replace h := h w1 hp
    show Ev _ 249 _ 55 [rA 67, (0, n), (9, 0), (9, 0)] [] _
    refine e_lda (v := 67) (show am_cd 249 55 = (2, 56, 0, 2, []) by decide +kernel) rfl ?_
    refine e_ic (show am_cd 249 56 = (0, 57, 0, 0, []) by decide +kernel) ?_
    refine e_ic (show am_cd 249 57 = (0, 58, 0, 0, []) by decide +kernel) ?_
    refine e_ic (show am_cd 249 58 = (0, 59, 0, 0, []) by decide +kernel) ?_
    refine e_ic (show am_cd 249 59 = (0, 61, 1, 16, []) by decide +kernel) ?_
    refine e_ic (show am_cd 249 61 = (0, 63, 1, 16, []) by decide +kernel) ?_
    refine e_ic (show am_cd 249 63 = (0, 65, 1, 16, []) by decide +kernel) ?_
    refine e_cV (z := 0) (a := 67) (as := [(0, 0), (0, 0), (0, 0), (0, 16), (0, 16), (0, 16)]) (rest := []) (show am_cd 249 65 = (40, 68, 245, 0, [400]) by decide +kernel) (by decide +kernel) rfl rfl (Nat.le_of_ble_eq_true rfl) rfl ?_
    refine Cl.mono (Cl.up (c_nextB (d := d) _ _ _ _ _ _ _ _ h.1) (by omega)) ?_
    rintro _ _ ⟨x2, w3, t4, rfl, rfl, hp⟩
    refine ⟨fun _ h9 => (by cases h9), ?_⟩
    replace h := h.2 x2 w3 t4 hp
    show Ev _ 249 _ 68 [rA 67, (0, n), (9, 0), (9, 0)] [(1, x2)] _
    refine e_stl (la2 := [rA 67, (0, n), (1, x2), (9, 0)]) (show am_cd 249 68 = (3, 69, 2, 1, []) by decide +kernel) rfl ?_
    refine e_lda (v := 67) (show am_cd 249 69 = (2, 70, 0, 2, []) by decide +kernel) rfl ?_
    refine e_ic (show am_cd 249 70 = (0, 71, 0, 0, []) by decide +kernel) ?_
    refine e_putf (a := 67) (show am_cd 249 71 = (19, 74, 1217, 0, [189]) by decide +kernel) (by decide +kernel) (by decide +kernel) rfl (fun h9 => absurd h9 (by decide)) (fun h9 => absurd h9 (by decide +kernel)) ?_
    refine e_lda (v := 67) (show am_cd 249 74 = (2, 75, 0, 2, []) by decide +kernel) rfl ?_
    refine e_ic (show am_cd 249 75 = (0, 76, 0, 0, []) by decide +kernel) ?_
    refine e_putf (a := 67) (show am_cd 249 76 = (19, 79, 1240, 0, [272]) by decide +kernel) (by decide +kernel) (by decide +kernel) rfl (fun h9 => absurd h9 (by decide)) (fun h9 => absurd h9 (by decide +kernel)) ?_
    refine e_lda (v := 67) (show am_cd 249 79 = (2, 80, 0, 2, []) by decide +kernel) rfl ?_
    refine e_ic (show am_cd 249 80 = (0, 81, 0, 0, []) by decide +kernel) ?_
    refine e_putf (a := 67) (show am_cd 249 81 = (19, 84, 1242, 0, [275]) by decide +kernel) (by decide +kernel) (by decide +kernel) rfl (fun h9 => absurd h9 (by decide)) (fun h9 => absurd h9 (by decide +kernel)) ?_
    refine e_ldl (show am_cd 249 84 = (2, 85, 2, 1, []) by decide +kernel) rfl ?_
    refine e_lc (show am_cd 249 85 = (1, 86, 0, 0, []) by decide +kernel) ?_
    refine e_lcb5 (show am_cd 249 86 = (9, 87, 0, 0, []) by decide +kernel) (show am_cd 249 87 = (10, 90, 103, 5, []) by decide +kernel) (fun hc => ?_) (fun hc => ?_)
    · replace h := h.1 hc
      refine e_ldl (show am_cd 249 103 = (2, 104, 2, 1, []) by decide +kernel) rfl ?_
      exact e_retl (show am_cd 249 104 = (36, 105, 1, 0, []) by decide +kernel) (by decide +kernel) h
    · replace h := h.2 hc
      refine e_lda (v := 67) (show am_cd 249 90 = (2, 91, 0, 2, []) by decide +kernel) rfl ?_
      refine e_ic (show am_cd 249 91 = (0, 92, 0, 0, []) by decide +kernel) ?_
      refine e_ic (show am_cd 249 92 = (0, 93, 0, 0, []) by decide +kernel) ?_
      refine e_ic (show am_cd 249 93 = (0, 94, 0, 0, []) by decide +kernel) ?_
      refine e_ic (show am_cd 249 94 = (0, 96, 1, 16, []) by decide +kernel) ?_
      refine e_ic (show am_cd 249 96 = (0, 98, 1, 16, []) by decide +kernel) ?_
      refine e_ic (show am_cd 249 98 = (0, 100, 1, 16, []) by decide +kernel) ?_
      refine e_cV (z := 0) (a := 67) (as := [(0, 0), (0, 0), (0, 0), (0, 16), (0, 16), (0, 16)]) (rest := []) (show am_cd 249 100 = (40, 103, 248, 0, [411]) by decide +kernel) (by decide +kernel) rfl rfl (Nat.le_of_ble_eq_true rfl) rfl ?_
      refine Cl.mono (Cl.up (c_colEntB (d := d) ([], [], []) _ _ _ _ _ _ _ _ h.1) (by omega)) ?_
      rintro _ _ ⟨w5, t6, rfl, rfl, hp⟩
      refine ⟨fun _ h9 => (by cases h9), ?_⟩
      replace h := h.2 w5 t6 hp
      show Ev _ 249 _ 103 [rA 67, (0, n), (1, x2), (9, 0)] [] _
      refine e_ldl (show am_cd 249 103 = (2, 104, 2, 1, []) by decide +kernel) rfl ?_
      exact e_retl (show am_cd 249 104 = (36, 105, 1, 0, []) by decide +kernel) (by decide +kernel) h
  · replace h := h.2 hc
    refine e_lda (v := 67) (show am_cd 249 40 = (2, 41, 0, 2, []) by decide +kernel) rfl ?_
    refine e_cV (z := 0) (a := 67) (as := []) (rest := []) (show am_cd 249 41 = (40, 44, 173, 0, [177]) by decide +kernel) (by decide +kernel) rfl rfl (Nat.le_of_ble_eq_true rfl) rfl ?_
    show Ev _ 173 _ 0 [rA 67] [] _
    refine e_ic (show am_cd 173 0 = (0, 2, 1, -21, []) by decide +kernel) ?_
    refine e_lda (v := 67) (show am_cd 173 2 = (2, 3, 0, 2, []) by decide +kernel) rfl ?_
    refine e_getf (a := 67) (tg := 0) (show am_cd 173 3 = (18, 6, 1229, 0, [132]) by decide +kernel) (by decide +kernel) (by decide +kernel) rfl ?_
    refine e_isub (show am_cd 173 6 = (5, 7, 1, 0, []) by decide +kernel) ?_
    refine e_reti (show am_cd 173 7 = (36, 8, 0, 0, []) by decide +kernel) (by decide +kernel) ⟨fun _ h9 => (by cases h9), ?_⟩
    show Ev _ 249 _ 44 [rA 67, (0, n), (9, 0), (9, 0)] [(0, (-21) - (w 67 29))] _
    refine e_i2l (show am_cd 249 44 = (8, 45, 0, 0, []) by decide +kernel) ?_
    exact e_retl (show am_cd 249 45 = (36, 46, 1, 0, []) by decide +kernel) (by decide +kernel) h

theorem c_mfinds {d : Nat} {m w : eW} {t : eT} {ks : kT} {rl tx : List Int} (h : MI w m ks rl tx) : Cl (d + 106) 249 [rA 67] (enc w t) (fun r S2 => ∃ w2, r = some (1, findsV tx m) ∧ S2 = enc w2 t ∧ Fm [81, 82, 83, 84, 91, 92, 93, 94, 95] [17, 23, 26, 27, 28, 29, 38, 40, 42, 48] w w2 ∧ MI w2 m (findsK tx m ks) rl [] ∧ w2 67 26 = 0) := by
  have hT := h.2.2.2.2.2.1
  obtain ⟨b1, b2, b3, b4, b5, b6⟩ := bgW_s hT
  refine g_mfinds0 (tx := tx) ⟨⟨b1, ⟨by decide, by decide⟩, by decide⟩, fun x1 w2 hw2 => front (A := 91) (E := fun w3 => Ev (d + 106) 249 _ 32 [rA 67, (0, x1), (9, 0), (9, 0)] [] (enc w3 t)) hT (by decide) hw2 (fun w3 hF => ?_)⟩
  obtain ⟨hI, hF⟩ := hF
  have mi := hI.mi h (by decide)
  have hb := hI.1.b
  have fr : Fm [81, 82, 83, 84, 91, 92, 93, 94, 95] [17, 23, 26, 27, 28, 29, 38, 40, 42, 48] w w3 := hI.2.1.mo (by decide) (by decide)
  cases hs : stW w3 with
  | error q =>
    rw [hs] at hF
    have hF : lsR tx 6 = .error q := hF
    have := stW_er hI.1 hs
    refine g_mfinds1 (m := m) (ll := fun _ => 0) (nl := 0) ?_
    rw [show w32 (w3 67 29) = w3 67 29 from w32_id (by omega), show w32 (-1) = -1 from w32_id (by omega), show w32 (-21 - w3 67 29) = -21 - w3 67 29 from w32_id (by omega)]
    refine ⟨fun h9 => (by omega), fun _ => ⟨w3, ?_, rfl, fr, ?_, hI.2.2.2⟩⟩
    · unfold findsV
      rw [hF, this.1]
    · unfold findsK
      rw [hF]
      exact mi
  | ok p =>
    rw [hs] at hF
    obtain ⟨l, r1, r2, r3, r4, r5⟩ := hF
    subst r2
    have e29 := (stW_ok hs).1
    have f : Fm [] [48] w3 (wu w3 67 48 (l.length : Int)) := Fm.pf (by decide)
    have lo : LoM (wu w3 67 48 (l.length : Int)) (ltF l) l.length := loM_of (r3.m f (by decide) (by decide)) r4.2 r5 (wu_eq ..)
    refine g_mfinds1 (m := m) (ll := ltF l) (nl := l.length) ?_
    rw [show w32 (w3 67 29) = w3 67 29 from w32_id (by omega), show w32 (-1) = -1 from w32_id (by omega)]
    refine ⟨fun _ w1 hw1 => ?_, fun h9 => absurd e29 h9⟩
    obtain ⟨f1, f2, f3⟩ := hw1
    have g1 : Fm [92, 93] [38, 48] w3 w1 := (f.mo (fun a ha => by cases ha) (by decide)).tr (f1.m.mo (fun a ha => ha) (by decide))
    have cx1 : FCx m (ltF l) l.length w1 := ⟨mi.1.m g1 (by decide) (by decide), by rw [g1.2 35 (by decide)]; exact mi.2.2.2.2.2.2, lo.m f1.m (by decide) (by decide)⟩
    have hmF : mF m l.length 1 0 0 (0 : Int).toNat (0 : Int).toNat < 19 := by
      unfold mF
      rw [if_neg (by decide)]
      show 0 + 2 * (6 - 0) + (l.length - 0) < 19
      omega
    have gA : gABC m 16 16 16 := ⟨gE16, gE16, ⟨by decide, Or.inr rfl⟩⟩
    refine ⟨⟨cx1, KnW.nil f3, by decide, by decide, ⟨by decide, by omega⟩, gA, hmF⟩, fun x2 w4 t4 hp => ?_⟩
    obtain ⟨e1, e2, e3, e4⟩ := hp
    subst e2
    have e1 : x2 = ((findsL tx m l).length : Int) := e1
    have hlt : (findsL tx m l).length ≤ 1000000000000000 := fl_lt mi.1.1.1 mi.1.2.1 r4.2 (by decide) ⟨Nat.zero_le _, by decide, fun h9 => (by cases h9)⟩ (fun h9 => by cases h9)
    subst e1
    have q : Fm [92, 93] [17, 38, 40, 42, 48] w4 (wu (wu (wu w4 67 17 0) 67 40 0) 67 42 0) := ((Fm.pf (by decide)).tr (Fm.pf (by decide))).tr (Fm.pf (by decide))
    have q17 : (wu (wu (wu w4 67 17 0) 67 40 0) 67 42 0) 67 17 = 0 := by rw [wu_nk _ _ (by decide), wu_nk _ _ (by decide), wu_eq]
    have q40 : (wu (wu (wu w4 67 17 0) 67 40 0) 67 42 0) 67 40 = 0 := by rw [wu_nk _ _ (by decide), wu_eq]
    have q42 : (wu (wu (wu w4 67 17 0) 67 40 0) 67 42 0) 67 42 = 0 := by rw [wu_eq]
    have q92 : (wu (wu (wu w4 67 17 0) 67 40 0) 67 42 0) 92 = w4 92 := by rw [wu_row (by decide), wu_row (by decide), wu_row (by decide)]
    have q93 : (wu (wu (wu w4 67 17 0) 67 40 0) 67 42 0) 93 = w4 93 := by rw [wu_row (by decide), wu_row (by decide), wu_row (by decide)]
    have q38 : (wu (wu (wu w4 67 17 0) 67 40 0) 67 42 0) 67 38 = w4 67 38 := by rw [wu_nk _ _ (by decide), wu_nk _ _ (by decide), wu_nk _ _ (by decide)]
    have q48 : (wu (wu (wu w4 67 17 0) 67 40 0) 67 42 0) 67 48 = w4 67 48 := by rw [wu_nk _ _ (by decide), wu_nk _ _ (by decide), wu_nk _ _ (by decide)]
    have q91 : (wu (wu (wu w4 67 17 0) 67 40 0) 67 42 0) 91 = w4 91 := by rw [wu_row (by decide), wu_row (by decide), wu_row (by decide)]
    generalize wu (wu (wu w4 67 17 0) 67 40 0) 67 42 0 = w6 at q q17 q40 q42 q92 q93 q38 q48 q91 ⊢
    have g6 : Fm [92, 93] [17, 38, 40, 42, 48] w3 w6 := ((g1.mo (by decide) (by decide)).tr (e3.m.mo (by decide) (by decide))).tr q
    have lo4 := (lo.m f1.m (by decide) (by decide)).m e3.m (by decide) (by decide)
    have lo6 : LoM w6 (ltF l) l.length := ⟨by rw [q48]; exact lo4.1, lo4.2.1, by rw [q91]; exact lo4.2.2⟩
    simp (disch := omega) only [w64_id]
    refine ⟨fun h2 => ⟨w6, ?_, rfl, fr.tr (g6.mo (by decide) (by decide)), ?_, ?_⟩, fun h2 => ⟨⟨⟨⟨mi.1.m g6 (by decide) (by decide), by rw [g6.2 35 (by decide)]; exact mi.2.2.2.2.2.2, lo6⟩, e4.fr q92 q93 q38, by decide, by decide, ⟨by decide, by omega⟩, gA, hmF⟩, ⟨KM.nil q17, MdM.nil q40, ⟨q42, by decide, fun k hk => by cases hk⟩⟩, ?_, by decide⟩, fun w5 t6 hp => ?_⟩⟩
    · unfold findsV
      rw [r1]
    · unfold findsK
      rw [r1]
      have : findsL tx m l = [] := List.eq_nil_of_length_eq_zero (by omega)
      dsimp only
      rw [this]
      exact mi.mk2 g6 (KM.nil q17) (by decide) (by decide)
    · rw [g6.2 26 (by decide)]
      exact hI.2.2.2
    · show 0 + ((6 - 0) + (l.length - 0)) ≤ 13
      omega
    · obtain ⟨z1, z2, z3, z4⟩ := hp
      subst z1
      have g5 : Fm [81, 82, 83, 84, 92, 93, 94, 95] [17, 38, 40, 42, 48] w3 w5 := (g6.mo (by decide) (by decide)).tr (z2.m.mo (by decide) (by decide))
      refine ⟨w5, ?_, rfl, fr.tr (g5.mo (by decide) (by decide)), ?_, ?_⟩
      · unfold findsV
        rw [r1]
      · unfold findsK
        rw [r1]
        have z5 := z4.1
        rw [adF_0] at z5
        exact mi.mk2 g5 z5 (by decide) (by decide)
      · rw [g5.2 26 (by decide)]
        exact hI.2.2.2

