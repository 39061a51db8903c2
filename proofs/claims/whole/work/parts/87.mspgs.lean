/-! The model: the call spellings. -/
def splL (tx : List Int) (m : eW) (l : List Int) : List Int := ((lw m 2 (ltF l) l.length 0 16 16 16).map (cdF m 0)).foldl insC []
def spellingsV (tx : List Int) (m : eW) : Int := match lsR tx 6 with
  | .error e => -21 - (e : Int)
  | .ok l => ((splL tx m l).length : Int)
theorem c_allWays2 {d : Nat} {m w : eW} {t : eT} {n : Nat} {lt : Nat → Int} (h : MG w m ∧ w 67 35 = -1 ∧ UpM w lt n) : Cl (d + 20) 234 [rA 67, (0, 2)] (enc w t) (fun r S2 => ∃ w2, r = some (1, (cw m 2 lt n 0 16 16 16 : Int)) ∧ S2 = enc w2 t ∧ Fm [92, 93] [38, 49] w w2 ∧ TkM w2 2 lt n ∧ KnW (PmW m 2 lt n) w2) := c_allWays (q := 2) ⟨h.1, h.2.1, by decide, fun h9 => (by cases h9), fun _ => h.2.2⟩

theorem g_mspgs0 {d : Nat} {Q : Option aV → aS → Prop} {w : eW} {t : eT} {tx : List Int} (h : (Px (wu (wu (wu (wu (wu w 67 26 0) 67 27 (w 67 23)) 67 23 0) 67 28 0) 67 29 (-1)) tx ∧ ((1 : Int) ≤ 6 ∧ (6 : Int) ≤ 6) ∧ (90 = 90 ∨ 90 = 91)) ∧ (∀ x1 w2, (RlQ tx 90 6 (wu (wu (wu (wu (wu w 67 26 0) 67 27 (w 67 23)) 67 23 0) 67 28 0) 67 29 (-1)) (bnd (stW (wu (wu (wu (wu (wu w 67 26 0) 67 27 (w 67 23)) 67 23 0) 67 28 0) 67 29 (-1))) (rdLs tx 6)) x1 w2) → ((¬ w32 (w2 67 29) = w32 (-1) → Ev (d + 36) 240 Q 32 [rA 67, (0, x1)] [] (enc w2 t)) ∧ (¬ (¬ w32 (w2 67 29) = w32 (-1)) → (Px w2 tx) ∧ (∀ w3, (Px w3 tx ∧ Fm [] [28, 29] w2 w3 ∧ stW w3 = enS tx (stW w2)) → Ev (d + 36) 240 Q 32 [rA 67, (0, x1)] [] (enc w3 t)))))) : Cl (d + 36) 240 [rA 67] (enc w t) Q := by
  show Ev (d + 36) 240 Q 0 [rA 67, (9, 0)] [] (enc w t)
  refine e_lda (v := 67) (show am_cd 240 0 = (2, 1, 0, 2, []) by decide +kernel) rfl ?_
  refine e_ic (show am_cd 240 1 = (0, 2, 0, 0, []) by decide +kernel) ?_
  refine e_putf (a := 67) (show am_cd 240 2 = (19, 5, 1226, 0, [113]) by decide +kernel) (by decide +kernel) (by decide +kernel) rfl (fun h9 => absurd h9 (by decide)) (fun h9 => absurd h9 (by decide +kernel)) ?_
  refine e_lda (v := 67) (show am_cd 240 5 = (2, 6, 0, 2, []) by decide +kernel) rfl ?_
  refine e_cV (z := 0) (a := 67) (as := []) (rest := []) (show am_cd 240 6 = (40, 9, 170, 0, [171]) by decide +kernel) (by decide +kernel) rfl rfl (Nat.le_of_ble_eq_true rfl) rfl ?_
  show Ev _ 170 _ 0 [rA 67] [] _
  refine e_lda (v := 67) (show am_cd 170 0 = (2, 1, 0, 2, []) by decide +kernel) rfl ?_
  refine e_lda (v := 67) (show am_cd 170 1 = (2, 2, 0, 2, []) by decide +kernel) rfl ?_
  refine e_getfE (a := 67) (tg := 0) (v := w 67 23) (show am_cd 170 2 = (18, 5, 1223, 0, [119]) by decide +kernel) (by decide +kernel) (by decide +kernel) rfl rfl ?_
  refine e_putf (a := 67) (show am_cd 170 5 = (19, 8, 1227, 0, [126]) by decide +kernel) (by decide +kernel) (by decide +kernel) rfl (fun h9 => absurd h9 (by decide)) (fun h9 => absurd h9 (by decide +kernel)) ?_
  refine e_lda (v := 67) (show am_cd 170 8 = (2, 9, 0, 2, []) by decide +kernel) rfl ?_
  refine e_ic (show am_cd 170 9 = (0, 10, 0, 0, []) by decide +kernel) ?_
  refine e_putf (a := 67) (show am_cd 170 10 = (19, 13, 1223, 0, [119]) by decide +kernel) (by decide +kernel) (by decide +kernel) rfl (fun h9 => absurd h9 (by decide)) (fun h9 => absurd h9 (by decide +kernel)) ?_
  refine e_lda (v := 67) (show am_cd 170 13 = (2, 14, 0, 2, []) by decide +kernel) rfl ?_
  refine e_ic (show am_cd 170 14 = (0, 15, 0, 0, []) by decide +kernel) ?_
  refine e_putf (a := 67) (show am_cd 170 15 = (19, 18, 1228, 0, [129]) by decide +kernel) (by decide +kernel) (by decide +kernel) rfl (fun h9 => absurd h9 (by decide)) (fun h9 => absurd h9 (by decide +kernel)) ?_
  refine e_lda (v := 67) (show am_cd 170 18 = (2, 19, 0, 2, []) by decide +kernel) rfl ?_
  refine e_ic (show am_cd 170 19 = (0, 20, 0, -1, []) by decide +kernel) ?_
  refine e_putf (a := 67) (show am_cd 170 20 = (19, 23, 1229, 0, [132]) by decide +kernel) (by decide +kernel) (by decide +kernel) rfl (fun h9 => absurd h9 (by decide)) (fun h9 => absurd h9 (by decide +kernel)) ?_
  refine e_retv (show am_cd 170 23 = (36, 24, 3, 0, []) by decide +kernel) (by decide +kernel) ⟨fun _ h9 => (by cases h9), ?_⟩
  show Ev _ 240 _ 9 [rA 67, (9, 0)] [] _
  refine e_lda (v := 67) (show am_cd 240 9 = (2, 10, 0, 2, []) by decide +kernel) rfl ?_
  refine e_lda (v := 67) (show am_cd 240 10 = (2, 11, 0, 2, []) by decide +kernel) rfl ?_
  refine e_getr (a := 67) (r := 90) (show am_cd 240 11 = (18, 14, 1233, 2, [78]) by decide +kernel) (by decide +kernel) (by decide +kernel) rfl ?_
  refine e_ic (show am_cd 240 14 = (0, 16, 1, 6, []) by decide +kernel) ?_
  refine e_cV (z := 0) (a := 67) (as := [rA 90, (0, 6)]) (rest := []) (show am_cd 240 16 = (40, 19, 193, 0, [222]) by decide +kernel) (by decide +kernel) rfl rfl (Nat.le_of_ble_eq_true rfl) rfl ?_
  refine Cl.mono (Cl.up (c_readLetters (d := d) h.1) (by omega)) ?_
  rintro _ _ ⟨x1, w2, rfl, rfl, hp⟩
  refine ⟨fun _ h9 => (by cases h9), ?_⟩
  replace h := h.2 x1 w2 hp
  show Ev _ 240 _ 19 [rA 67, (9, 0)] [(0, x1)] _
  refine e_sti (la2 := [rA 67, (0, x1)]) (show am_cd 240 19 = (3, 20, 1, 0, []) by decide +kernel) rfl ?_
  refine e_lda (v := 67) (show am_cd 240 20 = (2, 21, 0, 2, []) by decide +kernel) rfl ?_
  refine e_getf (a := 67) (tg := 0) (show am_cd 240 21 = (18, 24, 1229, 0, [132]) by decide +kernel) (by decide +kernel) (by decide +kernel) rfl ?_
  refine e_ic (show am_cd 240 24 = (0, 25, 0, -1, []) by decide +kernel) ?_
  refine e_cmp1 (show am_cd 240 25 = (11, 28, 32, 1, []) by decide +kernel) (fun hc => ?_) (fun hc => ?_)
  · replace h := h.1 hc
    exact h
  · replace h := h.2 hc
    refine e_lda (v := 67) (show am_cd 240 28 = (2, 29, 0, 2, []) by decide +kernel) rfl ?_
    refine e_cV (z := 0) (a := 67) (as := []) (rest := []) (show am_cd 240 29 = (40, 32, 176, 0, [165]) by decide +kernel) (by decide +kernel) rfl rfl (Nat.le_of_ble_eq_true rfl) rfl ?_
    refine Cl.mono (Cl.up (c_ends (d := d) h.1) (by omega)) ?_
    rintro _ _ ⟨w3, rfl, rfl, hp⟩
    refine ⟨fun _ h9 => (by cases h9), ?_⟩
    replace h := h.2 w3 hp
    show Ev _ 240 _ 32 [rA 67, (0, x1)] [] _
    exact h

theorem g_mspgs1 {d : Nat} {Q : Option aV → aS → Prop} {w : eW} {t : eT} {n : Int} {m : eW} {lt : Nat → Int} {nn : Nat} (h : ((w32 (w 67 29) = w32 (-1) → (MG (wu (wu w 67 47 n) 67 51 0) m ∧ (wu (wu w 67 47 n) 67 51 0) 67 35 = -1 ∧ UpM (wu (wu w 67 47 n) 67 51 0) lt nn) ∧ (∀ w1, (Fm [92, 93] [38, 49] (wu (wu w 67 47 n) 67 51 0) w1 ∧ TkM w1 2 lt nn ∧ KnW (PmW m 2 lt nn) w1) → ((w64 ((cw m 2 lt nn 0 16 16 16 : Nat) : Int) ≤ w64 0 → Q (some (0, w1 67 51)) (enc w1 t)) ∧ (¬ (w64 ((cw m 2 lt nn 0 16 16 16 : Nat) : Int) ≤ w64 0) → (SPR m lt nn 14 [] 0 16 16 16 0 w1 t) ∧ (∀ w2 t3, (SPO m lt nn [] 0 16 16 16 0 w1 t w2 t3) → Q (some (0, w2 67 51)) (enc w2 t3)))))) ∧ (¬ (w32 (w 67 29) = w32 (-1)) → Q (some (0, (-21) - (w 67 29))) (enc w t)))) : Ev (d + 36) 240 Q 32 [rA 67, (0, n)] [] (enc w t) := by
  refine e_lda (v := 67) (show am_cd 240 32 = (2, 33, 0, 2, []) by decide +kernel) rfl ?_
  refine e_getf (a := 67) (tg := 0) (show am_cd 240 33 = (18, 36, 1229, 0, [132]) by decide +kernel) (by decide +kernel) (by decide +kernel) rfl ?_
  refine e_ic (show am_cd 240 36 = (0, 37, 0, -1, []) by decide +kernel) ?_
  refine e_cmp0 (show am_cd 240 37 = (11, 40, 45, 0, []) by decide +kernel) (fun hc => ?_) (fun hc => ?_)
  · replace h := h.1 hc
    refine e_lda (v := 67) (show am_cd 240 45 = (2, 46, 0, 2, []) by decide +kernel) rfl ?_
    refine e_ldi (show am_cd 240 46 = (2, 47, 1, 0, []) by decide +kernel) rfl ?_
    refine e_putf (a := 67) (show am_cd 240 47 = (19, 50, 1247, 0, [345]) by decide +kernel) (by decide +kernel) (by decide +kernel) rfl (fun h9 => absurd h9 (by decide)) (fun h9 => absurd h9 (by decide +kernel)) ?_
    refine e_lda (v := 67) (show am_cd 240 50 = (2, 51, 0, 2, []) by decide +kernel) rfl ?_
    refine e_ic (show am_cd 240 51 = (0, 52, 0, 0, []) by decide +kernel) ?_
    refine e_putf (a := 67) (show am_cd 240 52 = (19, 55, 1251, 0, [380]) by decide +kernel) (by decide +kernel) (by decide +kernel) rfl (fun h9 => absurd h9 (by decide)) (fun h9 => absurd h9 (by decide +kernel)) ?_
    refine e_lda (v := 67) (show am_cd 240 55 = (2, 56, 0, 2, []) by decide +kernel) rfl ?_
    refine e_ic (show am_cd 240 56 = (0, 57, 0, 2, []) by decide +kernel) ?_
    refine e_cV (z := 0) (a := 67) (as := [(0, 2)]) (rest := []) (show am_cd 240 57 = (40, 60, 234, 0, [374]) by decide +kernel) (by decide +kernel) rfl rfl (Nat.le_of_ble_eq_true rfl) rfl ?_
    refine Cl.mono (Cl.up (c_allWays2 (d := d) h.1) (by omega)) ?_
    rintro _ _ ⟨w1, rfl, rfl, hp⟩
    refine ⟨fun _ h9 => (by cases h9), ?_⟩
    replace h := h.2 w1 hp
    show Ev _ 240 _ 60 [rA 67, (0, n)] [(1, ((cw m 2 lt nn 0 16 16 16 : Nat) : Int))] _
    refine e_lc (show am_cd 240 60 = (1, 61, 0, 0, []) by decide +kernel) ?_
    refine e_lcb5 (show am_cd 240 61 = (9, 62, 0, 0, []) by decide +kernel) (show am_cd 240 62 = (10, 65, 77, 5, []) by decide +kernel) (fun hc => ?_) (fun hc => ?_)
    · replace h := h.1 hc
      refine e_lda (v := 67) (show am_cd 240 77 = (2, 78, 0, 2, []) by decide +kernel) rfl ?_
      refine e_getf (a := 67) (tg := 0) (show am_cd 240 78 = (18, 81, 1251, 0, [380]) by decide +kernel) (by decide +kernel) (by decide +kernel) rfl ?_
      exact e_reti (show am_cd 240 81 = (36, 82, 0, 0, []) by decide +kernel) (by decide +kernel) h
    · replace h := h.2 hc
      refine e_lda (v := 67) (show am_cd 240 65 = (2, 66, 0, 2, []) by decide +kernel) rfl ?_
      refine e_ic (show am_cd 240 66 = (0, 67, 0, 0, []) by decide +kernel) ?_
      refine e_ic (show am_cd 240 67 = (0, 69, 1, 16, []) by decide +kernel) ?_
      refine e_ic (show am_cd 240 69 = (0, 71, 1, 16, []) by decide +kernel) ?_
      refine e_ic (show am_cd 240 71 = (0, 73, 1, 16, []) by decide +kernel) ?_
      refine e_ic (show am_cd 240 73 = (0, 74, 0, 0, []) by decide +kernel) ?_
      refine e_cV (z := 0) (a := 67) (as := [(0, 0), (0, 16), (0, 16), (0, 16), (0, 0)]) (rest := []) (show am_cd 240 74 = (40, 77, 239, 0, [386]) by decide +kernel) (by decide +kernel) rfl rfl (Nat.le_of_ble_eq_true rfl) rfl ?_
      refine Cl.mono (Cl.up (c_spellsOutB (d := d) 14 [] _ _ _ _ _ _ _ h.1) (by omega)) ?_
      rintro _ _ ⟨w2, t3, rfl, rfl, hp⟩
      refine ⟨fun _ h9 => (by cases h9), ?_⟩
      replace h := h.2 w2 t3 hp
      show Ev _ 240 _ 77 [rA 67, (0, n)] [] _
      refine e_lda (v := 67) (show am_cd 240 77 = (2, 78, 0, 2, []) by decide +kernel) rfl ?_
      refine e_getf (a := 67) (tg := 0) (show am_cd 240 78 = (18, 81, 1251, 0, [380]) by decide +kernel) (by decide +kernel) (by decide +kernel) rfl ?_
      exact e_reti (show am_cd 240 81 = (36, 82, 0, 0, []) by decide +kernel) (by decide +kernel) h
  · replace h := h.2 hc
    refine e_lda (v := 67) (show am_cd 240 40 = (2, 41, 0, 2, []) by decide +kernel) rfl ?_
    refine e_cV (z := 0) (a := 67) (as := []) (rest := []) (show am_cd 240 41 = (40, 44, 173, 0, [177]) by decide +kernel) (by decide +kernel) rfl rfl (Nat.le_of_ble_eq_true rfl) rfl ?_
    show Ev _ 173 _ 0 [rA 67] [] _
    refine e_ic (show am_cd 173 0 = (0, 2, 1, -21, []) by decide +kernel) ?_
    refine e_lda (v := 67) (show am_cd 173 2 = (2, 3, 0, 2, []) by decide +kernel) rfl ?_
    refine e_getf (a := 67) (tg := 0) (show am_cd 173 3 = (18, 6, 1229, 0, [132]) by decide +kernel) (by decide +kernel) (by decide +kernel) rfl ?_
    refine e_isub (show am_cd 173 6 = (5, 7, 1, 0, []) by decide +kernel) ?_
    refine e_reti (show am_cd 173 7 = (36, 8, 0, 0, []) by decide +kernel) (by decide +kernel) ⟨fun _ h9 => (by cases h9), ?_⟩
    show Ev _ 240 _ 44 [rA 67, (0, n)] [(0, (-21) - (w 67 29))] _
    exact e_reti (show am_cd 240 44 = (36, 45, 0, 0, []) by decide +kernel) (by decide +kernel) h

theorem c_mspellings {d : Nat} {m w : eW} {t : eT} {ks : kT} {rl tx : List Int} (h : MI w m ks rl tx) : Cl (d + 36) 240 [rA 67] (enc w t) (fun r S2 => ∃ w2, r = some (0, spellingsV tx m) ∧ S2 = enc w2 t ∧ Fm [90, 92, 93, 98] [23, 26, 27, 28, 29, 38, 47, 49, 51] w w2 ∧ MI w2 m ks rl [] ∧ w2 67 26 = 0) := by
  have hT := h.2.2.2.2.2.1
  obtain ⟨b1, b2, b3, b4, b5, b6⟩ := bgW_s hT
  refine g_mspgs0 (tx := tx) ⟨⟨b1, ⟨by decide, by decide⟩, by decide⟩, fun x1 w2 hw2 => front (A := 90) (E := fun w3 => Ev (d + 36) 240 _ 32 [rA 67, (0, x1)] [] (enc w3 t)) hT (by decide) hw2 (fun w3 hF => ?_)⟩
  obtain ⟨hI, hF⟩ := hF
  have mi := hI.mi h (by decide)
  have hb := hI.1.b
  have fr : Fm [90, 92, 93, 98] [23, 26, 27, 28, 29, 38, 47, 49, 51] w w3 := hI.2.1.mo (by decide) (by decide)
  cases hs : stW w3 with
  | error q =>
    rw [hs] at hF
    have hF : lsR tx 6 = .error q := hF
    have := stW_er hI.1 hs
    refine g_mspgs1 (m := m) (lt := fun _ => 0) (nn := 0) ?_
    simp (disch := omega) only [w32_id]
    refine ⟨fun h9 => (by omega), fun _ => ⟨w3, ?_, rfl, fr, mi, hI.2.2.2⟩⟩
    unfold spellingsV
    rw [hF, this.1]
  | ok p =>
    rw [hs] at hF
    obtain ⟨l, r1, r2, r3, r4, r5⟩ := hF
    subst r2
    have e29 := (stW_ok hs).1
    have f : Fm [] [47, 51] w3 (wu (wu w3 67 47 (l.length : Int)) 67 51 0) := (Fm.pf (by decide)).tr (Fm.pf (by decide))
    have e47 : (wu (wu w3 67 47 (l.length : Int)) 67 51 0) 67 47 = (l.length : Int) := by rw [wu_nk _ _ (by decide), wu_eq]
    have e51 : (wu (wu w3 67 47 (l.length : Int)) 67 51 0) 67 51 = 0 := by rw [wu_eq]
    have hlt := cw_lt (m := m) mi.1.1.1.n.2 (q := 2) (lt := ltF l) (n := l.length) (s := 0) (a := 16) (b := 16) (c := 16)
    refine g_mspgs1 (m := m) (lt := ltF l) (nn := l.length) ?_
    generalize wu (wu w3 67 47 (l.length : Int)) 67 51 0 = w5 at f e47 e51 ⊢
    simp (disch := omega) only [w32_id, w64_id]
    refine ⟨fun _ => ⟨⟨mi.1.1.m f (by decide) (by decide), by rw [f.2 35 (by decide)]; exact mi.2.2.2.2.2.2, upM_of (r3.m f (by decide) (by decide)) r4.2 r5 e47⟩, fun w4 hw4 => ?_⟩, fun h9 => absurd e29 h9⟩
    obtain ⟨f1, f2, f3⟩ := hw4
    have g4 : Fm [92, 93] [38, 47, 49, 51] w3 w4 := (f.mo (fun a ha => by cases ha) (by decide)).tr (f1.mo (fun a ha => ha) (by decide))
    have s0 : SpM w4 [] := ⟨by rw [f1.2 51 (by decide)]; exact e51, by decide, fun k hk => by cases hk⟩
    have fin : ∀ w6, Fm [92, 93, 98] [38, 47, 49, 51] w3 w6 → SpM w6 (splL tx m l) → ∃ w2, some ((0 : Nat), w6 67 51) = some (0, spellingsV tx m) ∧ enc w6 t = enc w2 t ∧ Fm [90, 92, 93, 98] [23, 26, 27, 28, 29, 38, 47, 49, 51] w w2 ∧ MI w2 m ks rl [] ∧ w2 67 26 = 0 := by
      intro w6 g hS
      obtain ⟨a1, a2, a3, a4, a5, a6, a7⟩ := mi
      refine ⟨w6, ?_, rfl, fr.tr (g.mo (by decide) (by decide)), ⟨a1.m g (by decide) (by decide), a2, a3.m g (by decide) (by decide), a4.m g (by decide) (by decide), a5.m g (by decide) (by decide), TxM.nil (by rw [g.2 23 (by decide)]; exact a6.1), by rw [g.2 35 (by decide)]; exact a7⟩, by rw [g.2 26 (by decide)]; exact hI.2.2.2⟩
      unfold spellingsV
      rw [r1, hS.1]
    refine ⟨fun h2 => ?_, fun h2 => ⟨⟨⟨mi.1.1.m g4 (by decide) (by decide), by rw [g4.2 35 (by decide)]; exact mi.2.2.2.2.2.2, f2, ⟨by decide, by simp, by decide⟩, gE16, gE16, ⟨by decide, Or.inr rfl⟩, ?_, f3⟩, s0, by decide, by decide, by decide, by decide⟩, fun w6 t7 hp => ?_⟩⟩
    · refine fin w4 (g4.mo (by decide) (by decide)) ?_
      unfold splL
      rw [lw_nil_of (by omega)]
      exact s0
    · have := mW_le (m := m) (q := 2) (n := l.length) (s := (0 : Int).toNat) (c := (16 : Int).toNat) f2.n
      omega
    · obtain ⟨e1, e2, e3, e4⟩ := hp
      subst e1
      exact fin w6 ((g4.mo (by decide) (by decide)).tr (e2.mo (by decide) (by decide))) e4

