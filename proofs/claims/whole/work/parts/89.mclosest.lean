/-! The model: the call closest; thrown. -/
def coR (tx : List Int) : Except Nat (List Int × List Int) := match rdLs tx 6 0 with
  | .error q => .error q
  | .ok y => if hr tx y.2 = 47 then (match rdLs tx 6 (y.2 + 1) with
    | .error q => .error q
    | .ok z => if z.2 < tx.length then .error z.2 else .ok (y.1, z.1)) else .error y.2
def coN (m : eW) (x : List Int × List Int) : Nat := cl m (ltF x.1) x.1.length (ltF x.2) x.2.length 0 0 16 16 16
def coP (m : eW) (x : List Int × List Int) : List Nat := pth m (ltF x.1) x.1.length (ltF x.2) x.2.length 13 0 0 16 16 16
def closestV (tx : List Int) (m : eW) : Int := match coR tx with
  | .error e => -21 - (e : Int)
  | .ok x => if coN m x < 1000000 then (coN m x : Int) else -2
def closestK (tx : List Int) (m : eW) (ks : kT) : kT := match coR tx with
  | .error _ => ks
  | .ok x => if coN m x < 1000000 then [(coP m x, [])] else ks
theorem FrK.m {w w2 : eW} (h : FrK w w2) : Fm [81, 82, 83, 84] [17] w w2 := ⟨fun a h1 h2 => h.1 a h1 (by simp at h2; omega), fun k hk => h.2 k (by simp at hk; omega)⟩
theorem rdLs_b {tx : List Int} {k p : Nat} {y : List Int × Nat} (h : rdLs tx k p = .ok y) : (1 ≤ y.1.length ∧ y.1.length ≤ k) ∧ ∀ v ∈ y.1, 0 ≤ v ∧ v ≤ 26 := by
  have hlb := ltsF_b (tx := tx) (k := k) (p := p)
  unfold rdLs at h
  by_cases h9 : ltsF tx k p = []
  · rw [if_pos h9] at h; cases h
  · rw [if_neg h9] at h
    cases h
    have := List.length_pos_iff.mpr h9
    exact ⟨⟨this, hlb.2⟩, hlb.1⟩
/-- both sides have been read -/
def CoL (w1 : eW) (nA nB : Int) (u l : List Int) : Prop := nA = (u.length : Int) ∧ nB = (l.length : Int) ∧ LtM w1 90 u ∧ LtM w1 91 l ∧ u.length ≤ 6 ∧ l.length ≤ 6 ∧ (∀ v ∈ u, 0 ≤ v ∧ v ≤ 26) ∧ ∀ v ∈ l, 0 ≤ v ∧ v ≤ 26
def K61 (tx : List Int) (nA nB : Int) (w1 : eW) : Prop := match stW w1 with
  | .error q => coR tx = .error q
  | .ok _ => ∃ u l, CoL w1 nA nB u l ∧ coR tx = .ok (u, l)
def K49 (tx : List Int) (nA nB : Int) (w1 : eW) : Prop := match stW w1 with
  | .error q => coR tx = .error q
  | .ok p => ∃ u l, CoL w1 nA nB u l ∧ coR tx = if p < tx.length then .error p else .ok (u, l)
def CoQ (w m : eW) (t : eT) (ks : kT) (rl tx : List Int) (r : Option aV) (S2 : aS) : Prop := ∃ w2, r = some (0, closestV tx m) ∧ S2 = enc w2 t ∧ Fm [81, 82, 83, 84, 90, 91, 92, 93, 94] [17, 23, 26, 27, 28, 29, 38, 40, 47, 48] w w2 ∧ MI w2 m (closestK tx m ks) rl [] ∧ w2 67 26 = 0

theorem g_mthrown {d : Nat} {Q : Option aV → aS → Prop} {w : eW} {t : eT} (h : Q (some (0, w 67 26)) (enc w t)) : Cl (d) 164 [rA 67] (enc w t) Q := by
  show Ev (d) 164 Q 0 [rA 67] [] (enc w t)
  refine e_lda (v := 67) (show am_cd 164 0 = (2, 1, 0, 2, []) by decide +kernel) rfl ?_
  refine e_getf (a := 67) (tg := 0) (show am_cd 164 1 = (18, 4, 1226, 0, [113]) by decide +kernel) (by decide +kernel) (by decide +kernel) rfl ?_
  exact e_reti (show am_cd 164 4 = (36, 5, 0, 0, []) by decide +kernel) (by decide +kernel) h

theorem g_mclos0 {d : Nat} {Q : Option aV → aS → Prop} {w : eW} {t : eT} {tx : List Int} (h : (Px (wu (wu (wu (wu (wu w 67 26 0) 67 27 (w 67 23)) 67 23 0) 67 28 0) 67 29 (-1)) tx ∧ ((1 : Int) ≤ 6 ∧ (6 : Int) ≤ 6) ∧ (90 = 90 ∨ 90 = 91)) ∧ (∀ x1 w2, (RlQ tx 90 6 (wu (wu (wu (wu (wu w 67 26 0) 67 27 (w 67 23)) 67 23 0) 67 28 0) 67 29 (-1)) (bnd (stW (wu (wu (wu (wu (wu w 67 26 0) 67 27 (w 67 23)) 67 23 0) 67 28 0) 67 29 (-1))) (rdLs tx 6)) x1 w2) → (Px w2 tx ∧ (0 : Int) ≤ 47 ∧ (47 : Int) ≤ 255) ∧ (∀ w3, (Px w3 tx ∧ Fm [] [28, 29] w2 w3 ∧ stW w3 = exS tx (stW w2) 47) → ((¬ w32 (w3 67 29) = w32 (-1) → Ev (d + 30) 253 Q 49 [rA 67, (0, x1), (0, 0), (9, 0), (9, 0)] [] (enc w3 t)) ∧ (¬ (¬ w32 (w3 67 29) = w32 (-1)) → (Px w3 tx ∧ ((1 : Int) ≤ 6 ∧ (6 : Int) ≤ 6) ∧ (91 = 90 ∨ 91 = 91)) ∧ (∀ x4 w5, (RlQ tx 91 6 w3 (bnd (stW w3) (rdLs tx 6)) x4 w5) → Ev (d + 30) 253 Q 49 [rA 67, (0, x1), (0, x4), (9, 0), (9, 0)] [] (enc w5 t))))))) : Cl (d + 30) 253 [rA 67] (enc w t) Q := by
  show Ev (d + 30) 253 Q 0 [rA 67, (9, 0), (9, 0), (9, 0), (9, 0)] [] (enc w t)
  refine e_lda (v := 67) (show am_cd 253 0 = (2, 1, 0, 2, []) by decide +kernel) rfl ?_
  refine e_ic (show am_cd 253 1 = (0, 2, 0, 0, []) by decide +kernel) ?_
  refine e_putf (a := 67) (show am_cd 253 2 = (19, 5, 1226, 0, [113]) by decide +kernel) (by decide +kernel) (by decide +kernel) rfl (fun h9 => absurd h9 (by decide)) (fun h9 => absurd h9 (by decide +kernel)) ?_
  refine e_lda (v := 67) (show am_cd 253 5 = (2, 6, 0, 2, []) by decide +kernel) rfl ?_
  refine e_cV (z := 0) (a := 67) (as := []) (rest := []) (show am_cd 253 6 = (40, 9, 170, 0, [171]) by decide +kernel) (by decide +kernel) rfl rfl (Nat.le_of_ble_eq_true rfl) rfl ?_
  show Ev _ 170 _ 0 [rA 67] [] _
  refine e_lda (v := 67) (show am_cd 170 0 = (2, 1, 0, 2, []) by decide +kernel) rfl ?_
  refine e_lda (v := 67) (show am_cd 170 1 = (2, 2, 0, 2, []) by decide +kernel) rfl ?_
  refine e_getfE (a := 67) (tg := 0) (v := w 67 23) (show am_cd 170 2 = (18, 5, 1223, 0, [119]) by decide +kernel) (by decide +kernel) (by decide +kernel) rfl rfl ?_
  refine e_putf (a := 67) (show am_cd 170 5 = (19, 8, 1227, 0, [126]) by decide +kernel) (by decide +kernel) (by decide +kernel) rfl (fun h9 => absurd h9 (by decide)) (fun h9 => absurd h9 (by decide +kernel)) ?_
  refine e_lda (v := 67) (show am_cd 170 8 = (2, 9, 0, 2, []) by decide +kernel) rfl ?_
  refine e_ic (show am_cd 170 9 = (0, 10, 0, 0, []) by decide +kernel) ?_
  refine e_putf (a := 67) (show am_cd 170 10 = (19, 13, 1223, 0, [119]) by decide +kernel) (by decide +kernel) (by decide +kernel) rfl (fun h9 => absurd h9 (by decide)) (fun h9 => absurd h9 (by decide +kernel)) ?_
  refine e_lda (v := 67) (show am_cd 170 13 = (2, 14, 0, 2, []) by decide +kernel) rfl ?_
  refine e_ic (show am_cd 170 14 = (0, 15, 0, 0, []) by decide +kernel) ?_
  refine e_putf (a := 67) (show am_cd 170 15 = (19, 18, 1228, 0, [129]) by decide +kernel) (by decide +kernel) (by decide +kernel) rfl (fun h9 => absurd h9 (by decide)) (fun h9 => absurd h9 (by decide +kernel)) ?_
  refine e_lda (v := 67) (show am_cd 170 18 = (2, 19, 0, 2, []) by decide +kernel) rfl ?_
  refine e_ic (show am_cd 170 19 = (0, 20, 0, -1, []) by decide +kernel) ?_
  refine e_putf (a := 67) (show am_cd 170 20 = (19, 23, 1229, 0, [132]) by decide +kernel) (by decide +kernel) (by decide +kernel) rfl (fun h9 => absurd h9 (by decide)) (fun h9 => absurd h9 (by decide +kernel)) ?_
  refine e_retv (show am_cd 170 23 = (36, 24, 3, 0, []) by decide +kernel) (by decide +kernel) ⟨fun _ h9 => (by cases h9), ?_⟩
  show Ev _ 253 _ 9 [rA 67, (9, 0), (9, 0), (9, 0), (9, 0)] [] _
  refine e_lda (v := 67) (show am_cd 253 9 = (2, 10, 0, 2, []) by decide +kernel) rfl ?_
  refine e_lda (v := 67) (show am_cd 253 10 = (2, 11, 0, 2, []) by decide +kernel) rfl ?_
  refine e_getr (a := 67) (r := 90) (show am_cd 253 11 = (18, 14, 1233, 2, [78]) by decide +kernel) (by decide +kernel) (by decide +kernel) rfl ?_
  refine e_ic (show am_cd 253 14 = (0, 16, 1, 6, []) by decide +kernel) ?_
  refine e_cV (z := 0) (a := 67) (as := [rA 90, (0, 6)]) (rest := []) (show am_cd 253 16 = (40, 19, 193, 0, [222]) by decide +kernel) (by decide +kernel) rfl rfl (Nat.le_of_ble_eq_true rfl) rfl ?_
  refine Cl.mono (Cl.up (c_readLetters (d := d) h.1) (by omega)) ?_
  rintro _ _ ⟨x1, w2, rfl, rfl, hp⟩
  refine ⟨fun _ h9 => (by cases h9), ?_⟩
  replace h := h.2 x1 w2 hp
  show Ev _ 253 _ 19 [rA 67, (9, 0), (9, 0), (9, 0), (9, 0)] [(0, x1)] _
  refine e_sti (la2 := [rA 67, (0, x1), (9, 0), (9, 0), (9, 0)]) (show am_cd 253 19 = (3, 20, 1, 0, []) by decide +kernel) rfl ?_
  refine e_lda (v := 67) (show am_cd 253 20 = (2, 21, 0, 2, []) by decide +kernel) rfl ?_
  refine e_ic (show am_cd 253 21 = (0, 23, 1, 47, []) by decide +kernel) ?_
  refine e_cV (z := 0) (a := 67) (as := [(0, 47)]) (rest := []) (show am_cd 253 23 = (40, 26, 175, 0, [161]) by decide +kernel) (by decide +kernel) rfl rfl (Nat.le_of_ble_eq_true rfl) rfl ?_
  refine Cl.mono (Cl.up (c_expect (d := d) h.1) (by omega)) ?_
  rintro _ _ ⟨w3, rfl, rfl, hp⟩
  refine ⟨fun _ h9 => (by cases h9), ?_⟩
  replace h := h.2 w3 hp
  show Ev _ 253 _ 26 [rA 67, (0, x1), (9, 0), (9, 0), (9, 0)] [] _
  refine e_lda (v := 67) (show am_cd 253 26 = (2, 27, 0, 2, []) by decide +kernel) rfl ?_
  refine e_getf (a := 67) (tg := 0) (show am_cd 253 27 = (18, 30, 1229, 0, [132]) by decide +kernel) (by decide +kernel) (by decide +kernel) rfl ?_
  refine e_ic (show am_cd 253 30 = (0, 31, 0, -1, []) by decide +kernel) ?_
  refine e_cmp1 (show am_cd 253 31 = (11, 34, 47, 1, []) by decide +kernel) (fun hc => ?_) (fun hc => ?_)
  · replace h := h.1 hc
    refine e_ic (show am_cd 253 47 = (0, 48, 0, 0, []) by decide +kernel) ?_
    refine e_sti (la2 := [rA 67, (0, x1), (0, 0), (9, 0), (9, 0)]) (show am_cd 253 48 = (3, 49, 2, 0, []) by decide +kernel) rfl ?_
    exact h
  · replace h := h.2 hc
    refine e_lda (v := 67) (show am_cd 253 34 = (2, 35, 0, 2, []) by decide +kernel) rfl ?_
    refine e_lda (v := 67) (show am_cd 253 35 = (2, 36, 0, 2, []) by decide +kernel) rfl ?_
    refine e_getr (a := 67) (r := 91) (show am_cd 253 36 = (18, 39, 1234, 2, [81]) by decide +kernel) (by decide +kernel) (by decide +kernel) rfl ?_
    refine e_ic (show am_cd 253 39 = (0, 41, 1, 6, []) by decide +kernel) ?_
    refine e_cV (z := 0) (a := 67) (as := [rA 91, (0, 6)]) (rest := []) (show am_cd 253 41 = (40, 44, 193, 0, [222]) by decide +kernel) (by decide +kernel) rfl rfl (Nat.le_of_ble_eq_true rfl) rfl ?_
    refine Cl.mono (Cl.up (c_readLetters (d := d) h.1) (by omega)) ?_
    rintro _ _ ⟨x4, w5, rfl, rfl, hp⟩
    refine ⟨fun _ h9 => (by cases h9), ?_⟩
    replace h := h.2 x4 w5 hp
    show Ev _ 253 _ 44 [rA 67, (0, x1), (9, 0), (9, 0), (9, 0)] [(0, x4)] _
    refine e_go (show am_cd 253 44 = (12, 48, 0, 0, []) by decide +kernel) ?_
    refine e_sti (la2 := [rA 67, (0, x1), (0, x4), (9, 0), (9, 0)]) (show am_cd 253 48 = (3, 49, 2, 0, []) by decide +kernel) rfl ?_
    exact h

theorem g_mclos1 {d : Nat} {Q : Option aV → aS → Prop} {w : eW} {t : eT} {nA nB : Int} {tx : List Int} (h : ((¬ w32 (w 67 29) = w32 (-1) → Ev (d + 30) 253 Q 61 [rA 67, (0, nA), (0, nB), (9, 0), (9, 0)] [] (enc w t)) ∧ (¬ (¬ w32 (w 67 29) = w32 (-1)) → (Px w tx) ∧ (∀ w1, (Px w1 tx ∧ Fm [] [28, 29] w w1 ∧ stW w1 = enS tx (stW w)) → Ev (d + 30) 253 Q 61 [rA 67, (0, nA), (0, nB), (9, 0), (9, 0)] [] (enc w1 t))))) : Ev (d + 30) 253 Q 49 [rA 67, (0, nA), (0, nB), (9, 0), (9, 0)] [] (enc w t) := by
  refine e_lda (v := 67) (show am_cd 253 49 = (2, 50, 0, 2, []) by decide +kernel) rfl ?_
  refine e_getf (a := 67) (tg := 0) (show am_cd 253 50 = (18, 53, 1229, 0, [132]) by decide +kernel) (by decide +kernel) (by decide +kernel) rfl ?_
  refine e_ic (show am_cd 253 53 = (0, 54, 0, -1, []) by decide +kernel) ?_
  refine e_cmp1 (show am_cd 253 54 = (11, 57, 61, 1, []) by decide +kernel) (fun hc => ?_) (fun hc => ?_)
  · replace h := h.1 hc
    exact h
  · replace h := h.2 hc
    refine e_lda (v := 67) (show am_cd 253 57 = (2, 58, 0, 2, []) by decide +kernel) rfl ?_
    refine e_cV (z := 0) (a := 67) (as := []) (rest := []) (show am_cd 253 58 = (40, 61, 176, 0, [165]) by decide +kernel) (by decide +kernel) rfl rfl (Nat.le_of_ble_eq_true rfl) rfl ?_
    refine Cl.mono (Cl.up (c_ends (d := d) h.1) (by omega)) ?_
    rintro _ _ ⟨w1, rfl, rfl, hp⟩
    refine ⟨fun _ h9 => (by cases h9), ?_⟩
    replace h := h.2 w1 hp
    show Ev _ 253 _ 61 [rA 67, (0, nA), (0, nB), (9, 0), (9, 0)] [] _
    exact h

theorem g_mclos2 {d : Nat} {Q : Option aV → aS → Prop} {w : eW} {t : eT} {nA nB : Int} {m : eW} {lu ll : Nat → Int} {nu nl : Nat} {ml : List Nat} (h : ((w32 (w 67 29) = w32 (-1) → ∀ w1, (FrT (wu (wu w 67 47 nA) 67 48 nB) w1 ∧ w1 67 38 = 0 ∧ DV w1 (fun _ => none)) → (LPR m lu nu ll nl 13 0 0 16 16 16 w1 t) ∧ (∀ x2 w3 t4, (LPO m lu nu ll nl 0 0 16 16 16 w1 t x2 w3 t4) → ((w64 x2 < w64 1000000 → (LCx m lu nu ll nl w3 ∧ KnW (PmL m lu nu ll nl) w3 ∧ cl m lu nu ll nl 0 0 16 16 16 < 1000000) ∧ (∀ w5, (Fm [92, 93, 94] [38, 40] w3 w5 ∧ KnW (PmL m lu nu ll nl) w5 ∧ MdM w5 (pth m lu nu ll nl 13 0 0 16 16 16)) → (KM (wu w5 67 17 0) [] ∧ MdM (wu w5 67 17 0) ml) ∧ (∀ w6, (FrK (wu w5 67 17 0) w6 ∧ KM w6 (([] ++ [(ml, [])]).take 20)) → Q (some (0, x2)) (enc w6 t4)))) ∧ (¬ (w64 x2 < w64 1000000) → Q (some (0, (-2))) (enc w3 t4))))) ∧ (¬ (w32 (w 67 29) = w32 (-1)) → Q (some (0, (-21) - (w 67 29))) (enc w t)))) : Ev (d + 30) 253 Q 61 [rA 67, (0, nA), (0, nB), (9, 0), (9, 0)] [] (enc w t) := by
  refine e_lda (v := 67) (show am_cd 253 61 = (2, 62, 0, 2, []) by decide +kernel) rfl ?_
  refine e_getf (a := 67) (tg := 0) (show am_cd 253 62 = (18, 65, 1229, 0, [132]) by decide +kernel) (by decide +kernel) (by decide +kernel) rfl ?_
  refine e_ic (show am_cd 253 65 = (0, 66, 0, -1, []) by decide +kernel) ?_
  refine e_cmp0 (show am_cd 253 66 = (11, 69, 74, 0, []) by decide +kernel) (fun hc => ?_) (fun hc => ?_)
  · replace h := h.1 hc
    refine e_lda (v := 67) (show am_cd 253 74 = (2, 75, 0, 2, []) by decide +kernel) rfl ?_
    refine e_ldi (show am_cd 253 75 = (2, 76, 1, 0, []) by decide +kernel) rfl ?_
    refine e_putf (a := 67) (show am_cd 253 76 = (19, 79, 1247, 0, [345]) by decide +kernel) (by decide +kernel) (by decide +kernel) rfl (fun h9 => absurd h9 (by decide)) (fun h9 => absurd h9 (by decide +kernel)) ?_
    refine e_lda (v := 67) (show am_cd 253 79 = (2, 80, 0, 2, []) by decide +kernel) rfl ?_
    refine e_ldi (show am_cd 253 80 = (2, 81, 2, 0, []) by decide +kernel) rfl ?_
    refine e_putf (a := 67) (show am_cd 253 81 = (19, 84, 1248, 0, [348]) by decide +kernel) (by decide +kernel) (by decide +kernel) rfl (fun h9 => absurd h9 (by decide)) (fun h9 => absurd h9 (by decide +kernel)) ?_
    refine e_lda (v := 67) (show am_cd 253 84 = (2, 85, 0, 2, []) by decide +kernel) rfl ?_
    refine e_cV (z := 0) (a := 67) (as := []) (rest := []) (show am_cd 253 85 = (40, 88, 208, 0, [311]) by decide +kernel) (by decide +kernel) rfl rfl (Nat.le_of_ble_eq_true rfl) rfl ?_
    refine Cl.mono (Cl.up (c_forget (d := d)) (by omega)) ?_
    rintro _ _ ⟨w1, rfl, rfl, hp⟩
    refine ⟨fun _ h9 => (by cases h9), ?_⟩
    replace h := h w1 hp
    show Ev _ 253 _ 88 [rA 67, (0, nA), (0, nB), (9, 0), (9, 0)] [] _
    refine e_lda (v := 67) (show am_cd 253 88 = (2, 89, 0, 2, []) by decide +kernel) rfl ?_
    refine e_ic (show am_cd 253 89 = (0, 90, 0, 0, []) by decide +kernel) ?_
    refine e_ic (show am_cd 253 90 = (0, 91, 0, 0, []) by decide +kernel) ?_
    refine e_ic (show am_cd 253 91 = (0, 93, 1, 16, []) by decide +kernel) ?_
    refine e_ic (show am_cd 253 93 = (0, 95, 1, 16, []) by decide +kernel) ?_
    refine e_ic (show am_cd 253 95 = (0, 97, 1, 16, []) by decide +kernel) ?_
    refine e_cV (z := 0) (a := 67) (as := [(0, 0), (0, 0), (0, 16), (0, 16), (0, 16)]) (rest := []) (show am_cd 253 97 = (40, 100, 250, 0, [420]) by decide +kernel) (by decide +kernel) rfl rfl (Nat.le_of_ble_eq_true rfl) rfl ?_
    refine Cl.mono (Cl.up (c_leastB (d := d) 13 _ _ _ _ _ _ _ h.1) (by omega)) ?_
    rintro _ _ ⟨x2, w3, t4, rfl, rfl, hp⟩
    refine ⟨fun _ h9 => (by cases h9), ?_⟩
    replace h := h.2 x2 w3 t4 hp
    show Ev _ 253 _ 100 [rA 67, (0, nA), (0, nB), (9, 0), (9, 0)] [(1, x2)] _
    refine e_stl (la2 := [rA 67, (0, nA), (0, nB), (1, x2), (9, 0)]) (show am_cd 253 100 = (3, 101, 3, 1, []) by decide +kernel) rfl ?_
    refine e_ldl (show am_cd 253 101 = (2, 102, 3, 1, []) by decide +kernel) rfl ?_
    refine e_lc (show am_cd 253 102 = (1, 105, 1, 1000000, [418]) by decide +kernel) ?_
    refine e_lcb2 (show am_cd 253 105 = (9, 106, 0, 0, []) by decide +kernel) (show am_cd 253 106 = (10, 109, 112, 2, []) by decide +kernel) (fun hc => ?_) (fun hc => ?_)
    · replace h := h.1 hc
      refine e_lda (v := 67) (show am_cd 253 112 = (2, 113, 0, 2, []) by decide +kernel) rfl ?_
      refine e_cV (z := 0) (a := 67) (as := []) (rest := []) (show am_cd 253 113 = (40, 116, 251, 0, [434]) by decide +kernel) (by decide +kernel) rfl rfl (Nat.le_of_ble_eq_true rfl) rfl ?_
      refine Cl.mono (Cl.up (c_laysC (d := d) (lu := lu) (nu := nu) (ll := ll) (nl := nl) (m := m) h.1) (by omega)) ?_
      rintro _ _ ⟨w5, rfl, rfl, hp⟩
      refine ⟨fun _ h9 => (by cases h9), ?_⟩
      replace h := h.2 w5 hp
      show Ev _ 253 _ 116 [rA 67, (0, nA), (0, nB), (1, x2), (9, 0)] [] _
      refine e_lda (v := 67) (show am_cd 253 116 = (2, 117, 0, 2, []) by decide +kernel) rfl ?_
      refine e_ic (show am_cd 253 117 = (0, 118, 0, 0, []) by decide +kernel) ?_
      refine e_putf (a := 67) (show am_cd 253 118 = (19, 121, 1217, 0, [189]) by decide +kernel) (by decide +kernel) (by decide +kernel) rfl (fun h9 => absurd h9 (by decide)) (fun h9 => absurd h9 (by decide +kernel)) ?_
      refine e_lda (v := 67) (show am_cd 253 121 = (2, 122, 0, 2, []) by decide +kernel) rfl ?_
      refine e_ic (show am_cd 253 122 = (0, 123, 0, 0, []) by decide +kernel) ?_
      refine e_cV (z := 0) (a := 67) (as := [(0, 0)]) (rest := []) (show am_cd 253 123 = (40, 126, 212, 0, [320]) by decide +kernel) (by decide +kernel) rfl rfl (Nat.le_of_ble_eq_true rfl) rfl ?_
      refine Cl.mono (Cl.up (c_keepsF (d := d) h.1) (by omega)) ?_
      rintro _ _ ⟨w6, rfl, rfl, hp⟩
      refine ⟨fun _ h9 => (by cases h9), ?_⟩
      replace h := h.2 w6 hp
      show Ev _ 253 _ 126 [rA 67, (0, nA), (0, nB), (1, x2), (9, 0)] [] _
      refine e_ldl (show am_cd 253 126 = (2, 127, 3, 1, []) by decide +kernel) rfl ?_
      refine e_l2i (show am_cd 253 127 = (8, 128, 1, 0, []) by decide +kernel) ?_
      exact e_reti (show am_cd 253 128 = (36, 129, 0, 0, []) by decide +kernel) (by decide +kernel) h
    · replace h := h.2 hc
      refine e_ic (show am_cd 253 109 = (0, 111, 1, -2, []) by decide +kernel) ?_
      exact e_reti (show am_cd 253 111 = (36, 112, 0, 0, []) by decide +kernel) (by decide +kernel) h
  · replace h := h.2 hc
    refine e_lda (v := 67) (show am_cd 253 69 = (2, 70, 0, 2, []) by decide +kernel) rfl ?_
    refine e_cV (z := 0) (a := 67) (as := []) (rest := []) (show am_cd 253 70 = (40, 73, 173, 0, [177]) by decide +kernel) (by decide +kernel) rfl rfl (Nat.le_of_ble_eq_true rfl) rfl ?_
    show Ev _ 173 _ 0 [rA 67] [] _
    refine e_ic (show am_cd 173 0 = (0, 2, 1, -21, []) by decide +kernel) ?_
    refine e_lda (v := 67) (show am_cd 173 2 = (2, 3, 0, 2, []) by decide +kernel) rfl ?_
    refine e_getf (a := 67) (tg := 0) (show am_cd 173 3 = (18, 6, 1229, 0, [132]) by decide +kernel) (by decide +kernel) (by decide +kernel) rfl ?_
    refine e_isub (show am_cd 173 6 = (5, 7, 1, 0, []) by decide +kernel) ?_
    refine e_reti (show am_cd 173 7 = (36, 8, 0, 0, []) by decide +kernel) (by decide +kernel) ⟨fun _ h9 => (by cases h9), ?_⟩
    show Ev _ 253 _ 73 [rA 67, (0, nA), (0, nB), (9, 0), (9, 0)] [(0, (-21) - (w 67 29))] _
    exact e_reti (show am_cd 253 73 = (36, 74, 0, 0, []) by decide +kernel) (by decide +kernel) h

theorem c_mthrown {d : Nat} {w : eW} {t : eT} : Cl d 164 [rA 67] (enc w t) (fun r S2 => r = some (0, w 67 26) ∧ S2 = enc w t) := g_mthrown ⟨rfl, rfl⟩
theorem e_co61 {d : Nat} {w w1 m : eW} {t : eT} {ks : kT} {rl tx : List Int} {nA nB : Int} (h : MI w m ks rl tx) (hI : RdI [90, 91] w tx w1) (hK : K61 tx nA nB w1) : Ev (d + 30) 253 (CoQ w m t ks rl tx) 61 [rA 67, (0, nA), (0, nB), (9, 0), (9, 0)] [] (enc w1 t) := by
  have mi := hI.mi h (by decide)
  have hb := hI.1.b
  have fr : Fm [81, 82, 83, 84, 90, 91, 92, 93, 94] [17, 23, 26, 27, 28, 29, 38, 40, 47, 48] w w1 := hI.2.1.mo (by decide) (by decide)
  unfold K61 at hK
  cases hs : stW w1 with
  | error q =>
    rw [hs] at hK
    have hK : coR tx = .error q := hK
    have := stW_er hI.1 hs
    refine g_mclos2 (m := m) (lu := fun _ => 0) (nu := 0) (ll := fun _ => 0) (nl := 0) (ml := []) ?_
    rw [show w32 (w1 67 29) = w1 67 29 from w32_id (by omega), show w32 (-1) = -1 from w32_id (by omega)]
    refine ⟨fun h9 => (by omega), fun _ => ⟨w1, ?_, rfl, fr, ?_, hI.2.2.2⟩⟩
    · unfold closestV
      rw [hK, this.1]
    · unfold closestK
      rw [hK]
      exact mi
  | ok p =>
    rw [hs] at hK
    obtain ⟨u, l, ⟨k1, k2, k3, k4, k5, k6, k7, k8⟩, kR⟩ := hK
    subst k1
    subst k2
    have e29 := (stW_ok hs).1
    have f : Fm [] [47, 48] w1 (wu (wu w1 67 47 (u.length : Int)) 67 48 (l.length : Int)) := (Fm.pf (by decide)).tr (Fm.pf (by decide))
    have up : UpM (wu (wu w1 67 47 (u.length : Int)) 67 48 (l.length : Int)) (ltF u) u.length := upM_of (k3.m f (by decide) (by decide)) k5 k7 (by rw [wu_nk _ _ (by decide), wu_eq])
    have lo : LoM (wu (wu w1 67 47 (u.length : Int)) 67 48 (l.length : Int)) (ltF l) l.length := loM_of (k4.m f (by decide) (by decide)) k6 k8 (wu_eq ..)
    refine g_mclos2 (m := m) (lu := ltF u) (nu := u.length) (ll := ltF l) (nl := l.length) (ml := coP m (u, l)) ?_
    rw [show w32 (w1 67 29) = w1 67 29 from w32_id (by omega), show w32 (-1) = -1 from w32_id (by omega)]
    refine ⟨fun _ w3 hw3 => ?_, fun h9 => absurd e29 h9⟩
    obtain ⟨f1, f2, f3⟩ := hw3
    have g3 : Fm [92, 93] [38, 47, 48] w1 w3 := (f.mo (fun a ha => by cases ha) (by decide)).tr (f1.m.mo (fun a ha => ha) (by decide))
    have cx3 : LCx m (ltF u) u.length (ltF l) l.length w3 := ⟨mi.1.1.m g3 (by decide) (by decide), by rw [g3.2 35 (by decide)]; exact mi.2.2.2.2.2.2, up.m f1.m (by decide) (by decide), lo.m f1.m (by decide) (by decide)⟩
    have gA : gABC m 16 16 16 := ⟨gE16, gE16, ⟨by decide, Or.inr rfl⟩⟩
    refine ⟨⟨cx3, KnW.nil f3, ⟨by decide, by omega⟩, ⟨by decide, by omega⟩, gA, by show (u.length - 0) + (l.length - 0) < 13; omega⟩, fun x2 w4 t4 hp => ?_⟩
    obtain ⟨e1, e2, e3, e4⟩ := hp
    subst e2
    have e1 : x2 = (coN m (u, l) : Int) := e1
    subst e1
    have hle : coN m (u, l) ≤ 1000000 := cl_le mi.1.1.2.1.n.2
    have g4 : Fm [92, 93] [38, 47, 48] w1 w4 := g3.tr (e3.m.mo (fun a ha => ha) (by decide))
    have cx4 : LCx m (ltF u) u.length (ltF l) l.length w4 := ⟨cx3.1.m e3.m (by decide) (by decide), by rw [e3.m.2 35 (by decide)]; exact cx3.2.1, cx3.2.2.1.m e3.m (by decide) (by decide), cx3.2.2.2.m e3.m (by decide) (by decide)⟩
    simp (disch := omega) only [w64_id]
    refine ⟨fun h2 => ⟨⟨cx4, e4, (show coN m (u, l) < 1000000 by omega)⟩, fun w5 hw5 => ?_⟩, fun h2 => ⟨w4, ?_, rfl, fr.tr (g4.mo (by decide) (by decide)), ?_, ?_⟩⟩
    · obtain ⟨z1, z2, z3⟩ := hw5
      have q : Fm [] [17] w5 (wu w5 67 17 0) := Fm.pf (by decide)
      have md : MdM (wu w5 67 17 0) (coP m (u, l)) := ⟨by rw [q.2 40 (by decide)]; exact z3.1, z3.2.1, by rw [q.1 94 (by decide) (by decide)]; exact z3.2.2⟩
      refine ⟨⟨KM.nil (wu_eq ..), md⟩, fun w6 hw6 => ?_⟩
      have g6 : Fm [81, 82, 83, 84, 92, 93, 94] [17, 38, 40, 47, 48] w1 w6 := (((g4.mo (by decide) (by decide)).tr (z1.mo (by decide) (by decide))).tr (q.mo (fun a ha => by cases ha) (by decide))).tr (hw6.1.m.mo (by decide) (by decide))
      refine ⟨w6, ?_, rfl, fr.tr (g6.mo (by decide) (by decide)), ?_, ?_⟩
      · unfold closestV
        rw [kR]
        dsimp only
        rw [if_pos (by omega)]
      · unfold closestK
        rw [kR]
        dsimp only
        rw [if_pos (by omega)]
        exact mi.mk2 g6 hw6.2 (by decide) (by decide)
      · rw [g6.2 26 (by decide)]
        exact hI.2.2.2
    · unfold closestV
      rw [kR]
      dsimp only
      rw [if_neg (by omega)]
    · unfold closestK
      rw [kR]
      dsimp only
      rw [if_neg (by omega)]
      exact mi.mk2 g4 (mi.2.2.2.1.m g4 (by decide) (by decide)) (by decide) (by decide)
    · rw [g4.2 26 (by decide)]
      exact hI.2.2.2
theorem e_co49 {d : Nat} {w w1 m : eW} {t : eT} {ks : kT} {rl tx : List Int} {nA nB : Int} (h : MI w m ks rl tx) (hI : RdI [90, 91] w tx w1) (hK : K49 tx nA nB w1) : Ev (d + 30) 253 (CoQ w m t ks rl tx) 49 [rA 67, (0, nA), (0, nB), (9, 0), (9, 0)] [] (enc w1 t) := by
  have hb := hI.1.b
  unfold K49 at hK
  refine g_mclos1 (tx := tx) ?_
  rw [show w32 (w1 67 29) = w1 67 29 from w32_id (by omega), show w32 (-1) = -1 from w32_id (by omega)]
  cases hs : stW w1 with
  | error q =>
    rw [hs] at hK
    have := stW_er hI.1 hs
    refine ⟨fun _ => e_co61 h hI (by unfold K61; rw [hs]; exact hK), fun h9 => (by omega)⟩
  | ok p =>
    rw [hs] at hK
    have e29 := (stW_ok hs).1
    refine ⟨fun h9 => absurd e29 h9, fun _ => ⟨hI.1, fun w2 hw2 => ?_⟩⟩
    obtain ⟨c1, c2, c3⟩ := hw2
    have c3 : stW w2 = if p < tx.length then .error p else .ok p := c3
    have hI2 := hI.m c1 c2 (fun a ha => by cases ha)
    refine e_co61 h hI2 ?_
    unfold K61
    obtain ⟨u, l, ⟨k1, k2, k3, k4, k5⟩, kR⟩ := hK
    by_cases h9 : p < tx.length
    · rw [if_pos h9] at c3 kR
      rw [c3]
      exact kR
    · rw [if_neg h9] at c3 kR
      rw [c3]
      exact ⟨u, l, ⟨k1, k2, k3.m c2 (by decide) (by decide), k4.m c2 (by decide) (by decide), k5⟩, kR⟩
theorem c_mclosest {d : Nat} {m w : eW} {t : eT} {ks : kT} {rl tx : List Int} (h : MI w m ks rl tx) : Cl (d + 30) 253 [rA 67] (enc w t) (CoQ w m t ks rl tx) := by
  have hT := h.2.2.2.2.2.1
  obtain ⟨b1, b2, b3, b4, b5, b6⟩ := bgW_s hT
  have hI : RdI [90, 91] w tx (bgW w) := RdI.bg hT
  refine g_mclos0 (tx := tx) ⟨⟨b1, ⟨by decide, by decide⟩, by decide⟩, fun x1 w2 hw2 => ?_⟩
  have hw2 : RlQ tx 90 6 (bgW w) (bnd (stW (bgW w)) (rdLs tx 6)) x1 w2 := hw2
  rw [b2] at hw2
  obtain ⟨c1, c2, c3, c4, c5⟩ := hw2
  have c3 : stW w2 = stE (rdLs tx 6 0) := c3
  have c5 : ∀ y, rdLs tx 6 0 = .ok y → x1 = (y.1.length : Int) ∧ LtM w2 90 y.1 := c5
  have hI2 := hI.m c1 c2 (by decide)
  refine ⟨⟨c1, by decide, by decide⟩, fun w3 hw3 => ?_⟩
  obtain ⟨d1, d2, d3⟩ := hw3
  have hI3 := hI2.m d1 d2 (fun a ha => by cases ha)
  have hb := d1.b
  rw [show w32 (w3 67 29) = w3 67 29 from w32_id (by omega), show w32 (-1) = -1 from w32_id (by omega)]
  cases hY : rdLs tx 6 0 with
  | error q =>
    rw [hY] at c3
    have c3 : stW w2 = .error q := c3
    rw [c3] at d3
    have d3 : stW w3 = .error q := d3
    have := stW_er d1 d3
    refine ⟨fun _ => e_co49 h hI3 ?_, fun h9 => (by omega)⟩
    unfold K49
    rw [d3]
    show coR tx = _
    unfold coR
    rw [hY]
  | ok y =>
    rw [hY] at c3
    have c3 : stW w2 = .ok y.2 := c3
    rw [c3] at d3
    have d3 : stW w3 = if hr tx y.2 = 47 then .ok (y.2 + 1) else .error y.2 := d3
    have c6 := c5 y hY
    have yb := rdLs_b hY
    by_cases h47 : hr tx y.2 = 47
    · rw [if_pos h47] at d3
      have e29 := (stW_ok d3).1
      refine ⟨fun h9 => absurd e29 h9, fun _ => ⟨⟨d1, ⟨by decide, by decide⟩, by decide⟩, fun x4 w5 hw5 => ?_⟩⟩
      rw [d3] at hw5
      obtain ⟨z1, z2, z3, z4, z5⟩ := hw5
      have z3 : stW w5 = stE (rdLs tx 6 (y.2 + 1)) := z3
      have z5 : ∀ v, rdLs tx 6 (y.2 + 1) = .ok v → x4 = (v.1.length : Int) ∧ LtM w5 91 v.1 := z5
      have hI5 := hI3.m z1 z2 (by decide)
      refine e_co49 h hI5 ?_
      unfold K49
      rw [z3]
      cases hZ : rdLs tx 6 (y.2 + 1) with
      | error q =>
        show coR tx = _
        unfold coR
        rw [hY]
        dsimp only
        rw [if_pos h47, hZ]
      | ok z =>
        have z6 := z5 z hZ
        have zb := rdLs_b hZ
        refine ⟨y.1, z.1, ⟨c6.1, z6.1, (c6.2.m d2 (by decide) (by decide)).m z2 (by decide) (by decide), z6.2, yb.1.2, zb.1.2, yb.2, zb.2⟩, ?_⟩
        unfold coR
        rw [hY]
        dsimp only
        rw [if_pos h47, hZ]
    · rw [if_neg h47] at d3
      have := stW_er d1 d3
      refine ⟨fun _ => e_co49 h hI3 ?_, fun h9 => (by omega)⟩
      unfold K49
      rw [d3]
      show coR tx = _
      unfold coR
      rw [hY]
      dsimp only
      rw [if_neg h47]

