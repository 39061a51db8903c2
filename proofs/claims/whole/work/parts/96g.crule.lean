/-! The class: reading a rule (pair, sort, part). -/
theorem TC.of {w w2 : eW} {tx : List Int} (h : TC w tx) (e5 : w2 2 5 = w 2 5) (e3 : w2 3 = w 3) (hv : 0 ≤ w2 2 6 ∧ w2 2 6 ≤ (tx.length : Int)) : TC w2 tx := (h.at hv).fr (by rw [e5]; rfl) rfl (by rw [e3]; rfl)
def RQ {α : Type} (R : Except Nat (α × Nat)) (x : Int) (w2 : eW) (K : α → Prop) : Prop := match R with
  | .error q => x = 0 ∧ w2 2 6 = (q : Int)
  | .ok y => x = 1 ∧ w2 2 6 = (y.2 : Int) ∧ K y.1
def rdW (tx : List Int) (p : Nat) : Except Nat ((Int × Int) × Nat) := match rdS tx p with
  | .error q => .error q
  | .ok u => if hr tx u.2 = 58 then (match rdS tx (u.2 + 1) with
    | .error q => .error q
    | .ok l => .ok ((u.1, l.1), l.2)) else .error u.2
theorem rdS_s {tx : List Int} {p : Nat} {s : Int} (h : sgO (hr tx p) = some s) : rdS tx p = .ok (s, p + 1) := by unfold rdS; rw [h]
theorem rdS_n {tx : List Int} {p : Nat} (h : sgO (hr tx p) = none) : rdS tx p = .error p := by unfold rdS; rw [h]

theorem g_town {d : Nat} {Q : Option aV → aS → Prop} {w : eW} {t : eT} {tx : List Int} {m : eW} (h : (TC w tx) ∧ ((¬ w32 (caI tx (w 2 6).toNat) = w32 (-1) → (TC (wu (wu w 15 13 (caI tx (w 2 6).toNat)) 2 6 ((w 2 6) + 1)) tx) ∧ ((w32 (hr tx ((wu (wu w 15 13 (caI tx (w 2 6).toNat)) 2 6 ((w 2 6) + 1)) 2 6).toNat) = w32 58 → (TC (wu (wu (wu w 15 13 (caI tx (w 2 6).toNat)) 2 6 ((w 2 6) + 1)) 2 6 (((w 2 6) + 1) + 1)) tx) ∧ ((¬ w32 (caI tx ((wu (wu (wu w 15 13 (caI tx (w 2 6).toNat)) 2 6 ((w 2 6) + 1)) 2 6 (((w 2 6) + 1) + 1)) 2 6).toNat) = w32 (-1) → Q (some (0, 1)) (enc (wu (wu (wu (wu (wu w 15 13 (caI tx (w 2 6).toNat)) 2 6 ((w 2 6) + 1)) 2 6 (((w 2 6) + 1) + 1)) 15 14 (caI tx ((wu (wu (wu w 15 13 (caI tx (w 2 6).toNat)) 2 6 ((w 2 6) + 1)) 2 6 (((w 2 6) + 1) + 1)) 2 6).toNat)) 2 6 ((((w 2 6) + 1) + 1) + 1)) t)) ∧ (¬ (¬ w32 (caI tx ((wu (wu (wu w 15 13 (caI tx (w 2 6).toNat)) 2 6 ((w 2 6) + 1)) 2 6 (((w 2 6) + 1) + 1)) 2 6).toNat) = w32 (-1)) → Q (some (0, 0)) (enc (wu (wu (wu (wu w 15 13 (caI tx (w 2 6).toNat)) 2 6 ((w 2 6) + 1)) 2 6 (((w 2 6) + 1) + 1)) 15 14 (caI tx ((wu (wu (wu w 15 13 (caI tx (w 2 6).toNat)) 2 6 ((w 2 6) + 1)) 2 6 (((w 2 6) + 1) + 1)) 2 6).toNat)) t)))) ∧ (¬ (w32 (hr tx ((wu (wu w 15 13 (caI tx (w 2 6).toNat)) 2 6 ((w 2 6) + 1)) 2 6).toNat) = w32 58) → Q (some (0, 0)) (enc (wu (wu w 15 13 (caI tx (w 2 6).toNat)) 2 6 ((w 2 6) + 1)) t)))) ∧ (¬ (¬ w32 (caI tx (w 2 6).toNat) = w32 (-1)) → Q (some (0, 0)) (enc (wu w 15 13 (caI tx (w 2 6).toNat)) t)))) : Cl (d + 2) 63 [rA 15, rA 2] (enc w t) Q := by
  show Ev (d + 2) 63 Q 0 [rA 15, rA 2] [] (enc w t)
  refine e_lda (v := 15) (show am_cd 63 0 = (2, 1, 0, 2, []) by decide +kernel) rfl ?_
  refine e_lda (v := 2) (show am_cd 63 1 = (2, 2, 1, 2, []) by decide +kernel) rfl ?_
  refine e_cV (z := 0) (a := 2) (as := []) (rest := [rA 15]) (show am_cd 63 2 = (40, 5, 82, 0, [62]) by decide +kernel) (by decide +kernel) rfl rfl (Nat.le_of_ble_eq_true rfl) rfl ?_
  refine Cl.mono (Cl.up (c_cah (tx := tx) (d := d) h.1) (by omega)) ?_
  rintro _ _ ⟨rfl, rfl⟩
  refine ⟨fun _ h9 => (by cases h9), ?_⟩
  replace h := h.2
  show Ev _ 63 _ 5 [rA 15, rA 2] [(0, caI tx (w 2 6).toNat), rA 15] _
  refine e_putf (a := 15) (show am_cd 63 5 = (19, 8, 713, 0, [68]) by decide +kernel) (by decide +kernel) (by decide +kernel) rfl (fun h9 => absurd h9 (by decide)) (fun h9 => absurd h9 (by decide +kernel)) ?_
  refine e_lda (v := 15) (show am_cd 63 8 = (2, 9, 0, 2, []) by decide +kernel) rfl ?_
  refine e_getfE (a := 15) (tg := 0) (v := caI tx (w 2 6).toNat) (show am_cd 63 9 = (18, 12, 713, 0, [68]) by decide +kernel) (by decide +kernel) (by decide +kernel) rfl rfl ?_
  refine e_ic (show am_cd 63 12 = (0, 13, 0, -1, []) by decide +kernel) ?_
  refine e_cmp1 (show am_cd 63 13 = (11, 16, 18, 1, []) by decide +kernel) (fun hc => ?_) (fun hc => ?_)
  · replace h := h.1 hc
    refine e_lda (v := 2) (show am_cd 63 18 = (2, 19, 1, 2, []) by decide +kernel) rfl ?_
    refine e_dup (show am_cd 63 19 = (13, 20, 0, 0, []) by decide +kernel) (by decide) ?_
    refine e_getfE (a := 2) (tg := 0) (v := w 2 6) (show am_cd 63 20 = (18, 23, 806, 0, [72]) by decide +kernel) (by decide +kernel) (by decide +kernel) rfl rfl ?_
    refine e_ic (show am_cd 63 23 = (0, 24, 0, 1, []) by decide +kernel) ?_
    refine e_iadd (show am_cd 63 24 = (5, 25, 0, 0, []) by decide +kernel) ?_
    refine e_putf (a := 2) (show am_cd 63 25 = (19, 28, 806, 0, [72]) by decide +kernel) (by decide +kernel) (by decide +kernel) rfl (fun h9 => absurd h9 (by decide)) (fun h9 => absurd h9 (by decide +kernel)) ?_
    refine e_lda (v := 2) (show am_cd 63 28 = (2, 29, 1, 2, []) by decide +kernel) rfl ?_
    refine e_ic (show am_cd 63 29 = (0, 31, 1, 58, []) by decide +kernel) ?_
    refine e_cV (z := 0) (a := 2) (as := [(0, 58)]) (rest := []) (show am_cd 63 31 = (40, 34, 81, 0, [75]) by decide +kernel) (by decide +kernel) rfl rfl (Nat.le_of_ble_eq_true rfl) rfl ?_
    show Ev _ 81 _ 0 [rA 2, (0, 58)] [] _
    refine e_lda (v := 2) (show am_cd 81 0 = (2, 1, 0, 2, []) by decide +kernel) rfl ?_
    refine e_cV (z := 0) (a := 2) (as := []) (rest := []) (show am_cd 81 1 = (40, 4, 80, 0, [34]) by decide +kernel) (by decide +kernel) rfl rfl (Nat.le_of_ble_eq_true rfl) rfl ?_
    refine Cl.mono (Cl.up (c_ahd (tx := tx) (d := d) h.1) (by omega)) ?_
    rintro _ _ ⟨rfl, rfl⟩
    refine ⟨fun _ h9 => (by cases h9), ?_⟩
    replace h := h.2
    show Ev _ 81 _ 4 [rA 2, (0, 58)] [(0, hr tx ((wu (wu w 15 13 (caI tx (w 2 6).toNat)) 2 6 ((w 2 6) + 1)) 2 6).toNat)] _
    refine e_ldi (show am_cd 81 4 = (2, 5, 1, 0, []) by decide +kernel) rfl ?_
    refine e_cmp0 (show am_cd 81 5 = (11, 8, 10, 0, []) by decide +kernel) (fun hc => ?_) (fun hc => ?_)
    · replace h := h.1 hc
      refine e_lda (v := 2) (show am_cd 81 10 = (2, 11, 0, 2, []) by decide +kernel) rfl ?_
      refine e_dup (show am_cd 81 11 = (13, 12, 0, 0, []) by decide +kernel) (by decide) ?_
      refine e_getfE (a := 2) (tg := 0) (v := (w 2 6) + 1) (show am_cd 81 12 = (18, 15, 806, 0, [31]) by decide +kernel) (by decide +kernel) (by decide +kernel) rfl rfl ?_
      refine e_ic (show am_cd 81 15 = (0, 16, 0, 1, []) by decide +kernel) ?_
      refine e_iadd (show am_cd 81 16 = (5, 17, 0, 0, []) by decide +kernel) ?_
      refine e_putf (a := 2) (show am_cd 81 17 = (19, 20, 806, 0, [31]) by decide +kernel) (by decide +kernel) (by decide +kernel) rfl (fun h9 => absurd h9 (by decide)) (fun h9 => absurd h9 (by decide +kernel)) ?_
      refine e_ic (show am_cd 81 20 = (0, 21, 0, 1, []) by decide +kernel) ?_
      refine e_retz (show am_cd 81 21 = (36, 22, 0, 0, []) by decide +kernel) (by decide +kernel) (Or.inr rfl) ⟨fun _ h9 => (by cases h9), ?_⟩
      show Ev _ 63 _ 34 [rA 15, rA 2] [(0, 1)] _
      refine e_ifT (show am_cd 63 34 = (10, 37, 39, 1, []) by decide +kernel) (by decide +kernel) ?_
      refine e_lda (v := 15) (show am_cd 63 39 = (2, 40, 0, 2, []) by decide +kernel) rfl ?_
      refine e_lda (v := 2) (show am_cd 63 40 = (2, 41, 1, 2, []) by decide +kernel) rfl ?_
      refine e_cV (z := 0) (a := 2) (as := []) (rest := [rA 15]) (show am_cd 63 41 = (40, 44, 82, 0, [62]) by decide +kernel) (by decide +kernel) rfl rfl (Nat.le_of_ble_eq_true rfl) rfl ?_
      refine Cl.mono (Cl.up (c_cah (tx := tx) (d := d) h.1) (by omega)) ?_
      rintro _ _ ⟨rfl, rfl⟩
      refine ⟨fun _ h9 => (by cases h9), ?_⟩
      replace h := h.2
      show Ev _ 63 _ 44 [rA 15, rA 2] [(0, caI tx ((wu (wu (wu w 15 13 (caI tx (w 2 6).toNat)) 2 6 ((w 2 6) + 1)) 2 6 (((w 2 6) + 1) + 1)) 2 6).toNat), rA 15] _
      refine e_putf (a := 15) (show am_cd 63 44 = (19, 47, 714, 0, [79]) by decide +kernel) (by decide +kernel) (by decide +kernel) rfl (fun h9 => absurd h9 (by decide)) (fun h9 => absurd h9 (by decide +kernel)) ?_
      refine e_lda (v := 15) (show am_cd 63 47 = (2, 48, 0, 2, []) by decide +kernel) rfl ?_
      refine e_getfE (a := 15) (tg := 0) (v := caI tx ((wu (wu (wu w 15 13 (caI tx (w 2 6).toNat)) 2 6 ((w 2 6) + 1)) 2 6 (((w 2 6) + 1) + 1)) 2 6).toNat) (show am_cd 63 48 = (18, 51, 714, 0, [79]) by decide +kernel) (by decide +kernel) (by decide +kernel) rfl rfl ?_
      refine e_ic (show am_cd 63 51 = (0, 52, 0, -1, []) by decide +kernel) ?_
      refine e_cmp1 (show am_cd 63 52 = (11, 55, 57, 1, []) by decide +kernel) (fun hc => ?_) (fun hc => ?_)
      · replace h := h.1 hc
        refine e_lda (v := 2) (show am_cd 63 57 = (2, 58, 1, 2, []) by decide +kernel) rfl ?_
        refine e_dup (show am_cd 63 58 = (13, 59, 0, 0, []) by decide +kernel) (by decide) ?_
        refine e_getfE (a := 2) (tg := 0) (v := ((w 2 6) + 1) + 1) (show am_cd 63 59 = (18, 62, 806, 0, [72]) by decide +kernel) (by decide +kernel) (by decide +kernel) rfl rfl ?_
        refine e_ic (show am_cd 63 62 = (0, 63, 0, 1, []) by decide +kernel) ?_
        refine e_iadd (show am_cd 63 63 = (5, 64, 0, 0, []) by decide +kernel) ?_
        refine e_putf (a := 2) (show am_cd 63 64 = (19, 67, 806, 0, [72]) by decide +kernel) (by decide +kernel) (by decide +kernel) rfl (fun h9 => absurd h9 (by decide)) (fun h9 => absurd h9 (by decide +kernel)) ?_
        refine e_ic (show am_cd 63 67 = (0, 68, 0, 1, []) by decide +kernel) ?_
        exact e_retz (show am_cd 63 68 = (36, 69, 0, 0, []) by decide +kernel) (by decide +kernel) (Or.inr rfl) h
      · replace h := h.2 hc
        refine e_ic (show am_cd 63 55 = (0, 56, 0, 0, []) by decide +kernel) ?_
        exact e_retz (show am_cd 63 56 = (36, 57, 0, 0, []) by decide +kernel) (by decide +kernel) (Or.inl rfl) h
    · replace h := h.2 hc
      refine e_ic (show am_cd 81 8 = (0, 9, 0, 0, []) by decide +kernel) ?_
      refine e_retz (show am_cd 81 9 = (36, 10, 0, 0, []) by decide +kernel) (by decide +kernel) (Or.inl rfl) ⟨fun _ h9 => (by cases h9), ?_⟩
      show Ev _ 63 _ 34 [rA 15, rA 2] [(0, 0)] _
      refine e_ifF (show am_cd 63 34 = (10, 37, 39, 1, []) by decide +kernel) (by decide +kernel) ?_
      refine e_ic (show am_cd 63 37 = (0, 38, 0, 0, []) by decide +kernel) ?_
      exact e_retz (show am_cd 63 38 = (36, 39, 0, 0, []) by decide +kernel) (by decide +kernel) (Or.inl rfl) h
  · replace h := h.2 hc
    refine e_ic (show am_cd 63 16 = (0, 17, 0, 0, []) by decide +kernel) ?_
    exact e_retz (show am_cd 63 17 = (36, 18, 0, 0, []) by decide +kernel) (by decide +kernel) (Or.inl rfl) h

theorem g_tsort {d : Nat} {Q : Option aV → aS → Prop} {w : eW} {t : eT} {tx : List Int} {m : eW} (h : (TC w tx) ∧ ((w32 (hr tx (w 2 6).toNat) = w32 61 → (0 ≤ w32 (w 15 12) ∧ w32 (w 15 12) < 9) ∧ (TC (wu (wu w 2 6 ((w 2 6) + 1)) 17 (w32 (w 15 12)).toNat 0) tx) ∧ ((w32 (hr tx ((wu (wu w 2 6 ((w 2 6) + 1)) 17 (w32 (w 15 12)).toNat 0) 2 6).toNat) = w32 62 → Q (some (0, 1)) (enc (wu (wu (wu w 2 6 ((w 2 6) + 1)) 17 (w32 (w 15 12)).toNat 0) 2 6 (((w 2 6) + 1) + 1)) t)) ∧ (¬ (w32 (hr tx ((wu (wu w 2 6 ((w 2 6) + 1)) 17 (w32 (w 15 12)).toNat 0) 2 6).toNat) = w32 62) → Q (some (0, 0)) (enc (wu (wu w 2 6 ((w 2 6) + 1)) 17 (w32 (w 15 12)).toNat 0) t)))) ∧ (¬ (w32 (hr tx (w 2 6).toNat) = w32 61) → (TC w tx) ∧ ((w32 (hr tx (w 2 6).toNat) = w32 47 → (0 ≤ w32 (w 15 12) ∧ w32 (w 15 12) < 9) ∧ (TC (wu (wu w 2 6 ((w 2 6) + 1)) 17 (w32 (w 15 12)).toNat 3) tx) ∧ ((w32 (hr tx ((wu (wu w 2 6 ((w 2 6) + 1)) 17 (w32 (w 15 12)).toNat 3) 2 6).toNat) = w32 60 → (TC (wu (wu (wu w 2 6 ((w 2 6) + 1)) 17 (w32 (w 15 12)).toNat 3) 2 6 (((w 2 6) + 1) + 1)) tx) ∧ ((w32 (hr tx ((wu (wu (wu w 2 6 ((w 2 6) + 1)) 17 (w32 (w 15 12)).toNat 3) 2 6 (((w 2 6) + 1) + 1)) 2 6).toNat) = w32 61 → Q (some (0, 1)) (enc (wu (wu (wu (wu w 2 6 ((w 2 6) + 1)) 17 (w32 (w 15 12)).toNat 3) 2 6 (((w 2 6) + 1) + 1)) 2 6 ((((w 2 6) + 1) + 1) + 1)) t)) ∧ (¬ (w32 (hr tx ((wu (wu (wu w 2 6 ((w 2 6) + 1)) 17 (w32 (w 15 12)).toNat 3) 2 6 (((w 2 6) + 1) + 1)) 2 6).toNat) = w32 61) → Q (some (0, 0)) (enc (wu (wu (wu w 2 6 ((w 2 6) + 1)) 17 (w32 (w 15 12)).toNat 3) 2 6 (((w 2 6) + 1) + 1)) t)))) ∧ (¬ (w32 (hr tx ((wu (wu w 2 6 ((w 2 6) + 1)) 17 (w32 (w 15 12)).toNat 3) 2 6).toNat) = w32 60) → Q (some (0, 0)) (enc (wu (wu w 2 6 ((w 2 6) + 1)) 17 (w32 (w 15 12)).toNat 3) t)))) ∧ (¬ (w32 (hr tx (w 2 6).toNat) = w32 47) → (TC w tx) ∧ ((w32 (hr tx (w 2 6).toNat) = w32 60 → (TC (wu w 2 6 ((w 2 6) + 1)) tx) ∧ ((w32 (hr tx ((wu w 2 6 ((w 2 6) + 1)) 2 6).toNat) = w32 61 → (TC (wu (wu w 2 6 ((w 2 6) + 1)) 2 6 (((w 2 6) + 1) + 1)) tx) ∧ ((w32 (hr tx ((wu (wu w 2 6 ((w 2 6) + 1)) 2 6 (((w 2 6) + 1) + 1)) 2 6).toNat) = w32 62 → (0 ≤ w32 (w 15 12) ∧ w32 (w 15 12) < 9) ∧ (Q (some (0, 1)) (enc (wu (wu (wu (wu w 2 6 ((w 2 6) + 1)) 2 6 (((w 2 6) + 1) + 1)) 2 6 ((((w 2 6) + 1) + 1) + 1)) 17 (w32 (w 15 12)).toNat 2) t))) ∧ (¬ (w32 (hr tx ((wu (wu w 2 6 ((w 2 6) + 1)) 2 6 (((w 2 6) + 1) + 1)) 2 6).toNat) = w32 62) → (0 ≤ w32 (w 15 12) ∧ w32 (w 15 12) < 9) ∧ (Q (some (0, 1)) (enc (wu (wu (wu w 2 6 ((w 2 6) + 1)) 2 6 (((w 2 6) + 1) + 1)) 17 (w32 (w 15 12)).toNat 1) t))))) ∧ (¬ (w32 (hr tx ((wu w 2 6 ((w 2 6) + 1)) 2 6).toNat) = w32 61) → Q (some (0, 0)) (enc (wu w 2 6 ((w 2 6) + 1)) t)))) ∧ (¬ (w32 (hr tx (w 2 6).toNat) = w32 60) → Q (some (0, 0)) (enc w t)))))))) : Cl (d + 2) 64 [rA 15, rA 2] (enc w t) Q := by
  show Ev (d + 2) 64 Q 0 [rA 15, rA 2] [] (enc w t)
  refine e_lda (v := 2) (show am_cd 64 0 = (2, 1, 1, 2, []) by decide +kernel) rfl ?_
  refine e_ic (show am_cd 64 1 = (0, 3, 1, 61, []) by decide +kernel) ?_
  refine e_cV (z := 0) (a := 2) (as := [(0, 61)]) (rest := []) (show am_cd 64 3 = (40, 6, 81, 0, [75]) by decide +kernel) (by decide +kernel) rfl rfl (Nat.le_of_ble_eq_true rfl) rfl ?_
  show Ev _ 81 _ 0 [rA 2, (0, 61)] [] _
  refine e_lda (v := 2) (show am_cd 81 0 = (2, 1, 0, 2, []) by decide +kernel) rfl ?_
  refine e_cV (z := 0) (a := 2) (as := []) (rest := []) (show am_cd 81 1 = (40, 4, 80, 0, [34]) by decide +kernel) (by decide +kernel) rfl rfl (Nat.le_of_ble_eq_true rfl) rfl ?_
  refine Cl.mono (Cl.up (c_ahd (tx := tx) (d := d) h.1) (by omega)) ?_
  rintro _ _ ⟨rfl, rfl⟩
  refine ⟨fun _ h9 => (by cases h9), ?_⟩
  replace h := h.2
  show Ev _ 81 _ 4 [rA 2, (0, 61)] [(0, hr tx (w 2 6).toNat)] _
  refine e_ldi (show am_cd 81 4 = (2, 5, 1, 0, []) by decide +kernel) rfl ?_
  refine e_cmp0 (show am_cd 81 5 = (11, 8, 10, 0, []) by decide +kernel) (fun hc => ?_) (fun hc => ?_)
  · replace h := h.1 hc
    refine e_lda (v := 2) (show am_cd 81 10 = (2, 11, 0, 2, []) by decide +kernel) rfl ?_
    refine e_dup (show am_cd 81 11 = (13, 12, 0, 0, []) by decide +kernel) (by decide) ?_
    refine e_getf (a := 2) (tg := 0) (show am_cd 81 12 = (18, 15, 806, 0, [31]) by decide +kernel) (by decide +kernel) (by decide +kernel) rfl ?_
    refine e_ic (show am_cd 81 15 = (0, 16, 0, 1, []) by decide +kernel) ?_
    refine e_iadd (show am_cd 81 16 = (5, 17, 0, 0, []) by decide +kernel) ?_
    refine e_putf (a := 2) (show am_cd 81 17 = (19, 20, 806, 0, [31]) by decide +kernel) (by decide +kernel) (by decide +kernel) rfl (fun h9 => absurd h9 (by decide)) (fun h9 => absurd h9 (by decide +kernel)) ?_
    refine e_ic (show am_cd 81 20 = (0, 21, 0, 1, []) by decide +kernel) ?_
    refine e_retz (show am_cd 81 21 = (36, 22, 0, 0, []) by decide +kernel) (by decide +kernel) (Or.inr rfl) ⟨fun _ h9 => (by cases h9), ?_⟩
    show Ev _ 64 _ 6 [rA 15, rA 2] [(0, 1)] _
    refine e_ifF (show am_cd 64 6 = (10, 9, 26, 0, []) by decide +kernel) (by decide +kernel) ?_
    refine e_lda (v := 15) (show am_cd 64 9 = (2, 10, 0, 2, []) by decide +kernel) rfl ?_
    refine e_getr (a := 15) (r := 17) (show am_cd 64 10 = (18, 13, 701, 2, [15]) by decide +kernel) (by decide +kernel) (by decide +kernel) rfl ?_
    refine e_lda (v := 15) (show am_cd 64 13 = (2, 14, 0, 2, []) by decide +kernel) rfl ?_
    refine e_getfE (a := 15) (tg := 0) (v := w 15 12) (show am_cd 64 14 = (18, 17, 712, 0, [82]) by decide +kernel) (by decide +kernel) (by decide +kernel) rfl rfl ?_
    refine e_ic (show am_cd 64 17 = (0, 18, 0, 0, []) by decide +kernel) ?_
    refine e_iast (a := 17) (n := 9) (show am_cd 64 18 = (24, 19, 0, 0, []) by decide +kernel) (by decide +kernel) (by decide +kernel) (by decide +kernel) h.1 ?_
    replace h := h.2
    refine e_lda (v := 2) (show am_cd 64 19 = (2, 20, 1, 2, []) by decide +kernel) rfl ?_
    refine e_ic (show am_cd 64 20 = (0, 22, 1, 62, []) by decide +kernel) ?_
    refine e_cV (z := 0) (a := 2) (as := [(0, 62)]) (rest := []) (show am_cd 64 22 = (40, 25, 81, 0, [75]) by decide +kernel) (by decide +kernel) rfl rfl (Nat.le_of_ble_eq_true rfl) rfl ?_
    show Ev _ 81 _ 0 [rA 2, (0, 62)] [] _
    refine e_lda (v := 2) (show am_cd 81 0 = (2, 1, 0, 2, []) by decide +kernel) rfl ?_
    refine e_cV (z := 0) (a := 2) (as := []) (rest := []) (show am_cd 81 1 = (40, 4, 80, 0, [34]) by decide +kernel) (by decide +kernel) rfl rfl (Nat.le_of_ble_eq_true rfl) rfl ?_
    refine Cl.mono (Cl.up (c_ahd (tx := tx) (d := d) h.1) (by omega)) ?_
    rintro _ _ ⟨rfl, rfl⟩
    refine ⟨fun _ h9 => (by cases h9), ?_⟩
    replace h := h.2
    show Ev _ 81 _ 4 [rA 2, (0, 62)] [(0, hr tx ((wu (wu w 2 6 ((w 2 6) + 1)) 17 (w32 (w 15 12)).toNat 0) 2 6).toNat)] _
    refine e_ldi (show am_cd 81 4 = (2, 5, 1, 0, []) by decide +kernel) rfl ?_
    refine e_cmp0 (show am_cd 81 5 = (11, 8, 10, 0, []) by decide +kernel) (fun hc => ?_) (fun hc => ?_)
    · replace h := h.1 hc
      refine e_lda (v := 2) (show am_cd 81 10 = (2, 11, 0, 2, []) by decide +kernel) rfl ?_
      refine e_dup (show am_cd 81 11 = (13, 12, 0, 0, []) by decide +kernel) (by decide) ?_
      refine e_getfE (a := 2) (tg := 0) (v := (w 2 6) + 1) (show am_cd 81 12 = (18, 15, 806, 0, [31]) by decide +kernel) (by decide +kernel) (by decide +kernel) rfl rfl ?_
      refine e_ic (show am_cd 81 15 = (0, 16, 0, 1, []) by decide +kernel) ?_
      refine e_iadd (show am_cd 81 16 = (5, 17, 0, 0, []) by decide +kernel) ?_
      refine e_putf (a := 2) (show am_cd 81 17 = (19, 20, 806, 0, [31]) by decide +kernel) (by decide +kernel) (by decide +kernel) rfl (fun h9 => absurd h9 (by decide)) (fun h9 => absurd h9 (by decide +kernel)) ?_
      refine e_ic (show am_cd 81 20 = (0, 21, 0, 1, []) by decide +kernel) ?_
      refine e_retz (show am_cd 81 21 = (36, 22, 0, 0, []) by decide +kernel) (by decide +kernel) (Or.inr rfl) ⟨fun _ h9 => (by cases h9), ?_⟩
      show Ev _ 64 _ 25 [rA 15, rA 2] [(0, 1)] _
      exact e_retz (show am_cd 64 25 = (36, 26, 0, 0, []) by decide +kernel) (by decide +kernel) (Or.inr rfl) h
    · replace h := h.2 hc
      refine e_ic (show am_cd 81 8 = (0, 9, 0, 0, []) by decide +kernel) ?_
      refine e_retz (show am_cd 81 9 = (36, 10, 0, 0, []) by decide +kernel) (by decide +kernel) (Or.inl rfl) ⟨fun _ h9 => (by cases h9), ?_⟩
      show Ev _ 64 _ 25 [rA 15, rA 2] [(0, 0)] _
      exact e_retz (show am_cd 64 25 = (36, 26, 0, 0, []) by decide +kernel) (by decide +kernel) (Or.inl rfl) h
  · replace h := h.2 hc
    refine e_ic (show am_cd 81 8 = (0, 9, 0, 0, []) by decide +kernel) ?_
    refine e_retz (show am_cd 81 9 = (36, 10, 0, 0, []) by decide +kernel) (by decide +kernel) (Or.inl rfl) ⟨fun _ h9 => (by cases h9), ?_⟩
    show Ev _ 64 _ 6 [rA 15, rA 2] [(0, 0)] _
    refine e_ifT (show am_cd 64 6 = (10, 9, 26, 0, []) by decide +kernel) (by decide +kernel) ?_
    refine e_lda (v := 2) (show am_cd 64 26 = (2, 27, 1, 2, []) by decide +kernel) rfl ?_
    refine e_ic (show am_cd 64 27 = (0, 29, 1, 47, []) by decide +kernel) ?_
    refine e_cV (z := 0) (a := 2) (as := [(0, 47)]) (rest := []) (show am_cd 64 29 = (40, 32, 81, 0, [75]) by decide +kernel) (by decide +kernel) rfl rfl (Nat.le_of_ble_eq_true rfl) rfl ?_
    show Ev _ 81 _ 0 [rA 2, (0, 47)] [] _
    refine e_lda (v := 2) (show am_cd 81 0 = (2, 1, 0, 2, []) by decide +kernel) rfl ?_
    refine e_cV (z := 0) (a := 2) (as := []) (rest := []) (show am_cd 81 1 = (40, 4, 80, 0, [34]) by decide +kernel) (by decide +kernel) rfl rfl (Nat.le_of_ble_eq_true rfl) rfl ?_
    refine Cl.mono (Cl.up (c_ahd (tx := tx) (d := d) h.1) (by omega)) ?_
    rintro _ _ ⟨rfl, rfl⟩
    refine ⟨fun _ h9 => (by cases h9), ?_⟩
    replace h := h.2
    show Ev _ 81 _ 4 [rA 2, (0, 47)] [(0, hr tx (w 2 6).toNat)] _
    refine e_ldi (show am_cd 81 4 = (2, 5, 1, 0, []) by decide +kernel) rfl ?_
    refine e_cmp0 (show am_cd 81 5 = (11, 8, 10, 0, []) by decide +kernel) (fun hc => ?_) (fun hc => ?_)
    · replace h := h.1 hc
      refine e_lda (v := 2) (show am_cd 81 10 = (2, 11, 0, 2, []) by decide +kernel) rfl ?_
      refine e_dup (show am_cd 81 11 = (13, 12, 0, 0, []) by decide +kernel) (by decide) ?_
      refine e_getf (a := 2) (tg := 0) (show am_cd 81 12 = (18, 15, 806, 0, [31]) by decide +kernel) (by decide +kernel) (by decide +kernel) rfl ?_
      refine e_ic (show am_cd 81 15 = (0, 16, 0, 1, []) by decide +kernel) ?_
      refine e_iadd (show am_cd 81 16 = (5, 17, 0, 0, []) by decide +kernel) ?_
      refine e_putf (a := 2) (show am_cd 81 17 = (19, 20, 806, 0, [31]) by decide +kernel) (by decide +kernel) (by decide +kernel) rfl (fun h9 => absurd h9 (by decide)) (fun h9 => absurd h9 (by decide +kernel)) ?_
      refine e_ic (show am_cd 81 20 = (0, 21, 0, 1, []) by decide +kernel) ?_
      refine e_retz (show am_cd 81 21 = (36, 22, 0, 0, []) by decide +kernel) (by decide +kernel) (Or.inr rfl) ⟨fun _ h9 => (by cases h9), ?_⟩
      show Ev _ 64 _ 32 [rA 15, rA 2] [(0, 1)] _
      refine e_ifF (show am_cd 64 32 = (10, 35, 69, 0, []) by decide +kernel) (by decide +kernel) ?_
      refine e_lda (v := 15) (show am_cd 64 35 = (2, 36, 0, 2, []) by decide +kernel) rfl ?_
      refine e_getr (a := 15) (r := 17) (show am_cd 64 36 = (18, 39, 701, 2, [15]) by decide +kernel) (by decide +kernel) (by decide +kernel) rfl ?_
      refine e_lda (v := 15) (show am_cd 64 39 = (2, 40, 0, 2, []) by decide +kernel) rfl ?_
      refine e_getfE (a := 15) (tg := 0) (v := w 15 12) (show am_cd 64 40 = (18, 43, 712, 0, [82]) by decide +kernel) (by decide +kernel) (by decide +kernel) rfl rfl ?_
      refine e_ic (show am_cd 64 43 = (0, 44, 0, 3, []) by decide +kernel) ?_
      refine e_iast (a := 17) (n := 9) (show am_cd 64 44 = (24, 45, 0, 0, []) by decide +kernel) (by decide +kernel) (by decide +kernel) (by decide +kernel) h.1 ?_
      replace h := h.2
      refine e_lda (v := 2) (show am_cd 64 45 = (2, 46, 1, 2, []) by decide +kernel) rfl ?_
      refine e_ic (show am_cd 64 46 = (0, 48, 1, 60, []) by decide +kernel) ?_
      refine e_cV (z := 0) (a := 2) (as := [(0, 60)]) (rest := []) (show am_cd 64 48 = (40, 51, 81, 0, [75]) by decide +kernel) (by decide +kernel) rfl rfl (Nat.le_of_ble_eq_true rfl) rfl ?_
      show Ev _ 81 _ 0 [rA 2, (0, 60)] [] _
      refine e_lda (v := 2) (show am_cd 81 0 = (2, 1, 0, 2, []) by decide +kernel) rfl ?_
      refine e_cV (z := 0) (a := 2) (as := []) (rest := []) (show am_cd 81 1 = (40, 4, 80, 0, [34]) by decide +kernel) (by decide +kernel) rfl rfl (Nat.le_of_ble_eq_true rfl) rfl ?_
      refine Cl.mono (Cl.up (c_ahd (tx := tx) (d := d) h.1) (by omega)) ?_
      rintro _ _ ⟨rfl, rfl⟩
      refine ⟨fun _ h9 => (by cases h9), ?_⟩
      replace h := h.2
      show Ev _ 81 _ 4 [rA 2, (0, 60)] [(0, hr tx ((wu (wu w 2 6 ((w 2 6) + 1)) 17 (w32 (w 15 12)).toNat 3) 2 6).toNat)] _
      refine e_ldi (show am_cd 81 4 = (2, 5, 1, 0, []) by decide +kernel) rfl ?_
      refine e_cmp0 (show am_cd 81 5 = (11, 8, 10, 0, []) by decide +kernel) (fun hc => ?_) (fun hc => ?_)
      · replace h := h.1 hc
        refine e_lda (v := 2) (show am_cd 81 10 = (2, 11, 0, 2, []) by decide +kernel) rfl ?_
        refine e_dup (show am_cd 81 11 = (13, 12, 0, 0, []) by decide +kernel) (by decide) ?_
        refine e_getfE (a := 2) (tg := 0) (v := (w 2 6) + 1) (show am_cd 81 12 = (18, 15, 806, 0, [31]) by decide +kernel) (by decide +kernel) (by decide +kernel) rfl rfl ?_
        refine e_ic (show am_cd 81 15 = (0, 16, 0, 1, []) by decide +kernel) ?_
        refine e_iadd (show am_cd 81 16 = (5, 17, 0, 0, []) by decide +kernel) ?_
        refine e_putf (a := 2) (show am_cd 81 17 = (19, 20, 806, 0, [31]) by decide +kernel) (by decide +kernel) (by decide +kernel) rfl (fun h9 => absurd h9 (by decide)) (fun h9 => absurd h9 (by decide +kernel)) ?_
        refine e_ic (show am_cd 81 20 = (0, 21, 0, 1, []) by decide +kernel) ?_
        refine e_retz (show am_cd 81 21 = (36, 22, 0, 0, []) by decide +kernel) (by decide +kernel) (Or.inr rfl) ⟨fun _ h9 => (by cases h9), ?_⟩
        show Ev _ 64 _ 51 [rA 15, rA 2] [(0, 1)] _
        refine e_ifF (show am_cd 64 51 = (10, 54, 67, 0, []) by decide +kernel) (by decide +kernel) ?_
        refine e_lda (v := 2) (show am_cd 64 54 = (2, 55, 1, 2, []) by decide +kernel) rfl ?_
        refine e_ic (show am_cd 64 55 = (0, 57, 1, 61, []) by decide +kernel) ?_
        refine e_cV (z := 0) (a := 2) (as := [(0, 61)]) (rest := []) (show am_cd 64 57 = (40, 60, 81, 0, [75]) by decide +kernel) (by decide +kernel) rfl rfl (Nat.le_of_ble_eq_true rfl) rfl ?_
        show Ev _ 81 _ 0 [rA 2, (0, 61)] [] _
        refine e_lda (v := 2) (show am_cd 81 0 = (2, 1, 0, 2, []) by decide +kernel) rfl ?_
        refine e_cV (z := 0) (a := 2) (as := []) (rest := []) (show am_cd 81 1 = (40, 4, 80, 0, [34]) by decide +kernel) (by decide +kernel) rfl rfl (Nat.le_of_ble_eq_true rfl) rfl ?_
        refine Cl.mono (Cl.up (c_ahd (tx := tx) (d := d) h.1) (by omega)) ?_
        rintro _ _ ⟨rfl, rfl⟩
        refine ⟨fun _ h9 => (by cases h9), ?_⟩
        replace h := h.2
        show Ev _ 81 _ 4 [rA 2, (0, 61)] [(0, hr tx ((wu (wu (wu w 2 6 ((w 2 6) + 1)) 17 (w32 (w 15 12)).toNat 3) 2 6 (((w 2 6) + 1) + 1)) 2 6).toNat)] _
        refine e_ldi (show am_cd 81 4 = (2, 5, 1, 0, []) by decide +kernel) rfl ?_
        refine e_cmp0 (show am_cd 81 5 = (11, 8, 10, 0, []) by decide +kernel) (fun hc => ?_) (fun hc => ?_)
        · replace h := h.1 hc
          refine e_lda (v := 2) (show am_cd 81 10 = (2, 11, 0, 2, []) by decide +kernel) rfl ?_
          refine e_dup (show am_cd 81 11 = (13, 12, 0, 0, []) by decide +kernel) (by decide) ?_
          refine e_getfE (a := 2) (tg := 0) (v := ((w 2 6) + 1) + 1) (show am_cd 81 12 = (18, 15, 806, 0, [31]) by decide +kernel) (by decide +kernel) (by decide +kernel) rfl rfl ?_
          refine e_ic (show am_cd 81 15 = (0, 16, 0, 1, []) by decide +kernel) ?_
          refine e_iadd (show am_cd 81 16 = (5, 17, 0, 0, []) by decide +kernel) ?_
          refine e_putf (a := 2) (show am_cd 81 17 = (19, 20, 806, 0, [31]) by decide +kernel) (by decide +kernel) (by decide +kernel) rfl (fun h9 => absurd h9 (by decide)) (fun h9 => absurd h9 (by decide +kernel)) ?_
          refine e_ic (show am_cd 81 20 = (0, 21, 0, 1, []) by decide +kernel) ?_
          refine e_retz (show am_cd 81 21 = (36, 22, 0, 0, []) by decide +kernel) (by decide +kernel) (Or.inr rfl) ⟨fun _ h9 => (by cases h9), ?_⟩
          show Ev _ 64 _ 60 [rA 15, rA 2] [(0, 1)] _
          refine e_ifF (show am_cd 64 60 = (10, 63, 67, 0, []) by decide +kernel) (by decide +kernel) ?_
          refine e_ic (show am_cd 64 63 = (0, 64, 0, 1, []) by decide +kernel) ?_
          refine e_go (show am_cd 64 64 = (12, 68, 0, 0, []) by decide +kernel) ?_
          exact e_retz (show am_cd 64 68 = (36, 69, 0, 0, []) by decide +kernel) (by decide +kernel) (Or.inr rfl) h
        · replace h := h.2 hc
          refine e_ic (show am_cd 81 8 = (0, 9, 0, 0, []) by decide +kernel) ?_
          refine e_retz (show am_cd 81 9 = (36, 10, 0, 0, []) by decide +kernel) (by decide +kernel) (Or.inl rfl) ⟨fun _ h9 => (by cases h9), ?_⟩
          show Ev _ 64 _ 60 [rA 15, rA 2] [(0, 0)] _
          refine e_ifT (show am_cd 64 60 = (10, 63, 67, 0, []) by decide +kernel) (by decide +kernel) ?_
          refine e_ic (show am_cd 64 67 = (0, 68, 0, 0, []) by decide +kernel) ?_
          exact e_retz (show am_cd 64 68 = (36, 69, 0, 0, []) by decide +kernel) (by decide +kernel) (Or.inl rfl) h
      · replace h := h.2 hc
        refine e_ic (show am_cd 81 8 = (0, 9, 0, 0, []) by decide +kernel) ?_
        refine e_retz (show am_cd 81 9 = (36, 10, 0, 0, []) by decide +kernel) (by decide +kernel) (Or.inl rfl) ⟨fun _ h9 => (by cases h9), ?_⟩
        show Ev _ 64 _ 51 [rA 15, rA 2] [(0, 0)] _
        refine e_ifT (show am_cd 64 51 = (10, 54, 67, 0, []) by decide +kernel) (by decide +kernel) ?_
        refine e_ic (show am_cd 64 67 = (0, 68, 0, 0, []) by decide +kernel) ?_
        exact e_retz (show am_cd 64 68 = (36, 69, 0, 0, []) by decide +kernel) (by decide +kernel) (Or.inl rfl) h
    · replace h := h.2 hc
      refine e_ic (show am_cd 81 8 = (0, 9, 0, 0, []) by decide +kernel) ?_
      refine e_retz (show am_cd 81 9 = (36, 10, 0, 0, []) by decide +kernel) (by decide +kernel) (Or.inl rfl) ⟨fun _ h9 => (by cases h9), ?_⟩
      show Ev _ 64 _ 32 [rA 15, rA 2] [(0, 0)] _
      refine e_ifT (show am_cd 64 32 = (10, 35, 69, 0, []) by decide +kernel) (by decide +kernel) ?_
      refine e_lda (v := 2) (show am_cd 64 69 = (2, 70, 1, 2, []) by decide +kernel) rfl ?_
      refine e_ic (show am_cd 64 70 = (0, 72, 1, 60, []) by decide +kernel) ?_
      refine e_cV (z := 0) (a := 2) (as := [(0, 60)]) (rest := []) (show am_cd 64 72 = (40, 75, 81, 0, [75]) by decide +kernel) (by decide +kernel) rfl rfl (Nat.le_of_ble_eq_true rfl) rfl ?_
      show Ev _ 81 _ 0 [rA 2, (0, 60)] [] _
      refine e_lda (v := 2) (show am_cd 81 0 = (2, 1, 0, 2, []) by decide +kernel) rfl ?_
      refine e_cV (z := 0) (a := 2) (as := []) (rest := []) (show am_cd 81 1 = (40, 4, 80, 0, [34]) by decide +kernel) (by decide +kernel) rfl rfl (Nat.le_of_ble_eq_true rfl) rfl ?_
      refine Cl.mono (Cl.up (c_ahd (tx := tx) (d := d) h.1) (by omega)) ?_
      rintro _ _ ⟨rfl, rfl⟩
      refine ⟨fun _ h9 => (by cases h9), ?_⟩
      replace h := h.2
      show Ev _ 81 _ 4 [rA 2, (0, 60)] [(0, hr tx (w 2 6).toNat)] _
      refine e_ldi (show am_cd 81 4 = (2, 5, 1, 0, []) by decide +kernel) rfl ?_
      refine e_cmp0 (show am_cd 81 5 = (11, 8, 10, 0, []) by decide +kernel) (fun hc => ?_) (fun hc => ?_)
      · replace h := h.1 hc
        refine e_lda (v := 2) (show am_cd 81 10 = (2, 11, 0, 2, []) by decide +kernel) rfl ?_
        refine e_dup (show am_cd 81 11 = (13, 12, 0, 0, []) by decide +kernel) (by decide) ?_
        refine e_getf (a := 2) (tg := 0) (show am_cd 81 12 = (18, 15, 806, 0, [31]) by decide +kernel) (by decide +kernel) (by decide +kernel) rfl ?_
        refine e_ic (show am_cd 81 15 = (0, 16, 0, 1, []) by decide +kernel) ?_
        refine e_iadd (show am_cd 81 16 = (5, 17, 0, 0, []) by decide +kernel) ?_
        refine e_putf (a := 2) (show am_cd 81 17 = (19, 20, 806, 0, [31]) by decide +kernel) (by decide +kernel) (by decide +kernel) rfl (fun h9 => absurd h9 (by decide)) (fun h9 => absurd h9 (by decide +kernel)) ?_
        refine e_ic (show am_cd 81 20 = (0, 21, 0, 1, []) by decide +kernel) ?_
        refine e_retz (show am_cd 81 21 = (36, 22, 0, 0, []) by decide +kernel) (by decide +kernel) (Or.inr rfl) ⟨fun _ h9 => (by cases h9), ?_⟩
        show Ev _ 64 _ 75 [rA 15, rA 2] [(0, 1)] _
        refine e_ifF (show am_cd 64 75 = (10, 78, 87, 0, []) by decide +kernel) (by decide +kernel) ?_
        refine e_lda (v := 2) (show am_cd 64 78 = (2, 79, 1, 2, []) by decide +kernel) rfl ?_
        refine e_ic (show am_cd 64 79 = (0, 81, 1, 61, []) by decide +kernel) ?_
        refine e_cV (z := 0) (a := 2) (as := [(0, 61)]) (rest := []) (show am_cd 64 81 = (40, 84, 81, 0, [75]) by decide +kernel) (by decide +kernel) rfl rfl (Nat.le_of_ble_eq_true rfl) rfl ?_
        show Ev _ 81 _ 0 [rA 2, (0, 61)] [] _
        refine e_lda (v := 2) (show am_cd 81 0 = (2, 1, 0, 2, []) by decide +kernel) rfl ?_
        refine e_cV (z := 0) (a := 2) (as := []) (rest := []) (show am_cd 81 1 = (40, 4, 80, 0, [34]) by decide +kernel) (by decide +kernel) rfl rfl (Nat.le_of_ble_eq_true rfl) rfl ?_
        refine Cl.mono (Cl.up (c_ahd (tx := tx) (d := d) h.1) (by omega)) ?_
        rintro _ _ ⟨rfl, rfl⟩
        refine ⟨fun _ h9 => (by cases h9), ?_⟩
        replace h := h.2
        show Ev _ 81 _ 4 [rA 2, (0, 61)] [(0, hr tx ((wu w 2 6 ((w 2 6) + 1)) 2 6).toNat)] _
        refine e_ldi (show am_cd 81 4 = (2, 5, 1, 0, []) by decide +kernel) rfl ?_
        refine e_cmp0 (show am_cd 81 5 = (11, 8, 10, 0, []) by decide +kernel) (fun hc => ?_) (fun hc => ?_)
        · replace h := h.1 hc
          refine e_lda (v := 2) (show am_cd 81 10 = (2, 11, 0, 2, []) by decide +kernel) rfl ?_
          refine e_dup (show am_cd 81 11 = (13, 12, 0, 0, []) by decide +kernel) (by decide) ?_
          refine e_getfE (a := 2) (tg := 0) (v := (w 2 6) + 1) (show am_cd 81 12 = (18, 15, 806, 0, [31]) by decide +kernel) (by decide +kernel) (by decide +kernel) rfl rfl ?_
          refine e_ic (show am_cd 81 15 = (0, 16, 0, 1, []) by decide +kernel) ?_
          refine e_iadd (show am_cd 81 16 = (5, 17, 0, 0, []) by decide +kernel) ?_
          refine e_putf (a := 2) (show am_cd 81 17 = (19, 20, 806, 0, [31]) by decide +kernel) (by decide +kernel) (by decide +kernel) rfl (fun h9 => absurd h9 (by decide)) (fun h9 => absurd h9 (by decide +kernel)) ?_
          refine e_ic (show am_cd 81 20 = (0, 21, 0, 1, []) by decide +kernel) ?_
          refine e_retz (show am_cd 81 21 = (36, 22, 0, 0, []) by decide +kernel) (by decide +kernel) (Or.inr rfl) ⟨fun _ h9 => (by cases h9), ?_⟩
          show Ev _ 64 _ 84 [rA 15, rA 2] [(0, 1)] _
          refine e_ifT (show am_cd 64 84 = (10, 87, 89, 1, []) by decide +kernel) (by decide +kernel) ?_
          refine e_lda (v := 15) (show am_cd 64 89 = (2, 90, 0, 2, []) by decide +kernel) rfl ?_
          refine e_getr (a := 15) (r := 17) (show am_cd 64 90 = (18, 93, 701, 2, [15]) by decide +kernel) (by decide +kernel) (by decide +kernel) rfl ?_
          refine e_lda (v := 15) (show am_cd 64 93 = (2, 94, 0, 2, []) by decide +kernel) rfl ?_
          refine e_getfE (a := 15) (tg := 0) (v := w 15 12) (show am_cd 64 94 = (18, 97, 712, 0, [82]) by decide +kernel) (by decide +kernel) (by decide +kernel) rfl rfl ?_
          refine e_lda (v := 2) (show am_cd 64 97 = (2, 98, 1, 2, []) by decide +kernel) rfl ?_
          refine e_ic (show am_cd 64 98 = (0, 100, 1, 62, []) by decide +kernel) ?_
          refine e_cV (z := 0) (a := 2) (as := [(0, 62)]) (rest := [(0, w 15 12), rA 17]) (show am_cd 64 100 = (40, 103, 81, 0, [75]) by decide +kernel) (by decide +kernel) rfl rfl (Nat.le_of_ble_eq_true rfl) rfl ?_
          show Ev _ 81 _ 0 [rA 2, (0, 62)] [] _
          refine e_lda (v := 2) (show am_cd 81 0 = (2, 1, 0, 2, []) by decide +kernel) rfl ?_
          refine e_cV (z := 0) (a := 2) (as := []) (rest := []) (show am_cd 81 1 = (40, 4, 80, 0, [34]) by decide +kernel) (by decide +kernel) rfl rfl (Nat.le_of_ble_eq_true rfl) rfl ?_
          refine Cl.mono (Cl.up (c_ahd (tx := tx) (d := d) h.1) (by omega)) ?_
          rintro _ _ ⟨rfl, rfl⟩
          refine ⟨fun _ h9 => (by cases h9), ?_⟩
          replace h := h.2
          show Ev _ 81 _ 4 [rA 2, (0, 62)] [(0, hr tx ((wu (wu w 2 6 ((w 2 6) + 1)) 2 6 (((w 2 6) + 1) + 1)) 2 6).toNat)] _
          refine e_ldi (show am_cd 81 4 = (2, 5, 1, 0, []) by decide +kernel) rfl ?_
          refine e_cmp0 (show am_cd 81 5 = (11, 8, 10, 0, []) by decide +kernel) (fun hc => ?_) (fun hc => ?_)
          · replace h := h.1 hc
            refine e_lda (v := 2) (show am_cd 81 10 = (2, 11, 0, 2, []) by decide +kernel) rfl ?_
            refine e_dup (show am_cd 81 11 = (13, 12, 0, 0, []) by decide +kernel) (by decide) ?_
            refine e_getfE (a := 2) (tg := 0) (v := ((w 2 6) + 1) + 1) (show am_cd 81 12 = (18, 15, 806, 0, [31]) by decide +kernel) (by decide +kernel) (by decide +kernel) rfl rfl ?_
            refine e_ic (show am_cd 81 15 = (0, 16, 0, 1, []) by decide +kernel) ?_
            refine e_iadd (show am_cd 81 16 = (5, 17, 0, 0, []) by decide +kernel) ?_
            refine e_putf (a := 2) (show am_cd 81 17 = (19, 20, 806, 0, [31]) by decide +kernel) (by decide +kernel) (by decide +kernel) rfl (fun h9 => absurd h9 (by decide)) (fun h9 => absurd h9 (by decide +kernel)) ?_
            refine e_ic (show am_cd 81 20 = (0, 21, 0, 1, []) by decide +kernel) ?_
            refine e_retz (show am_cd 81 21 = (36, 22, 0, 0, []) by decide +kernel) (by decide +kernel) (Or.inr rfl) ⟨fun _ h9 => (by cases h9), ?_⟩
            show Ev _ 64 _ 103 [rA 15, rA 2] [(0, 1), (0, w 15 12), rA 17] _
            refine e_ifF (show am_cd 64 103 = (10, 106, 110, 0, []) by decide +kernel) (by decide +kernel) ?_
            refine e_ic (show am_cd 64 106 = (0, 107, 0, 2, []) by decide +kernel) ?_
            refine e_go (show am_cd 64 107 = (12, 111, 0, 0, []) by decide +kernel) ?_
            refine e_iast (a := 17) (n := 9) (show am_cd 64 111 = (24, 112, 0, 0, []) by decide +kernel) (by decide +kernel) (by decide +kernel) (by decide +kernel) h.1 ?_
            replace h := h.2
            refine e_ic (show am_cd 64 112 = (0, 113, 0, 1, []) by decide +kernel) ?_
            exact e_retz (show am_cd 64 113 = (36, 114, 0, 0, []) by decide +kernel) (by decide +kernel) (Or.inr rfl) h
          · replace h := h.2 hc
            refine e_ic (show am_cd 81 8 = (0, 9, 0, 0, []) by decide +kernel) ?_
            refine e_retz (show am_cd 81 9 = (36, 10, 0, 0, []) by decide +kernel) (by decide +kernel) (Or.inl rfl) ⟨fun _ h9 => (by cases h9), ?_⟩
            show Ev _ 64 _ 103 [rA 15, rA 2] [(0, 0), (0, w 15 12), rA 17] _
            refine e_ifT (show am_cd 64 103 = (10, 106, 110, 0, []) by decide +kernel) (by decide +kernel) ?_
            refine e_ic (show am_cd 64 110 = (0, 111, 0, 1, []) by decide +kernel) ?_
            refine e_iast (a := 17) (n := 9) (show am_cd 64 111 = (24, 112, 0, 0, []) by decide +kernel) (by decide +kernel) (by decide +kernel) (by decide +kernel) h.1 ?_
            replace h := h.2
            refine e_ic (show am_cd 64 112 = (0, 113, 0, 1, []) by decide +kernel) ?_
            exact e_retz (show am_cd 64 113 = (36, 114, 0, 0, []) by decide +kernel) (by decide +kernel) (Or.inr rfl) h
        · replace h := h.2 hc
          refine e_ic (show am_cd 81 8 = (0, 9, 0, 0, []) by decide +kernel) ?_
          refine e_retz (show am_cd 81 9 = (36, 10, 0, 0, []) by decide +kernel) (by decide +kernel) (Or.inl rfl) ⟨fun _ h9 => (by cases h9), ?_⟩
          show Ev _ 64 _ 84 [rA 15, rA 2] [(0, 0)] _
          refine e_ifF (show am_cd 64 84 = (10, 87, 89, 1, []) by decide +kernel) (by decide +kernel) ?_
          refine e_ic (show am_cd 64 87 = (0, 88, 0, 0, []) by decide +kernel) ?_
          exact e_retz (show am_cd 64 88 = (36, 89, 0, 0, []) by decide +kernel) (by decide +kernel) (Or.inl rfl) h
      · replace h := h.2 hc
        refine e_ic (show am_cd 81 8 = (0, 9, 0, 0, []) by decide +kernel) ?_
        refine e_retz (show am_cd 81 9 = (36, 10, 0, 0, []) by decide +kernel) (by decide +kernel) (Or.inl rfl) ⟨fun _ h9 => (by cases h9), ?_⟩
        show Ev _ 64 _ 75 [rA 15, rA 2] [(0, 0)] _
        refine e_ifT (show am_cd 64 75 = (10, 78, 87, 0, []) by decide +kernel) (by decide +kernel) ?_
        refine e_ic (show am_cd 64 87 = (0, 88, 0, 0, []) by decide +kernel) ?_
        exact e_retz (show am_cd 64 88 = (36, 89, 0, 0, []) by decide +kernel) (by decide +kernel) (Or.inl rfl) h

theorem c_town {d : Nat} {w : eW} {t : eT} {tx : List Int} (hT : TC w tx) : Cl (d + 2) 63 [rA 15, rA 2] (enc w t) (fun r S2 => ∃ x w2, r = some (0, x) ∧ S2 = enc w2 t ∧ Fc [] [(2, 6), (15, 13), (15, 14)] w w2 ∧ TC w2 tx ∧ RQ (rdW tx (w 2 6).toNat) x w2 (fun y => w2 15 13 = cdI y.1 ∧ w2 15 14 = cdI y.2 ∧ (0 ≤ y.1 ∧ y.1 ≤ 27) ∧ (0 ≤ y.2 ∧ y.2 ≤ 27))) := by
  have hb := hT.b
  obtain ⟨p, hp⟩ : ∃ p : Nat, w 2 6 = (p : Int) := ⟨(w 2 6).toNat, by omega⟩
  have hc1 := caI_b tx p
  have hc2 := caI_b tx (p + 2)
  have hh := hT.hrb (p + 1)
  refine g_town (m := w) ⟨hT, ?_⟩
  simp only [wu_wu, wu_eq, hp, Int.toNat_natCast, show ∀ x : Nat, ((x : Int) + 1).toNat = x + 1 from fun x => by omega, show ∀ x : Nat, ((x : Int) + 1 + 1).toNat = x + 2 from fun x => by omega]
  simp (disch := omega) only [w32_id]
  refine ⟨fun hc => ?_, fun hc => ?_⟩
  · cases hs : sgO (hr tx p) with
    | none => exact absurd (caI_n.mpr hs) hc
    | some s =>
      obtain ⟨es, hs1, hpl⟩ := caI_s hs
      refine ⟨hT.of rfl rfl (by constructor <;> (simp [wu]) <;> omega), fun h58 => ?_, fun h58 => ?_⟩
      · have hp1 := hr_in h58 (by decide)
        refine ⟨hT.of rfl rfl (by constructor <;> (simp [wu]) <;> omega), fun hm => ?_, fun hm => ?_⟩
        · cases hs2 : sgO (hr tx (p + 2)) with
          | none => exact absurd (caI_n.mpr hs2) hm
          | some s2 =>
            obtain ⟨es2, hs21, hpl2⟩ := caI_s hs2
            refine ⟨1, _, rfl, rfl, (((Fc.pf (by decide)).tr (Fc.pf (by decide))).tr (Fc.pf (by decide))).tr (Fc.pf (by decide)), hT.of rfl rfl (by constructor <;> (simp [wu]) <;> omega), ?_⟩
            have e : rdW tx p = .ok ((s, s2), p + 3) := by
              unfold rdW
              rw [rdS_s hs]
              dsimp only
              rw [if_pos h58, rdS_s (p := p + 1 + 1) hs2]
            rw [e]
            exact ⟨rfl, rfl, es, es2, hs1, hs21⟩
        · have hs2 := caI_n.mp (Classical.not_not.mp hm)
          refine ⟨0, _, rfl, rfl, ((Fc.pf (by decide)).tr (Fc.pf (by decide))).tr (Fc.pf (by decide)), hT.of rfl rfl (by constructor <;> (simp [wu]) <;> omega), ?_⟩
          have e : rdW tx p = .error (p + 2) := by
            unfold rdW
            rw [rdS_s hs]
            dsimp only
            rw [if_pos h58, rdS_n (p := p + 1 + 1) hs2]
          rw [e]
          exact ⟨rfl, rfl⟩
      · refine ⟨0, _, rfl, rfl, (Fc.pf (by decide)).tr (Fc.pf (by decide)), hT.of rfl rfl (by constructor <;> (simp [wu]) <;> omega), ?_⟩
        have e : rdW tx p = .error (p + 1) := by
          unfold rdW
          rw [rdS_s hs]
          dsimp only
          rw [if_neg h58]
        rw [e]
        exact ⟨rfl, rfl⟩
  · have hs := caI_n.mp (Classical.not_not.mp hc)
    refine ⟨0, _, rfl, rfl, Fc.pf (by decide), hT.fr rfl rfl rfl, ?_⟩
    have e : rdW tx p = .error p := by
      unfold rdW
      rw [rdS_n hs]
    rw [e]
    exact ⟨rfl, hp⟩
theorem c_tsort {d n : Nat} {w : eW} {t : eT} {tx : List Int} (hT : TC w tx) (hn : w 15 12 = (n : Int)) (hn2 : n ≤ 8) : Cl (d + 2) 64 [rA 15, rA 2] (enc w t) (fun r S2 => ∃ x w2, r = some (0, x) ∧ S2 = enc w2 t ∧ Fc [17] [(2, 6)] w w2 ∧ (∀ i, i ≠ n → w2 17 i = w 17 i) ∧ TC w2 tx ∧ RQ (rdO tx (w 2 6).toNat) x w2 (fun y => w2 17 n = y ∧ (0 ≤ y ∧ y ≤ 3))) := by
  have hb := hT.b
  obtain ⟨p, hp⟩ : ∃ p : Nat, w 2 6 = (p : Int) := ⟨(w 2 6).toNat, by omega⟩
  have h0 := hT.hrb p
  have h1 := hT.hrb (p + 1)
  have h2 := hT.hrb (p + 2)
  refine g_tsort (m := w) ⟨hT, ?_⟩
  have r6 : ∀ (w : eW) (v : Int), wu (wu w 2 6 ((p : Int) + 1)) 17 n v 2 6 = (p : Int) + 1 := fun _ _ => rfl
  simp only [wu_wu, wu_eq, hp, hn, w32_id (x := (n : Int)) (by omega), Int.toNat_natCast, r6, show ∀ x : Nat, ((x : Int) + 1).toNat = x + 1 from fun x => by omega, show ∀ x : Nat, ((x : Int) + 1 + 1).toNat = x + 2 from fun x => by omega]
  simp (disch := omega) only [w32_id]
  have nn : (0 : Int) ≤ (n : Int) ∧ (n : Int) < 9 := by omega
  have fin : ∀ (x : Int) (w2 : eW), Fc [17] [(2, 6)] w w2 → (∀ i, i ≠ n → w2 17 i = w 17 i) → TC w2 tx → RQ (rdO tx p) x w2 (fun y => w2 17 n = y ∧ (0 ≤ y ∧ y ≤ 3)) → ∃ x' w2', some (0, x) = some (0, x') ∧ enc w2 t = enc w2' t ∧ Fc [17] [(2, 6)] w w2' ∧ (∀ i, i ≠ n → w2' 17 i = w 17 i) ∧ TC w2' tx ∧ RQ (rdO tx p) x' w2' (fun y => w2' 17 n = y ∧ (0 ≤ y ∧ y ≤ 3)) := fun x w2 a b c e => ⟨x, w2, rfl, rfl, a, b, c, e⟩
  refine ⟨fun a1 => ⟨nn, hT.of rfl rfl (by have := hr_in a1 (by decide); constructor <;> (simp [wu]) <;> omega), fun a2 => fin _ _ (((Fc.pf (by decide)).tr (Fc.pr (by decide))).tr (Fc.pf (by decide))) (fun i hi => by simp [wu, hi]) (hT.of rfl rfl (by have := hr_in a1 (by decide); have := hr_in a2 (by decide); constructor <;> (simp [wu]) <;> omega)) (by unfold rdO RQ; rw [if_pos a1, if_pos a2]; exact ⟨rfl, rfl, by simp [wu], by simp⟩), fun a2 => fin _ _ ((Fc.pf (by decide)).tr (Fc.pr (by decide))) (fun i hi => by simp [wu, hi]) (hT.of rfl rfl (by have := hr_in a1 (by decide); constructor <;> (simp [wu]) <;> omega)) (by unfold rdO RQ; rw [if_pos a1, if_neg a2]; exact ⟨rfl, rfl⟩)⟩, fun a1 => ⟨hT, fun b1 => ⟨nn, hT.of rfl rfl (by have := hr_in b1 (by decide); constructor <;> (simp [wu]) <;> omega), fun b2 => ⟨hT.of rfl rfl (by have := hr_in b1 (by decide); have := hr_in b2 (by decide); constructor <;> (simp [wu]) <;> omega), fun b3 => fin _ _ (((Fc.pf (by decide)).tr (Fc.pr (by decide))).tr (Fc.pf (by decide))) (fun i hi => by simp [wu, hi]) (hT.of rfl rfl (by have := hr_in b1 (by decide); have := hr_in b2 (by decide); have := hr_in b3 (by decide); constructor <;> (simp [wu]) <;> omega)) (by unfold rdO RQ; rw [if_neg a1, if_pos b1, if_pos b2, if_pos b3]; exact ⟨rfl, rfl, by simp [wu], by simp⟩), fun b3 => fin _ _ (((Fc.pf (by decide)).tr (Fc.pr (by decide))).tr (Fc.pf (by decide))) (fun i hi => by simp [wu, hi]) (hT.of rfl rfl (by have := hr_in b1 (by decide); have := hr_in b2 (by decide); constructor <;> (simp [wu]) <;> omega)) (by unfold rdO RQ; rw [if_neg a1, if_pos b1, if_pos b2, if_neg b3]; exact ⟨rfl, rfl⟩)⟩, fun b2 => fin _ _ ((Fc.pf (by decide)).tr (Fc.pr (by decide))) (fun i hi => by simp [wu, hi]) (hT.of rfl rfl (by have := hr_in b1 (by decide); constructor <;> (simp [wu]) <;> omega)) (by unfold rdO RQ; rw [if_neg a1, if_pos b1, if_neg b2]; exact ⟨rfl, rfl⟩)⟩, fun b1 => ⟨hT, fun c1 => ⟨hT.of rfl rfl (by have := hr_in c1 (by decide); constructor <;> (simp [wu]) <;> omega), fun c2 => ⟨hT.of rfl rfl (by have := hr_in c1 (by decide); have := hr_in c2 (by decide); constructor <;> (simp [wu]) <;> omega), fun c3 => ⟨nn, fin _ _ ((Fc.pf (by decide)).tr (Fc.pr (by decide))) (fun i hi => by simp [wu, hi]) (hT.of rfl rfl (by have := hr_in c1 (by decide); have := hr_in c2 (by decide); have := hr_in c3 (by decide); constructor <;> (simp [wu]) <;> omega)) (by unfold rdO RQ; rw [if_neg a1, if_neg b1, if_pos c1, if_pos c2, if_pos c3]; exact ⟨rfl, rfl, by simp [wu], by simp⟩)⟩, fun c3 => ⟨nn, fin _ _ ((Fc.pf (by decide)).tr (Fc.pr (by decide))) (fun i hi => by simp [wu, hi]) (hT.of rfl rfl (by have := hr_in c1 (by decide); have := hr_in c2 (by decide); constructor <;> (simp [wu]) <;> omega)) (by unfold rdO RQ; rw [if_neg a1, if_neg b1, if_pos c1, if_pos c2, if_neg c3]; exact ⟨rfl, rfl, by simp [wu], by simp⟩)⟩⟩, fun c2 => fin _ _ (Fc.pf (by decide)) (fun i hi => by simp [wu, hi]) (hT.of rfl rfl (by have := hr_in c1 (by decide); constructor <;> (simp [wu]) <;> omega)) (by unfold rdO RQ; rw [if_neg a1, if_neg b1, if_pos c1, if_neg c2]; exact ⟨rfl, rfl⟩)⟩, fun c1 => fin _ _ (Fc.rf _ _ _) (fun i hi => by simp [wu, hi]) (hT) (by unfold rdO RQ; rw [if_neg a1, if_neg b1, if_neg c1]; exact ⟨rfl, hp⟩)⟩⟩⟩

theorem g_tpart {d : Nat} {Q : Option aV → aS → Prop} {w : eW} {t : eT} {e : Int} {tx : List Int} {m : eW} (h : ((w32 e = 0 → Ev (d + 2) 67 Q 21 [rA 15, rA 2, rA 8, (0, e), (9, 0), (9, 0)] [] (enc w t)) ∧ (¬ (w32 e = 0) → (TC w tx) ∧ ((w32 (hr tx (w 2 6).toNat) = w32 35 → Q (some (0, 1)) (enc (wu (wu w 2 6 ((w 2 6) + 1)) 15 15 65536) t)) ∧ (¬ (w32 (hr tx (w 2 6).toNat) = w32 35) → Ev (d + 2) 67 Q 21 [rA 15, rA 2, rA 8, (0, e), (9, 0), (9, 0)] [] (enc w t)))))) : Cl (d + 2) 67 [rA 15, rA 2, rA 8, (0, e)] (enc w t) Q := by
  show Ev (d + 2) 67 Q 0 [rA 15, rA 2, rA 8, (0, e), (9, 0), (9, 0)] [] (enc w t)
  refine e_ldi (show am_cd 67 0 = (2, 1, 3, 0, []) by decide +kernel) rfl ?_
  refine e_if0 (show am_cd 67 1 = (10, 4, 21, 0, []) by decide +kernel) (fun hc => ?_) (fun hc => ?_)
  · replace h := h.1 hc
    exact h
  · replace h := h.2 hc
    refine e_lda (v := 2) (show am_cd 67 4 = (2, 5, 1, 2, []) by decide +kernel) rfl ?_
    refine e_ic (show am_cd 67 5 = (0, 7, 1, 35, []) by decide +kernel) ?_
    refine e_cV (z := 0) (a := 2) (as := [(0, 35)]) (rest := []) (show am_cd 67 7 = (40, 10, 81, 0, [75]) by decide +kernel) (by decide +kernel) rfl rfl (Nat.le_of_ble_eq_true rfl) rfl ?_
    show Ev _ 81 _ 0 [rA 2, (0, 35)] [] _
    refine e_lda (v := 2) (show am_cd 81 0 = (2, 1, 0, 2, []) by decide +kernel) rfl ?_
    refine e_cV (z := 0) (a := 2) (as := []) (rest := []) (show am_cd 81 1 = (40, 4, 80, 0, [34]) by decide +kernel) (by decide +kernel) rfl rfl (Nat.le_of_ble_eq_true rfl) rfl ?_
    refine Cl.mono (Cl.up (c_ahd (tx := tx) (d := d) h.1) (by omega)) ?_
    rintro _ _ ⟨rfl, rfl⟩
    refine ⟨fun _ h9 => (by cases h9), ?_⟩
    replace h := h.2
    show Ev _ 81 _ 4 [rA 2, (0, 35)] [(0, hr tx (w 2 6).toNat)] _
    refine e_ldi (show am_cd 81 4 = (2, 5, 1, 0, []) by decide +kernel) rfl ?_
    refine e_cmp0 (show am_cd 81 5 = (11, 8, 10, 0, []) by decide +kernel) (fun hc => ?_) (fun hc => ?_)
    · replace h := h.1 hc
      refine e_lda (v := 2) (show am_cd 81 10 = (2, 11, 0, 2, []) by decide +kernel) rfl ?_
      refine e_dup (show am_cd 81 11 = (13, 12, 0, 0, []) by decide +kernel) (by decide) ?_
      refine e_getf (a := 2) (tg := 0) (show am_cd 81 12 = (18, 15, 806, 0, [31]) by decide +kernel) (by decide +kernel) (by decide +kernel) rfl ?_
      refine e_ic (show am_cd 81 15 = (0, 16, 0, 1, []) by decide +kernel) ?_
      refine e_iadd (show am_cd 81 16 = (5, 17, 0, 0, []) by decide +kernel) ?_
      refine e_putf (a := 2) (show am_cd 81 17 = (19, 20, 806, 0, [31]) by decide +kernel) (by decide +kernel) (by decide +kernel) rfl (fun h9 => absurd h9 (by decide)) (fun h9 => absurd h9 (by decide +kernel)) ?_
      refine e_ic (show am_cd 81 20 = (0, 21, 0, 1, []) by decide +kernel) ?_
      refine e_retz (show am_cd 81 21 = (36, 22, 0, 0, []) by decide +kernel) (by decide +kernel) (Or.inr rfl) ⟨fun _ h9 => (by cases h9), ?_⟩
      show Ev _ 67 _ 10 [rA 15, rA 2, rA 8, (0, e), (9, 0), (9, 0)] [(0, 1)] _
      refine e_ifF (show am_cd 67 10 = (10, 13, 21, 0, []) by decide +kernel) (by decide +kernel) ?_
      refine e_lda (v := 15) (show am_cd 67 13 = (2, 14, 0, 2, []) by decide +kernel) rfl ?_
      refine e_ic (show am_cd 67 14 = (0, 16, 3, 65536, [97]) by decide +kernel) ?_
      refine e_putf (a := 15) (show am_cd 67 16 = (19, 19, 715, 0, [93]) by decide +kernel) (by decide +kernel) (by decide +kernel) rfl (fun h9 => absurd h9 (by decide)) (fun h9 => absurd h9 (by decide +kernel)) ?_
      refine e_ic (show am_cd 67 19 = (0, 20, 0, 1, []) by decide +kernel) ?_
      exact e_retz (show am_cd 67 20 = (36, 21, 0, 0, []) by decide +kernel) (by decide +kernel) (Or.inr rfl) h
    · replace h := h.2 hc
      refine e_ic (show am_cd 81 8 = (0, 9, 0, 0, []) by decide +kernel) ?_
      refine e_retz (show am_cd 81 9 = (36, 10, 0, 0, []) by decide +kernel) (by decide +kernel) (Or.inl rfl) ⟨fun _ h9 => (by cases h9), ?_⟩
      show Ev _ 67 _ 10 [rA 15, rA 2, rA 8, (0, e), (9, 0), (9, 0)] [(0, 0)] _
      refine e_ifT (show am_cd 67 10 = (10, 13, 21, 0, []) by decide +kernel) (by decide +kernel) ?_
      exact h

theorem g_tpart1 {d : Nat} {Q : Option aV → aS → Prop} {w : eW} {t : eT} {e : Int} {tx : List Int} {m : eW} (h : (TC w tx) ∧ ((w32 (hr tx (w 2 6).toNat) = w32 46 → (AC (wu w 2 6 ((w 2 6) + 1)) m ∧ WFp m) ∧ (Q (some (0, 1)) (enc (wu (wu w 2 6 ((w 2 6) + 1)) 15 15 ((2 ^ nP m - 1 : Nat) : Int)) t))) ∧ (¬ (w32 (hr tx (w 2 6).toNat) = w32 46) → (TC w tx) ∧ ((w32 (hr tx (w 2 6).toNat) = w32 58 → (TC w tx) ∧ ((w32 (hr tx (w 2 6).toNat) = w32 58 → (TC (wu w 2 6 ((w 2 6) + 1)) tx) ∧ (SC (wu w 2 6 ((w 2 6) + 1)) m ∧ WFs m ∧ (-1 ≤ hr tx ((wu w 2 6 ((w 2 6) + 1)) 2 6).toNat ∧ hr tx ((wu w 2 6 ((w 2 6) + 1)) 2 6).toNat ≤ 255)) ∧ ((¬ w32 (mnI m (hr tx ((wu w 2 6 ((w 2 6) + 1)) 2 6).toNat)) = 0 → (AC (wu (wu w 2 6 ((w 2 6) + 1)) 2 6 (((w 2 6) + 1) + 1)) m ∧ WFp m ∧ ((0 : Int) ≤ 268435455 ∧ (268435455 : Int) < 268435456) ∧ ((0 : Int) ≤ mnI m (hr tx ((wu w 2 6 ((w 2 6) + 1)) 2 6).toNat) ∧ (mnI m (hr tx ((wu w 2 6 ((w 2 6) + 1)) 2 6).toNat) : Int) < 268435456)) ∧ (Q (some (0, 1)) (enc (wu (wu (wu w 2 6 ((w 2 6) + 1)) 2 6 (((w 2 6) + 1) + 1)) 15 15 ((wsB m 268435455 (mnI m (hr tx ((wu w 2 6 ((w 2 6) + 1)) 2 6).toNat)) : Nat) : Int)) t))) ∧ (¬ (¬ w32 (mnI m (hr tx ((wu w 2 6 ((w 2 6) + 1)) 2 6).toNat)) = 0) → Q (some (0, 0)) (enc (wu w 2 6 ((w 2 6) + 1)) t)))) ∧ (¬ (w32 (hr tx (w 2 6).toNat) = w32 58) → (AC w m ∧ WFp m ∧ ((0 : Int) ≤ 268435455 ∧ (268435455 : Int) < 268435456) ∧ ((0 : Int) ≤ 268435455 ∧ (268435455 : Int) < 268435456)) ∧ (Q (some (0, 1)) (enc (wu w 15 15 ((wsB m 268435455 268435455 : Nat) : Int)) t))))) ∧ (¬ (w32 (hr tx (w 2 6).toNat) = w32 58) → (TC w tx) ∧ (SC w m ∧ WFs m ∧ (-1 ≤ hr tx (w 2 6).toNat ∧ hr tx (w 2 6).toNat ≤ 255)) ∧ ((¬ w32 (mnI m (hr tx (w 2 6).toNat)) = 0 → (TC (wu w 2 6 ((w 2 6) + 1)) tx) ∧ ((w32 (hr tx ((wu w 2 6 ((w 2 6) + 1)) 2 6).toNat) = w32 58 → (TC (wu (wu w 2 6 ((w 2 6) + 1)) 2 6 (((w 2 6) + 1) + 1)) tx) ∧ (SC (wu (wu w 2 6 ((w 2 6) + 1)) 2 6 (((w 2 6) + 1) + 1)) m ∧ WFs m ∧ (-1 ≤ hr tx ((wu (wu w 2 6 ((w 2 6) + 1)) 2 6 (((w 2 6) + 1) + 1)) 2 6).toNat ∧ hr tx ((wu (wu w 2 6 ((w 2 6) + 1)) 2 6 (((w 2 6) + 1) + 1)) 2 6).toNat ≤ 255)) ∧ ((¬ w32 (mnI m (hr tx ((wu (wu w 2 6 ((w 2 6) + 1)) 2 6 (((w 2 6) + 1) + 1)) 2 6).toNat)) = 0 → (AC (wu (wu (wu w 2 6 ((w 2 6) + 1)) 2 6 (((w 2 6) + 1) + 1)) 2 6 ((((w 2 6) + 1) + 1) + 1)) m ∧ WFp m ∧ ((0 : Int) ≤ mnI m (hr tx (w 2 6).toNat) ∧ (mnI m (hr tx (w 2 6).toNat) : Int) < 268435456) ∧ ((0 : Int) ≤ mnI m (hr tx ((wu (wu w 2 6 ((w 2 6) + 1)) 2 6 (((w 2 6) + 1) + 1)) 2 6).toNat) ∧ (mnI m (hr tx ((wu (wu w 2 6 ((w 2 6) + 1)) 2 6 (((w 2 6) + 1) + 1)) 2 6).toNat) : Int) < 268435456)) ∧ (Q (some (0, 1)) (enc (wu (wu (wu (wu w 2 6 ((w 2 6) + 1)) 2 6 (((w 2 6) + 1) + 1)) 2 6 ((((w 2 6) + 1) + 1) + 1)) 15 15 ((wsB m (mnI m (hr tx (w 2 6).toNat)) (mnI m (hr tx ((wu (wu w 2 6 ((w 2 6) + 1)) 2 6 (((w 2 6) + 1) + 1)) 2 6).toNat)) : Nat) : Int)) t))) ∧ (¬ (¬ w32 (mnI m (hr tx ((wu (wu w 2 6 ((w 2 6) + 1)) 2 6 (((w 2 6) + 1) + 1)) 2 6).toNat)) = 0) → Q (some (0, 0)) (enc (wu (wu w 2 6 ((w 2 6) + 1)) 2 6 (((w 2 6) + 1) + 1)) t)))) ∧ (¬ (w32 (hr tx ((wu w 2 6 ((w 2 6) + 1)) 2 6).toNat) = w32 58) → (AC (wu w 2 6 ((w 2 6) + 1)) m ∧ WFp m ∧ ((0 : Int) ≤ mnI m (hr tx (w 2 6).toNat) ∧ (mnI m (hr tx (w 2 6).toNat) : Int) < 268435456) ∧ ((0 : Int) ≤ 268435455 ∧ (268435455 : Int) < 268435456)) ∧ (Q (some (0, 1)) (enc (wu (wu w 2 6 ((w 2 6) + 1)) 15 15 ((wsB m (mnI m (hr tx (w 2 6).toNat)) 268435455 : Nat) : Int)) t))))) ∧ (¬ (¬ w32 (mnI m (hr tx (w 2 6).toNat)) = 0) → Q (some (0, 0)) (enc w t)))))))) : Ev (d + 2) 67 Q 21 [rA 15, rA 2, rA 8, (0, e), (9, 0), (9, 0)] [] (enc w t) := by
  refine e_lda (v := 2) (show am_cd 67 21 = (2, 22, 1, 2, []) by decide +kernel) rfl ?_
  refine e_ic (show am_cd 67 22 = (0, 24, 1, 46, []) by decide +kernel) ?_
  refine e_cV (z := 0) (a := 2) (as := [(0, 46)]) (rest := []) (show am_cd 67 24 = (40, 27, 81, 0, [75]) by decide +kernel) (by decide +kernel) rfl rfl (Nat.le_of_ble_eq_true rfl) rfl ?_
  show Ev _ 81 _ 0 [rA 2, (0, 46)] [] _
  refine e_lda (v := 2) (show am_cd 81 0 = (2, 1, 0, 2, []) by decide +kernel) rfl ?_
  refine e_cV (z := 0) (a := 2) (as := []) (rest := []) (show am_cd 81 1 = (40, 4, 80, 0, [34]) by decide +kernel) (by decide +kernel) rfl rfl (Nat.le_of_ble_eq_true rfl) rfl ?_
  refine Cl.mono (Cl.up (c_ahd (tx := tx) (d := d) h.1) (by omega)) ?_
  rintro _ _ ⟨rfl, rfl⟩
  refine ⟨fun _ h9 => (by cases h9), ?_⟩
  replace h := h.2
  show Ev _ 81 _ 4 [rA 2, (0, 46)] [(0, hr tx (w 2 6).toNat)] _
  refine e_ldi (show am_cd 81 4 = (2, 5, 1, 0, []) by decide +kernel) rfl ?_
  refine e_cmp0 (show am_cd 81 5 = (11, 8, 10, 0, []) by decide +kernel) (fun hc => ?_) (fun hc => ?_)
  · replace h := h.1 hc
    refine e_lda (v := 2) (show am_cd 81 10 = (2, 11, 0, 2, []) by decide +kernel) rfl ?_
    refine e_dup (show am_cd 81 11 = (13, 12, 0, 0, []) by decide +kernel) (by decide) ?_
    refine e_getf (a := 2) (tg := 0) (show am_cd 81 12 = (18, 15, 806, 0, [31]) by decide +kernel) (by decide +kernel) (by decide +kernel) rfl ?_
    refine e_ic (show am_cd 81 15 = (0, 16, 0, 1, []) by decide +kernel) ?_
    refine e_iadd (show am_cd 81 16 = (5, 17, 0, 0, []) by decide +kernel) ?_
    refine e_putf (a := 2) (show am_cd 81 17 = (19, 20, 806, 0, [31]) by decide +kernel) (by decide +kernel) (by decide +kernel) rfl (fun h9 => absurd h9 (by decide)) (fun h9 => absurd h9 (by decide +kernel)) ?_
    refine e_ic (show am_cd 81 20 = (0, 21, 0, 1, []) by decide +kernel) ?_
    refine e_retz (show am_cd 81 21 = (36, 22, 0, 0, []) by decide +kernel) (by decide +kernel) (Or.inr rfl) ⟨fun _ h9 => (by cases h9), ?_⟩
    show Ev _ 67 _ 27 [rA 15, rA 2, rA 8, (0, e), (9, 0), (9, 0)] [(0, 1)] _
    refine e_ifF (show am_cd 67 27 = (10, 30, 40, 0, []) by decide +kernel) (by decide +kernel) ?_
    refine e_lda (v := 15) (show am_cd 67 30 = (2, 31, 0, 2, []) by decide +kernel) rfl ?_
    refine e_lda (v := 8) (show am_cd 67 31 = (2, 32, 2, 2, []) by decide +kernel) rfl ?_
    refine e_cV (z := 0) (a := 8) (as := []) (rest := [rA 15]) (show am_cd 67 32 = (40, 35, 2, 0, [98]) by decide +kernel) (by decide +kernel) rfl rfl (Nat.le_of_ble_eq_true rfl) rfl ?_
    refine Cl.mono (Cl.up (c_allP (m := m) (d := d) h.1) (by omega)) ?_
    rintro _ _ ⟨rfl, rfl⟩
    refine ⟨fun _ h9 => (by cases h9), ?_⟩
    replace h := h.2
    show Ev _ 67 _ 35 [rA 15, rA 2, rA 8, (0, e), (9, 0), (9, 0)] [(0, ((2 ^ nP m - 1 : Nat) : Int)), rA 15] _
    refine e_putf (a := 15) (show am_cd 67 35 = (19, 38, 715, 0, [93]) by decide +kernel) (by decide +kernel) (by decide +kernel) rfl (fun h9 => absurd h9 (by decide)) (fun h9 => absurd h9 (by decide +kernel)) ?_
    refine e_ic (show am_cd 67 38 = (0, 39, 0, 1, []) by decide +kernel) ?_
    exact e_retz (show am_cd 67 39 = (36, 40, 0, 0, []) by decide +kernel) (by decide +kernel) (Or.inr rfl) h
  · replace h := h.2 hc
    refine e_ic (show am_cd 81 8 = (0, 9, 0, 0, []) by decide +kernel) ?_
    refine e_retz (show am_cd 81 9 = (36, 10, 0, 0, []) by decide +kernel) (by decide +kernel) (Or.inl rfl) ⟨fun _ h9 => (by cases h9), ?_⟩
    show Ev _ 67 _ 27 [rA 15, rA 2, rA 8, (0, e), (9, 0), (9, 0)] [(0, 0)] _
    refine e_ifT (show am_cd 67 27 = (10, 30, 40, 0, []) by decide +kernel) (by decide +kernel) ?_
    refine e_ic (show am_cd 67 40 = (0, 42, 3, 268435455, [103]) by decide +kernel) ?_
    refine e_sti (la2 := [rA 15, rA 2, rA 8, (0, e), (0, 268435455), (9, 0)]) (show am_cd 67 42 = (3, 44, 4, 0, []) by decide +kernel) rfl ?_
    refine e_lda (v := 2) (show am_cd 67 44 = (2, 45, 1, 2, []) by decide +kernel) rfl ?_
    refine e_cV (z := 0) (a := 2) (as := []) (rest := []) (show am_cd 67 45 = (40, 48, 80, 0, [86]) by decide +kernel) (by decide +kernel) rfl rfl (Nat.le_of_ble_eq_true rfl) rfl ?_
    refine Cl.mono (Cl.up (c_ahd (tx := tx) (d := d) h.1) (by omega)) ?_
    rintro _ _ ⟨rfl, rfl⟩
    refine ⟨fun _ h9 => (by cases h9), ?_⟩
    replace h := h.2
    show Ev _ 67 _ 48 [rA 15, rA 2, rA 8, (0, e), (0, 268435455), (9, 0)] [(0, hr tx (w 2 6).toNat)] _
    refine e_ic (show am_cd 67 48 = (0, 50, 1, 58, []) by decide +kernel) ?_
    refine e_cmp0 (show am_cd 67 50 = (11, 53, 80, 0, []) by decide +kernel) (fun hc => ?_) (fun hc => ?_)
    · replace h := h.1 hc
      refine e_ic (show am_cd 67 80 = (0, 82, 3, 268435455, [103]) by decide +kernel) ?_
      refine e_sti (la2 := [rA 15, rA 2, rA 8, (0, e), (0, 268435455), (0, 268435455)]) (show am_cd 67 82 = (3, 84, 5, 0, []) by decide +kernel) rfl ?_
      refine e_lda (v := 2) (show am_cd 67 84 = (2, 85, 1, 2, []) by decide +kernel) rfl ?_
      refine e_ic (show am_cd 67 85 = (0, 87, 1, 58, []) by decide +kernel) ?_
      refine e_cV (z := 0) (a := 2) (as := [(0, 58)]) (rest := []) (show am_cd 67 87 = (40, 90, 81, 0, [75]) by decide +kernel) (by decide +kernel) rfl rfl (Nat.le_of_ble_eq_true rfl) rfl ?_
      show Ev _ 81 _ 0 [rA 2, (0, 58)] [] _
      refine e_lda (v := 2) (show am_cd 81 0 = (2, 1, 0, 2, []) by decide +kernel) rfl ?_
      refine e_cV (z := 0) (a := 2) (as := []) (rest := []) (show am_cd 81 1 = (40, 4, 80, 0, [34]) by decide +kernel) (by decide +kernel) rfl rfl (Nat.le_of_ble_eq_true rfl) rfl ?_
      refine Cl.mono (Cl.up (c_ahd (tx := tx) (d := d) h.1) (by omega)) ?_
      rintro _ _ ⟨rfl, rfl⟩
      refine ⟨fun _ h9 => (by cases h9), ?_⟩
      replace h := h.2
      show Ev _ 81 _ 4 [rA 2, (0, 58)] [(0, hr tx (w 2 6).toNat)] _
      refine e_ldi (show am_cd 81 4 = (2, 5, 1, 0, []) by decide +kernel) rfl ?_
      refine e_cmp0 (show am_cd 81 5 = (11, 8, 10, 0, []) by decide +kernel) (fun hc => ?_) (fun hc => ?_)
      · replace h := h.1 hc
        refine e_lda (v := 2) (show am_cd 81 10 = (2, 11, 0, 2, []) by decide +kernel) rfl ?_
        refine e_dup (show am_cd 81 11 = (13, 12, 0, 0, []) by decide +kernel) (by decide) ?_
        refine e_getf (a := 2) (tg := 0) (show am_cd 81 12 = (18, 15, 806, 0, [31]) by decide +kernel) (by decide +kernel) (by decide +kernel) rfl ?_
        refine e_ic (show am_cd 81 15 = (0, 16, 0, 1, []) by decide +kernel) ?_
        refine e_iadd (show am_cd 81 16 = (5, 17, 0, 0, []) by decide +kernel) ?_
        refine e_putf (a := 2) (show am_cd 81 17 = (19, 20, 806, 0, [31]) by decide +kernel) (by decide +kernel) (by decide +kernel) rfl (fun h9 => absurd h9 (by decide)) (fun h9 => absurd h9 (by decide +kernel)) ?_
        refine e_ic (show am_cd 81 20 = (0, 21, 0, 1, []) by decide +kernel) ?_
        refine e_retz (show am_cd 81 21 = (36, 22, 0, 0, []) by decide +kernel) (by decide +kernel) (Or.inr rfl) ⟨fun _ h9 => (by cases h9), ?_⟩
        show Ev _ 67 _ 90 [rA 15, rA 2, rA 8, (0, e), (0, 268435455), (0, 268435455)] [(0, 1)] _
        refine e_ifF (show am_cd 67 90 = (10, 93, 120, 0, []) by decide +kernel) (by decide +kernel) ?_
        refine e_lda (v := 8) (show am_cd 67 93 = (2, 94, 2, 2, []) by decide +kernel) rfl ?_
        refine e_lda (v := 2) (show am_cd 67 94 = (2, 95, 1, 2, []) by decide +kernel) rfl ?_
        refine e_cV (z := 0) (a := 2) (as := []) (rest := [rA 8]) (show am_cd 67 95 = (40, 98, 80, 0, [86]) by decide +kernel) (by decide +kernel) rfl rfl (Nat.le_of_ble_eq_true rfl) rfl ?_
        refine Cl.mono (Cl.up (c_ahd (tx := tx) (d := d) h.1) (by omega)) ?_
        rintro _ _ ⟨rfl, rfl⟩
        refine ⟨fun _ h9 => (by cases h9), ?_⟩
        replace h := h.2
        show Ev _ 67 _ 98 [rA 15, rA 2, rA 8, (0, e), (0, 268435455), (0, 268435455)] [(0, hr tx ((wu w 2 6 ((w 2 6) + 1)) 2 6).toNat), rA 8] _
        refine e_cV (z := 0) (a := 8) (as := [(0, hr tx ((wu w 2 6 ((w 2 6) + 1)) 2 6).toNat)]) (rest := []) (show am_cd 67 98 = (40, 101, 7, 0, [104]) by decide +kernel) (by decide +kernel) rfl rfl (Nat.le_of_ble_eq_true rfl) rfl ?_
        refine Cl.mono (Cl.up (c_mean (d := d) h.1) (by omega)) ?_
        rintro _ _ ⟨rfl, rfl⟩
        refine ⟨fun _ h9 => (by cases h9), ?_⟩
        replace h := h.2
        show Ev _ 67 _ 101 [rA 15, rA 2, rA 8, (0, e), (0, 268435455), (0, 268435455)] [(0, mnI m (hr tx ((wu w 2 6 ((w 2 6) + 1)) 2 6).toNat))] _
        refine e_sti (la2 := [rA 15, rA 2, rA 8, (0, e), (0, 268435455), (0, mnI m (hr tx ((wu w 2 6 ((w 2 6) + 1)) 2 6).toNat))]) (show am_cd 67 101 = (3, 103, 5, 0, []) by decide +kernel) rfl ?_
        refine e_ldi (show am_cd 67 103 = (2, 105, 5, 0, []) by decide +kernel) rfl ?_
        refine e_if1 (show am_cd 67 105 = (10, 108, 110, 1, []) by decide +kernel) (fun hc => ?_) (fun hc => ?_)
        · replace h := h.1 hc
          refine e_lda (v := 2) (show am_cd 67 110 = (2, 111, 1, 2, []) by decide +kernel) rfl ?_
          refine e_dup (show am_cd 67 111 = (13, 112, 0, 0, []) by decide +kernel) (by decide) ?_
          refine e_getfE (a := 2) (tg := 0) (v := (w 2 6) + 1) (show am_cd 67 112 = (18, 115, 806, 0, [72]) by decide +kernel) (by decide +kernel) (by decide +kernel) rfl rfl ?_
          refine e_ic (show am_cd 67 115 = (0, 116, 0, 1, []) by decide +kernel) ?_
          refine e_iadd (show am_cd 67 116 = (5, 117, 0, 0, []) by decide +kernel) ?_
          refine e_putf (a := 2) (show am_cd 67 117 = (19, 120, 806, 0, [72]) by decide +kernel) (by decide +kernel) (by decide +kernel) rfl (fun h9 => absurd h9 (by decide)) (fun h9 => absurd h9 (by decide +kernel)) ?_
          refine e_lda (v := 15) (show am_cd 67 120 = (2, 121, 0, 2, []) by decide +kernel) rfl ?_
          refine e_lda (v := 8) (show am_cd 67 121 = (2, 122, 2, 2, []) by decide +kernel) rfl ?_
          refine e_ldi (show am_cd 67 122 = (2, 124, 4, 0, []) by decide +kernel) rfl ?_
          refine e_ldi (show am_cd 67 124 = (2, 126, 5, 0, []) by decide +kernel) rfl ?_
          refine e_cV (z := 0) (a := 8) (as := [(0, 268435455), (0, mnI m (hr tx ((wu w 2 6 ((w 2 6) + 1)) 2 6).toNat))]) (rest := [rA 15]) (show am_cd 67 126 = (40, 129, 8, 0, [108]) by decide +kernel) (by decide +kernel) rfl rfl (Nat.le_of_ble_eq_true rfl) rfl ?_
          refine Cl.mono (Cl.up (c_ws (d := d) h.1) (by omega)) ?_
          rintro _ _ ⟨rfl, rfl⟩
          refine ⟨fun _ h9 => (by cases h9), ?_⟩
          replace h := h.2
          show Ev _ 67 _ 129 [rA 15, rA 2, rA 8, (0, e), (0, 268435455), (0, mnI m (hr tx ((wu w 2 6 ((w 2 6) + 1)) 2 6).toNat))] [(0, ((wsB m 268435455 (mnI m (hr tx ((wu w 2 6 ((w 2 6) + 1)) 2 6).toNat)) : Nat) : Int)), rA 15] _
          refine e_putf (a := 15) (show am_cd 67 129 = (19, 132, 715, 0, [93]) by decide +kernel) (by decide +kernel) (by decide +kernel) rfl (fun h9 => absurd h9 (by decide)) (fun h9 => absurd h9 (by decide +kernel)) ?_
          refine e_ic (show am_cd 67 132 = (0, 133, 0, 1, []) by decide +kernel) ?_
          exact e_retz (show am_cd 67 133 = (36, 134, 0, 0, []) by decide +kernel) (by decide +kernel) (Or.inr rfl) h
        · replace h := h.2 hc
          refine e_ic (show am_cd 67 108 = (0, 109, 0, 0, []) by decide +kernel) ?_
          exact e_retz (show am_cd 67 109 = (36, 110, 0, 0, []) by decide +kernel) (by decide +kernel) (Or.inl rfl) h
      · replace h := h.2 hc
        refine e_ic (show am_cd 81 8 = (0, 9, 0, 0, []) by decide +kernel) ?_
        refine e_retz (show am_cd 81 9 = (36, 10, 0, 0, []) by decide +kernel) (by decide +kernel) (Or.inl rfl) ⟨fun _ h9 => (by cases h9), ?_⟩
        show Ev _ 67 _ 90 [rA 15, rA 2, rA 8, (0, e), (0, 268435455), (0, 268435455)] [(0, 0)] _
        refine e_ifT (show am_cd 67 90 = (10, 93, 120, 0, []) by decide +kernel) (by decide +kernel) ?_
        refine e_lda (v := 15) (show am_cd 67 120 = (2, 121, 0, 2, []) by decide +kernel) rfl ?_
        refine e_lda (v := 8) (show am_cd 67 121 = (2, 122, 2, 2, []) by decide +kernel) rfl ?_
        refine e_ldi (show am_cd 67 122 = (2, 124, 4, 0, []) by decide +kernel) rfl ?_
        refine e_ldi (show am_cd 67 124 = (2, 126, 5, 0, []) by decide +kernel) rfl ?_
        refine e_cV (z := 0) (a := 8) (as := [(0, 268435455), (0, 268435455)]) (rest := [rA 15]) (show am_cd 67 126 = (40, 129, 8, 0, [108]) by decide +kernel) (by decide +kernel) rfl rfl (Nat.le_of_ble_eq_true rfl) rfl ?_
        refine Cl.mono (Cl.up (c_ws (d := d) h.1) (by omega)) ?_
        rintro _ _ ⟨rfl, rfl⟩
        refine ⟨fun _ h9 => (by cases h9), ?_⟩
        replace h := h.2
        show Ev _ 67 _ 129 [rA 15, rA 2, rA 8, (0, e), (0, 268435455), (0, 268435455)] [(0, ((wsB m 268435455 268435455 : Nat) : Int)), rA 15] _
        refine e_putf (a := 15) (show am_cd 67 129 = (19, 132, 715, 0, [93]) by decide +kernel) (by decide +kernel) (by decide +kernel) rfl (fun h9 => absurd h9 (by decide)) (fun h9 => absurd h9 (by decide +kernel)) ?_
        refine e_ic (show am_cd 67 132 = (0, 133, 0, 1, []) by decide +kernel) ?_
        exact e_retz (show am_cd 67 133 = (36, 134, 0, 0, []) by decide +kernel) (by decide +kernel) (Or.inr rfl) h
    · replace h := h.2 hc
      refine e_lda (v := 8) (show am_cd 67 53 = (2, 54, 2, 2, []) by decide +kernel) rfl ?_
      refine e_lda (v := 2) (show am_cd 67 54 = (2, 55, 1, 2, []) by decide +kernel) rfl ?_
      refine e_cV (z := 0) (a := 2) (as := []) (rest := [rA 8]) (show am_cd 67 55 = (40, 58, 80, 0, [86]) by decide +kernel) (by decide +kernel) rfl rfl (Nat.le_of_ble_eq_true rfl) rfl ?_
      refine Cl.mono (Cl.up (c_ahd (tx := tx) (d := d) h.1) (by omega)) ?_
      rintro _ _ ⟨rfl, rfl⟩
      refine ⟨fun _ h9 => (by cases h9), ?_⟩
      replace h := h.2
      show Ev _ 67 _ 58 [rA 15, rA 2, rA 8, (0, e), (0, 268435455), (9, 0)] [(0, hr tx (w 2 6).toNat), rA 8] _
      refine e_cV (z := 0) (a := 8) (as := [(0, hr tx (w 2 6).toNat)]) (rest := []) (show am_cd 67 58 = (40, 61, 7, 0, [104]) by decide +kernel) (by decide +kernel) rfl rfl (Nat.le_of_ble_eq_true rfl) rfl ?_
      refine Cl.mono (Cl.up (c_mean (d := d) h.1) (by omega)) ?_
      rintro _ _ ⟨rfl, rfl⟩
      refine ⟨fun _ h9 => (by cases h9), ?_⟩
      replace h := h.2
      show Ev _ 67 _ 61 [rA 15, rA 2, rA 8, (0, e), (0, 268435455), (9, 0)] [(0, mnI m (hr tx (w 2 6).toNat))] _
      refine e_sti (la2 := [rA 15, rA 2, rA 8, (0, e), (0, mnI m (hr tx (w 2 6).toNat)), (9, 0)]) (show am_cd 67 61 = (3, 63, 4, 0, []) by decide +kernel) rfl ?_
      refine e_ldi (show am_cd 67 63 = (2, 65, 4, 0, []) by decide +kernel) rfl ?_
      refine e_if1 (show am_cd 67 65 = (10, 68, 70, 1, []) by decide +kernel) (fun hc => ?_) (fun hc => ?_)
      · replace h := h.1 hc
        refine e_lda (v := 2) (show am_cd 67 70 = (2, 71, 1, 2, []) by decide +kernel) rfl ?_
        refine e_dup (show am_cd 67 71 = (13, 72, 0, 0, []) by decide +kernel) (by decide) ?_
        refine e_getf (a := 2) (tg := 0) (show am_cd 67 72 = (18, 75, 806, 0, [72]) by decide +kernel) (by decide +kernel) (by decide +kernel) rfl ?_
        refine e_ic (show am_cd 67 75 = (0, 76, 0, 1, []) by decide +kernel) ?_
        refine e_iadd (show am_cd 67 76 = (5, 77, 0, 0, []) by decide +kernel) ?_
        refine e_putf (a := 2) (show am_cd 67 77 = (19, 80, 806, 0, [72]) by decide +kernel) (by decide +kernel) (by decide +kernel) rfl (fun h9 => absurd h9 (by decide)) (fun h9 => absurd h9 (by decide +kernel)) ?_
        refine e_ic (show am_cd 67 80 = (0, 82, 3, 268435455, [103]) by decide +kernel) ?_
        refine e_sti (la2 := [rA 15, rA 2, rA 8, (0, e), (0, mnI m (hr tx (w 2 6).toNat)), (0, 268435455)]) (show am_cd 67 82 = (3, 84, 5, 0, []) by decide +kernel) rfl ?_
        refine e_lda (v := 2) (show am_cd 67 84 = (2, 85, 1, 2, []) by decide +kernel) rfl ?_
        refine e_ic (show am_cd 67 85 = (0, 87, 1, 58, []) by decide +kernel) ?_
        refine e_cV (z := 0) (a := 2) (as := [(0, 58)]) (rest := []) (show am_cd 67 87 = (40, 90, 81, 0, [75]) by decide +kernel) (by decide +kernel) rfl rfl (Nat.le_of_ble_eq_true rfl) rfl ?_
        show Ev _ 81 _ 0 [rA 2, (0, 58)] [] _
        refine e_lda (v := 2) (show am_cd 81 0 = (2, 1, 0, 2, []) by decide +kernel) rfl ?_
        refine e_cV (z := 0) (a := 2) (as := []) (rest := []) (show am_cd 81 1 = (40, 4, 80, 0, [34]) by decide +kernel) (by decide +kernel) rfl rfl (Nat.le_of_ble_eq_true rfl) rfl ?_
        refine Cl.mono (Cl.up (c_ahd (tx := tx) (d := d) h.1) (by omega)) ?_
        rintro _ _ ⟨rfl, rfl⟩
        refine ⟨fun _ h9 => (by cases h9), ?_⟩
        replace h := h.2
        show Ev _ 81 _ 4 [rA 2, (0, 58)] [(0, hr tx ((wu w 2 6 ((w 2 6) + 1)) 2 6).toNat)] _
        refine e_ldi (show am_cd 81 4 = (2, 5, 1, 0, []) by decide +kernel) rfl ?_
        refine e_cmp0 (show am_cd 81 5 = (11, 8, 10, 0, []) by decide +kernel) (fun hc => ?_) (fun hc => ?_)
        · replace h := h.1 hc
          refine e_lda (v := 2) (show am_cd 81 10 = (2, 11, 0, 2, []) by decide +kernel) rfl ?_
          refine e_dup (show am_cd 81 11 = (13, 12, 0, 0, []) by decide +kernel) (by decide) ?_
          refine e_getfE (a := 2) (tg := 0) (v := (w 2 6) + 1) (show am_cd 81 12 = (18, 15, 806, 0, [31]) by decide +kernel) (by decide +kernel) (by decide +kernel) rfl rfl ?_
          refine e_ic (show am_cd 81 15 = (0, 16, 0, 1, []) by decide +kernel) ?_
          refine e_iadd (show am_cd 81 16 = (5, 17, 0, 0, []) by decide +kernel) ?_
          refine e_putf (a := 2) (show am_cd 81 17 = (19, 20, 806, 0, [31]) by decide +kernel) (by decide +kernel) (by decide +kernel) rfl (fun h9 => absurd h9 (by decide)) (fun h9 => absurd h9 (by decide +kernel)) ?_
          refine e_ic (show am_cd 81 20 = (0, 21, 0, 1, []) by decide +kernel) ?_
          refine e_retz (show am_cd 81 21 = (36, 22, 0, 0, []) by decide +kernel) (by decide +kernel) (Or.inr rfl) ⟨fun _ h9 => (by cases h9), ?_⟩
          show Ev _ 67 _ 90 [rA 15, rA 2, rA 8, (0, e), (0, mnI m (hr tx (w 2 6).toNat)), (0, 268435455)] [(0, 1)] _
          refine e_ifF (show am_cd 67 90 = (10, 93, 120, 0, []) by decide +kernel) (by decide +kernel) ?_
          refine e_lda (v := 8) (show am_cd 67 93 = (2, 94, 2, 2, []) by decide +kernel) rfl ?_
          refine e_lda (v := 2) (show am_cd 67 94 = (2, 95, 1, 2, []) by decide +kernel) rfl ?_
          refine e_cV (z := 0) (a := 2) (as := []) (rest := [rA 8]) (show am_cd 67 95 = (40, 98, 80, 0, [86]) by decide +kernel) (by decide +kernel) rfl rfl (Nat.le_of_ble_eq_true rfl) rfl ?_
          refine Cl.mono (Cl.up (c_ahd (tx := tx) (d := d) h.1) (by omega)) ?_
          rintro _ _ ⟨rfl, rfl⟩
          refine ⟨fun _ h9 => (by cases h9), ?_⟩
          replace h := h.2
          show Ev _ 67 _ 98 [rA 15, rA 2, rA 8, (0, e), (0, mnI m (hr tx (w 2 6).toNat)), (0, 268435455)] [(0, hr tx ((wu (wu w 2 6 ((w 2 6) + 1)) 2 6 (((w 2 6) + 1) + 1)) 2 6).toNat), rA 8] _
          refine e_cV (z := 0) (a := 8) (as := [(0, hr tx ((wu (wu w 2 6 ((w 2 6) + 1)) 2 6 (((w 2 6) + 1) + 1)) 2 6).toNat)]) (rest := []) (show am_cd 67 98 = (40, 101, 7, 0, [104]) by decide +kernel) (by decide +kernel) rfl rfl (Nat.le_of_ble_eq_true rfl) rfl ?_
          refine Cl.mono (Cl.up (c_mean (d := d) h.1) (by omega)) ?_
          rintro _ _ ⟨rfl, rfl⟩
          refine ⟨fun _ h9 => (by cases h9), ?_⟩
          replace h := h.2
          show Ev _ 67 _ 101 [rA 15, rA 2, rA 8, (0, e), (0, mnI m (hr tx (w 2 6).toNat)), (0, 268435455)] [(0, mnI m (hr tx ((wu (wu w 2 6 ((w 2 6) + 1)) 2 6 (((w 2 6) + 1) + 1)) 2 6).toNat))] _
          refine e_sti (la2 := [rA 15, rA 2, rA 8, (0, e), (0, mnI m (hr tx (w 2 6).toNat)), (0, mnI m (hr tx ((wu (wu w 2 6 ((w 2 6) + 1)) 2 6 (((w 2 6) + 1) + 1)) 2 6).toNat))]) (show am_cd 67 101 = (3, 103, 5, 0, []) by decide +kernel) rfl ?_
          refine e_ldi (show am_cd 67 103 = (2, 105, 5, 0, []) by decide +kernel) rfl ?_
          refine e_if1 (show am_cd 67 105 = (10, 108, 110, 1, []) by decide +kernel) (fun hc => ?_) (fun hc => ?_)
          · replace h := h.1 hc
            refine e_lda (v := 2) (show am_cd 67 110 = (2, 111, 1, 2, []) by decide +kernel) rfl ?_
            refine e_dup (show am_cd 67 111 = (13, 112, 0, 0, []) by decide +kernel) (by decide) ?_
            refine e_getfE (a := 2) (tg := 0) (v := ((w 2 6) + 1) + 1) (show am_cd 67 112 = (18, 115, 806, 0, [72]) by decide +kernel) (by decide +kernel) (by decide +kernel) rfl rfl ?_
            refine e_ic (show am_cd 67 115 = (0, 116, 0, 1, []) by decide +kernel) ?_
            refine e_iadd (show am_cd 67 116 = (5, 117, 0, 0, []) by decide +kernel) ?_
            refine e_putf (a := 2) (show am_cd 67 117 = (19, 120, 806, 0, [72]) by decide +kernel) (by decide +kernel) (by decide +kernel) rfl (fun h9 => absurd h9 (by decide)) (fun h9 => absurd h9 (by decide +kernel)) ?_
            refine e_lda (v := 15) (show am_cd 67 120 = (2, 121, 0, 2, []) by decide +kernel) rfl ?_
            refine e_lda (v := 8) (show am_cd 67 121 = (2, 122, 2, 2, []) by decide +kernel) rfl ?_
            refine e_ldi (show am_cd 67 122 = (2, 124, 4, 0, []) by decide +kernel) rfl ?_
            refine e_ldi (show am_cd 67 124 = (2, 126, 5, 0, []) by decide +kernel) rfl ?_
            refine e_cV (z := 0) (a := 8) (as := [(0, mnI m (hr tx (w 2 6).toNat)), (0, mnI m (hr tx ((wu (wu w 2 6 ((w 2 6) + 1)) 2 6 (((w 2 6) + 1) + 1)) 2 6).toNat))]) (rest := [rA 15]) (show am_cd 67 126 = (40, 129, 8, 0, [108]) by decide +kernel) (by decide +kernel) rfl rfl (Nat.le_of_ble_eq_true rfl) rfl ?_
            refine Cl.mono (Cl.up (c_ws (d := d) h.1) (by omega)) ?_
            rintro _ _ ⟨rfl, rfl⟩
            refine ⟨fun _ h9 => (by cases h9), ?_⟩
            replace h := h.2
            show Ev _ 67 _ 129 [rA 15, rA 2, rA 8, (0, e), (0, mnI m (hr tx (w 2 6).toNat)), (0, mnI m (hr tx ((wu (wu w 2 6 ((w 2 6) + 1)) 2 6 (((w 2 6) + 1) + 1)) 2 6).toNat))] [(0, ((wsB m (mnI m (hr tx (w 2 6).toNat)) (mnI m (hr tx ((wu (wu w 2 6 ((w 2 6) + 1)) 2 6 (((w 2 6) + 1) + 1)) 2 6).toNat)) : Nat) : Int)), rA 15] _
            refine e_putf (a := 15) (show am_cd 67 129 = (19, 132, 715, 0, [93]) by decide +kernel) (by decide +kernel) (by decide +kernel) rfl (fun h9 => absurd h9 (by decide)) (fun h9 => absurd h9 (by decide +kernel)) ?_
            refine e_ic (show am_cd 67 132 = (0, 133, 0, 1, []) by decide +kernel) ?_
            exact e_retz (show am_cd 67 133 = (36, 134, 0, 0, []) by decide +kernel) (by decide +kernel) (Or.inr rfl) h
          · replace h := h.2 hc
            refine e_ic (show am_cd 67 108 = (0, 109, 0, 0, []) by decide +kernel) ?_
            exact e_retz (show am_cd 67 109 = (36, 110, 0, 0, []) by decide +kernel) (by decide +kernel) (Or.inl rfl) h
        · replace h := h.2 hc
          refine e_ic (show am_cd 81 8 = (0, 9, 0, 0, []) by decide +kernel) ?_
          refine e_retz (show am_cd 81 9 = (36, 10, 0, 0, []) by decide +kernel) (by decide +kernel) (Or.inl rfl) ⟨fun _ h9 => (by cases h9), ?_⟩
          show Ev _ 67 _ 90 [rA 15, rA 2, rA 8, (0, e), (0, mnI m (hr tx (w 2 6).toNat)), (0, 268435455)] [(0, 0)] _
          refine e_ifT (show am_cd 67 90 = (10, 93, 120, 0, []) by decide +kernel) (by decide +kernel) ?_
          refine e_lda (v := 15) (show am_cd 67 120 = (2, 121, 0, 2, []) by decide +kernel) rfl ?_
          refine e_lda (v := 8) (show am_cd 67 121 = (2, 122, 2, 2, []) by decide +kernel) rfl ?_
          refine e_ldi (show am_cd 67 122 = (2, 124, 4, 0, []) by decide +kernel) rfl ?_
          refine e_ldi (show am_cd 67 124 = (2, 126, 5, 0, []) by decide +kernel) rfl ?_
          refine e_cV (z := 0) (a := 8) (as := [(0, mnI m (hr tx (w 2 6).toNat)), (0, 268435455)]) (rest := [rA 15]) (show am_cd 67 126 = (40, 129, 8, 0, [108]) by decide +kernel) (by decide +kernel) rfl rfl (Nat.le_of_ble_eq_true rfl) rfl ?_
          refine Cl.mono (Cl.up (c_ws (d := d) h.1) (by omega)) ?_
          rintro _ _ ⟨rfl, rfl⟩
          refine ⟨fun _ h9 => (by cases h9), ?_⟩
          replace h := h.2
          show Ev _ 67 _ 129 [rA 15, rA 2, rA 8, (0, e), (0, mnI m (hr tx (w 2 6).toNat)), (0, 268435455)] [(0, ((wsB m (mnI m (hr tx (w 2 6).toNat)) 268435455 : Nat) : Int)), rA 15] _
          refine e_putf (a := 15) (show am_cd 67 129 = (19, 132, 715, 0, [93]) by decide +kernel) (by decide +kernel) (by decide +kernel) rfl (fun h9 => absurd h9 (by decide)) (fun h9 => absurd h9 (by decide +kernel)) ?_
          refine e_ic (show am_cd 67 132 = (0, 133, 0, 1, []) by decide +kernel) ?_
          exact e_retz (show am_cd 67 133 = (36, 134, 0, 0, []) by decide +kernel) (by decide +kernel) (Or.inr rfl) h
      · replace h := h.2 hc
        refine e_ic (show am_cd 67 68 = (0, 69, 0, 0, []) by decide +kernel) ?_
        exact e_retz (show am_cd 67 69 = (36, 70, 0, 0, []) by decide +kernel) (by decide +kernel) (Or.inl rfl) h

theorem rdM_mn {m : eW} {tx : List Int} {p : Nat} (h : WFs m) : (rdM m tx p = .error p ∧ mnI m (hr tx p) = 0) ∨ ∃ v, rdM m tx p = .ok (v, p + 1) ∧ mnI m (hr tx p) ≠ 0 ∧ CB (mnI m (hr tx p)) v ∧ p < tx.length := by
  unfold rdM mnI
  by_cases hU : 65 ≤ hr tx p ∧ hr tx p ≤ 90
  · rw [if_pos hU]
    have hn : sgO (hr tx p) = none := by
      unfold sgO ltO
      rw [if_neg (by omega), if_neg (by omega), if_neg (by omega)]
    rw [hn]
    dsimp only
    unfold snI
    by_cases hs : soN m (hr tx p) = nS m
    · rw [if_pos hs, if_pos hs]; exact Or.inl ⟨rfl, rfl⟩
    · rw [if_neg hs, if_neg hs]
      have := fs_at hs
      have hb := h.2 _ this.1
      exact Or.inr ⟨_, rfl, by unfold soN; omega, CB_set (by unfold soN; omega), hr_in (c := hr tx p) rfl (by omega)⟩
  · rw [if_neg hU]
    cases hs : sgO (hr tx p) with
    | none =>
      rw [rdS_n hs]
      refine Or.inl ⟨rfl, ?_⟩
      show snI m (hr tx p) = 0
      unfold snI
      rw [if_pos]
      apply Classical.byContradiction
      intro h9
      have := fs_at h9
      have hb := h.2 _ this.1
      have h8 := of_decide_eq_true this.2.1
      omega
    | some s =>
      rw [rdS_s hs]
      obtain ⟨_, hs1, hpl⟩ := caI_s hs
      refine Or.inr ⟨_, rfl, ?_, CB_one hs1, hpl⟩
      show ((2 ^ (cdI s).toNat : Nat) : Int) ≠ 0
      have : 0 < 2 ^ (cdI s).toNat := Nat.two_pow_pos _
      generalize 2 ^ (cdI s).toNat = z at *
      omega
def tprP (tx : List Int) (m w : eW) (e x : Int) (w2 : eW) : Prop := Fc [] [(2, 6), (15, 15)] w w2 ∧ TC w2 tx ∧ RQ (rdT m tx e (w 2 6).toNat) x w2 (fun y => w2 15 15 = y)
theorem AC.fc {w w2 m : eW} {R : List Nat} {F : List (Nat × Nat)} (h : AC w m) (hf : Fc R F w w2) (hR : 8 ∉ R ∧ 9 ∉ R ∧ 10 ∉ R ∧ 11 ∉ R ∧ 12 ∉ R) (hF : F.all (fun p => decide (p.1 ≠ 9) && decide (p.1 ≠ 10) && decide (p.1 ≠ 11) && decide (p.1 ≠ 12)) = true ∧ (8, 6) ∉ F ∧ (8, 8) ∉ F) : AC w2 m := by
  have hA : ∀ a, a = 9 ∨ a = 10 ∨ a = 11 ∨ a = 12 → F.all (fun p => decide (p.1 ≠ a)) = true := fun a ha => by
    rw [List.all_eq_true]
    intro x hx
    have := List.all_eq_true.mp hF.1 x hx
    simp only [Bool.and_eq_true, decide_eq_true_eq] at this ⊢
    rcases ha with e | e | e | e <;> subst e <;> omega
  have r9 := hf.row hR.2.1 (hA 9 (by omega))
  have r10 := hf.row hR.2.2.1 (hA 10 (by omega))
  have r11 := hf.row hR.2.2.2.1 (hA 11 (by omega))
  have r12 := hf.row hR.2.2.2.2 (hA 12 (by omega))
  exact ⟨by rw [hf _ _ hR.1 hF.2.1]; exact h.1, fun p hp => by rw [r9, r10]; exact h.2.1 p hp, fun c hc => by rw [r11, r12]; exact h.2.2.1 c hc, by rw [hf _ _ hR.1 hF.2.2]; exact h.2.2.2⟩
theorem SC.fc {w w2 m : eW} {R : List Nat} {F : List (Nat × Nat)} (h : SC w m) (hf : Fc R F w w2) (hR : 8 ∉ R ∧ 13 ∉ R ∧ 14 ∉ R) (hF : F.all (fun p => decide (p.1 ≠ 13)) = true ∧ F.all (fun p => decide (p.1 ≠ 14)) = true ∧ (8, 7) ∉ F) : SC w2 m := ⟨by rw [hf _ _ hR.1 hF.2.2]; exact h.1, fun i hi => by rw [hf.row hR.2.1 hF.1, hf.row hR.2.2 hF.2.1]; exact h.2 i hi⟩
theorem poB_all {m : eW} (h : WFp m) : poB m 268435455 268435455 = 2 ^ nP m - 1 := by
  rw [← bts_true]
  unfold poB
  refine bts_congr (fun p hp => ?_)
  have hb := h.2.1 p hp
  have e : (268435455 : Int).toNat = 2 ^ 28 - 1 := by decide
  rw [e, Nat.testBit_two_pow_sub_one, Nat.testBit_two_pow_sub_one, decide_eq_true (by omega), decide_eq_true (by omega)]
  rfl
theorem e_tpart1 {d : Nat} {w m : eW} {t : eT} {tx : List Int} {e : Int} {Q : Option aV → aS → Prop} (hT : TC w tx) (hA : AC w m) (hS : SC w m) (hp : WFp m) (hs : WFs m)
    (hQ : ∀ x w2, Fc [] [(2, 6), (15, 15)] w w2 → TC w2 tx → RQ (rdT0 m tx (w 2 6).toNat) x w2 (fun y => w2 15 15 = y) → Q (some (0, x)) (enc w2 t)) : Ev (d + 2) 67 Q 21 [rA 15, rA 2, rA 8, (0, e), (9, 0), (9, 0)] [] (enc w t) := by
  have hb := hT.b
  obtain ⟨p, ep⟩ : ∃ p : Nat, w 2 6 = (p : Int) := ⟨(w 2 6).toNat, by omega⟩
  have hA6 : ∀ v, AC (wu w 2 6 v) m := fun v => hA.fc (R := []) (F := [(2, 6)]) (Fc.pf (by decide)) (by decide) (by decide)
  have hS6 : ∀ v, SC (wu w 2 6 v) m := fun v => hS.fc (R := []) (F := [(2, 6)]) (Fc.pf (by decide)) (by decide) (by decide)
  have b0 := hT.hrb p
  have b1 := hT.hrb (p + 1)
  have b2 := hT.hrb (p + 2)
  have m0 := mnI_0 hs (c := hr tx p)
  have m1 := mnI_0 hs (c := hr tx (p + 1))
  have m2 := mnI_0 hs (c := hr tx (p + 2))
  have any : (0 : Int) ≤ 268435455 ∧ (268435455 : Int) < 268435456 := by decide
  rw [ep, Int.toNat_natCast] at hQ
  refine g_tpart1 (tx := tx) (m := m) ⟨hT, ?_⟩
  simp only [wu_wu, wu_eq, ep, Int.toNat_natCast, show ∀ x : Nat, ((x : Int) + 1).toNat = x + 1 from fun x => by omega, show ∀ x : Nat, ((x : Int) + 1 + 1).toNat = x + 2 from fun x => by omega]
  simp (disch := omega) only [w32_id]
  have f1 : ∀ v u, Fc [] [(2, 6), (15, 15)] w (wu (wu w 2 6 v) 15 15 u) := fun v u => (Fc.pf (by decide)).tr (Fc.pf (by decide))
  have f2 : ∀ v, Fc [] [(2, 6), (15, 15)] w (wu w 2 6 v) := fun v => Fc.pf (by decide)
  have t1 : ∀ (n : Nat) u, n ≤ tx.length → TC (wu (wu w 2 6 (n : Int)) 15 15 u) tx := fun n u hn => hT.of rfl rfl (by constructor <;> (simp [wu]) <;> omega)
  have t2 : ∀ (n : Nat), n ≤ tx.length → TC (wu w 2 6 (n : Int)) tx := fun n hn => hT.at (by omega)
  have e1 : ((p : Int) + 1) = ((p + 1 : Nat) : Int) := by omega
  have e2 : ((p : Int) + 1 + 1) = ((p + 2 : Nat) : Int) := by omega
  have e3 : ((p : Int) + 1 + 1 + 1) = ((p + 3 : Nat) : Int) := by omega
  rw [e3, e2, e1]
  unfold rdT0 at hQ
  refine ⟨fun h46 => ?_, fun h46 => ⟨hT, fun h58 => ⟨hT, fun _ => ?_, fun h9 => absurd h58 h9⟩, fun h58 => ⟨hT, ⟨hS, hs, b0⟩, fun hn => ?_, fun hn => ?_⟩⟩⟩
  · have := hr_in h46 (by decide)
    refine ⟨⟨hA6 _, hp⟩, hQ 1 _ (f1 _ _) (t1 _ _ (by omega)) ?_⟩
    rw [if_pos h46, poB_all hp]
    exact ⟨rfl, rfl, rfl⟩
  · have hl := hr_in h58 (by decide)
    rw [if_neg h46, if_pos h58] at hQ
    refine ⟨t2 _ (by omega), ⟨hS6 _, hs, b1⟩, fun hn => ?_, fun hn => ?_⟩
    · rcases rdM_mn (tx := tx) (p := p + 1) hs with ⟨_, h0⟩ | ⟨v, hv, _, hcb, hl2⟩
      · exact absurd h0 hn
      · rw [hv] at hQ
        refine ⟨⟨hA6 _, hp, any, m1⟩, hQ 1 _ (f1 _ _) (t1 _ _ (by omega)) ⟨rfl, rfl, ?_⟩⟩
        show ((wsB m 268435455 (mnI m (hr tx (p + 1))) : Nat) : Int) = _
        rw [wsB_po hp CB_any hcb]
    · rcases rdM_mn (tx := tx) (p := p + 1) hs with ⟨hv, _⟩ | ⟨v, hv, h0, _⟩
      · rw [hv] at hQ
        exact hQ 0 _ (f2 _) (t2 _ (by omega)) ⟨rfl, rfl⟩
      · exact absurd h0 hn
  · rcases rdM_mn (tx := tx) (p := p) hs with ⟨_, h0⟩ | ⟨v, hv, _, hcb, hl2⟩
    · exact absurd h0 hn
    · rw [if_neg h46, if_neg h58, hv] at hQ
      dsimp only at hQ
      refine ⟨t2 _ (by omega), fun g58 => ?_, fun g58 => ?_⟩
      · have hl := hr_in g58 (by decide)
        rw [if_pos g58] at hQ
        refine ⟨t2 _ (by omega), ⟨hS6 _, hs, b2⟩, fun hn2 => ?_, fun hn2 => ?_⟩
        · rcases rdM_mn (tx := tx) (p := p + 2) hs with ⟨_, h0⟩ | ⟨v2, hv2, _, hcb2, hl3⟩
          · exact absurd h0 hn2
          · rw [show p + 1 + 1 = p + 2 from rfl, hv2] at hQ
            refine ⟨⟨hA6 _, hp, m0, m2⟩, hQ 1 _ (f1 _ _) (t1 _ _ (by omega)) ⟨rfl, rfl, ?_⟩⟩
            show ((wsB m (mnI m (hr tx p)) (mnI m (hr tx (p + 2))) : Nat) : Int) = _
            rw [wsB_po hp hcb hcb2]
        · rcases rdM_mn (tx := tx) (p := p + 2) hs with ⟨hv2, _⟩ | ⟨v2, hv2, h0, _⟩
          · rw [show p + 1 + 1 = p + 2 from rfl, hv2] at hQ
            exact hQ 0 _ (f2 _) (t2 _ (by omega)) ⟨rfl, rfl⟩
          · exact absurd h0 hn2
      · rw [if_neg g58] at hQ
        refine ⟨⟨hA6 _, hp, m0, any⟩, hQ 1 _ (f1 _ _) (t1 _ _ (by omega)) ⟨rfl, rfl, ?_⟩⟩
        show ((wsB m (mnI m (hr tx p)) 268435455 : Nat) : Int) = _
        rw [wsB_po hp hcb CB_any]
  · rcases rdM_mn (tx := tx) (p := p) hs with ⟨hv, _⟩ | ⟨v, hv, h0, _⟩
    · rw [if_neg h46, if_neg h58, hv] at hQ
      exact hQ 0 _ (Fc.rf _ _ _) hT ⟨rfl, ep⟩
    · exact absurd h0 hn
theorem c_tpart {d : Nat} {w m : eW} {t : eT} {tx : List Int} {e : Int} (h : TC w tx ∧ AC w m ∧ SC w m ∧ WFp m ∧ WFs m ∧ (e = 0 ∨ e = 1)) : Cl (d + 2) 67 [rA 15, rA 2, rA 8, (0, e)] (enc w t) (fun r S2 => ∃ x w2, r = some (0, x) ∧ S2 = enc w2 t ∧ tprP tx m w e x w2) := by
  obtain ⟨hT, hA, hS, hp, hs, he⟩ := h
  have hb := hT.b
  have b0 := hT.hrb (w 2 6).toNat
  refine g_tpart (tx := tx) (m := m) ?_
  have tail : rdT m tx e (w 2 6).toNat = rdT0 m tx (w 2 6).toNat → Ev (d + 2) 67 (fun r S2 => ∃ x w2, r = some (0, x) ∧ S2 = enc w2 t ∧ tprP tx m w e x w2) 21 [rA 15, rA 2, rA 8, (0, e), (9, 0), (9, 0)] [] (enc w t) := fun h9 =>
    e_tpart1 hT hA hS hp hs (fun x w2 a b c => ⟨x, w2, rfl, rfl, a, b, by rw [h9]; exact c⟩)
  rcases he with he | he
  · subst he
    refine ⟨fun _ => tail (by unfold rdT; rw [if_neg (fun h9 => by have := h9.1; omega)]), fun h9 => absurd (by decide +kernel) h9⟩
  · subst he
    refine ⟨fun h9 => absurd h9 (by decide +kernel), fun _ => ⟨hT, fun h35 => ?_, fun h35 => ?_⟩⟩
    · rw [w32_id (by omega), w32_id (by omega)] at h35
      have hl := hr_in h35 (by decide)
      refine ⟨1, _, rfl, rfl, (Fc.pf (by decide)).tr (Fc.pf (by decide)), hT.of rfl rfl (by constructor <;> (simp [wu]) <;> omega), ?_⟩
      unfold rdT
      rw [if_pos ⟨rfl, h35⟩]
      exact ⟨rfl, by show w 2 6 + 1 = _; omega, rfl⟩
    · rw [w32_id (by omega), w32_id (by omega)] at h35
      exact tail (by unfold rdT; rw [if_neg (fun h9 => h35 h9.2)])

