/-! The class: calls that touch little: sign, end, count. -/
def okRow (a : Nat) : Bool := (Nat.ble 3 a && Nat.ble a 7) || a == 33 || (Nat.ble 49 a && Nat.ble a 52) || a == 54 || a == 55 || a == 57 || a == 59 || a == 60 || (Nat.ble 62 a && Nat.ble a 66)
def okFld (p : Nat × Nat) : Bool := p.1 == 2 || (p.1 == 1 && p.2 == 14) || (p.1 == 48 && p.2 == 4) || (p.1 == 15 && Nat.ble 13 p.2 && Nat.ble p.2 15) || (p.1 == 28 && Nat.ble 9 p.2) || p.1 == 53 || p.1 == 58 || p.1 == 61
theorem okRow_i {a : Nat} (h : okRow a = true) : (3 ≤ a ∧ a ≤ 7) ∨ a = 33 ∨ (49 ≤ a ∧ a ≤ 52) ∨ a = 54 ∨ a = 55 ∨ a = 57 ∨ a = 59 ∨ a = 60 ∨ (62 ≤ a ∧ a ≤ 66) := by
  unfold okRow at h
  simp only [Bool.or_eq_true, Bool.and_eq_true, Nat.ble_eq, beq_iff_eq] at h
  omega
theorem okFld_i {p : Nat × Nat} (h : okFld p = true) : p.1 = 2 ∨ (p.1 = 1 ∧ p.2 = 14) ∨ (p.1 = 48 ∧ p.2 = 4) ∨ (p.1 = 15 ∧ 13 ≤ p.2 ∧ p.2 ≤ 15) ∨ (p.1 = 28 ∧ 9 ≤ p.2) ∨ p.1 = 53 ∨ p.1 = 58 ∨ p.1 = 61 := by
  unfold okFld at h
  simp only [Bool.or_eq_true, Bool.and_eq_true, Nat.ble_eq, beq_iff_eq] at h
  omega
theorem all_of {F : List (Nat × Nat)} {g : Nat × Nat → Bool} (h : F.all okFld = true) (hg : ∀ p, okFld p = true → g p = true) : F.all g = true := by
  rw [List.all_eq_true] at h ⊢
  exact fun p hp => hg p (h p hp)
theorem nin_of {F : List (Nat × Nat)} (h : F.all okFld = true) {p : Nat × Nat} (hp : okFld p = false) : p ∉ F := fun h9 => by
  have := List.all_eq_true.mp h p h9
  rw [hp] at this
  cases this
theorem CI.mk {w w2 : eW} {t : eT} {b : Nat × Nat} {m : eW} {ks ks2 : kT} {rl rl2 tx tx2 : List Int} {R : List Nat} {F : List (Nat × Nat)} (h : CI w t b m ks rl tx) (hf : Fc R F w w2) (hR : ∀ a ∈ R, okRow a = true) (hF : F.all okFld = true) (hT : TC w2 tx2 ∧ w2 2 6 = 0) (hK : KC w2 ks2) (hL : TlC w2 rl2) : CI w2 t b m ks2 rl2 tx2 := by
  obtain ⟨⟨_, hA, hS⟩, ⟨hC, hN⟩, ⟨hX, hH⟩, _, _, hD⟩ := h
  have nR : ∀ a, okRow a = false → a ∉ R := fun a ha h9 => by
    have := hR a h9
    rw [ha] at this
    cases this
  refine ⟨⟨hT, hA.fc hf ⟨nR _ rfl, nR _ rfl, nR _ rfl, nR _ rfl, nR _ rfl⟩ ⟨all_of hF (fun p hp => ?_), nin_of hF rfl, nin_of hF rfl⟩, hS.fc hf ⟨nR _ rfl, nR _ rfl, nR _ rfl⟩ ⟨all_of hF (fun p hp => ?_), all_of hF (fun p hp => ?_), nin_of hF rfl⟩⟩, ⟨hC.fc hf (fun a ha => ?_) (all_of hF (fun p hp => ?_)), hN.fc hf (fun a ha => ?_) (all_of hF (fun p hp => ?_))⟩, ⟨hX.fc hf (fun a ha => ?_) (all_of hF (fun p hp => ?_)), hH.fc hf ⟨nR _ rfl, nR _ rfl, nR _ rfl⟩ (all_of hF (fun p hp => ?_))⟩, hK, hL, hD.fc hf (fun a ha => ?_) (all_of hF (fun p hp => ?_))⟩
  all_goals first
    | (have := okRow_i (hR a ha); omega)
    | (have := okFld_i hp; simp; omega)
theorem AnC.of {w w2 : eW} {t2 : eT} {m : eW} {b : Nat × Nat} {ks : kT} {rl tx : List Int} {v : aV} {R : List Nat} {F : List (Nat × Nat)} (hf : Fc R F w w2) (hR : ∀ a ∈ R, a < 67 ∨ 100 < a) (hF : F.all (fun p => decide (p.1 < 67)) = true) (h : CI w2 t2 b m ks rl tx) : AnC w m b ks rl tx v (some v) (enc w2 t2) := ⟨w2, t2, rfl, rfl, hf.up hR hF, h⟩
def tad (w : eW) (v : Int) : eW := wu (wu w 3 (w 2 5).toNat v) 2 5 (w 2 5 + 1)

theorem g_tadd {d : Nat} {Q : Option aV → aS → Prop} {w : eW} {t : eT} {v : Int} (h : ((w32 80 ≤ w32 (w 2 5) → Q none (enc w t)) ∧ (¬ (w32 80 ≤ w32 (w 2 5)) → (0 ≤ w32 (w 2 5) ∧ w32 (w 2 5) < 80) ∧ (Q none (enc (wu (wu w 3 (w32 (w 2 5)).toNat v) 2 5 ((w 2 5) + 1)) t))))) : Cl (d) 78 [rA 2, (0, v)] (enc w t) Q := by
  show Ev (d) 78 Q 0 [rA 2, (0, v)] [] (enc w t)
  refine e_lda (v := 2) (show am_cd 78 0 = (2, 1, 0, 2, []) by decide +kernel) rfl ?_
  refine e_getf (a := 2) (tg := 0) (show am_cd 78 1 = (18, 4, 805, 0, [27]) by decide +kernel) (by decide +kernel) (by decide +kernel) rfl ?_
  refine e_ic (show am_cd 78 4 = (0, 6, 1, 80, []) by decide +kernel) ?_
  refine e_cmp3 (show am_cd 78 6 = (11, 9, 29, 3, []) by decide +kernel) (fun hc => ?_) (fun hc => ?_)
  · replace h := h.1 hc
    exact e_retv (show am_cd 78 29 = (36, 30, 3, 0, []) by decide +kernel) (by decide +kernel) h
  · replace h := h.2 hc
    refine e_lda (v := 2) (show am_cd 78 9 = (2, 10, 0, 2, []) by decide +kernel) rfl ?_
    refine e_getr (a := 2) (r := 3) (show am_cd 78 10 = (18, 13, 800, 2, [9]) by decide +kernel) (by decide +kernel) (by decide +kernel) rfl ?_
    refine e_lda (v := 2) (show am_cd 78 13 = (2, 14, 0, 2, []) by decide +kernel) rfl ?_
    refine e_getf (a := 2) (tg := 0) (show am_cd 78 14 = (18, 17, 805, 0, [27]) by decide +kernel) (by decide +kernel) (by decide +kernel) rfl ?_
    refine e_ldi (show am_cd 78 17 = (2, 18, 1, 0, []) by decide +kernel) rfl ?_
    refine e_iast (a := 3) (n := 80) (show am_cd 78 18 = (24, 19, 0, 0, []) by decide +kernel) (by decide +kernel) (by decide +kernel) (by decide +kernel) h.1 ?_
    replace h := h.2
    refine e_lda (v := 2) (show am_cd 78 19 = (2, 20, 0, 2, []) by decide +kernel) rfl ?_
    refine e_dup (show am_cd 78 20 = (13, 21, 0, 0, []) by decide +kernel) (by decide) ?_
    refine e_getfE (a := 2) (tg := 0) (v := w 2 5) (show am_cd 78 21 = (18, 24, 805, 0, [27]) by decide +kernel) (by decide +kernel) (by decide +kernel) rfl rfl ?_
    refine e_ic (show am_cd 78 24 = (0, 25, 0, 1, []) by decide +kernel) ?_
    refine e_iadd (show am_cd 78 25 = (5, 26, 0, 0, []) by decide +kernel) ?_
    refine e_putf (a := 2) (show am_cd 78 26 = (19, 29, 805, 0, [27]) by decide +kernel) (by decide +kernel) (by decide +kernel) rfl (fun h9 => absurd h9 (by decide)) (fun h9 => absurd h9 (by decide +kernel)) ?_
    exact e_retv (show am_cd 78 29 = (36, 30, 3, 0, []) by decide +kernel) (by decide +kernel) h

theorem c_tadd {d : Nat} {w : eW} {t : eT} {v : Int} (h : 0 ≤ w 2 5 ∧ w 2 5 < 80) : Cl d 78 [rA 2, (0, v)] (enc w t) (fun r S2 => r = none ∧ S2 = enc (tad w v) t) := by
  refine g_tadd ?_
  simp (disch := omega) only [w32_id]
  exact ⟨fun h9 => by omega, fun _ => ⟨by omega, by trivial, by trivial⟩⟩

theorem g_csign {d : Nat} {Q : Option aV → aS → Prop} {w : eW} {t : eT} {v : Int} {tx : List Int} {m : eW} (h : ((w32 ((w 2 5) + 4) ≤ w32 80 → (0 ≤ w 2 5 ∧ w 2 5 < 80) ∧ (0 ≤ (tad w (iushr v 24)) 2 5 ∧ (tad w (iushr v 24)) 2 5 < 80) ∧ (0 ≤ (tad (tad w (iushr v 24)) (iand (iushr v 16) 255)) 2 5 ∧ (tad (tad w (iushr v 24)) (iand (iushr v 16) 255)) 2 5 < 80) ∧ (0 ≤ (tad (tad (tad w (iushr v 24)) (iand (iushr v 16) 255)) (iand (iushr v 8) 255)) 2 5 ∧ (tad (tad (tad w (iushr v 24)) (iand (iushr v 16) 255)) (iand (iushr v 8) 255)) 2 5 < 80) ∧ (Q (some (0, (tad (tad (tad (tad w (iushr v 24)) (iand (iushr v 16) 255)) (iand (iushr v 8) 255)) (iand v 255)) 2 5)) (enc (tad (tad (tad (tad w (iushr v 24)) (iand (iushr v 16) 255)) (iand (iushr v 8) 255)) (iand v 255)) t))) ∧ (¬ (w32 ((w 2 5) + 4) ≤ w32 80) → Q (some (0, (-1))) (enc w t)))) : Cl (d + 1) 122 [rA 1, (0, v)] (enc w t) Q := by
  show Ev (d + 1) 122 Q 0 [rA 1, (0, v)] [] (enc w t)
  refine e_lda (v := 1) (show am_cd 122 0 = (2, 1, 0, 2, []) by decide +kernel) rfl ?_
  refine e_getr (a := 1) (r := 2) (show am_cd 122 1 = (18, 4, 1100, 2, [12]) by decide +kernel) (by decide +kernel) (by decide +kernel) rfl ?_
  refine e_getf (a := 2) (tg := 0) (show am_cd 122 4 = (18, 7, 805, 0, [105]) by decide +kernel) (by decide +kernel) (by decide +kernel) rfl ?_
  refine e_ic (show am_cd 122 7 = (0, 8, 0, 4, []) by decide +kernel) ?_
  refine e_iadd (show am_cd 122 8 = (5, 9, 0, 0, []) by decide +kernel) ?_
  refine e_ic (show am_cd 122 9 = (0, 11, 1, 80, []) by decide +kernel) ?_
  refine e_cmp5 (show am_cd 122 11 = (11, 14, 16, 5, []) by decide +kernel) (fun hc => ?_) (fun hc => ?_)
  · replace h := h.1 hc
    refine e_lda (v := 1) (show am_cd 122 16 = (2, 17, 0, 2, []) by decide +kernel) rfl ?_
    refine e_getr (a := 1) (r := 2) (show am_cd 122 17 = (18, 20, 1100, 2, [12]) by decide +kernel) (by decide +kernel) (by decide +kernel) rfl ?_
    refine e_ldi (show am_cd 122 20 = (2, 21, 1, 0, []) by decide +kernel) rfl ?_
    refine e_ic (show am_cd 122 21 = (0, 23, 1, 24, []) by decide +kernel) ?_
    refine e_iushr (show am_cd 122 23 = (5, 24, 8, 0, []) by decide +kernel) ?_
    refine e_cV (z := 0) (a := 2) (as := [(0, iushr v 24)]) (rest := []) (show am_cd 122 24 = (40, 27, 78, 0, [109]) by decide +kernel) (by decide +kernel) rfl rfl (Nat.le_of_ble_eq_true rfl) rfl ?_
    refine Cl.mono (Cl.up (c_tadd (d := d) h.1) (by omega)) ?_
    rintro _ _ ⟨rfl, rfl⟩
    refine ⟨fun _ h9 => (by cases h9), ?_⟩
    replace h := h.2
    show Ev _ 122 _ 27 [rA 1, (0, v)] [] _
    refine e_lda (v := 1) (show am_cd 122 27 = (2, 28, 0, 2, []) by decide +kernel) rfl ?_
    refine e_getr (a := 1) (r := 2) (show am_cd 122 28 = (18, 31, 1100, 2, [12]) by decide +kernel) (by decide +kernel) (by decide +kernel) rfl ?_
    refine e_ldi (show am_cd 122 31 = (2, 32, 1, 0, []) by decide +kernel) rfl ?_
    refine e_ic (show am_cd 122 32 = (0, 34, 1, 16, []) by decide +kernel) ?_
    refine e_iushr (show am_cd 122 34 = (5, 35, 8, 0, []) by decide +kernel) ?_
    refine e_ic (show am_cd 122 35 = (0, 38, 2, 255, []) by decide +kernel) ?_
    refine e_iand (show am_cd 122 38 = (5, 39, 3, 0, []) by decide +kernel) ?_
    refine e_cV (z := 0) (a := 2) (as := [(0, iand (iushr v 16) 255)]) (rest := []) (show am_cd 122 39 = (40, 42, 78, 0, [109]) by decide +kernel) (by decide +kernel) rfl rfl (Nat.le_of_ble_eq_true rfl) rfl ?_
    refine Cl.mono (Cl.up (c_tadd (d := d) h.1) (by omega)) ?_
    rintro _ _ ⟨rfl, rfl⟩
    refine ⟨fun _ h9 => (by cases h9), ?_⟩
    replace h := h.2
    show Ev _ 122 _ 42 [rA 1, (0, v)] [] _
    refine e_lda (v := 1) (show am_cd 122 42 = (2, 43, 0, 2, []) by decide +kernel) rfl ?_
    refine e_getr (a := 1) (r := 2) (show am_cd 122 43 = (18, 46, 1100, 2, [12]) by decide +kernel) (by decide +kernel) (by decide +kernel) rfl ?_
    refine e_ldi (show am_cd 122 46 = (2, 47, 1, 0, []) by decide +kernel) rfl ?_
    refine e_ic (show am_cd 122 47 = (0, 49, 1, 8, []) by decide +kernel) ?_
    refine e_iushr (show am_cd 122 49 = (5, 50, 8, 0, []) by decide +kernel) ?_
    refine e_ic (show am_cd 122 50 = (0, 53, 2, 255, []) by decide +kernel) ?_
    refine e_iand (show am_cd 122 53 = (5, 54, 3, 0, []) by decide +kernel) ?_
    refine e_cV (z := 0) (a := 2) (as := [(0, iand (iushr v 8) 255)]) (rest := []) (show am_cd 122 54 = (40, 57, 78, 0, [109]) by decide +kernel) (by decide +kernel) rfl rfl (Nat.le_of_ble_eq_true rfl) rfl ?_
    refine Cl.mono (Cl.up (c_tadd (d := d) h.1) (by omega)) ?_
    rintro _ _ ⟨rfl, rfl⟩
    refine ⟨fun _ h9 => (by cases h9), ?_⟩
    replace h := h.2
    show Ev _ 122 _ 57 [rA 1, (0, v)] [] _
    refine e_lda (v := 1) (show am_cd 122 57 = (2, 58, 0, 2, []) by decide +kernel) rfl ?_
    refine e_getr (a := 1) (r := 2) (show am_cd 122 58 = (18, 61, 1100, 2, [12]) by decide +kernel) (by decide +kernel) (by decide +kernel) rfl ?_
    refine e_ldi (show am_cd 122 61 = (2, 62, 1, 0, []) by decide +kernel) rfl ?_
    refine e_ic (show am_cd 122 62 = (0, 65, 2, 255, []) by decide +kernel) ?_
    refine e_iand (show am_cd 122 65 = (5, 66, 3, 0, []) by decide +kernel) ?_
    refine e_cV (z := 0) (a := 2) (as := [(0, iand v 255)]) (rest := []) (show am_cd 122 66 = (40, 69, 78, 0, [109]) by decide +kernel) (by decide +kernel) rfl rfl (Nat.le_of_ble_eq_true rfl) rfl ?_
    refine Cl.mono (Cl.up (c_tadd (d := d) h.1) (by omega)) ?_
    rintro _ _ ⟨rfl, rfl⟩
    refine ⟨fun _ h9 => (by cases h9), ?_⟩
    replace h := h.2
    show Ev _ 122 _ 69 [rA 1, (0, v)] [] _
    refine e_lda (v := 1) (show am_cd 122 69 = (2, 70, 0, 2, []) by decide +kernel) rfl ?_
    refine e_getr (a := 1) (r := 2) (show am_cd 122 70 = (18, 73, 1100, 2, [12]) by decide +kernel) (by decide +kernel) (by decide +kernel) rfl ?_
    refine e_getf (a := 2) (tg := 0) (show am_cd 122 73 = (18, 76, 805, 0, [105]) by decide +kernel) (by decide +kernel) (by decide +kernel) rfl ?_
    exact e_reti (show am_cd 122 76 = (36, 77, 0, 0, []) by decide +kernel) (by decide +kernel) h
  · replace h := h.2 hc
    refine e_ic (show am_cd 122 14 = (0, 15, 0, -1, []) by decide +kernel) ?_
    exact e_reti (show am_cd 122 15 = (36, 16, 0, 0, []) by decide +kernel) (by decide +kernel) h

theorem g_cend {d : Nat} {Q : Option aV → aS → Prop} {w : eW} {t : eT} {v : Int} {tx : List Int} {m : eW} (h : ((w32 v < 0 → Q (some (0, 0)) (enc w t)) ∧ (¬ (w32 v < 0) → ((w32 v ≤ w32 (w 2 5) → Q (some (0, 1)) (enc (wu w 2 5 v) t)) ∧ (¬ (w32 v ≤ w32 (w 2 5)) → Q (some (0, 0)) (enc w t)))))) : Cl (d + 1) 123 [rA 1, (0, v)] (enc w t) Q := by
  show Ev (d + 1) 123 Q 0 [rA 1, (0, v)] [] (enc w t)
  refine e_ldi (show am_cd 123 0 = (2, 1, 1, 0, []) by decide +kernel) rfl ?_
  refine e_if2 (show am_cd 123 1 = (10, 4, 15, 2, []) by decide +kernel) (fun hc => ?_) (fun hc => ?_)
  · replace h := h.1 hc
    refine e_ic (show am_cd 123 15 = (0, 16, 0, 0, []) by decide +kernel) ?_
    exact e_retz (show am_cd 123 16 = (36, 17, 0, 0, []) by decide +kernel) (by decide +kernel) (Or.inl rfl) h
  · replace h := h.2 hc
    refine e_ldi (show am_cd 123 4 = (2, 5, 1, 0, []) by decide +kernel) rfl ?_
    refine e_lda (v := 1) (show am_cd 123 5 = (2, 6, 0, 2, []) by decide +kernel) rfl ?_
    refine e_getr (a := 1) (r := 2) (show am_cd 123 6 = (18, 9, 1100, 2, [12]) by decide +kernel) (by decide +kernel) (by decide +kernel) rfl ?_
    refine e_getf (a := 2) (tg := 0) (show am_cd 123 9 = (18, 12, 805, 0, [105]) by decide +kernel) (by decide +kernel) (by decide +kernel) rfl ?_
    refine e_cmp5 (show am_cd 123 12 = (11, 15, 17, 5, []) by decide +kernel) (fun hc => ?_) (fun hc => ?_)
    · replace h := h.1 hc
      refine e_lda (v := 1) (show am_cd 123 17 = (2, 18, 0, 2, []) by decide +kernel) rfl ?_
      refine e_getr (a := 1) (r := 2) (show am_cd 123 18 = (18, 21, 1100, 2, [12]) by decide +kernel) (by decide +kernel) (by decide +kernel) rfl ?_
      refine e_ldi (show am_cd 123 21 = (2, 22, 1, 0, []) by decide +kernel) rfl ?_
      refine e_putf (a := 2) (show am_cd 123 22 = (19, 25, 805, 0, [105]) by decide +kernel) (by decide +kernel) (by decide +kernel) rfl (fun h9 => absurd h9 (by decide)) (fun h9 => absurd h9 (by decide +kernel)) ?_
      refine e_ic (show am_cd 123 25 = (0, 26, 0, 1, []) by decide +kernel) ?_
      exact e_retz (show am_cd 123 26 = (36, 27, 0, 0, []) by decide +kernel) (by decide +kernel) (Or.inr rfl) h
    · replace h := h.2 hc
      refine e_ic (show am_cd 123 15 = (0, 16, 0, 0, []) by decide +kernel) ?_
      exact e_retz (show am_cd 123 16 = (36, 17, 0, 0, []) by decide +kernel) (by decide +kernel) (Or.inl rfl) h

theorem g_ccount {d : Nat} {Q : Option aV → aS → Prop} {w : eW} {t : eT} {v : Int} {tx : List Int} {m : eW} (h : ((w32 v = 0 → Q (some (0, w 8 6)) (enc w t)) ∧ (w32 v = 1 → Q (some (0, w 8 7)) (enc w t)) ∧ (w32 v = 2 → Q (some (0, w 15 12)) (enc w t)) ∧ (w32 v = 3 → Q (some (0, w 28 8)) (enc w t)) ∧ (w32 v = 4 → Q (some (0, w 48 4)) (enc w t)) ∧ (w32 v = 5 → Q (some (0, w 1 14)) (enc w t)) ∧ (w32 v = 6 → Q (some (0, w 2 5)) (enc w t)) ∧ (w32 v = 7 → Q (some (0, w 8 8)) (enc w t)) ∧ ((w32 v < 0 ∨ 8 ≤ w32 v) → Q (some (0, (-1))) (enc w t)))) : Cl (d + 1) 159 [rA 1, (0, v)] (enc w t) Q := by
  show Ev (d + 1) 159 Q 0 [rA 1, (0, v)] [] (enc w t)
  refine e_ldi (show am_cd 159 0 = (2, 1, 1, 0, []) by decide +kernel) rfl ?_
  refine e_tsw (show am_cd 159 1 = (30, 109, 47, 0, [48, 56, 64, 72, 80, 88, 93, 101]) by decide +kernel) (fun i tg hi hx => ?_) (fun hx => ?_)
  · match i, hi with
    | 0, hi =>
      cases hi
      replace h := h.1 (by omega)
      refine e_lda (v := 1) (show am_cd 159 48 = (2, 49, 0, 2, []) by decide +kernel) rfl ?_
      refine e_getr (a := 1) (r := 8) (show am_cd 159 49 = (18, 52, 1101, 2, [19]) by decide +kernel) (by decide +kernel) (by decide +kernel) rfl ?_
      refine e_getf (a := 8) (tg := 0) (show am_cd 159 52 = (18, 55, 6, 0, [145]) by decide +kernel) (by decide +kernel) (by decide +kernel) rfl ?_
      exact e_reti (show am_cd 159 55 = (36, 56, 0, 0, []) by decide +kernel) (by decide +kernel) h
    | 1, hi =>
      cases hi
      replace h := h.2.1 (by omega)
      refine e_lda (v := 1) (show am_cd 159 56 = (2, 57, 0, 2, []) by decide +kernel) rfl ?_
      refine e_getr (a := 1) (r := 8) (show am_cd 159 57 = (18, 60, 1101, 2, [19]) by decide +kernel) (by decide +kernel) (by decide +kernel) rfl ?_
      refine e_getf (a := 8) (tg := 0) (show am_cd 159 60 = (18, 63, 7, 0, [162]) by decide +kernel) (by decide +kernel) (by decide +kernel) rfl ?_
      exact e_reti (show am_cd 159 63 = (36, 64, 0, 0, []) by decide +kernel) (by decide +kernel) h
    | 2, hi =>
      cases hi
      replace h := h.2.2.1 (by omega)
      refine e_lda (v := 1) (show am_cd 159 64 = (2, 65, 0, 2, []) by decide +kernel) rfl ?_
      refine e_getr (a := 1) (r := 15) (show am_cd 159 65 = (18, 68, 1102, 2, [26]) by decide +kernel) (by decide +kernel) (by decide +kernel) rfl ?_
      refine e_getf (a := 15) (tg := 0) (show am_cd 159 68 = (18, 71, 712, 0, [134]) by decide +kernel) (by decide +kernel) (by decide +kernel) rfl ?_
      exact e_reti (show am_cd 159 71 = (36, 72, 0, 0, []) by decide +kernel) (by decide +kernel) h
    | 3, hi =>
      cases hi
      replace h := h.2.2.2.1 (by omega)
      refine e_lda (v := 1) (show am_cd 159 72 = (2, 73, 0, 2, []) by decide +kernel) rfl ?_
      refine e_getr (a := 1) (r := 28) (show am_cd 159 73 = (18, 76, 1103, 2, [33]) by decide +kernel) (by decide +kernel) (by decide +kernel) rfl ?_
      refine e_getf (a := 28) (tg := 0) (show am_cd 159 76 = (18, 79, 308, 0, [202]) by decide +kernel) (by decide +kernel) (by decide +kernel) rfl ?_
      exact e_reti (show am_cd 159 79 = (36, 80, 0, 0, []) by decide +kernel) (by decide +kernel) h
    | 4, hi =>
      cases hi
      replace h := h.2.2.2.2.1 (by omega)
      refine e_lda (v := 1) (show am_cd 159 80 = (2, 81, 0, 2, []) by decide +kernel) rfl ?_
      refine e_getr (a := 1) (r := 48) (show am_cd 159 81 = (18, 84, 1106, 2, [54]) by decide +kernel) (by decide +kernel) (by decide +kernel) rfl ?_
      refine e_getf (a := 48) (tg := 0) (show am_cd 159 84 = (18, 87, 204, 0, [140]) by decide +kernel) (by decide +kernel) (by decide +kernel) rfl ?_
      exact e_reti (show am_cd 159 87 = (36, 88, 0, 0, []) by decide +kernel) (by decide +kernel) h
    | 5, hi =>
      cases hi
      replace h := h.2.2.2.2.2.1 (by omega)
      refine e_lda (v := 1) (show am_cd 159 88 = (2, 89, 0, 2, []) by decide +kernel) rfl ?_
      refine e_getf (a := 1) (tg := 0) (show am_cd 159 89 = (18, 92, 1114, 0, [242]) by decide +kernel) (by decide +kernel) (by decide +kernel) rfl ?_
      exact e_reti (show am_cd 159 92 = (36, 93, 0, 0, []) by decide +kernel) (by decide +kernel) h
    | 6, hi =>
      cases hi
      replace h := h.2.2.2.2.2.2.1 (by omega)
      refine e_lda (v := 1) (show am_cd 159 93 = (2, 94, 0, 2, []) by decide +kernel) rfl ?_
      refine e_getr (a := 1) (r := 2) (show am_cd 159 94 = (18, 97, 1100, 2, [12]) by decide +kernel) (by decide +kernel) (by decide +kernel) rfl ?_
      refine e_getf (a := 2) (tg := 0) (show am_cd 159 97 = (18, 100, 805, 0, [105]) by decide +kernel) (by decide +kernel) (by decide +kernel) rfl ?_
      exact e_reti (show am_cd 159 100 = (36, 101, 0, 0, []) by decide +kernel) (by decide +kernel) h
    | 7, hi =>
      cases hi
      replace h := h.2.2.2.2.2.2.2.1 (by omega)
      refine e_lda (v := 1) (show am_cd 159 101 = (2, 102, 0, 2, []) by decide +kernel) rfl ?_
      refine e_getr (a := 1) (r := 8) (show am_cd 159 102 = (18, 105, 1101, 2, [19]) by decide +kernel) (by decide +kernel) (by decide +kernel) rfl ?_
      refine e_getf (a := 8) (tg := 0) (show am_cd 159 105 = (18, 108, 8, 0, [366]) by decide +kernel) (by decide +kernel) (by decide +kernel) rfl ?_
      exact e_reti (show am_cd 159 108 = (36, 109, 0, 0, []) by decide +kernel) (by decide +kernel) h
    | i + 8, hi => cases hi
  · replace h := h.2.2.2.2.2.2.2.2 (by simp only [List.length_cons, List.length_nil] at hx; omega)
    refine e_ic (show am_cd 159 109 = (0, 110, 0, -1, []) by decide +kernel) ?_
    exact e_reti (show am_cd 159 110 = (36, 111, 0, 0, []) by decide +kernel) (by decide +kernel) h

theorem tad_TC {w : eW} {tx : List Int} {v : Int} (h : TC w tx) (hl : tx.length < 80) (hv : 0 ≤ v ∧ v < 256) : TC (tad w v) (tx ++ [v]) ∧ (tad w v) 2 6 = w 2 6 ∧ Fc [3] [(2, 5)] w (tad w v) := by
  have e5 := h.2.1
  refine ⟨⟨?_, ?_, fun i hi => ?_⟩, rfl, (Fc.pr (by decide)).tr (Fc.pf (by decide))⟩
  · obtain ⟨t1, t2, t3, t4⟩ := h.1
    refine ⟨t1, ?_, ?_, fun j hj => ?_⟩
    · show w 2 6 ≤ w 2 5 + 1; omega
    · show w 2 5 + 1 ≤ 80; omega
    · show 0 ≤ wu (wu w 3 (w 2 5).toNat v) 2 5 (w 2 5 + 1) 3 j ∧ wu (wu w 3 (w 2 5).toNat v) 2 5 (w 2 5 + 1) 3 j ≤ 255
      rw [wu_na _ _ (by decide)]
      by_cases h9 : j = (w 2 5).toNat
      · rw [h9, wu_eq]; omega
      · rw [wu_nk _ _ h9]; exact t4 j hj
  · show w 2 5 + 1 = _
    rw [e5, List.length_append]; rfl
  · show wu (wu w 3 (w 2 5).toNat v) 2 5 (w 2 5 + 1) 3 i = _
    rw [wu_na _ _ (by decide), e5, Int.toNat_natCast]
    rw [List.length_append] at hi
    have hi : i < tx.length + 1 := hi
    by_cases h9 : i = tx.length
    · rw [h9, wu_eq, gD_last]
    · rw [wu_nk _ _ h9, gD_app (by omega)]
      exact h.2.2 i (by omega)
theorem iush24 (v : Int) : iushr v 24 = v % 4294967296 / 16777216 := by
  have hu : (Int32.ofInt v).toUInt32.toNat = (v % 4294967296).toNat := by
    show (BitVec.ofInt 32 v).toNat = _
    rw [BitVec.toNat_ofInt]; rfl
  have hn : ((Int32.ofInt v).toUInt32 >>> ((Int32.ofInt 24).toUInt32 &&& Int32.toUInt32 31)).toNat = (v % 4294967296).toNat / 16777216 := by
    rw [UInt32.toNat_shiftRight, hu, show ((Int32.ofInt 24).toUInt32 &&& Int32.toUInt32 31).toNat % 32 = 24 by decide, Nat.shiftRight_eq_div_pow]
  show ((Int32.ofInt v).toUInt32 >>> ((Int32.ofInt 24).toUInt32 &&& Int32.toUInt32 31)).toInt32.toInt = _
  generalize ((Int32.ofInt v).toUInt32 >>> ((Int32.ofInt 24).toUInt32 &&& Int32.toUInt32 31)) = u at hn
  show u.toBitVec.toInt = _
  have h2 : u.toBitVec.toNat = (v % 4294967296).toNat / 16777216 := hn
  rw [BitVec.toInt_eq_toNat_of_lt (by rw [h2]; omega), h2]
  omega
theorem iush16 (v : Int) : iushr v 16 = v % 4294967296 / 65536 := by
  have hu : (Int32.ofInt v).toUInt32.toNat = (v % 4294967296).toNat := by
    show (BitVec.ofInt 32 v).toNat = _
    rw [BitVec.toNat_ofInt]; rfl
  have hn : ((Int32.ofInt v).toUInt32 >>> ((Int32.ofInt 16).toUInt32 &&& Int32.toUInt32 31)).toNat = (v % 4294967296).toNat / 65536 := by
    rw [UInt32.toNat_shiftRight, hu, show ((Int32.ofInt 16).toUInt32 &&& Int32.toUInt32 31).toNat % 32 = 16 by decide, Nat.shiftRight_eq_div_pow]
  show ((Int32.ofInt v).toUInt32 >>> ((Int32.ofInt 16).toUInt32 &&& Int32.toUInt32 31)).toInt32.toInt = _
  generalize ((Int32.ofInt v).toUInt32 >>> ((Int32.ofInt 16).toUInt32 &&& Int32.toUInt32 31)) = u at hn
  show u.toBitVec.toInt = _
  have h2 : u.toBitVec.toNat = (v % 4294967296).toNat / 65536 := hn
  rw [BitVec.toInt_eq_toNat_of_lt (by rw [h2]; omega), h2]
  omega
theorem iush8 (v : Int) : iushr v 8 = v % 4294967296 / 256 := by
  have hu : (Int32.ofInt v).toUInt32.toNat = (v % 4294967296).toNat := by
    show (BitVec.ofInt 32 v).toNat = _
    rw [BitVec.toNat_ofInt]; rfl
  have hn : ((Int32.ofInt v).toUInt32 >>> ((Int32.ofInt 8).toUInt32 &&& Int32.toUInt32 31)).toNat = (v % 4294967296).toNat / 256 := by
    rw [UInt32.toNat_shiftRight, hu, show ((Int32.ofInt 8).toUInt32 &&& Int32.toUInt32 31).toNat % 32 = 8 by decide, Nat.shiftRight_eq_div_pow]
  show ((Int32.ofInt v).toUInt32 >>> ((Int32.ofInt 8).toUInt32 &&& Int32.toUInt32 31)).toInt32.toInt = _
  generalize ((Int32.ofInt v).toUInt32 >>> ((Int32.ofInt 8).toUInt32 &&& Int32.toUInt32 31)) = u at hn
  show u.toBitVec.toInt = _
  have h2 : u.toBitVec.toNat = (v % 4294967296).toNat / 256 := hn
  rw [BitVec.toInt_eq_toNat_of_lt (by rw [h2]; omega), h2]
  omega
theorem iand255 (v : Int) : iand v 255 = v % 256 := by
  have hn : (Int32.ofInt v &&& Int32.ofInt 255).toBitVec.toNat = (v % 4294967296).toNat % 256 := by
    rw [Int32.toBitVec_and, BitVec.toNat_and]
    rw [show (Int32.ofInt 255).toBitVec.toNat = 2 ^ 8 - 1 by decide, Nat.and_two_pow_sub_one_eq_mod]
    congr 1
  show (Int32.ofInt v &&& Int32.ofInt 255).toBitVec.toInt = _
  rw [BitVec.toInt_eq_toNat_of_lt (by rw [hn]; omega), hn]
  omega
theorem k_sign {d : Nat} {w : eW} {t : eT} {b : Nat × Nat} {m : eW} {ks : kT} {rl tx : List Int} {v : Int} (h : CI w t b m ks rl tx) (hv : okI v) : Cl (d + 1) 122 [rA 1, (0, v)] (enc w t) (AnC w m b ks rl (signT tx v) (0, signV tx)) := by
  obtain ⟨hT, h0⟩ := h.1.1
  have hl := hT.len
  have e5 := hT.2.1
  have hv2 : -2147483648 ≤ v ∧ v ≤ 2147483647 := hv
  refine g_csign (tx := tx) (m := m) ?_
  rw [e5, iand255, iand255, iand255, iush24, iush16, iush8]
  simp (disch := omega) only [w32_id]
  have b1 : v % 4294967296 / 16777216 = byt v 24 := by unfold byt; omega
  have b2 : v % 4294967296 / 65536 % 256 = byt v 16 := by unfold byt; omega
  have b3 : v % 4294967296 / 256 % 256 = byt v 8 := by unfold byt; omega
  have b4 : v % 256 = byt v 0 := by unfold byt; omega
  rw [b1, b2, b3, b4]
  refine ⟨fun hc => ?_, fun hc => ?_⟩
  · have hc2 : tx.length + 4 ≤ 80 := by omega
    obtain ⟨c1, a1, f1⟩ := tad_TC hT (by omega) (byt_b v 24)
    obtain ⟨c2, a2, f2⟩ := tad_TC c1 (by rw [List.length_append]; show tx.length + 1 < 80; omega) (byt_b v 16)
    obtain ⟨c3, a3, f3⟩ := tad_TC c2 (by rw [List.length_append, List.length_append]; show tx.length + 1 + 1 < 80; omega) (byt_b v 8)
    obtain ⟨c4, a4, f4⟩ := tad_TC c3 (by rw [List.length_append, List.length_append, List.length_append]; show tx.length + 1 + 1 + 1 < 80; omega) (byt_b v 0)
    have g1 := c1.2.1
    have g2 := c2.2.1
    have g3 := c3.2.1
    have g4 := c4.2.1
    have l1 : (tx ++ [byt v 24]).length = tx.length + 1 := by rw [List.length_append]; rfl
    have l2 : (tx ++ [byt v 24] ++ [byt v 16]).length = tx.length + 2 := by rw [List.length_append, l1]; rfl
    have l3 : (tx ++ [byt v 24] ++ [byt v 16] ++ [byt v 8]).length = tx.length + 3 := by rw [List.length_append, l2]; rfl
    have l4 : (tx ++ [byt v 24] ++ [byt v 16] ++ [byt v 8] ++ [byt v 0]).length = tx.length + 4 := by rw [List.length_append, l3]; rfl
    rw [l1] at g1
    rw [l2] at g2
    rw [l3] at g3
    rw [l4] at g4
    generalize tad w (byt v 24) = w1 at *
    generalize tad w1 (byt v 16) = w2 at *
    generalize tad w2 (byt v 8) = w3 at *
    generalize tad w3 (byt v 0) = w4 at *
    rw [g1, g2, g3, g4]
    refine ⟨by omega, by omega, by omega, by omega, ?_⟩
    have f : Fc [3] [(2, 5)] w w4 := ((f1.tr f2).tr f3).tr f4
    unfold signV signT
    rw [if_pos hc2, if_pos hc2]
    have et : tx ++ [byt v 24, byt v 16, byt v 8, byt v 0] = tx ++ [byt v 24] ++ [byt v 16] ++ [byt v 8] ++ [byt v 0] := by simp
    rw [et]
    exact AnC.of f (by decide) (by decide) (h.mk f (by decide) (by decide) ⟨c4, by rw [a4, a3, a2, a1]; exact h0⟩ (h.2.2.2.1.fc f (by decide) (by decide)) (h.2.2.2.2.1.fc f (by decide) (by decide)))
  · unfold signV signT
    rw [if_neg (by omega), if_neg (by omega)]
    exact AnC.of (Fc.rf [] [] w) (by decide) (by decide) h
theorem k_end {d : Nat} {w : eW} {t : eT} {b : Nat × Nat} {m : eW} {ks : kT} {rl tx : List Int} {v : Int} (h : CI w t b m ks rl tx) (hv : okI v) : Cl (d + 1) 123 [rA 1, (0, v)] (enc w t) (AnC w m b ks rl (endT tx v) (0, endV tx v)) := by
  obtain ⟨hT, h0⟩ := h.1.1
  have hl := hT.len
  have e5 := hT.2.1
  have hv2 : -2147483648 ≤ v ∧ v ≤ 2147483647 := hv
  refine g_cend (tx := tx) (m := m) ?_
  rw [e5]
  simp (disch := omega) only [w32_id]
  unfold endV endT
  have no : ¬ (0 ≤ v ∧ v ≤ (tx.length : Int)) → AnC w m b ks rl (if 0 ≤ v ∧ v ≤ (tx.length : Int) then tx.take v.toNat else tx) (0, bI (decide (0 ≤ v ∧ v ≤ (tx.length : Int)))) (some (0, 0)) (enc w t) := fun h9 => by
    rw [if_neg h9, decide_eq_false h9]
    exact AnC.of (Fc.rf [] [] w) (by decide) (by decide) h
  refine ⟨fun hc => no (by omega), fun hc => ⟨fun hd => ?_, fun hd => no (by omega)⟩⟩
  rw [if_pos (by omega), decide_eq_true (by omega)]
  have f : Fc [] [(2, 5)] w (wu w 2 5 v) := Fc.pf (by decide)
  have hlen : (tx.take v.toNat).length = v.toNat := by rw [List.length_take]; omega
  refine AnC.of f (by decide) (by decide) (h.mk f (by decide) (by decide) ⟨⟨?_, ?_, fun i hi => ?_⟩, h0⟩ (h.2.2.2.1.fc f (by decide) (by decide)) (h.2.2.2.2.1.fc f (by decide) (by decide)))
  · obtain ⟨t1, t2, t3, t4⟩ := hT.1
    exact ⟨t1, by show w 2 6 ≤ v; omega, by show v ≤ 80; omega, t4⟩
  · show v = _
    rw [hlen]; omega
  · rw [hlen] at hi
    show w 3 i = _
    rw [hT.2.2 i (by omega)]
    simp [List.getD, List.getElem?_take, hi]
theorem k_count {d : Nat} {w : eW} {t : eT} {b : Nat × Nat} {m : eW} {ks : kT} {rl tx : List Int} {v : Int} (h : CI w t b m ks rl tx) (hv : okI v) : Cl (d + 1) 159 [rA 1, (0, v)] (enc w t) (AnC w m b ks rl tx (0, countV m ks rl tx v)) := by
  have hv2 : -2147483648 ≤ v ∧ v ≤ 2147483647 := hv
  obtain ⟨⟨hT, hA, hS⟩, ⟨hC, hN⟩, ⟨hX, hH⟩, hK, hL, hD⟩ := h
  refine g_ccount (tx := tx) (m := m) ?_
  rw [hA.1, hS.1, hC.1, hX.1, hK.1, hL.1, hT.1.2.1, hA.2.2.2]
  simp (disch := omega) only [w32_id]
  have fin : ∀ x, x = countV m ks rl tx v → AnC w m b ks rl tx (0, countV m ks rl tx v) (some (0, x)) (enc w t) := fun x hx => by
    rw [hx]
    exact AnC.of (Fc.rf [] [] w) (by decide) (by decide) ⟨⟨hT, hA, hS⟩, ⟨hC, hN⟩, ⟨hX, hH⟩, hK, hL, hD⟩
  unfold countV at *
  refine ⟨fun h9 => fin _ ?_, fun h9 => fin _ ?_, fun h9 => fin _ ?_, fun h9 => fin _ ?_, fun h9 => fin _ ?_, fun h9 => fin _ ?_, fun h9 => fin _ ?_, fun h9 => fin _ ?_, fun h9 => fin _ ?_⟩
  all_goals (first | subst h9 | skip)
  all_goals (first | rfl | (rw [if_neg (by omega), if_neg (by omega), if_neg (by omega), if_neg (by omega), if_neg (by omega), if_neg (by omega), if_neg (by omega), if_neg (by omega)]))

