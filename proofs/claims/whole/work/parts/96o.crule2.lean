/-! The class: the calls rule and drops. -/
def okRow2 (a : Nat) : Bool := okRow a || (Nat.ble 17 a && Nat.ble a 22)
theorem okRow2_i {a : Nat} (h : okRow2 a = true) : (3 ≤ a ∧ a ≤ 7) ∨ (17 ≤ a ∧ a ≤ 22) ∨ a = 33 ∨ (49 ≤ a ∧ a ≤ 52) ∨ a = 54 ∨ a = 55 ∨ a = 57 ∨ a = 59 ∨ a = 60 ∨ (62 ≤ a ∧ a ≤ 66) := by
  unfold okRow2 okRow at h
  simp only [Bool.or_eq_true, Bool.and_eq_true, Nat.ble_eq, beq_iff_eq] at h
  omega
theorem CI.mk2 {w w2 : eW} {t : eT} {b : Nat × Nat} {m : eW} {ks ks2 : kT} {rl rl2 tx tx2 : List Int} {R : List Nat} {F : List (Nat × Nat)} (h : CI w t b m ks rl tx) (hf : Fc R F w w2) (hR : ∀ a ∈ R, okRow2 a = true) (hF : F.all okFld = true) (hC : RC w2 m) (hT : TC w2 tx2 ∧ w2 2 6 = 0) (hK : KC w2 ks2) (hL : TlC w2 rl2) : CI w2 t b m ks2 rl2 tx2 := by
  obtain ⟨⟨_, hA, hS⟩, ⟨_, hN⟩, ⟨hX, hH⟩, _, _, hD⟩ := h
  have nR : ∀ a, okRow2 a = false → a ∉ R := fun a ha h9 => by
    have := hR a h9
    rw [ha] at this
    cases this
  refine ⟨⟨hT, hA.fc hf ⟨nR _ rfl, nR _ rfl, nR _ rfl, nR _ rfl, nR _ rfl⟩ ⟨all_of hF (fun p hp => ?_), nin_of hF rfl, nin_of hF rfl⟩, hS.fc hf ⟨nR _ rfl, nR _ rfl, nR _ rfl⟩ ⟨all_of hF (fun p hp => ?_), all_of hF (fun p hp => ?_), nin_of hF rfl⟩⟩, ⟨hC, hN.fc hf (fun a ha => ?_) (all_of hF (fun p hp => ?_))⟩, ⟨hX.fc hf (fun a ha => ?_) (all_of hF (fun p hp => ?_)), hH.fc hf ⟨nR _ rfl, nR _ rfl, nR _ rfl⟩ (all_of hF (fun p hp => ?_))⟩, hK, hL, hD.fc hf (fun a ha => ?_) (all_of hF (fun p hp => ?_))⟩
  all_goals first
    | (have := okRow2_i (hR a ha); omega)
    | (have := okFld_i hp; simp; omega)
theorem RC.ot {w w2 m : eW} (h : RC w m) (ho : Ot (nR m) w w2) (e : w2 15 12 = w 15 12) : RC w2 m := by
  refine ⟨by rw [e]; exact h.1, fun r hr => ?_⟩
  have := h.2 r hr
  rw [ho 16 r (by omega) (by omega) (by omega), ho 17 r (by omega) (by omega) (by omega), ho 18 r (by omega) (by omega) (by omega), ho 19 r (by omega) (by omega) (by omega), ho 20 r (by omega) (by omega) (by omega), ho 21 r (by omega) (by omega) (by omega), ho 22 r (by omega) (by omega) (by omega)]
  exact this
/-- what depends on the pairs alone, and on the entries alone -/
theorem AC.mm {w m m2 : eW} (h : AC w m) (e0 : m2 67 0 = m 67 0) (r : m2 68 = m 68 ∧ m2 69 = m 69) : AC w m2 := by
  have n0 : nP m2 = nP m := by unfold nP; rw [e0]
  unfold AC byU byL insB at *
  rw [e0, r.1, r.2, n0]
  exact h
theorem SC.mm {w m m2 : eW} (h : SC w m) (e0 : m2 67 3 = m 67 3) (r : m2 70 = m 70 ∧ m2 71 = m 71) : SC w m2 := by
  have n0 : nS m2 = nS m := by unfold nS; rw [e0]
  unfold SC at *
  rw [e0, r.1, r.2, n0]
  exact h
theorem XC.mm {w m m2 : eW} (h : XC w m) (e0 : m2 67 12 = m 67 12) (r : ∀ a, 77 ≤ a → a ≤ 80 → m2 a = m a) : XC w m2 := by
  have n0 : nE m2 = nE m := by unfold nE; rw [e0]
  unfold XC fmN at *
  rw [e0, n0, r 77 (by omega) (by omega), r 78 (by omega) (by omega), r 79 (by omega) (by omega), r 80 (by omega) (by omega)]
  exact h
theorem ShC.mm {w m m2 : eW} (h : ShC w m) (e0 : m2 67 12 = m 67 12) (r : ∀ a, 77 ≤ a → a ≤ 79 → m2 a = m a) : ShC w m2 := ⟨h.1, fun c n hc hn => h.2.1 c n hc (Cn_mm e0 r hn), h.2.2⟩

theorem g_crule {d : Nat} {Q : Option aV → aS → Prop} {w : eW} {t : eT} {tx : List Int} {m mL : eW} {n : Nat} (h : (LfI n tx m w ∧ w 2 6 = 0 ∧ WFp m ∧ WFs m ∧ n ≤ 8) ∧ (∀ x1 w2, (ruQ n tx m w x1 w2) → ((¬ w32 x1 = 0 → (AC w2 m ∧ WFp m ∧ (0 ≤ w2 15 13 ∧ w2 15 13 ≤ 27) ∧ (0 ≤ w2 15 14 ∧ w2 15 14 ≤ 27)) ∧ ((¬ w32 (nbI m (w2 15 13) (w2 15 14)) = w32 (-1) → ((w32 (w2 15 12) < w32 8 → ((w32 8 ≤ w32 (w2 15 12) → (RC w2 mL ∧ AC w2 mL ∧ WFp mL ∧ WFr mL) ∧ (∀ w3, (Fc [23, 24, 25, 26, 27] [(15, 16), (15, 17)] w2 w3 ∧ LN w3 mL) → Q (some (0, (w3 15 12) - 1)) (enc (wu (wu (wu w3 37 8 1) 2 5 0) 2 6 0) t))) ∧ (¬ (w32 8 ≤ w32 (w2 15 12)) → (0 ≤ w32 (w2 15 12) ∧ w32 (w2 15 12) < 9) ∧ (RC (wu (wu w2 16 (w32 (w2 15 12)).toNat (nbI m (w2 15 13) (w2 15 14))) 15 12 ((w2 15 12) + 1)) mL ∧ AC (wu (wu w2 16 (w32 (w2 15 12)).toNat (nbI m (w2 15 13) (w2 15 14))) 15 12 ((w2 15 12) + 1)) mL ∧ WFp mL ∧ WFr mL) ∧ (∀ w4, (Fc [23, 24, 25, 26, 27] [(15, 16), (15, 17)] (wu (wu w2 16 (w32 (w2 15 12)).toNat (nbI m (w2 15 13) (w2 15 14))) 15 12 ((w2 15 12) + 1)) w4 ∧ LN w4 mL) → Q (some (0, (w4 15 12) - 1)) (enc (wu (wu (wu w4 37 8 1) 2 5 0) 2 6 0) t))))) ∧ (¬ (w32 (w2 15 12) < w32 8) → Q (some (0, (-3))) (enc (wu (wu w2 2 5 0) 2 6 0) t)))) ∧ (¬ (¬ w32 (nbI m (w2 15 13) (w2 15 14)) = w32 (-1)) → Q (some (0, (-2))) (enc (wu (wu w2 2 5 0) 2 6 0) t)))) ∧ (¬ (¬ w32 x1 = 0) → Q (some (0, (-21) - (w2 2 6))) (enc (wu (wu w2 2 5 0) 2 6 0) t))))) : Cl (d + 7) 129 [rA 1] (enc w t) Q := by
  show Ev (d + 7) 129 Q 0 [rA 1, (9, 0)] [] (enc w t)
  refine e_lda (v := 1) (show am_cd 129 0 = (2, 1, 0, 2, []) by decide +kernel) rfl ?_
  refine e_cV (z := 0) (a := 1) (as := []) (rest := []) (show am_cd 129 1 = (40, 4, 130, 0, [172]) by decide +kernel) (by decide +kernel) rfl rfl (Nat.le_of_ble_eq_true rfl) rfl ?_
  show Ev _ 130 _ 0 [rA 1, (9, 0)] [] _
  refine e_lda (v := 1) (show am_cd 130 0 = (2, 1, 0, 2, []) by decide +kernel) rfl ?_
  refine e_getr (a := 1) (r := 15) (show am_cd 130 1 = (18, 4, 1102, 2, [26]) by decide +kernel) (by decide +kernel) (by decide +kernel) rfl ?_
  refine e_lda (v := 1) (show am_cd 130 4 = (2, 5, 0, 2, []) by decide +kernel) rfl ?_
  refine e_getr (a := 1) (r := 2) (show am_cd 130 5 = (18, 8, 1100, 2, [12]) by decide +kernel) (by decide +kernel) (by decide +kernel) rfl ?_
  refine e_lda (v := 1) (show am_cd 130 8 = (2, 9, 0, 2, []) by decide +kernel) rfl ?_
  refine e_getr (a := 1) (r := 8) (show am_cd 130 9 = (18, 12, 1101, 2, [19]) by decide +kernel) (by decide +kernel) (by decide +kernel) rfl ?_
  refine e_cV (z := 0) (a := 15) (as := [rA 2, rA 8]) (rest := []) (show am_cd 130 12 = (40, 15, 62, 0, [175]) by decide +kernel) (by decide +kernel) rfl rfl (Nat.le_of_ble_eq_true rfl) rfl ?_
  refine Cl.mono (Cl.up (c_rtakes (d := d) h.1) (by omega)) ?_
  rintro _ _ ⟨x1, w2, rfl, rfl, hp⟩
  refine ⟨fun _ h9 => (by cases h9), ?_⟩
  replace h := h.2 x1 w2 hp
  show Ev _ 130 _ 15 [rA 1, (9, 0)] [(0, x1)] _
  refine e_if1 (show am_cd 130 15 = (10, 18, 23, 1, []) by decide +kernel) (fun hc => ?_) (fun hc => ?_)
  · replace h := h.1 hc
    refine e_lda (v := 1) (show am_cd 130 23 = (2, 24, 0, 2, []) by decide +kernel) rfl ?_
    refine e_getr (a := 1) (r := 8) (show am_cd 130 24 = (18, 27, 1101, 2, [19]) by decide +kernel) (by decide +kernel) (by decide +kernel) rfl ?_
    refine e_lda (v := 1) (show am_cd 130 27 = (2, 28, 0, 2, []) by decide +kernel) rfl ?_
    refine e_getr (a := 1) (r := 15) (show am_cd 130 28 = (18, 31, 1102, 2, [26]) by decide +kernel) (by decide +kernel) (by decide +kernel) rfl ?_
    refine e_getf (a := 15) (tg := 0) (show am_cd 130 31 = (18, 34, 713, 0, [179]) by decide +kernel) (by decide +kernel) (by decide +kernel) rfl ?_
    refine e_lda (v := 1) (show am_cd 130 34 = (2, 35, 0, 2, []) by decide +kernel) rfl ?_
    refine e_getr (a := 1) (r := 15) (show am_cd 130 35 = (18, 38, 1102, 2, [26]) by decide +kernel) (by decide +kernel) (by decide +kernel) rfl ?_
    refine e_getf (a := 15) (tg := 0) (show am_cd 130 38 = (18, 41, 714, 0, [182]) by decide +kernel) (by decide +kernel) (by decide +kernel) rfl ?_
    refine e_cV (z := 0) (a := 8) (as := [(0, w2 15 13), (0, w2 15 14)]) (rest := []) (show am_cd 130 41 = (40, 44, 4, 0, [185]) by decide +kernel) (by decide +kernel) rfl rfl (Nat.le_of_ble_eq_true rfl) rfl ?_
    refine Cl.mono (Cl.up (c_nb (d := d) h.1) (by omega)) ?_
    rintro _ _ ⟨rfl, rfl⟩
    refine ⟨fun _ h9 => (by cases h9), ?_⟩
    replace h := h.2
    show Ev _ 130 _ 44 [rA 1, (9, 0)] [(0, nbI m (w2 15 13) (w2 15 14))] _
    refine e_sti (la2 := [rA 1, (0, nbI m (w2 15 13) (w2 15 14))]) (show am_cd 130 44 = (3, 45, 1, 0, []) by decide +kernel) rfl ?_
    refine e_ldi (show am_cd 130 45 = (2, 46, 1, 0, []) by decide +kernel) rfl ?_
    refine e_ic (show am_cd 130 46 = (0, 47, 0, -1, []) by decide +kernel) ?_
    refine e_cmp1 (show am_cd 130 47 = (11, 50, 53, 1, []) by decide +kernel) (fun hc => ?_) (fun hc => ?_)
    · replace h := h.1 hc
      refine e_lda (v := 1) (show am_cd 130 53 = (2, 54, 0, 2, []) by decide +kernel) rfl ?_
      refine e_getr (a := 1) (r := 15) (show am_cd 130 54 = (18, 57, 1102, 2, [26]) by decide +kernel) (by decide +kernel) (by decide +kernel) rfl ?_
      refine e_getf (a := 15) (tg := 0) (show am_cd 130 57 = (18, 60, 712, 0, [134]) by decide +kernel) (by decide +kernel) (by decide +kernel) rfl ?_
      refine e_ic (show am_cd 130 60 = (0, 62, 1, 8, []) by decide +kernel) ?_
      refine e_cmp2 (show am_cd 130 62 = (11, 65, 68, 2, []) by decide +kernel) (fun hc => ?_) (fun hc => ?_)
      · replace h := h.1 hc
        refine e_lda (v := 1) (show am_cd 130 68 = (2, 69, 0, 2, []) by decide +kernel) rfl ?_
        refine e_getr (a := 1) (r := 15) (show am_cd 130 69 = (18, 72, 1102, 2, [26]) by decide +kernel) (by decide +kernel) (by decide +kernel) rfl ?_
        refine e_ldi (show am_cd 130 72 = (2, 73, 1, 0, []) by decide +kernel) rfl ?_
        refine e_cV (z := 0) (a := 15) (as := [(0, nbI m (w2 15 13) (w2 15 14))]) (rest := []) (show am_cd 130 73 = (40, 76, 68, 0, [189]) by decide +kernel) (by decide +kernel) rfl rfl (Nat.le_of_ble_eq_true rfl) rfl ?_
        show Ev _ 68 _ 0 [rA 15, (0, nbI m (w2 15 13) (w2 15 14))] [] _
        refine e_lda (v := 15) (show am_cd 68 0 = (2, 1, 0, 2, []) by decide +kernel) rfl ?_
        refine e_getf (a := 15) (tg := 0) (show am_cd 68 1 = (18, 4, 712, 0, [82]) by decide +kernel) (by decide +kernel) (by decide +kernel) rfl ?_
        refine e_ic (show am_cd 68 4 = (0, 6, 1, 8, []) by decide +kernel) ?_
        refine e_cmp3 (show am_cd 68 6 = (11, 9, 29, 3, []) by decide +kernel) (fun hc => ?_) (fun hc => ?_)
        · replace h := h.1 hc
          refine e_retv (show am_cd 68 29 = (36, 30, 3, 0, []) by decide +kernel) (by decide +kernel) ⟨fun _ h9 => (by cases h9), ?_⟩
          show Ev _ 130 _ 76 [rA 1, (0, nbI m (w2 15 13) (w2 15 14))] [] _
          refine e_lda (v := 1) (show am_cd 130 76 = (2, 77, 0, 2, []) by decide +kernel) rfl ?_
          refine e_getr (a := 1) (r := 15) (show am_cd 130 77 = (18, 80, 1102, 2, [26]) by decide +kernel) (by decide +kernel) (by decide +kernel) rfl ?_
          refine e_lda (v := 1) (show am_cd 130 80 = (2, 81, 0, 2, []) by decide +kernel) rfl ?_
          refine e_getr (a := 1) (r := 8) (show am_cd 130 81 = (18, 84, 1101, 2, [19]) by decide +kernel) (by decide +kernel) (by decide +kernel) rfl ?_
          refine e_cV (z := 0) (a := 15) (as := [rA 8]) (rest := []) (show am_cd 130 84 = (40, 87, 70, 0, [135]) by decide +kernel) (by decide +kernel) rfl rfl (Nat.le_of_ble_eq_true rfl) rfl ?_
          refine Cl.mono (Cl.up (c_learn (m := mL) (d := d) h.1) (by omega)) ?_
          rintro _ _ ⟨w3, rfl, rfl, hp⟩
          refine ⟨fun _ h9 => (by cases h9), ?_⟩
          replace h := h.2 w3 hp
          show Ev _ 130 _ 87 [rA 1, (0, nbI m (w2 15 13) (w2 15 14))] [] _
          refine e_lda (v := 1) (show am_cd 130 87 = (2, 88, 0, 2, []) by decide +kernel) rfl ?_
          refine e_getr (a := 1) (r := 37) (show am_cd 130 88 = (18, 91, 1104, 2, [40]) by decide +kernel) (by decide +kernel) (by decide +kernel) rfl ?_
          refine e_ic (show am_cd 130 91 = (0, 92, 0, 1, []) by decide +kernel) ?_
          refine e_putf (a := 37) (show am_cd 130 92 = (19, 95, 408, 0, [141]) by decide +kernel) (by decide +kernel) (by decide +kernel) rfl (fun h9 => absurd h9 (by decide)) (fun _ => Or.inr rfl) ?_
          refine e_lda (v := 1) (show am_cd 130 95 = (2, 96, 0, 2, []) by decide +kernel) rfl ?_
          refine e_getr (a := 1) (r := 15) (show am_cd 130 96 = (18, 99, 1102, 2, [26]) by decide +kernel) (by decide +kernel) (by decide +kernel) rfl ?_
          refine e_getfE (a := 15) (tg := 0) (v := w3 15 12) (show am_cd 130 99 = (18, 102, 712, 0, [134]) by decide +kernel) (by decide +kernel) (by decide +kernel) rfl rfl ?_
          refine e_ic (show am_cd 130 102 = (0, 103, 0, 1, []) by decide +kernel) ?_
          refine e_isub (show am_cd 130 103 = (5, 104, 1, 0, []) by decide +kernel) ?_
          refine e_reti (show am_cd 130 104 = (36, 105, 0, 0, []) by decide +kernel) (by decide +kernel) ⟨fun _ h9 => (by cases h9), ?_⟩
          show Ev _ 129 _ 4 [rA 1, (9, 0)] [(0, (w3 15 12) - 1)] _
          refine e_sti (la2 := [rA 1, (0, (w3 15 12) - 1)]) (show am_cd 129 4 = (3, 5, 1, 0, []) by decide +kernel) rfl ?_
          refine e_lda (v := 1) (show am_cd 129 5 = (2, 6, 0, 2, []) by decide +kernel) rfl ?_
          refine e_getr (a := 1) (r := 2) (show am_cd 129 6 = (18, 9, 1100, 2, [12]) by decide +kernel) (by decide +kernel) (by decide +kernel) rfl ?_
          refine e_cV (z := 0) (a := 2) (as := []) (rest := []) (show am_cd 129 9 = (40, 12, 79, 0, [117]) by decide +kernel) (by decide +kernel) rfl rfl (Nat.le_of_ble_eq_true rfl) rfl ?_
          show Ev _ 79 _ 0 [rA 2] [] _
          refine e_lda (v := 2) (show am_cd 79 0 = (2, 1, 0, 2, []) by decide +kernel) rfl ?_
          refine e_ic (show am_cd 79 1 = (0, 2, 0, 0, []) by decide +kernel) ?_
          refine e_putf (a := 2) (show am_cd 79 2 = (19, 5, 805, 0, [27]) by decide +kernel) (by decide +kernel) (by decide +kernel) rfl (fun h9 => absurd h9 (by decide)) (fun h9 => absurd h9 (by decide +kernel)) ?_
          refine e_lda (v := 2) (show am_cd 79 5 = (2, 6, 0, 2, []) by decide +kernel) rfl ?_
          refine e_ic (show am_cd 79 6 = (0, 7, 0, 0, []) by decide +kernel) ?_
          refine e_putf (a := 2) (show am_cd 79 7 = (19, 10, 806, 0, [31]) by decide +kernel) (by decide +kernel) (by decide +kernel) rfl (fun h9 => absurd h9 (by decide)) (fun h9 => absurd h9 (by decide +kernel)) ?_
          refine e_retv (show am_cd 79 10 = (36, 11, 3, 0, []) by decide +kernel) (by decide +kernel) ⟨fun _ h9 => (by cases h9), ?_⟩
          show Ev _ 129 _ 12 [rA 1, (0, (w3 15 12) - 1)] [] _
          refine e_ldi (show am_cd 129 12 = (2, 13, 1, 0, []) by decide +kernel) rfl ?_
          exact e_reti (show am_cd 129 13 = (36, 14, 0, 0, []) by decide +kernel) (by decide +kernel) h
        · replace h := h.2 hc
          refine e_lda (v := 15) (show am_cd 68 9 = (2, 10, 0, 2, []) by decide +kernel) rfl ?_
          refine e_getr (a := 15) (r := 16) (show am_cd 68 10 = (18, 13, 700, 2, [9]) by decide +kernel) (by decide +kernel) (by decide +kernel) rfl ?_
          refine e_lda (v := 15) (show am_cd 68 13 = (2, 14, 0, 2, []) by decide +kernel) rfl ?_
          refine e_getf (a := 15) (tg := 0) (show am_cd 68 14 = (18, 17, 712, 0, [82]) by decide +kernel) (by decide +kernel) (by decide +kernel) rfl ?_
          refine e_ldi (show am_cd 68 17 = (2, 18, 1, 0, []) by decide +kernel) rfl ?_
          refine e_iast (a := 16) (n := 9) (show am_cd 68 18 = (24, 19, 0, 0, []) by decide +kernel) (by decide +kernel) (by decide +kernel) (by decide +kernel) h.1 ?_
          replace h := h.2
          refine e_lda (v := 15) (show am_cd 68 19 = (2, 20, 0, 2, []) by decide +kernel) rfl ?_
          refine e_dup (show am_cd 68 20 = (13, 21, 0, 0, []) by decide +kernel) (by decide) ?_
          refine e_getfE (a := 15) (tg := 0) (v := w2 15 12) (show am_cd 68 21 = (18, 24, 712, 0, [82]) by decide +kernel) (by decide +kernel) (by decide +kernel) rfl rfl ?_
          refine e_ic (show am_cd 68 24 = (0, 25, 0, 1, []) by decide +kernel) ?_
          refine e_iadd (show am_cd 68 25 = (5, 26, 0, 0, []) by decide +kernel) ?_
          refine e_putf (a := 15) (show am_cd 68 26 = (19, 29, 712, 0, [82]) by decide +kernel) (by decide +kernel) (by decide +kernel) rfl (fun h9 => absurd h9 (by decide)) (fun h9 => absurd h9 (by decide +kernel)) ?_
          refine e_retv (show am_cd 68 29 = (36, 30, 3, 0, []) by decide +kernel) (by decide +kernel) ⟨fun _ h9 => (by cases h9), ?_⟩
          show Ev _ 130 _ 76 [rA 1, (0, nbI m (w2 15 13) (w2 15 14))] [] _
          refine e_lda (v := 1) (show am_cd 130 76 = (2, 77, 0, 2, []) by decide +kernel) rfl ?_
          refine e_getr (a := 1) (r := 15) (show am_cd 130 77 = (18, 80, 1102, 2, [26]) by decide +kernel) (by decide +kernel) (by decide +kernel) rfl ?_
          refine e_lda (v := 1) (show am_cd 130 80 = (2, 81, 0, 2, []) by decide +kernel) rfl ?_
          refine e_getr (a := 1) (r := 8) (show am_cd 130 81 = (18, 84, 1101, 2, [19]) by decide +kernel) (by decide +kernel) (by decide +kernel) rfl ?_
          refine e_cV (z := 0) (a := 15) (as := [rA 8]) (rest := []) (show am_cd 130 84 = (40, 87, 70, 0, [135]) by decide +kernel) (by decide +kernel) rfl rfl (Nat.le_of_ble_eq_true rfl) rfl ?_
          refine Cl.mono (Cl.up (c_learn (m := mL) (d := d) h.1) (by omega)) ?_
          rintro _ _ ⟨w4, rfl, rfl, hp⟩
          refine ⟨fun _ h9 => (by cases h9), ?_⟩
          replace h := h.2 w4 hp
          show Ev _ 130 _ 87 [rA 1, (0, nbI m (w2 15 13) (w2 15 14))] [] _
          refine e_lda (v := 1) (show am_cd 130 87 = (2, 88, 0, 2, []) by decide +kernel) rfl ?_
          refine e_getr (a := 1) (r := 37) (show am_cd 130 88 = (18, 91, 1104, 2, [40]) by decide +kernel) (by decide +kernel) (by decide +kernel) rfl ?_
          refine e_ic (show am_cd 130 91 = (0, 92, 0, 1, []) by decide +kernel) ?_
          refine e_putf (a := 37) (show am_cd 130 92 = (19, 95, 408, 0, [141]) by decide +kernel) (by decide +kernel) (by decide +kernel) rfl (fun h9 => absurd h9 (by decide)) (fun _ => Or.inr rfl) ?_
          refine e_lda (v := 1) (show am_cd 130 95 = (2, 96, 0, 2, []) by decide +kernel) rfl ?_
          refine e_getr (a := 1) (r := 15) (show am_cd 130 96 = (18, 99, 1102, 2, [26]) by decide +kernel) (by decide +kernel) (by decide +kernel) rfl ?_
          refine e_getfE (a := 15) (tg := 0) (v := w4 15 12) (show am_cd 130 99 = (18, 102, 712, 0, [134]) by decide +kernel) (by decide +kernel) (by decide +kernel) rfl rfl ?_
          refine e_ic (show am_cd 130 102 = (0, 103, 0, 1, []) by decide +kernel) ?_
          refine e_isub (show am_cd 130 103 = (5, 104, 1, 0, []) by decide +kernel) ?_
          refine e_reti (show am_cd 130 104 = (36, 105, 0, 0, []) by decide +kernel) (by decide +kernel) ⟨fun _ h9 => (by cases h9), ?_⟩
          show Ev _ 129 _ 4 [rA 1, (9, 0)] [(0, (w4 15 12) - 1)] _
          refine e_sti (la2 := [rA 1, (0, (w4 15 12) - 1)]) (show am_cd 129 4 = (3, 5, 1, 0, []) by decide +kernel) rfl ?_
          refine e_lda (v := 1) (show am_cd 129 5 = (2, 6, 0, 2, []) by decide +kernel) rfl ?_
          refine e_getr (a := 1) (r := 2) (show am_cd 129 6 = (18, 9, 1100, 2, [12]) by decide +kernel) (by decide +kernel) (by decide +kernel) rfl ?_
          refine e_cV (z := 0) (a := 2) (as := []) (rest := []) (show am_cd 129 9 = (40, 12, 79, 0, [117]) by decide +kernel) (by decide +kernel) rfl rfl (Nat.le_of_ble_eq_true rfl) rfl ?_
          show Ev _ 79 _ 0 [rA 2] [] _
          refine e_lda (v := 2) (show am_cd 79 0 = (2, 1, 0, 2, []) by decide +kernel) rfl ?_
          refine e_ic (show am_cd 79 1 = (0, 2, 0, 0, []) by decide +kernel) ?_
          refine e_putf (a := 2) (show am_cd 79 2 = (19, 5, 805, 0, [27]) by decide +kernel) (by decide +kernel) (by decide +kernel) rfl (fun h9 => absurd h9 (by decide)) (fun h9 => absurd h9 (by decide +kernel)) ?_
          refine e_lda (v := 2) (show am_cd 79 5 = (2, 6, 0, 2, []) by decide +kernel) rfl ?_
          refine e_ic (show am_cd 79 6 = (0, 7, 0, 0, []) by decide +kernel) ?_
          refine e_putf (a := 2) (show am_cd 79 7 = (19, 10, 806, 0, [31]) by decide +kernel) (by decide +kernel) (by decide +kernel) rfl (fun h9 => absurd h9 (by decide)) (fun h9 => absurd h9 (by decide +kernel)) ?_
          refine e_retv (show am_cd 79 10 = (36, 11, 3, 0, []) by decide +kernel) (by decide +kernel) ⟨fun _ h9 => (by cases h9), ?_⟩
          show Ev _ 129 _ 12 [rA 1, (0, (w4 15 12) - 1)] [] _
          refine e_ldi (show am_cd 129 12 = (2, 13, 1, 0, []) by decide +kernel) rfl ?_
          exact e_reti (show am_cd 129 13 = (36, 14, 0, 0, []) by decide +kernel) (by decide +kernel) h
      · replace h := h.2 hc
        refine e_ic (show am_cd 130 65 = (0, 67, 1, -3, []) by decide +kernel) ?_
        refine e_reti (show am_cd 130 67 = (36, 68, 0, 0, []) by decide +kernel) (by decide +kernel) ⟨fun _ h9 => (by cases h9), ?_⟩
        show Ev _ 129 _ 4 [rA 1, (9, 0)] [(0, (-3))] _
        refine e_sti (la2 := [rA 1, (0, (-3))]) (show am_cd 129 4 = (3, 5, 1, 0, []) by decide +kernel) rfl ?_
        refine e_lda (v := 1) (show am_cd 129 5 = (2, 6, 0, 2, []) by decide +kernel) rfl ?_
        refine e_getr (a := 1) (r := 2) (show am_cd 129 6 = (18, 9, 1100, 2, [12]) by decide +kernel) (by decide +kernel) (by decide +kernel) rfl ?_
        refine e_cV (z := 0) (a := 2) (as := []) (rest := []) (show am_cd 129 9 = (40, 12, 79, 0, [117]) by decide +kernel) (by decide +kernel) rfl rfl (Nat.le_of_ble_eq_true rfl) rfl ?_
        show Ev _ 79 _ 0 [rA 2] [] _
        refine e_lda (v := 2) (show am_cd 79 0 = (2, 1, 0, 2, []) by decide +kernel) rfl ?_
        refine e_ic (show am_cd 79 1 = (0, 2, 0, 0, []) by decide +kernel) ?_
        refine e_putf (a := 2) (show am_cd 79 2 = (19, 5, 805, 0, [27]) by decide +kernel) (by decide +kernel) (by decide +kernel) rfl (fun h9 => absurd h9 (by decide)) (fun h9 => absurd h9 (by decide +kernel)) ?_
        refine e_lda (v := 2) (show am_cd 79 5 = (2, 6, 0, 2, []) by decide +kernel) rfl ?_
        refine e_ic (show am_cd 79 6 = (0, 7, 0, 0, []) by decide +kernel) ?_
        refine e_putf (a := 2) (show am_cd 79 7 = (19, 10, 806, 0, [31]) by decide +kernel) (by decide +kernel) (by decide +kernel) rfl (fun h9 => absurd h9 (by decide)) (fun h9 => absurd h9 (by decide +kernel)) ?_
        refine e_retv (show am_cd 79 10 = (36, 11, 3, 0, []) by decide +kernel) (by decide +kernel) ⟨fun _ h9 => (by cases h9), ?_⟩
        show Ev _ 129 _ 12 [rA 1, (0, (-3))] [] _
        refine e_ldi (show am_cd 129 12 = (2, 13, 1, 0, []) by decide +kernel) rfl ?_
        exact e_reti (show am_cd 129 13 = (36, 14, 0, 0, []) by decide +kernel) (by decide +kernel) h
    · replace h := h.2 hc
      refine e_ic (show am_cd 130 50 = (0, 52, 1, -2, []) by decide +kernel) ?_
      refine e_reti (show am_cd 130 52 = (36, 53, 0, 0, []) by decide +kernel) (by decide +kernel) ⟨fun _ h9 => (by cases h9), ?_⟩
      show Ev _ 129 _ 4 [rA 1, (9, 0)] [(0, (-2))] _
      refine e_sti (la2 := [rA 1, (0, (-2))]) (show am_cd 129 4 = (3, 5, 1, 0, []) by decide +kernel) rfl ?_
      refine e_lda (v := 1) (show am_cd 129 5 = (2, 6, 0, 2, []) by decide +kernel) rfl ?_
      refine e_getr (a := 1) (r := 2) (show am_cd 129 6 = (18, 9, 1100, 2, [12]) by decide +kernel) (by decide +kernel) (by decide +kernel) rfl ?_
      refine e_cV (z := 0) (a := 2) (as := []) (rest := []) (show am_cd 129 9 = (40, 12, 79, 0, [117]) by decide +kernel) (by decide +kernel) rfl rfl (Nat.le_of_ble_eq_true rfl) rfl ?_
      show Ev _ 79 _ 0 [rA 2] [] _
      refine e_lda (v := 2) (show am_cd 79 0 = (2, 1, 0, 2, []) by decide +kernel) rfl ?_
      refine e_ic (show am_cd 79 1 = (0, 2, 0, 0, []) by decide +kernel) ?_
      refine e_putf (a := 2) (show am_cd 79 2 = (19, 5, 805, 0, [27]) by decide +kernel) (by decide +kernel) (by decide +kernel) rfl (fun h9 => absurd h9 (by decide)) (fun h9 => absurd h9 (by decide +kernel)) ?_
      refine e_lda (v := 2) (show am_cd 79 5 = (2, 6, 0, 2, []) by decide +kernel) rfl ?_
      refine e_ic (show am_cd 79 6 = (0, 7, 0, 0, []) by decide +kernel) ?_
      refine e_putf (a := 2) (show am_cd 79 7 = (19, 10, 806, 0, [31]) by decide +kernel) (by decide +kernel) (by decide +kernel) rfl (fun h9 => absurd h9 (by decide)) (fun h9 => absurd h9 (by decide +kernel)) ?_
      refine e_retv (show am_cd 79 10 = (36, 11, 3, 0, []) by decide +kernel) (by decide +kernel) ⟨fun _ h9 => (by cases h9), ?_⟩
      show Ev _ 129 _ 12 [rA 1, (0, (-2))] [] _
      refine e_ldi (show am_cd 129 12 = (2, 13, 1, 0, []) by decide +kernel) rfl ?_
      exact e_reti (show am_cd 129 13 = (36, 14, 0, 0, []) by decide +kernel) (by decide +kernel) h
  · replace h := h.2 hc
    refine e_lda (v := 1) (show am_cd 130 18 = (2, 19, 0, 2, []) by decide +kernel) rfl ?_
    refine e_cV (z := 0) (a := 1) (as := []) (rest := []) (show am_cd 130 19 = (40, 22, 126, 0, [124]) by decide +kernel) (by decide +kernel) rfl rfl (Nat.le_of_ble_eq_true rfl) rfl ?_
    show Ev _ 126 _ 0 [rA 1] [] _
    refine e_ic (show am_cd 126 0 = (0, 2, 1, -21, []) by decide +kernel) ?_
    refine e_lda (v := 1) (show am_cd 126 2 = (2, 3, 0, 2, []) by decide +kernel) rfl ?_
    refine e_getr (a := 1) (r := 2) (show am_cd 126 3 = (18, 6, 1100, 2, [12]) by decide +kernel) (by decide +kernel) (by decide +kernel) rfl ?_
    refine e_getf (a := 2) (tg := 0) (show am_cd 126 6 = (18, 9, 806, 0, [146]) by decide +kernel) (by decide +kernel) (by decide +kernel) rfl ?_
    refine e_isub (show am_cd 126 9 = (5, 10, 1, 0, []) by decide +kernel) ?_
    refine e_reti (show am_cd 126 10 = (36, 11, 0, 0, []) by decide +kernel) (by decide +kernel) ⟨fun _ h9 => (by cases h9), ?_⟩
    show Ev _ 130 _ 22 [rA 1, (9, 0)] [(0, (-21) - (w2 2 6))] _
    refine e_reti (show am_cd 130 22 = (36, 23, 0, 0, []) by decide +kernel) (by decide +kernel) ⟨fun _ h9 => (by cases h9), ?_⟩
    show Ev _ 129 _ 4 [rA 1, (9, 0)] [(0, (-21) - (w2 2 6))] _
    refine e_sti (la2 := [rA 1, (0, (-21) - (w2 2 6))]) (show am_cd 129 4 = (3, 5, 1, 0, []) by decide +kernel) rfl ?_
    refine e_lda (v := 1) (show am_cd 129 5 = (2, 6, 0, 2, []) by decide +kernel) rfl ?_
    refine e_getr (a := 1) (r := 2) (show am_cd 129 6 = (18, 9, 1100, 2, [12]) by decide +kernel) (by decide +kernel) (by decide +kernel) rfl ?_
    refine e_cV (z := 0) (a := 2) (as := []) (rest := []) (show am_cd 129 9 = (40, 12, 79, 0, [117]) by decide +kernel) (by decide +kernel) rfl rfl (Nat.le_of_ble_eq_true rfl) rfl ?_
    show Ev _ 79 _ 0 [rA 2] [] _
    refine e_lda (v := 2) (show am_cd 79 0 = (2, 1, 0, 2, []) by decide +kernel) rfl ?_
    refine e_ic (show am_cd 79 1 = (0, 2, 0, 0, []) by decide +kernel) ?_
    refine e_putf (a := 2) (show am_cd 79 2 = (19, 5, 805, 0, [27]) by decide +kernel) (by decide +kernel) (by decide +kernel) rfl (fun h9 => absurd h9 (by decide)) (fun h9 => absurd h9 (by decide +kernel)) ?_
    refine e_lda (v := 2) (show am_cd 79 5 = (2, 6, 0, 2, []) by decide +kernel) rfl ?_
    refine e_ic (show am_cd 79 6 = (0, 7, 0, 0, []) by decide +kernel) ?_
    refine e_putf (a := 2) (show am_cd 79 7 = (19, 10, 806, 0, [31]) by decide +kernel) (by decide +kernel) (by decide +kernel) rfl (fun h9 => absurd h9 (by decide)) (fun h9 => absurd h9 (by decide +kernel)) ?_
    refine e_retv (show am_cd 79 10 = (36, 11, 3, 0, []) by decide +kernel) (by decide +kernel) ⟨fun _ h9 => (by cases h9), ?_⟩
    show Ev _ 129 _ 12 [rA 1, (0, (-21) - (w2 2 6))] [] _
    refine e_ldi (show am_cd 129 12 = (2, 13, 1, 0, []) by decide +kernel) rfl ?_
    exact e_reti (show am_cd 129 13 = (36, 14, 0, 0, []) by decide +kernel) (by decide +kernel) h

theorem k_rule {d : Nat} {w : eW} {t : eT} {b : Nat × Nat} {m : eW} {ks : kT} {rl tx : List Int} (h : CI w t b m ks rl tx) (hp : WFp m) (hs : WFs m) (hr : WFr m) (hw2 : WFp (ruleM tx m) ∧ WFr (ruleM tx m)) : Cl (d + 7) 129 [rA 1] (enc w t) (AnC w (ruleM tx m) b ks rl [] (0, ruleV tx m)) := by
  have hn := hr.n
  obtain ⟨⟨hT, hA, hS⟩, ⟨hC, hN⟩, ⟨hX, hH⟩, hK, hL, hD⟩ := h
  have hCI : CI w t b m ks rl tx := ⟨⟨hT, hA, hS⟩, ⟨hC, hN⟩, ⟨hX, hH⟩, hK, hL, hD⟩
  refine g_crule (tx := tx) (m := m) (mL := ruleM tx m) (n := nR m) ⟨⟨⟨hT.1, hA, hS, by rw [hC.1]; omega⟩, hT.2, hp, hs, hn.2⟩, fun x1 w1 hw1 => ?_⟩
  obtain ⟨f1, O1, T1, q1⟩ := hw1
  have e12 : w1 15 12 = (nR m : Int) := by rw [f1 _ _ (by decide) (by decide), hC.1]; omega
  have hC1 : RC w1 m := hC.ot O1 (f1 _ _ (by decide) (by decide))
  have hA1 : AC w1 m := hA.fc f1 (by decide) (by decide)
  have clr : ∀ v, AnC w m b ks rl [] v (some v) (enc (wu (wu w1 2 5 0) 2 6 0) t) := fun v => by
    have f2 : Fc [17, 18, 19, 20, 21, 22] [(2, 5), (2, 6), (15, 13), (15, 14), (15, 15)] w (wu (wu w1 2 5 0) 2 6 0) := (f1.mo (by decide) (by decide)).tr (Fc.clr (by decide) (by decide))
    have fz : Fc [] [(2, 5), (2, 6)] w1 (wu (wu w1 2 5 0) 2 6 0) := Fc.clr (by decide) (by decide)
    exact ⟨_, t, rfl, rfl, f2.up (by decide) (by decide), hCI.mk2 f2 (by decide) (by decide) (hC1.fc fz (by decide) (by decide)) T1.nil (hK.fc f2 (by decide) (by decide)) (hL.fc f2 (by decide) (by decide))⟩
  unfold ruleV
  unfold ruleM at hw2 ⊢
  cases hP : ruR m tx with
  | error q =>
    rw [hP] at q1
    obtain ⟨rfl, e6⟩ := q1
    refine ⟨fun h9 => absurd (by decide +kernel) h9, fun _ => ?_⟩
    dsimp only
    rw [e6]
    exact clr _
  | ok y =>
    rw [hP] at q1 hw2
    obtain ⟨rfl, e13, e14, b1, b2, e17, hLf, hRt⟩ := q1
    dsimp only at hw2 ⊢
    have hnb := nbI_po hp b1 b2
    rw [e13, e14, hnb, e12]
    have hpo : poI m y.1 y.2.1 = -1 ↔ poN m y.1 y.2.1 = nP m := by
      unfold poI
      split <;> omega
    have hpn := hp.n
    have hple : poN m y.1 y.2.1 ≤ nP m := by have := fsN_le (P := fun p => decide (m 68 p = y.1) && decide (m 69 p = y.2.1)) (nP m) 0; unfold poN; omega
    have hpb : -1 ≤ poI m y.1 y.2.1 ∧ poI m y.1 y.2.1 ≤ 16 := by unfold poI; split <;> omega
    refine ⟨fun _ => ⟨⟨hA1, hp, cdI_b b1, cdI_b b2⟩, fun h0 => ?_, fun h0 => ?_⟩, fun h9 => absurd (fun h8 => absurd h8 (by decide +kernel)) h9⟩
    · rw [w32_id (x := poI m _ _) (by omega), w32_id (x := -1) (by decide)] at h0
      have hne : ¬ poN m y.1 y.2.1 = nP m := fun h9 => h0 (hpo.mpr h9)
      rw [if_neg hne] at hw2
      rw [if_neg hne, if_neg hne, w32_id (x := (nR m : Int)) (by omega), w32_id (x := 8) (by decide), Int.toNat_natCast]
      refine ⟨fun h8 => ⟨fun h9 => by omega, fun _ => ⟨by omega, ?_⟩⟩, fun h8 => ?_⟩
      · have hn8 : ¬ nR m = 8 := by omega
        rw [if_neg hn8] at hw2
        rw [if_neg hn8, if_neg hn8]
        have epo : poI m y.1 y.2.1 = (poN m y.1 y.2.1 : Int) := by unfold poI; rw [if_neg hne]
        rw [epo]
        generalize hw3 : wu (wu w1 16 (nR m) (poN m y.1 y.2.1 : Int)) 15 12 ((nR m : Int) + 1) = w3
        have f3 : Fc [16] [(15, 12)] w1 w3 := by rw [← hw3]; exact (Fc.pr (by decide)).tr (Fc.pf (by decide))
        have O3 : Ot (nR m) w w3 := by rw [← hw3]; exact (O1.tr Ot.pu).tr (Ot.pf (by omega))
        have r18 : ∀ a, 17 ≤ a → a ≤ 22 → w3 a = w1 a := fun a h1 h2 => f3.row (by simp; omega) (by simp; omega)
        have hll : y.2.2.2.1.length ≤ 2 := by
          have n1 : nR (ruW m (poN m y.1 y.2.1 : Int) y.2.2.1 y.2.2.2.1 y.2.2.2.2) = nR m + 1 := by unfold nR; rw [ruW_6]; omega
          have := hw2.2.2 (nR m) (by rw [n1]; omega)
          rw [ruW_new.2.2.1] at this
          omega
        have hC3 : RC w3 (ruW m (poN m y.1 y.2.1 : Int) y.2.2.1 y.2.2.2.1 y.2.2.2.2) := by
          refine hC.draft hr hll O3 (by rw [← hw3]; simp [wu]) (by rw [r18 17 (by omega) (by omega)]; exact e17) ?_ ?_ (by rw [← hw3]; show (nR m : Int) + 1 = _; omega)
          · unfold LfC at *
            rw [r18 18 (by omega) (by omega), r18 20 (by omega) (by omega), r18 21 (by omega) (by omega)]
            exact hLf
          · unfold RtC at *
            rw [r18 19 (by omega) (by omega), r18 22 (by omega) (by omega)]
            exact hRt
        have hmA : ∀ w9, AC w9 m → AC w9 (ruW m (poN m y.1 y.2.1 : Int) y.2.2.1 y.2.2.2.1 y.2.2.2.2) := fun w9 h9 => h9.mm (ruW_f (by decide)) ⟨ruW_o (by decide), ruW_o (by decide)⟩
        refine ⟨⟨hC3, hmA _ (hA1.fc f3 (by decide) (by decide)), hw2.1, hw2.2⟩, fun w4 hw4 => ?_⟩
        obtain ⟨f4, hN4⟩ := hw4
        have e412 : w4 15 12 = (nR m : Int) + 1 := by rw [f4 _ _ (by decide) (by decide), ← hw3]; rfl
        rw [e412, show ((nR m : Int) + 1 - 1) = (nR m : Int) by omega]
        generalize hw5 : wu (wu (wu w4 37 8 1) 2 5 0) 2 6 0 = w5
        have f5 : Fc [] [(37, 8), (2, 5), (2, 6)] w4 w5 := by rw [← hw5]; exact ((Fc.pf (by decide)).tr (Fc.pf (by decide))).tr (Fc.pf (by decide))
        have F : Fc [16, 17, 18, 19, 20, 21, 22, 23, 24, 25, 26, 27] [(2, 5), (2, 6), (15, 12), (15, 13), (15, 14), (15, 15), (15, 16), (15, 17), (37, 8)] w w5 := ((f1.mo (by decide) (by decide)).tr (f3.mo (by decide) (by decide))).tr ((f4.mo (by decide) (by decide)).tr (f5.mo (by decide) (by decide)))
        have T4 : TC (wu w4 37 8 1) tx := (T1.fc (f3.mo (R2 := [16, 23, 24, 25, 26, 27]) (F2 := [(15, 12), (15, 16), (15, 17)]) (by decide) (by decide) |>.tr (f4.mo (by decide) (by decide))) (by decide) (by decide)).fr rfl rfl rfl
        refine ⟨w5, t, rfl, rfl, F.up (by decide) (by decide), ⟨⟨by rw [← hw5]; exact T4.nil, hmA _ (hA.fc F (by decide) (by decide)), (hS.fc F (by decide) (by decide)).mm (ruW_f (by decide)) ⟨ruW_o (by decide), ruW_o (by decide)⟩⟩, ⟨(hC3.fc f4 (by decide) (by decide)).fc f5 (by decide) (by decide), hN4.fc f5 (by decide) (by decide)⟩, ⟨(hX.fc F (by decide) (by decide)).mm (ruW_f (by decide)) (fun a h1 h2 => ruW_o (by omega)), (hH.fc F (by decide) (by decide)).mm (ruW_f (by decide)) (fun a h1 h2 => ruW_o (by omega))⟩, hK.fc F (by decide) (by decide), hL.fc F (by decide) (by decide), hD.stale F (by decide) (by decide) (by rw [← hw5]; rfl)⟩⟩
      · rw [if_pos (by omega), if_pos (by omega)]
        exact clr _
    · rw [w32_id (x := poI m _ _) (by omega), w32_id (x := -1) (by decide)] at h0
      have he := hpo.mp (Classical.not_not.mp h0)
      rw [if_pos he, if_pos he]
      exact clr _

theorem c_remU {d n : Nat} {w : eW} {t : eT} {a : Int} (h : w 15 12 = (n : Int) ∧ n ≤ 8 ∧ (0 : Int) ≤ a ∧ (a : Int) < n) : Cl d 69 [rA 15, (0, a)] (enc w t) (fun z S2 => z = none ∧ S2 = enc (wu (rmW w a.toNat (n - 1)) 15 12 ((n : Int) - 1)) t) := by
  have := c_rem (d := d) (t := t) (r := a.toNat) ⟨h.1, h.2.1, by omega⟩
  rw [show ((a.toNat : Nat) : Int) = a by omega] at this
  exact this

theorem g_cdrops {d : Nat} {Q : Option aV → aS → Prop} {w : eW} {t : eT} {a : Int} {tx : List Int} {m mL : eW} {n : Nat} (h : ((w32 a < 0 → Q (some (0, (-1))) (enc w t)) ∧ (¬ (w32 a < 0) → ((w32 a < w32 (w 15 12) → (w 15 12 = (n : Int) ∧ n ≤ 8 ∧ (0 : Int) ≤ a ∧ (a : Int) < n) ∧ (RC (wu (rmW w a.toNat (n - 1)) 15 12 ((n : Int) - 1)) mL ∧ AC (wu (rmW w a.toNat (n - 1)) 15 12 ((n : Int) - 1)) mL ∧ WFp mL ∧ WFr mL) ∧ (∀ w1, (Fc [23, 24, 25, 26, 27] [(15, 16), (15, 17)] (wu (rmW w a.toNat (n - 1)) 15 12 ((n : Int) - 1)) w1 ∧ LN w1 mL) → Q (some (0, w1 15 12)) (enc (wu w1 37 8 1) t))) ∧ (¬ (w32 a < w32 (w 15 12)) → Q (some (0, (-1))) (enc w t)))))) : Cl (d + 5) 131 [rA 1, (0, a)] (enc w t) Q := by
  show Ev (d + 5) 131 Q 0 [rA 1, (0, a)] [] (enc w t)
  refine e_ldi (show am_cd 131 0 = (2, 1, 1, 0, []) by decide +kernel) rfl ?_
  refine e_if2 (show am_cd 131 1 = (10, 4, 15, 2, []) by decide +kernel) (fun hc => ?_) (fun hc => ?_)
  · replace h := h.1 hc
    refine e_ic (show am_cd 131 15 = (0, 16, 0, -1, []) by decide +kernel) ?_
    exact e_reti (show am_cd 131 16 = (36, 17, 0, 0, []) by decide +kernel) (by decide +kernel) h
  · replace h := h.2 hc
    refine e_ldi (show am_cd 131 4 = (2, 5, 1, 0, []) by decide +kernel) rfl ?_
    refine e_lda (v := 1) (show am_cd 131 5 = (2, 6, 0, 2, []) by decide +kernel) rfl ?_
    refine e_getr (a := 1) (r := 15) (show am_cd 131 6 = (18, 9, 1102, 2, [26]) by decide +kernel) (by decide +kernel) (by decide +kernel) rfl ?_
    refine e_getf (a := 15) (tg := 0) (show am_cd 131 9 = (18, 12, 712, 0, [134]) by decide +kernel) (by decide +kernel) (by decide +kernel) rfl ?_
    refine e_cmp2 (show am_cd 131 12 = (11, 15, 17, 2, []) by decide +kernel) (fun hc => ?_) (fun hc => ?_)
    · replace h := h.1 hc
      refine e_lda (v := 1) (show am_cd 131 17 = (2, 18, 0, 2, []) by decide +kernel) rfl ?_
      refine e_getr (a := 1) (r := 15) (show am_cd 131 18 = (18, 21, 1102, 2, [26]) by decide +kernel) (by decide +kernel) (by decide +kernel) rfl ?_
      refine e_ldi (show am_cd 131 21 = (2, 22, 1, 0, []) by decide +kernel) rfl ?_
      refine e_cV (z := 0) (a := 15) (as := [(0, a)]) (rest := []) (show am_cd 131 22 = (40, 25, 69, 0, [192]) by decide +kernel) (by decide +kernel) rfl rfl (Nat.le_of_ble_eq_true rfl) rfl ?_
      refine Cl.mono (Cl.up (c_remU (d := d) h.1) (by omega)) ?_
      rintro _ _ ⟨rfl, rfl⟩
      refine ⟨fun _ h9 => (by cases h9), ?_⟩
      replace h := h.2
      show Ev _ 131 _ 25 [rA 1, (0, a)] [] _
      refine e_lda (v := 1) (show am_cd 131 25 = (2, 26, 0, 2, []) by decide +kernel) rfl ?_
      refine e_getr (a := 1) (r := 15) (show am_cd 131 26 = (18, 29, 1102, 2, [26]) by decide +kernel) (by decide +kernel) (by decide +kernel) rfl ?_
      refine e_lda (v := 1) (show am_cd 131 29 = (2, 30, 0, 2, []) by decide +kernel) rfl ?_
      refine e_getr (a := 1) (r := 8) (show am_cd 131 30 = (18, 33, 1101, 2, [19]) by decide +kernel) (by decide +kernel) (by decide +kernel) rfl ?_
      refine e_cV (z := 0) (a := 15) (as := [rA 8]) (rest := []) (show am_cd 131 33 = (40, 36, 70, 0, [135]) by decide +kernel) (by decide +kernel) rfl rfl (Nat.le_of_ble_eq_true rfl) rfl ?_
      refine Cl.mono (Cl.up (c_learn (m := mL) (d := d) h.1) (by omega)) ?_
      rintro _ _ ⟨w1, rfl, rfl, hp⟩
      refine ⟨fun _ h9 => (by cases h9), ?_⟩
      replace h := h.2 w1 hp
      show Ev _ 131 _ 36 [rA 1, (0, a)] [] _
      refine e_lda (v := 1) (show am_cd 131 36 = (2, 37, 0, 2, []) by decide +kernel) rfl ?_
      refine e_getr (a := 1) (r := 37) (show am_cd 131 37 = (18, 40, 1104, 2, [40]) by decide +kernel) (by decide +kernel) (by decide +kernel) rfl ?_
      refine e_ic (show am_cd 131 40 = (0, 41, 0, 1, []) by decide +kernel) ?_
      refine e_putf (a := 37) (show am_cd 131 41 = (19, 44, 408, 0, [141]) by decide +kernel) (by decide +kernel) (by decide +kernel) rfl (fun h9 => absurd h9 (by decide)) (fun _ => Or.inr rfl) ?_
      refine e_lda (v := 1) (show am_cd 131 44 = (2, 45, 0, 2, []) by decide +kernel) rfl ?_
      refine e_getr (a := 1) (r := 15) (show am_cd 131 45 = (18, 48, 1102, 2, [26]) by decide +kernel) (by decide +kernel) (by decide +kernel) rfl ?_
      refine e_getfE (a := 15) (tg := 0) (v := w1 15 12) (show am_cd 131 48 = (18, 51, 712, 0, [134]) by decide +kernel) (by decide +kernel) (by decide +kernel) rfl rfl ?_
      exact e_reti (show am_cd 131 51 = (36, 52, 0, 0, []) by decide +kernel) (by decide +kernel) h
    · replace h := h.2 hc
      refine e_ic (show am_cd 131 15 = (0, 16, 0, -1, []) by decide +kernel) ?_
      exact e_reti (show am_cd 131 16 = (36, 17, 0, 0, []) by decide +kernel) (by decide +kernel) h

theorem k_drops {d : Nat} {w : eW} {t : eT} {b : Nat × Nat} {m : eW} {ks : kT} {rl tx : List Int} {a : Int} (h : CI w t b m ks rl tx) (ha : okI a) (hp : WFp m) (hr : WFr m) : Cl (d + 5) 131 [rA 1, (0, a)] (enc w t) (AnC w (dropsM m a) b ks rl tx (0, dropsV m a)) := by
  have hn := hr.n
  have ha2 : -2147483648 ≤ a ∧ a ≤ 2147483647 := ha
  obtain ⟨⟨hT, hA, hS⟩, ⟨hC, hN⟩, ⟨hX, hH⟩, hK, hL, hD⟩ := h
  refine g_cdrops (tx := tx) (m := m) (mL := dropsM m a) (n := nR m) ?_
  have e12 : w 15 12 = (nR m : Int) := by rw [hC.1]; omega
  rw [e12]
  simp (disch := omega) only [w32_id]
  unfold dropsV
  have no : ¬ (0 ≤ a ∧ a < (nR m : Int)) → AnC w (dropsM m a) b ks rl tx (0, if 0 ≤ a ∧ a < (nR m : Int) then m 67 6 - 1 else -1) (some (0, -1)) (enc w t) := fun h9 => by
    unfold dropsM
    rw [if_neg h9, if_neg h9]
    exact AnC.of (Fc.rf [] [] w) (by decide) (by decide) ⟨⟨hT, hA, hS⟩, ⟨hC, hN⟩, ⟨hX, hH⟩, hK, hL, hD⟩
  refine ⟨fun h0 => no (by omega), fun h0 => ⟨fun h1 => ?_, fun h1 => no (by omega)⟩⟩
  have hin : 0 ≤ a ∧ a < (nR m : Int) := by omega
  have hlt : a.toNat < nR m := by omega
  have eM : dropsM m a = dropM m a.toNat := by unfold dropsM; rw [if_pos hin]
  rw [if_pos hin, eM]
  obtain ⟨d1, d2, d3, d4⟩ := dropM_n hr hlt
  have o67 : ∀ k, k ≠ 6 → dropM m a.toNat 67 k = m 67 k := fun k hk => by rw [← eM]; exact dropsM_f hk
  have oo : ∀ q, q ≠ 67 → (q < 72 ∨ 76 < q) → dropM m a.toNat q = m q := fun q h1 h2 => by rw [← eM]; exact dropsM_o ⟨h1, h2⟩
  have wfp : WFp (dropM m a.toNat) := by
    unfold WFp at *
    rw [d2, o67 0 (by decide), oo 68 (by decide) (by decide), oo 69 (by decide) (by decide)]
    exact hp
  have wfr := dropM_wf hr hlt
  generalize hw3 : wu (rmW w a.toNat (nR m - 1)) 15 12 ((nR m : Int) - 1) = w3
  have f3 : Fc [16, 17, 18, 19, 20, 21, 22] [(15, 12)] w w3 := by
    rw [← hw3]
    refine Fc.tr (fun q k h1 _ => ?_) (Fc.pf (by decide))
    unfold rmW
    rw [if_neg (fun h9 => h1 (by simp; omega))]
  have hC3 : RC w3 (dropM m a.toNat) := hC.rem hr hlt (fun q j h1 h2 => by rw [← hw3, wu_na _ _ (by omega)]) (by rw [← hw3]; show (nR m : Int) - 1 = _; omega)
  have hmA : ∀ w9, AC w9 m → AC w9 (dropM m a.toNat) := fun w9 h9 => h9.mm (o67 0 (by decide)) ⟨oo 68 (by decide) (by decide), oo 69 (by decide) (by decide)⟩
  refine ⟨⟨trivial, hn.2, by omega, by omega⟩, ⟨hC3, hmA _ (hA.fc f3 (by decide) (by decide)), wfp, wfr⟩, fun w4 hw4 => ?_⟩
  obtain ⟨f4, hN4⟩ := hw4
  have e412 : w4 15 12 = (nR m : Int) - 1 := by rw [f4 _ _ (by decide) (by decide), ← hw3]; rfl
  have F : Fc [16, 17, 18, 19, 20, 21, 22, 23, 24, 25, 26, 27] [(15, 12), (15, 16), (15, 17), (37, 8)] w (wu w4 37 8 1) := ((f3.mo (by decide) (by decide)).tr (f4.mo (by decide) (by decide))).tr (Fc.pf (by decide))
  have f5 : Fc [] [(37, 8)] w4 (wu w4 37 8 1) := Fc.pf (by decide)
  rw [e412, show (nR m : Int) - 1 = m 67 6 - 1 by omega]
  exact ⟨_, t, rfl, rfl, F.up (by decide) (by decide), ⟨⟨⟨hT.1.fc F (by decide) (by decide), by rw [F _ _ (by decide) (by decide)]; exact hT.2⟩, hmA _ (hA.fc F (by decide) (by decide)), (hS.fc F (by decide) (by decide)).mm (o67 3 (by decide)) ⟨oo 70 (by decide) (by decide), oo 71 (by decide) (by decide)⟩⟩, ⟨(hC3.fc f4 (by decide) (by decide)).fc f5 (by decide) (by decide), hN4.fc f5 (by decide) (by decide)⟩, ⟨(hX.fc F (by decide) (by decide)).mm (o67 12 (by decide)) (fun q h1 h2 => oo q (by omega) (by omega)), (hH.fc F (by decide) (by decide)).mm (o67 12 (by decide)) (fun q h1 h2 => oo q (by omega) (by omega))⟩, hK.fc F (by decide) (by decide), hL.fc F (by decide) (by decide), hD.stale F (by decide) (by decide) rfl⟩⟩

