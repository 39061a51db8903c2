/-! The class: the calls pairs and names. -/
theorem TC.nil {w : eW} {tx : List Int} (h : TC w tx) : TC (wu (wu w 2 5 0) 2 6 0) [] ∧ (wu (wu w 2 5 0) 2 6 0) 2 6 = 0 := by
  obtain ⟨t1, t2, t3, t4⟩ := h.1
  refine ⟨⟨⟨by show (0 : Int) ≤ 0; decide, by show (0 : Int) ≤ 0; decide, by show (0 : Int) ≤ 80; decide, t4⟩, rfl, fun i hi => absurd hi (Nat.not_lt_zero i)⟩, rfl⟩
theorem Fc.clr {R : List Nat} {F : List (Nat × Nat)} {w : eW} (h5 : (2, 5) ∈ F) (h6 : (2, 6) ∈ F) : Fc R F w (wu (wu w 2 5 0) 2 6 0) := (Fc.pf h5).tr (Fc.pf h6)
/-- a call that read the text ends: nothing else has changed that matters -/
theorem AnC.clr {w w2 : eW} {t : eT} {b : Nat × Nat} {m : eW} {ks : kT} {rl tx : List Int} {R : List Nat} {F : List (Nat × Nat)} {v : aV} (h : CI w t b m ks rl tx) (hf : Fc R F w w2) (hT : TC w2 tx) (hR : ∀ a ∈ R, okRow a = true) (hF : F.all okFld = true) (hK : KC w2 ks) (hL : TlC w2 rl) : AnC w m b ks rl [] v (some v) (enc (wu (wu w2 2 5 0) 2 6 0) t) := by
  have f2 : Fc R ((2, 5) :: (2, 6) :: F) w (wu (wu w2 2 5 0) 2 6 0) := (hf.mo (fun a ha => ha) (fun a ha => by simp [ha])).tr (Fc.clr (by simp) (by simp))
  have hF2 : ((2, 5) :: (2, 6) :: F).all okFld = true := by
    show (okFld (2, 5) && (okFld (2, 6) && F.all okFld)) = true
    rw [hF]
    rfl
  have fz : Fc [] [(2, 5), (2, 6)] w2 (wu (wu w2 2 5 0) 2 6 0) := Fc.clr (by decide) (by decide)
  exact ⟨_, t, rfl, rfl, f2.up (fun a ha => by have := okRow_i (hR a ha); omega) (all_of hF2 (fun p hp => by have := okFld_i hp; simp; omega)), h.mk f2 hR hF2 hT.nil (hK.fc fz (by decide) (by decide)) (hL.fc fz (by decide) (by decide))⟩
def tpsP (tx : List Int) (w : eW) (R : Except Nat (List (Int × Int))) (x : Int) (w2 : eW) : Prop := Fc [4, 5] [(2, 6), (2, 7)] w w2 ∧ TC w2 tx ∧ match R with
  | .error q => x = 0 ∧ w2 2 6 = (q : Int)
  | .ok l => x = 1 ∧ w2 2 7 = (l.length : Int) ∧ PrC w2 l
theorem c_tpsU {d : Nat} {w : eW} {t : eT} {tx : List Int} (h : TC w tx ∧ w 2 6 = 0) : Cl (d + 3) 83 [rA 2] (enc w t) (fun r S2 => ∃ x w2, r = some (0, x) ∧ S2 = enc w2 t ∧ tpsP tx w (prsA tx) x w2) := (c_takesPairs h).mono (fun r S2 ⟨w2, e, f, T, q⟩ => by
  unfold tpsP
  cases hp : prsA tx with
  | error z => rw [hp] at q; exact ⟨0, w2, q.1, e, f, T, rfl, q.2⟩
  | ok l => rw [hp] at q; exact ⟨1, w2, q.1, e, f, T, rfl, q.2⟩)
def tstP (tx : List Int) (w : eW) (R : Except Nat (Int × Nat)) (x : Int) (w2 : eW) : Prop := Fc [] [(2, 6), (2, 10), (2, 11)] w w2 ∧ TC w2 tx ∧ match R with
  | .error q => x = 0 ∧ w2 2 6 = (q : Int)
  | .ok y => x = 1 ∧ w2 2 10 = y.1 ∧ w2 2 11 = 2 * (y.2 : Int)
theorem c_tstU {d : Nat} {w : eW} {t : eT} {tx : List Int} (h : TC w tx ∧ w 2 6 = 0) : Cl (d + 2) 86 [rA 2] (enc w t) (fun r S2 => ∃ x w2, r = some (0, x) ∧ S2 = enc w2 t ∧ tstP tx w (nmsR tx) x w2) := (c_takesSet h).mono (fun r S2 ⟨w2, e, f, T, q⟩ => by
  unfold tstP
  cases hp : nmsR tx with
  | error z => rw [hp] at q; exact ⟨0, w2, q.1, e, f, T, rfl, q.2⟩
  | ok l => rw [hp] at q; exact ⟨1, w2, q.1, e, f, T, rfl, q.2⟩)
def prL (tx : List Int) : List (Int × Int) := match prsA tx with
  | .error _ => []
  | .ok l => l
theorem prW_wf {m : eW} {l : List (Int × Int)} (hl : l.length ≤ 16) (hok : ∀ x ∈ l, okPr x) (hd : dupP l = false) : nP (prW m l) = l.length ∧ nR (prW m l) = 0 ∧ WFp (prW m l) ∧ WFr (prW m l) := by
  have n0 : nP (prW m l) = l.length := by show ((l.length : Nat) : Int).toNat = _; omega
  have n6 : nR (prW m l) = 0 := rfl
  refine ⟨n0, n6, ⟨⟨by show (0 : Int) ≤ (l.length : Int); omega, by show (l.length : Int) ≤ 16; omega⟩, fun p hpp => ?_, fun p q hpp hq a1 a2 => ?_⟩, ⟨⟨by show (0 : Int) ≤ 0; decide, by show (0 : Int) ≤ 8; decide⟩, fun r hr => by rw [n6] at hr; cases hr⟩⟩
  · rw [n0] at hpp
    exact hok _ (gD_mem hpp)
  · rw [n0] at hpp hq
    have e : l.getD p (0, 0) = l.getD q (0, 0) := Prod.ext a1 a2
    have no : ∀ k i, i < k → k < l.length → l.getD k (0, 0) ≠ l.getD i (0, 0) := by
      intro k i hik hk h9
      have : dupP l = true := an_iff.mpr ⟨k, hk, an_iff.mpr ⟨i, hik, decide_eq_true h9⟩⟩
      rw [hd] at this
      cases this
    rcases Nat.lt_trichotomy p q with h9 | h9 | h9
    · exact absurd e.symm (no q p h9 hq)
    · exact h9
    · exact absurd e (no p q h9 hpp)

theorem g_cpairs {d : Nat} {Q : Option aV → aS → Prop} {w : eW} {t : eT} {tx : List Int} {m mL : eW} {l : List (Int × Int)} (h : (TC w tx ∧ w 2 6 = 0) ∧ (∀ x1 w2, (tpsP tx w (prsA tx) x1 w2) → ((¬ w32 x1 = 0 → (PrC w2 l ∧ w2 2 7 = (l.length : Int) ∧ l.length ≤ 16 ∧ ∀ x ∈ l, okPr x) ∧ (((dupP l) = false → (PrC w2 l ∧ w2 2 7 = (l.length : Int) ∧ l.length ≤ 16 ∧ ∀ x ∈ l, okPr x) ∧ (∀ w3, (rpI l w2 l.length w3 ∧ w3 8 8 = w3 11 0) → (RC (wu w3 15 12 0) mL ∧ AC (wu w3 15 12 0) mL ∧ WFp mL ∧ WFr mL) ∧ (∀ w4, (Fc [23, 24, 25, 26, 27] [(15, 16), (15, 17)] (wu w3 15 12 0) w4 ∧ LN w4 mL) → (fxA 36 20 4) ∧ (Q (some (0, (wfl (wu w4 28 8 0) 36 4 1000) 8 6)) (enc (wu (wu (wu (wu (wfl (wu w4 28 8 0) 36 4 1000) 48 4 0) 37 8 1) 2 5 0) 2 6 0) t))))) ∧ ((dupP l) = true → Q (some (0, (-2))) (enc (wu (wu w2 2 5 0) 2 6 0) t)))) ∧ (¬ (¬ w32 x1 = 0) → Q (some (0, (-21) - (w2 2 6))) (enc (wu (wu w2 2 5 0) 2 6 0) t))))) : Cl (d + 6) 124 [rA 1] (enc w t) Q := by
  show Ev (d + 6) 124 Q 0 [rA 1, (9, 0)] [] (enc w t)
  refine e_lda (v := 1) (show am_cd 124 0 = (2, 1, 0, 2, []) by decide +kernel) rfl ?_
  refine e_cV (z := 0) (a := 1) (as := []) (rest := []) (show am_cd 124 1 = (40, 4, 125, 0, [113]) by decide +kernel) (by decide +kernel) rfl rfl (Nat.le_of_ble_eq_true rfl) rfl ?_
  show Ev _ 125 _ 0 [rA 1] [] _
  refine e_lda (v := 1) (show am_cd 125 0 = (2, 1, 0, 2, []) by decide +kernel) rfl ?_
  refine e_getr (a := 1) (r := 2) (show am_cd 125 1 = (18, 4, 1100, 2, [12]) by decide +kernel) (by decide +kernel) (by decide +kernel) rfl ?_
  refine e_cV (z := 0) (a := 2) (as := []) (rest := []) (show am_cd 125 4 = (40, 7, 83, 0, [120]) by decide +kernel) (by decide +kernel) rfl rfl (Nat.le_of_ble_eq_true rfl) rfl ?_
  refine Cl.mono (Cl.up (c_tpsU (d := d) h.1) (by omega)) ?_
  rintro _ _ ⟨x1, w2, rfl, rfl, hp⟩
  refine ⟨fun _ h9 => (by cases h9), ?_⟩
  replace h := h.2 x1 w2 hp
  show Ev _ 125 _ 7 [rA 1] [(0, x1)] _
  refine e_if1 (show am_cd 125 7 = (10, 10, 15, 1, []) by decide +kernel) (fun hc => ?_) (fun hc => ?_)
  · replace h := h.1 hc
    refine e_lda (v := 1) (show am_cd 125 15 = (2, 16, 0, 2, []) by decide +kernel) rfl ?_
    refine e_getr (a := 1) (r := 2) (show am_cd 125 16 = (18, 19, 1100, 2, [12]) by decide +kernel) (by decide +kernel) (by decide +kernel) rfl ?_
    refine e_cV (z := 0) (a := 2) (as := []) (rest := []) (show am_cd 125 19 = (40, 22, 85, 0, [127]) by decide +kernel) (by decide +kernel) rfl rfl (Nat.le_of_ble_eq_true rfl) rfl ?_
    refine Cl.mono (Cl.up (c_twc (l := l) (d := d) h.1) (by omega)) ?_
    rintro _ _ ⟨rfl, rfl⟩
    refine ⟨fun _ h9 => (by cases h9), ?_⟩
    replace h := h.2
    show Ev _ 125 _ 22 [rA 1] [(0, bI (dupP l))] _
    refine e_ifb0 (show am_cd 125 22 = (10, 25, 28, 0, []) by decide +kernel) (fun hc => ?_) (fun hc => ?_)
    · replace h := h.1 hc
      refine e_lda (v := 1) (show am_cd 125 28 = (2, 29, 0, 2, []) by decide +kernel) rfl ?_
      refine e_getr (a := 1) (r := 8) (show am_cd 125 29 = (18, 32, 1101, 2, [19]) by decide +kernel) (by decide +kernel) (by decide +kernel) rfl ?_
      refine e_lda (v := 1) (show am_cd 125 32 = (2, 33, 0, 2, []) by decide +kernel) rfl ?_
      refine e_getr (a := 1) (r := 2) (show am_cd 125 33 = (18, 36, 1100, 2, [12]) by decide +kernel) (by decide +kernel) (by decide +kernel) rfl ?_
      refine e_cV (z := 0) (a := 8) (as := [rA 2]) (rest := []) (show am_cd 125 36 = (40, 39, 1, 0, [130]) by decide +kernel) (by decide +kernel) rfl rfl (Nat.le_of_ble_eq_true rfl) rfl ?_
      refine Cl.mono (Cl.up (c_repl (l := l) (d := d) h.1) (by omega)) ?_
      rintro _ _ ⟨w3, rfl, rfl, hp⟩
      refine ⟨fun _ h9 => (by cases h9), ?_⟩
      replace h := h.2 w3 hp
      show Ev _ 125 _ 39 [rA 1] [] _
      refine e_lda (v := 1) (show am_cd 125 39 = (2, 40, 0, 2, []) by decide +kernel) rfl ?_
      refine e_getr (a := 1) (r := 15) (show am_cd 125 40 = (18, 43, 1102, 2, [26]) by decide +kernel) (by decide +kernel) (by decide +kernel) rfl ?_
      refine e_ic (show am_cd 125 43 = (0, 44, 0, 0, []) by decide +kernel) ?_
      refine e_putf (a := 15) (show am_cd 125 44 = (19, 47, 712, 0, [134]) by decide +kernel) (by decide +kernel) (by decide +kernel) rfl (fun h9 => absurd h9 (by decide)) (fun h9 => absurd h9 (by decide +kernel)) ?_
      refine e_lda (v := 1) (show am_cd 125 47 = (2, 48, 0, 2, []) by decide +kernel) rfl ?_
      refine e_getr (a := 1) (r := 15) (show am_cd 125 48 = (18, 51, 1102, 2, [26]) by decide +kernel) (by decide +kernel) (by decide +kernel) rfl ?_
      refine e_lda (v := 1) (show am_cd 125 51 = (2, 52, 0, 2, []) by decide +kernel) rfl ?_
      refine e_getr (a := 1) (r := 8) (show am_cd 125 52 = (18, 55, 1101, 2, [19]) by decide +kernel) (by decide +kernel) (by decide +kernel) rfl ?_
      refine e_cV (z := 0) (a := 15) (as := [rA 8]) (rest := []) (show am_cd 125 55 = (40, 58, 70, 0, [135]) by decide +kernel) (by decide +kernel) rfl rfl (Nat.le_of_ble_eq_true rfl) rfl ?_
      refine Cl.mono (Cl.up (c_learn (m := mL) (d := d) h.1) (by omega)) ?_
      rintro _ _ ⟨w4, rfl, rfl, hp⟩
      refine ⟨fun _ h9 => (by cases h9), ?_⟩
      replace h := h.2 w4 hp
      show Ev _ 125 _ 58 [rA 1] [] _
      refine e_lda (v := 1) (show am_cd 125 58 = (2, 59, 0, 2, []) by decide +kernel) rfl ?_
      refine e_getr (a := 1) (r := 28) (show am_cd 125 59 = (18, 62, 1103, 2, [33]) by decide +kernel) (by decide +kernel) (by decide +kernel) rfl ?_
      refine e_cV (z := 0) (a := 28) (as := []) (rest := []) (show am_cd 125 62 = (40, 65, 21, 0, [139]) by decide +kernel) (by decide +kernel) rfl rfl (Nat.le_of_ble_eq_true rfl) rfl ?_
      show Ev _ 21 _ 0 [rA 28] [] _
      refine e_lda (v := 28) (show am_cd 21 0 = (2, 1, 0, 2, []) by decide +kernel) rfl ?_
      refine e_ic (show am_cd 21 1 = (0, 2, 0, 0, []) by decide +kernel) ?_
      refine e_putf (a := 28) (show am_cd 21 2 = (19, 5, 308, 0, [40]) by decide +kernel) (by decide +kernel) (by decide +kernel) rfl (fun h9 => absurd h9 (by decide)) (fun h9 => absurd h9 (by decide +kernel)) ?_
      refine e_lda (v := 28) (show am_cd 21 5 = (2, 6, 0, 2, []) by decide +kernel) rfl ?_
      refine e_getr (a := 28) (r := 36) (show am_cd 21 6 = (18, 9, 307, 2, [37]) by decide +kernel) (by decide +kernel) (by decide +kernel) rfl ?_
      refine e_ic (show am_cd 21 9 = (0, 12, 2, 1000, []) by decide +kernel) ?_
      refine e_cS (z := 0) (as := [rA 36, (0, 1000)]) (rest := []) (show am_cd 21 12 = (40, 15, 269, 1, [44]) by decide +kernel) (by decide) rfl rfl (Nat.le_of_ble_eq_true rfl) rfl ?_
      refine Cl.mono (Cl.up (c_fillI (d := d) h.1) (by omega)) ?_
      rintro _ _ ⟨rfl, rfl⟩
      refine ⟨fun _ h9 => (by cases h9), ?_⟩
      replace h := h.2
      show Ev _ 21 _ 15 [rA 28] [] _
      refine e_retv (show am_cd 21 15 = (36, 16, 3, 0, []) by decide +kernel) (by decide +kernel) ⟨fun _ h9 => (by cases h9), ?_⟩
      show Ev _ 125 _ 65 [rA 1] [] _
      refine e_lda (v := 1) (show am_cd 125 65 = (2, 66, 0, 2, []) by decide +kernel) rfl ?_
      refine e_getr (a := 1) (r := 48) (show am_cd 125 66 = (18, 69, 1106, 2, [54]) by decide +kernel) (by decide +kernel) (by decide +kernel) rfl ?_
      refine e_ic (show am_cd 125 69 = (0, 70, 0, 0, []) by decide +kernel) ?_
      refine e_putf (a := 48) (show am_cd 125 70 = (19, 73, 204, 0, [140]) by decide +kernel) (by decide +kernel) (by decide +kernel) rfl (fun h9 => absurd h9 (by decide)) (fun h9 => absurd h9 (by decide +kernel)) ?_
      refine e_lda (v := 1) (show am_cd 125 73 = (2, 74, 0, 2, []) by decide +kernel) rfl ?_
      refine e_getr (a := 1) (r := 37) (show am_cd 125 74 = (18, 77, 1104, 2, [40]) by decide +kernel) (by decide +kernel) (by decide +kernel) rfl ?_
      refine e_ic (show am_cd 125 77 = (0, 78, 0, 1, []) by decide +kernel) ?_
      refine e_putf (a := 37) (show am_cd 125 78 = (19, 81, 408, 0, [141]) by decide +kernel) (by decide +kernel) (by decide +kernel) rfl (fun h9 => absurd h9 (by decide)) (fun _ => Or.inr rfl) ?_
      refine e_lda (v := 1) (show am_cd 125 81 = (2, 82, 0, 2, []) by decide +kernel) rfl ?_
      refine e_getr (a := 1) (r := 8) (show am_cd 125 82 = (18, 85, 1101, 2, [19]) by decide +kernel) (by decide +kernel) (by decide +kernel) rfl ?_
      refine e_getfE (a := 8) (tg := 0) (v := (wfl (wu w4 28 8 0) 36 4 1000) 8 6) (show am_cd 125 85 = (18, 88, 6, 0, [145]) by decide +kernel) (by decide +kernel) (by decide +kernel) rfl rfl ?_
      refine e_reti (show am_cd 125 88 = (36, 89, 0, 0, []) by decide +kernel) (by decide +kernel) ⟨fun _ h9 => (by cases h9), ?_⟩
      show Ev _ 124 _ 4 [rA 1, (9, 0)] [(0, (wfl (wu w4 28 8 0) 36 4 1000) 8 6)] _
      refine e_sti (la2 := [rA 1, (0, (wfl (wu w4 28 8 0) 36 4 1000) 8 6)]) (show am_cd 124 4 = (3, 5, 1, 0, []) by decide +kernel) rfl ?_
      refine e_lda (v := 1) (show am_cd 124 5 = (2, 6, 0, 2, []) by decide +kernel) rfl ?_
      refine e_getr (a := 1) (r := 2) (show am_cd 124 6 = (18, 9, 1100, 2, [12]) by decide +kernel) (by decide +kernel) (by decide +kernel) rfl ?_
      refine e_cV (z := 0) (a := 2) (as := []) (rest := []) (show am_cd 124 9 = (40, 12, 79, 0, [117]) by decide +kernel) (by decide +kernel) rfl rfl (Nat.le_of_ble_eq_true rfl) rfl ?_
      show Ev _ 79 _ 0 [rA 2] [] _
      refine e_lda (v := 2) (show am_cd 79 0 = (2, 1, 0, 2, []) by decide +kernel) rfl ?_
      refine e_ic (show am_cd 79 1 = (0, 2, 0, 0, []) by decide +kernel) ?_
      refine e_putf (a := 2) (show am_cd 79 2 = (19, 5, 805, 0, [27]) by decide +kernel) (by decide +kernel) (by decide +kernel) rfl (fun h9 => absurd h9 (by decide)) (fun h9 => absurd h9 (by decide +kernel)) ?_
      refine e_lda (v := 2) (show am_cd 79 5 = (2, 6, 0, 2, []) by decide +kernel) rfl ?_
      refine e_ic (show am_cd 79 6 = (0, 7, 0, 0, []) by decide +kernel) ?_
      refine e_putf (a := 2) (show am_cd 79 7 = (19, 10, 806, 0, [31]) by decide +kernel) (by decide +kernel) (by decide +kernel) rfl (fun h9 => absurd h9 (by decide)) (fun h9 => absurd h9 (by decide +kernel)) ?_
      refine e_retv (show am_cd 79 10 = (36, 11, 3, 0, []) by decide +kernel) (by decide +kernel) ⟨fun _ h9 => (by cases h9), ?_⟩
      show Ev _ 124 _ 12 [rA 1, (0, (wfl (wu w4 28 8 0) 36 4 1000) 8 6)] [] _
      refine e_ldi (show am_cd 124 12 = (2, 13, 1, 0, []) by decide +kernel) rfl ?_
      exact e_reti (show am_cd 124 13 = (36, 14, 0, 0, []) by decide +kernel) (by decide +kernel) h
    · replace h := h.2 hc
      refine e_ic (show am_cd 125 25 = (0, 27, 1, -2, []) by decide +kernel) ?_
      refine e_reti (show am_cd 125 27 = (36, 28, 0, 0, []) by decide +kernel) (by decide +kernel) ⟨fun _ h9 => (by cases h9), ?_⟩
      show Ev _ 124 _ 4 [rA 1, (9, 0)] [(0, (-2))] _
      refine e_sti (la2 := [rA 1, (0, (-2))]) (show am_cd 124 4 = (3, 5, 1, 0, []) by decide +kernel) rfl ?_
      refine e_lda (v := 1) (show am_cd 124 5 = (2, 6, 0, 2, []) by decide +kernel) rfl ?_
      refine e_getr (a := 1) (r := 2) (show am_cd 124 6 = (18, 9, 1100, 2, [12]) by decide +kernel) (by decide +kernel) (by decide +kernel) rfl ?_
      refine e_cV (z := 0) (a := 2) (as := []) (rest := []) (show am_cd 124 9 = (40, 12, 79, 0, [117]) by decide +kernel) (by decide +kernel) rfl rfl (Nat.le_of_ble_eq_true rfl) rfl ?_
      show Ev _ 79 _ 0 [rA 2] [] _
      refine e_lda (v := 2) (show am_cd 79 0 = (2, 1, 0, 2, []) by decide +kernel) rfl ?_
      refine e_ic (show am_cd 79 1 = (0, 2, 0, 0, []) by decide +kernel) ?_
      refine e_putf (a := 2) (show am_cd 79 2 = (19, 5, 805, 0, [27]) by decide +kernel) (by decide +kernel) (by decide +kernel) rfl (fun h9 => absurd h9 (by decide)) (fun h9 => absurd h9 (by decide +kernel)) ?_
      refine e_lda (v := 2) (show am_cd 79 5 = (2, 6, 0, 2, []) by decide +kernel) rfl ?_
      refine e_ic (show am_cd 79 6 = (0, 7, 0, 0, []) by decide +kernel) ?_
      refine e_putf (a := 2) (show am_cd 79 7 = (19, 10, 806, 0, [31]) by decide +kernel) (by decide +kernel) (by decide +kernel) rfl (fun h9 => absurd h9 (by decide)) (fun h9 => absurd h9 (by decide +kernel)) ?_
      refine e_retv (show am_cd 79 10 = (36, 11, 3, 0, []) by decide +kernel) (by decide +kernel) ⟨fun _ h9 => (by cases h9), ?_⟩
      show Ev _ 124 _ 12 [rA 1, (0, (-2))] [] _
      refine e_ldi (show am_cd 124 12 = (2, 13, 1, 0, []) by decide +kernel) rfl ?_
      exact e_reti (show am_cd 124 13 = (36, 14, 0, 0, []) by decide +kernel) (by decide +kernel) h
  · replace h := h.2 hc
    refine e_lda (v := 1) (show am_cd 125 10 = (2, 11, 0, 2, []) by decide +kernel) rfl ?_
    refine e_cV (z := 0) (a := 1) (as := []) (rest := []) (show am_cd 125 11 = (40, 14, 126, 0, [124]) by decide +kernel) (by decide +kernel) rfl rfl (Nat.le_of_ble_eq_true rfl) rfl ?_
    show Ev _ 126 _ 0 [rA 1] [] _
    refine e_ic (show am_cd 126 0 = (0, 2, 1, -21, []) by decide +kernel) ?_
    refine e_lda (v := 1) (show am_cd 126 2 = (2, 3, 0, 2, []) by decide +kernel) rfl ?_
    refine e_getr (a := 1) (r := 2) (show am_cd 126 3 = (18, 6, 1100, 2, [12]) by decide +kernel) (by decide +kernel) (by decide +kernel) rfl ?_
    refine e_getf (a := 2) (tg := 0) (show am_cd 126 6 = (18, 9, 806, 0, [146]) by decide +kernel) (by decide +kernel) (by decide +kernel) rfl ?_
    refine e_isub (show am_cd 126 9 = (5, 10, 1, 0, []) by decide +kernel) ?_
    refine e_reti (show am_cd 126 10 = (36, 11, 0, 0, []) by decide +kernel) (by decide +kernel) ⟨fun _ h9 => (by cases h9), ?_⟩
    show Ev _ 125 _ 14 [rA 1] [(0, (-21) - (w2 2 6))] _
    refine e_reti (show am_cd 125 14 = (36, 15, 0, 0, []) by decide +kernel) (by decide +kernel) ⟨fun _ h9 => (by cases h9), ?_⟩
    show Ev _ 124 _ 4 [rA 1, (9, 0)] [(0, (-21) - (w2 2 6))] _
    refine e_sti (la2 := [rA 1, (0, (-21) - (w2 2 6))]) (show am_cd 124 4 = (3, 5, 1, 0, []) by decide +kernel) rfl ?_
    refine e_lda (v := 1) (show am_cd 124 5 = (2, 6, 0, 2, []) by decide +kernel) rfl ?_
    refine e_getr (a := 1) (r := 2) (show am_cd 124 6 = (18, 9, 1100, 2, [12]) by decide +kernel) (by decide +kernel) (by decide +kernel) rfl ?_
    refine e_cV (z := 0) (a := 2) (as := []) (rest := []) (show am_cd 124 9 = (40, 12, 79, 0, [117]) by decide +kernel) (by decide +kernel) rfl rfl (Nat.le_of_ble_eq_true rfl) rfl ?_
    show Ev _ 79 _ 0 [rA 2] [] _
    refine e_lda (v := 2) (show am_cd 79 0 = (2, 1, 0, 2, []) by decide +kernel) rfl ?_
    refine e_ic (show am_cd 79 1 = (0, 2, 0, 0, []) by decide +kernel) ?_
    refine e_putf (a := 2) (show am_cd 79 2 = (19, 5, 805, 0, [27]) by decide +kernel) (by decide +kernel) (by decide +kernel) rfl (fun h9 => absurd h9 (by decide)) (fun h9 => absurd h9 (by decide +kernel)) ?_
    refine e_lda (v := 2) (show am_cd 79 5 = (2, 6, 0, 2, []) by decide +kernel) rfl ?_
    refine e_ic (show am_cd 79 6 = (0, 7, 0, 0, []) by decide +kernel) ?_
    refine e_putf (a := 2) (show am_cd 79 7 = (19, 10, 806, 0, [31]) by decide +kernel) (by decide +kernel) (by decide +kernel) rfl (fun h9 => absurd h9 (by decide)) (fun h9 => absurd h9 (by decide +kernel)) ?_
    refine e_retv (show am_cd 79 10 = (36, 11, 3, 0, []) by decide +kernel) (by decide +kernel) ⟨fun _ h9 => (by cases h9), ?_⟩
    show Ev _ 124 _ 12 [rA 1, (0, (-21) - (w2 2 6))] [] _
    refine e_ldi (show am_cd 124 12 = (2, 13, 1, 0, []) by decide +kernel) rfl ?_
    exact e_reti (show am_cd 124 13 = (36, 14, 0, 0, []) by decide +kernel) (by decide +kernel) h

theorem g_cnames {d : Nat} {Q : Option aV → aS → Prop} {w : eW} {t : eT} {tx : List Int} {m mL : eW} {l : List (Int × Int)} (h : (TC w tx ∧ w 2 6 = 0) ∧ (∀ x1 w2, (tstP tx w (nmsR tx) x1 w2) → ((¬ w32 x1 = 0 → (SC w2 m ∧ WFs m ∧ (-1 ≤ w2 2 10 ∧ w2 2 10 ≤ 255)) ∧ ((w32 (snI m (w2 2 10)) = 0 → ((w32 (w2 8 7) < w32 4 → ((w32 4 ≤ w32 (w2 8 7) → Q (some (0, w2 8 7)) (enc (wu (wu w2 2 5 0) 2 6 0) t)) ∧ (¬ (w32 4 ≤ w32 (w2 8 7)) → (0 ≤ w32 (w2 8 7) ∧ w32 (w2 8 7) < 4) ∧ (0 ≤ w32 (w2 8 7) ∧ w32 (w2 8 7) < 4) ∧ (Q (some (0, (w2 8 7) + 1)) (enc (wu (wu (wu (wu (wu w2 13 (w32 (w2 8 7)).toNat (w2 2 10)) 14 (w32 (w2 8 7)).toNat (w2 2 11)) 8 7 ((w2 8 7) + 1)) 2 5 0) 2 6 0) t))))) ∧ (¬ (w32 (w2 8 7) < w32 4) → Q (some (0, (-3))) (enc (wu (wu w2 2 5 0) 2 6 0) t)))) ∧ (¬ (w32 (snI m (w2 2 10)) = 0) → Q (some (0, (-2))) (enc (wu (wu w2 2 5 0) 2 6 0) t)))) ∧ (¬ (¬ w32 x1 = 0) → Q (some (0, (-21) - (w2 2 6))) (enc (wu (wu w2 2 5 0) 2 6 0) t))))) : Cl (d + 6) 127 [rA 1] (enc w t) Q := by
  show Ev (d + 6) 127 Q 0 [rA 1, (9, 0)] [] (enc w t)
  refine e_lda (v := 1) (show am_cd 127 0 = (2, 1, 0, 2, []) by decide +kernel) rfl ?_
  refine e_cV (z := 0) (a := 1) (as := []) (rest := []) (show am_cd 127 1 = (40, 4, 128, 0, [149]) by decide +kernel) (by decide +kernel) rfl rfl (Nat.le_of_ble_eq_true rfl) rfl ?_
  show Ev _ 128 _ 0 [rA 1] [] _
  refine e_lda (v := 1) (show am_cd 128 0 = (2, 1, 0, 2, []) by decide +kernel) rfl ?_
  refine e_getr (a := 1) (r := 2) (show am_cd 128 1 = (18, 4, 1100, 2, [12]) by decide +kernel) (by decide +kernel) (by decide +kernel) rfl ?_
  refine e_cV (z := 0) (a := 2) (as := []) (rest := []) (show am_cd 128 4 = (40, 7, 86, 0, [152]) by decide +kernel) (by decide +kernel) rfl rfl (Nat.le_of_ble_eq_true rfl) rfl ?_
  refine Cl.mono (Cl.up (c_tstU (d := d) h.1) (by omega)) ?_
  rintro _ _ ⟨x1, w2, rfl, rfl, hp⟩
  refine ⟨fun _ h9 => (by cases h9), ?_⟩
  replace h := h.2 x1 w2 hp
  show Ev _ 128 _ 7 [rA 1] [(0, x1)] _
  refine e_if1 (show am_cd 128 7 = (10, 10, 15, 1, []) by decide +kernel) (fun hc => ?_) (fun hc => ?_)
  · replace h := h.1 hc
    refine e_lda (v := 1) (show am_cd 128 15 = (2, 16, 0, 2, []) by decide +kernel) rfl ?_
    refine e_getr (a := 1) (r := 8) (show am_cd 128 16 = (18, 19, 1101, 2, [19]) by decide +kernel) (by decide +kernel) (by decide +kernel) rfl ?_
    refine e_lda (v := 1) (show am_cd 128 19 = (2, 20, 0, 2, []) by decide +kernel) rfl ?_
    refine e_getr (a := 1) (r := 2) (show am_cd 128 20 = (18, 23, 1100, 2, [12]) by decide +kernel) (by decide +kernel) (by decide +kernel) rfl ?_
    refine e_getf (a := 2) (tg := 0) (show am_cd 128 23 = (18, 26, 810, 0, [155]) by decide +kernel) (by decide +kernel) (by decide +kernel) rfl ?_
    refine e_cV (z := 0) (a := 8) (as := [(0, w2 2 10)]) (rest := []) (show am_cd 128 26 = (40, 29, 6, 0, [158]) by decide +kernel) (by decide +kernel) rfl rfl (Nat.le_of_ble_eq_true rfl) rfl ?_
    refine Cl.mono (Cl.up (c_sn (d := d) h.1) (by omega)) ?_
    rintro _ _ ⟨rfl, rfl⟩
    refine ⟨fun _ h9 => (by cases h9), ?_⟩
    replace h := h.2
    show Ev _ 128 _ 29 [rA 1] [(0, snI m (w2 2 10))] _
    refine e_if0 (show am_cd 128 29 = (10, 32, 35, 0, []) by decide +kernel) (fun hc => ?_) (fun hc => ?_)
    · replace h := h.1 hc
      refine e_lda (v := 1) (show am_cd 128 35 = (2, 36, 0, 2, []) by decide +kernel) rfl ?_
      refine e_getr (a := 1) (r := 8) (show am_cd 128 36 = (18, 39, 1101, 2, [19]) by decide +kernel) (by decide +kernel) (by decide +kernel) rfl ?_
      refine e_getf (a := 8) (tg := 0) (show am_cd 128 39 = (18, 42, 7, 0, [162]) by decide +kernel) (by decide +kernel) (by decide +kernel) rfl ?_
      refine e_ic (show am_cd 128 42 = (0, 43, 0, 4, []) by decide +kernel) ?_
      refine e_cmp2 (show am_cd 128 43 = (11, 46, 49, 2, []) by decide +kernel) (fun hc => ?_) (fun hc => ?_)
      · replace h := h.1 hc
        refine e_lda (v := 1) (show am_cd 128 49 = (2, 50, 0, 2, []) by decide +kernel) rfl ?_
        refine e_getr (a := 1) (r := 8) (show am_cd 128 50 = (18, 53, 1101, 2, [19]) by decide +kernel) (by decide +kernel) (by decide +kernel) rfl ?_
        refine e_lda (v := 1) (show am_cd 128 53 = (2, 54, 0, 2, []) by decide +kernel) rfl ?_
        refine e_getr (a := 1) (r := 2) (show am_cd 128 54 = (18, 57, 1100, 2, [12]) by decide +kernel) (by decide +kernel) (by decide +kernel) rfl ?_
        refine e_getf (a := 2) (tg := 0) (show am_cd 128 57 = (18, 60, 810, 0, [155]) by decide +kernel) (by decide +kernel) (by decide +kernel) rfl ?_
        refine e_lda (v := 1) (show am_cd 128 60 = (2, 61, 0, 2, []) by decide +kernel) rfl ?_
        refine e_getr (a := 1) (r := 2) (show am_cd 128 61 = (18, 64, 1100, 2, [12]) by decide +kernel) (by decide +kernel) (by decide +kernel) rfl ?_
        refine e_getf (a := 2) (tg := 0) (show am_cd 128 64 = (18, 67, 811, 0, [165]) by decide +kernel) (by decide +kernel) (by decide +kernel) rfl ?_
        refine e_cV (z := 0) (a := 8) (as := [(0, w2 2 10), (0, w2 2 11)]) (rest := []) (show am_cd 128 67 = (40, 70, 5, 0, [168]) by decide +kernel) (by decide +kernel) rfl rfl (Nat.le_of_ble_eq_true rfl) rfl ?_
        show Ev _ 5 _ 0 [rA 8, (0, w2 2 10), (0, w2 2 11)] [] _
        refine e_lda (v := 8) (show am_cd 5 0 = (2, 1, 0, 2, []) by decide +kernel) rfl ?_
        refine e_getf (a := 8) (tg := 0) (show am_cd 5 1 = (18, 4, 7, 0, [39]) by decide +kernel) (by decide +kernel) (by decide +kernel) rfl ?_
        refine e_ic (show am_cd 5 4 = (0, 5, 0, 4, []) by decide +kernel) ?_
        refine e_cmp3 (show am_cd 5 5 = (11, 8, 38, 3, []) by decide +kernel) (fun hc => ?_) (fun hc => ?_)
        · replace h := h.1 hc
          refine e_retv (show am_cd 5 38 = (36, 39, 3, 0, []) by decide +kernel) (by decide +kernel) ⟨fun _ h9 => (by cases h9), ?_⟩
          show Ev _ 128 _ 70 [rA 1] [] _
          refine e_lda (v := 1) (show am_cd 128 70 = (2, 71, 0, 2, []) by decide +kernel) rfl ?_
          refine e_getr (a := 1) (r := 8) (show am_cd 128 71 = (18, 74, 1101, 2, [19]) by decide +kernel) (by decide +kernel) (by decide +kernel) rfl ?_
          refine e_getf (a := 8) (tg := 0) (show am_cd 128 74 = (18, 77, 7, 0, [162]) by decide +kernel) (by decide +kernel) (by decide +kernel) rfl ?_
          refine e_reti (show am_cd 128 77 = (36, 78, 0, 0, []) by decide +kernel) (by decide +kernel) ⟨fun _ h9 => (by cases h9), ?_⟩
          show Ev _ 127 _ 4 [rA 1, (9, 0)] [(0, w2 8 7)] _
          refine e_sti (la2 := [rA 1, (0, w2 8 7)]) (show am_cd 127 4 = (3, 5, 1, 0, []) by decide +kernel) rfl ?_
          refine e_lda (v := 1) (show am_cd 127 5 = (2, 6, 0, 2, []) by decide +kernel) rfl ?_
          refine e_getr (a := 1) (r := 2) (show am_cd 127 6 = (18, 9, 1100, 2, [12]) by decide +kernel) (by decide +kernel) (by decide +kernel) rfl ?_
          refine e_cV (z := 0) (a := 2) (as := []) (rest := []) (show am_cd 127 9 = (40, 12, 79, 0, [117]) by decide +kernel) (by decide +kernel) rfl rfl (Nat.le_of_ble_eq_true rfl) rfl ?_
          show Ev _ 79 _ 0 [rA 2] [] _
          refine e_lda (v := 2) (show am_cd 79 0 = (2, 1, 0, 2, []) by decide +kernel) rfl ?_
          refine e_ic (show am_cd 79 1 = (0, 2, 0, 0, []) by decide +kernel) ?_
          refine e_putf (a := 2) (show am_cd 79 2 = (19, 5, 805, 0, [27]) by decide +kernel) (by decide +kernel) (by decide +kernel) rfl (fun h9 => absurd h9 (by decide)) (fun h9 => absurd h9 (by decide +kernel)) ?_
          refine e_lda (v := 2) (show am_cd 79 5 = (2, 6, 0, 2, []) by decide +kernel) rfl ?_
          refine e_ic (show am_cd 79 6 = (0, 7, 0, 0, []) by decide +kernel) ?_
          refine e_putf (a := 2) (show am_cd 79 7 = (19, 10, 806, 0, [31]) by decide +kernel) (by decide +kernel) (by decide +kernel) rfl (fun h9 => absurd h9 (by decide)) (fun h9 => absurd h9 (by decide +kernel)) ?_
          refine e_retv (show am_cd 79 10 = (36, 11, 3, 0, []) by decide +kernel) (by decide +kernel) ⟨fun _ h9 => (by cases h9), ?_⟩
          show Ev _ 127 _ 12 [rA 1, (0, w2 8 7)] [] _
          refine e_ldi (show am_cd 127 12 = (2, 13, 1, 0, []) by decide +kernel) rfl ?_
          exact e_reti (show am_cd 127 13 = (36, 14, 0, 0, []) by decide +kernel) (by decide +kernel) h
        · replace h := h.2 hc
          refine e_lda (v := 8) (show am_cd 5 8 = (2, 9, 0, 2, []) by decide +kernel) rfl ?_
          refine e_getr (a := 8) (r := 13) (show am_cd 5 9 = (18, 12, 4, 2, [24]) by decide +kernel) (by decide +kernel) (by decide +kernel) rfl ?_
          refine e_lda (v := 8) (show am_cd 5 12 = (2, 13, 0, 2, []) by decide +kernel) rfl ?_
          refine e_getf (a := 8) (tg := 0) (show am_cd 5 13 = (18, 16, 7, 0, [39]) by decide +kernel) (by decide +kernel) (by decide +kernel) rfl ?_
          refine e_ldi (show am_cd 5 16 = (2, 17, 1, 0, []) by decide +kernel) rfl ?_
          refine e_iast (a := 13) (n := 4) (show am_cd 5 17 = (24, 18, 0, 0, []) by decide +kernel) (by decide +kernel) (by decide +kernel) (by decide +kernel) h.1 ?_
          replace h := h.2
          refine e_lda (v := 8) (show am_cd 5 18 = (2, 19, 0, 2, []) by decide +kernel) rfl ?_
          refine e_getr (a := 8) (r := 14) (show am_cd 5 19 = (18, 22, 5, 2, [27]) by decide +kernel) (by decide +kernel) (by decide +kernel) rfl ?_
          refine e_lda (v := 8) (show am_cd 5 22 = (2, 23, 0, 2, []) by decide +kernel) rfl ?_
          refine e_getfE (a := 8) (tg := 0) (v := w2 8 7) (show am_cd 5 23 = (18, 26, 7, 0, [39]) by decide +kernel) (by decide +kernel) (by decide +kernel) rfl rfl ?_
          refine e_ldi (show am_cd 5 26 = (2, 27, 2, 0, []) by decide +kernel) rfl ?_
          refine e_iast (a := 14) (n := 4) (show am_cd 5 27 = (24, 28, 0, 0, []) by decide +kernel) (by decide +kernel) (by decide +kernel) (by decide +kernel) h.1 ?_
          replace h := h.2
          refine e_lda (v := 8) (show am_cd 5 28 = (2, 29, 0, 2, []) by decide +kernel) rfl ?_
          refine e_dup (show am_cd 5 29 = (13, 30, 0, 0, []) by decide +kernel) (by decide) ?_
          refine e_getfE (a := 8) (tg := 0) (v := w2 8 7) (show am_cd 5 30 = (18, 33, 7, 0, [39]) by decide +kernel) (by decide +kernel) (by decide +kernel) rfl rfl ?_
          refine e_ic (show am_cd 5 33 = (0, 34, 0, 1, []) by decide +kernel) ?_
          refine e_iadd (show am_cd 5 34 = (5, 35, 0, 0, []) by decide +kernel) ?_
          refine e_putf (a := 8) (show am_cd 5 35 = (19, 38, 7, 0, [39]) by decide +kernel) (by decide +kernel) (by decide +kernel) rfl (fun h9 => absurd h9 (by decide)) (fun h9 => absurd h9 (by decide +kernel)) ?_
          refine e_retv (show am_cd 5 38 = (36, 39, 3, 0, []) by decide +kernel) (by decide +kernel) ⟨fun _ h9 => (by cases h9), ?_⟩
          show Ev _ 128 _ 70 [rA 1] [] _
          refine e_lda (v := 1) (show am_cd 128 70 = (2, 71, 0, 2, []) by decide +kernel) rfl ?_
          refine e_getr (a := 1) (r := 8) (show am_cd 128 71 = (18, 74, 1101, 2, [19]) by decide +kernel) (by decide +kernel) (by decide +kernel) rfl ?_
          refine e_getfE (a := 8) (tg := 0) (v := (w2 8 7) + 1) (show am_cd 128 74 = (18, 77, 7, 0, [162]) by decide +kernel) (by decide +kernel) (by decide +kernel) rfl rfl ?_
          refine e_reti (show am_cd 128 77 = (36, 78, 0, 0, []) by decide +kernel) (by decide +kernel) ⟨fun _ h9 => (by cases h9), ?_⟩
          show Ev _ 127 _ 4 [rA 1, (9, 0)] [(0, (w2 8 7) + 1)] _
          refine e_sti (la2 := [rA 1, (0, (w2 8 7) + 1)]) (show am_cd 127 4 = (3, 5, 1, 0, []) by decide +kernel) rfl ?_
          refine e_lda (v := 1) (show am_cd 127 5 = (2, 6, 0, 2, []) by decide +kernel) rfl ?_
          refine e_getr (a := 1) (r := 2) (show am_cd 127 6 = (18, 9, 1100, 2, [12]) by decide +kernel) (by decide +kernel) (by decide +kernel) rfl ?_
          refine e_cV (z := 0) (a := 2) (as := []) (rest := []) (show am_cd 127 9 = (40, 12, 79, 0, [117]) by decide +kernel) (by decide +kernel) rfl rfl (Nat.le_of_ble_eq_true rfl) rfl ?_
          show Ev _ 79 _ 0 [rA 2] [] _
          refine e_lda (v := 2) (show am_cd 79 0 = (2, 1, 0, 2, []) by decide +kernel) rfl ?_
          refine e_ic (show am_cd 79 1 = (0, 2, 0, 0, []) by decide +kernel) ?_
          refine e_putf (a := 2) (show am_cd 79 2 = (19, 5, 805, 0, [27]) by decide +kernel) (by decide +kernel) (by decide +kernel) rfl (fun h9 => absurd h9 (by decide)) (fun h9 => absurd h9 (by decide +kernel)) ?_
          refine e_lda (v := 2) (show am_cd 79 5 = (2, 6, 0, 2, []) by decide +kernel) rfl ?_
          refine e_ic (show am_cd 79 6 = (0, 7, 0, 0, []) by decide +kernel) ?_
          refine e_putf (a := 2) (show am_cd 79 7 = (19, 10, 806, 0, [31]) by decide +kernel) (by decide +kernel) (by decide +kernel) rfl (fun h9 => absurd h9 (by decide)) (fun h9 => absurd h9 (by decide +kernel)) ?_
          refine e_retv (show am_cd 79 10 = (36, 11, 3, 0, []) by decide +kernel) (by decide +kernel) ⟨fun _ h9 => (by cases h9), ?_⟩
          show Ev _ 127 _ 12 [rA 1, (0, (w2 8 7) + 1)] [] _
          refine e_ldi (show am_cd 127 12 = (2, 13, 1, 0, []) by decide +kernel) rfl ?_
          exact e_reti (show am_cd 127 13 = (36, 14, 0, 0, []) by decide +kernel) (by decide +kernel) h
      · replace h := h.2 hc
        refine e_ic (show am_cd 128 46 = (0, 48, 1, -3, []) by decide +kernel) ?_
        refine e_reti (show am_cd 128 48 = (36, 49, 0, 0, []) by decide +kernel) (by decide +kernel) ⟨fun _ h9 => (by cases h9), ?_⟩
        show Ev _ 127 _ 4 [rA 1, (9, 0)] [(0, (-3))] _
        refine e_sti (la2 := [rA 1, (0, (-3))]) (show am_cd 127 4 = (3, 5, 1, 0, []) by decide +kernel) rfl ?_
        refine e_lda (v := 1) (show am_cd 127 5 = (2, 6, 0, 2, []) by decide +kernel) rfl ?_
        refine e_getr (a := 1) (r := 2) (show am_cd 127 6 = (18, 9, 1100, 2, [12]) by decide +kernel) (by decide +kernel) (by decide +kernel) rfl ?_
        refine e_cV (z := 0) (a := 2) (as := []) (rest := []) (show am_cd 127 9 = (40, 12, 79, 0, [117]) by decide +kernel) (by decide +kernel) rfl rfl (Nat.le_of_ble_eq_true rfl) rfl ?_
        show Ev _ 79 _ 0 [rA 2] [] _
        refine e_lda (v := 2) (show am_cd 79 0 = (2, 1, 0, 2, []) by decide +kernel) rfl ?_
        refine e_ic (show am_cd 79 1 = (0, 2, 0, 0, []) by decide +kernel) ?_
        refine e_putf (a := 2) (show am_cd 79 2 = (19, 5, 805, 0, [27]) by decide +kernel) (by decide +kernel) (by decide +kernel) rfl (fun h9 => absurd h9 (by decide)) (fun h9 => absurd h9 (by decide +kernel)) ?_
        refine e_lda (v := 2) (show am_cd 79 5 = (2, 6, 0, 2, []) by decide +kernel) rfl ?_
        refine e_ic (show am_cd 79 6 = (0, 7, 0, 0, []) by decide +kernel) ?_
        refine e_putf (a := 2) (show am_cd 79 7 = (19, 10, 806, 0, [31]) by decide +kernel) (by decide +kernel) (by decide +kernel) rfl (fun h9 => absurd h9 (by decide)) (fun h9 => absurd h9 (by decide +kernel)) ?_
        refine e_retv (show am_cd 79 10 = (36, 11, 3, 0, []) by decide +kernel) (by decide +kernel) ⟨fun _ h9 => (by cases h9), ?_⟩
        show Ev _ 127 _ 12 [rA 1, (0, (-3))] [] _
        refine e_ldi (show am_cd 127 12 = (2, 13, 1, 0, []) by decide +kernel) rfl ?_
        exact e_reti (show am_cd 127 13 = (36, 14, 0, 0, []) by decide +kernel) (by decide +kernel) h
    · replace h := h.2 hc
      refine e_ic (show am_cd 128 32 = (0, 34, 1, -2, []) by decide +kernel) ?_
      refine e_reti (show am_cd 128 34 = (36, 35, 0, 0, []) by decide +kernel) (by decide +kernel) ⟨fun _ h9 => (by cases h9), ?_⟩
      show Ev _ 127 _ 4 [rA 1, (9, 0)] [(0, (-2))] _
      refine e_sti (la2 := [rA 1, (0, (-2))]) (show am_cd 127 4 = (3, 5, 1, 0, []) by decide +kernel) rfl ?_
      refine e_lda (v := 1) (show am_cd 127 5 = (2, 6, 0, 2, []) by decide +kernel) rfl ?_
      refine e_getr (a := 1) (r := 2) (show am_cd 127 6 = (18, 9, 1100, 2, [12]) by decide +kernel) (by decide +kernel) (by decide +kernel) rfl ?_
      refine e_cV (z := 0) (a := 2) (as := []) (rest := []) (show am_cd 127 9 = (40, 12, 79, 0, [117]) by decide +kernel) (by decide +kernel) rfl rfl (Nat.le_of_ble_eq_true rfl) rfl ?_
      show Ev _ 79 _ 0 [rA 2] [] _
      refine e_lda (v := 2) (show am_cd 79 0 = (2, 1, 0, 2, []) by decide +kernel) rfl ?_
      refine e_ic (show am_cd 79 1 = (0, 2, 0, 0, []) by decide +kernel) ?_
      refine e_putf (a := 2) (show am_cd 79 2 = (19, 5, 805, 0, [27]) by decide +kernel) (by decide +kernel) (by decide +kernel) rfl (fun h9 => absurd h9 (by decide)) (fun h9 => absurd h9 (by decide +kernel)) ?_
      refine e_lda (v := 2) (show am_cd 79 5 = (2, 6, 0, 2, []) by decide +kernel) rfl ?_
      refine e_ic (show am_cd 79 6 = (0, 7, 0, 0, []) by decide +kernel) ?_
      refine e_putf (a := 2) (show am_cd 79 7 = (19, 10, 806, 0, [31]) by decide +kernel) (by decide +kernel) (by decide +kernel) rfl (fun h9 => absurd h9 (by decide)) (fun h9 => absurd h9 (by decide +kernel)) ?_
      refine e_retv (show am_cd 79 10 = (36, 11, 3, 0, []) by decide +kernel) (by decide +kernel) ⟨fun _ h9 => (by cases h9), ?_⟩
      show Ev _ 127 _ 12 [rA 1, (0, (-2))] [] _
      refine e_ldi (show am_cd 127 12 = (2, 13, 1, 0, []) by decide +kernel) rfl ?_
      exact e_reti (show am_cd 127 13 = (36, 14, 0, 0, []) by decide +kernel) (by decide +kernel) h
  · replace h := h.2 hc
    refine e_lda (v := 1) (show am_cd 128 10 = (2, 11, 0, 2, []) by decide +kernel) rfl ?_
    refine e_cV (z := 0) (a := 1) (as := []) (rest := []) (show am_cd 128 11 = (40, 14, 126, 0, [124]) by decide +kernel) (by decide +kernel) rfl rfl (Nat.le_of_ble_eq_true rfl) rfl ?_
    show Ev _ 126 _ 0 [rA 1] [] _
    refine e_ic (show am_cd 126 0 = (0, 2, 1, -21, []) by decide +kernel) ?_
    refine e_lda (v := 1) (show am_cd 126 2 = (2, 3, 0, 2, []) by decide +kernel) rfl ?_
    refine e_getr (a := 1) (r := 2) (show am_cd 126 3 = (18, 6, 1100, 2, [12]) by decide +kernel) (by decide +kernel) (by decide +kernel) rfl ?_
    refine e_getf (a := 2) (tg := 0) (show am_cd 126 6 = (18, 9, 806, 0, [146]) by decide +kernel) (by decide +kernel) (by decide +kernel) rfl ?_
    refine e_isub (show am_cd 126 9 = (5, 10, 1, 0, []) by decide +kernel) ?_
    refine e_reti (show am_cd 126 10 = (36, 11, 0, 0, []) by decide +kernel) (by decide +kernel) ⟨fun _ h9 => (by cases h9), ?_⟩
    show Ev _ 128 _ 14 [rA 1] [(0, (-21) - (w2 2 6))] _
    refine e_reti (show am_cd 128 14 = (36, 15, 0, 0, []) by decide +kernel) (by decide +kernel) ⟨fun _ h9 => (by cases h9), ?_⟩
    show Ev _ 127 _ 4 [rA 1, (9, 0)] [(0, (-21) - (w2 2 6))] _
    refine e_sti (la2 := [rA 1, (0, (-21) - (w2 2 6))]) (show am_cd 127 4 = (3, 5, 1, 0, []) by decide +kernel) rfl ?_
    refine e_lda (v := 1) (show am_cd 127 5 = (2, 6, 0, 2, []) by decide +kernel) rfl ?_
    refine e_getr (a := 1) (r := 2) (show am_cd 127 6 = (18, 9, 1100, 2, [12]) by decide +kernel) (by decide +kernel) (by decide +kernel) rfl ?_
    refine e_cV (z := 0) (a := 2) (as := []) (rest := []) (show am_cd 127 9 = (40, 12, 79, 0, [117]) by decide +kernel) (by decide +kernel) rfl rfl (Nat.le_of_ble_eq_true rfl) rfl ?_
    show Ev _ 79 _ 0 [rA 2] [] _
    refine e_lda (v := 2) (show am_cd 79 0 = (2, 1, 0, 2, []) by decide +kernel) rfl ?_
    refine e_ic (show am_cd 79 1 = (0, 2, 0, 0, []) by decide +kernel) ?_
    refine e_putf (a := 2) (show am_cd 79 2 = (19, 5, 805, 0, [27]) by decide +kernel) (by decide +kernel) (by decide +kernel) rfl (fun h9 => absurd h9 (by decide)) (fun h9 => absurd h9 (by decide +kernel)) ?_
    refine e_lda (v := 2) (show am_cd 79 5 = (2, 6, 0, 2, []) by decide +kernel) rfl ?_
    refine e_ic (show am_cd 79 6 = (0, 7, 0, 0, []) by decide +kernel) ?_
    refine e_putf (a := 2) (show am_cd 79 7 = (19, 10, 806, 0, [31]) by decide +kernel) (by decide +kernel) (by decide +kernel) rfl (fun h9 => absurd h9 (by decide)) (fun h9 => absurd h9 (by decide +kernel)) ?_
    refine e_retv (show am_cd 79 10 = (36, 11, 3, 0, []) by decide +kernel) (by decide +kernel) ⟨fun _ h9 => (by cases h9), ?_⟩
    show Ev _ 127 _ 12 [rA 1, (0, (-21) - (w2 2 6))] [] _
    refine e_ldi (show am_cd 127 12 = (2, 13, 1, 0, []) by decide +kernel) rfl ?_
    exact e_reti (show am_cd 127 13 = (36, 14, 0, 0, []) by decide +kernel) (by decide +kernel) h

theorem k_pairs {d : Nat} {w : eW} {t : eT} {b : Nat × Nat} {m : eW} {ks : kT} {rl tx : List Int} (h : CI w t b m ks rl tx) : Cl (d + 6) 124 [rA 1] (enc w t) (AnC w (pairsM tx m) b (pairsK tx ks) rl [] (0, pairsV tx)) := by
  refine g_cpairs (tx := tx) (m := m) (mL := prW m (prL tx)) (l := prL tx) ⟨h.1.1, fun x1 w1 hw1 => ?_⟩
  obtain ⟨f1, T1, q1⟩ := hw1
  have hK1 : KC w1 ks := h.2.2.2.1.fc f1 (by decide) (by decide)
  have hL1 : TlC w1 rl := h.2.2.2.2.1.fc f1 (by decide) (by decide)
  unfold pairsV pairsM pairsK prL
  cases hP : prsA tx with
  | error q =>
    rw [hP] at q1
    obtain ⟨rfl, e6⟩ := q1
    refine ⟨fun h9 => absurd (by decide +kernel) h9, fun _ => ?_⟩
    dsimp only
    rw [e6]
    exact AnC.clr h f1 T1 (by decide) (by decide) hK1 hL1
  | ok l =>
    rw [hP] at q1
    obtain ⟨rfl, e7, hPr⟩ := q1
    obtain ⟨hok, hlen⟩ := prsA_b hP
    dsimp only
    refine ⟨fun _ => ⟨⟨hPr, e7, hlen, hok⟩, fun hd => ⟨⟨hPr, e7, hlen, hok⟩, fun w2 h2 => ?_⟩, fun hd => ?_⟩, fun h9 => absurd (fun h8 => absurd h8 (by decide +kernel)) h9⟩
    · obtain ⟨⟨g1, g2, g3, g4, g5⟩, g8⟩ := h2
      obtain ⟨n0, n6, wfp, wfr⟩ := prW_wf (m := m) hlen hok hd
      have hA2 : AC w2 (prW m l) := by
        refine ⟨g2, fun p hp => ?_, fun c hc => ?_, ?_⟩
        · rw [n0] at hp; exact g4 p hp
        · have := g5 c hc
          unfold byU byL
          rw [n0]
          exact this
        · rw [g8, ← byU_0 wfp]
          unfold byU
          rw [n0]
          exact (g5 0 (by decide)).1
      have fa : Fc [] [(15, 12)] w2 (wu w2 15 12 0) := Fc.pf (by decide)
      refine ⟨⟨⟨rfl, fun r hr => by rw [n6] at hr; cases hr⟩, hA2.fc fa (by decide) (by decide), wfp, wfr⟩, fun w3 h3 => ⟨⟨by decide, by decide, by decide, by decide⟩, ?_⟩⟩
      obtain ⟨f3, hN3⟩ := h3
      rw [if_neg (by rw [hd]; decide), if_neg (by rw [hd]; decide), if_neg (by rw [hd]; decide)]
      generalize hw5 : wu (wu (wu (wu (wfl (wu w3 28 8 0) 36 4 1000) 48 4 0) 37 8 1) 2 5 0) 2 6 0 = w5
      have f5 : Fc [36] [(28, 8), (48, 4), (37, 8), (2, 5), (2, 6)] w3 w5 := by
        rw [← hw5]
        exact (((((Fc.pf (by decide)).tr (Fc.wfl (by decide))).tr (Fc.pf (by decide))).tr (Fc.pf (by decide))).tr (Fc.pf (by decide))).tr (Fc.pf (by decide))
      have F : Fc [4, 5, 9, 10, 11, 12, 23, 24, 25, 26, 27, 36] [(2, 6), (2, 7), (8, 6), (8, 7), (8, 8), (15, 12), (15, 16), (15, 17), (28, 8), (48, 4), (37, 8), (2, 5)] w w5 := (((f1.mo (by decide) (by decide)).tr (g1.mo (by decide) (by decide))).tr (fa.mo (by decide) (by decide))).tr ((f3.mo (by decide) (by decide)).tr (f5.mo (by decide) (by decide)))
      have f25 : Fc [23, 24, 25, 26, 27, 36] [(15, 12), (15, 16), (15, 17), (28, 8), (48, 4), (37, 8), (2, 5), (2, 6)] w2 w5 := (fa.mo (by decide) (by decide)).tr ((f3.mo (by decide) (by decide)).tr (f5.mo (by decide) (by decide)))
      have e86 : (wfl (wu w3 28 8 0) 36 4 1000) 8 6 = (l.length : Int) := by
        rw [wfl_na (by decide)]
        show w3 8 6 = _
        rw [f3 _ _ (by decide) (by decide)]
        exact g2
      rw [e86]
      refine ⟨w5, t, rfl, rfl, F.up (by decide) (by decide), ⟨⟨?_, hA2.fc f25 (by decide) (by decide), ⟨?_, fun i hi => ?_⟩⟩, ⟨⟨?_, fun r hr => by rw [n6] at hr; cases hr⟩, hN3.fc f5 (by decide) (by decide)⟩, ⟨⟨?_, fun e he => ?_⟩, ?_, fun c n _ hc => ?_, h.2.2.1.2.2.2.fc F (by decide) (by decide)⟩, ⟨?_, by decide, fun i hi => absurd hi (Nat.not_lt_zero i)⟩, h.2.2.2.2.1.fc F (by decide) (by decide), h.2.2.2.2.2.stale F (by decide) (by decide) ?_⟩⟩
      · have T4 : TC (wu (wu (wfl (wu w3 28 8 0) 36 4 1000) 48 4 0) 37 8 1) tx := by
          have f4 : Fc [9, 10, 11, 12, 23, 24, 25, 26, 27, 36] [(8, 6), (8, 7), (8, 8), (15, 12), (15, 16), (15, 17), (28, 8), (48, 4), (37, 8)] w1 (wu (wu (wfl (wu w3 28 8 0) 36 4 1000) 48 4 0) 37 8 1) := ((g1.mo (by decide) (by decide)).tr (fa.mo (by decide) (by decide))).tr ((f3.mo (by decide) (by decide)).tr ((((Fc.pf (by decide)).tr (Fc.wfl (by decide))).tr (Fc.pf (by decide))).tr (Fc.pf (by decide))))
          exact T1.fc f4 (by decide) (by decide)
        rw [← hw5]
        exact T4.nil
      · rw [f25 _ _ (by decide) (by decide)]; exact g3
      · exact absurd hi (Nat.not_lt_zero i)
      · show w5 15 12 = 0
        rw [f5 _ _ (by decide) (by decide), f3 _ _ (by decide) (by decide)]
        rfl
      · show w5 28 8 = 0
        rw [← hw5]; rfl
      · exact absurd he (Nat.not_lt_zero e)
      · intro c hc
        have : w5 36 c = 1000 := by
          rw [← hw5]
          show wfl (wu w3 28 8 0) 36 4 1000 36 c = 1000
          exact wfl_at hc
        omega
      · have no : ∀ (c : Int) n, Cn (prW m l) c n → False := fun c n h9 => by
          obtain ⟨l2, h8, _⟩ := h9
          cases l2 with
          | nil => exact h8
          | cons e r => exact absurd h8.head.1 (Nat.not_lt_zero _)
        exact (no _ _ hc).elim
      · rw [← hw5]; rfl
      · rw [← hw5]; rfl
    · rw [if_pos hd, if_pos hd, if_pos hd]
      exact AnC.clr h f1 T1 (by decide) (by decide) hK1 hL1

theorem snI_0 {m : eW} (hs : WFs m) (c : Int) : (snI m c = 0 ↔ soN m c = nS m) ∧ -2147483648 ≤ snI m c ∧ snI m c ≤ 2147483647 := by
  unfold snI
  by_cases h : soN m c = nS m
  · rw [if_pos h]; exact ⟨⟨fun _ => h, fun _ => rfl⟩, by decide, by decide⟩
  · rw [if_neg h]
    have hb := hs.2 _ (fs_at h).1
    unfold soN at *
    refine ⟨⟨fun h9 => by omega, fun h9 => absurd h9 h⟩, by omega, by omega⟩
theorem Cn_mm {m m2 : eW} (e12 : m2 67 12 = m 67 12) (r : ∀ a, 77 ≤ a → a ≤ 79 → m2 a = m a) {c : Int} {n : Nat} (h : Cn m2 c n) : Cn m c n := by
  have nE2 : nE m2 = nE m := by unfold nE; rw [e12]
  have r77 := r 77 (by omega) (by omega)
  have r78 := r 78 (by omega) (by omega)
  have r79 := r 79 (by omega) (by omega)
  have fe : ∀ e, fmN m2 e = fmN m e := fun e => by unfold fmN; rw [r79]
  obtain ⟨l, hl, ht⟩ := h
  have key : ∀ (l : List Nat) (c : Int), Ch m2 c l → Ch m c l := by
    intro l
    induction l with
    | nil => intro c h9; exact h9
    | cons e r ih =>
      intro c h9
      cases r with
      | nil => exact ⟨by have := h9.1; omega, by rw [← r77]; exact h9.2.1, by rw [← r78]; exact h9.2.2⟩
      | cons e2 r2 => exact ⟨by have := h9.1; omega, by rw [← r77]; exact h9.2.1, by rw [← r78]; exact h9.2.2.1, by have := ih _ h9.2.2.2; rw [r78] at this; exact this⟩
  refine ⟨l, key l c hl, ?_⟩
  rw [← ht]
  unfold totL
  congr 1
  exact List.map_congr_left (fun e _ => (fe e).symm)
theorem k_names {d : Nat} {w : eW} {t : eT} {b : Nat × Nat} {m : eW} {ks : kT} {rl tx : List Int} (h : CI w t b m ks rl tx) (hp : WFp m) (hs : WFs m) : Cl (d + 6) 127 [rA 1] (enc w t) (AnC w (namesM tx m) b ks rl [] (0, namesV tx m)) := by
  refine g_cnames (tx := tx) (m := m) (mL := m) (l := []) ⟨h.1.1, fun x1 w1 hw1 => ?_⟩
  obtain ⟨f1, T1, q1⟩ := hw1
  have hK1 : KC w1 ks := h.2.2.2.1.fc f1 (by decide) (by decide)
  have hL1 : TlC w1 rl := h.2.2.2.2.1.fc f1 (by decide) (by decide)
  have hS1 : SC w1 m := h.1.2.2.fc f1 (by decide) (by decide)
  have hn := hs.n
  unfold namesV namesM
  cases hP : nmsR tx with
  | error q =>
    rw [hP] at q1
    obtain ⟨rfl, e6⟩ := q1
    refine ⟨fun h9 => absurd (by decide +kernel) h9, fun _ => ?_⟩
    dsimp only
    rw [e6]
    exact AnC.clr h f1 T1 (by decide) (by decide) hK1 hL1
  | ok y =>
    rw [hP] at q1
    obtain ⟨rfl, e10, e11⟩ := q1
    obtain ⟨b1, b2, b3⟩ := nmsR_b hP
    obtain ⟨z1, z2⟩ := snI_0 hs y.1
    dsimp only
    rw [e10, e11, hS1.1, ← hn.1]
    refine ⟨fun _ => ⟨⟨hS1, hs, by omega⟩, fun h0 => ?_, fun h0 => ?_⟩, fun h9 => absurd (fun h8 => absurd h8 (by decide +kernel)) h9⟩
    · rw [w32_id z2] at h0
      rw [if_pos (z1.mp h0), if_pos (z1.mp h0), w32_id (x := (nS m : Int)) (by omega), w32_id (x := 4) (by decide), Int.toNat_natCast]
      refine ⟨fun h4 => ⟨fun h9 => by omega, fun _ => ⟨by omega, by omega, ?_⟩⟩, fun h4 => ?_⟩
      · rw [if_neg (by omega), if_neg (by omega)]
        generalize hw5 : wu (wu (wu (wu (wu w1 13 (nS m) y.1) 14 (nS m) (2 * (y.2 : Int))) 8 7 ((nS m : Int) + 1)) 2 5 0) 2 6 0 = w5
        have f5 : Fc [13, 14] [(8, 7), (2, 5), (2, 6)] w1 w5 := by
          rw [← hw5]
          exact ((((Fc.pr (by decide)).tr (Fc.pr (by decide))).tr (Fc.pf (by decide))).tr (Fc.pf (by decide))).tr (Fc.pf (by decide))
        have F : Fc [13, 14] [(8, 7), (2, 5), (2, 6), (2, 10), (2, 11)] w w5 := (f1.mo (by decide) (by decide)).tr (f5.mo (by decide) (by decide))
        generalize hm2 : wu (wu (wu m 70 (nS m) y.1) 71 (nS m) (y.2 : Int)) 67 3 ((nS m : Int) + 1) = m2
        have e67 : ∀ k, k ≠ 3 → m2 67 k = m 67 k := fun k hk => by rw [← hm2, wu_nk _ _ hk, wu_na _ _ (by decide), wu_na _ _ (by decide)]
        have er : ∀ a, a ≠ 67 → a ≠ 70 → a ≠ 71 → m2 a = m a := fun a h1 h2 h3 => by funext k; rw [← hm2, wu_na _ _ h1, wu_na _ _ h3, wu_na _ _ h2]
        have n0 : nP m2 = nP m := by unfold nP; rw [e67 0 (by decide)]
        have n6 : nR m2 = nR m := by unfold nR; rw [e67 6 (by decide)]
        have n12 : nE m2 = nE m := by unfold nE; rw [e67 12 (by decide)]
        have n3 : nS m2 = nS m + 1 := by
          show (m2 67 3).toNat = _
          rw [← hm2]
          show ((nS m : Int) + 1).toNat = _
          omega
        have epm : pm m2 = pm m := by
          funext a k
          unfold pm
          by_cases h9 : (a = 67 ∧ (k = 0 ∨ k = 6)) ∨ a = 68 ∨ a = 69 ∨ (72 ≤ a ∧ a ≤ 76)
          · rw [if_pos h9, if_pos h9]
            by_cases ha : a = 67
            · subst ha; exact e67 k (by omega)
            · rw [er a ha (by omega) (by omega)]
          · rw [if_neg h9, if_neg h9]
        obtain ⟨⟨hT, hA, hS⟩, ⟨hC, hN⟩, ⟨hX, hH⟩, hK, hL, hD⟩ := h
        have T4 : TC (wu (wu (wu w1 13 (nS m) y.1) 14 (nS m) (2 * (y.2 : Int))) 8 7 ((nS m : Int) + 1)) tx := T1.fr rfl rfl rfl
        refine ⟨w5, t, rfl, rfl, F.up (by decide) (by decide), ⟨⟨by rw [← hw5]; exact T4.nil, ?_, ⟨?_, fun i hi => ?_⟩⟩, ⟨?_, ?_⟩, ⟨?_, ?_⟩, hK.fc F (by decide) (by decide), hL.fc F (by decide) (by decide), (hD.mm epm).fc F (by decide) (by decide)⟩⟩
        · have := hA.fc F (by decide) (by decide)
          unfold AC byU byL insB at *
          rw [e67 0 (by decide), er 68 (by decide) (by decide) (by decide), er 69 (by decide) (by decide) (by decide), n0]
          exact this
        · rw [← hw5, ← hm2]
          rfl
        · rw [n3] at hi
          by_cases h9 : i = nS m
          · rw [← hw5, ← hm2, h9]
            simp [wu]
          · have := hS1.2 i (by omega)
            rw [← hw5, ← hm2]
            simp only [wu, h9, and_false, if_false]
            simp
            exact this
        · have := hC.fc F (by decide) (by decide)
          unfold RC farB nearB behB at *
          rw [e67 6 (by decide), n6, er 72 (by decide) (by decide) (by decide), er 73 (by decide) (by decide) (by decide), er 74 (by decide) (by decide) (by decide), er 75 (by decide) (by decide) (by decide), er 76 (by decide) (by decide) (by decide)]
          exact this
        · have := hN.fc F (by decide) (by decide)
          unfold LN insB ff nf bf mu ba at *
          rw [n0, n6, er 68 (by decide) (by decide) (by decide), er 72 (by decide) (by decide) (by decide), er 73 (by decide) (by decide) (by decide), er 74 (by decide) (by decide) (by decide), er 75 (by decide) (by decide) (by decide), er 76 (by decide) (by decide) (by decide)]
          exact this
        · have := hX.fc F (by decide) (by decide)
          unfold XC fmN at *
          rw [e67 12 (by decide), n12, er 77 (by decide) (by decide) (by decide), er 78 (by decide) (by decide) (by decide), er 79 (by decide) (by decide) (by decide), er 80 (by decide) (by decide) (by decide)]
          exact this
        · have := hH.fc F (by decide) (by decide)
          exact ⟨this.1, fun c n hc hn => this.2.1 c n hc (Cn_mm (e67 12 (by decide)) (fun a h1 h2 => er a (by omega) (by omega) (by omega)) hn), this.2.2⟩
      · rw [if_pos (by omega), if_pos (by omega)]
        exact AnC.clr h f1 T1 (by decide) (by decide) hK1 hL1
    · rw [w32_id z2] at h0
      rw [if_neg (fun h9 => h0 (z1.mpr h9)), if_neg (fun h9 => h0 (z1.mpr h9))]
      exact AnC.clr h f1 T1 (by decide) (by decide) hK1 hL1

