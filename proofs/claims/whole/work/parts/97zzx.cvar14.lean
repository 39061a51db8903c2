/-! The class: unlike spellings: the call. -/

theorem g_cspg {d : Nat} {Q : Option aV → aS → Prop} {w : eW} {t : eT} {m : eW} {b : Nat × Nat} {tx : List Int} {γC : Type} {PRC : γC → eW → eT → Prop} {POC : γC → eW → eT → Int → eW → eT → Prop} (hrC : ∀ (g : γC) (w : eW) (t : eT), PRC g  w t → Cl (d + 41) 91 [rA 58] (enc w t) (fun r S2 => ∃ x w2 t2, r = some (0, x) ∧ S2 = enc w2 t2 ∧ POC g  w t x w2 t2)) (h : ((LN w m ∧ RC w m ∧ WFp m ∧ WFr m) ∧ DynQ w t b m) ∧ (∀ w1 t2, (Lo w w1 ∧ DynQ w1 t2 b m ∧ w1 37 8 = 0) → (TC w1 tx ∧ w1 2 6 = 0 ∧ (0 : Int) ≤ 6 ∧ (6 : Int) ≤ 6) ∧ (∀ x3 w4, (torP tx w1 (lsR tx (6 : Int).toNat) x3 w4) → ((w32 x3 = 0 → Q (some (0, (-21) - (w4 2 6))) (enc (wu (wu w4 2 5 0) 2 6 0) t2)) ∧ (¬ (w32 x3 = 0) → ∃ g5, (PRC g5  w4 t2) ∧ (∀ x6 w7 t8, (POC g5  w4 t2 x6 w7 t8) → Q (some (0, x6)) (enc (wu (wu w7 2 5 0) 2 6 0) t8))))))) : Cl (d + 45) 150 [rA 1] (enc w t) Q := by
  show Ev (d + 45) 150 Q 0 [rA 1, (9, 0)] [] (enc w t)
  refine e_lda (v := 1) (show am_cd 150 0 = (2, 1, 0, 2, []) by decide +kernel) rfl ?_
  refine e_cV (z := 0) (a := 1) (as := []) (rest := []) (show am_cd 150 1 = (40, 4, 138, 0, [255]) by decide +kernel) (by decide +kernel) rfl rfl (Nat.le_of_ble_eq_true rfl) rfl ?_
  refine Cl.mono (Cl.up (c_prep (m := m) (b := b) (d := d) h.1) (by omega)) ?_
  rintro _ _ ⟨w1, t2, rfl, rfl, hp⟩
  refine ⟨fun _ h9 => (by cases h9), ?_⟩
  replace h := h.2 w1 t2 hp
  show Ev _ 150 _ 4 [rA 1, (9, 0)] [] _
  refine e_lda (v := 1) (show am_cd 150 4 = (2, 5, 0, 2, []) by decide +kernel) rfl ?_
  refine e_getr (a := 1) (r := 2) (show am_cd 150 5 = (18, 8, 1100, 2, [12]) by decide +kernel) (by decide +kernel) (by decide +kernel) rfl ?_
  refine e_ic (show am_cd 150 8 = (0, 10, 1, 6, []) by decide +kernel) ?_
  refine e_cV (z := 0) (a := 2) (as := [(0, 6)]) (rest := []) (show am_cd 150 10 = (40, 13, 87, 0, [198]) by decide +kernel) (by decide +kernel) rfl rfl (Nat.le_of_ble_eq_true rfl) rfl ?_
  refine Cl.mono (Cl.up (c_torU (d := d) h.1) (by omega)) ?_
  rintro _ _ ⟨x3, w4, rfl, rfl, hp⟩
  refine ⟨fun _ h9 => (by cases h9), ?_⟩
  replace h := h.2 x3 w4 hp
  show Ev _ 150 _ 13 [rA 1, (9, 0)] [(0, x3)] _
  refine e_if0 (show am_cd 150 13 = (10, 16, 26, 0, []) by decide +kernel) (fun hc => ?_) (fun hc => ?_)
  · replace h := h.1 hc
    refine e_lda (v := 1) (show am_cd 150 26 = (2, 27, 0, 2, []) by decide +kernel) rfl ?_
    refine e_cV (z := 0) (a := 1) (as := []) (rest := []) (show am_cd 150 27 = (40, 30, 126, 0, [124]) by decide +kernel) (by decide +kernel) rfl rfl (Nat.le_of_ble_eq_true rfl) rfl ?_
    show Ev _ 126 _ 0 [rA 1] [] _
    refine e_ic (show am_cd 126 0 = (0, 2, 1, -21, []) by decide +kernel) ?_
    refine e_lda (v := 1) (show am_cd 126 2 = (2, 3, 0, 2, []) by decide +kernel) rfl ?_
    refine e_getr (a := 1) (r := 2) (show am_cd 126 3 = (18, 6, 1100, 2, [12]) by decide +kernel) (by decide +kernel) (by decide +kernel) rfl ?_
    refine e_getf (a := 2) (tg := 0) (show am_cd 126 6 = (18, 9, 806, 0, [146]) by decide +kernel) (by decide +kernel) (by decide +kernel) rfl ?_
    refine e_isub (show am_cd 126 9 = (5, 10, 1, 0, []) by decide +kernel) ?_
    refine e_reti (show am_cd 126 10 = (36, 11, 0, 0, []) by decide +kernel) (by decide +kernel) ⟨fun _ h9 => (by cases h9), ?_⟩
    show Ev _ 150 _ 30 [rA 1, (9, 0)] [(0, (-21) - (w4 2 6))] _
    refine e_sti (la2 := [rA 1, (0, (-21) - (w4 2 6))]) (show am_cd 150 30 = (3, 31, 1, 0, []) by decide +kernel) rfl ?_
    refine e_lda (v := 1) (show am_cd 150 31 = (2, 32, 0, 2, []) by decide +kernel) rfl ?_
    refine e_getr (a := 1) (r := 2) (show am_cd 150 32 = (18, 35, 1100, 2, [12]) by decide +kernel) (by decide +kernel) (by decide +kernel) rfl ?_
    refine e_cV (z := 0) (a := 2) (as := []) (rest := []) (show am_cd 150 35 = (40, 38, 79, 0, [117]) by decide +kernel) (by decide +kernel) rfl rfl (Nat.le_of_ble_eq_true rfl) rfl ?_
    show Ev _ 79 _ 0 [rA 2] [] _
    refine e_lda (v := 2) (show am_cd 79 0 = (2, 1, 0, 2, []) by decide +kernel) rfl ?_
    refine e_ic (show am_cd 79 1 = (0, 2, 0, 0, []) by decide +kernel) ?_
    refine e_putf (a := 2) (show am_cd 79 2 = (19, 5, 805, 0, [27]) by decide +kernel) (by decide +kernel) (by decide +kernel) rfl (fun h9 => absurd h9 (by decide)) (fun h9 => absurd h9 (by decide +kernel)) ?_
    refine e_lda (v := 2) (show am_cd 79 5 = (2, 6, 0, 2, []) by decide +kernel) rfl ?_
    refine e_ic (show am_cd 79 6 = (0, 7, 0, 0, []) by decide +kernel) ?_
    refine e_putf (a := 2) (show am_cd 79 7 = (19, 10, 806, 0, [31]) by decide +kernel) (by decide +kernel) (by decide +kernel) rfl (fun h9 => absurd h9 (by decide)) (fun h9 => absurd h9 (by decide +kernel)) ?_
    refine e_retv (show am_cd 79 10 = (36, 11, 3, 0, []) by decide +kernel) (by decide +kernel) ⟨fun _ h9 => (by cases h9), ?_⟩
    show Ev _ 150 _ 38 [rA 1, (0, (-21) - (w4 2 6))] [] _
    refine e_ldi (show am_cd 150 38 = (2, 39, 1, 0, []) by decide +kernel) rfl ?_
    exact e_reti (show am_cd 150 39 = (36, 40, 0, 0, []) by decide +kernel) (by decide +kernel) h
  · replace h := h.2 hc
    refine e_lda (v := 1) (show am_cd 150 16 = (2, 17, 0, 2, []) by decide +kernel) rfl ?_
    refine e_getr (a := 1) (r := 58) (show am_cd 150 17 = (18, 20, 1109, 2, [81]) by decide +kernel) (by decide +kernel) (by decide +kernel) rfl ?_
    refine e_cV (z := 0) (a := 58) (as := []) (rest := []) (show am_cd 150 20 = (40, 23, 91, 0, [300]) by decide +kernel) (by decide +kernel) rfl rfl (Nat.le_of_ble_eq_true rfl) rfl ?_
    obtain ⟨g5, h⟩ := h
    refine Cl.mono (Cl.up (hrC g5  _ _ h.1) (by omega)) ?_
    rintro _ _ ⟨x6, w7, t8, rfl, rfl, hp⟩
    refine ⟨fun _ h9 => (by cases h9), ?_⟩
    replace h := h.2 x6 w7 t8 hp
    show Ev _ 150 _ 23 [rA 1, (9, 0)] [(0, x6)] _
    refine e_go (show am_cd 150 23 = (12, 30, 0, 0, []) by decide +kernel) ?_
    refine e_sti (la2 := [rA 1, (0, x6)]) (show am_cd 150 30 = (3, 31, 1, 0, []) by decide +kernel) rfl ?_
    refine e_lda (v := 1) (show am_cd 150 31 = (2, 32, 0, 2, []) by decide +kernel) rfl ?_
    refine e_getr (a := 1) (r := 2) (show am_cd 150 32 = (18, 35, 1100, 2, [12]) by decide +kernel) (by decide +kernel) (by decide +kernel) rfl ?_
    refine e_cV (z := 0) (a := 2) (as := []) (rest := []) (show am_cd 150 35 = (40, 38, 79, 0, [117]) by decide +kernel) (by decide +kernel) rfl rfl (Nat.le_of_ble_eq_true rfl) rfl ?_
    show Ev _ 79 _ 0 [rA 2] [] _
    refine e_lda (v := 2) (show am_cd 79 0 = (2, 1, 0, 2, []) by decide +kernel) rfl ?_
    refine e_ic (show am_cd 79 1 = (0, 2, 0, 0, []) by decide +kernel) ?_
    refine e_putf (a := 2) (show am_cd 79 2 = (19, 5, 805, 0, [27]) by decide +kernel) (by decide +kernel) (by decide +kernel) rfl (fun h9 => absurd h9 (by decide)) (fun h9 => absurd h9 (by decide +kernel)) ?_
    refine e_lda (v := 2) (show am_cd 79 5 = (2, 6, 0, 2, []) by decide +kernel) rfl ?_
    refine e_ic (show am_cd 79 6 = (0, 7, 0, 0, []) by decide +kernel) ?_
    refine e_putf (a := 2) (show am_cd 79 7 = (19, 10, 806, 0, [31]) by decide +kernel) (by decide +kernel) (by decide +kernel) rfl (fun h9 => absurd h9 (by decide)) (fun h9 => absurd h9 (by decide +kernel)) ?_
    refine e_retv (show am_cd 79 10 = (36, 11, 3, 0, []) by decide +kernel) (by decide +kernel) ⟨fun _ h9 => (by cases h9), ?_⟩
    show Ev _ 150 _ 38 [rA 1, (0, x6)] [] _
    refine e_ldi (show am_cd 150 38 = (2, 39, 1, 0, []) by decide +kernel) rfl ?_
    exact e_reti (show am_cd 150 39 = (36, 40, 0, 0, []) by decide +kernel) (by decide +kernel) h

/-- of all spots to which a row leads it is noted how few letters go on -/
theorem nt_all {m : eW} (hp : WFp m) (hr : WFr m) {l : List Int} (hl : LtO l) {w0 : eW} {b : Nat × Nat} {N : Nat} {KY : Nat → Int} {w : eW} {t : eT} {S : List Nat} (hc : WCx m (flP m l N KY) w0 b N KY w t) (hCl : ClB m l N KY S) (h0 : 0 < N ∧ KY 0 = ((kyG m (16, 16, 16) : Nat) : Int)) (hS0 : 0 * 7 + 0 ∈ S) : ∀ (x : List Nat) (i : Nat) (g : t3), RcR m l x = some (i, g) → (x = [] ∨ ¬ mfG m g = 0) → ∃ s, s < N ∧ KY s = ((kyG m g : Nat) : Int) ∧ s * 7 + i ∈ S := by
  intro x
  induction x with
  | nil => intro i g h _; cases h; exact ⟨0, h0.1, h0.2, hS0⟩
  | cons p u ih =>
    intro i g h hh
    obtain ⟨i', g', b1, b2, b3, rfl, rfl⟩ := RcR_c h
    have hmf : ¬ mfG m (gN g' p) = 0 := by
      rcases hh with h9 | h9
      · cases h9
      · exact h9
    have h7 := b3
    rw [Nat.testBit_and] at h7
    obtain ⟨_, h6⟩ := Bool.and_eq_true_iff.mp h7
    obtain ⟨s', s1, s2, s3⟩ := ih i' g' b1 (Or.inr (fun h9 => by rw [h9, Nat.zero_testBit] at h6; cases h6))
    rcases WCx_arc2 hr hc s1 s2 b2 h6 with ⟨_, y⟩ | ⟨_, s4, y1, y2, y3⟩
    · exact absurd y hmf
    · exact ⟨s4, y1, y3, hCl s' i' g' s3 s1 (RcR_A hp hl u i' g' b1) s2 p b2 b3 hmf s4 y1 y3⟩
theorem c_cal {d : Nat} {m : eW} (hp : WFp m) (hr : WFr m) {l : List Int} (hl : LtO l) {w : eW} {t : eT} {b : Nat × Nat} (hT : TlL w m l) (hD : DynQ w t b m) (h0 : w 37 8 = 0) (hb : b.2 + 1 < 1000000000) : Cl (d + 41) 91 [rA 58] (enc w t) (fun r S2 => ∃ x w2 t2, r = some (0, x) ∧ S2 = enc w2 t2 ∧ (∃ c : Nat, Cnt 6 (TS m l []) c ∧ x = min (c : Int) 201) ∧ DynQ w2 t2 (b.1, b.2 + 1) m ∧ ∀ a, a < 37 ∨ (47 < a ∧ a < 102) → a ≠ 58 → a ≠ 59 → a ≠ 60 → w2 a = w a) := by
  obtain ⟨c1, c2, c3, hKD⟩ := wc_beg (Pm := flP m l (mN w) (mK w)) hD h0 hb (w1 := w) (fun _ _ => rfl)
  have hB0 : Bk (mN w) (clW w) t [] := bk_clr hD
  have hNl := c1.rg.2.2.2
  generalize hN : mN w = N at *
  generalize hKY : mK w = KY at *
  have hG := room hp hl hNl hKD (n := 0) (σ := [])
  have hT1 : TlL (clW w) m l := ⟨hT.1.lo9 (fun a h1 h2 => c3 a (by omega)), by rw [c3 2 (by omega)]; exact hT.2.1, fun i hi => by rw [c3 6 (by omega)]; exact hT.2.2 i hi⟩
  obtain ⟨s0, hs1, hs2, hs3⟩ : ∃ s : Nat, s < N ∧ (0 : Int) = (s : Int) ∧ KY s = ((kyG m (16, 16, 16) : Nat) : Int) := by
    rcases c2 with ⟨h9, _⟩ | h9
    · omega
    · exact h9
  have es0 : s0 = 0 := by omega
  subst es0
  have hA0 : spA m l 0 (16, 16, 16) := ⟨Nat.zero_le _, tri_start m⟩
  have hμ : spM m l 0 (16, 16, 16) ≤ 13 := mW_le hl.1.2
  have hw1 : wu (wu w 45 2 (w 45 2 + 1)) 45 3 0 = clW w := rfl
  generalize hwb : clW w = wb at *
  refine g_cal (m := m) (l := l) (b := b) (PRF := FlR m l wb (b.1, b.2 + 1) N KY 14) (POF := FlO m l (b.1, b.2 + 1) N KY) (PRU := PuR m l wb (b.1, b.2 + 1) N KY) (POU := PuO m l wb (b.1, b.2 + 1) N KY) (PRG := GoR m l wb (b.1, b.2 + 1) N KY 6) (POG := GoO m l wb (b.1, b.2 + 1) N KY 6) (fun γ a1 a2 a3 w t h => (c_fl (d := d) hp hr hl hT1 (b := (b.1, b.2 + 1)) (N := N) (KY := KY) hKD 14 γ a1 a2 a3 w t h).up (by omega)) (fun γ a1 a2 a3 w t h => (c_vput (d := d) hl (w0 := wb) (b := (b.1, b.2 + 1)) (N := N) (KY := KY) γ a1 a2 a3 w t h).up (by omega)) (fun γ nn w t h => (c_go (d := d) hp hr hl hT1 (b := (b.1, b.2 + 1)) hNl hKD 6 γ nn w t h).up (by omega)) ?_
  rw [hw1]
  refine ⟨(0, (16, 16, 16), []), ⟨hA0, rfl, c2, by show spM m l 0 (16, 16, 16) < 14; omega, by show (0 : Int) ≤ 0 ∧ (0 : Int) + (spM m l 0 (16, 16, 16) : Int) ≤ 13; omega, c1, hB0, fun s i g h9 => by cases h9⟩, ?_⟩
  rintro x2 w3 t4 ⟨_, m1, m2, S, b1, b2, _, b4⟩
  replace b4 : ∀ s : Nat, (0 : Int) = (s : Int) → s * 7 + 0 ∈ S := b4
  have c4 := c1.mr m1 m2
  have hnt : NtA m l N KY w3 t4 := fun i s g ⟨x, hx⟩ hmf hs hk => by
    obtain ⟨s', z1, z2, z3⟩ := nt_all hp hr hl c4 b2 ⟨hs1, hs3⟩ (b4 0 rfl) x i g hx (Or.inr hmf)
    have es : s = s' := hKD s s' hs z1 (by rw [hk, z2])
    rw [es]
    exact b1.2.2.2.1 _ z3
  have e4 : ∀ a, a ≠ 58 → a ≠ 59 → a ≠ 60 → wu (wu w3 58 6 0) 60 0 0 a = w3 a := fun a h1 _ h3 => by rw [wu_row h3, wu_row h1]
  have hcn : WCn m l wb (b.1, b.2 + 1) N KY (wu (wu w3 58 6 0) 60 0 0) t4 := WCn.v ⟨c4, hnt⟩ e4
  have e586 : (wu (wu w3 58 6 0) 60 0 0) 58 6 = 0 := by rw [wu_na _ _ (by decide), wu_eq]
  have e600 : (wu (wu w3 58 6 0) 60 0 0) 60 0 = 0 := wu_eq _ _ _ _
  refine ⟨(0, (16, 16, 16), GV m l N KY 0 (Rch m l []), []), ⟨⟨hA0, rfl, c2, fun s h1 => ?_⟩, hcn, by omega, hG, ⟨⟨List.nodup_nil, fun c hc => by cases hc⟩, e600, fun k hk => absurd hk (Nat.not_lt_zero k)⟩, fun s h1 h2 h3 => ?_⟩, ?_⟩
  · rw [fnd_v c4.2.1.1 e4]
    exact b1.2.2.2.1 _ (b4 s h1)
  · have : s = 0 := by omega
    subst this
    exact ⟨0, 0, (16, 16, 16), h2, hs3, hA0, rfl, ⟨[], rfl, rfl⟩, h3⟩
  · rintro w6 t7 ⟨d1, d2, M, d3, _, d5⟩
    have d2 : VFr 0 (wu (wu w3 58 6 0) 60 0 0) w6 := d2
    have d3 : SpS w6 0 (GV m l N KY 0 (Rch m l [])) ([] ++ M) := d3
    have d5 : ∀ s : Nat, (0 : Int) = (s : Int) → 0 + fwl m l 0 (16, 16, 16) ≤ 6 → s * 7 + 0 ∈ [] ++ M := d5
    have hpre : PreC m l N KY [] ([] ++ M) := fun M2 hcl => com_0 hp hl hcl (fun h9 => ⟨0, hs1, hs3, List.mem_append_left _ (d5 0 rfl (by omega))⟩)
    have e58 : w6 58 6 = 0 := by rw [d2.1 58 (by omega) (by omega) (by omega)]; exact e586
    refine ⟨([], [] ++ M), ⟨rfl, rfl, d1, ⟨d3, hpre⟩, by omega, by omega⟩, ?_⟩
    rintro w9 t10 ⟨f1, f2, c, f3, f4⟩
    replace f2 : GFr 0 w6 w9 := f2
    refine ⟨_, w9, t10, rfl, rfl, ⟨c, f3, by rw [f4, e58]; omega⟩, f1.1.2.1.1, fun a ha h1 h2 h3 => ?_⟩
    rw [f2.1 a ha h1 h2 h3, d2.1 a ha h2 h3, e4 a h1 h2 h3, m1.2.1 a ha, c3 a (by omega)]
theorem k_spellings {d : Nat} {w : eW} {t : eT} {b : Nat × Nat} {m : eW} {ks : kT} {rl tl : List Int} (h : CI w t b m ks rl tl) (hp : WFp m) (hr : WFr m) (hb : b.2 + 1 < 1000000000) : Cl (d + 45) 150 [rA 1] (enc w t) (AnC w m (b.1, b.2 + 1) ks rl [] (0, spellingsV tl m)) := by
  have hDQ := DynP_Q.mp h.2.2.2.2.2
  refine g_cspg (m := m) (b := b) (tx := tl) (γC := List Int) (PRC := fun l w t => LtO l ∧ TlL w m l ∧ DynQ w t b m ∧ w 37 8 = 0) (POC := fun l w t x w2 t2 => (∃ c : Nat, Cnt 6 (TS m l []) c ∧ x = min (c : Int) 201) ∧ DynQ w2 t2 (b.1, b.2 + 1) m ∧ ∀ a, a < 37 ∨ (47 < a ∧ a < 102) → a ≠ 58 → a ≠ 59 → a ≠ 60 → w2 a = w a) (fun l w t h => c_cal (d := d) hp hr h.1 h.2.1 h.2.2.1 h.2.2.2 hb) ⟨⟨⟨h.2.1.2, h.2.1.1, hp, hr⟩, hDQ⟩, ?_⟩
  rintro w1 t2 ⟨lo, hD1, h0⟩
  have T0 : TC w1 tl := h.1.1.1.lo lo
  have e26 : w1 2 6 = 0 := by rw [lo 2 (by omega)]; exact h.1.1.2
  have hI1 : CI w1 t2 b m ks rl tl := h.lok lo.lok hD1 ⟨T0, e26⟩ (h.2.2.2.1.lo lo) (h.2.2.2.2.1.lo lo)
  refine ⟨⟨T0, e26, by decide, by decide⟩, fun x3 w4 hw4 => ?_⟩
  obtain ⟨f1, T1, q1⟩ := hw4
  rw [show (6 : Int).toNat = 6 from rfl] at q1
  unfold spellingsV
  cases hP : lsR tl 6 with
  | error q =>
    rw [hP] at q1
    obtain ⟨rfl, e6⟩ := q1
    refine ⟨fun _ => ?_, fun h9 => absurd (by decide +kernel) h9⟩
    rw [e6]
    obtain ⟨w3, t3, e1, e2, e3, e4⟩ := AnC.clr (v := (0, -21 - (q : Int))) hI1 f1 T1 (by decide) (by decide) (hI1.2.2.2.1.fc f1 (by decide) (by decide)) (hI1.2.2.2.2.1.fc f1 (by decide) (by decide))
    exact ⟨w3, t3, e1, e2, fun a h1 h2 => by rw [e3 a h1 h2, lo a (by omega)], e4.le (Nat.le_succ _)⟩
  | ok l =>
    rw [hP] at q1
    obtain ⟨rfl, e8, L6, hl1, hv1⟩ := q1
    have hl : LtO l := ⟨hl1, hv1⟩
    have hA4 : AC w4 m := hI1.1.2.1.fc f1 (by decide) (by decide)
    have hD4 : DynQ w4 t2 b m := hD1.hi (f1.hi (by decide) (by decide))
    have h04 : w4 37 8 = 0 := by rw [f1 37 8 (by decide) (by decide)]; exact h0
    refine ⟨fun h9 => absurd h9 (by decide +kernel), fun _ => ⟨l, ⟨hl, ⟨hA4, e8, L6⟩, hD4, h04⟩, ?_⟩⟩
    rintro x6 w7 t8 ⟨⟨c, k1, rfl⟩, hD7, lo8⟩
    have hv : min (c : Int) 201 = ((splL tl m l).length : Int) := by rw [spl_eq hp hl tl k1]; omega
    rw [hv]
    -- what is left
    have T7 : TC w7 tl := by unfold TC TI; rw [lo8 2 (by omega) (by omega) (by omega) (by omega), lo8 3 (by omega) (by omega) (by omega) (by omega)]; exact T1
    have fz : Fc [] [(2, 5), (2, 6)] w7 (wu (wu w7 2 5 0) 2 6 0) := Fc.clr (by decide) (by decide)
    have l1 : LoK w1 w4 := f1.lok (by decide) (by decide)
    have l2 : LoK w4 w7 := fun a ha hk _ _ _ h58 _ _ => by
      have h59 : a ≠ 59 := fun h9 => by rw [h9] at hk; exact absurd hk (by decide)
      have h60 : a ≠ 60 := fun h9 => by rw [h9] at hk; exact absurd hk (by decide)
      exact lo8 a ha h58 h59 h60
    have l3 : LoK w7 (wu (wu w7 2 5 0) 2 6 0) := fz.lok (by decide) (by decide)
    have Tl2 : TlC w4 rl := hI1.2.2.2.2.1.fc f1 (by decide) (by decide)
    have Tl7 : TlC w7 rl := by unfold TlC; rw [lo8 1 (by omega) (by omega) (by omega) (by omega), lo8 66 (by omega) (by omega) (by omega) (by omega)]; exact Tl2
    have K2 : KC w4 ks := hI1.2.2.2.1.fc f1 (by decide) (by decide)
    refine ⟨_, t8, rfl, rfl, fun a h1 h2 => ?_, hI1.lok ((l1.tr l2).tr l3) (hD7.hi (fz.hi (by decide) (by decide))) T7.nil (K2.cg (fun a h1 h2 => by rw [wu_row (by omega), wu_row (by omega), lo8 a (by omega) (by omega) (by omega) (by omega)])) (Tl7.fc fz (by decide) (by decide))⟩
    rw [wu_row (by omega), wu_row (by omega), lo8 a (by omega) (by omega) (by omega) (by omega), f1.up (by decide) (by decide) a h1 h2]
    exact lo a (by omega)
