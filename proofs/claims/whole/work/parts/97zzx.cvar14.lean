/-! The class: unlike spellings: the call. -/

theorem g_cspg {d : Nat} {Q : Option aV → aS → Prop} {w : eW} {t : eT} {m : eW} {b : Nat × Nat} {tx : List Int} {γC : Type} {PRC : γC → eW → eT → Prop} {POC : γC → eW → eT → Int → eW → eT → Prop} (hrC : ∀ (g : γC) (w : eW) (t : eT), PRC g  w t → Cl (d + 43) 91 [rA 58] (enc w t) (fun r S2 => ∃ x w2 t2, r = some (0, x) ∧ S2 = enc w2 t2 ∧ POC g  w t x w2 t2)) (h : (TC w tx ∧ w 2 6 = 0 ∧ (0 : Int) ≤ 6 ∧ (6 : Int) ≤ 6) ∧ (∀ x1 w2, (torP tx w (lsR tx (6 : Int).toNat) x1 w2) → ((w32 x1 = 0 → Q (some (0, (-21) - (w2 2 6))) (enc (wu (wu w2 2 5 0) 2 6 0) t)) ∧ (¬ (w32 x1 = 0) → ((LN w2 m ∧ RC w2 m ∧ WFp m ∧ WFr m) ∧ DynQ w2 t b m) ∧ (∀ w3 t4, (Lo w2 w3 ∧ DynQ w3 t4 b m ∧ w3 37 8 = 0) → ∃ g5, (PRC g5  w3 t4) ∧ (∀ x6 w7 t8, (POC g5  w3 t4 x6 w7 t8) → Q (some (0, x6)) (enc (wu (wu w7 2 5 0) 2 6 0) t8))))))) : Cl (d + 45) 150 [rA 1] (enc w t) Q := by
  show Ev (d + 45) 150 Q 0 [rA 1, (9, 0)] [] (enc w t)
  refine e_lda (v := 1) (show am_cd 150 0 = (2, 1, 0, 2, []) by decide +kernel) rfl ?_
  refine e_getr (a := 1) (r := 2) (show am_cd 150 1 = (18, 4, 1100, 2, [12]) by decide +kernel) (by decide +kernel) (by decide +kernel) rfl ?_
  refine e_ic (show am_cd 150 4 = (0, 6, 1, 6, []) by decide +kernel) ?_
  refine e_cV (z := 0) (a := 2) (as := [(0, 6)]) (rest := []) (show am_cd 150 6 = (40, 9, 87, 0, [198]) by decide +kernel) (by decide +kernel) rfl rfl (Nat.le_of_ble_eq_true rfl) rfl ?_
  refine Cl.mono (Cl.up (c_torU (d := d) h.1) (by omega)) ?_
  rintro _ _ ⟨x1, w2, rfl, rfl, hp⟩
  refine ⟨fun _ h9 => (by cases h9), ?_⟩
  replace h := h.2 x1 w2 hp
  show Ev _ 150 _ 9 [rA 1, (9, 0)] [(0, x1)] _
  refine e_if0 (show am_cd 150 9 = (10, 12, 19, 0, []) by decide +kernel) (fun hc => ?_) (fun hc => ?_)
  · replace h := h.1 hc
    refine e_lda (v := 1) (show am_cd 150 19 = (2, 20, 0, 2, []) by decide +kernel) rfl ?_
    refine e_cV (z := 0) (a := 1) (as := []) (rest := []) (show am_cd 150 20 = (40, 23, 126, 0, [124]) by decide +kernel) (by decide +kernel) rfl rfl (Nat.le_of_ble_eq_true rfl) rfl ?_
    show Ev _ 126 _ 0 [rA 1] [] _
    refine e_ic (show am_cd 126 0 = (0, 2, 1, -21, []) by decide +kernel) ?_
    refine e_lda (v := 1) (show am_cd 126 2 = (2, 3, 0, 2, []) by decide +kernel) rfl ?_
    refine e_getr (a := 1) (r := 2) (show am_cd 126 3 = (18, 6, 1100, 2, [12]) by decide +kernel) (by decide +kernel) (by decide +kernel) rfl ?_
    refine e_getf (a := 2) (tg := 0) (show am_cd 126 6 = (18, 9, 806, 0, [146]) by decide +kernel) (by decide +kernel) (by decide +kernel) rfl ?_
    refine e_isub (show am_cd 126 9 = (5, 10, 1, 0, []) by decide +kernel) ?_
    refine e_reti (show am_cd 126 10 = (36, 11, 0, 0, []) by decide +kernel) (by decide +kernel) ⟨fun _ h9 => (by cases h9), ?_⟩
    show Ev _ 150 _ 23 [rA 1, (9, 0)] [(0, (-21) - (w2 2 6))] _
    refine e_sti (la2 := [rA 1, (0, (-21) - (w2 2 6))]) (show am_cd 150 23 = (3, 24, 1, 0, []) by decide +kernel) rfl ?_
    refine e_lda (v := 1) (show am_cd 150 24 = (2, 25, 0, 2, []) by decide +kernel) rfl ?_
    refine e_getr (a := 1) (r := 2) (show am_cd 150 25 = (18, 28, 1100, 2, [12]) by decide +kernel) (by decide +kernel) (by decide +kernel) rfl ?_
    refine e_cV (z := 0) (a := 2) (as := []) (rest := []) (show am_cd 150 28 = (40, 31, 79, 0, [117]) by decide +kernel) (by decide +kernel) rfl rfl (Nat.le_of_ble_eq_true rfl) rfl ?_
    show Ev _ 79 _ 0 [rA 2] [] _
    refine e_lda (v := 2) (show am_cd 79 0 = (2, 1, 0, 2, []) by decide +kernel) rfl ?_
    refine e_ic (show am_cd 79 1 = (0, 2, 0, 0, []) by decide +kernel) ?_
    refine e_putf (a := 2) (show am_cd 79 2 = (19, 5, 805, 0, [27]) by decide +kernel) (by decide +kernel) (by decide +kernel) rfl (fun h9 => absurd h9 (by decide)) (fun h9 => absurd h9 (by decide +kernel)) ?_
    refine e_lda (v := 2) (show am_cd 79 5 = (2, 6, 0, 2, []) by decide +kernel) rfl ?_
    refine e_ic (show am_cd 79 6 = (0, 7, 0, 0, []) by decide +kernel) ?_
    refine e_putf (a := 2) (show am_cd 79 7 = (19, 10, 806, 0, [31]) by decide +kernel) (by decide +kernel) (by decide +kernel) rfl (fun h9 => absurd h9 (by decide)) (fun h9 => absurd h9 (by decide +kernel)) ?_
    refine e_retv (show am_cd 79 10 = (36, 11, 3, 0, []) by decide +kernel) (by decide +kernel) ⟨fun _ h9 => (by cases h9), ?_⟩
    show Ev _ 150 _ 31 [rA 1, (0, (-21) - (w2 2 6))] [] _
    refine e_ldi (show am_cd 150 31 = (2, 32, 1, 0, []) by decide +kernel) rfl ?_
    exact e_reti (show am_cd 150 32 = (36, 33, 0, 0, []) by decide +kernel) (by decide +kernel) h
  · replace h := h.2 hc
    refine e_lda (v := 1) (show am_cd 150 12 = (2, 13, 0, 2, []) by decide +kernel) rfl ?_
    refine e_cV (z := 0) (a := 1) (as := []) (rest := []) (show am_cd 150 13 = (40, 16, 151, 0, [303]) by decide +kernel) (by decide +kernel) rfl rfl (Nat.le_of_ble_eq_true rfl) rfl ?_
    show Ev _ 151 _ 0 [rA 1] [] _
    refine e_lda (v := 1) (show am_cd 151 0 = (2, 1, 0, 2, []) by decide +kernel) rfl ?_
    refine e_cV (z := 0) (a := 1) (as := []) (rest := []) (show am_cd 151 1 = (40, 4, 138, 0, [255]) by decide +kernel) (by decide +kernel) rfl rfl (Nat.le_of_ble_eq_true rfl) rfl ?_
    refine Cl.mono (Cl.up (c_prep (m := m) (b := b) (d := d) h.1) (by omega)) ?_
    rintro _ _ ⟨w3, t4, rfl, rfl, hp⟩
    refine ⟨fun _ h9 => (by cases h9), ?_⟩
    replace h := h.2 w3 t4 hp
    show Ev _ 151 _ 4 [rA 1] [] _
    refine e_lda (v := 1) (show am_cd 151 4 = (2, 5, 0, 2, []) by decide +kernel) rfl ?_
    refine e_getr (a := 1) (r := 58) (show am_cd 151 5 = (18, 8, 1109, 2, [81]) by decide +kernel) (by decide +kernel) (by decide +kernel) rfl ?_
    refine e_cV (z := 0) (a := 58) (as := []) (rest := []) (show am_cd 151 8 = (40, 11, 91, 0, [306]) by decide +kernel) (by decide +kernel) rfl rfl (Nat.le_of_ble_eq_true rfl) rfl ?_
    obtain ⟨g5, h⟩ := h
    refine Cl.mono (Cl.up (hrC g5  _ _ h.1) (by omega)) ?_
    rintro _ _ ⟨x6, w7, t8, rfl, rfl, hp⟩
    refine ⟨fun _ h9 => (by cases h9), ?_⟩
    replace h := h.2 x6 w7 t8 hp
    show Ev _ 151 _ 11 [rA 1] [(0, x6)] _
    refine e_reti (show am_cd 151 11 = (36, 12, 0, 0, []) by decide +kernel) (by decide +kernel) ⟨fun _ h9 => (by cases h9), ?_⟩
    show Ev _ 150 _ 16 [rA 1, (9, 0)] [(0, x6)] _
    refine e_go (show am_cd 150 16 = (12, 23, 0, 0, []) by decide +kernel) ?_
    refine e_sti (la2 := [rA 1, (0, x6)]) (show am_cd 150 23 = (3, 24, 1, 0, []) by decide +kernel) rfl ?_
    refine e_lda (v := 1) (show am_cd 150 24 = (2, 25, 0, 2, []) by decide +kernel) rfl ?_
    refine e_getr (a := 1) (r := 2) (show am_cd 150 25 = (18, 28, 1100, 2, [12]) by decide +kernel) (by decide +kernel) (by decide +kernel) rfl ?_
    refine e_cV (z := 0) (a := 2) (as := []) (rest := []) (show am_cd 150 28 = (40, 31, 79, 0, [117]) by decide +kernel) (by decide +kernel) rfl rfl (Nat.le_of_ble_eq_true rfl) rfl ?_
    show Ev _ 79 _ 0 [rA 2] [] _
    refine e_lda (v := 2) (show am_cd 79 0 = (2, 1, 0, 2, []) by decide +kernel) rfl ?_
    refine e_ic (show am_cd 79 1 = (0, 2, 0, 0, []) by decide +kernel) ?_
    refine e_putf (a := 2) (show am_cd 79 2 = (19, 5, 805, 0, [27]) by decide +kernel) (by decide +kernel) (by decide +kernel) rfl (fun h9 => absurd h9 (by decide)) (fun h9 => absurd h9 (by decide +kernel)) ?_
    refine e_lda (v := 2) (show am_cd 79 5 = (2, 6, 0, 2, []) by decide +kernel) rfl ?_
    refine e_ic (show am_cd 79 6 = (0, 7, 0, 0, []) by decide +kernel) ?_
    refine e_putf (a := 2) (show am_cd 79 7 = (19, 10, 806, 0, [31]) by decide +kernel) (by decide +kernel) (by decide +kernel) rfl (fun h9 => absurd h9 (by decide)) (fun h9 => absurd h9 (by decide +kernel)) ?_
    refine e_retv (show am_cd 79 10 = (36, 11, 3, 0, []) by decide +kernel) (by decide +kernel) ⟨fun _ h9 => (by cases h9), ?_⟩
    show Ev _ 150 _ 31 [rA 1, (0, x6)] [] _
    refine e_ldi (show am_cd 150 31 = (2, 32, 1, 0, []) by decide +kernel) rfl ?_
    exact e_reti (show am_cd 150 32 = (36, 33, 0, 0, []) by decide +kernel) (by decide +kernel) h

theorem c_cal {d : Nat} {m : eW} (hp : WFp m) (hr : WFr m) {l : List Int} (hl : LtO l) {w : eW} {t : eT} {b : Nat × Nat} (hT : TlL w m l) (hD : DynQ w t b m) (h0 : w 37 8 = 0) (hb : b.2 + 1 < 1000000000) : Cl (d + 41) 91 [rA 58] (enc w t) (fun r S2 => ∃ x w2 t2, r = some (0, x) ∧ S2 = enc w2 t2 ∧ (∃ c : Nat, Cnt 6 (TS m l []) c ∧ x = min (c : Int) 201) ∧ DynQ w2 t2 (b.1, b.2 + 1) m ∧ ∀ a, a < 37 ∨ (47 < a ∧ a < 101) → a ≠ 58 → a ≠ 59 → a ≠ 60 → w2 a = w a) := by
  obtain ⟨c1, c2, c3, hKD⟩ := wc_beg (Pm := flP m l (mN w) (mK w)) hD h0 hb (w1 := w) (fun _ _ => rfl)
  have hHi : Hi (clW w) (wu (wu (clW w) 58 6 0) 60 0 0) := fun a ha => by rw [wu_row (by omega), wu_row (by omega)]
  have c4 := WCx.base c1 hHi
  have hNl := c4.rg.2.2.2
  have lo1 : ∀ a, a < 37 ∨ (47 < a ∧ a < 101) → a ≠ 58 → a ≠ 59 → a ≠ 60 → wu (wu (clW w) 58 6 0) 60 0 0 a = w a := fun a ha h1 _ h2 => by rw [wu_row h2, wu_row h1, c3 a (by omega)]
  have e586 : (wu (wu (clW w) 58 6 0) 60 0 0) 58 6 = 0 := by rw [wu_na _ _ (by decide), wu_eq]
  have e600 : (wu (wu (clW w) 58 6 0) 60 0 0) 60 0 = 0 := wu_eq _ _ _ _
  have hw1 : wu (wu (wu (wu w 45 2 (w 45 2 + 1)) 45 3 0) 58 6 0) 60 0 0 = wu (wu (clW w) 58 6 0) 60 0 0 := rfl
  generalize hN : mN w = N at *
  generalize hKY : mK w = KY at *
  have hG := room hp hl hNl hKD (n := 0) (σ := [])
  have hT1 : TlL (wu (wu (clW w) 58 6 0) 60 0 0) m l := ⟨hT.1.lo9 (fun a h1 h2 => lo1 a (by omega) (by omega) (by omega) (by omega)), by rw [lo1 2 (by omega) (by omega) (by omega) (by omega)]; exact hT.2.1, fun i hi => by rw [lo1 6 (by omega) (by omega) (by omega) (by omega)]; exact hT.2.2 i hi⟩
  obtain ⟨s0, hs1, hs2, hs3⟩ : ∃ s : Nat, s < N ∧ (0 : Int) = (s : Int) ∧ KY s = ((kyG m (16, 16, 16) : Nat) : Int) := by
    rcases c2 with ⟨h9, _⟩ | h9
    · omega
    · exact h9
  have es0 : s0 = 0 := by omega
  subst es0
  generalize hwb : wu (wu (clW w) 58 6 0) 60 0 0 = wb at *
  refine g_cal (m := m) (l := l) (b := b) (fun γ a1 a2 a3 w t h => (c_vput (d := d) hp hr hl hT1 (b := (b.1, b.2 + 1)) (N := N) (KY := KY) γ a1 a2 a3 w t h).up (by omega)) (γS := List Nat) (PRS := fun L nn w t => nn = ((0 : Nat) : Int) ∧ WCx m (flP m l N KY) wb (b.1, b.2 + 1) N KY w t ∧ SpS w 0 (GV m l N KY 0 (Rch m l [])) L) (POS := fun L nn w' t' w2 t2 => AsO m l wb (b.1, b.2 + 1) N KY 0 (GV m l N KY 0 (Rch m l [])) L w' w2 t2) (fun L nn w t h => ?_) (fun γ nn w t h => (c_go (d := d) hp hr hl hT1 (b := (b.1, b.2 + 1)) hNl hKD 6 γ nn w t h).up (by omega)) ?_
  · obtain ⟨rfl, h1, h2⟩ := h
    refine (c_ads (d := d) hp hr hl hT1 (by omega) (fun i g p r1 r2 r3 => ?_) hG h1 h2).up (by omega)
    have := r1.s hp r2 r3
    obtain ⟨q1, _⟩ := bit_p hp hl r2 r3.1
    have h27 : m 69 p = 27 := by
      have h9 := r3.2
      rw [(by_t hp q1).2.1] at h9
      exact of_decide_eq_true h9
    rw [if_pos h27] at this
    exact this
  · rw [hw1]
    have hA0 : spA m l 0 (16, 16, 16) := ⟨Nat.zero_le _, tri_start m⟩
    refine ⟨(0, (16, 16, 16), GV m l N KY 0 (Rch m l []), []), ⟨⟨hA0, rfl, c2⟩, c4, by omega, hG, ⟨⟨List.nodup_nil, fun c hc => by cases hc⟩, e600, fun k hk => absurd hk (Nat.not_lt_zero k)⟩, fun s h1 h2 h3 => ?_⟩, ?_⟩
    · have : s = 0 := by omega
      subst this
      exact ⟨0, 0, (16, 16, 16), h2, hs3, hA0, rfl, ⟨[], rfl, rfl⟩, h3⟩
    · rintro w2 t3 ⟨b1, b2, M, b3, _, b5⟩
      have b2 : VFr 0 wb w2 := b2
      have b3 : SpS w2 0 (GV m l N KY 0 (Rch m l [])) ([] ++ M) := b3
      have b5 : ∀ s : Nat, (0 : Int) = (s : Int) → 0 + fwl m l 0 (16, 16, 16) ≤ 6 → s * 7 + 0 ∈ [] ++ M := b5
      refine ⟨[] ++ M, ⟨rfl, b1, b3⟩, ?_⟩
      rintro w5 t6 ⟨d1, d2, M2, d3, d4⟩
      have hcom : Com m l N KY [] ([] ++ M ++ M2) := com_0 hp hl d4 (fun h9 => ⟨0, hs1, hs3, List.mem_append_left _ (b5 0 rfl (by omega))⟩)
      have e58 : w5 58 6 = 0 := by rw [d2.1 58 (by omega) (by omega) (by omega), b2.1 58 (by omega) (by omega) (by omega)]; exact e586
      refine ⟨([], [] ++ M ++ M2), ⟨rfl, rfl, d1, ⟨d3, hcom⟩, by omega, by omega⟩, ?_⟩
      rintro w8 t9 ⟨f1, f2, c, f3, f4⟩
      replace f2 : GFr 0 w5 w8 := f2
      refine ⟨_, w8, t9, rfl, rfl, ⟨c, f3, by rw [f4, e58]; omega⟩, f1.2.1.1, fun a ha h1 h2 h3 => ?_⟩
      rw [f2.1 a ha h1 h2 h3, d2.1 a ha h2 h3, b2.1 a ha h2 h3, lo1 a ha h1 h2 h3]
theorem k_spellings {d : Nat} {w : eW} {t : eT} {b : Nat × Nat} {m : eW} {ks : kT} {rl tl : List Int} (h : CI w t b m ks rl tl) (hp : WFp m) (hr : WFr m) (hb : b.2 + 1 < 1000000000) : Cl (d + 45) 150 [rA 1] (enc w t) (AnC w m (b.1, b.2 + 1) ks rl [] (0, spellingsV tl m)) := by
  have hDQ := DynP_Q.mp h.2.2.2.2.2
  refine g_cspg (m := m) (b := b) (tx := tl) (γC := List Int) (PRC := fun l w t => LtO l ∧ TlL w m l ∧ DynQ w t b m ∧ w 37 8 = 0) (POC := fun l w t x w2 t2 => (∃ c : Nat, Cnt 6 (TS m l []) c ∧ x = min (c : Int) 201) ∧ DynQ w2 t2 (b.1, b.2 + 1) m ∧ ∀ a, a < 37 ∨ (47 < a ∧ a < 101) → a ≠ 58 → a ≠ 59 → a ≠ 60 → w2 a = w a) (fun l w t h => (c_cal (d := d) hp hr h.1 h.2.1 h.2.2.1 h.2.2.2 hb).up (by omega)) ⟨⟨h.1.1.1, h.1.1.2, by decide, by decide⟩, fun x1 w2 hw2 => ?_⟩
  obtain ⟨f1, T1, q1⟩ := hw2
  rw [show (6 : Int).toNat = 6 from rfl] at q1
  unfold spellingsV
  cases hP : lsR tl 6 with
  | error q =>
    rw [hP] at q1
    obtain ⟨rfl, e6⟩ := q1
    refine ⟨fun _ => ?_, fun h9 => absurd (by decide +kernel) h9⟩
    rw [e6]
    obtain ⟨w3, t3, e1, e2, e3, e4⟩ := AnC.clr (v := (0, -21 - (q : Int))) h f1 T1 (by decide) (by decide) (h.2.2.2.1.fc f1 (by decide) (by decide)) (h.2.2.2.2.1.fc f1 (by decide) (by decide))
    exact ⟨w3, t3, e1, e2, e3, e4.le (Nat.le_succ _)⟩
  | ok l =>
    rw [hP] at q1
    obtain ⟨rfl, e8, L6, hl1, hv1⟩ := q1
    have hl : LtO l := ⟨hl1, hv1⟩
    have hA1 : AC w2 m := h.1.2.1.fc f1 (by decide) (by decide)
    have hD1 : DynQ w2 t b m := hDQ.hi (f1.hi (by decide) (by decide))
    refine ⟨fun h9 => absurd h9 (by decide +kernel), fun _ => ⟨⟨⟨h.2.1.2.fc f1 (by decide) (by decide), h.2.1.1.fc f1 (by decide) (by decide), hp, hr⟩, hD1⟩, ?_⟩⟩
    rintro w3 t4 ⟨lo, hD3, h0⟩
    refine ⟨l, ⟨hl, ⟨hA1.lo9 (fun a h1 h2 => lo a (by omega)), by rw [lo 2 (by omega)]; exact e8, fun i hi => by rw [lo 6 (by omega)]; exact L6 i hi⟩, hD3, h0⟩, ?_⟩
    rintro x6 w7 t8 ⟨⟨c, k1, rfl⟩, hD7, lo7⟩
    have hv : min (c : Int) 201 = ((splL tl m l).length : Int) := by rw [spl_eq hp hl tl k1]; omega
    rw [hv]
    -- what is left
    have lo8 : ∀ a, a < 37 ∨ (47 < a ∧ a < 101) → a ≠ 58 → a ≠ 59 → a ≠ 60 → w7 a = w2 a := fun a ha h1 h2 h3 => by rw [lo7 a ha h1 h2 h3, lo a ha]
    have T7 : TC w7 tl := by unfold TC TI; rw [lo8 2 (by omega) (by omega) (by omega) (by omega), lo8 3 (by omega) (by omega) (by omega) (by omega)]; exact T1
    have fz : Fc [] [(2, 5), (2, 6)] w7 (wu (wu w7 2 5 0) 2 6 0) := Fc.clr (by decide) (by decide)
    have l1 : LoK w w2 := f1.lok (by decide) (by decide)
    have l2 : LoK w2 w7 := fun a ha hk _ _ _ h58 _ _ => by
      have h59 : a ≠ 59 := fun h9 => by rw [h9] at hk; exact absurd hk (by decide)
      have h60 : a ≠ 60 := fun h9 => by rw [h9] at hk; exact absurd hk (by decide)
      exact lo8 a ha h58 h59 h60
    have l3 : LoK w7 (wu (wu w7 2 5 0) 2 6 0) := fz.lok (by decide) (by decide)
    have Tl2 : TlC w2 rl := h.2.2.2.2.1.fc f1 (by decide) (by decide)
    have Tl7 : TlC w7 rl := by unfold TlC; rw [lo8 1 (by omega) (by omega) (by omega) (by omega), lo8 66 (by omega) (by omega) (by omega) (by omega)]; exact Tl2
    have K2 : KC w2 ks := h.2.2.2.1.fc f1 (by decide) (by decide)
    refine ⟨_, t8, rfl, rfl, fun a h1 h2 => ?_, h.lok ((l1.tr l2).tr l3) (hD7.hi (fz.hi (by decide) (by decide))) T7.nil (K2.cg (fun a h1 h2 => by rw [wu_row (by omega), wu_row (by omega), lo8 a (by omega) (by omega) (by omega) (by omega)])) (Tl7.fc fz (by decide) (by decide))⟩
    rw [wu_row (by omega), wu_row (by omega), lo8 a (by omega) (by omega) (by omega) (by omega)]
    exact f1.up (by decide) (by decide) a h1 h2

