/-! The model: what holds between two calls; a call that reads the text begins; pairs. -/
def MI (w m : eW) (ks : kT) (rl tx : List Int) : Prop := MX w m ∧ WFs m ∧ MGs w m ∧ KM w ks ∧ RowM w rl ∧ TxM w tx ∧ w 67 35 = -1
theorem KM.m {R F : List Nat} {w w2 : eW} {ks : kT} (h : KM w ks) (hf : Fm R F w w2) (hR : ∀ a ∈ R, a < 81 ∨ 84 < a) (hF : 17 ∉ F) : KM w2 ks := h.fr (hf.2 17 hF) (fun a h1 h2 => hf.1 a (by omega) (fun h9 => by have := hR a h9; omega))
theorem RowM.m {R F : List Nat} {w w2 : eW} {rl : List Int} (h : RowM w rl) (hf : Fm R F w w2) (hR : 86 ∉ R) (hF : 25 ∉ F) : RowM w2 rl := h.fr (hf.2 25 hF) (hf.1 86 (by decide) hR)
theorem TxM.nil {w : eW} (h : w 67 23 = 0) : TxM w [] := ⟨h, by decide, fun b hb => (by cases hb), fun i hi => (by cases hi)⟩
/-- how a call that reads the text begins -/
def bgW (w : eW) : eW := wu (wu (wu (wu (wu w 67 26 0) 67 27 (w 67 23)) 67 23 0) 67 28 0) 67 29 (-1)
theorem bgW_s {w : eW} {tx : List Int} (h : TxM w tx) : Px (bgW w) tx ∧ stW (bgW w) = .ok 0 ∧ Fm [] [23, 26, 27, 28, 29] w (bgW w) ∧ bgW w 67 26 = 0 ∧ bgW w 67 23 = 0 ∧ bgW w 67 27 = (tx.length : Int) := by
  have e29 : bgW w 67 29 = -1 := by unfold bgW; rw [wu_eq]
  have e28 : bgW w 67 28 = 0 := by unfold bgW; rw [wu_nk _ _ (by decide), wu_eq]
  have e23 : bgW w 67 23 = 0 := by unfold bgW; rw [wu_nk _ _ (by decide), wu_nk _ _ (by decide), wu_eq]
  have e27 : bgW w 67 27 = w 67 23 := by unfold bgW; rw [wu_nk _ _ (by decide), wu_nk _ _ (by decide), wu_nk _ _ (by decide), wu_eq]
  have e26 : bgW w 67 26 = 0 := by unfold bgW; rw [wu_nk _ _ (by decide), wu_nk _ _ (by decide), wu_nk _ _ (by decide), wu_nk _ _ (by decide), wu_eq]
  have fr : Fm [] [23, 26, 27, 28, 29] w (bgW w) := by
    unfold bgW
    exact ((((Fm.pf (by decide)).tr (Fm.pf (by decide))).tr (Fm.pf (by decide))).tr (Fm.pf (by decide))).tr (Fm.pf (by decide))
  refine ⟨⟨by rw [e27]; exact h.1, h.2.1, h.2.2.1, ?_, by rw [e28]; decide, Or.inl ⟨e29, by rw [e28]; omega⟩⟩, ?_, fr, e26, e23, by rw [e27]; exact h.1⟩
  · rw [fr.1 85 (by decide) (by decide)]
    exact h.2.2.2
  · unfold stW
    rw [if_pos e29, e28]
    rfl
theorem MI.m {R F : List Nat} {w w2 m : eW} {ks : kT} {rl tx : List Int} (h : MI w m ks rl tx) (hf : Fm R F w w2) (hR : ∀ a ∈ R, 86 < a) (hF : ∀ k ∈ F, k = 23 ∨ k = 26 ∨ k = 27 ∨ k = 28 ∨ k = 29 ∨ 37 < k) (h23 : w2 67 23 = 0) : MI w2 m ks rl [] := by
  obtain ⟨h1, h2, h3, h4, h5, h6, h7⟩ := h
  exact ⟨h1.m hf (fun a ha => Or.inr (by have := hR a ha; omega)) (fun k hk => by have := hF k hk; omega), h2, h3.m hf ⟨fun h9 => by have := hR _ h9; omega, fun h9 => by have := hR _ h9; omega⟩ (fun h9 => by have := hF _ h9; omega), h4.m hf (fun a ha => Or.inr (by have := hR a ha; omega)) (fun h9 => by have := hF _ h9; omega), h5.m hf (fun h9 => by have := hR _ h9; omega) (fun h9 => by have := hF _ h9; omega), TxM.nil h23, by rw [hf.2 35 (fun h9 => by have := hF _ h9; omega)]; exact h7⟩
def dupP (l : List (Int × Int)) : Bool := an (fun k => an (fun i => decide (l.getD k (0, 0) = l.getD i (0, 0))) k) l.length
def pairsV (tx : List Int) : Int := match prsA tx with
  | .error q => -21 - (q : Int)
  | .ok l => if dupP l = true then -2 else (l.length : Int)
def pairsK (tx : List Int) (ks : kT) : kT := match prsA tx with
  | .error _ => ks
  | .ok l => if dupP l = true then ks else []
/-- the pairs of a list, and nothing else -/
def prW (m : eW) (l : List (Int × Int)) : eW := fun a j => if a = 68 then (l.getD j (0, 0)).1 else if a = 69 then (l.getD j (0, 0)).2 else if a = 67 then (if j = 0 then (l.length : Int) else if j = 3 ∨ j = 6 ∨ j = 12 then 0 else m a j) else m a j
def pairsM (tx : List Int) (m : eW) : eW := match prsA tx with
  | .error _ => m
  | .ok l => if dupP l = true then m else prW m l
theorem prW_mi {w w2 m : eW} {ks : kT} {rl tx : List Int} {l : List (Int × Int)} (h : MI w m ks rl tx) (hl : l.length ≤ 16) (hok : ∀ x ∈ l, okPr x) (hd : dupP l = false) (hf : Fm [68, 69, 87, 88] [0, 3, 6, 12, 17, 23, 26, 27, 28, 29] w w2) (e0 : w2 67 0 = (l.length : Int)) (e3 : w2 67 3 = 0) (e6 : w2 67 6 = 0) (e12 : w2 67 12 = 0) (e17 : w2 67 17 = 0) (e23 : w2 67 23 = 0) (hp : ∀ i, i < l.length → w2 68 i = (l.getD i (0, 0)).1 ∧ w2 69 i = (l.getD i (0, 0)).2) : MI w2 (prW m l) [] rl [] := by
  obtain ⟨h1, h2, h3, h4, h5, h6, h7⟩ := h
  have n0 : nP (prW m l) = l.length := by show ((l.length : Nat) : Int).toNat = _; omega
  have n3 : nS (prW m l) = 0 := rfl
  have n6 : nR (prW m l) = 0 := rfl
  have n12 : nE (prW m l) = 0 := rfl
  have wfp : WFp (prW m l) := by
    refine ⟨⟨by show (0 : Int) ≤ (l.length : Int); omega, by show (l.length : Int) ≤ 16; omega⟩, fun p hpp => ?_, fun p q hpp hq a1 a2 => ?_⟩
    · rw [n0] at hpp
      have : l.getD p (0, 0) ∈ l := by rw [List.getD_eq_getElem?_getD, List.getElem?_eq_getElem hpp]; exact List.getElem_mem hpp
      exact hok _ this
    · rw [n0] at hpp hq
      have e : l.getD p (0, 0) = l.getD q (0, 0) := Prod.ext a1 a2
      have no : ∀ k i, i < k → k < l.length → l.getD k (0, 0) ≠ l.getD i (0, 0) := by
        intro k i hik hk h9
        have : dupP l = true := an_iff.mpr ⟨k, hk, an_iff.mpr ⟨i, hik, decide_eq_true h9⟩⟩
        rw [hd] at this
        cases this
      rcases Nat.lt_trichotomy p q with h9 | h9 | h9
      · exact absurd e.symm (no q p h9 hq)
      · exact h9
      · exact absurd e (no p q h9 hpp)
  refine ⟨⟨⟨wfp, ⟨⟨by show (0 : Int) ≤ 0; decide, by show (0 : Int) ≤ 8; decide⟩, fun r hr => by rw [n6] at hr; cases hr⟩, ⟨e0, fun p hpp => ?_⟩, ⟨e6, fun r hr => by rw [n6] at hr; cases hr⟩⟩, ⟨⟨by show (0 : Int) ≤ 0; decide, by show (0 : Int) ≤ 16; decide⟩, fun r hr => by rw [n12] at hr; cases hr⟩, ⟨e12, fun r hr => by rw [n12] at hr; cases hr⟩⟩, ⟨⟨by show (0 : Int) ≤ 0; decide, by show (0 : Int) ≤ 4; decide⟩, fun r hr => by rw [n3] at hr; cases hr⟩, ⟨e3, fun r hr => by rw [n3] at hr; cases hr⟩, KM.nil e17, h5.m hf (by decide) (by decide), TxM.nil e23, by rw [hf.2 35 (by decide)]; exact h7⟩
  rw [n0] at hpp
  exact hp p hpp

theorem g_mpairs0 {d : Nat} {Q : Option aV → aS → Prop} {w : eW} {t : eT} {tx : List Int} (h : (Px (wu (wu (wu (wu (wu w 67 26 0) 67 27 (w 67 23)) 67 23 0) 67 28 0) 67 29 (-1)) tx ∧ stW (wu (wu (wu (wu (wu w 67 26 0) 67 27 (w 67 23)) 67 23 0) 67 28 0) 67 29 (-1)) = .ok 0) ∧ (∀ x1 w2, (RdQ tx (wu (wu (wu (wu (wu w 67 26 0) 67 27 (w 67 23)) 67 23 0) 67 28 0) 67 29 (-1)) (prsA tx) x1 w2) → ((w32 (w2 67 29) = w32 (-1) → Ev (d + 5) 184 Q 29 [rA 67, (0, x1), (0, 0), (9, 0)] [] (enc w2 t)) ∧ (¬ (w32 (w2 67 29) = w32 (-1)) → Q (some (0, (-21) - (w2 67 29))) (enc w2 t))))) : Cl (d + 5) 184 [rA 67] (enc w t) Q := by
  show Ev (d + 5) 184 Q 0 [rA 67, (9, 0), (9, 0), (9, 0)] [] (enc w t)
  refine e_lda (v := 67) (show am_cd 184 0 = (2, 1, 0, 2, []) by decide +kernel) rfl ?_
  refine e_ic (show am_cd 184 1 = (0, 2, 0, 0, []) by decide +kernel) ?_
  refine e_putf (a := 67) (show am_cd 184 2 = (19, 5, 1226, 0, [113]) by decide +kernel) (by decide +kernel) (by decide +kernel) rfl (fun h9 => absurd h9 (by decide)) (fun h9 => absurd h9 (by decide +kernel)) ?_
  refine e_lda (v := 67) (show am_cd 184 5 = (2, 6, 0, 2, []) by decide +kernel) rfl ?_
  refine e_cV (z := 0) (a := 67) (as := []) (rest := []) (show am_cd 184 6 = (40, 9, 170, 0, [171]) by decide +kernel) (by decide +kernel) rfl rfl (Nat.le_of_ble_eq_true rfl) rfl ?_
  show Ev _ 170 _ 0 [rA 67] [] _
  refine e_lda (v := 67) (show am_cd 170 0 = (2, 1, 0, 2, []) by decide +kernel) rfl ?_
  refine e_lda (v := 67) (show am_cd 170 1 = (2, 2, 0, 2, []) by decide +kernel) rfl ?_
  refine e_getfE (a := 67) (tg := 0) (v := w 67 23) (show am_cd 170 2 = (18, 5, 1223, 0, [119]) by decide +kernel) (by decide +kernel) (by decide +kernel) rfl rfl ?_
  refine e_putf (a := 67) (show am_cd 170 5 = (19, 8, 1227, 0, [126]) by decide +kernel) (by decide +kernel) (by decide +kernel) rfl (fun h9 => absurd h9 (by decide)) (fun h9 => absurd h9 (by decide +kernel)) ?_
  refine e_lda (v := 67) (show am_cd 170 8 = (2, 9, 0, 2, []) by decide +kernel) rfl ?_
  refine e_ic (show am_cd 170 9 = (0, 10, 0, 0, []) by decide +kernel) ?_
  refine e_putf (a := 67) (show am_cd 170 10 = (19, 13, 1223, 0, [119]) by decide +kernel) (by decide +kernel) (by decide +kernel) rfl (fun h9 => absurd h9 (by decide)) (fun h9 => absurd h9 (by decide +kernel)) ?_
  refine e_lda (v := 67) (show am_cd 170 13 = (2, 14, 0, 2, []) by decide +kernel) rfl ?_
  refine e_ic (show am_cd 170 14 = (0, 15, 0, 0, []) by decide +kernel) ?_
  refine e_putf (a := 67) (show am_cd 170 15 = (19, 18, 1228, 0, [129]) by decide +kernel) (by decide +kernel) (by decide +kernel) rfl (fun h9 => absurd h9 (by decide)) (fun h9 => absurd h9 (by decide +kernel)) ?_
  refine e_lda (v := 67) (show am_cd 170 18 = (2, 19, 0, 2, []) by decide +kernel) rfl ?_
  refine e_ic (show am_cd 170 19 = (0, 20, 0, -1, []) by decide +kernel) ?_
  refine e_putf (a := 67) (show am_cd 170 20 = (19, 23, 1229, 0, [132]) by decide +kernel) (by decide +kernel) (by decide +kernel) rfl (fun h9 => absurd h9 (by decide)) (fun h9 => absurd h9 (by decide +kernel)) ?_
  refine e_retv (show am_cd 170 23 = (36, 24, 3, 0, []) by decide +kernel) (by decide +kernel) ⟨fun _ h9 => (by cases h9), ?_⟩
  show Ev _ 184 _ 9 [rA 67, (9, 0), (9, 0), (9, 0)] [] _
  refine e_lda (v := 67) (show am_cd 184 9 = (2, 10, 0, 2, []) by decide +kernel) rfl ?_
  refine e_cV (z := 0) (a := 67) (as := []) (rest := []) (show am_cd 184 10 = (40, 13, 182, 0, [174]) by decide +kernel) (by decide +kernel) rfl rfl (Nat.le_of_ble_eq_true rfl) rfl ?_
  refine Cl.mono (Cl.up (c_readPairs (d := d) h.1) (by omega)) ?_
  rintro _ _ ⟨x1, w2, rfl, rfl, hp⟩
  refine ⟨fun _ h9 => (by cases h9), ?_⟩
  replace h := h.2 x1 w2 hp
  show Ev _ 184 _ 13 [rA 67, (9, 0), (9, 0), (9, 0)] [(0, x1)] _
  refine e_sti (la2 := [rA 67, (0, x1), (9, 0), (9, 0)]) (show am_cd 184 13 = (3, 14, 1, 0, []) by decide +kernel) rfl ?_
  refine e_lda (v := 67) (show am_cd 184 14 = (2, 15, 0, 2, []) by decide +kernel) rfl ?_
  refine e_getf (a := 67) (tg := 0) (show am_cd 184 15 = (18, 18, 1229, 0, [132]) by decide +kernel) (by decide +kernel) (by decide +kernel) rfl ?_
  refine e_ic (show am_cd 184 18 = (0, 19, 0, -1, []) by decide +kernel) ?_
  refine e_cmp0 (show am_cd 184 19 = (11, 22, 27, 0, []) by decide +kernel) (fun hc => ?_) (fun hc => ?_)
  · replace h := h.1 hc
    refine e_ic (show am_cd 184 27 = (0, 28, 0, 0, []) by decide +kernel) ?_
    refine e_sti (la2 := [rA 67, (0, x1), (0, 0), (9, 0)]) (show am_cd 184 28 = (3, 29, 2, 0, []) by decide +kernel) rfl ?_
    exact h
  · replace h := h.2 hc
    refine e_lda (v := 67) (show am_cd 184 22 = (2, 23, 0, 2, []) by decide +kernel) rfl ?_
    refine e_cV (z := 0) (a := 67) (as := []) (rest := []) (show am_cd 184 23 = (40, 26, 173, 0, [177]) by decide +kernel) (by decide +kernel) rfl rfl (Nat.le_of_ble_eq_true rfl) rfl ?_
    show Ev _ 173 _ 0 [rA 67] [] _
    refine e_ic (show am_cd 173 0 = (0, 2, 1, -21, []) by decide +kernel) ?_
    refine e_lda (v := 67) (show am_cd 173 2 = (2, 3, 0, 2, []) by decide +kernel) rfl ?_
    refine e_getf (a := 67) (tg := 0) (show am_cd 173 3 = (18, 6, 1229, 0, [132]) by decide +kernel) (by decide +kernel) (by decide +kernel) rfl ?_
    refine e_isub (show am_cd 173 6 = (5, 7, 1, 0, []) by decide +kernel) ?_
    refine e_reti (show am_cd 173 7 = (36, 8, 0, 0, []) by decide +kernel) (by decide +kernel) ⟨fun _ h9 => (by cases h9), ?_⟩
    show Ev _ 184 _ 26 [rA 67, (0, x1), (9, 0), (9, 0)] [(0, (-21) - (w2 67 29))] _
    exact e_reti (show am_cd 184 26 = (36, 27, 0, 0, []) by decide +kernel) (by decide +kernel) h

theorem g_mpairs1 {d : Nat} {Q : Option aV → aS → Prop} {w : eW} {t : eT} {n k : Int} {J3 : aV} (h : ((w32 n ≤ w32 k → Ev (d + 5) 184 Q 88 [rA 67, (0, n), (0, 0), J3] [] (enc w t)) ∧ (¬ (w32 n ≤ w32 k) → Ev (d + 5) 184 Q 36 [rA 67, (0, n), (0, k), (0, 0)] [] (enc w t)))) : Ev (d + 5) 184 Q 29 [rA 67, (0, n), (0, k), J3] [] (enc w t) := by
  refine e_ldi (show am_cd 184 29 = (2, 30, 2, 0, []) by decide +kernel) rfl ?_
  refine e_ldi (show am_cd 184 30 = (2, 31, 1, 0, []) by decide +kernel) rfl ?_
  refine e_cmp3 (show am_cd 184 31 = (11, 34, 86, 3, []) by decide +kernel) (fun hc => ?_) (fun hc => ?_)
  · replace h := h.1 hc
    refine e_ic (show am_cd 184 86 = (0, 87, 0, 0, []) by decide +kernel) ?_
    refine e_sti (la2 := [rA 67, (0, n), (0, 0), J3]) (show am_cd 184 87 = (3, 88, 2, 0, []) by decide +kernel) rfl ?_
    exact h
  · replace h := h.2 hc
    refine e_ic (show am_cd 184 34 = (0, 35, 0, 0, []) by decide +kernel) ?_
    refine e_sti (la2 := [rA 67, (0, n), (0, k), (0, 0)]) (show am_cd 184 35 = (3, 36, 3, 0, []) by decide +kernel) rfl ?_
    exact h

theorem g_mpairs2 {d : Nat} {Q : Option aV → aS → Prop} {w : eW} {t : eT} {n k i : Int} (h : ((w32 k ≤ w32 i → Ev (d + 5) 184 Q 29 [rA 67, (0, n), (0, k + 1), (0, i)] [] (enc w t)) ∧ (¬ (w32 k ≤ w32 i) → (0 ≤ w32 k ∧ w32 k < 16) ∧ (0 ≤ w32 i ∧ w32 i < 16) ∧ ((¬ w32 (w 87 (w32 k).toNat) = w32 (w 87 (w32 i).toNat) → Ev (d + 5) 184 Q 36 [rA 67, (0, n), (0, k), (0, i + 1)] [] (enc w t)) ∧ (¬ (¬ w32 (w 87 (w32 k).toNat) = w32 (w 87 (w32 i).toNat)) → (0 ≤ w32 k ∧ w32 k < 16) ∧ (0 ≤ w32 i ∧ w32 i < 16) ∧ ((¬ w32 (w 88 (w32 k).toNat) = w32 (w 88 (w32 i).toNat) → Ev (d + 5) 184 Q 36 [rA 67, (0, n), (0, k), (0, i + 1)] [] (enc w t)) ∧ (¬ (¬ w32 (w 88 (w32 k).toNat) = w32 (w 88 (w32 i).toNat)) → Q (some (0, (-2))) (enc w t)))))))) : Ev (d + 5) 184 Q 36 [rA 67, (0, n), (0, k), (0, i)] [] (enc w t) := by
  refine e_ldi (show am_cd 184 36 = (2, 37, 3, 0, []) by decide +kernel) rfl ?_
  refine e_ldi (show am_cd 184 37 = (2, 38, 2, 0, []) by decide +kernel) rfl ?_
  refine e_cmp3 (show am_cd 184 38 = (11, 41, 80, 3, []) by decide +kernel) (fun hc => ?_) (fun hc => ?_)
  · replace h := h.1 hc
    refine e_inc (la2 := [rA 67, (0, n), (0, k + 1), (0, i)]) (show am_cd 184 80 = (4, 83, 2, 1, []) by decide +kernel) rfl rfl ?_
    refine e_go (show am_cd 184 83 = (12, 29, 0, 0, []) by decide +kernel) ?_
    exact h
  · replace h := h.2 hc
    refine e_lda (v := 67) (show am_cd 184 41 = (2, 42, 0, 2, []) by decide +kernel) rfl ?_
    refine e_getr (a := 67) (r := 87) (show am_cd 184 42 = (18, 45, 1230, 2, [69]) by decide +kernel) (by decide +kernel) (by decide +kernel) rfl ?_
    refine e_ldi (show am_cd 184 45 = (2, 46, 2, 0, []) by decide +kernel) rfl ?_
    refine e_iald (a := 87) (n := 16) (show am_cd 184 46 = (21, 47, 0, 0, []) by decide +kernel) (by decide +kernel) (by decide +kernel) (by decide +kernel) h.1 ?_
    replace h := h.2
    refine e_lda (v := 67) (show am_cd 184 47 = (2, 48, 0, 2, []) by decide +kernel) rfl ?_
    refine e_getr (a := 67) (r := 87) (show am_cd 184 48 = (18, 51, 1230, 2, [69]) by decide +kernel) (by decide +kernel) (by decide +kernel) rfl ?_
    refine e_ldi (show am_cd 184 51 = (2, 52, 3, 0, []) by decide +kernel) rfl ?_
    refine e_iald (a := 87) (n := 16) (show am_cd 184 52 = (21, 53, 0, 0, []) by decide +kernel) (by decide +kernel) (by decide +kernel) (by decide +kernel) h.1 ?_
    replace h := h.2
    refine e_cmp1 (show am_cd 184 53 = (11, 56, 74, 1, []) by decide +kernel) (fun hc => ?_) (fun hc => ?_)
    · replace h := h.1 hc
      refine e_inc (la2 := [rA 67, (0, n), (0, k), (0, i + 1)]) (show am_cd 184 74 = (4, 77, 3, 1, []) by decide +kernel) rfl rfl ?_
      refine e_go (show am_cd 184 77 = (12, 36, 0, 0, []) by decide +kernel) ?_
      exact h
    · replace h := h.2 hc
      refine e_lda (v := 67) (show am_cd 184 56 = (2, 57, 0, 2, []) by decide +kernel) rfl ?_
      refine e_getr (a := 67) (r := 88) (show am_cd 184 57 = (18, 60, 1231, 2, [72]) by decide +kernel) (by decide +kernel) (by decide +kernel) rfl ?_
      refine e_ldi (show am_cd 184 60 = (2, 61, 2, 0, []) by decide +kernel) rfl ?_
      refine e_iald (a := 88) (n := 16) (show am_cd 184 61 = (21, 62, 0, 0, []) by decide +kernel) (by decide +kernel) (by decide +kernel) (by decide +kernel) h.1 ?_
      replace h := h.2
      refine e_lda (v := 67) (show am_cd 184 62 = (2, 63, 0, 2, []) by decide +kernel) rfl ?_
      refine e_getr (a := 67) (r := 88) (show am_cd 184 63 = (18, 66, 1231, 2, [72]) by decide +kernel) (by decide +kernel) (by decide +kernel) rfl ?_
      refine e_ldi (show am_cd 184 66 = (2, 67, 3, 0, []) by decide +kernel) rfl ?_
      refine e_iald (a := 88) (n := 16) (show am_cd 184 67 = (21, 68, 0, 0, []) by decide +kernel) (by decide +kernel) (by decide +kernel) (by decide +kernel) h.1 ?_
      replace h := h.2
      refine e_cmp1 (show am_cd 184 68 = (11, 71, 74, 1, []) by decide +kernel) (fun hc => ?_) (fun hc => ?_)
      · replace h := h.1 hc
        refine e_inc (la2 := [rA 67, (0, n), (0, k), (0, i + 1)]) (show am_cd 184 74 = (4, 77, 3, 1, []) by decide +kernel) rfl rfl ?_
        refine e_go (show am_cd 184 77 = (12, 36, 0, 0, []) by decide +kernel) ?_
        exact h
      · replace h := h.2 hc
        refine e_ic (show am_cd 184 71 = (0, 73, 1, -2, []) by decide +kernel) ?_
        exact e_reti (show am_cd 184 73 = (36, 74, 0, 0, []) by decide +kernel) (by decide +kernel) h

theorem g_mpairs3 {d : Nat} {Q : Option aV → aS → Prop} {w : eW} {t : eT} {n k : Int} {J3 : aV} (h : ((w32 n ≤ w32 k → Q (some (0, n)) (enc (wu (wu (wu (wu (wu w 67 0 n) 67 3 0) 67 6 0) 67 12 0) 67 17 0) t)) ∧ (¬ (w32 n ≤ w32 k) → (0 ≤ w32 k ∧ w32 k < 16) ∧ (0 ≤ w32 k ∧ w32 k < 16) ∧ (0 ≤ w32 k ∧ w32 k < 16) ∧ (0 ≤ w32 k ∧ w32 k < 16) ∧ (Ev (d + 5) 184 Q 88 [rA 67, (0, n), (0, k + 1), J3] [] (enc (wu (wu w 68 (w32 k).toNat (w 87 (w32 k).toNat)) 69 (w32 k).toNat (w 88 (w32 k).toNat)) t))))) : Ev (d + 5) 184 Q 88 [rA 67, (0, n), (0, k), J3] [] (enc w t) := by
  refine e_ldi (show am_cd 184 88 = (2, 89, 2, 0, []) by decide +kernel) rfl ?_
  refine e_ldi (show am_cd 184 89 = (2, 90, 1, 0, []) by decide +kernel) rfl ?_
  refine e_cmp3 (show am_cd 184 90 = (11, 93, 123, 3, []) by decide +kernel) (fun hc => ?_) (fun hc => ?_)
  · replace h := h.1 hc
    refine e_lda (v := 67) (show am_cd 184 123 = (2, 124, 0, 2, []) by decide +kernel) rfl ?_
    refine e_ldi (show am_cd 184 124 = (2, 125, 1, 0, []) by decide +kernel) rfl ?_
    refine e_putf (a := 67) (show am_cd 184 125 = (19, 128, 1200, 0, [168]) by decide +kernel) (by decide +kernel) (by decide +kernel) rfl (fun h9 => absurd h9 (by decide)) (fun h9 => absurd h9 (by decide +kernel)) ?_
    refine e_lda (v := 67) (show am_cd 184 128 = (2, 129, 0, 2, []) by decide +kernel) rfl ?_
    refine e_ic (show am_cd 184 129 = (0, 130, 0, 0, []) by decide +kernel) ?_
    refine e_putf (a := 67) (show am_cd 184 130 = (19, 133, 1203, 0, [180]) by decide +kernel) (by decide +kernel) (by decide +kernel) rfl (fun h9 => absurd h9 (by decide)) (fun h9 => absurd h9 (by decide +kernel)) ?_
    refine e_lda (v := 67) (show am_cd 184 133 = (2, 134, 0, 2, []) by decide +kernel) rfl ?_
    refine e_ic (show am_cd 184 134 = (0, 135, 0, 0, []) by decide +kernel) ?_
    refine e_putf (a := 67) (show am_cd 184 135 = (19, 138, 1206, 0, [183]) by decide +kernel) (by decide +kernel) (by decide +kernel) rfl (fun h9 => absurd h9 (by decide)) (fun h9 => absurd h9 (by decide +kernel)) ?_
    refine e_lda (v := 67) (show am_cd 184 138 = (2, 139, 0, 2, []) by decide +kernel) rfl ?_
    refine e_ic (show am_cd 184 139 = (0, 140, 0, 0, []) by decide +kernel) ?_
    refine e_putf (a := 67) (show am_cd 184 140 = (19, 143, 1212, 0, [186]) by decide +kernel) (by decide +kernel) (by decide +kernel) rfl (fun h9 => absurd h9 (by decide)) (fun h9 => absurd h9 (by decide +kernel)) ?_
    refine e_lda (v := 67) (show am_cd 184 143 = (2, 144, 0, 2, []) by decide +kernel) rfl ?_
    refine e_ic (show am_cd 184 144 = (0, 145, 0, 0, []) by decide +kernel) ?_
    refine e_putf (a := 67) (show am_cd 184 145 = (19, 148, 1217, 0, [189]) by decide +kernel) (by decide +kernel) (by decide +kernel) rfl (fun h9 => absurd h9 (by decide)) (fun h9 => absurd h9 (by decide +kernel)) ?_
    refine e_ldi (show am_cd 184 148 = (2, 149, 1, 0, []) by decide +kernel) rfl ?_
    exact e_reti (show am_cd 184 149 = (36, 150, 0, 0, []) by decide +kernel) (by decide +kernel) h
  · replace h := h.2 hc
    refine e_lda (v := 67) (show am_cd 184 93 = (2, 94, 0, 2, []) by decide +kernel) rfl ?_
    refine e_getr (a := 67) (r := 68) (show am_cd 184 94 = (18, 97, 1201, 2, [9]) by decide +kernel) (by decide +kernel) (by decide +kernel) rfl ?_
    refine e_ldi (show am_cd 184 97 = (2, 98, 2, 0, []) by decide +kernel) rfl ?_
    refine e_lda (v := 67) (show am_cd 184 98 = (2, 99, 0, 2, []) by decide +kernel) rfl ?_
    refine e_getr (a := 67) (r := 87) (show am_cd 184 99 = (18, 102, 1230, 2, [69]) by decide +kernel) (by decide +kernel) (by decide +kernel) rfl ?_
    refine e_ldi (show am_cd 184 102 = (2, 103, 2, 0, []) by decide +kernel) rfl ?_
    refine e_iald (a := 87) (n := 16) (show am_cd 184 103 = (21, 104, 0, 0, []) by decide +kernel) (by decide +kernel) (by decide +kernel) (by decide +kernel) h.1 ?_
    replace h := h.2
    refine e_iast (a := 68) (n := 16) (show am_cd 184 104 = (24, 105, 0, 0, []) by decide +kernel) (by decide +kernel) (by decide +kernel) (by decide +kernel) h.1 ?_
    replace h := h.2
    refine e_lda (v := 67) (show am_cd 184 105 = (2, 106, 0, 2, []) by decide +kernel) rfl ?_
    refine e_getr (a := 67) (r := 69) (show am_cd 184 106 = (18, 109, 1202, 2, [13]) by decide +kernel) (by decide +kernel) (by decide +kernel) rfl ?_
    refine e_ldi (show am_cd 184 109 = (2, 110, 2, 0, []) by decide +kernel) rfl ?_
    refine e_lda (v := 67) (show am_cd 184 110 = (2, 111, 0, 2, []) by decide +kernel) rfl ?_
    refine e_getr (a := 67) (r := 88) (show am_cd 184 111 = (18, 114, 1231, 2, [72]) by decide +kernel) (by decide +kernel) (by decide +kernel) rfl ?_
    refine e_ldi (show am_cd 184 114 = (2, 115, 2, 0, []) by decide +kernel) rfl ?_
    refine e_ialdE (a := 88) (n := 16) (v := w 88 (w32 k).toNat) (show am_cd 184 115 = (21, 116, 0, 0, []) by decide +kernel) (by decide +kernel) (by decide +kernel) (by decide +kernel) h.1 rfl ?_
    replace h := h.2
    refine e_iast (a := 69) (n := 16) (show am_cd 184 116 = (24, 117, 0, 0, []) by decide +kernel) (by decide +kernel) (by decide +kernel) (by decide +kernel) h.1 ?_
    replace h := h.2
    refine e_inc (la2 := [rA 67, (0, n), (0, k + 1), J3]) (show am_cd 184 117 = (4, 120, 2, 1, []) by decide +kernel) rfl rfl ?_
    refine e_go (show am_cd 184 120 = (12, 88, 0, 0, []) by decide +kernel) ?_
    exact h

theorem prsA_b {tx : List Int} {l : List (Int × Int)} (h : prsA tx = .ok l) : (∀ x ∈ l, okPr x) ∧ l.length ≤ 16 := by
  unfold prsA at h
  cases hR : rdPs tx 16 0 with
  | error q => rw [hR] at h; cases h
  | ok y =>
    rw [hR] at h
    dsimp only at h
    by_cases h1 : y.2 < tx.length
    · rw [if_pos h1] at h; cases h
    · rw [if_neg h1] at h
      cases h
      have := rdPs_b hR
      exact ⟨this.1, this.2.1⟩
theorem PrM.at {w : eW} {l : List (Int × Int)} (h : PrM w l) (hok : ∀ x ∈ l, okPr x) {i : Nat} (hi : i < l.length) : w 87 i = (l.getD i (0, 0)).1 ∧ w 88 i = (l.getD i (0, 0)).2 ∧ okPr (l.getD i (0, 0)) := by
  have : l.getD i (0, 0) ∈ l := by rw [List.getD_eq_getElem?_getD, List.getElem?_eq_getElem hi]; exact List.getElem_mem hi
  exact ⟨(h i hi).1, (h i hi).2, hok _ this⟩
theorem c_mpairs {d : Nat} {m w : eW} {t : eT} {ks : kT} {rl tx : List Int} (h : MI w m ks rl tx) : Cl (d + 5) 184 [rA 67] (enc w t) (fun r S2 => ∃ w2, r = some (0, pairsV tx) ∧ S2 = enc w2 t ∧ Fm [68, 69, 87, 88] [0, 3, 6, 12, 17, 23, 26, 27, 28, 29] w w2 ∧ MI w2 (pairsM tx m) (pairsK tx ks) rl [] ∧ w2 67 26 = 0) := by
  obtain ⟨b1, b2, b3, b4, b5, b6⟩ := bgW_s h.2.2.2.2.2.1
  refine g_mpairs0 (tx := tx) ⟨⟨b1, b2⟩, fun x1 w2 hw2 => ?_⟩
  have hw2 : RdQ tx (bgW w) (prsA tx) x1 w2 := hw2
  obtain ⟨c1, c2, c3, c4⟩ := hw2
  have hb := c1.b
  have fr : Fm [87, 88] [23, 26, 27, 28, 29] w w2 := (b3.mo (fun a ha => by cases ha) (fun a ha => ha)).tr (c2.mo (fun a ha => ha) (by decide))
  have frB : Fm [68, 69, 87, 88] [0, 3, 6, 12, 17, 23, 26, 27, 28, 29] w w2 := fr.mo (by decide) (by decide)
  have e23 : w2 67 23 = 0 := by rw [c2.2 23 (by decide)]; exact b5
  have e26 : w2 67 26 = 0 := by rw [c2.2 26 (by decide)]; exact b4
  have mi := h.m fr (by decide) (by decide) e23
  simp (disch := omega) only [w32_id]
  cases hR : prsA tx with
  | error q =>
    rw [hR] at c4
    have c4 : stW w2 = .error q := c4
    have := stW_er c1 c4
    refine ⟨fun h1 => (by omega), fun _ => ⟨w2, ?_, rfl, frB, ?_, e26⟩⟩
    · unfold pairsV
      rw [hR, this.1]
    · unfold pairsM pairsK
      rw [hR]
      exact mi
  | ok l =>
    rw [hR] at c4
    obtain ⟨⟨p, c5⟩, c6, c7⟩ := c4
    have hlb := prsA_b hR
    have e29 := (stW_ok c5).1
    subst c6
    refine ⟨fun _ => ?_, fun h1 => absurd e29 h1⟩
    have dup : dupP l = true → ∃ w3, some ((0 : Nat), (-2 : Int)) = some (0, pairsV tx) ∧ enc w2 t = enc w3 t ∧ Fm [68, 69, 87, 88] [0, 3, 6, 12, 17, 23, 26, 27, 28, 29] w w3 ∧ MI w3 (pairsM tx m) (pairsK tx ks) rl [] ∧ w3 67 26 = 0 := by
      intro hd
      refine ⟨w2, ?_, rfl, frB, ?_, e26⟩
      · unfold pairsV
        rw [hR]
        dsimp only
        rw [if_pos hd]
      · unfold pairsM pairsK
        rw [hR]
        dsimp only
        rw [if_pos hd, if_pos hd]
        exact mi
    have copy : dupP l = false → ∀ J3, Ev (d + 5) 184 (fun r S2 => ∃ w2, r = some (0, pairsV tx) ∧ S2 = enc w2 t ∧ Fm [68, 69, 87, 88] [0, 3, 6, 12, 17, 23, 26, 27, 28, 29] w w2 ∧ MI w2 (pairsM tx m) (pairsK tx ks) rl [] ∧ w2 67 26 = 0) 88 [rA 67, (0, (l.length : Int)), (0, ((0 : Nat) : Int)), J3] [] (enc w2 t) := by
      intro hd J3
      refine lq1 (fun i (s : eW) => Ev (d + 5) 184 _ 88 [rA 67, (0, (l.length : Int)), (0, (i : Int)), J3] [] (enc s t)) (fun i s => Fm [68, 69] [] w2 s ∧ ∀ j, j < i → s 68 j = (l.getD j (0, 0)).1 ∧ s 69 j = (l.getD j (0, 0)).2) l.length ?_ ?_ 0 w2 (Nat.zero_le _) ⟨Fm.rf _ _ _, fun j hj => by cases hj⟩
      · intro i s hi ⟨f1, f2⟩ nx
        have at1 := c7.at hlb.1 hi
        refine g_mpairs3 ?_
        rw [f1.1 87 (by decide) (by decide), f1.1 88 (by decide) (by decide)]
        simp (disch := omega) only [w32_id, Int.toNat_natCast, at1.1, at1.2.1]
        refine ⟨fun h9 => (by omega), fun _ => ⟨by omega, by omega, by omega, by omega, nx _ ⟨f1.tr ((Fm.pr (by decide) (by decide)).tr (Fm.pr (by decide) (by decide))), fun j hj => ?_⟩⟩⟩
        by_cases h9 : j = i
        · subst h9
          rw [wu_na _ _ (by decide), wu_eq, wu_eq]
          exact ⟨rfl, rfl⟩
        · rw [wu_na _ _ (by decide), wu_nk _ _ h9, wu_nk _ _ h9, wu_na _ _ (by decide)]
          exact f2 j (by omega)
      · intro s ⟨f1, f2⟩
        refine g_mpairs3 ?_
        simp (disch := omega) only [w32_id]
        refine ⟨fun _ => ?_, fun h9 => (by omega)⟩
        have q : Fm [68, 69, 87, 88] [0, 3, 6, 12, 17, 23, 26, 27, 28, 29] s (wu (wu (wu (wu (wu s 67 0 (l.length : Int)) 67 3 0) 67 6 0) 67 12 0) 67 17 0) := ((((Fm.pf (by decide)).tr (Fm.pf (by decide))).tr (Fm.pf (by decide))).tr (Fm.pf (by decide))).tr (Fm.pf (by decide))
        have q1 := frB.tr ((f1.mo (by decide) (by decide)).tr q)
        refine ⟨_, ?_, rfl, q1, ?_, ?_⟩
        · unfold pairsV
          rw [hR]
          dsimp only
          rw [if_neg (by rw [hd]; decide)]
        · unfold pairsM pairsK
          rw [hR]
          dsimp only
          rw [if_neg (by rw [hd]; decide), if_neg (by rw [hd]; decide)]
          refine prW_mi h hlb.2 hlb.1 hd q1 ?_ ?_ ?_ ?_ ?_ ?_ ?_
          · rw [wu_nk _ _ (by decide), wu_nk _ _ (by decide), wu_nk _ _ (by decide), wu_nk _ _ (by decide), wu_eq]
          · rw [wu_nk _ _ (by decide), wu_nk _ _ (by decide), wu_nk _ _ (by decide), wu_eq]
          · rw [wu_nk _ _ (by decide), wu_nk _ _ (by decide), wu_eq]
          · rw [wu_nk _ _ (by decide), wu_eq]
          · rw [wu_eq]
          · rw [wu_nk _ _ (by decide), wu_nk _ _ (by decide), wu_nk _ _ (by decide), wu_nk _ _ (by decide), wu_nk _ _ (by decide), f1.2 23 (by decide)]
            exact e23
          · intro i hi
            rw [wu_na _ _ (by decide), wu_na _ _ (by decide), wu_na _ _ (by decide), wu_na _ _ (by decide), wu_na _ _ (by decide), wu_na _ _ (by decide), wu_na _ _ (by decide), wu_na _ _ (by decide), wu_na _ _ (by decide), wu_na _ _ (by decide)]
            exact f2 i hi
        · rw [wu_nk _ _ (by decide), wu_nk _ _ (by decide), wu_nk _ _ (by decide), wu_nk _ _ (by decide), wu_nk _ _ (by decide), f1.2 26 (by decide)]
          exact e26
    have outer : ∀ j k, k + j = l.length → (∀ k2, k2 < k → an (fun i => decide (l.getD k2 (0, 0) = l.getD i (0, 0))) k2 = false) → ∀ J3, Ev (d + 5) 184 (fun r S2 => ∃ w2, r = some (0, pairsV tx) ∧ S2 = enc w2 t ∧ Fm [68, 69, 87, 88] [0, 3, 6, 12, 17, 23, 26, 27, 28, 29] w w2 ∧ MI w2 (pairsM tx m) (pairsK tx ks) rl [] ∧ w2 67 26 = 0) 29 [rA 67, (0, (l.length : Int)), (0, (k : Int)), J3] [] (enc w2 t) := by
      intro j
      induction j with
      | zero =>
        intro k hk hn J3
        refine g_mpairs1 ?_
        simp (disch := omega) only [w32_id]
        refine ⟨fun _ => copy ?_ J3, fun h9 => (by omega)⟩
        cases hd : dupP l
        · rfl
        · obtain ⟨k2, h3, h4⟩ := an_iff.mp hd
          rw [hn k2 (by omega)] at h4
          cases h4
      | succ j ih =>
        intro k hk hn J3
        refine g_mpairs1 ?_
        simp (disch := omega) only [w32_id]
        refine ⟨fun h9 => (by omega), fun _ => ?_⟩
        have inner : ∀ g i, i + g = k → (∀ i2, i2 < i → l.getD k (0, 0) ≠ l.getD i2 (0, 0)) → Ev (d + 5) 184 (fun r S2 => ∃ w2, r = some (0, pairsV tx) ∧ S2 = enc w2 t ∧ Fm [68, 69, 87, 88] [0, 3, 6, 12, 17, 23, 26, 27, 28, 29] w w2 ∧ MI w2 (pairsM tx m) (pairsK tx ks) rl [] ∧ w2 67 26 = 0) 36 [rA 67, (0, (l.length : Int)), (0, (k : Int)), (0, (i : Int))] [] (enc w2 t) := by
          intro g
          induction g with
          | zero =>
            intro i hi hne
            refine g_mpairs2 ?_
            simp (disch := omega) only [w32_id]
            refine ⟨fun _ => ih (k + 1) (by omega) ?_ _, fun h9 => (by omega)⟩
            intro k2 hk2
            by_cases h9 : k2 = k
            · subst h9
              cases ha : an (fun i => decide (l.getD k2 (0, 0) = l.getD i (0, 0))) k2
              · rfl
              · obtain ⟨i2, h3, h4⟩ := an_iff.mp ha
                exact absurd (of_decide_eq_true h4) (hne i2 (by omega))
            · exact hn k2 (by omega)
          | succ g ihg =>
            intro i hi hne
            have a1 := c7.at hlb.1 (show k < l.length by omega)
            have a2 := c7.at hlb.1 (show i < l.length by omega)
            have o1 := a1.2.2
            have o2 := a2.2.2
            unfold okPr at o1 o2
            refine g_mpairs2 ?_
            simp (disch := omega) only [w32_id, Int.toNat_natCast, a1.1, a1.2.1, a2.1, a2.2.1]
            have nx : l.getD k (0, 0) ≠ l.getD i (0, 0) → Ev (d + 5) 184 (fun r S2 => ∃ w2, r = some (0, pairsV tx) ∧ S2 = enc w2 t ∧ Fm [68, 69, 87, 88] [0, 3, 6, 12, 17, 23, 26, 27, 28, 29] w w2 ∧ MI w2 (pairsM tx m) (pairsK tx ks) rl [] ∧ w2 67 26 = 0) 36 [rA 67, (0, (l.length : Int)), (0, (k : Int)), (0, (i : Int) + 1)] [] (enc w2 t) := fun h1 => ihg (i + 1) (by omega) (fun i2 h3 => by
              by_cases h9 : i2 = i
              · rw [h9]; exact h1
              · exact hne i2 (by omega))
            refine ⟨fun h9 => (by omega), fun _ => ⟨by omega, by omega, fun h1 => nx (fun h9 => h1 (by rw [h9])), fun h1 => ⟨by omega, by omega, fun h2 => nx (fun h9 => h2 (by rw [h9])), fun h2 => dup ?_⟩⟩⟩
            exact an_iff.mpr ⟨k, by omega, an_iff.mpr ⟨i, by omega, decide_eq_true (Prod.ext (by omega) (by omega))⟩⟩
        exact inner k 0 (by omega) (fun i2 h9 => by cases h9)
    exact outer l.length 0 (by omega) (fun k2 h9 => by cases h9) _

