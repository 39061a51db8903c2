/-! The model: calls that begin with letters; spells, reads. -/
def lsR (tx : List Int) (k : Nat) : Except Nat (List Int) := match rdLs tx k 0 with
  | .error q => .error q
  | .ok y => if y.2 < tx.length then .error y.2 else .ok y.1
def ltF (l : List Int) (i : Nat) : Int := l.getD i 0
/-- letters have been read up to the end, or not -/
def FrL (A : Nat) (tx : List Int) (w : eW) (n : Int) (w1 : eW) : Prop := RdI [A] w tx w1 ∧ match stW w1 with
  | .error q => lsR tx 6 = .error q
  | .ok _ => ∃ l, lsR tx 6 = .ok l ∧ n = (l.length : Int) ∧ LtM w1 A l ∧ (1 ≤ l.length ∧ l.length ≤ 6) ∧ ∀ v ∈ l, 0 ≤ v ∧ v ≤ 26
theorem front {A : Nat} {tx : List Int} {w w2 : eW} {x1 : Int} {E : eW → Prop} (hT : TxM w tx) (hA : A = 90 ∨ A = 91) (hw2 : RlQ tx A 6 (bgW w) (bnd (stW (bgW w)) (rdLs tx 6)) x1 w2) (hE : ∀ w3, FrL A tx w x1 w3 → E w3) : (¬ w32 (w2 67 29) = w32 (-1) → E w2) ∧ (¬ (¬ w32 (w2 67 29) = w32 (-1)) → (Px w2 tx) ∧ (∀ w3, (Px w3 tx ∧ Fm [] [28, 29] w2 w3 ∧ stW w3 = enS tx (stW w2)) → E w3)) := by
  obtain ⟨b1, b2, b3, b4, b5, b6⟩ := bgW_s hT
  have hI : RdI [A] w tx (bgW w) := RdI.bg hT
  rw [b2] at hw2
  obtain ⟨c1, c2, c3, c4, c5⟩ := hw2
  have hI2 := hI.m c1 c2 (fun a ha => ha)
  have hb := c1.b
  have c3 : stW w2 = stE (rdLs tx 6 0) := c3
  have c5 : ∀ y, rdLs tx 6 0 = .ok y → x1 = (y.1.length : Int) ∧ LtM w2 A y.1 := c5
  simp (disch := omega) only [w32_id]
  refine ⟨fun h1 => hE w2 ⟨hI2, ?_⟩, fun h1 => ⟨c1, fun w3 hw3 => ?_⟩⟩
  · have hs : stW w2 = .error (w2 67 29).toNat := if_neg h1
    rw [hs]
    show lsR tx 6 = _
    unfold lsR
    cases hR : rdLs tx 6 0 with
    | error q => rw [hR, hs] at c3; cases c3; rfl
    | ok y => rw [hR, hs] at c3; cases c3
  · have hs : stW w2 = .ok (w2 67 28).toNat := if_pos (by omega)
    cases hR : rdLs tx 6 0 with
    | error q => rw [hR, hs] at c3; cases c3
    | ok y =>
      have c6 := c5 y hR
      rw [hR] at c3
      have c3 : stW w2 = .ok y.2 := c3
      have hI3 := hI2.m (R2 := []) hw3.1 hw3.2.1 (fun a ha => by cases ha)
      have e3 := hw3.2.2
      rw [c3] at e3
      have e3 : stW w3 = if y.2 < tx.length then .error y.2 else .ok y.2 := e3
      have hy : y.1 = ltsF tx 6 0 ∧ y.1 ≠ [] := by
        unfold rdLs at hR
        by_cases h9 : ltsF tx 6 0 = []
        · rw [if_pos h9] at hR; cases hR
        · rw [if_neg h9] at hR
          cases hR
          exact ⟨rfl, h9⟩
      have hlb := ltsF_b (tx := tx) (k := 6) (p := 0)
      rw [← hy.1] at hlb
      refine hE w3 ⟨hI3, ?_⟩
      by_cases h9 : y.2 < tx.length
      · rw [if_pos h9] at e3
        rw [e3]
        show lsR tx 6 = _
        unfold lsR
        rw [hR]
        dsimp only
        rw [if_pos h9]
      · rw [if_neg h9] at e3
        rw [e3]
        refine ⟨y.1, ?_, c6.1, c6.2.m hw3.2.1 (by omega) (fun h => by cases h), ⟨?_, hlb.2⟩, hlb.1⟩
        · unfold lsR
          rw [hR]
          dsimp only
          rw [if_neg h9]
        · have := List.length_pos_iff.mpr hy.2
          omega
theorem upM_of {w1 : eW} {l : List Int} (h : LtM w1 90 l) (hl : l.length ≤ 6) (hv : ∀ v ∈ l, 0 ≤ v ∧ v ≤ 26) (h47 : w1 67 47 = (l.length : Int)) : UpM w1 (ltF l) l.length := ⟨h47, hl, fun i hi => ⟨h i hi, hv _ (by unfold ltF; rw [List.getD_eq_getElem?_getD, List.getElem?_eq_getElem hi]; exact List.getElem_mem hi)⟩⟩
theorem loM_of {w1 : eW} {l : List Int} (h : LtM w1 91 l) (hl : l.length ≤ 6) (hv : ∀ v ∈ l, 0 ≤ v ∧ v ≤ 26) (h48 : w1 67 48 = (l.length : Int)) : LoM w1 (ltF l) l.length := ⟨h48, hl, fun i hi => ⟨h i hi, hv _ (by unfold ltF; rw [List.getD_eq_getElem?_getD, List.getElem?_eq_getElem hi]; exact List.getElem_mem hi)⟩⟩
def spellsV (q : Nat) (tx : List Int) (m : eW) : Int := match lsR tx 6 with
  | .error e => -21 - (e : Int)
  | .ok l => (cw m q (ltF l) l.length 0 16 16 16 : Int)
def spellsK (q : Nat) (tx : List Int) (m : eW) (ks : kT) : kT := match lsR tx 6 with
  | .error _ => ks
  | .ok l => ((lw m q (ltF l) l.length 0 16 16 16).map (fun x => (x, []))).take 20
theorem c_keepsAll0 {d : Nat} {m w : eW} {t : eT} {n : Nat} {lt : Nat → Int} (h : MG w m ∧ w 67 35 = -1 ∧ UpM w lt n) : Cl (d + 35) 235 [rA 67, (0, 0)] (enc w t) (fun r S2 => ∃ w2, r = some (1, (cw m 0 lt n 0 16 16 16 : Int)) ∧ S2 = enc w2 t ∧ Fm [81, 82, 83, 84, 92, 93, 94, 95] [17, 38, 40, 42, 49] w w2 ∧ KM w2 (((lw m 0 lt n 0 16 16 16).map (fun l => (l, []))).take 20)) := c_keepsAll (q := 0) ⟨h.1, h.2.1, by decide, fun h9 => (by cases h9), fun _ => h.2.2⟩
theorem c_keepsAll1 {d : Nat} {m w : eW} {t : eT} {n : Nat} {lt : Nat → Int} (h : MG w m ∧ w 67 35 = -1 ∧ LoM w lt n) : Cl (d + 35) 235 [rA 67, (0, 1)] (enc w t) (fun r S2 => ∃ w2, r = some (1, (cw m 1 lt n 0 16 16 16 : Int)) ∧ S2 = enc w2 t ∧ Fm [81, 82, 83, 84, 92, 93, 94, 95] [17, 38, 40, 42, 49] w w2 ∧ KM w2 (((lw m 1 lt n 0 16 16 16).map (fun l => (l, []))).take 20)) := c_keepsAll (q := 1) ⟨h.1, h.2.1, by decide, fun _ => h.2.2, fun h9 => absurd rfl h9⟩

theorem g_mspells0 {d : Nat} {Q : Option aV → aS → Prop} {w : eW} {t : eT} {tx : List Int} (h : (Px (wu (wu (wu (wu (wu w 67 26 0) 67 27 (w 67 23)) 67 23 0) 67 28 0) 67 29 (-1)) tx ∧ ((1 : Int) ≤ 6 ∧ (6 : Int) ≤ 6) ∧ (90 = 90 ∨ 90 = 91)) ∧ (∀ x1 w2, (RlQ tx 90 6 (wu (wu (wu (wu (wu w 67 26 0) 67 27 (w 67 23)) 67 23 0) 67 28 0) 67 29 (-1)) (bnd (stW (wu (wu (wu (wu (wu w 67 26 0) 67 27 (w 67 23)) 67 23 0) 67 28 0) 67 29 (-1))) (rdLs tx 6)) x1 w2) → ((¬ w32 (w2 67 29) = w32 (-1) → Ev (d + 36) 236 Q 32 [rA 67, (0, x1)] [] (enc w2 t)) ∧ (¬ (¬ w32 (w2 67 29) = w32 (-1)) → (Px w2 tx) ∧ (∀ w3, (Px w3 tx ∧ Fm [] [28, 29] w2 w3 ∧ stW w3 = enS tx (stW w2)) → Ev (d + 36) 236 Q 32 [rA 67, (0, x1)] [] (enc w3 t)))))) : Cl (d + 36) 236 [rA 67] (enc w t) Q := by
  show Ev (d + 36) 236 Q 0 [rA 67, (9, 0)] [] (enc w t)
  refine e_lda (v := 67) (show am_cd 236 0 = (2, 1, 0, 2, []) by decide +kernel) rfl ?_
  refine e_ic (show am_cd 236 1 = (0, 2, 0, 0, []) by decide +kernel) ?_
  refine e_putf (a := 67) (show am_cd 236 2 = (19, 5, 1226, 0, [113]) by decide +kernel) (by decide +kernel) (by decide +kernel) rfl (fun h9 => absurd h9 (by decide)) (fun h9 => absurd h9 (by decide +kernel)) ?_
  refine e_lda (v := 67) (show am_cd 236 5 = (2, 6, 0, 2, []) by decide +kernel) rfl ?_
  refine e_cV (z := 0) (a := 67) (as := []) (rest := []) (show am_cd 236 6 = (40, 9, 170, 0, [171]) by decide +kernel) (by decide +kernel) rfl rfl (Nat.le_of_ble_eq_true rfl) rfl ?_
  show Ev _ 170 _ 0 [rA 67] [] _
  refine e_lda (v := 67) (show am_cd 170 0 = (2, 1, 0, 2, []) by decide +kernel) rfl ?_
  refine e_lda (v := 67) (show am_cd 170 1 = (2, 2, 0, 2, []) by decide +kernel) rfl ?_
  refine e_getfE (a := 67) (tg := 0) (v := w 67 23) (show am_cd 170 2 = (18, 5, 1223, 0, [119]) by decide +kernel) (by decide +kernel) (by decide +kernel) rfl rfl ?_
  refine e_putf (a := 67) (show am_cd 170 5 = (19, 8, 1227, 0, [126]) by decide +kernel) (by decide +kernel) (by decide +kernel) rfl (fun h9 => absurd h9 (by decide)) (fun h9 => absurd h9 (by decide +kernel)) ?_
  refine e_lda (v := 67) (show am_cd 170 8 = (2, 9, 0, 2, []) by decide +kernel) rfl ?_
  refine e_ic (show am_cd 170 9 = (0, 10, 0, 0, []) by decide +kernel) ?_
  refine e_putf (a := 67) (show am_cd 170 10 = (19, 13, 1223, 0, [119]) by decide +kernel) (by decide +kernel) (by decide +kernel) rfl (fun h9 => absurd h9 (by decide)) (fun h9 => absurd h9 (by decide +kernel)) ?_
  refine e_lda (v := 67) (show am_cd 170 13 = (2, 14, 0, 2, []) by decide +kernel) rfl ?_
  refine e_ic (show am_cd 170 14 = (0, 15, 0, 0, []) by decide +kernel) ?_
  refine e_putf (a := 67) (show am_cd 170 15 = (19, 18, 1228, 0, [129]) by decide +kernel) (by decide +kernel) (by decide +kernel) rfl (fun h9 => absurd h9 (by decide)) (fun h9 => absurd h9 (by decide +kernel)) ?_
  refine e_lda (v := 67) (show am_cd 170 18 = (2, 19, 0, 2, []) by decide +kernel) rfl ?_
  refine e_ic (show am_cd 170 19 = (0, 20, 0, -1, []) by decide +kernel) ?_
  refine e_putf (a := 67) (show am_cd 170 20 = (19, 23, 1229, 0, [132]) by decide +kernel) (by decide +kernel) (by decide +kernel) rfl (fun h9 => absurd h9 (by decide)) (fun h9 => absurd h9 (by decide +kernel)) ?_
  refine e_retv (show am_cd 170 23 = (36, 24, 3, 0, []) by decide +kernel) (by decide +kernel) ⟨fun _ h9 => (by cases h9), ?_⟩
  show Ev _ 236 _ 9 [rA 67, (9, 0)] [] _
  refine e_lda (v := 67) (show am_cd 236 9 = (2, 10, 0, 2, []) by decide +kernel) rfl ?_
  refine e_lda (v := 67) (show am_cd 236 10 = (2, 11, 0, 2, []) by decide +kernel) rfl ?_
  refine e_getr (a := 67) (r := 90) (show am_cd 236 11 = (18, 14, 1233, 2, [78]) by decide +kernel) (by decide +kernel) (by decide +kernel) rfl ?_
  refine e_ic (show am_cd 236 14 = (0, 16, 1, 6, []) by decide +kernel) ?_
  refine e_cV (z := 0) (a := 67) (as := [rA 90, (0, 6)]) (rest := []) (show am_cd 236 16 = (40, 19, 193, 0, [222]) by decide +kernel) (by decide +kernel) rfl rfl (Nat.le_of_ble_eq_true rfl) rfl ?_
  refine Cl.mono (Cl.up (c_readLetters (d := d) h.1) (by omega)) ?_
  rintro _ _ ⟨x1, w2, rfl, rfl, hp⟩
  refine ⟨fun _ h9 => (by cases h9), ?_⟩
  replace h := h.2 x1 w2 hp
  show Ev _ 236 _ 19 [rA 67, (9, 0)] [(0, x1)] _
  refine e_sti (la2 := [rA 67, (0, x1)]) (show am_cd 236 19 = (3, 20, 1, 0, []) by decide +kernel) rfl ?_
  refine e_lda (v := 67) (show am_cd 236 20 = (2, 21, 0, 2, []) by decide +kernel) rfl ?_
  refine e_getf (a := 67) (tg := 0) (show am_cd 236 21 = (18, 24, 1229, 0, [132]) by decide +kernel) (by decide +kernel) (by decide +kernel) rfl ?_
  refine e_ic (show am_cd 236 24 = (0, 25, 0, -1, []) by decide +kernel) ?_
  refine e_cmp1 (show am_cd 236 25 = (11, 28, 32, 1, []) by decide +kernel) (fun hc => ?_) (fun hc => ?_)
  · replace h := h.1 hc
    exact h
  · replace h := h.2 hc
    refine e_lda (v := 67) (show am_cd 236 28 = (2, 29, 0, 2, []) by decide +kernel) rfl ?_
    refine e_cV (z := 0) (a := 67) (as := []) (rest := []) (show am_cd 236 29 = (40, 32, 176, 0, [165]) by decide +kernel) (by decide +kernel) rfl rfl (Nat.le_of_ble_eq_true rfl) rfl ?_
    refine Cl.mono (Cl.up (c_ends (d := d) h.1) (by omega)) ?_
    rintro _ _ ⟨w3, rfl, rfl, hp⟩
    refine ⟨fun _ h9 => (by cases h9), ?_⟩
    replace h := h.2 w3 hp
    show Ev _ 236 _ 32 [rA 67, (0, x1)] [] _
    exact h

theorem g_mspells1 {d : Nat} {Q : Option aV → aS → Prop} {w : eW} {t : eT} {n : Int} {m : eW} {lt : Nat → Int} {nn : Nat} (h : ((w32 (w 67 29) = w32 (-1) → (MG (wu w 67 47 n) m ∧ (wu w 67 47 n) 67 35 = -1 ∧ UpM (wu w 67 47 n) lt nn) ∧ (∀ w1, (Fm [81, 82, 83, 84, 92, 93, 94, 95] [17, 38, 40, 42, 49] (wu w 67 47 n) w1 ∧ KM w1 (((lw m 0 lt nn 0 16 16 16).map (fun l => (l, []))).take 20)) → Q (some (1, ((cw m 0 lt nn 0 16 16 16 : Nat) : Int))) (enc w1 t))) ∧ (¬ (w32 (w 67 29) = w32 (-1)) → Q (some (1, w32 ((-21) - (w 67 29)))) (enc w t)))) : Ev (d + 36) 236 Q 32 [rA 67, (0, n)] [] (enc w t) := by
  refine e_lda (v := 67) (show am_cd 236 32 = (2, 33, 0, 2, []) by decide +kernel) rfl ?_
  refine e_getf (a := 67) (tg := 0) (show am_cd 236 33 = (18, 36, 1229, 0, [132]) by decide +kernel) (by decide +kernel) (by decide +kernel) rfl ?_
  refine e_ic (show am_cd 236 36 = (0, 37, 0, -1, []) by decide +kernel) ?_
  refine e_cmp0 (show am_cd 236 37 = (11, 40, 46, 0, []) by decide +kernel) (fun hc => ?_) (fun hc => ?_)
  · replace h := h.1 hc
    refine e_lda (v := 67) (show am_cd 236 46 = (2, 47, 0, 2, []) by decide +kernel) rfl ?_
    refine e_ldi (show am_cd 236 47 = (2, 48, 1, 0, []) by decide +kernel) rfl ?_
    refine e_putf (a := 67) (show am_cd 236 48 = (19, 51, 1247, 0, [345]) by decide +kernel) (by decide +kernel) (by decide +kernel) rfl (fun h9 => absurd h9 (by decide)) (fun h9 => absurd h9 (by decide +kernel)) ?_
    refine e_lda (v := 67) (show am_cd 236 51 = (2, 52, 0, 2, []) by decide +kernel) rfl ?_
    refine e_ic (show am_cd 236 52 = (0, 53, 0, 0, []) by decide +kernel) ?_
    refine e_cV (z := 0) (a := 67) (as := [(0, 0)]) (rest := []) (show am_cd 236 53 = (40, 56, 235, 0, [377]) by decide +kernel) (by decide +kernel) rfl rfl (Nat.le_of_ble_eq_true rfl) rfl ?_
    refine Cl.mono (Cl.up (c_keepsAll0 (d := d) h.1) (by omega)) ?_
    rintro _ _ ⟨w1, rfl, rfl, hp⟩
    refine ⟨fun _ h9 => (by cases h9), ?_⟩
    replace h := h.2 w1 hp
    show Ev _ 236 _ 56 [rA 67, (0, n)] [(1, ((cw m 0 lt nn 0 16 16 16 : Nat) : Int))] _
    exact e_retl (show am_cd 236 56 = (36, 57, 1, 0, []) by decide +kernel) (by decide +kernel) h
  · replace h := h.2 hc
    refine e_lda (v := 67) (show am_cd 236 40 = (2, 41, 0, 2, []) by decide +kernel) rfl ?_
    refine e_cV (z := 0) (a := 67) (as := []) (rest := []) (show am_cd 236 41 = (40, 44, 173, 0, [177]) by decide +kernel) (by decide +kernel) rfl rfl (Nat.le_of_ble_eq_true rfl) rfl ?_
    show Ev _ 173 _ 0 [rA 67] [] _
    refine e_ic (show am_cd 173 0 = (0, 2, 1, -21, []) by decide +kernel) ?_
    refine e_lda (v := 67) (show am_cd 173 2 = (2, 3, 0, 2, []) by decide +kernel) rfl ?_
    refine e_getf (a := 67) (tg := 0) (show am_cd 173 3 = (18, 6, 1229, 0, [132]) by decide +kernel) (by decide +kernel) (by decide +kernel) rfl ?_
    refine e_isub (show am_cd 173 6 = (5, 7, 1, 0, []) by decide +kernel) ?_
    refine e_reti (show am_cd 173 7 = (36, 8, 0, 0, []) by decide +kernel) (by decide +kernel) ⟨fun _ h9 => (by cases h9), ?_⟩
    show Ev _ 236 _ 44 [rA 67, (0, n)] [(0, (-21) - (w 67 29))] _
    refine e_i2l (show am_cd 236 44 = (8, 45, 0, 0, []) by decide +kernel) ?_
    exact e_retl (show am_cd 236 45 = (36, 46, 1, 0, []) by decide +kernel) (by decide +kernel) h

theorem c_mspells {d : Nat} {m w : eW} {t : eT} {ks : kT} {rl tx : List Int} (h : MI w m ks rl tx) : Cl (d + 36) 236 [rA 67] (enc w t) (fun r S2 => ∃ w2, r = some (1, spellsV 0 tx m) ∧ S2 = enc w2 t ∧ Fm [81, 82, 83, 84, 90, 92, 93, 94, 95] [17, 23, 26, 27, 28, 29, 38, 40, 42, 47, 49] w w2 ∧ MI w2 m (spellsK 0 tx m ks) rl [] ∧ w2 67 26 = 0) := by
  have hT := h.2.2.2.2.2.1
  obtain ⟨b1, b2, b3, b4, b5, b6⟩ := bgW_s hT
  refine g_mspells0 (tx := tx) ⟨⟨b1, ⟨by decide, by decide⟩, by decide⟩, fun x1 w2 hw2 => front (A := 90) (E := fun w3 => Ev (d + 36) 236 _ 32 [rA 67, (0, x1)] [] (enc w3 t)) hT (by decide) hw2 (fun w3 hF => ?_)⟩
  obtain ⟨hI, hF⟩ := hF
  have mi := hI.mi h (by decide)
  have hb := hI.1.b
  have fr : Fm [81, 82, 83, 84, 90, 92, 93, 94, 95] [17, 23, 26, 27, 28, 29, 38, 40, 42, 47, 49] w w3 := hI.2.1.mo (by decide) (by decide)
  cases hs : stW w3 with
  | error q =>
    rw [hs] at hF
    have hF : lsR tx 6 = .error q := hF
    have := stW_er hI.1 hs
    refine g_mspells1 (m := m) (lt := fun _ => 0) (nn := 0) ?_
    simp (disch := omega) only [w32_id]
    refine ⟨fun h9 => (by omega), fun _ => ⟨w3, ?_, rfl, fr, ?_, hI.2.2.2⟩⟩
    · unfold spellsV
      rw [hF, this.1]
    · unfold spellsK
      rw [hF]
      exact mi
  | ok p =>
    rw [hs] at hF
    obtain ⟨l, r1, r2, r3, r4, r5⟩ := hF
    subst r2
    have e29 := (stW_ok hs).1
    have f : Fm [] [47] w3 (wu w3 67 47 (l.length : Int)) := Fm.pf (by decide)
    refine g_mspells1 (m := m) (lt := ltF l) (nn := l.length) ?_
    simp (disch := omega) only [w32_id]
    refine ⟨fun _ => ⟨⟨mi.1.1.m f (by decide) (by decide), by rw [f.2 35 (by decide)]; exact mi.2.2.2.2.2.2, upM_of (r3.m f (by decide) (by decide)) r4.2 r5 (wu_eq ..)⟩, fun w4 hw4 => ⟨w4, ?_, rfl, fr.tr ((f.mo (fun a ha => by cases ha) (by decide)).tr (hw4.1.mo (by decide) (by decide))), ?_, ?_⟩⟩, fun h9 => absurd e29 h9⟩
    · unfold spellsV
      rw [r1]
    · unfold spellsK
      rw [r1]
      obtain ⟨a1, a2, a3, a4, a5, a6, a7⟩ := mi
      have g : Fm [81, 82, 83, 84, 92, 93, 94, 95] [17, 38, 40, 42, 47, 49] w3 w4 := (f.mo (fun a ha => by cases ha) (by decide)).tr (hw4.1.mo (by decide) (by decide))
      exact ⟨a1.m g (by decide) (by decide), a2, a3.m g (by decide) (by decide), hw4.2, a5.m g (by decide) (by decide), TxM.nil (by rw [g.2 23 (by decide)]; exact a6.1), by rw [g.2 35 (by decide)]; exact a7⟩
    · rw [hw4.1.2 26 (by decide), f.2 26 (by decide)]
      exact hI.2.2.2

theorem g_mreads0 {d : Nat} {Q : Option aV → aS → Prop} {w : eW} {t : eT} {tx : List Int} (h : (Px (wu (wu (wu (wu (wu w 67 26 0) 67 27 (w 67 23)) 67 23 0) 67 28 0) 67 29 (-1)) tx ∧ ((1 : Int) ≤ 6 ∧ (6 : Int) ≤ 6) ∧ (91 = 90 ∨ 91 = 91)) ∧ (∀ x1 w2, (RlQ tx 91 6 (wu (wu (wu (wu (wu w 67 26 0) 67 27 (w 67 23)) 67 23 0) 67 28 0) 67 29 (-1)) (bnd (stW (wu (wu (wu (wu (wu w 67 26 0) 67 27 (w 67 23)) 67 23 0) 67 28 0) 67 29 (-1))) (rdLs tx 6)) x1 w2) → ((¬ w32 (w2 67 29) = w32 (-1) → Ev (d + 36) 237 Q 32 [rA 67, (0, x1)] [] (enc w2 t)) ∧ (¬ (¬ w32 (w2 67 29) = w32 (-1)) → (Px w2 tx) ∧ (∀ w3, (Px w3 tx ∧ Fm [] [28, 29] w2 w3 ∧ stW w3 = enS tx (stW w2)) → Ev (d + 36) 237 Q 32 [rA 67, (0, x1)] [] (enc w3 t)))))) : Cl (d + 36) 237 [rA 67] (enc w t) Q := by
  show Ev (d + 36) 237 Q 0 [rA 67, (9, 0)] [] (enc w t)
  refine e_lda (v := 67) (show am_cd 237 0 = (2, 1, 0, 2, []) by decide +kernel) rfl ?_
  refine e_ic (show am_cd 237 1 = (0, 2, 0, 0, []) by decide +kernel) ?_
  refine e_putf (a := 67) (show am_cd 237 2 = (19, 5, 1226, 0, [113]) by decide +kernel) (by decide +kernel) (by decide +kernel) rfl (fun h9 => absurd h9 (by decide)) (fun h9 => absurd h9 (by decide +kernel)) ?_
  refine e_lda (v := 67) (show am_cd 237 5 = (2, 6, 0, 2, []) by decide +kernel) rfl ?_
  refine e_cV (z := 0) (a := 67) (as := []) (rest := []) (show am_cd 237 6 = (40, 9, 170, 0, [171]) by decide +kernel) (by decide +kernel) rfl rfl (Nat.le_of_ble_eq_true rfl) rfl ?_
  show Ev _ 170 _ 0 [rA 67] [] _
  refine e_lda (v := 67) (show am_cd 170 0 = (2, 1, 0, 2, []) by decide +kernel) rfl ?_
  refine e_lda (v := 67) (show am_cd 170 1 = (2, 2, 0, 2, []) by decide +kernel) rfl ?_
  refine e_getfE (a := 67) (tg := 0) (v := w 67 23) (show am_cd 170 2 = (18, 5, 1223, 0, [119]) by decide +kernel) (by decide +kernel) (by decide +kernel) rfl rfl ?_
  refine e_putf (a := 67) (show am_cd 170 5 = (19, 8, 1227, 0, [126]) by decide +kernel) (by decide +kernel) (by decide +kernel) rfl (fun h9 => absurd h9 (by decide)) (fun h9 => absurd h9 (by decide +kernel)) ?_
  refine e_lda (v := 67) (show am_cd 170 8 = (2, 9, 0, 2, []) by decide +kernel) rfl ?_
  refine e_ic (show am_cd 170 9 = (0, 10, 0, 0, []) by decide +kernel) ?_
  refine e_putf (a := 67) (show am_cd 170 10 = (19, 13, 1223, 0, [119]) by decide +kernel) (by decide +kernel) (by decide +kernel) rfl (fun h9 => absurd h9 (by decide)) (fun h9 => absurd h9 (by decide +kernel)) ?_
  refine e_lda (v := 67) (show am_cd 170 13 = (2, 14, 0, 2, []) by decide +kernel) rfl ?_
  refine e_ic (show am_cd 170 14 = (0, 15, 0, 0, []) by decide +kernel) ?_
  refine e_putf (a := 67) (show am_cd 170 15 = (19, 18, 1228, 0, [129]) by decide +kernel) (by decide +kernel) (by decide +kernel) rfl (fun h9 => absurd h9 (by decide)) (fun h9 => absurd h9 (by decide +kernel)) ?_
  refine e_lda (v := 67) (show am_cd 170 18 = (2, 19, 0, 2, []) by decide +kernel) rfl ?_
  refine e_ic (show am_cd 170 19 = (0, 20, 0, -1, []) by decide +kernel) ?_
  refine e_putf (a := 67) (show am_cd 170 20 = (19, 23, 1229, 0, [132]) by decide +kernel) (by decide +kernel) (by decide +kernel) rfl (fun h9 => absurd h9 (by decide)) (fun h9 => absurd h9 (by decide +kernel)) ?_
  refine e_retv (show am_cd 170 23 = (36, 24, 3, 0, []) by decide +kernel) (by decide +kernel) ⟨fun _ h9 => (by cases h9), ?_⟩
  show Ev _ 237 _ 9 [rA 67, (9, 0)] [] _
  refine e_lda (v := 67) (show am_cd 237 9 = (2, 10, 0, 2, []) by decide +kernel) rfl ?_
  refine e_lda (v := 67) (show am_cd 237 10 = (2, 11, 0, 2, []) by decide +kernel) rfl ?_
  refine e_getr (a := 67) (r := 91) (show am_cd 237 11 = (18, 14, 1234, 2, [81]) by decide +kernel) (by decide +kernel) (by decide +kernel) rfl ?_
  refine e_ic (show am_cd 237 14 = (0, 16, 1, 6, []) by decide +kernel) ?_
  refine e_cV (z := 0) (a := 67) (as := [rA 91, (0, 6)]) (rest := []) (show am_cd 237 16 = (40, 19, 193, 0, [222]) by decide +kernel) (by decide +kernel) rfl rfl (Nat.le_of_ble_eq_true rfl) rfl ?_
  refine Cl.mono (Cl.up (c_readLetters (d := d) h.1) (by omega)) ?_
  rintro _ _ ⟨x1, w2, rfl, rfl, hp⟩
  refine ⟨fun _ h9 => (by cases h9), ?_⟩
  replace h := h.2 x1 w2 hp
  show Ev _ 237 _ 19 [rA 67, (9, 0)] [(0, x1)] _
  refine e_sti (la2 := [rA 67, (0, x1)]) (show am_cd 237 19 = (3, 20, 1, 0, []) by decide +kernel) rfl ?_
  refine e_lda (v := 67) (show am_cd 237 20 = (2, 21, 0, 2, []) by decide +kernel) rfl ?_
  refine e_getf (a := 67) (tg := 0) (show am_cd 237 21 = (18, 24, 1229, 0, [132]) by decide +kernel) (by decide +kernel) (by decide +kernel) rfl ?_
  refine e_ic (show am_cd 237 24 = (0, 25, 0, -1, []) by decide +kernel) ?_
  refine e_cmp1 (show am_cd 237 25 = (11, 28, 32, 1, []) by decide +kernel) (fun hc => ?_) (fun hc => ?_)
  · replace h := h.1 hc
    exact h
  · replace h := h.2 hc
    refine e_lda (v := 67) (show am_cd 237 28 = (2, 29, 0, 2, []) by decide +kernel) rfl ?_
    refine e_cV (z := 0) (a := 67) (as := []) (rest := []) (show am_cd 237 29 = (40, 32, 176, 0, [165]) by decide +kernel) (by decide +kernel) rfl rfl (Nat.le_of_ble_eq_true rfl) rfl ?_
    refine Cl.mono (Cl.up (c_ends (d := d) h.1) (by omega)) ?_
    rintro _ _ ⟨w3, rfl, rfl, hp⟩
    refine ⟨fun _ h9 => (by cases h9), ?_⟩
    replace h := h.2 w3 hp
    show Ev _ 237 _ 32 [rA 67, (0, x1)] [] _
    exact h

theorem g_mreads1 {d : Nat} {Q : Option aV → aS → Prop} {w : eW} {t : eT} {n : Int} {m : eW} {lt : Nat → Int} {nn : Nat} (h : ((w32 (w 67 29) = w32 (-1) → (MG (wu w 67 48 n) m ∧ (wu w 67 48 n) 67 35 = -1 ∧ LoM (wu w 67 48 n) lt nn) ∧ (∀ w1, (Fm [81, 82, 83, 84, 92, 93, 94, 95] [17, 38, 40, 42, 49] (wu w 67 48 n) w1 ∧ KM w1 (((lw m 1 lt nn 0 16 16 16).map (fun l => (l, []))).take 20)) → Q (some (1, ((cw m 1 lt nn 0 16 16 16 : Nat) : Int))) (enc w1 t))) ∧ (¬ (w32 (w 67 29) = w32 (-1)) → Q (some (1, w32 ((-21) - (w 67 29)))) (enc w t)))) : Ev (d + 36) 237 Q 32 [rA 67, (0, n)] [] (enc w t) := by
  refine e_lda (v := 67) (show am_cd 237 32 = (2, 33, 0, 2, []) by decide +kernel) rfl ?_
  refine e_getf (a := 67) (tg := 0) (show am_cd 237 33 = (18, 36, 1229, 0, [132]) by decide +kernel) (by decide +kernel) (by decide +kernel) rfl ?_
  refine e_ic (show am_cd 237 36 = (0, 37, 0, -1, []) by decide +kernel) ?_
  refine e_cmp0 (show am_cd 237 37 = (11, 40, 46, 0, []) by decide +kernel) (fun hc => ?_) (fun hc => ?_)
  · replace h := h.1 hc
    refine e_lda (v := 67) (show am_cd 237 46 = (2, 47, 0, 2, []) by decide +kernel) rfl ?_
    refine e_ldi (show am_cd 237 47 = (2, 48, 1, 0, []) by decide +kernel) rfl ?_
    refine e_putf (a := 67) (show am_cd 237 48 = (19, 51, 1248, 0, [348]) by decide +kernel) (by decide +kernel) (by decide +kernel) rfl (fun h9 => absurd h9 (by decide)) (fun h9 => absurd h9 (by decide +kernel)) ?_
    refine e_lda (v := 67) (show am_cd 237 51 = (2, 52, 0, 2, []) by decide +kernel) rfl ?_
    refine e_ic (show am_cd 237 52 = (0, 53, 0, 1, []) by decide +kernel) ?_
    refine e_cV (z := 0) (a := 67) (as := [(0, 1)]) (rest := []) (show am_cd 237 53 = (40, 56, 235, 0, [377]) by decide +kernel) (by decide +kernel) rfl rfl (Nat.le_of_ble_eq_true rfl) rfl ?_
    refine Cl.mono (Cl.up (c_keepsAll1 (d := d) h.1) (by omega)) ?_
    rintro _ _ ⟨w1, rfl, rfl, hp⟩
    refine ⟨fun _ h9 => (by cases h9), ?_⟩
    replace h := h.2 w1 hp
    show Ev _ 237 _ 56 [rA 67, (0, n)] [(1, ((cw m 1 lt nn 0 16 16 16 : Nat) : Int))] _
    exact e_retl (show am_cd 237 56 = (36, 57, 1, 0, []) by decide +kernel) (by decide +kernel) h
  · replace h := h.2 hc
    refine e_lda (v := 67) (show am_cd 237 40 = (2, 41, 0, 2, []) by decide +kernel) rfl ?_
    refine e_cV (z := 0) (a := 67) (as := []) (rest := []) (show am_cd 237 41 = (40, 44, 173, 0, [177]) by decide +kernel) (by decide +kernel) rfl rfl (Nat.le_of_ble_eq_true rfl) rfl ?_
    show Ev _ 173 _ 0 [rA 67] [] _
    refine e_ic (show am_cd 173 0 = (0, 2, 1, -21, []) by decide +kernel) ?_
    refine e_lda (v := 67) (show am_cd 173 2 = (2, 3, 0, 2, []) by decide +kernel) rfl ?_
    refine e_getf (a := 67) (tg := 0) (show am_cd 173 3 = (18, 6, 1229, 0, [132]) by decide +kernel) (by decide +kernel) (by decide +kernel) rfl ?_
    refine e_isub (show am_cd 173 6 = (5, 7, 1, 0, []) by decide +kernel) ?_
    refine e_reti (show am_cd 173 7 = (36, 8, 0, 0, []) by decide +kernel) (by decide +kernel) ⟨fun _ h9 => (by cases h9), ?_⟩
    show Ev _ 237 _ 44 [rA 67, (0, n)] [(0, (-21) - (w 67 29))] _
    refine e_i2l (show am_cd 237 44 = (8, 45, 0, 0, []) by decide +kernel) ?_
    exact e_retl (show am_cd 237 45 = (36, 46, 1, 0, []) by decide +kernel) (by decide +kernel) h

theorem c_mreads {d : Nat} {m w : eW} {t : eT} {ks : kT} {rl tx : List Int} (h : MI w m ks rl tx) : Cl (d + 36) 237 [rA 67] (enc w t) (fun r S2 => ∃ w2, r = some (1, spellsV 1 tx m) ∧ S2 = enc w2 t ∧ Fm [81, 82, 83, 84, 91, 92, 93, 94, 95] [17, 23, 26, 27, 28, 29, 38, 40, 42, 48, 49] w w2 ∧ MI w2 m (spellsK 1 tx m ks) rl [] ∧ w2 67 26 = 0) := by
  have hT := h.2.2.2.2.2.1
  obtain ⟨b1, b2, b3, b4, b5, b6⟩ := bgW_s hT
  refine g_mreads0 (tx := tx) ⟨⟨b1, ⟨by decide, by decide⟩, by decide⟩, fun x1 w2 hw2 => front (A := 91) (E := fun w3 => Ev (d + 36) 237 _ 32 [rA 67, (0, x1)] [] (enc w3 t)) hT (by decide) hw2 (fun w3 hF => ?_)⟩
  obtain ⟨hI, hF⟩ := hF
  have mi := hI.mi h (by decide)
  have hb := hI.1.b
  have fr : Fm [81, 82, 83, 84, 91, 92, 93, 94, 95] [17, 23, 26, 27, 28, 29, 38, 40, 42, 48, 49] w w3 := hI.2.1.mo (by decide) (by decide)
  cases hs : stW w3 with
  | error q =>
    rw [hs] at hF
    have hF : lsR tx 6 = .error q := hF
    have := stW_er hI.1 hs
    refine g_mreads1 (m := m) (lt := fun _ => 0) (nn := 0) ?_
    simp (disch := omega) only [w32_id]
    refine ⟨fun h9 => (by omega), fun _ => ⟨w3, ?_, rfl, fr, ?_, hI.2.2.2⟩⟩
    · unfold spellsV
      rw [hF, this.1]
    · unfold spellsK
      rw [hF]
      exact mi
  | ok p =>
    rw [hs] at hF
    obtain ⟨l, r1, r2, r3, r4, r5⟩ := hF
    subst r2
    have e29 := (stW_ok hs).1
    have f : Fm [] [48] w3 (wu w3 67 48 (l.length : Int)) := Fm.pf (by decide)
    refine g_mreads1 (m := m) (lt := ltF l) (nn := l.length) ?_
    simp (disch := omega) only [w32_id]
    refine ⟨fun _ => ⟨⟨mi.1.1.m f (by decide) (by decide), by rw [f.2 35 (by decide)]; exact mi.2.2.2.2.2.2, loM_of (r3.m f (by decide) (by decide)) r4.2 r5 (wu_eq ..)⟩, fun w4 hw4 => ⟨w4, ?_, rfl, fr.tr ((f.mo (fun a ha => by cases ha) (by decide)).tr (hw4.1.mo (by decide) (by decide))), ?_, ?_⟩⟩, fun h9 => absurd e29 h9⟩
    · unfold spellsV
      rw [r1]
    · unfold spellsK
      rw [r1]
      obtain ⟨a1, a2, a3, a4, a5, a6, a7⟩ := mi
      have g : Fm [81, 82, 83, 84, 92, 93, 94, 95] [17, 38, 40, 42, 48, 49] w3 w4 := (f.mo (fun a ha => by cases ha) (by decide)).tr (hw4.1.mo (by decide) (by decide))
      exact ⟨a1.m g (by decide) (by decide), a2, a3.m g (by decide) (by decide), hw4.2, a5.m g (by decide) (by decide), TxM.nil (by rw [g.2 23 (by decide)]; exact a6.1), by rw [g.2 35 (by decide)]; exact a7⟩
    · rw [hw4.1.2 26 (by decide), f.2 26 (by decide)]
      exact hI.2.2.2

