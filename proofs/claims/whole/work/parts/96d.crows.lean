/-! The class: rows of letters of the text. -/

theorem g_tor {d : Nat} {Q : Option aV → aS → Prop} {w : eW} {t : eT} {mo : Int} {tx : List Int} (h : Cl (d + 2) 89 [rA 2, rA 6, (0, mo)] (enc w t) (fun r S2 => (∀ x, r ≠ some (6, x)) ∧ Ev (d + 3) 87 Q 10 [rA 2, (0, mo)] (r.toList ++ [rA 2]) S2)) : Cl (d + 3) 87 [rA 2, (0, mo)] (enc w t) Q := by
  show Ev (d + 3) 87 Q 0 [rA 2, (0, mo)] [] (enc w t)
  refine e_lda (v := 2) (show am_cd 87 0 = (2, 1, 0, 2, []) by decide +kernel) rfl ?_
  refine e_lda (v := 2) (show am_cd 87 1 = (2, 2, 0, 2, []) by decide +kernel) rfl ?_
  refine e_lda (v := 2) (show am_cd 87 2 = (2, 3, 0, 2, []) by decide +kernel) rfl ?_
  refine e_getr (a := 2) (r := 6) (show am_cd 87 3 = (18, 6, 803, 2, [21]) by decide +kernel) (by decide +kernel) (by decide +kernel) rfl ?_
  refine e_ldi (show am_cd 87 6 = (2, 7, 1, 0, []) by decide +kernel) rfl ?_
  refine e_cV (z := 0) (a := 2) (as := [rA 6, (0, mo)]) (rest := [rA 2]) (show am_cd 87 7 = (40, 10, 89, 0, [62]) by decide +kernel) (by decide +kernel) rfl rfl (Nat.le_of_ble_eq_true rfl) rfl ?_
  exact h

theorem g_tor1 {d : Nat} {Q : Option aV → aS → Prop} {w : eW} {t : eT} {mo v : Int} {tx : List Int} (h : ((w32 v ≤ 0 → Q (some (0, 0)) (enc (wu w 2 8 v) t)) ∧ (¬ (w32 v ≤ 0) → ((w32 (w 2 6) < w32 (w 2 5) → Q (some (0, 0)) (enc (wu w 2 8 v) t)) ∧ (¬ (w32 (w 2 6) < w32 (w 2 5)) → Q (some (0, 1)) (enc (wu w 2 8 v) t)))))) : Ev (d + 3) 87 Q 10 [rA 2, (0, mo)] [(0, v), rA 2] (enc w t) := by
  refine e_putf (a := 2) (show am_cd 87 10 = (19, 13, 808, 0, [66]) by decide +kernel) (by decide +kernel) (by decide +kernel) rfl (fun h9 => absurd h9 (by decide)) (fun h9 => absurd h9 (by decide +kernel)) ?_
  refine e_lda (v := 2) (show am_cd 87 13 = (2, 14, 0, 2, []) by decide +kernel) rfl ?_
  refine e_getfE (a := 2) (tg := 0) (v := v) (show am_cd 87 14 = (18, 17, 808, 0, [66]) by decide +kernel) (by decide +kernel) (by decide +kernel) rfl rfl ?_
  refine e_if5 (show am_cd 87 17 = (10, 20, 35, 5, []) by decide +kernel) (fun hc => ?_) (fun hc => ?_)
  · replace h := h.1 hc
    refine e_ic (show am_cd 87 35 = (0, 36, 0, 0, []) by decide +kernel) ?_
    exact e_retz (show am_cd 87 36 = (36, 37, 0, 0, []) by decide +kernel) (by decide +kernel) (Or.inl rfl) h
  · replace h := h.2 hc
    refine e_lda (v := 2) (show am_cd 87 20 = (2, 21, 0, 2, []) by decide +kernel) rfl ?_
    refine e_getfE (a := 2) (tg := 0) (v := w 2 6) (show am_cd 87 21 = (18, 24, 806, 0, [31]) by decide +kernel) (by decide +kernel) (by decide +kernel) rfl rfl ?_
    refine e_lda (v := 2) (show am_cd 87 24 = (2, 25, 0, 2, []) by decide +kernel) rfl ?_
    refine e_getfE (a := 2) (tg := 0) (v := w 2 5) (show am_cd 87 25 = (18, 28, 805, 0, [27]) by decide +kernel) (by decide +kernel) (by decide +kernel) rfl rfl ?_
    refine e_cmp2 (show am_cd 87 28 = (11, 31, 35, 2, []) by decide +kernel) (fun hc => ?_) (fun hc => ?_)
    · replace h := h.1 hc
      refine e_ic (show am_cd 87 35 = (0, 36, 0, 0, []) by decide +kernel) ?_
      exact e_retz (show am_cd 87 36 = (36, 37, 0, 0, []) by decide +kernel) (by decide +kernel) (Or.inl rfl) h
    · replace h := h.2 hc
      refine e_ic (show am_cd 87 31 = (0, 32, 0, 1, []) by decide +kernel) ?_
      refine e_go (show am_cd 87 32 = (12, 36, 0, 0, []) by decide +kernel) ?_
      exact e_retz (show am_cd 87 36 = (36, 37, 0, 0, []) by decide +kernel) (by decide +kernel) (Or.inr rfl) h

theorem g_ttr {d : Nat} {Q : Option aV → aS → Prop} {w : eW} {t : eT} {mo : Int} {tx : List Int} (h : Cl (d + 2) 89 [rA 2, rA 6, (0, mo)] (enc w t) (fun r S2 => (∀ x, r ≠ some (6, x)) ∧ Ev (d + 3) 88 Q 10 [rA 2, (0, mo)] (r.toList ++ [rA 2]) S2)) : Cl (d + 3) 88 [rA 2, (0, mo)] (enc w t) Q := by
  show Ev (d + 3) 88 Q 0 [rA 2, (0, mo)] [] (enc w t)
  refine e_lda (v := 2) (show am_cd 88 0 = (2, 1, 0, 2, []) by decide +kernel) rfl ?_
  refine e_lda (v := 2) (show am_cd 88 1 = (2, 2, 0, 2, []) by decide +kernel) rfl ?_
  refine e_lda (v := 2) (show am_cd 88 2 = (2, 3, 0, 2, []) by decide +kernel) rfl ?_
  refine e_getr (a := 2) (r := 6) (show am_cd 88 3 = (18, 6, 803, 2, [21]) by decide +kernel) (by decide +kernel) (by decide +kernel) rfl ?_
  refine e_ldi (show am_cd 88 6 = (2, 7, 1, 0, []) by decide +kernel) rfl ?_
  refine e_cV (z := 0) (a := 2) (as := [rA 6, (0, mo)]) (rest := [rA 2]) (show am_cd 88 7 = (40, 10, 89, 0, [62]) by decide +kernel) (by decide +kernel) rfl rfl (Nat.le_of_ble_eq_true rfl) rfl ?_
  exact h

theorem g_ttr1 {d : Nat} {Q : Option aV → aS → Prop} {w : eW} {t : eT} {mo v : Int} {tx : List Int} (h : ((w32 v = 0 → Q (some (0, 0)) (enc (wu w 2 8 v) t)) ∧ (¬ (w32 v = 0) → (TC (wu w 2 8 v) tx) ∧ ((w32 (hr tx ((wu w 2 8 v) 2 6).toNat) = w32 47 → Cl (d + 2) 89 [rA 2, rA 7, (0, mo)] (enc (wu (wu w 2 8 v) 2 6 ((w 2 6) + 1)) t) (fun r S2 => (∀ x, r ≠ some (6, x)) ∧ Ev (d + 3) 88 Q 41 [rA 2, (0, mo)] (r.toList ++ [rA 2]) S2)) ∧ (¬ (w32 (hr tx ((wu w 2 8 v) 2 6).toNat) = w32 47) → Q (some (0, 0)) (enc (wu w 2 8 v) t)))))) : Ev (d + 3) 88 Q 10 [rA 2, (0, mo)] [(0, v), rA 2] (enc w t) := by
  refine e_putf (a := 2) (show am_cd 88 10 = (19, 13, 808, 0, [66]) by decide +kernel) (by decide +kernel) (by decide +kernel) rfl (fun h9 => absurd h9 (by decide)) (fun h9 => absurd h9 (by decide +kernel)) ?_
  refine e_lda (v := 2) (show am_cd 88 13 = (2, 14, 0, 2, []) by decide +kernel) rfl ?_
  refine e_getfE (a := 2) (tg := 0) (v := v) (show am_cd 88 14 = (18, 17, 808, 0, [66]) by decide +kernel) (by decide +kernel) (by decide +kernel) rfl rfl ?_
  refine e_if0 (show am_cd 88 17 = (10, 20, 29, 0, []) by decide +kernel) (fun hc => ?_) (fun hc => ?_)
  · replace h := h.1 hc
    refine e_ic (show am_cd 88 29 = (0, 30, 0, 0, []) by decide +kernel) ?_
    exact e_retz (show am_cd 88 30 = (36, 31, 0, 0, []) by decide +kernel) (by decide +kernel) (Or.inl rfl) h
  · replace h := h.2 hc
    refine e_lda (v := 2) (show am_cd 88 20 = (2, 21, 0, 2, []) by decide +kernel) rfl ?_
    refine e_ic (show am_cd 88 21 = (0, 23, 1, 47, []) by decide +kernel) ?_
    refine e_cV (z := 0) (a := 2) (as := [(0, 47)]) (rest := []) (show am_cd 88 23 = (40, 26, 81, 0, [49]) by decide +kernel) (by decide +kernel) rfl rfl (Nat.le_of_ble_eq_true rfl) rfl ?_
    show Ev _ 81 _ 0 [rA 2, (0, 47)] [] _
    refine e_lda (v := 2) (show am_cd 81 0 = (2, 1, 0, 2, []) by decide +kernel) rfl ?_
    refine e_cV (z := 0) (a := 2) (as := []) (rest := []) (show am_cd 81 1 = (40, 4, 80, 0, [34]) by decide +kernel) (by decide +kernel) rfl rfl (Nat.le_of_ble_eq_true rfl) rfl ?_
    refine Cl.mono (Cl.up (c_ahd (tx := tx) (d := d) h.1) (by omega)) ?_
    rintro _ _ ⟨rfl, rfl⟩
    refine ⟨fun _ h9 => (by cases h9), ?_⟩
    replace h := h.2
    show Ev _ 81 _ 4 [rA 2, (0, 47)] [(0, hr tx ((wu w 2 8 v) 2 6).toNat)] _
    refine e_ldi (show am_cd 81 4 = (2, 5, 1, 0, []) by decide +kernel) rfl ?_
    refine e_cmp0 (show am_cd 81 5 = (11, 8, 10, 0, []) by decide +kernel) (fun hc => ?_) (fun hc => ?_)
    · replace h := h.1 hc
      refine e_lda (v := 2) (show am_cd 81 10 = (2, 11, 0, 2, []) by decide +kernel) rfl ?_
      refine e_dup (show am_cd 81 11 = (13, 12, 0, 0, []) by decide +kernel) (by decide) ?_
      refine e_getfE (a := 2) (tg := 0) (v := w 2 6) (show am_cd 81 12 = (18, 15, 806, 0, [31]) by decide +kernel) (by decide +kernel) (by decide +kernel) rfl rfl ?_
      refine e_ic (show am_cd 81 15 = (0, 16, 0, 1, []) by decide +kernel) ?_
      refine e_iadd (show am_cd 81 16 = (5, 17, 0, 0, []) by decide +kernel) ?_
      refine e_putf (a := 2) (show am_cd 81 17 = (19, 20, 806, 0, [31]) by decide +kernel) (by decide +kernel) (by decide +kernel) rfl (fun h9 => absurd h9 (by decide)) (fun h9 => absurd h9 (by decide +kernel)) ?_
      refine e_ic (show am_cd 81 20 = (0, 21, 0, 1, []) by decide +kernel) ?_
      refine e_retz (show am_cd 81 21 = (36, 22, 0, 0, []) by decide +kernel) (by decide +kernel) (Or.inr rfl) ⟨fun _ h9 => (by cases h9), ?_⟩
      show Ev _ 88 _ 26 [rA 2, (0, mo)] [(0, 1)] _
      refine e_ifT (show am_cd 88 26 = (10, 29, 31, 1, []) by decide +kernel) (by decide +kernel) ?_
      refine e_lda (v := 2) (show am_cd 88 31 = (2, 32, 0, 2, []) by decide +kernel) rfl ?_
      refine e_lda (v := 2) (show am_cd 88 32 = (2, 33, 0, 2, []) by decide +kernel) rfl ?_
      refine e_lda (v := 2) (show am_cd 88 33 = (2, 34, 0, 2, []) by decide +kernel) rfl ?_
      refine e_getr (a := 2) (r := 7) (show am_cd 88 34 = (18, 37, 804, 2, [24]) by decide +kernel) (by decide +kernel) (by decide +kernel) rfl ?_
      refine e_ldi (show am_cd 88 37 = (2, 38, 1, 0, []) by decide +kernel) rfl ?_
      refine e_cV (z := 0) (a := 2) (as := [rA 7, (0, mo)]) (rest := [rA 2]) (show am_cd 88 38 = (40, 41, 89, 0, [62]) by decide +kernel) (by decide +kernel) rfl rfl (Nat.le_of_ble_eq_true rfl) rfl ?_
      exact h
    · replace h := h.2 hc
      refine e_ic (show am_cd 81 8 = (0, 9, 0, 0, []) by decide +kernel) ?_
      refine e_retz (show am_cd 81 9 = (36, 10, 0, 0, []) by decide +kernel) (by decide +kernel) (Or.inl rfl) ⟨fun _ h9 => (by cases h9), ?_⟩
      show Ev _ 88 _ 26 [rA 2, (0, mo)] [(0, 0)] _
      refine e_ifF (show am_cd 88 26 = (10, 29, 31, 1, []) by decide +kernel) (by decide +kernel) ?_
      refine e_ic (show am_cd 88 29 = (0, 30, 0, 0, []) by decide +kernel) ?_
      exact e_retz (show am_cd 88 30 = (36, 31, 0, 0, []) by decide +kernel) (by decide +kernel) (Or.inl rfl) h

theorem g_ttr2 {d : Nat} {Q : Option aV → aS → Prop} {w : eW} {t : eT} {mo v : Int} {tx : List Int} (h : ((w32 v ≤ 0 → Q (some (0, 0)) (enc (wu w 2 9 v) t)) ∧ (¬ (w32 v ≤ 0) → ((w32 (w 2 6) < w32 (w 2 5) → Q (some (0, 0)) (enc (wu w 2 9 v) t)) ∧ (¬ (w32 (w 2 6) < w32 (w 2 5)) → Q (some (0, 1)) (enc (wu w 2 9 v) t)))))) : Ev (d + 3) 88 Q 41 [rA 2, (0, mo)] [(0, v), rA 2] (enc w t) := by
  refine e_putf (a := 2) (show am_cd 88 41 = (19, 44, 809, 0, [69]) by decide +kernel) (by decide +kernel) (by decide +kernel) rfl (fun h9 => absurd h9 (by decide)) (fun h9 => absurd h9 (by decide +kernel)) ?_
  refine e_lda (v := 2) (show am_cd 88 44 = (2, 45, 0, 2, []) by decide +kernel) rfl ?_
  refine e_getfE (a := 2) (tg := 0) (v := v) (show am_cd 88 45 = (18, 48, 809, 0, [69]) by decide +kernel) (by decide +kernel) (by decide +kernel) rfl rfl ?_
  refine e_if5 (show am_cd 88 48 = (10, 51, 66, 5, []) by decide +kernel) (fun hc => ?_) (fun hc => ?_)
  · replace h := h.1 hc
    refine e_ic (show am_cd 88 66 = (0, 67, 0, 0, []) by decide +kernel) ?_
    exact e_retz (show am_cd 88 67 = (36, 68, 0, 0, []) by decide +kernel) (by decide +kernel) (Or.inl rfl) h
  · replace h := h.2 hc
    refine e_lda (v := 2) (show am_cd 88 51 = (2, 52, 0, 2, []) by decide +kernel) rfl ?_
    refine e_getfE (a := 2) (tg := 0) (v := w 2 6) (show am_cd 88 52 = (18, 55, 806, 0, [31]) by decide +kernel) (by decide +kernel) (by decide +kernel) rfl rfl ?_
    refine e_lda (v := 2) (show am_cd 88 55 = (2, 56, 0, 2, []) by decide +kernel) rfl ?_
    refine e_getfE (a := 2) (tg := 0) (v := w 2 5) (show am_cd 88 56 = (18, 59, 805, 0, [27]) by decide +kernel) (by decide +kernel) (by decide +kernel) rfl rfl ?_
    refine e_cmp2 (show am_cd 88 59 = (11, 62, 66, 2, []) by decide +kernel) (fun hc => ?_) (fun hc => ?_)
    · replace h := h.1 hc
      refine e_ic (show am_cd 88 66 = (0, 67, 0, 0, []) by decide +kernel) ?_
      exact e_retz (show am_cd 88 67 = (36, 68, 0, 0, []) by decide +kernel) (by decide +kernel) (Or.inl rfl) h
    · replace h := h.2 hc
      refine e_ic (show am_cd 88 62 = (0, 63, 0, 1, []) by decide +kernel) ?_
      refine e_go (show am_cd 88 63 = (12, 67, 0, 0, []) by decide +kernel) ?_
      exact e_retz (show am_cd 88 67 = (36, 68, 0, 0, []) by decide +kernel) (by decide +kernel) (Or.inr rfl) h

theorem LtC.fr {w w2 : eW} {A : Nat} {l : List Int} (h : LtC w A l) (e : w2 A = w A) : LtC w2 A l := fun i hi => by rw [e]; exact h i hi
def torQ (tx : List Int) (w : eW) (t : eT) (R : Except Nat (List Int)) (r : Option aV) (S2 : aS) : Prop := ∃ w2, S2 = enc w2 t ∧ Fc [6] [(2, 6), (2, 8)] w w2 ∧ TC w2 tx ∧ match R with
  | .error q => r = some (0, 0) ∧ w2 2 6 = (q : Int)
  | .ok l => r = some (0, 1) ∧ w2 2 8 = (l.length : Int) ∧ LtC w2 6 l ∧ (1 ≤ l.length ∧ l.length ≤ 6) ∧ ∀ v ∈ l, 0 ≤ v ∧ v ≤ 26
theorem c_takesOneRow {d k : Nat} {w : eW} {t : eT} {tx : List Int} (h : TC w tx ∧ w 2 6 = 0 ∧ k ≤ 6) : Cl (d + 3) 87 [rA 2, (0, (k : Int))] (enc w t) (torQ tx w t (lsR tx k)) := by
  obtain ⟨hT, h0, hk⟩ := h
  refine g_tor (tx := tx) ?_
  refine (c_tl6 (p := 0) hT h0 hk).mono (fun r S2 hq => ?_)
  obtain ⟨w2, e1, e2, f, hT2, e6, hl⟩ := hq
  subst e1 e2
  refine ⟨fun _ h9 => (by cases h9), g_tor1 (tx := tx) ?_⟩
  have hb := @ltsF_b tx k 0
  have hlen := hT.len
  have e : ([] : List Int).length + (ltsF tx k 0).length = (ltsF tx k 0).length := Nat.zero_add _
  rw [e, e6, hT2.2.1]
  rw [Nat.zero_add] at e6
  rw [Nat.zero_add]
  rw [List.nil_append] at hl
  have hb2 := hT2.b
  rw [e6] at hb2
  simp (disch := omega) only [w32_id]
  unfold lsR rdLs
  rw [Nat.zero_add]
  have fr : ∀ v, Fc [6] [(2, 6), (2, 8)] w (wu w2 2 8 v) := fun v => (f.mo (by decide) (by decide)).tr (Fc.pf (by decide))
  by_cases hn : ltsF tx k 0 = []
  · rw [if_pos hn]
    refine ⟨fun _ => ⟨_, rfl, fr _, hT2.fr rfl rfl rfl, rfl, ?_⟩, fun h9 => absurd (by rw [hn]; decide) h9⟩
    show w2 2 6 = _
    rw [e6, hn]; rfl
  · rw [if_neg hn]
    have hn1 : 1 ≤ (ltsF tx k 0).length := by
      cases h9 : ltsF tx k 0 with
      | nil => exact absurd h9 hn
      | cons a b => rw [List.length_cons]; omega
    refine ⟨fun h9 => by omega, fun _ => ⟨fun hc => ?_, fun hc => ?_⟩⟩
    · dsimp only
      rw [if_pos (by omega)]
      exact ⟨_, rfl, fr _, hT2.fr rfl rfl rfl, rfl, e6⟩
    · dsimp only
      rw [if_neg (by omega)]
      exact ⟨_, rfl, fr _, hT2.fr rfl rfl rfl, rfl, rfl, hl.fr rfl, ⟨hn1, by omega⟩, hb.1⟩
def ttrQ (tx : List Int) (w : eW) (t : eT) (R : Except Nat (List Int × List Int)) (r : Option aV) (S2 : aS) : Prop := ∃ w2, S2 = enc w2 t ∧ Fc [6, 7] [(2, 6), (2, 8), (2, 9)] w w2 ∧ TC w2 tx ∧ match R with
  | .error q => r = some (0, 0) ∧ w2 2 6 = (q : Int)
  | .ok x => r = some (0, 1) ∧ w2 2 8 = (x.1.length : Int) ∧ LtC w2 6 x.1 ∧ w2 2 9 = (x.2.length : Int) ∧ LtC w2 7 x.2 ∧ (1 ≤ x.1.length ∧ x.1.length ≤ 6) ∧ (1 ≤ x.2.length ∧ x.2.length ≤ 6) ∧ (∀ v ∈ x.1, 0 ≤ v ∧ v ≤ 26) ∧ ∀ v ∈ x.2, 0 ≤ v ∧ v ≤ 26
theorem c_takesTwoRows {d : Nat} {w : eW} {t : eT} {tx : List Int} (h : TC w tx ∧ w 2 6 = 0) : Cl (d + 3) 88 [rA 2, (0, 6)] (enc w t) (ttrQ tx w t (coR tx)) := by
  obtain ⟨hT, h0⟩ := h
  refine g_ttr (tx := tx) ?_
  refine (c_tl6 (p := 0) (mo := 6) hT h0 (by omega)).mono (fun r S2 hq => ?_)
  obtain ⟨w2, e1, e2, f, hT2, e6, hl⟩ := hq
  subst e1 e2
  refine ⟨fun _ h9 => (by cases h9), g_ttr1 (tx := tx) ?_⟩
  have hb := @ltsF_b tx 6 0
  have hlen := hT.len
  have e : ([] : List Int).length + (ltsF tx 6 0).length = (ltsF tx 6 0).length := Nat.zero_add _
  have e6' : wu w2 2 8 ((ltsF tx 6 0).length : Int) 2 6 = ((ltsF tx 6 0).length : Int) := by show w2 2 6 = _; rw [e6, Nat.zero_add]
  rw [e, e6']
  rw [Nat.zero_add] at e6
  rw [List.nil_append] at hl
  have hb2 := hT2.b
  rw [e6] at hb2
  rw [Int.toNat_natCast, e6]
  have hh := hT.hrb (ltsF tx 6 0).length
  simp (disch := omega) only [w32_id]
  have hcoR : coR tx = if ltsF tx 6 0 = [] then .error 0 else if hr tx (ltsF tx 6 0).length = 47 then (match rdLs tx 6 ((ltsF tx 6 0).length + 1) with
    | .error q => .error q
    | .ok z => if z.2 < tx.length then .error z.2 else .ok (ltsF tx 6 0, z.1)) else .error (ltsF tx 6 0).length := by
    unfold coR
    rw [show rdLs tx 6 0 = if ltsF tx 6 0 = [] then .error 0 else .ok (ltsF tx 6 0, 0 + (ltsF tx 6 0).length) from rfl]
    rw [Nat.zero_add]
    by_cases hn : ltsF tx 6 0 = []
    · rw [if_pos hn, if_pos hn]
    · rw [if_neg hn, if_neg hn]
      rfl
  rw [hcoR]
  generalize ltsF tx 6 0 = l1 at *
  have fr : Fc [6, 7] [(2, 6), (2, 8), (2, 9)] w (wu w2 2 8 (l1.length : Int)) := (f.mo (by decide) (by decide)).tr (Fc.pf (by decide))
  have hT3 : TC (wu w2 2 8 (l1.length : Int)) tx := hT2.fr rfl rfl rfl
  by_cases hn : l1 = []
  · rw [if_pos hn]
    refine ⟨fun _ => ⟨_, rfl, fr, hT3, rfl, ?_⟩, fun h9 => absurd (by rw [hn]; rfl) h9⟩
    show w2 2 6 = _
    rw [e6, hn]; rfl
  · rw [if_neg hn]
    have hn1 : 1 ≤ l1.length := by
      cases l1 with
      | nil => exact absurd rfl hn
      | cons a b => rw [List.length_cons]; omega
    refine ⟨fun h9 => by omega, fun _ => ⟨hT3, fun h47 => ?_, fun h47 => ?_⟩⟩
    · rw [if_pos h47]
      have hp1 := hr_in h47 (by decide)
      have hT4 : TC (wu (wu w2 2 8 (l1.length : Int)) 2 6 ((l1.length : Int) + 1)) tx := hT3.at (by omega)
      refine (c_tl7 (p := l1.length + 1) (mo := 6) hT4 (wu_eq _ _ _ _) (by omega)).mono (fun r S2 hq => ?_)
      obtain ⟨w3, e1, e2, f3, hT5, e7, hl3⟩ := hq
      subst e1 e2
      refine ⟨fun _ h9 => (by cases h9), g_ttr2 (tx := tx) ?_⟩
      have hb3 := @ltsF_b tx 6 (l1.length + 1)
      rw [show rdLs tx 6 (l1.length + 1) = if ltsF tx 6 (l1.length + 1) = [] then .error (l1.length + 1) else .ok (ltsF tx 6 (l1.length + 1), l1.length + 1 + (ltsF tx 6 (l1.length + 1)).length) from rfl]
      generalize ltsF tx 6 (l1.length + 1) = l2 at *
      have e9 : ([] : List Int).length + l2.length = l2.length := Nat.zero_add _
      rw [e9, e7, hT5.2.1]
      rw [List.nil_append] at hl3
      have hb5 := hT5.b
      rw [e7] at hb5
      simp (disch := omega) only [w32_id]
      have fr4 : Fc [6, 7] [(2, 6), (2, 8), (2, 9)] w (wu w3 2 9 (l2.length : Int)) := ((fr.tr (Fc.pf (by decide))).tr (f3.mo (by decide) (by decide))).tr (Fc.pf (by decide))
      have hT6 : TC (wu w3 2 9 (l2.length : Int)) tx := hT5.fr rfl rfl rfl
      by_cases hn2 : l2 = []
      · rw [if_pos hn2]
        refine ⟨fun _ => ⟨_, rfl, fr4, hT6, rfl, ?_⟩, fun h9 => absurd (by rw [hn2]; decide) h9⟩
        show w3 2 6 = _
        rw [e7, hn2]; rfl
      · rw [if_neg hn2]
        have hn3 : 1 ≤ l2.length := by
          cases l2 with
          | nil => exact absurd rfl hn2
          | cons a b => rw [List.length_cons]; omega
        dsimp only
        refine ⟨fun h9 => by omega, fun _ => ⟨fun hc => ?_, fun hc => ?_⟩⟩
        · rw [if_pos (by omega)]
          exact ⟨_, rfl, fr4, hT6, rfl, e7⟩
        · rw [if_neg (by omega)]
          have hl1' : LtC w3 6 l1 := by
            have : w3 6 = w2 6 := by
              rw [f3.row (by decide) (by decide)]; rfl
            exact hl.fr this
          refine ⟨_, rfl, fr4, hT6, rfl, ?_, hl1'.fr rfl, rfl, hl3.fr rfl, ⟨hn1, hb.2⟩, ⟨hn3, hb3.2⟩, hb.1, hb3.1⟩
          show w3 2 8 = _
          rw [f3 2 8 (by decide) (by decide)]
          rfl
    · rw [if_neg h47]
      exact ⟨_, rfl, fr, hT3, rfl, by show w2 2 6 = _; rw [e6]⟩

