/-! The class: frames, the text. -/
theorem gD_app {α : Type} {l l2 : List α} {d : α} {i : Nat} (h : i < l.length) : (l ++ l2).getD i d = l.getD i d := by simp [List.getD, List.getElem?_append_left h]
theorem gD_last {α : Type} {l : List α} {d x : α} : (l ++ [x]).getD l.length d = x := by simp [List.getD]
theorem gD_mem {α : Type} {l : List α} {d : α} {i : Nat} (h : i < l.length) : l.getD i d ∈ l := by simp [List.getD, h]
def Fc (R : List Nat) (F : List (Nat × Nat)) (w w2 : eW) : Prop := ∀ a k, a ∉ R → (a, k) ∉ F → w2 a k = w a k
theorem Fc.rf (R : List Nat) (F : List (Nat × Nat)) (w : eW) : Fc R F w w := fun _ _ _ _ => rfl
theorem Fc.tr {R : List Nat} {F : List (Nat × Nat)} {w a b : eW} (h : Fc R F w a) (h2 : Fc R F a b) : Fc R F w b := fun q k h3 h4 => by rw [h2 q k h3 h4, h q k h3 h4]
theorem Fc.mo {R R2 : List Nat} {F F2 : List (Nat × Nat)} {w w2 : eW} (h : Fc R F w w2) (hR : ∀ a ∈ R, a ∈ R2) (hF : ∀ a ∈ F, a ∈ F2) : Fc R2 F2 w w2 := fun a k h1 h2 => h a k (fun h9 => h1 (hR a h9)) (fun h9 => h2 (hF _ h9))
theorem Fc.pf {R : List Nat} {F : List (Nat × Nat)} {w : eW} {a k : Nat} {v : Int} (hk : (a, k) ∈ F) : Fc R F w (wu w a k v) := fun b j _ h2 => wu_ne _ _ (fun h9 => h2 (by rw [h9.1, h9.2]; exact hk))
theorem Fc.pr {R : List Nat} {F : List (Nat × Nat)} {w : eW} {a k : Nat} {v : Int} (ha : a ∈ R) : Fc R F w (wu w a k v) := fun b j h1 _ => wu_na _ _ (fun h9 => h1 (by rw [h9]; exact ha))
theorem Fc.row {R : List Nat} {F : List (Nat × Nat)} {w w2 : eW} (h : Fc R F w w2) {a : Nat} (h1 : a ∉ R) (h2 : F.all (fun p => decide (p.1 ≠ a)) = true) : w2 a = w a := by
  funext k
  refine h a k h1 (fun h9 => ?_)
  have := List.all_eq_true.mp h2 _ h9
  simp at this
theorem wu_wu (w : eW) (a k : Nat) (u v : Int) : wu (wu w a k u) a k v = wu w a k v := by
  funext q j
  unfold wu
  by_cases h : q = a ∧ j = k
  · rw [if_pos h, if_pos h]
  · rw [if_neg h, if_neg h, if_neg h]
theorem wu_same {w : eW} {a k : Nat} {v : Int} (h : w a k = v) : wu w a k v = w := by
  funext q j
  unfold wu
  by_cases h2 : q = a ∧ j = k
  · rw [if_pos h2, h2.1, h2.2, h]
  · rw [if_neg h2]
/-- the text of the class -/
def TC (w : eW) (tx : List Int) : Prop := TI w ∧ w 2 5 = (tx.length : Int) ∧ ∀ i, i < tx.length → w 3 i = tx.getD i 0
theorem TC.len {w : eW} {tx : List Int} (h : TC w tx) : tx.length ≤ 80 := by have := h.1.2.2.1; have := h.2.1; omega
theorem TC.b {w : eW} {tx : List Int} (h : TC w tx) : 0 ≤ w 2 6 ∧ w 2 6 ≤ (tx.length : Int) ∧ tx.length ≤ 80 := by have := h.1; have := h.2.1; have := h.len; unfold TI at *; omega
theorem TC.hrb {w : eW} {tx : List Int} (h : TC w tx) (p : Nat) : -1 ≤ hr tx p ∧ hr tx p ≤ 255 := by
  unfold hr
  split
  · next hp =>
    rw [← h.2.2 p hp]
    have := h.1.2.2.2 p (by have := h.len; omega)
    omega
  · omega
theorem TC.ahd {w : eW} {tx : List Int} (h : TC w tx) : ahead w = hr tx (w 2 6).toNat := by
  have hb := h.b
  unfold ahead hr
  rw [h.2.1]
  by_cases hc : (tx.length : Int) ≤ w 2 6
  · rw [if_pos hc, if_neg (by omega)]
  · rw [if_neg hc, if_pos (by omega), h.2.2 _ (by omega)]
theorem TC.at {w : eW} {tx : List Int} {v : Int} (h : TC w tx) (hv : 0 ≤ v ∧ v ≤ (tx.length : Int)) : TC (wu w 2 6 v) tx := by
  refine ⟨wu_TI h.1 (by rw [h.2.1]; exact hv), ?_, fun i hi => ?_⟩
  · rw [wu_ne _ _ (by decide)]; exact h.2.1
  · rw [wu_na _ _ (by decide)]; exact h.2.2 i hi
theorem TC.fr {w w2 : eW} {tx : List Int} (h : TC w tx) (h1 : w2 2 5 = w 2 5) (h2 : w2 2 6 = w 2 6) (h3 : w2 3 = w 3) : TC w2 tx := by
  refine ⟨?_, by rw [h1]; exact h.2.1, fun i hi => by rw [h3]; exact h.2.2 i hi⟩
  have := h.1
  unfold TI at *
  rw [h1, h2, h3]
  exact this
theorem TC.fc {w w2 : eW} {tx : List Int} {R : List Nat} {F : List (Nat × Nat)} (h : TC w tx) (hf : Fc R F w w2) (hR : 2 ∉ R ∧ 3 ∉ R) (hF : (2, 5) ∉ F ∧ (2, 6) ∉ F ∧ F.all (fun p => decide (p.1 ≠ 3)) = true) : TC w2 tx := h.fr (hf _ _ hR.1 hF.1) (hf _ _ hR.1 hF.2.1) (hf.row hR.2 hF.2.2)
theorem c_ahd {d : Nat} {w : eW} {t : eT} {tx : List Int} (h : TC w tx) : Cl d 80 [rA 2] (enc w t) (fun r S2 => r = some (0, hr tx (w 2 6).toNat) ∧ S2 = enc w t) := by
  rw [← h.ahd]
  exact c_ahead h.1
def cdI (s : Int) : Int := if s = 27 then 0 else s + 1
def caI (tx : List Int) (p : Nat) : Int := match sgO (hr tx p) with
  | some s => cdI s
  | none => -1
theorem codeOf_lt (c : Int) : codeOf c = (match ltO c with
    | some l => (l + 1 : Int)
    | none => (0 : Int) : Int) := by
  unfold codeOf ltO
  by_cases h1 : 97 ≤ c ∧ c ≤ 122
  · rw [if_pos h1, if_pos h1]; show c - 96 = c - 97 + 1; omega
  · rw [if_neg h1, if_neg h1]
    by_cases h2 : c = 43
    · rw [if_pos h2, if_pos h2]; rfl
    · rw [if_neg h2, if_neg h2]
theorem c_cah {d : Nat} {w : eW} {t : eT} {tx : List Int} (h : TC w tx) : Cl (d + 1) 82 [rA 2] (enc w t) (fun r S2 => r = some (0, caI tx (w 2 6).toNat) ∧ S2 = enc w t) := by
  have e : caI tx (w 2 6).toNat = codeAhead w := by
    unfold codeAhead caI
    rw [h.ahd]
    generalize hr tx (w 2 6).toNat = c
    rw [codeOf_lt c]
    unfold sgO
    by_cases h48 : c = 48
    · subst h48; decide
    · rw [if_neg h48]
      cases hl : ltO c with
      | none => dsimp only; rw [if_neg (by omega)]
      | some l =>
        have := ltO_b hl
        dsimp only
        unfold cdI
        rw [if_neg (by omega), if_pos (Or.inl (by show (0 : Int) < l + 1; omega))]
  rw [e]
  exact c_codeAhead h.1
theorem caI_n {tx : List Int} {p : Nat} : caI tx p = -1 ↔ sgO (hr tx p) = none := by
  unfold caI
  cases hs : sgO (hr tx p) with
  | none => simp
  | some s =>
    have hb : 0 ≤ s := by
      unfold sgO at hs
      split at hs
      · cases hs; decide
      · exact (ltO_b hs).1
    simp only [reduceCtorEq, iff_false]
    unfold cdI
    split <;> omega
theorem caI_s {tx : List Int} {p : Nat} {s : Int} (h : sgO (hr tx p) = some s) : caI tx p = cdI s ∧ (0 ≤ s ∧ s ≤ 27) ∧ p < tx.length := by
  refine ⟨by unfold caI; rw [h], ?_, ?_⟩
  · unfold sgO at h
    split at h
    · cases h; decide
    · have := ltO_b h; omega
  · apply Classical.byContradiction
    intro hp
    have : hr tx p = -1 := by unfold hr; rw [if_neg hp]
    rw [this, show sgO (-1) = none from rfl] at h
    cases h
theorem caI_b (tx : List Int) (p : Nat) : -1 ≤ caI tx p ∧ caI tx p ≤ 27 := by
  cases hs : sgO (hr tx p) with
  | none => rw [caI_n.mpr hs]; decide
  | some s =>
    obtain ⟨e, h, _⟩ := caI_s hs
    rw [e]
    unfold cdI
    split <;> omega
theorem cdI_0 {s : Int} (h : 0 ≤ s ∧ s ≤ 27) : cdI s = 0 ↔ s = 27 := by unfold cdI; split <;> omega
theorem cdI_b {s : Int} (h : 0 ≤ s ∧ s ≤ 27) : 0 ≤ cdI s ∧ cdI s ≤ 27 := by unfold cdI; split <;> omega
theorem cdI_i {s u : Int} (h : 0 ≤ s ∧ s ≤ 27) (h2 : 0 ≤ u ∧ u ≤ 27) : cdI s = cdI u ↔ s = u := by unfold cdI; split <;> split <;> omega
theorem hr_in {tx : List Int} {p : Nat} {c : Int} (h : hr tx p = c) (hc : 0 ≤ c) : p < tx.length := by
  apply Classical.byContradiction
  intro hp
  have : hr tx p = -1 := by unfold hr; rw [if_neg hp]
  omega

theorem g_takesPair {d : Nat} {Q : Option aV → aS → Prop} {w : eW} {t : eT} {tx : List Int} (h : (TC w tx) ∧ ((¬ w32 (caI tx (w 2 6).toNat) = w32 (-1) → (TC (wu w 2 6 ((w 2 6) + 1)) tx) ∧ ((w32 (hr tx ((wu w 2 6 ((w 2 6) + 1)) 2 6).toNat) = w32 58 → (TC (wu (wu w 2 6 ((w 2 6) + 1)) 2 6 (((w 2 6) + 1) + 1)) tx) ∧ ((w32 (caI tx ((wu (wu w 2 6 ((w 2 6) + 1)) 2 6 (((w 2 6) + 1) + 1)) 2 6).toNat) = w32 (-1) → Q (some (0, 0)) (enc (wu (wu w 2 6 ((w 2 6) + 1)) 2 6 (((w 2 6) + 1) + 1)) t)) ∧ (¬ (w32 (caI tx ((wu (wu w 2 6 ((w 2 6) + 1)) 2 6 (((w 2 6) + 1) + 1)) 2 6).toNat) = w32 (-1)) → ((¬ w32 (caI tx (w 2 6).toNat) = 0 → (0 ≤ w32 (w 2 7) ∧ w32 (w 2 7) < 16) ∧ (0 ≤ w32 (w 2 7) ∧ w32 (w 2 7) < 16) ∧ (Q (some (0, 1)) (enc (wu (wu (wu (wu (wu (wu w 2 6 ((w 2 6) + 1)) 2 6 (((w 2 6) + 1) + 1)) 2 6 ((((w 2 6) + 1) + 1) + 1)) 4 (w32 (w 2 7)).toNat (caI tx (w 2 6).toNat)) 5 (w32 (w 2 7)).toNat (caI tx ((wu (wu w 2 6 ((w 2 6) + 1)) 2 6 (((w 2 6) + 1) + 1)) 2 6).toNat)) 2 7 ((w 2 7) + 1)) t))) ∧ (¬ (¬ w32 (caI tx (w 2 6).toNat) = 0) → ((¬ w32 (caI tx ((wu (wu w 2 6 ((w 2 6) + 1)) 2 6 (((w 2 6) + 1) + 1)) 2 6).toNat) = 0 → (0 ≤ w32 (w 2 7) ∧ w32 (w 2 7) < 16) ∧ (0 ≤ w32 (w 2 7) ∧ w32 (w 2 7) < 16) ∧ (Q (some (0, 1)) (enc (wu (wu (wu (wu (wu (wu w 2 6 ((w 2 6) + 1)) 2 6 (((w 2 6) + 1) + 1)) 2 6 ((((w 2 6) + 1) + 1) + 1)) 4 (w32 (w 2 7)).toNat (caI tx (w 2 6).toNat)) 5 (w32 (w 2 7)).toNat (caI tx ((wu (wu w 2 6 ((w 2 6) + 1)) 2 6 (((w 2 6) + 1) + 1)) 2 6).toNat)) 2 7 ((w 2 7) + 1)) t))) ∧ (¬ (¬ w32 (caI tx ((wu (wu w 2 6 ((w 2 6) + 1)) 2 6 (((w 2 6) + 1) + 1)) 2 6).toNat) = 0) → Q (some (0, 0)) (enc (wu (wu w 2 6 ((w 2 6) + 1)) 2 6 (((w 2 6) + 1) + 1)) t)))))))) ∧ (¬ (w32 (hr tx ((wu w 2 6 ((w 2 6) + 1)) 2 6).toNat) = w32 58) → ((¬ w32 (caI tx (w 2 6).toNat) = 0 → (0 ≤ w32 (w 2 7) ∧ w32 (w 2 7) < 16) ∧ (0 ≤ w32 (w 2 7) ∧ w32 (w 2 7) < 16) ∧ (Q (some (0, 1)) (enc (wu (wu (wu (wu w 2 6 ((w 2 6) + 1)) 4 (w32 (w 2 7)).toNat (caI tx (w 2 6).toNat)) 5 (w32 (w 2 7)).toNat (caI tx (w 2 6).toNat)) 2 7 ((w 2 7) + 1)) t))) ∧ (¬ (¬ w32 (caI tx (w 2 6).toNat) = 0) → Q (some (0, 0)) (enc (wu w 2 6 ((w 2 6) + 1)) t)))))) ∧ (¬ (¬ w32 (caI tx (w 2 6).toNat) = w32 (-1)) → Q (some (0, 0)) (enc w t)))) : Cl (d + 2) 84 [rA 2] (enc w t) Q := by
  show Ev (d + 2) 84 Q 0 [rA 2, (9, 0), (9, 0)] [] (enc w t)
  refine e_lda (v := 2) (show am_cd 84 0 = (2, 1, 0, 2, []) by decide +kernel) rfl ?_
  refine e_cV (z := 0) (a := 2) (as := []) (rest := []) (show am_cd 84 1 = (40, 4, 82, 0, [53]) by decide +kernel) (by decide +kernel) rfl rfl (Nat.le_of_ble_eq_true rfl) rfl ?_
  refine Cl.mono (Cl.up (c_cah (tx := tx) (d := d) h.1) (by omega)) ?_
  rintro _ _ ⟨rfl, rfl⟩
  refine ⟨fun _ h9 => (by cases h9), ?_⟩
  replace h := h.2
  show Ev _ 84 _ 4 [rA 2, (9, 0), (9, 0)] [(0, caI tx (w 2 6).toNat)] _
  refine e_sti (la2 := [rA 2, (0, caI tx (w 2 6).toNat), (9, 0)]) (show am_cd 84 4 = (3, 5, 1, 0, []) by decide +kernel) rfl ?_
  refine e_ldi (show am_cd 84 5 = (2, 6, 1, 0, []) by decide +kernel) rfl ?_
  refine e_ic (show am_cd 84 6 = (0, 7, 0, -1, []) by decide +kernel) ?_
  refine e_cmp1 (show am_cd 84 7 = (11, 10, 12, 1, []) by decide +kernel) (fun hc => ?_) (fun hc => ?_)
  · replace h := h.1 hc
    refine e_lda (v := 2) (show am_cd 84 12 = (2, 13, 0, 2, []) by decide +kernel) rfl ?_
    refine e_dup (show am_cd 84 13 = (13, 14, 0, 0, []) by decide +kernel) (by decide) ?_
    refine e_getf (a := 2) (tg := 0) (show am_cd 84 14 = (18, 17, 806, 0, [31]) by decide +kernel) (by decide +kernel) (by decide +kernel) rfl ?_
    refine e_ic (show am_cd 84 17 = (0, 18, 0, 1, []) by decide +kernel) ?_
    refine e_iadd (show am_cd 84 18 = (5, 19, 0, 0, []) by decide +kernel) ?_
    refine e_putf (a := 2) (show am_cd 84 19 = (19, 22, 806, 0, [31]) by decide +kernel) (by decide +kernel) (by decide +kernel) rfl (fun h9 => absurd h9 (by decide)) (fun h9 => absurd h9 (by decide +kernel)) ?_
    refine e_ldi (show am_cd 84 22 = (2, 23, 1, 0, []) by decide +kernel) rfl ?_
    refine e_sti (la2 := [rA 2, (0, caI tx (w 2 6).toNat), (0, caI tx (w 2 6).toNat)]) (show am_cd 84 23 = (3, 24, 2, 0, []) by decide +kernel) rfl ?_
    refine e_lda (v := 2) (show am_cd 84 24 = (2, 25, 0, 2, []) by decide +kernel) rfl ?_
    refine e_ic (show am_cd 84 25 = (0, 27, 1, 58, []) by decide +kernel) ?_
    refine e_cV (z := 0) (a := 2) (as := [(0, 58)]) (rest := []) (show am_cd 84 27 = (40, 30, 81, 0, [49]) by decide +kernel) (by decide +kernel) rfl rfl (Nat.le_of_ble_eq_true rfl) rfl ?_
    show Ev _ 81 _ 0 [rA 2, (0, 58)] [] _
    refine e_lda (v := 2) (show am_cd 81 0 = (2, 1, 0, 2, []) by decide +kernel) rfl ?_
    refine e_cV (z := 0) (a := 2) (as := []) (rest := []) (show am_cd 81 1 = (40, 4, 80, 0, [34]) by decide +kernel) (by decide +kernel) rfl rfl (Nat.le_of_ble_eq_true rfl) rfl ?_
    refine Cl.mono (Cl.up (c_ahd (tx := tx) (d := d) h.1) (by omega)) ?_
    rintro _ _ ⟨rfl, rfl⟩
    refine ⟨fun _ h9 => (by cases h9), ?_⟩
    replace h := h.2
    show Ev _ 81 _ 4 [rA 2, (0, 58)] [(0, hr tx ((wu w 2 6 ((w 2 6) + 1)) 2 6).toNat)] _
    refine e_ldi (show am_cd 81 4 = (2, 5, 1, 0, []) by decide +kernel) rfl ?_
    refine e_cmp0 (show am_cd 81 5 = (11, 8, 10, 0, []) by decide +kernel) (fun hc => ?_) (fun hc => ?_)
    · replace h := h.1 hc
      refine e_lda (v := 2) (show am_cd 81 10 = (2, 11, 0, 2, []) by decide +kernel) rfl ?_
      refine e_dup (show am_cd 81 11 = (13, 12, 0, 0, []) by decide +kernel) (by decide) ?_
      refine e_getfE (a := 2) (tg := 0) (v := (w 2 6) + 1) (show am_cd 81 12 = (18, 15, 806, 0, [31]) by decide +kernel) (by decide +kernel) (by decide +kernel) rfl rfl ?_
      refine e_ic (show am_cd 81 15 = (0, 16, 0, 1, []) by decide +kernel) ?_
      refine e_iadd (show am_cd 81 16 = (5, 17, 0, 0, []) by decide +kernel) ?_
      refine e_putf (a := 2) (show am_cd 81 17 = (19, 20, 806, 0, [31]) by decide +kernel) (by decide +kernel) (by decide +kernel) rfl (fun h9 => absurd h9 (by decide)) (fun h9 => absurd h9 (by decide +kernel)) ?_
      refine e_ic (show am_cd 81 20 = (0, 21, 0, 1, []) by decide +kernel) ?_
      refine e_retz (show am_cd 81 21 = (36, 22, 0, 0, []) by decide +kernel) (by decide +kernel) (Or.inr rfl) ⟨fun _ h9 => (by cases h9), ?_⟩
      show Ev _ 84 _ 30 [rA 2, (0, caI tx (w 2 6).toNat), (0, caI tx (w 2 6).toNat)] [(0, 1)] _
      refine e_ifF (show am_cd 84 30 = (10, 33, 66, 0, []) by decide +kernel) (by decide +kernel) ?_
      refine e_lda (v := 2) (show am_cd 84 33 = (2, 34, 0, 2, []) by decide +kernel) rfl ?_
      refine e_cV (z := 0) (a := 2) (as := []) (rest := []) (show am_cd 84 34 = (40, 37, 82, 0, [53]) by decide +kernel) (by decide +kernel) rfl rfl (Nat.le_of_ble_eq_true rfl) rfl ?_
      refine Cl.mono (Cl.up (c_cah (tx := tx) (d := d) h.1) (by omega)) ?_
      rintro _ _ ⟨rfl, rfl⟩
      refine ⟨fun _ h9 => (by cases h9), ?_⟩
      replace h := h.2
      show Ev _ 84 _ 37 [rA 2, (0, caI tx (w 2 6).toNat), (0, caI tx (w 2 6).toNat)] [(0, caI tx ((wu (wu w 2 6 ((w 2 6) + 1)) 2 6 (((w 2 6) + 1) + 1)) 2 6).toNat)] _
      refine e_sti (la2 := [rA 2, (0, caI tx (w 2 6).toNat), (0, caI tx ((wu (wu w 2 6 ((w 2 6) + 1)) 2 6 (((w 2 6) + 1) + 1)) 2 6).toNat)]) (show am_cd 84 37 = (3, 38, 2, 0, []) by decide +kernel) rfl ?_
      refine e_ldi (show am_cd 84 38 = (2, 39, 2, 0, []) by decide +kernel) rfl ?_
      refine e_ic (show am_cd 84 39 = (0, 40, 0, -1, []) by decide +kernel) ?_
      refine e_cmp0 (show am_cd 84 40 = (11, 43, 51, 0, []) by decide +kernel) (fun hc => ?_) (fun hc => ?_)
      · replace h := h.1 hc
        refine e_ic (show am_cd 84 51 = (0, 52, 0, 0, []) by decide +kernel) ?_
        exact e_retz (show am_cd 84 52 = (36, 53, 0, 0, []) by decide +kernel) (by decide +kernel) (Or.inl rfl) h
      · replace h := h.2 hc
        refine e_ldi (show am_cd 84 43 = (2, 44, 1, 0, []) by decide +kernel) rfl ?_
        refine e_if1 (show am_cd 84 44 = (10, 47, 53, 1, []) by decide +kernel) (fun hc => ?_) (fun hc => ?_)
        · replace h := h.1 hc
          refine e_lda (v := 2) (show am_cd 84 53 = (2, 54, 0, 2, []) by decide +kernel) rfl ?_
          refine e_dup (show am_cd 84 54 = (13, 55, 0, 0, []) by decide +kernel) (by decide) ?_
          refine e_getfE (a := 2) (tg := 0) (v := ((w 2 6) + 1) + 1) (show am_cd 84 55 = (18, 58, 806, 0, [31]) by decide +kernel) (by decide +kernel) (by decide +kernel) rfl rfl ?_
          refine e_ic (show am_cd 84 58 = (0, 59, 0, 1, []) by decide +kernel) ?_
          refine e_iadd (show am_cd 84 59 = (5, 60, 0, 0, []) by decide +kernel) ?_
          refine e_putf (a := 2) (show am_cd 84 60 = (19, 63, 806, 0, [31]) by decide +kernel) (by decide +kernel) (by decide +kernel) rfl (fun h9 => absurd h9 (by decide)) (fun h9 => absurd h9 (by decide +kernel)) ?_
          refine e_go (show am_cd 84 63 = (12, 72, 0, 0, []) by decide +kernel) ?_
          refine e_lda (v := 2) (show am_cd 84 72 = (2, 73, 0, 2, []) by decide +kernel) rfl ?_
          refine e_getr (a := 2) (r := 4) (show am_cd 84 73 = (18, 76, 801, 2, [15]) by decide +kernel) (by decide +kernel) (by decide +kernel) rfl ?_
          refine e_lda (v := 2) (show am_cd 84 76 = (2, 77, 0, 2, []) by decide +kernel) rfl ?_
          refine e_getfE (a := 2) (tg := 0) (v := w 2 7) (show am_cd 84 77 = (18, 80, 807, 0, [42]) by decide +kernel) (by decide +kernel) (by decide +kernel) rfl rfl ?_
          refine e_ldi (show am_cd 84 80 = (2, 81, 1, 0, []) by decide +kernel) rfl ?_
          refine e_iast (a := 4) (n := 16) (show am_cd 84 81 = (24, 82, 0, 0, []) by decide +kernel) (by decide +kernel) (by decide +kernel) (by decide +kernel) h.1 ?_
          replace h := h.2
          refine e_lda (v := 2) (show am_cd 84 82 = (2, 83, 0, 2, []) by decide +kernel) rfl ?_
          refine e_getr (a := 2) (r := 5) (show am_cd 84 83 = (18, 86, 802, 2, [18]) by decide +kernel) (by decide +kernel) (by decide +kernel) rfl ?_
          refine e_lda (v := 2) (show am_cd 84 86 = (2, 87, 0, 2, []) by decide +kernel) rfl ?_
          refine e_getfE (a := 2) (tg := 0) (v := w 2 7) (show am_cd 84 87 = (18, 90, 807, 0, [42]) by decide +kernel) (by decide +kernel) (by decide +kernel) rfl rfl ?_
          refine e_ldi (show am_cd 84 90 = (2, 91, 2, 0, []) by decide +kernel) rfl ?_
          refine e_iast (a := 5) (n := 16) (show am_cd 84 91 = (24, 92, 0, 0, []) by decide +kernel) (by decide +kernel) (by decide +kernel) (by decide +kernel) h.1 ?_
          replace h := h.2
          refine e_lda (v := 2) (show am_cd 84 92 = (2, 93, 0, 2, []) by decide +kernel) rfl ?_
          refine e_dup (show am_cd 84 93 = (13, 94, 0, 0, []) by decide +kernel) (by decide) ?_
          refine e_getfE (a := 2) (tg := 0) (v := w 2 7) (show am_cd 84 94 = (18, 97, 807, 0, [42]) by decide +kernel) (by decide +kernel) (by decide +kernel) rfl rfl ?_
          refine e_ic (show am_cd 84 97 = (0, 98, 0, 1, []) by decide +kernel) ?_
          refine e_iadd (show am_cd 84 98 = (5, 99, 0, 0, []) by decide +kernel) ?_
          refine e_putf (a := 2) (show am_cd 84 99 = (19, 102, 807, 0, [42]) by decide +kernel) (by decide +kernel) (by decide +kernel) rfl (fun h9 => absurd h9 (by decide)) (fun h9 => absurd h9 (by decide +kernel)) ?_
          refine e_ic (show am_cd 84 102 = (0, 103, 0, 1, []) by decide +kernel) ?_
          exact e_retz (show am_cd 84 103 = (36, 104, 0, 0, []) by decide +kernel) (by decide +kernel) (Or.inr rfl) h
        · replace h := h.2 hc
          refine e_ldi (show am_cd 84 47 = (2, 48, 2, 0, []) by decide +kernel) rfl ?_
          refine e_if1 (show am_cd 84 48 = (10, 51, 53, 1, []) by decide +kernel) (fun hc => ?_) (fun hc => ?_)
          · replace h := h.1 hc
            refine e_lda (v := 2) (show am_cd 84 53 = (2, 54, 0, 2, []) by decide +kernel) rfl ?_
            refine e_dup (show am_cd 84 54 = (13, 55, 0, 0, []) by decide +kernel) (by decide) ?_
            refine e_getfE (a := 2) (tg := 0) (v := ((w 2 6) + 1) + 1) (show am_cd 84 55 = (18, 58, 806, 0, [31]) by decide +kernel) (by decide +kernel) (by decide +kernel) rfl rfl ?_
            refine e_ic (show am_cd 84 58 = (0, 59, 0, 1, []) by decide +kernel) ?_
            refine e_iadd (show am_cd 84 59 = (5, 60, 0, 0, []) by decide +kernel) ?_
            refine e_putf (a := 2) (show am_cd 84 60 = (19, 63, 806, 0, [31]) by decide +kernel) (by decide +kernel) (by decide +kernel) rfl (fun h9 => absurd h9 (by decide)) (fun h9 => absurd h9 (by decide +kernel)) ?_
            refine e_go (show am_cd 84 63 = (12, 72, 0, 0, []) by decide +kernel) ?_
            refine e_lda (v := 2) (show am_cd 84 72 = (2, 73, 0, 2, []) by decide +kernel) rfl ?_
            refine e_getr (a := 2) (r := 4) (show am_cd 84 73 = (18, 76, 801, 2, [15]) by decide +kernel) (by decide +kernel) (by decide +kernel) rfl ?_
            refine e_lda (v := 2) (show am_cd 84 76 = (2, 77, 0, 2, []) by decide +kernel) rfl ?_
            refine e_getfE (a := 2) (tg := 0) (v := w 2 7) (show am_cd 84 77 = (18, 80, 807, 0, [42]) by decide +kernel) (by decide +kernel) (by decide +kernel) rfl rfl ?_
            refine e_ldi (show am_cd 84 80 = (2, 81, 1, 0, []) by decide +kernel) rfl ?_
            refine e_iast (a := 4) (n := 16) (show am_cd 84 81 = (24, 82, 0, 0, []) by decide +kernel) (by decide +kernel) (by decide +kernel) (by decide +kernel) h.1 ?_
            replace h := h.2
            refine e_lda (v := 2) (show am_cd 84 82 = (2, 83, 0, 2, []) by decide +kernel) rfl ?_
            refine e_getr (a := 2) (r := 5) (show am_cd 84 83 = (18, 86, 802, 2, [18]) by decide +kernel) (by decide +kernel) (by decide +kernel) rfl ?_
            refine e_lda (v := 2) (show am_cd 84 86 = (2, 87, 0, 2, []) by decide +kernel) rfl ?_
            refine e_getfE (a := 2) (tg := 0) (v := w 2 7) (show am_cd 84 87 = (18, 90, 807, 0, [42]) by decide +kernel) (by decide +kernel) (by decide +kernel) rfl rfl ?_
            refine e_ldi (show am_cd 84 90 = (2, 91, 2, 0, []) by decide +kernel) rfl ?_
            refine e_iast (a := 5) (n := 16) (show am_cd 84 91 = (24, 92, 0, 0, []) by decide +kernel) (by decide +kernel) (by decide +kernel) (by decide +kernel) h.1 ?_
            replace h := h.2
            refine e_lda (v := 2) (show am_cd 84 92 = (2, 93, 0, 2, []) by decide +kernel) rfl ?_
            refine e_dup (show am_cd 84 93 = (13, 94, 0, 0, []) by decide +kernel) (by decide) ?_
            refine e_getfE (a := 2) (tg := 0) (v := w 2 7) (show am_cd 84 94 = (18, 97, 807, 0, [42]) by decide +kernel) (by decide +kernel) (by decide +kernel) rfl rfl ?_
            refine e_ic (show am_cd 84 97 = (0, 98, 0, 1, []) by decide +kernel) ?_
            refine e_iadd (show am_cd 84 98 = (5, 99, 0, 0, []) by decide +kernel) ?_
            refine e_putf (a := 2) (show am_cd 84 99 = (19, 102, 807, 0, [42]) by decide +kernel) (by decide +kernel) (by decide +kernel) rfl (fun h9 => absurd h9 (by decide)) (fun h9 => absurd h9 (by decide +kernel)) ?_
            refine e_ic (show am_cd 84 102 = (0, 103, 0, 1, []) by decide +kernel) ?_
            exact e_retz (show am_cd 84 103 = (36, 104, 0, 0, []) by decide +kernel) (by decide +kernel) (Or.inr rfl) h
          · replace h := h.2 hc
            refine e_ic (show am_cd 84 51 = (0, 52, 0, 0, []) by decide +kernel) ?_
            exact e_retz (show am_cd 84 52 = (36, 53, 0, 0, []) by decide +kernel) (by decide +kernel) (Or.inl rfl) h
    · replace h := h.2 hc
      refine e_ic (show am_cd 81 8 = (0, 9, 0, 0, []) by decide +kernel) ?_
      refine e_retz (show am_cd 81 9 = (36, 10, 0, 0, []) by decide +kernel) (by decide +kernel) (Or.inl rfl) ⟨fun _ h9 => (by cases h9), ?_⟩
      show Ev _ 84 _ 30 [rA 2, (0, caI tx (w 2 6).toNat), (0, caI tx (w 2 6).toNat)] [(0, 0)] _
      refine e_ifT (show am_cd 84 30 = (10, 33, 66, 0, []) by decide +kernel) (by decide +kernel) ?_
      refine e_ldi (show am_cd 84 66 = (2, 67, 1, 0, []) by decide +kernel) rfl ?_
      refine e_if1 (show am_cd 84 67 = (10, 70, 72, 1, []) by decide +kernel) (fun hc => ?_) (fun hc => ?_)
      · replace h := h.1 hc
        refine e_lda (v := 2) (show am_cd 84 72 = (2, 73, 0, 2, []) by decide +kernel) rfl ?_
        refine e_getr (a := 2) (r := 4) (show am_cd 84 73 = (18, 76, 801, 2, [15]) by decide +kernel) (by decide +kernel) (by decide +kernel) rfl ?_
        refine e_lda (v := 2) (show am_cd 84 76 = (2, 77, 0, 2, []) by decide +kernel) rfl ?_
        refine e_getfE (a := 2) (tg := 0) (v := w 2 7) (show am_cd 84 77 = (18, 80, 807, 0, [42]) by decide +kernel) (by decide +kernel) (by decide +kernel) rfl rfl ?_
        refine e_ldi (show am_cd 84 80 = (2, 81, 1, 0, []) by decide +kernel) rfl ?_
        refine e_iast (a := 4) (n := 16) (show am_cd 84 81 = (24, 82, 0, 0, []) by decide +kernel) (by decide +kernel) (by decide +kernel) (by decide +kernel) h.1 ?_
        replace h := h.2
        refine e_lda (v := 2) (show am_cd 84 82 = (2, 83, 0, 2, []) by decide +kernel) rfl ?_
        refine e_getr (a := 2) (r := 5) (show am_cd 84 83 = (18, 86, 802, 2, [18]) by decide +kernel) (by decide +kernel) (by decide +kernel) rfl ?_
        refine e_lda (v := 2) (show am_cd 84 86 = (2, 87, 0, 2, []) by decide +kernel) rfl ?_
        refine e_getfE (a := 2) (tg := 0) (v := w 2 7) (show am_cd 84 87 = (18, 90, 807, 0, [42]) by decide +kernel) (by decide +kernel) (by decide +kernel) rfl rfl ?_
        refine e_ldi (show am_cd 84 90 = (2, 91, 2, 0, []) by decide +kernel) rfl ?_
        refine e_iast (a := 5) (n := 16) (show am_cd 84 91 = (24, 92, 0, 0, []) by decide +kernel) (by decide +kernel) (by decide +kernel) (by decide +kernel) h.1 ?_
        replace h := h.2
        refine e_lda (v := 2) (show am_cd 84 92 = (2, 93, 0, 2, []) by decide +kernel) rfl ?_
        refine e_dup (show am_cd 84 93 = (13, 94, 0, 0, []) by decide +kernel) (by decide) ?_
        refine e_getfE (a := 2) (tg := 0) (v := w 2 7) (show am_cd 84 94 = (18, 97, 807, 0, [42]) by decide +kernel) (by decide +kernel) (by decide +kernel) rfl rfl ?_
        refine e_ic (show am_cd 84 97 = (0, 98, 0, 1, []) by decide +kernel) ?_
        refine e_iadd (show am_cd 84 98 = (5, 99, 0, 0, []) by decide +kernel) ?_
        refine e_putf (a := 2) (show am_cd 84 99 = (19, 102, 807, 0, [42]) by decide +kernel) (by decide +kernel) (by decide +kernel) rfl (fun h9 => absurd h9 (by decide)) (fun h9 => absurd h9 (by decide +kernel)) ?_
        refine e_ic (show am_cd 84 102 = (0, 103, 0, 1, []) by decide +kernel) ?_
        exact e_retz (show am_cd 84 103 = (36, 104, 0, 0, []) by decide +kernel) (by decide +kernel) (Or.inr rfl) h
      · replace h := h.2 hc
        refine e_ic (show am_cd 84 70 = (0, 71, 0, 0, []) by decide +kernel) ?_
        exact e_retz (show am_cd 84 71 = (36, 72, 0, 0, []) by decide +kernel) (by decide +kernel) (Or.inl rfl) h
  · replace h := h.2 hc
    refine e_ic (show am_cd 84 10 = (0, 11, 0, 0, []) by decide +kernel) ?_
    exact e_retz (show am_cd 84 11 = (36, 12, 0, 0, []) by decide +kernel) (by decide +kernel) (Or.inl rfl) h

def tpQ (tx : List Int) (w : eW) (t : eT) (p n : Nat) (r : Option aV) (S2 : aS) : Prop := match rdP tx p with
  | .error q => r = some (0, 0) ∧ S2 = enc (wu w 2 6 (q : Int)) t
  | .ok y => r = some (0, 1) ∧ S2 = enc (wu (wu (wu (wu w 2 6 (y.2 : Int)) 4 n (cdI y.1.1)) 5 n (cdI y.1.2)) 2 7 ((n : Int) + 1)) t ∧ y.2 ≤ tx.length
theorem c_takesPair {d p n : Nat} {w : eW} {t : eT} {tx : List Int} (h : TC w tx) (hp : w 2 6 = (p : Int)) (hn : w 2 7 = (n : Int)) (hn2 : n < 16) : Cl (d + 2) 84 [rA 2] (enc w t) (tpQ tx w t p n) := by
  have hb := h.b
  have hc1 := caI_b tx p
  have e1 : (w 2 6).toNat = p := by omega
  have e2 : (w 2 7).toNat = n := by omega
  refine g_takesPair ⟨h, ?_⟩
  simp only [wu_wu, wu_eq, hp, hn, Int.toNat_natCast, show ∀ x : Nat, ((x : Int) + 1).toNat = x + 1 from fun x => by omega, show ∀ x : Nat, ((x : Int) + 1 + 1).toNat = x + 2 from fun x => by omega, w32_id (x := (n : Int)) (by omega)]
  have hc2 := caI_b tx (p + 2)
  have hh := h.hrb (p + 1)
  simp (disch := omega) only [w32_id]
  unfold tpQ rdP rdS
  refine ⟨fun hc => ?_, fun hc => ?_⟩
  · cases hs : sgO (hr tx p) with
    | none => exact absurd (caI_n.mpr hs) hc
    | some s =>
      obtain ⟨es, hs1, hpl⟩ := caI_s hs
      dsimp only
      refine ⟨h.at (by omega), fun h58 => ?_, fun h58 => ?_⟩
      · have hp1 := hr_in h58 (by decide)
        refine ⟨h.at (by omega), fun hm => ?_, fun hm => ?_⟩
        · have hs2 := caI_n.mp hm
          by_cases h27 : s = 27
          · rw [if_pos h27, if_pos h58]
            have : ltO (hr tx (p + 1 + 1)) = none := by
              have h7 : sgO (hr tx (p + 2)) = none := hs2
              unfold sgO at h7
              split at h7
              · cases h7
              · exact h7
            unfold rdL
            rw [this]
            exact ⟨rfl, rfl⟩
          · rw [if_neg h27, if_pos h58, show p + 1 + 1 = p + 2 from rfl, hs2]
            exact ⟨rfl, rfl⟩
        · cases hs2 : sgO (hr tx (p + 2)) with
          | none => exact absurd (caI_n.mpr hs2) hm
          | some s2 =>
            obtain ⟨es2, hs21, hpl2⟩ := caI_s hs2
            refine ⟨fun h0 => ?_, fun h0 => ?_⟩
            · have h27 : ¬ s = 27 := fun h9 => h0 (by rw [es, h9]; rfl)
              rw [if_neg h27, if_pos h58, es, es2]
              exact ⟨by omega, by omega, rfl, rfl, by show p + 2 + 1 ≤ _; omega⟩
            · have h27 : s = 27 := by
                have : caI tx p = 0 := by omega
                rw [es] at this
                exact (cdI_0 hs1).mp this
              rw [if_pos h27, if_pos h58]
              refine ⟨fun h3 => ?_, fun h3 => ?_⟩
              · have h7 : ltO (hr tx (p + 1 + 1)) = some s2 := by
                  have h7 : sgO (hr tx (p + 2)) = some s2 := hs2
                  unfold sgO at h7
                  split at h7
                  · cases h7; exact absurd (by rw [es2]; rfl) h3
                  · exact h7
                unfold rdL
                rw [h7, es, es2, h27]
                exact ⟨by omega, by omega, rfl, rfl, by show p + 2 + 1 ≤ _; omega⟩
              · have h7 : ltO (hr tx (p + 1 + 1)) = none := by
                  have h8 : caI tx (p + 2) = 0 := by omega
                  rw [es2] at h8
                  have h9 := (cdI_0 hs21).mp h8
                  have h7 : sgO (hr tx (p + 2)) = some s2 := hs2
                  unfold sgO at h7
                  split at h7
                  · next h48 => rw [show p + 1 + 1 = p + 2 from rfl, h48]; rfl
                  · exact absurd h9 (ltO_27 h7)
                unfold rdL
                rw [h7]
                exact ⟨rfl, rfl⟩
      · refine ⟨fun h0 => ?_, fun h0 => ?_⟩
        · have h27 : ¬ s = 27 := fun h9 => h0 (by rw [es, h9]; rfl)
          rw [if_neg h27, if_neg h58, es]
          exact ⟨by omega, by omega, rfl, rfl, by show p + 1 ≤ _; omega⟩
        · have h27 : s = 27 := by
            have : caI tx p = 0 := by omega
            rw [es] at this
            exact (cdI_0 hs1).mp this
          rw [if_pos h27, if_neg h58]
          exact ⟨rfl, rfl⟩
  · have hs := caI_n.mp (Classical.not_not.mp hc)
    rw [hs]
    exact ⟨rfl, by rw [wu_same hp]⟩

