/-! The model: clashes. -/
def lsT (l : List Nat) : Nat := l.getLastD 16
theorem lsT_app (l : List Nat) (d : Nat) : lsT (l ++ [d]) = d := by
  unfold lsT
  simp
theorem lsT_nil : lsT [] = 16 := rfl
theorem lsT_at {l : List Nat} (h : 0 < l.length) : l.getD (l.length - 1) 0 = lsT l := by
  unfold lsT
  match l, h with
  | x :: l, _ => simp [List.getD_eq_getElem?_getD, List.getLastD_eq_getLast?, List.getLast?_eq_getElem?]
theorem lsT_lt {l : List Nat} {n : Nat} (h : ∀ p ∈ l, p < n) : lsT l < n ∨ lsT l = 16 := by
  by_cases hl : 0 < l.length
  · left
    rw [← lsT_at hl, List.getD_eq_getElem?_getD, List.getElem?_eq_getElem (by omega)]
    exact h _ (List.getElem_mem _)
  · right
    have : l = [] := List.length_eq_zero_iff.mp (by omega)
    rw [this]
    rfl
def hit (m : eW) (a b : Nat) (l : List Nat) : Bool := !decide (clF m a b l = l.length)
theorem clI_hit {m : eW} {a b : Nat} {l : List Nat} : clI m a b l = -1 ↔ hit m a b l = false := by
  unfold clI hit
  by_cases h : clF m a b l = l.length
  · rw [if_pos h, decide_eq_true h]; simp
  · rw [if_neg h, decide_eq_false h]
    constructor
    · intro h9; omega
    · intro h9; cases h9
def fnd (m : eW) (a b n : Nat) (ml : List Nat) : Option (List Nat) := (rwL m (n - ml.length) (lsT ml)).find? (fun l => hit m a b (ml ++ l))
def KPR (m : eW) (B : Nat) (ml : List Nat) (a b n : Int) (w : eW) (_ : eT) : Prop := MG w m ∧ gR m a ∧ gR m b ∧ MdM w ml ∧ (∀ p ∈ ml, p < nP m) ∧ (ml.length : Int) ≤ n ∧ n ≤ 4 ∧ n.toNat - ml.length < B
def KPO (m : eW) (ml : List Nat) (a b n : Int) (w : eW) (t : eT) (x : Int) (w2 : eW) (t2 : eT) : Prop := x = bI (fnd m a.toNat b.toNat n.toNat ml).isSome ∧ t2 = t ∧ Fm [94] [40, 46] w w2 ∧ MdM w2 (ml ++ (fnd m a.toNat b.toNat n.toNat ml).getD []) ∧ ((fnd m a.toNat b.toNat n.toNat ml).isSome = true → w2 67 46 = clI m a.toNat b.toNat (ml ++ (fnd m a.toNat b.toNat n.toNat ml).getD []))

theorem g_clashes0 {d : Nat} {Q : Option aV → aS → Prop} {w : eW} {t : eT} {a b n : Int} {m : eW} {ml : List Nat} {wo : Int} (h : ((¬ w32 (w 67 40) = w32 n → Ev (d + 5) 224 Q 35 [rA 67, (0, a), (0, b), (0, n), (0, 0)] [] (enc w t)) ∧ (¬ (¬ w32 (w 67 40) = w32 n) → (MG w m ∧ gR m a ∧ gR m b ∧ MdM w ml ∧ (∀ p ∈ ml, p < nP m)) ∧ ((w32 (clI m a.toNat b.toNat ml) = w32 (-1) → Q (some (0, 0)) (enc (wu w 67 46 (clI m a.toNat b.toNat ml)) t)) ∧ (¬ (w32 (clI m a.toNat b.toNat ml) = w32 (-1)) → Q (some (0, 1)) (enc (wu w 67 46 (clI m a.toNat b.toNat ml)) t)))))) : Cl (d + 5) 224 [rA 67, (0, a), (0, b), (0, n)] (enc w t) Q := by
  show Ev (d + 5) 224 Q 0 [rA 67, (0, a), (0, b), (0, n), (9, 0)] [] (enc w t)
  refine e_lda (v := 67) (show am_cd 224 0 = (2, 1, 0, 2, []) by decide +kernel) rfl ?_
  refine e_getf (a := 67) (tg := 0) (show am_cd 224 1 = (18, 4, 1240, 0, [272]) by decide +kernel) (by decide +kernel) (by decide +kernel) rfl ?_
  refine e_ldi (show am_cd 224 4 = (2, 5, 3, 0, []) by decide +kernel) rfl ?_
  refine e_cmp1 (show am_cd 224 5 = (11, 8, 32, 1, []) by decide +kernel) (fun hc => ?_) (fun hc => ?_)
  · replace h := h.1 hc
    refine e_ic (show am_cd 224 32 = (0, 33, 0, 0, []) by decide +kernel) ?_
    refine e_sti (la2 := [rA 67, (0, a), (0, b), (0, n), (0, 0)]) (show am_cd 224 33 = (3, 35, 4, 0, []) by decide +kernel) rfl ?_
    exact h
  · replace h := h.2 hc
    refine e_lda (v := 67) (show am_cd 224 8 = (2, 9, 0, 2, []) by decide +kernel) rfl ?_
    refine e_lda (v := 67) (show am_cd 224 9 = (2, 10, 0, 2, []) by decide +kernel) rfl ?_
    refine e_ldi (show am_cd 224 10 = (2, 11, 1, 0, []) by decide +kernel) rfl ?_
    refine e_ldi (show am_cd 224 11 = (2, 12, 2, 0, []) by decide +kernel) rfl ?_
    refine e_cV (z := 0) (a := 67) (as := [(0, a), (0, b)]) (rest := [rA 67]) (show am_cd 224 12 = (40, 15, 223, 0, [330]) by decide +kernel) (by decide +kernel) rfl rfl (Nat.le_of_ble_eq_true rfl) rfl ?_
    refine Cl.mono (Cl.up (c_clash (d := d) h.1) (by omega)) ?_
    rintro _ _ ⟨rfl, rfl⟩
    refine ⟨fun _ h9 => (by cases h9), ?_⟩
    replace h := h.2
    show Ev _ 224 _ 15 [rA 67, (0, a), (0, b), (0, n), (9, 0)] [(0, clI m a.toNat b.toNat ml), rA 67] _
    refine e_putf (a := 67) (show am_cd 224 15 = (19, 18, 1246, 0, [333]) by decide +kernel) (by decide +kernel) (by decide +kernel) rfl (fun h9 => absurd h9 (by decide)) (fun h9 => absurd h9 (by decide +kernel)) ?_
    refine e_lda (v := 67) (show am_cd 224 18 = (2, 19, 0, 2, []) by decide +kernel) rfl ?_
    refine e_getfE (a := 67) (tg := 0) (v := clI m a.toNat b.toNat ml) (show am_cd 224 19 = (18, 22, 1246, 0, [333]) by decide +kernel) (by decide +kernel) (by decide +kernel) rfl rfl ?_
    refine e_ic (show am_cd 224 22 = (0, 23, 0, -1, []) by decide +kernel) ?_
    refine e_cmp0 (show am_cd 224 23 = (11, 26, 30, 0, []) by decide +kernel) (fun hc => ?_) (fun hc => ?_)
    · replace h := h.1 hc
      refine e_ic (show am_cd 224 30 = (0, 31, 0, 0, []) by decide +kernel) ?_
      exact e_retz (show am_cd 224 31 = (36, 32, 0, 0, []) by decide +kernel) (by decide +kernel) (Or.inl rfl) h
    · replace h := h.2 hc
      refine e_ic (show am_cd 224 26 = (0, 27, 0, 1, []) by decide +kernel) ?_
      refine e_go (show am_cd 224 27 = (12, 31, 0, 0, []) by decide +kernel) ?_
      exact e_retz (show am_cd 224 31 = (36, 32, 0, 0, []) by decide +kernel) (by decide +kernel) (Or.inr rfl) h

theorem g_clashes1 {d : Nat} {Q : Option aV → aS → Prop} {w : eW} {t : eT} {a b n i : Int} {m : eW} {ml : List Nat} {wo : Int} (h : ((w32 (w 67 0) ≤ w32 i → Q (some (0, 0)) (enc w t)) ∧ (¬ (w32 (w 67 0) ≤ w32 i) → ((w32 (w 67 40) ≤ 0 → Ev (d + 5) 224 Q 74 [rA 67, (0, a), (0, b), (0, n), (0, i)] [] (enc w t)) ∧ (¬ (w32 (w 67 40) ≤ 0) → (0 ≤ w32 ((w 67 40) - 1) ∧ w32 ((w 67 40) - 1) < 16) ∧ (MG w m ∧ gC m (w 94 (w32 ((w 67 40) - 1)).toNat) ∧ gC m i) ∧ (((!(isI m (w 94 (w32 ((w 67 40) - 1)).toNat).toNat && isI m i.toNat)) = true → Ev (d + 5) 224 Q 74 [rA 67, (0, a), (0, b), (0, n), (0, i)] [] (enc w t)) ∧ ((!(isI m (w 94 (w32 ((w 67 40) - 1)).toNat).toNat && isI m i.toNat)) = false → Ev (d + 5) 224 Q 35 [rA 67, (0, a), (0, b), (0, n), (0, i + 1)] [] (enc w t)))))))) : Ev (d + 5) 224 Q 35 [rA 67, (0, a), (0, b), (0, n), (0, i)] [] (enc w t) := by
  refine e_ldi (show am_cd 224 35 = (2, 37, 4, 0, []) by decide +kernel) rfl ?_
  refine e_lda (v := 67) (show am_cd 224 37 = (2, 38, 0, 2, []) by decide +kernel) rfl ?_
  refine e_getf (a := 67) (tg := 0) (show am_cd 224 38 = (18, 41, 1200, 0, [168]) by decide +kernel) (by decide +kernel) (by decide +kernel) rfl ?_
  refine e_cmp3 (show am_cd 224 41 = (11, 44, 108, 3, []) by decide +kernel) (fun hc => ?_) (fun hc => ?_)
  · replace h := h.1 hc
    refine e_ic (show am_cd 224 108 = (0, 109, 0, 0, []) by decide +kernel) ?_
    exact e_retz (show am_cd 224 109 = (36, 110, 0, 0, []) by decide +kernel) (by decide +kernel) (Or.inl rfl) h
  · replace h := h.2 hc
    refine e_lda (v := 67) (show am_cd 224 44 = (2, 45, 0, 2, []) by decide +kernel) rfl ?_
    refine e_getf (a := 67) (tg := 0) (show am_cd 224 45 = (18, 48, 1240, 0, [272]) by decide +kernel) (by decide +kernel) (by decide +kernel) rfl ?_
    refine e_if5 (show am_cd 224 48 = (10, 51, 74, 5, []) by decide +kernel) (fun hc => ?_) (fun hc => ?_)
    · replace h := h.1 hc
      exact h
    · replace h := h.2 hc
      refine e_lda (v := 67) (show am_cd 224 51 = (2, 52, 0, 2, []) by decide +kernel) rfl ?_
      refine e_lda (v := 67) (show am_cd 224 52 = (2, 53, 0, 2, []) by decide +kernel) rfl ?_
      refine e_getr (a := 67) (r := 94) (show am_cd 224 53 = (18, 56, 1239, 2, [95]) by decide +kernel) (by decide +kernel) (by decide +kernel) rfl ?_
      refine e_lda (v := 67) (show am_cd 224 56 = (2, 57, 0, 2, []) by decide +kernel) rfl ?_
      refine e_getf (a := 67) (tg := 0) (show am_cd 224 57 = (18, 60, 1240, 0, [272]) by decide +kernel) (by decide +kernel) (by decide +kernel) rfl ?_
      refine e_ic (show am_cd 224 60 = (0, 61, 0, 1, []) by decide +kernel) ?_
      refine e_isub (show am_cd 224 61 = (5, 62, 1, 0, []) by decide +kernel) ?_
      refine e_iald (a := 94) (n := 16) (show am_cd 224 62 = (21, 63, 0, 0, []) by decide +kernel) (by decide +kernel) (by decide +kernel) (by decide +kernel) h.1 ?_
      replace h := h.2
      refine e_ldi (show am_cd 224 63 = (2, 65, 4, 0, []) by decide +kernel) rfl ?_
      refine e_cV (z := 0) (a := 67) (as := [(0, w 94 (w32 ((w 67 40) - 1)).toNat), (0, i)]) (rest := []) (show am_cd 224 65 = (40, 68, 201, 0, [265]) by decide +kernel) (by decide +kernel) rfl rfl (Nat.le_of_ble_eq_true rfl) rfl ?_
      refine Cl.mono (Cl.up (c_mayCome (d := d) h.1) (by omega)) ?_
      rintro _ _ ⟨rfl, rfl⟩
      refine ⟨fun _ h9 => (by cases h9), ?_⟩
      replace h := h.2
      show Ev _ 224 _ 68 [rA 67, (0, a), (0, b), (0, n), (0, i)] [(0, bI (!(isI m (w 94 (w32 ((w 67 40) - 1)).toNat).toNat && isI m i.toNat)))] _
      refine e_ifb1 (show am_cd 224 68 = (10, 71, 74, 1, []) by decide +kernel) (fun hc => ?_) (fun hc => ?_)
      · replace h := h.1 hc
        exact h
      · replace h := h.2 hc
        refine e_go (show am_cd 224 71 = (12, 102, 0, 0, []) by decide +kernel) ?_
        refine e_inc (la2 := [rA 67, (0, a), (0, b), (0, n), (0, i + 1)]) (show am_cd 224 102 = (4, 105, 4, 1, []) by decide +kernel) rfl rfl ?_
        refine e_go (show am_cd 224 105 = (12, 35, 0, 0, []) by decide +kernel) ?_
        exact h

theorem g_clashes2 {d : Nat} {Q : Option aV → aS → Prop} {w : eW} {t : eT} {a b n i : Int} {m : eW} {ml : List Nat} {wo : Int} {γK : Type} {PRK : γK → Int → Int → Int → eW → eT → Prop} {POK : γK → Int → Int → Int → eW → eT → Int → eW → eT → Prop} (hrK : ∀ (g : γK) (a1 a2 a3 : Int) (w : eW) (t : eT), PRK g a1 a2 a3 w t → Cl (d + 4) 224 [rA 67, (0, a1), (0, a2), (0, a3)] (enc w t) (fun r S2 => ∃ x w2 t2, r = some (0, x) ∧ S2 = enc w2 t2 ∧ POK g a1 a2 a3 w t x w2 t2)) (h : (0 ≤ w32 (w 67 40) ∧ w32 (w 67 40) < 16) ∧ (∃ g1, (PRK g1 a b n (wu (wu w 94 (w32 (w 67 40)).toNat i) 67 40 ((w 67 40) + 1)) t) ∧ (∀ x2 w3 t4, (POK g1 a b n (wu (wu w 94 (w32 (w 67 40)).toNat i) 67 40 ((w 67 40) + 1)) t x2 w3 t4) → ((w32 x2 = 0 → Ev (d + 5) 224 Q 35 [rA 67, (0, a), (0, b), (0, n), (0, i + 1)] [] (enc (wu w3 67 40 ((w3 67 40) - 1)) t4)) ∧ (¬ (w32 x2 = 0) → Q (some (0, 1)) (enc w3 t4)))))) : Ev (d + 5) 224 Q 74 [rA 67, (0, a), (0, b), (0, n), (0, i)] [] (enc w t) := by
  refine e_lda (v := 67) (show am_cd 224 74 = (2, 75, 0, 2, []) by decide +kernel) rfl ?_
  refine e_ldi (show am_cd 224 75 = (2, 77, 4, 0, []) by decide +kernel) rfl ?_
  refine e_cV (z := 0) (a := 67) (as := [(0, i)]) (rest := []) (show am_cd 224 77 = (40, 80, 213, 0, [317]) by decide +kernel) (by decide +kernel) rfl rfl (Nat.le_of_ble_eq_true rfl) rfl ?_
  show Ev _ 213 _ 0 [rA 67, (0, i)] [] _
  refine e_lda (v := 67) (show am_cd 213 0 = (2, 1, 0, 2, []) by decide +kernel) rfl ?_
  refine e_getr (a := 67) (r := 94) (show am_cd 213 1 = (18, 4, 1239, 2, [95]) by decide +kernel) (by decide +kernel) (by decide +kernel) rfl ?_
  refine e_lda (v := 67) (show am_cd 213 4 = (2, 5, 0, 2, []) by decide +kernel) rfl ?_
  refine e_getf (a := 67) (tg := 0) (show am_cd 213 5 = (18, 8, 1240, 0, [272]) by decide +kernel) (by decide +kernel) (by decide +kernel) rfl ?_
  refine e_ldi (show am_cd 213 8 = (2, 9, 1, 0, []) by decide +kernel) rfl ?_
  refine e_iast (a := 94) (n := 16) (show am_cd 213 9 = (24, 10, 0, 0, []) by decide +kernel) (by decide +kernel) (by decide +kernel) (by decide +kernel) h.1 ?_
  replace h := h.2
  refine e_lda (v := 67) (show am_cd 213 10 = (2, 11, 0, 2, []) by decide +kernel) rfl ?_
  refine e_dup (show am_cd 213 11 = (13, 12, 0, 0, []) by decide +kernel) (by decide) ?_
  refine e_getfE (a := 67) (tg := 0) (v := w 67 40) (show am_cd 213 12 = (18, 15, 1240, 0, [272]) by decide +kernel) (by decide +kernel) (by decide +kernel) rfl rfl ?_
  refine e_ic (show am_cd 213 15 = (0, 16, 0, 1, []) by decide +kernel) ?_
  refine e_iadd (show am_cd 213 16 = (5, 17, 0, 0, []) by decide +kernel) ?_
  refine e_putf (a := 67) (show am_cd 213 17 = (19, 20, 1240, 0, [272]) by decide +kernel) (by decide +kernel) (by decide +kernel) rfl (fun h9 => absurd h9 (by decide)) (fun h9 => absurd h9 (by decide +kernel)) ?_
  refine e_retv (show am_cd 213 20 = (36, 21, 3, 0, []) by decide +kernel) (by decide +kernel) ⟨fun _ h9 => (by cases h9), ?_⟩
  show Ev _ 224 _ 80 [rA 67, (0, a), (0, b), (0, n), (0, i)] [] _
  refine e_lda (v := 67) (show am_cd 224 80 = (2, 81, 0, 2, []) by decide +kernel) rfl ?_
  refine e_ldi (show am_cd 224 81 = (2, 82, 1, 0, []) by decide +kernel) rfl ?_
  refine e_ldi (show am_cd 224 82 = (2, 83, 2, 0, []) by decide +kernel) rfl ?_
  refine e_ldi (show am_cd 224 83 = (2, 84, 3, 0, []) by decide +kernel) rfl ?_
  refine e_cV (z := 0) (a := 67) (as := [(0, a), (0, b), (0, n)]) (rest := []) (show am_cd 224 84 = (40, 87, 224, 0, [336]) by decide +kernel) (by decide +kernel) rfl rfl (Nat.le_of_ble_eq_true rfl) rfl ?_
  obtain ⟨g1, h⟩ := h
  refine Cl.mono (Cl.up (hrK g1 _ _ _ _ _ h.1) (by omega)) ?_
  rintro _ _ ⟨x2, w3, t4, rfl, rfl, hp⟩
  refine ⟨fun _ h9 => (by cases h9), ?_⟩
  replace h := h.2 x2 w3 t4 hp
  show Ev _ 224 _ 87 [rA 67, (0, a), (0, b), (0, n), (0, i)] [(0, x2)] _
  refine e_if0 (show am_cd 224 87 = (10, 90, 92, 0, []) by decide +kernel) (fun hc => ?_) (fun hc => ?_)
  · replace h := h.1 hc
    refine e_lda (v := 67) (show am_cd 224 92 = (2, 93, 0, 2, []) by decide +kernel) rfl ?_
    refine e_dup (show am_cd 224 93 = (13, 94, 0, 0, []) by decide +kernel) (by decide) ?_
    refine e_getf (a := 67) (tg := 0) (show am_cd 224 94 = (18, 97, 1240, 0, [272]) by decide +kernel) (by decide +kernel) (by decide +kernel) rfl ?_
    refine e_ic (show am_cd 224 97 = (0, 98, 0, 1, []) by decide +kernel) ?_
    refine e_isub (show am_cd 224 98 = (5, 99, 1, 0, []) by decide +kernel) ?_
    refine e_putf (a := 67) (show am_cd 224 99 = (19, 102, 1240, 0, [272]) by decide +kernel) (by decide +kernel) (by decide +kernel) rfl (fun h9 => absurd h9 (by decide)) (fun h9 => absurd h9 (by decide +kernel)) ?_
    refine e_inc (la2 := [rA 67, (0, a), (0, b), (0, n), (0, i + 1)]) (show am_cd 224 102 = (4, 105, 4, 1, []) by decide +kernel) rfl rfl ?_
    refine e_go (show am_cd 224 105 = (12, 35, 0, 0, []) by decide +kernel) ?_
    exact h
  · replace h := h.2 hc
    refine e_ic (show am_cd 224 90 = (0, 91, 0, 1, []) by decide +kernel) ?_
    exact e_retz (show am_cd 224 91 = (36, 92, 0, 0, []) by decide +kernel) (by decide +kernel) (Or.inr rfl) h

