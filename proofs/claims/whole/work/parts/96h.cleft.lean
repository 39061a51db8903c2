/-! The class: reading a rule (left, right, whole). -/
def rdLf (m : eW) (tx : List Int) : Nat → List Int → Nat → Except Nat (List Int × Nat)
  | 0, ls, p => if hr tx p = 95 then .ok (ls, p + 1) else .error p
  | k + 1, ls, p => if hr tx p = 95 then .ok (ls, p + 1) else match rdT m tx (if ls = [] then 1 else 0) p with
    | .error q => .error q
    | .ok y => rdLf m tx k (ls ++ [y.1]) y.2
def rdRt (m : eW) (tx : List Int) (p : Nat) : Except Nat (Option Int × Nat) := if p < tx.length then (match rdT m tx 1 p with
    | .error q => .error q
    | .ok y => if y.2 < tx.length then .error y.2 else .ok (some y.1, y.2)) else .ok (none, p)
theorem ru4_rt {m : eW} {tx : List Int} {u l so : Int} {ls : List Int} {p : Nat} : ru4 m tx u l so ls p = match rdRt m tx p with
    | .error q => .error q
    | .ok y => .ok (u, l, so, ls, y.1) := by
  unfold ru4 rdRt ru5
  by_cases h : p < tx.length
  · rw [if_pos h, if_pos h]
    cases rdT m tx 1 p with
    | error q => rfl
    | ok y =>
      dsimp only
      by_cases h2 : y.2 < tx.length
      · rw [if_pos h2, if_pos h2]
      · rw [if_neg h2, if_neg h2]
  · rw [if_neg h, if_neg h, if_neg h]
theorem ru2_lf {m : eW} {tx : List Int} {u l so : Int} : ∀ (k : Nat) (ls : List Int) (p : Nat), ru2 m tx u l so k ls p = match rdLf m tx k ls p with
    | .error q => .error q
    | .ok y => ru4 m tx u l so y.1 y.2 := by
  intro k
  induction k with
  | zero =>
    intro ls p
    unfold ru2 rdLf ru3
    by_cases h : hr tx p = 95
    · rw [if_pos h, if_pos h]
    · rw [if_neg h, if_neg h]
  | succ k ih =>
    intro ls p
    unfold ru2 rdLf ru3
    by_cases h : hr tx p = 95
    · rw [if_pos h, if_pos h, if_pos h]
    · rw [if_neg h, if_neg h]
      cases rdT m tx (if ls = [] then 1 else 0) p with
      | error q => rfl
      | ok y => exact ih _ _
theorem ruR_W {m : eW} {tx : List Int} : ruR m tx = match rdW tx 0 with
    | .error q => .error q
    | .ok u => match rdO tx u.2 with
      | .error q => .error q
      | .ok so => match rdLf m tx 2 [] so.2 with
        | .error q => .error q
        | .ok ls => match rdRt m tx ls.2 with
          | .error q => .error q
          | .ok ri => .ok (u.1.1, u.1.2, so.1, ls.1, ri.1) := by
  unfold ruR rdW
  cases rdS tx 0 with
  | error q => rfl
  | ok u =>
    dsimp only
    by_cases h : hr tx u.2 = 58
    · rw [if_pos h, if_pos h]
      cases rdS tx (u.2 + 1) with
      | error q => rfl
      | ok l =>
        dsimp only
        cases rdO tx l.2 with
        | error q => rfl
        | ok so =>
          dsimp only
          rw [ru2_lf]
          cases rdLf m tx 2 [] so.2 with
          | error q => rfl
          | ok ls => exact ru4_rt
    · rw [if_neg h, if_neg h]
def Ot (n : Nat) (w w2 : eW) : Prop := ∀ a i, 16 ≤ a → a ≤ 22 → i ≠ n → w2 a i = w a i
theorem Ot.rf (n : Nat) (w : eW) : Ot n w w := fun _ _ _ _ _ => rfl
theorem Ot.tr {n : Nat} {w a b : eW} (h : Ot n w a) (h2 : Ot n a b) : Ot n w b := fun q i h3 h4 h5 => by rw [h2 q i h3 h4 h5, h q i h3 h4 h5]
theorem Ot.pu {n : Nat} {w : eW} {a : Nat} {v : Int} : Ot n w (wu w a n v) := fun q i _ _ h5 => wu_nk _ _ h5
theorem Ot.pf {n : Nat} {w : eW} {a k : Nat} {v : Int} (h : a < 16 ∨ 22 < a) : Ot n w (wu w a k v) := fun q i h3 h4 _ => wu_na _ _ (by omega)
theorem Ot.fc {n : Nat} {w w2 : eW} {F : List (Nat × Nat)} (h : Fc [] F w w2) (hF : F.all (fun p => decide (p.1 < 16) || decide (22 < p.1)) = true) : Ot n w w2 := fun q i h3 h4 _ => h q i (fun h9 => (by cases h9)) (fun h9 => by
  have := List.all_eq_true.mp hF _ h9
  simp at this
  omega)
/-- what stands left of the place, in the draft -/
def LfC (w : eW) (n : Nat) (ls : List Int) : Prop := w 18 n = (ls.length : Int) ∧ w 20 n = (if ls.length = 2 then ls.getD 0 0 else 131071) ∧ w 21 n = (if ls.length = 2 then ls.getD 1 0 else if ls.length = 1 then ls.getD 0 0 else 131071)
def RtC (w : eW) (n : Nat) (ri : Option Int) : Prop := w 19 n = (if ri.isSome = true then 1 else 0) ∧ w 22 n = ri.getD 131071
def LfI (n : Nat) (tx : List Int) (m w : eW) : Prop := TC w tx ∧ AC w m ∧ SC w m ∧ w 15 12 = (n : Int)
def LfQ (n : Nat) (tx : List Int) (w : eW) (R : Except Nat (List Int × Nat)) (x : Int) (w2 : eW) : Prop := Fc [18, 20, 21] [(2, 6), (15, 15)] w w2 ∧ Ot n w w2 ∧ TC w2 tx ∧ RQ R x w2 (fun ls => LfC w2 n ls)
theorem LfI.fc {n : Nat} {tx : List Int} {m w w2 : eW} (h : LfI n tx m w) (hf : Fc [18, 20, 21] [(2, 6), (15, 15)] w w2) (hv : 0 ≤ w2 2 6 ∧ w2 2 6 ≤ (tx.length : Int)) : LfI n tx m w2 := ⟨h.1.of (hf _ _ (by decide) (by decide)) (hf.row (by decide) (by decide)) hv, h.2.1.fc hf (by decide) (by decide), h.2.2.1.fc hf (by decide) (by decide), by rw [hf _ _ (by decide) (by decide)]; exact h.2.2.2⟩
theorem LfQ.tr {n : Nat} {tx : List Int} {w w1 w2 : eW} {R : Except Nat (List Int × Nat)} {x : Int} (hf : Fc [18, 20, 21] [(2, 6), (15, 15)] w w1) (ho : Ot n w w1) (h : LfQ n tx w1 R x w2) : LfQ n tx w R x w2 := ⟨hf.tr h.1, ho.tr h.2.1, h.2.2⟩

theorem g_left2 {d : Nat} {Q : Option aV → aS → Prop} {w : eW} {t : eT} {tx : List Int} {m : eW} (h : (TC w tx) ∧ ((w32 (hr tx (w 2 6).toNat) = w32 95 → Q (some (0, 1)) (enc (wu w 2 6 ((w 2 6) + 1)) t)) ∧ (¬ (w32 (hr tx (w 2 6).toNat) = w32 95) → Q (some (0, 0)) (enc w t)))) : Ev (d + 3) 65 Q 34 [rA 15, rA 2, rA 8, (0, 2)] [] (enc w t) := by
  refine e_ldi (show am_cd 65 34 = (2, 35, 3, 0, []) by decide +kernel) rfl ?_
  refine e_ic (show am_cd 65 35 = (0, 36, 0, 2, []) by decide +kernel) ?_
  refine e_cmpT (show am_cd 65 36 = (11, 39, 122, 3, []) by decide +kernel) (by decide +kernel) ?_
  refine e_lda (v := 2) (show am_cd 65 122 = (2, 123, 1, 2, []) by decide +kernel) rfl ?_
  refine e_ic (show am_cd 65 123 = (0, 125, 1, 95, []) by decide +kernel) ?_
  refine e_cV (z := 0) (a := 2) (as := [(0, 95)]) (rest := []) (show am_cd 65 125 = (40, 128, 81, 0, [75]) by decide +kernel) (by decide +kernel) rfl rfl (Nat.le_of_ble_eq_true rfl) rfl ?_
  show Ev _ 81 _ 0 [rA 2, (0, 95)] [] _
  refine e_lda (v := 2) (show am_cd 81 0 = (2, 1, 0, 2, []) by decide +kernel) rfl ?_
  refine e_cV (z := 0) (a := 2) (as := []) (rest := []) (show am_cd 81 1 = (40, 4, 80, 0, [34]) by decide +kernel) (by decide +kernel) rfl rfl (Nat.le_of_ble_eq_true rfl) rfl ?_
  refine Cl.mono (Cl.up (c_ahd (tx := tx) (d := d) h.1) (by omega)) ?_
  rintro _ _ ⟨rfl, rfl⟩
  refine ⟨fun _ h9 => (by cases h9), ?_⟩
  replace h := h.2
  show Ev _ 81 _ 4 [rA 2, (0, 95)] [(0, hr tx (w 2 6).toNat)] _
  refine e_ldi (show am_cd 81 4 = (2, 5, 1, 0, []) by decide +kernel) rfl ?_
  refine e_cmp0 (show am_cd 81 5 = (11, 8, 10, 0, []) by decide +kernel) (fun hc => ?_) (fun hc => ?_)
  · replace h := h.1 hc
    refine e_lda (v := 2) (show am_cd 81 10 = (2, 11, 0, 2, []) by decide +kernel) rfl ?_
    refine e_dup (show am_cd 81 11 = (13, 12, 0, 0, []) by decide +kernel) (by decide) ?_
    refine e_getf (a := 2) (tg := 0) (show am_cd 81 12 = (18, 15, 806, 0, [31]) by decide +kernel) (by decide +kernel) (by decide +kernel) rfl ?_
    refine e_ic (show am_cd 81 15 = (0, 16, 0, 1, []) by decide +kernel) ?_
    refine e_iadd (show am_cd 81 16 = (5, 17, 0, 0, []) by decide +kernel) ?_
    refine e_putf (a := 2) (show am_cd 81 17 = (19, 20, 806, 0, [31]) by decide +kernel) (by decide +kernel) (by decide +kernel) rfl (fun h9 => absurd h9 (by decide)) (fun h9 => absurd h9 (by decide +kernel)) ?_
    refine e_ic (show am_cd 81 20 = (0, 21, 0, 1, []) by decide +kernel) ?_
    refine e_retz (show am_cd 81 21 = (36, 22, 0, 0, []) by decide +kernel) (by decide +kernel) (Or.inr rfl) ⟨fun _ h9 => (by cases h9), ?_⟩
    show Ev _ 65 _ 128 [rA 15, rA 2, rA 8, (0, 2)] [(0, 1)] _
    exact e_retz (show am_cd 65 128 = (36, 129, 0, 0, []) by decide +kernel) (by decide +kernel) (Or.inr rfl) h
  · replace h := h.2 hc
    refine e_ic (show am_cd 81 8 = (0, 9, 0, 0, []) by decide +kernel) ?_
    refine e_retz (show am_cd 81 9 = (36, 10, 0, 0, []) by decide +kernel) (by decide +kernel) (Or.inl rfl) ⟨fun _ h9 => (by cases h9), ?_⟩
    show Ev _ 65 _ 128 [rA 15, rA 2, rA 8, (0, 2)] [(0, 0)] _
    exact e_retz (show am_cd 65 128 = (36, 129, 0, 0, []) by decide +kernel) (by decide +kernel) (Or.inl rfl) h

theorem g_left1 {d : Nat} {Q : Option aV → aS → Prop} {w : eW} {t : eT} {tx : List Int} {m : eW} (h : (TC w tx) ∧ ((w32 (hr tx (w 2 6).toNat) = w32 95 → (TC w tx) ∧ ((w32 (hr tx (w 2 6).toNat) = w32 95 → Q (some (0, 1)) (enc (wu w 2 6 ((w 2 6) + 1)) t)) ∧ (¬ (w32 (hr tx (w 2 6).toNat) = w32 95) → Q (some (0, 0)) (enc w t)))) ∧ (¬ (w32 (hr tx (w 2 6).toNat) = w32 95) → (TC w tx ∧ AC w m ∧ SC w m ∧ WFp m ∧ WFs m ∧ ((0 : Int) = 0 ∨ (0 : Int) = 1)) ∧ (∀ x1 w2, (tprP tx m w 0 x1 w2) → ((¬ w32 x1 = 0 → (0 ≤ w32 (w2 15 12) ∧ w32 (w2 15 12) < 9) ∧ (0 ≤ w32 (w2 15 12) ∧ w32 (w2 15 12) < 9) ∧ (0 ≤ w32 (w2 15 12) ∧ w32 (w2 15 12) < 9) ∧ (0 ≤ w32 (w2 15 12) ∧ w32 (w2 15 12) < 9) ∧ (Ev (d + 3) 65 Q 34 [rA 15, rA 2, rA 8, (0, 2)] [] (enc (wu (wu (wu w2 20 (w32 (w2 15 12)).toNat (w2 21 (w32 (w2 15 12)).toNat)) 21 (w32 (w2 15 12)).toNat (w2 15 15)) 18 (w32 (w2 15 12)).toNat 2) t))) ∧ (¬ (¬ w32 x1 = 0) → Q (some (0, 0)) (enc w2 t))))))) : Ev (d + 3) 65 Q 34 [rA 15, rA 2, rA 8, (0, 1)] [] (enc w t) := by
  refine e_ldi (show am_cd 65 34 = (2, 35, 3, 0, []) by decide +kernel) rfl ?_
  refine e_ic (show am_cd 65 35 = (0, 36, 0, 2, []) by decide +kernel) ?_
  refine e_cmpF (show am_cd 65 36 = (11, 39, 122, 3, []) by decide +kernel) (by decide +kernel) ?_
  refine e_lda (v := 2) (show am_cd 65 39 = (2, 40, 1, 2, []) by decide +kernel) rfl ?_
  refine e_cV (z := 0) (a := 2) (as := []) (rest := []) (show am_cd 65 40 = (40, 43, 80, 0, [86]) by decide +kernel) (by decide +kernel) rfl rfl (Nat.le_of_ble_eq_true rfl) rfl ?_
  refine Cl.mono (Cl.up (c_ahd (tx := tx) (d := d) h.1) (by omega)) ?_
  rintro _ _ ⟨rfl, rfl⟩
  refine ⟨fun _ h9 => (by cases h9), ?_⟩
  replace h := h.2
  show Ev _ 65 _ 43 [rA 15, rA 2, rA 8, (0, 1)] [(0, hr tx (w 2 6).toNat)] _
  refine e_ic (show am_cd 65 43 = (0, 45, 1, 95, []) by decide +kernel) ?_
  refine e_cmp0 (show am_cd 65 45 = (11, 48, 122, 0, []) by decide +kernel) (fun hc => ?_) (fun hc => ?_)
  · replace h := h.1 hc
    refine e_lda (v := 2) (show am_cd 65 122 = (2, 123, 1, 2, []) by decide +kernel) rfl ?_
    refine e_ic (show am_cd 65 123 = (0, 125, 1, 95, []) by decide +kernel) ?_
    refine e_cV (z := 0) (a := 2) (as := [(0, 95)]) (rest := []) (show am_cd 65 125 = (40, 128, 81, 0, [75]) by decide +kernel) (by decide +kernel) rfl rfl (Nat.le_of_ble_eq_true rfl) rfl ?_
    show Ev _ 81 _ 0 [rA 2, (0, 95)] [] _
    refine e_lda (v := 2) (show am_cd 81 0 = (2, 1, 0, 2, []) by decide +kernel) rfl ?_
    refine e_cV (z := 0) (a := 2) (as := []) (rest := []) (show am_cd 81 1 = (40, 4, 80, 0, [34]) by decide +kernel) (by decide +kernel) rfl rfl (Nat.le_of_ble_eq_true rfl) rfl ?_
    refine Cl.mono (Cl.up (c_ahd (tx := tx) (d := d) h.1) (by omega)) ?_
    rintro _ _ ⟨rfl, rfl⟩
    refine ⟨fun _ h9 => (by cases h9), ?_⟩
    replace h := h.2
    show Ev _ 81 _ 4 [rA 2, (0, 95)] [(0, hr tx (w 2 6).toNat)] _
    refine e_ldi (show am_cd 81 4 = (2, 5, 1, 0, []) by decide +kernel) rfl ?_
    refine e_cmp0 (show am_cd 81 5 = (11, 8, 10, 0, []) by decide +kernel) (fun hc => ?_) (fun hc => ?_)
    · replace h := h.1 hc
      refine e_lda (v := 2) (show am_cd 81 10 = (2, 11, 0, 2, []) by decide +kernel) rfl ?_
      refine e_dup (show am_cd 81 11 = (13, 12, 0, 0, []) by decide +kernel) (by decide) ?_
      refine e_getf (a := 2) (tg := 0) (show am_cd 81 12 = (18, 15, 806, 0, [31]) by decide +kernel) (by decide +kernel) (by decide +kernel) rfl ?_
      refine e_ic (show am_cd 81 15 = (0, 16, 0, 1, []) by decide +kernel) ?_
      refine e_iadd (show am_cd 81 16 = (5, 17, 0, 0, []) by decide +kernel) ?_
      refine e_putf (a := 2) (show am_cd 81 17 = (19, 20, 806, 0, [31]) by decide +kernel) (by decide +kernel) (by decide +kernel) rfl (fun h9 => absurd h9 (by decide)) (fun h9 => absurd h9 (by decide +kernel)) ?_
      refine e_ic (show am_cd 81 20 = (0, 21, 0, 1, []) by decide +kernel) ?_
      refine e_retz (show am_cd 81 21 = (36, 22, 0, 0, []) by decide +kernel) (by decide +kernel) (Or.inr rfl) ⟨fun _ h9 => (by cases h9), ?_⟩
      show Ev _ 65 _ 128 [rA 15, rA 2, rA 8, (0, 1)] [(0, 1)] _
      exact e_retz (show am_cd 65 128 = (36, 129, 0, 0, []) by decide +kernel) (by decide +kernel) (Or.inr rfl) h
    · replace h := h.2 hc
      refine e_ic (show am_cd 81 8 = (0, 9, 0, 0, []) by decide +kernel) ?_
      refine e_retz (show am_cd 81 9 = (36, 10, 0, 0, []) by decide +kernel) (by decide +kernel) (Or.inl rfl) ⟨fun _ h9 => (by cases h9), ?_⟩
      show Ev _ 65 _ 128 [rA 15, rA 2, rA 8, (0, 1)] [(0, 0)] _
      exact e_retz (show am_cd 65 128 = (36, 129, 0, 0, []) by decide +kernel) (by decide +kernel) (Or.inl rfl) h
  · replace h := h.2 hc
    refine e_lda (v := 15) (show am_cd 65 48 = (2, 49, 0, 2, []) by decide +kernel) rfl ?_
    refine e_lda (v := 2) (show am_cd 65 49 = (2, 50, 1, 2, []) by decide +kernel) rfl ?_
    refine e_lda (v := 8) (show am_cd 65 50 = (2, 51, 2, 2, []) by decide +kernel) rfl ?_
    refine e_ldi (show am_cd 65 51 = (2, 52, 3, 0, []) by decide +kernel) rfl ?_
    refine e_ifT (show am_cd 65 52 = (10, 55, 59, 1, []) by decide +kernel) (by decide +kernel) ?_
    refine e_ic (show am_cd 65 59 = (0, 60, 0, 0, []) by decide +kernel) ?_
    refine e_cV (z := 0) (a := 15) (as := [rA 2, rA 8, (0, 0)]) (rest := []) (show am_cd 65 60 = (40, 63, 67, 0, [89]) by decide +kernel) (by decide +kernel) rfl rfl (Nat.le_of_ble_eq_true rfl) rfl ?_
    refine Cl.mono (Cl.up (c_tpart (d := d) h.1) (by omega)) ?_
    rintro _ _ ⟨x1, w2, rfl, rfl, hp⟩
    refine ⟨fun _ h9 => (by cases h9), ?_⟩
    replace h := h.2 x1 w2 hp
    show Ev _ 65 _ 63 [rA 15, rA 2, rA 8, (0, 1)] [(0, x1)] _
    refine e_if1 (show am_cd 65 63 = (10, 66, 68, 1, []) by decide +kernel) (fun hc => ?_) (fun hc => ?_)
    · replace h := h.1 hc
      refine e_ldi (show am_cd 65 68 = (2, 69, 3, 0, []) by decide +kernel) rfl ?_
      refine e_ic (show am_cd 65 69 = (0, 70, 0, 1, []) by decide +kernel) ?_
      refine e_cmpF (show am_cd 65 70 = (11, 73, 91, 1, []) by decide +kernel) (by decide +kernel) ?_
      refine e_lda (v := 15) (show am_cd 65 73 = (2, 74, 0, 2, []) by decide +kernel) rfl ?_
      refine e_getr (a := 15) (r := 20) (show am_cd 65 74 = (18, 77, 704, 2, [24]) by decide +kernel) (by decide +kernel) (by decide +kernel) rfl ?_
      refine e_lda (v := 15) (show am_cd 65 77 = (2, 78, 0, 2, []) by decide +kernel) rfl ?_
      refine e_getf (a := 15) (tg := 0) (show am_cd 65 78 = (18, 81, 712, 0, [82]) by decide +kernel) (by decide +kernel) (by decide +kernel) rfl ?_
      refine e_lda (v := 15) (show am_cd 65 81 = (2, 82, 0, 2, []) by decide +kernel) rfl ?_
      refine e_getr (a := 15) (r := 21) (show am_cd 65 82 = (18, 85, 705, 2, [27]) by decide +kernel) (by decide +kernel) (by decide +kernel) rfl ?_
      refine e_lda (v := 15) (show am_cd 65 85 = (2, 86, 0, 2, []) by decide +kernel) rfl ?_
      refine e_getf (a := 15) (tg := 0) (show am_cd 65 86 = (18, 89, 712, 0, [82]) by decide +kernel) (by decide +kernel) (by decide +kernel) rfl ?_
      refine e_iald (a := 21) (n := 9) (show am_cd 65 89 = (21, 90, 0, 0, []) by decide +kernel) (by decide +kernel) (by decide +kernel) (by decide +kernel) h.1 ?_
      replace h := h.2
      refine e_iast (a := 20) (n := 9) (show am_cd 65 90 = (24, 91, 0, 0, []) by decide +kernel) (by decide +kernel) (by decide +kernel) (by decide +kernel) h.1 ?_
      replace h := h.2
      refine e_lda (v := 15) (show am_cd 65 91 = (2, 92, 0, 2, []) by decide +kernel) rfl ?_
      refine e_getr (a := 15) (r := 21) (show am_cd 65 92 = (18, 95, 705, 2, [27]) by decide +kernel) (by decide +kernel) (by decide +kernel) rfl ?_
      refine e_lda (v := 15) (show am_cd 65 95 = (2, 96, 0, 2, []) by decide +kernel) rfl ?_
      refine e_getfE (a := 15) (tg := 0) (v := w2 15 12) (show am_cd 65 96 = (18, 99, 712, 0, [82]) by decide +kernel) (by decide +kernel) (by decide +kernel) rfl rfl ?_
      refine e_lda (v := 15) (show am_cd 65 99 = (2, 100, 0, 2, []) by decide +kernel) rfl ?_
      refine e_getfE (a := 15) (tg := 0) (v := w2 15 15) (show am_cd 65 100 = (18, 103, 715, 0, [93]) by decide +kernel) (by decide +kernel) (by decide +kernel) rfl rfl ?_
      refine e_iast (a := 21) (n := 9) (show am_cd 65 103 = (24, 104, 0, 0, []) by decide +kernel) (by decide +kernel) (by decide +kernel) (by decide +kernel) h.1 ?_
      replace h := h.2
      refine e_lda (v := 15) (show am_cd 65 104 = (2, 105, 0, 2, []) by decide +kernel) rfl ?_
      refine e_getr (a := 15) (r := 18) (show am_cd 65 105 = (18, 108, 702, 2, [18]) by decide +kernel) (by decide +kernel) (by decide +kernel) rfl ?_
      refine e_lda (v := 15) (show am_cd 65 108 = (2, 109, 0, 2, []) by decide +kernel) rfl ?_
      refine e_getfE (a := 15) (tg := 0) (v := w2 15 12) (show am_cd 65 109 = (18, 112, 712, 0, [82]) by decide +kernel) (by decide +kernel) (by decide +kernel) rfl rfl ?_
      refine e_ldi (show am_cd 65 112 = (2, 113, 3, 0, []) by decide +kernel) rfl ?_
      refine e_ic (show am_cd 65 113 = (0, 114, 0, 1, []) by decide +kernel) ?_
      refine e_iok (r := 2) (show am_cd 65 114 = (5, 115, 0, 0, []) by decide +kernel) (by decide +kernel) (by decide +kernel) ?_
      refine e_iast (a := 18) (n := 9) (show am_cd 65 115 = (24, 116, 0, 0, []) by decide +kernel) (by decide +kernel) (by decide +kernel) (by decide +kernel) h.1 ?_
      replace h := h.2
      refine e_inc (la2 := [rA 15, rA 2, rA 8, (0, 2)]) (show am_cd 65 116 = (4, 119, 3, 1, []) by decide +kernel) rfl rfl ?_
      refine e_go (show am_cd 65 119 = (12, 34, 0, 0, []) by decide +kernel) ?_
      exact h
    · replace h := h.2 hc
      refine e_ic (show am_cd 65 66 = (0, 67, 0, 0, []) by decide +kernel) ?_
      exact e_retz (show am_cd 65 67 = (36, 68, 0, 0, []) by decide +kernel) (by decide +kernel) (Or.inl rfl) h

theorem g_left0 {d : Nat} {Q : Option aV → aS → Prop} {w : eW} {t : eT} {tx : List Int} {m : eW} (h : (TC w tx) ∧ ((w32 (hr tx (w 2 6).toNat) = w32 95 → (TC w tx) ∧ ((w32 (hr tx (w 2 6).toNat) = w32 95 → Q (some (0, 1)) (enc (wu w 2 6 ((w 2 6) + 1)) t)) ∧ (¬ (w32 (hr tx (w 2 6).toNat) = w32 95) → Q (some (0, 0)) (enc w t)))) ∧ (¬ (w32 (hr tx (w 2 6).toNat) = w32 95) → (TC w tx ∧ AC w m ∧ SC w m ∧ WFp m ∧ WFs m ∧ ((1 : Int) = 0 ∨ (1 : Int) = 1)) ∧ (∀ x1 w2, (tprP tx m w 1 x1 w2) → ((¬ w32 x1 = 0 → (0 ≤ w32 (w2 15 12) ∧ w32 (w2 15 12) < 9) ∧ (0 ≤ w32 (w2 15 12) ∧ w32 (w2 15 12) < 9) ∧ (Ev (d + 3) 65 Q 34 [rA 15, rA 2, rA 8, (0, 1)] [] (enc (wu (wu w2 21 (w32 (w2 15 12)).toNat (w2 15 15)) 18 (w32 (w2 15 12)).toNat 1) t))) ∧ (¬ (¬ w32 x1 = 0) → Q (some (0, 0)) (enc w2 t))))))) : Ev (d + 3) 65 Q 34 [rA 15, rA 2, rA 8, (0, 0)] [] (enc w t) := by
  refine e_ldi (show am_cd 65 34 = (2, 35, 3, 0, []) by decide +kernel) rfl ?_
  refine e_ic (show am_cd 65 35 = (0, 36, 0, 2, []) by decide +kernel) ?_
  refine e_cmpF (show am_cd 65 36 = (11, 39, 122, 3, []) by decide +kernel) (by decide +kernel) ?_
  refine e_lda (v := 2) (show am_cd 65 39 = (2, 40, 1, 2, []) by decide +kernel) rfl ?_
  refine e_cV (z := 0) (a := 2) (as := []) (rest := []) (show am_cd 65 40 = (40, 43, 80, 0, [86]) by decide +kernel) (by decide +kernel) rfl rfl (Nat.le_of_ble_eq_true rfl) rfl ?_
  refine Cl.mono (Cl.up (c_ahd (tx := tx) (d := d) h.1) (by omega)) ?_
  rintro _ _ ⟨rfl, rfl⟩
  refine ⟨fun _ h9 => (by cases h9), ?_⟩
  replace h := h.2
  show Ev _ 65 _ 43 [rA 15, rA 2, rA 8, (0, 0)] [(0, hr tx (w 2 6).toNat)] _
  refine e_ic (show am_cd 65 43 = (0, 45, 1, 95, []) by decide +kernel) ?_
  refine e_cmp0 (show am_cd 65 45 = (11, 48, 122, 0, []) by decide +kernel) (fun hc => ?_) (fun hc => ?_)
  · replace h := h.1 hc
    refine e_lda (v := 2) (show am_cd 65 122 = (2, 123, 1, 2, []) by decide +kernel) rfl ?_
    refine e_ic (show am_cd 65 123 = (0, 125, 1, 95, []) by decide +kernel) ?_
    refine e_cV (z := 0) (a := 2) (as := [(0, 95)]) (rest := []) (show am_cd 65 125 = (40, 128, 81, 0, [75]) by decide +kernel) (by decide +kernel) rfl rfl (Nat.le_of_ble_eq_true rfl) rfl ?_
    show Ev _ 81 _ 0 [rA 2, (0, 95)] [] _
    refine e_lda (v := 2) (show am_cd 81 0 = (2, 1, 0, 2, []) by decide +kernel) rfl ?_
    refine e_cV (z := 0) (a := 2) (as := []) (rest := []) (show am_cd 81 1 = (40, 4, 80, 0, [34]) by decide +kernel) (by decide +kernel) rfl rfl (Nat.le_of_ble_eq_true rfl) rfl ?_
    refine Cl.mono (Cl.up (c_ahd (tx := tx) (d := d) h.1) (by omega)) ?_
    rintro _ _ ⟨rfl, rfl⟩
    refine ⟨fun _ h9 => (by cases h9), ?_⟩
    replace h := h.2
    show Ev _ 81 _ 4 [rA 2, (0, 95)] [(0, hr tx (w 2 6).toNat)] _
    refine e_ldi (show am_cd 81 4 = (2, 5, 1, 0, []) by decide +kernel) rfl ?_
    refine e_cmp0 (show am_cd 81 5 = (11, 8, 10, 0, []) by decide +kernel) (fun hc => ?_) (fun hc => ?_)
    · replace h := h.1 hc
      refine e_lda (v := 2) (show am_cd 81 10 = (2, 11, 0, 2, []) by decide +kernel) rfl ?_
      refine e_dup (show am_cd 81 11 = (13, 12, 0, 0, []) by decide +kernel) (by decide) ?_
      refine e_getf (a := 2) (tg := 0) (show am_cd 81 12 = (18, 15, 806, 0, [31]) by decide +kernel) (by decide +kernel) (by decide +kernel) rfl ?_
      refine e_ic (show am_cd 81 15 = (0, 16, 0, 1, []) by decide +kernel) ?_
      refine e_iadd (show am_cd 81 16 = (5, 17, 0, 0, []) by decide +kernel) ?_
      refine e_putf (a := 2) (show am_cd 81 17 = (19, 20, 806, 0, [31]) by decide +kernel) (by decide +kernel) (by decide +kernel) rfl (fun h9 => absurd h9 (by decide)) (fun h9 => absurd h9 (by decide +kernel)) ?_
      refine e_ic (show am_cd 81 20 = (0, 21, 0, 1, []) by decide +kernel) ?_
      refine e_retz (show am_cd 81 21 = (36, 22, 0, 0, []) by decide +kernel) (by decide +kernel) (Or.inr rfl) ⟨fun _ h9 => (by cases h9), ?_⟩
      show Ev _ 65 _ 128 [rA 15, rA 2, rA 8, (0, 0)] [(0, 1)] _
      exact e_retz (show am_cd 65 128 = (36, 129, 0, 0, []) by decide +kernel) (by decide +kernel) (Or.inr rfl) h
    · replace h := h.2 hc
      refine e_ic (show am_cd 81 8 = (0, 9, 0, 0, []) by decide +kernel) ?_
      refine e_retz (show am_cd 81 9 = (36, 10, 0, 0, []) by decide +kernel) (by decide +kernel) (Or.inl rfl) ⟨fun _ h9 => (by cases h9), ?_⟩
      show Ev _ 65 _ 128 [rA 15, rA 2, rA 8, (0, 0)] [(0, 0)] _
      exact e_retz (show am_cd 65 128 = (36, 129, 0, 0, []) by decide +kernel) (by decide +kernel) (Or.inl rfl) h
  · replace h := h.2 hc
    refine e_lda (v := 15) (show am_cd 65 48 = (2, 49, 0, 2, []) by decide +kernel) rfl ?_
    refine e_lda (v := 2) (show am_cd 65 49 = (2, 50, 1, 2, []) by decide +kernel) rfl ?_
    refine e_lda (v := 8) (show am_cd 65 50 = (2, 51, 2, 2, []) by decide +kernel) rfl ?_
    refine e_ldi (show am_cd 65 51 = (2, 52, 3, 0, []) by decide +kernel) rfl ?_
    refine e_ifF (show am_cd 65 52 = (10, 55, 59, 1, []) by decide +kernel) (by decide +kernel) ?_
    refine e_ic (show am_cd 65 55 = (0, 56, 0, 1, []) by decide +kernel) ?_
    refine e_go (show am_cd 65 56 = (12, 60, 0, 0, []) by decide +kernel) ?_
    refine e_cV (z := 0) (a := 15) (as := [rA 2, rA 8, (0, 1)]) (rest := []) (show am_cd 65 60 = (40, 63, 67, 0, [89]) by decide +kernel) (by decide +kernel) rfl rfl (Nat.le_of_ble_eq_true rfl) rfl ?_
    refine Cl.mono (Cl.up (c_tpart (d := d) h.1) (by omega)) ?_
    rintro _ _ ⟨x1, w2, rfl, rfl, hp⟩
    refine ⟨fun _ h9 => (by cases h9), ?_⟩
    replace h := h.2 x1 w2 hp
    show Ev _ 65 _ 63 [rA 15, rA 2, rA 8, (0, 0)] [(0, x1)] _
    refine e_if1 (show am_cd 65 63 = (10, 66, 68, 1, []) by decide +kernel) (fun hc => ?_) (fun hc => ?_)
    · replace h := h.1 hc
      refine e_ldi (show am_cd 65 68 = (2, 69, 3, 0, []) by decide +kernel) rfl ?_
      refine e_ic (show am_cd 65 69 = (0, 70, 0, 1, []) by decide +kernel) ?_
      refine e_cmpT (show am_cd 65 70 = (11, 73, 91, 1, []) by decide +kernel) (by decide +kernel) ?_
      refine e_lda (v := 15) (show am_cd 65 91 = (2, 92, 0, 2, []) by decide +kernel) rfl ?_
      refine e_getr (a := 15) (r := 21) (show am_cd 65 92 = (18, 95, 705, 2, [27]) by decide +kernel) (by decide +kernel) (by decide +kernel) rfl ?_
      refine e_lda (v := 15) (show am_cd 65 95 = (2, 96, 0, 2, []) by decide +kernel) rfl ?_
      refine e_getf (a := 15) (tg := 0) (show am_cd 65 96 = (18, 99, 712, 0, [82]) by decide +kernel) (by decide +kernel) (by decide +kernel) rfl ?_
      refine e_lda (v := 15) (show am_cd 65 99 = (2, 100, 0, 2, []) by decide +kernel) rfl ?_
      refine e_getf (a := 15) (tg := 0) (show am_cd 65 100 = (18, 103, 715, 0, [93]) by decide +kernel) (by decide +kernel) (by decide +kernel) rfl ?_
      refine e_iast (a := 21) (n := 9) (show am_cd 65 103 = (24, 104, 0, 0, []) by decide +kernel) (by decide +kernel) (by decide +kernel) (by decide +kernel) h.1 ?_
      replace h := h.2
      refine e_lda (v := 15) (show am_cd 65 104 = (2, 105, 0, 2, []) by decide +kernel) rfl ?_
      refine e_getr (a := 15) (r := 18) (show am_cd 65 105 = (18, 108, 702, 2, [18]) by decide +kernel) (by decide +kernel) (by decide +kernel) rfl ?_
      refine e_lda (v := 15) (show am_cd 65 108 = (2, 109, 0, 2, []) by decide +kernel) rfl ?_
      refine e_getfE (a := 15) (tg := 0) (v := w2 15 12) (show am_cd 65 109 = (18, 112, 712, 0, [82]) by decide +kernel) (by decide +kernel) (by decide +kernel) rfl rfl ?_
      refine e_ldi (show am_cd 65 112 = (2, 113, 3, 0, []) by decide +kernel) rfl ?_
      refine e_ic (show am_cd 65 113 = (0, 114, 0, 1, []) by decide +kernel) ?_
      refine e_iok (r := 1) (show am_cd 65 114 = (5, 115, 0, 0, []) by decide +kernel) (by decide +kernel) (by decide +kernel) ?_
      refine e_iast (a := 18) (n := 9) (show am_cd 65 115 = (24, 116, 0, 0, []) by decide +kernel) (by decide +kernel) (by decide +kernel) (by decide +kernel) h.1 ?_
      replace h := h.2
      refine e_inc (la2 := [rA 15, rA 2, rA 8, (0, 1)]) (show am_cd 65 116 = (4, 119, 3, 1, []) by decide +kernel) rfl rfl ?_
      refine e_go (show am_cd 65 119 = (12, 34, 0, 0, []) by decide +kernel) ?_
      exact h
    · replace h := h.2 hc
      refine e_ic (show am_cd 65 66 = (0, 67, 0, 0, []) by decide +kernel) ?_
      exact e_retz (show am_cd 65 67 = (36, 68, 0, 0, []) by decide +kernel) (by decide +kernel) (Or.inl rfl) h

theorem g_left {d : Nat} {Q : Option aV → aS → Prop} {w : eW} {t : eT} {tx : List Int} {m : eW} (h : (0 ≤ w32 (w 15 12) ∧ w32 (w 15 12) < 9) ∧ (0 ≤ w32 (w 15 12) ∧ w32 (w 15 12) < 9) ∧ (0 ≤ w32 (w 15 12) ∧ w32 (w 15 12) < 9) ∧ (Ev (d + 3) 65 Q 34 [rA 15, rA 2, rA 8, (0, 0)] [] (enc (wu (wu (wu w 20 (w32 (w 15 12)).toNat 131071) 21 (w32 (w 15 12)).toNat 131071) 18 (w32 (w 15 12)).toNat 0) t))) : Cl (d + 3) 65 [rA 15, rA 2, rA 8] (enc w t) Q := by
  show Ev (d + 3) 65 Q 0 [rA 15, rA 2, rA 8, (9, 0)] [] (enc w t)
  refine e_lda (v := 15) (show am_cd 65 0 = (2, 1, 0, 2, []) by decide +kernel) rfl ?_
  refine e_getr (a := 15) (r := 20) (show am_cd 65 1 = (18, 4, 704, 2, [24]) by decide +kernel) (by decide +kernel) (by decide +kernel) rfl ?_
  refine e_lda (v := 15) (show am_cd 65 4 = (2, 5, 0, 2, []) by decide +kernel) rfl ?_
  refine e_getf (a := 15) (tg := 0) (show am_cd 65 5 = (18, 8, 712, 0, [82]) by decide +kernel) (by decide +kernel) (by decide +kernel) rfl ?_
  refine e_ic (show am_cd 65 8 = (0, 10, 3, 131071, [85]) by decide +kernel) ?_
  refine e_iast (a := 20) (n := 9) (show am_cd 65 10 = (24, 11, 0, 0, []) by decide +kernel) (by decide +kernel) (by decide +kernel) (by decide +kernel) h.1 ?_
  replace h := h.2
  refine e_lda (v := 15) (show am_cd 65 11 = (2, 12, 0, 2, []) by decide +kernel) rfl ?_
  refine e_getr (a := 15) (r := 21) (show am_cd 65 12 = (18, 15, 705, 2, [27]) by decide +kernel) (by decide +kernel) (by decide +kernel) rfl ?_
  refine e_lda (v := 15) (show am_cd 65 15 = (2, 16, 0, 2, []) by decide +kernel) rfl ?_
  refine e_getfE (a := 15) (tg := 0) (v := w 15 12) (show am_cd 65 16 = (18, 19, 712, 0, [82]) by decide +kernel) (by decide +kernel) (by decide +kernel) rfl rfl ?_
  refine e_ic (show am_cd 65 19 = (0, 21, 3, 131071, [85]) by decide +kernel) ?_
  refine e_iast (a := 21) (n := 9) (show am_cd 65 21 = (24, 22, 0, 0, []) by decide +kernel) (by decide +kernel) (by decide +kernel) (by decide +kernel) h.1 ?_
  replace h := h.2
  refine e_lda (v := 15) (show am_cd 65 22 = (2, 23, 0, 2, []) by decide +kernel) rfl ?_
  refine e_getr (a := 15) (r := 18) (show am_cd 65 23 = (18, 26, 702, 2, [18]) by decide +kernel) (by decide +kernel) (by decide +kernel) rfl ?_
  refine e_lda (v := 15) (show am_cd 65 26 = (2, 27, 0, 2, []) by decide +kernel) rfl ?_
  refine e_getfE (a := 15) (tg := 0) (v := w 15 12) (show am_cd 65 27 = (18, 30, 712, 0, [82]) by decide +kernel) (by decide +kernel) (by decide +kernel) rfl rfl ?_
  refine e_ic (show am_cd 65 30 = (0, 31, 0, 0, []) by decide +kernel) ?_
  refine e_iast (a := 18) (n := 9) (show am_cd 65 31 = (24, 32, 0, 0, []) by decide +kernel) (by decide +kernel) (by decide +kernel) (by decide +kernel) h.1 ?_
  replace h := h.2
  refine e_ic (show am_cd 65 32 = (0, 33, 0, 0, []) by decide +kernel) ?_
  refine e_sti (la2 := [rA 15, rA 2, rA 8, (0, 0)]) (show am_cd 65 33 = (3, 34, 3, 0, []) by decide +kernel) rfl ?_
  exact h

theorem e_left2 {d n : Nat} {w m : eW} {t : eT} {tx : List Int} {ls : List Int} {Q : Option aV → aS → Prop} (hI : LfI n tx m w) (hL : LfC w n ls) (hQ : ∀ x w2, LfQ n tx w (rdLf m tx 0 ls (w 2 6).toNat) x w2 → Q (some (0, x)) (enc w2 t)) : Ev (d + 3) 65 Q 34 [rA 15, rA 2, rA 8, (0, 2)] [] (enc w t) := by
  have hT := hI.1
  have hb := hT.b
  have b0 := hT.hrb (w 2 6).toNat
  unfold rdLf at hQ
  refine g_left2 (tx := tx) (m := m) ⟨hT, ?_⟩
  rw [w32_id (x := hr tx _) (by omega), w32_id (x := 95) (by decide)]
  refine ⟨fun h95 => ?_, fun h95 => ?_⟩
  · rw [if_pos h95] at hQ
    have := hr_in h95 (by decide)
    exact hQ 1 _ ⟨Fc.pf (by decide), Ot.pf (by omega), hT.at (by omega), rfl, by show w 2 6 + 1 = _; omega, hL⟩
  · rw [if_neg h95] at hQ
    exact hQ 0 _ ⟨Fc.rf _ _ _, Ot.rf _ _, hT, rfl, by omega⟩

theorem e_left1 {d n : Nat} {w m : eW} {t : eT} {tx : List Int} {ls : List Int} {Q : Option aV → aS → Prop} (hI : LfI n tx m w) (hp : WFp m) (hs : WFs m) (hn : n ≤ 8) (hl : ls.length = 1) (hL : LfC w n ls) (hQ : ∀ x w2, LfQ n tx w (rdLf m tx 1 ls (w 2 6).toNat) x w2 → Q (some (0, x)) (enc w2 t)) : Ev (d + 3) 65 Q 34 [rA 15, rA 2, rA 8, (0, 1)] [] (enc w t) := by
  have hT := hI.1
  have hb := hT.b
  have b0 := hT.hrb (w 2 6).toNat
  unfold rdLf at hQ
  refine g_left1 (tx := tx) (m := m) ⟨hT, ?_⟩
  rw [w32_id (x := hr tx _) (by omega), w32_id (x := 95) (by decide)]
  refine ⟨fun h95 => ⟨hT, fun _ => ?_, fun h9 => absurd h95 h9⟩, fun h95 => ⟨⟨hT, hI.2.1, hI.2.2.1, hp, hs, by decide⟩, fun x1 w1 hw1 => ?_⟩⟩
  · rw [if_pos h95] at hQ
    have := hr_in h95 (by decide)
    exact hQ 1 _ ⟨Fc.pf (by decide), Ot.pf (by omega), hT.at (by omega), rfl, by show w 2 6 + 1 = _; omega, hL⟩
  · rw [if_neg h95] at hQ
    have hne : (if ls = [] then (1 : Int) else 0) = 0 := by
      cases ls with
      | nil => first | rfl | (exact absurd hl (by decide))
      | cons a b => first | rfl | (exact absurd hl (by simp))
    rw [hne] at hQ
    obtain ⟨f1, hT1, hR⟩ := hw1
    have hb1 := hT1.b
    have f1' : Fc [18, 20, 21] [(2, 6), (15, 15)] w w1 := f1.mo (fun a ha => (by cases ha)) (fun a ha => ha)
    have o1 : Ot n w w1 := Ot.fc f1 (by decide)
    have hI1 : LfI n tx m w1 := hI.fc f1' (by omega)
    have e12 := hI1.2.2.2
    rw [e12, w32_id (x := (n : Int)) (by omega), Int.toNat_natCast]
    have nn : (0 : Int) ≤ (n : Int) ∧ (n : Int) < 9 := by omega
    cases hD : rdT m tx 0 (w 2 6).toNat with
    | error q =>
      rw [hD] at hR hQ
      obtain ⟨rfl, e6⟩ := hR
      refine ⟨fun h9 => absurd (by decide +kernel) h9, fun _ => hQ 0 _ ⟨f1', o1, hT1, rfl, e6⟩⟩
    | ok y =>
      rw [hD] at hR hQ
      obtain ⟨rfl, e6, e15⟩ := hR
      refine ⟨fun _ => ⟨nn, nn, nn, nn, ?_⟩, fun h9 => absurd (fun h8 => absurd h8 (by decide +kernel)) h9⟩
      have r21 : w1 21 = w 21 := f1.row (by decide) (by decide)
      have r20 : w1 20 = w 20 := f1.row (by decide) (by decide)
      refine e_left2 (ls := ls ++ [y.1]) (m := m) (hI1.fc (((Fc.pr (by decide)).tr (Fc.pr (by decide))).tr (Fc.pr (by decide))) (by show 0 ≤ w1 2 6 ∧ w1 2 6 ≤ (tx.length : Int); omega))  ?_ (fun x w3 hz => hQ x w3 ?_)
      · obtain ⟨l1, l2, l3⟩ := hL
        have ll : (ls ++ [y.1]).length = 2 := by rw [List.length_append, hl]; rfl
        refine ⟨by rw [ll]; simp [wu], ?_, ?_⟩
        · rw [if_pos ll, gD_app (by omega)]
          simp only [wu]
          simp
          rw [r21, l3, hl]
          simp
        · rw [if_pos ll]
          simp only [wu]
          simp
          rw [e15, show (1 : Nat) = ls.length from hl.symm]
          simp
      · have e7 : (w1 2 6).toNat = y.2 := by omega
        have hz2 : LfQ n tx _ (rdLf m tx 0 (ls ++ [y.1]) (w1 2 6).toNat) x w3 := hz
        rw [e7] at hz2
        exact LfQ.tr (f1'.tr (((Fc.pr (by decide)).tr (Fc.pr (by decide))).tr (Fc.pr (by decide)))) (o1.tr ((Ot.pu.tr Ot.pu).tr Ot.pu)) hz2

theorem e_left0 {d n : Nat} {w m : eW} {t : eT} {tx : List Int} {ls : List Int} {Q : Option aV → aS → Prop} (hI : LfI n tx m w) (hp : WFp m) (hs : WFs m) (hn : n ≤ 8) (hl : ls.length = 0) (hL : LfC w n ls) (hQ : ∀ x w2, LfQ n tx w (rdLf m tx 2 ls (w 2 6).toNat) x w2 → Q (some (0, x)) (enc w2 t)) : Ev (d + 3) 65 Q 34 [rA 15, rA 2, rA 8, (0, 0)] [] (enc w t) := by
  have hT := hI.1
  have hb := hT.b
  have b0 := hT.hrb (w 2 6).toNat
  unfold rdLf at hQ
  refine g_left0 (tx := tx) (m := m) ⟨hT, ?_⟩
  rw [w32_id (x := hr tx _) (by omega), w32_id (x := 95) (by decide)]
  refine ⟨fun h95 => ⟨hT, fun _ => ?_, fun h9 => absurd h95 h9⟩, fun h95 => ⟨⟨hT, hI.2.1, hI.2.2.1, hp, hs, by decide⟩, fun x1 w1 hw1 => ?_⟩⟩
  · rw [if_pos h95] at hQ
    have := hr_in h95 (by decide)
    exact hQ 1 _ ⟨Fc.pf (by decide), Ot.pf (by omega), hT.at (by omega), rfl, by show w 2 6 + 1 = _; omega, hL⟩
  · rw [if_neg h95] at hQ
    have hne : (if ls = [] then (1 : Int) else 0) = 1 := by
      cases ls with
      | nil => first | rfl | (exact absurd hl (by decide))
      | cons a b => first | rfl | (exact absurd hl (by simp))
    rw [hne] at hQ
    obtain ⟨f1, hT1, hR⟩ := hw1
    have hb1 := hT1.b
    have f1' : Fc [18, 20, 21] [(2, 6), (15, 15)] w w1 := f1.mo (fun a ha => (by cases ha)) (fun a ha => ha)
    have o1 : Ot n w w1 := Ot.fc f1 (by decide)
    have hI1 : LfI n tx m w1 := hI.fc f1' (by omega)
    have e12 := hI1.2.2.2
    rw [e12, w32_id (x := (n : Int)) (by omega), Int.toNat_natCast]
    have nn : (0 : Int) ≤ (n : Int) ∧ (n : Int) < 9 := by omega
    cases hD : rdT m tx 1 (w 2 6).toNat with
    | error q =>
      rw [hD] at hR hQ
      obtain ⟨rfl, e6⟩ := hR
      refine ⟨fun h9 => absurd (by decide +kernel) h9, fun _ => hQ 0 _ ⟨f1', o1, hT1, rfl, e6⟩⟩
    | ok y =>
      rw [hD] at hR hQ
      obtain ⟨rfl, e6, e15⟩ := hR
      refine ⟨fun _ => ⟨nn, nn, ?_⟩, fun h9 => absurd (fun h8 => absurd h8 (by decide +kernel)) h9⟩
      have r21 : w1 21 = w 21 := f1.row (by decide) (by decide)
      have r20 : w1 20 = w 20 := f1.row (by decide) (by decide)
      refine e_left1 (ls := ls ++ [y.1]) (m := m) (hI1.fc ((Fc.pr (by decide)).tr (Fc.pr (by decide))) (by show 0 ≤ w1 2 6 ∧ w1 2 6 ≤ (tx.length : Int); omega)) hp hs hn (by rw [List.length_append, hl]; rfl) ?_ (fun x w3 hz => hQ x w3 ?_)
      · obtain ⟨l1, l2, l3⟩ := hL
        have ll : (ls ++ [y.1]).length = 1 := by rw [List.length_append, hl]; rfl
        refine ⟨by rw [ll]; simp [wu], ?_, ?_⟩
        · rw [if_neg (by omega)]
          simp only [wu]
          simp
          rw [r20, l2, if_neg (by omega)]
        · rw [if_neg (by omega), if_pos ll]
          simp only [wu]
          simp
          rw [e15, List.length_eq_zero_iff.mp hl]
          rfl
      · have e7 : (w1 2 6).toNat = y.2 := by omega
        have hz2 : LfQ n tx _ (rdLf m tx 1 (ls ++ [y.1]) (w1 2 6).toNat) x w3 := hz
        rw [e7] at hz2
        exact LfQ.tr (f1'.tr ((Fc.pr (by decide)).tr (Fc.pr (by decide)))) (o1.tr (Ot.pu.tr Ot.pu)) hz2

theorem c_left {d n : Nat} {w m : eW} {t : eT} {tx : List Int} (hI : LfI n tx m w) (hp : WFp m) (hs : WFs m) (hn : n ≤ 8) : Cl (d + 3) 65 [rA 15, rA 2, rA 8] (enc w t) (fun r S2 => ∃ x w2, r = some (0, x) ∧ S2 = enc w2 t ∧ LfQ n tx w (rdLf m tx 2 [] (w 2 6).toNat) x w2) := by
  have hb := hI.1.b
  have e12 := hI.2.2.2
  refine g_left (tx := tx) (m := m) ?_
  rw [e12, w32_id (x := (n : Int)) (by omega), Int.toNat_natCast]
  have nn : (0 : Int) ≤ (n : Int) ∧ (n : Int) < 9 := by omega
  refine ⟨nn, nn, nn, ?_⟩
  have f : ∀ a b c, Fc [18, 20, 21] [(2, 6), (15, 15)] w (wu (wu (wu w 20 n a) 21 n b) 18 n c) := fun a b c => ((Fc.pr (by decide)).tr (Fc.pr (by decide))).tr (Fc.pr (by decide))
  refine e_left0 (ls := []) (hI.fc (f _ _ _) (by show 0 ≤ w 2 6 ∧ w 2 6 ≤ (tx.length : Int); omega)) hp hs hn rfl ⟨by simp [wu], by simp [wu], by simp [wu]⟩ (fun x w2 hz => ⟨x, w2, rfl, rfl, LfQ.tr (f _ _ _) ((Ot.pu.tr Ot.pu).tr Ot.pu) hz⟩)

