/-! The class: reading a rule whole. -/
theorem c_tsortU {d n : Nat} {w : eW} {t : eT} {tx : List Int} (h : TC w tx ∧ w 15 12 = (n : Int) ∧ n ≤ 8) : Cl (d + 2) 64 [rA 15, rA 2] (enc w t) (fun r S2 => ∃ x w2, r = some (0, x) ∧ S2 = enc w2 t ∧ Fc [17] [(2, 6)] w w2 ∧ Ot n w w2 ∧ TC w2 tx ∧ RQ (rdO tx (w 2 6).toNat) x w2 (fun y => w2 17 n = y ∧ (0 ≤ y ∧ y ≤ 3))) :=
  (c_tsort h.1 h.2.1 h.2.2).mono (fun r S2 ⟨x, w2, e1, e2, f, o, T, q⟩ => ⟨x, w2, e1, e2, f, fun a i h1 h2 h3 => by
    by_cases h9 : a = 17
    · subst h9; exact o i h3
    · exact f a i (by simp [h9]) (by simp; omega), T, q⟩)
theorem c_leftU {d n : Nat} {w m : eW} {t : eT} {tx : List Int} (h : LfI n tx m w ∧ WFp m ∧ WFs m ∧ n ≤ 8) : Cl (d + 3) 65 [rA 15, rA 2, rA 8] (enc w t) (fun r S2 => ∃ x w2, r = some (0, x) ∧ S2 = enc w2 t ∧ LfQ n tx w (rdLf m tx 2 [] (w 2 6).toNat) x w2) := c_left h.1 h.2.1 h.2.2.1 h.2.2.2
def RtQ (n : Nat) (tx : List Int) (w : eW) (R : Except Nat (Option Int × Nat)) (x : Int) (w2 : eW) : Prop := Fc [19, 22] [(2, 6), (15, 15)] w w2 ∧ Ot n w w2 ∧ TC w2 tx ∧ RQ R x w2 (fun ri => RtC w2 n ri)

theorem g_right {d : Nat} {Q : Option aV → aS → Prop} {w : eW} {t : eT} {tx : List Int} {m : eW} (h : (0 ≤ w32 (w 15 12) ∧ w32 (w 15 12) < 9) ∧ (0 ≤ w32 (w 15 12) ∧ w32 (w 15 12) < 9) ∧ ((w32 (w 2 6) < w32 (w 2 5) → (TC (wu (wu w 22 (w32 (w 15 12)).toNat 131071) 19 (w32 (w 15 12)).toNat 0) tx ∧ AC (wu (wu w 22 (w32 (w 15 12)).toNat 131071) 19 (w32 (w 15 12)).toNat 0) m ∧ SC (wu (wu w 22 (w32 (w 15 12)).toNat 131071) 19 (w32 (w 15 12)).toNat 0) m ∧ WFp m ∧ WFs m ∧ ((1 : Int) = 0 ∨ (1 : Int) = 1)) ∧ (∀ x1 w2, (tprP tx m (wu (wu w 22 (w32 (w 15 12)).toNat 131071) 19 (w32 (w 15 12)).toNat 0) 1 x1 w2) → ((¬ w32 x1 = 0 → (0 ≤ w32 (w2 15 12) ∧ w32 (w2 15 12) < 9) ∧ (0 ≤ w32 (w2 15 12) ∧ w32 (w2 15 12) < 9) ∧ ((w32 (w2 2 6) < w32 (w2 2 5) → Q (some (0, 0)) (enc (wu (wu w2 22 (w32 (w2 15 12)).toNat (w2 15 15)) 19 (w32 (w2 15 12)).toNat 1) t)) ∧ (¬ (w32 (w2 2 6) < w32 (w2 2 5)) → Q (some (0, 1)) (enc (wu (wu w2 22 (w32 (w2 15 12)).toNat (w2 15 15)) 19 (w32 (w2 15 12)).toNat 1) t)))) ∧ (¬ (¬ w32 x1 = 0) → Q (some (0, 0)) (enc w2 t))))) ∧ (¬ (w32 (w 2 6) < w32 (w 2 5)) → Q (some (0, 1)) (enc (wu (wu w 22 (w32 (w 15 12)).toNat 131071) 19 (w32 (w 15 12)).toNat 0) t)))) : Cl (d + 3) 66 [rA 15, rA 2, rA 8] (enc w t) Q := by
  show Ev (d + 3) 66 Q 0 [rA 15, rA 2, rA 8] [] (enc w t)
  refine e_lda (v := 15) (show am_cd 66 0 = (2, 1, 0, 2, []) by decide +kernel) rfl ?_
  refine e_getr (a := 15) (r := 22) (show am_cd 66 1 = (18, 4, 706, 2, [30]) by decide +kernel) (by decide +kernel) (by decide +kernel) rfl ?_
  refine e_lda (v := 15) (show am_cd 66 4 = (2, 5, 0, 2, []) by decide +kernel) rfl ?_
  refine e_getf (a := 15) (tg := 0) (show am_cd 66 5 = (18, 8, 712, 0, [82]) by decide +kernel) (by decide +kernel) (by decide +kernel) rfl ?_
  refine e_ic (show am_cd 66 8 = (0, 10, 3, 131071, [85]) by decide +kernel) ?_
  refine e_iast (a := 22) (n := 9) (show am_cd 66 10 = (24, 11, 0, 0, []) by decide +kernel) (by decide +kernel) (by decide +kernel) (by decide +kernel) h.1 ?_
  replace h := h.2
  refine e_lda (v := 15) (show am_cd 66 11 = (2, 12, 0, 2, []) by decide +kernel) rfl ?_
  refine e_getr (a := 15) (r := 19) (show am_cd 66 12 = (18, 15, 703, 2, [21]) by decide +kernel) (by decide +kernel) (by decide +kernel) rfl ?_
  refine e_lda (v := 15) (show am_cd 66 15 = (2, 16, 0, 2, []) by decide +kernel) rfl ?_
  refine e_getfE (a := 15) (tg := 0) (v := w 15 12) (show am_cd 66 16 = (18, 19, 712, 0, [82]) by decide +kernel) (by decide +kernel) (by decide +kernel) rfl rfl ?_
  refine e_ic (show am_cd 66 19 = (0, 20, 0, 0, []) by decide +kernel) ?_
  refine e_iast (a := 19) (n := 9) (show am_cd 66 20 = (24, 21, 0, 0, []) by decide +kernel) (by decide +kernel) (by decide +kernel) (by decide +kernel) h.1 ?_
  replace h := h.2
  refine e_lda (v := 2) (show am_cd 66 21 = (2, 22, 1, 2, []) by decide +kernel) rfl ?_
  refine e_getfE (a := 2) (tg := 0) (v := w 2 6) (show am_cd 66 22 = (18, 25, 806, 0, [72]) by decide +kernel) (by decide +kernel) (by decide +kernel) rfl rfl ?_
  refine e_lda (v := 2) (show am_cd 66 25 = (2, 26, 1, 2, []) by decide +kernel) rfl ?_
  refine e_getfE (a := 2) (tg := 0) (v := w 2 5) (show am_cd 66 26 = (18, 29, 805, 0, [96]) by decide +kernel) (by decide +kernel) (by decide +kernel) rfl rfl ?_
  refine e_cmp2 (show am_cd 66 29 = (11, 32, 34, 2, []) by decide +kernel) (fun hc => ?_) (fun hc => ?_)
  · replace h := h.1 hc
    refine e_lda (v := 15) (show am_cd 66 34 = (2, 35, 0, 2, []) by decide +kernel) rfl ?_
    refine e_lda (v := 2) (show am_cd 66 35 = (2, 36, 1, 2, []) by decide +kernel) rfl ?_
    refine e_lda (v := 8) (show am_cd 66 36 = (2, 37, 2, 2, []) by decide +kernel) rfl ?_
    refine e_ic (show am_cd 66 37 = (0, 38, 0, 1, []) by decide +kernel) ?_
    refine e_cV (z := 0) (a := 15) (as := [rA 2, rA 8, (0, 1)]) (rest := []) (show am_cd 66 38 = (40, 41, 67, 0, [89]) by decide +kernel) (by decide +kernel) rfl rfl (Nat.le_of_ble_eq_true rfl) rfl ?_
    refine Cl.mono (Cl.up (c_tpart (d := d) h.1) (by omega)) ?_
    rintro _ _ ⟨x1, w2, rfl, rfl, hp⟩
    refine ⟨fun _ h9 => (by cases h9), ?_⟩
    replace h := h.2 x1 w2 hp
    show Ev _ 66 _ 41 [rA 15, rA 2, rA 8] [(0, x1)] _
    refine e_if1 (show am_cd 66 41 = (10, 44, 46, 1, []) by decide +kernel) (fun hc => ?_) (fun hc => ?_)
    · replace h := h.1 hc
      refine e_lda (v := 15) (show am_cd 66 46 = (2, 47, 0, 2, []) by decide +kernel) rfl ?_
      refine e_getr (a := 15) (r := 22) (show am_cd 66 47 = (18, 50, 706, 2, [30]) by decide +kernel) (by decide +kernel) (by decide +kernel) rfl ?_
      refine e_lda (v := 15) (show am_cd 66 50 = (2, 51, 0, 2, []) by decide +kernel) rfl ?_
      refine e_getf (a := 15) (tg := 0) (show am_cd 66 51 = (18, 54, 712, 0, [82]) by decide +kernel) (by decide +kernel) (by decide +kernel) rfl ?_
      refine e_lda (v := 15) (show am_cd 66 54 = (2, 55, 0, 2, []) by decide +kernel) rfl ?_
      refine e_getf (a := 15) (tg := 0) (show am_cd 66 55 = (18, 58, 715, 0, [93]) by decide +kernel) (by decide +kernel) (by decide +kernel) rfl ?_
      refine e_iast (a := 22) (n := 9) (show am_cd 66 58 = (24, 59, 0, 0, []) by decide +kernel) (by decide +kernel) (by decide +kernel) (by decide +kernel) h.1 ?_
      replace h := h.2
      refine e_lda (v := 15) (show am_cd 66 59 = (2, 60, 0, 2, []) by decide +kernel) rfl ?_
      refine e_getr (a := 15) (r := 19) (show am_cd 66 60 = (18, 63, 703, 2, [21]) by decide +kernel) (by decide +kernel) (by decide +kernel) rfl ?_
      refine e_lda (v := 15) (show am_cd 66 63 = (2, 64, 0, 2, []) by decide +kernel) rfl ?_
      refine e_getfE (a := 15) (tg := 0) (v := w2 15 12) (show am_cd 66 64 = (18, 67, 712, 0, [82]) by decide +kernel) (by decide +kernel) (by decide +kernel) rfl rfl ?_
      refine e_ic (show am_cd 66 67 = (0, 68, 0, 1, []) by decide +kernel) ?_
      refine e_iast (a := 19) (n := 9) (show am_cd 66 68 = (24, 69, 0, 0, []) by decide +kernel) (by decide +kernel) (by decide +kernel) (by decide +kernel) h.1 ?_
      replace h := h.2
      refine e_lda (v := 2) (show am_cd 66 69 = (2, 70, 1, 2, []) by decide +kernel) rfl ?_
      refine e_getfE (a := 2) (tg := 0) (v := w2 2 6) (show am_cd 66 70 = (18, 73, 806, 0, [72]) by decide +kernel) (by decide +kernel) (by decide +kernel) rfl rfl ?_
      refine e_lda (v := 2) (show am_cd 66 73 = (2, 74, 1, 2, []) by decide +kernel) rfl ?_
      refine e_getfE (a := 2) (tg := 0) (v := w2 2 5) (show am_cd 66 74 = (18, 77, 805, 0, [96]) by decide +kernel) (by decide +kernel) (by decide +kernel) rfl rfl ?_
      refine e_cmp2 (show am_cd 66 77 = (11, 80, 84, 2, []) by decide +kernel) (fun hc => ?_) (fun hc => ?_)
      · replace h := h.1 hc
        refine e_ic (show am_cd 66 84 = (0, 85, 0, 0, []) by decide +kernel) ?_
        exact e_retz (show am_cd 66 85 = (36, 86, 0, 0, []) by decide +kernel) (by decide +kernel) (Or.inl rfl) h
      · replace h := h.2 hc
        refine e_ic (show am_cd 66 80 = (0, 81, 0, 1, []) by decide +kernel) ?_
        refine e_go (show am_cd 66 81 = (12, 85, 0, 0, []) by decide +kernel) ?_
        exact e_retz (show am_cd 66 85 = (36, 86, 0, 0, []) by decide +kernel) (by decide +kernel) (Or.inr rfl) h
    · replace h := h.2 hc
      refine e_ic (show am_cd 66 44 = (0, 45, 0, 0, []) by decide +kernel) ?_
      exact e_retz (show am_cd 66 45 = (36, 46, 0, 0, []) by decide +kernel) (by decide +kernel) (Or.inl rfl) h
  · replace h := h.2 hc
    refine e_ic (show am_cd 66 32 = (0, 33, 0, 1, []) by decide +kernel) ?_
    exact e_retz (show am_cd 66 33 = (36, 34, 0, 0, []) by decide +kernel) (by decide +kernel) (Or.inr rfl) h

theorem c_right {d n : Nat} {w m : eW} {t : eT} {tx : List Int} (h : LfI n tx m w ∧ WFp m ∧ WFs m ∧ n ≤ 8) : Cl (d + 3) 66 [rA 15, rA 2, rA 8] (enc w t) (fun r S2 => ∃ x w2, r = some (0, x) ∧ S2 = enc w2 t ∧ RtQ n tx w (rdRt m tx (w 2 6).toNat) x w2) := by
  obtain ⟨hI, hp, hs, hn⟩ := h
  have hT := hI.1
  have hb := hT.b
  have e12 := hI.2.2.2
  refine g_right (tx := tx) (m := m) ?_
  rw [e12, w32_id (x := (n : Int)) (by omega), Int.toNat_natCast, hT.2.1, w32_id (x := w 2 6) (by omega), w32_id (x := (tx.length : Int)) (by omega)]
  have nn : (0 : Int) ≤ (n : Int) ∧ (n : Int) < 9 := by omega
  refine ⟨nn, nn, fun hc => ?_, fun hc => ?_⟩
  · have f0 : Fc [19, 22] [(2, 6), (15, 15)] w (wu (wu w 22 n 131071) 19 n 0) := (Fc.pr (by decide)).tr (Fc.pr (by decide))
    have o0 : Ot n w (wu (wu w 22 n 131071) 19 n 0) := Ot.pu.tr Ot.pu
    refine ⟨⟨hT.fr rfl rfl rfl, hI.2.1.fc f0 (by decide) (by decide), hI.2.2.1.fc f0 (by decide) (by decide), hp, hs, by decide⟩, fun x1 w1 hw1 => ?_⟩
    obtain ⟨f1, hT1, hR⟩ := hw1
    have hR : RQ (rdT m tx 1 (w 2 6).toNat) x1 w1 (fun y => w1 15 15 = y) := hR
    have hb1 := hT1.b
    have f1' : Fc [19, 22] [(2, 6), (15, 15)] w w1 := f0.tr (f1.mo (fun a ha => (by cases ha)) (fun a ha => ha))
    have o1 : Ot n w w1 := o0.tr (Ot.fc f1 (by decide))
    have e12' : w1 15 12 = (n : Int) := by rw [f1' _ _ (by decide) (by decide)]; exact e12
    rw [e12', w32_id (x := (n : Int)) (by omega), Int.toNat_natCast, hT1.2.1, w32_id (x := w1 2 6) (by omega), w32_id (x := (tx.length : Int)) (by omega)]
    have eR : rdRt m tx (w 2 6).toNat = match rdT m tx 1 (w 2 6).toNat with
        | .error q => .error q
        | .ok y => if y.2 < tx.length then .error y.2 else .ok (some y.1, y.2) := by
      unfold rdRt
      rw [if_pos (by omega)]
      rfl
    rw [eR]
    cases hD : rdT m tx 1 (w 2 6).toNat with
    | error q =>
      rw [hD] at hR
      obtain ⟨rfl, e6⟩ := hR
      exact ⟨fun h9 => absurd (by decide +kernel) h9, fun _ => ⟨0, _, rfl, rfl, f1', o1, hT1, rfl, e6⟩⟩
    | ok y =>
      rw [hD] at hR
      obtain ⟨rfl, e6, e15⟩ := hR
      dsimp only
      have f2 : Fc [19, 22] [(2, 6), (15, 15)] w (wu (wu w1 22 n (w1 15 15)) 19 n 1) := f1'.tr ((Fc.pr (by decide)).tr (Fc.pr (by decide)))
      have o2 : Ot n w (wu (wu w1 22 n (w1 15 15)) 19 n 1) := o1.tr (Ot.pu.tr Ot.pu)
      refine ⟨fun _ => ⟨nn, nn, fun hd => ?_, fun hd => ?_⟩, fun h9 => absurd (fun h8 => absurd h8 (by decide +kernel)) h9⟩
      · rw [if_pos (by omega)]
        exact ⟨0, _, rfl, rfl, f2, o2, hT1.fr rfl rfl rfl, rfl, e6⟩
      · rw [if_neg (by omega)]
        refine ⟨1, _, rfl, rfl, f2, o2, hT1.fr rfl rfl rfl, rfl, e6, ?_, ?_⟩
        · simp [wu]
        · simp [wu, e15]
  · have eR : rdRt m tx (w 2 6).toNat = .ok (none, (w 2 6).toNat) := by
      unfold rdRt
      rw [if_neg (by omega)]
    rw [eR]
    exact ⟨1, _, rfl, rfl, (Fc.pr (by decide)).tr (Fc.pr (by decide)), Ot.pu.tr Ot.pu, hT.fr rfl rfl rfl, rfl, by show w 2 6 = _; omega, by simp [wu], by simp [wu]⟩

theorem g_rtakes {d : Nat} {Q : Option aV → aS → Prop} {w : eW} {t : eT} {tx : List Int} {m : eW} {n : Nat} (h : (TC w tx) ∧ (∀ x1 w2, (Fc [] [(2, 6), (15, 13), (15, 14)] w w2 ∧ TC w2 tx ∧ RQ (rdW tx (w 2 6).toNat) x1 w2 (fun y => w2 15 13 = cdI y.1 ∧ w2 15 14 = cdI y.2 ∧ (0 ≤ y.1 ∧ y.1 ≤ 27) ∧ (0 ≤ y.2 ∧ y.2 ≤ 27))) → ((w32 x1 = 0 → Q (some (0, 0)) (enc w2 t)) ∧ (¬ (w32 x1 = 0) → (TC w2 tx ∧ w2 15 12 = (n : Int) ∧ n ≤ 8) ∧ (∀ x3 w4, (Fc [17] [(2, 6)] w2 w4 ∧ Ot n w2 w4 ∧ TC w4 tx ∧ RQ (rdO tx (w2 2 6).toNat) x3 w4 (fun y => w4 17 n = y ∧ (0 ≤ y ∧ y ≤ 3))) → ((w32 x3 = 0 → Q (some (0, 0)) (enc w4 t)) ∧ (¬ (w32 x3 = 0) → (LfI n tx m w4 ∧ WFp m ∧ WFs m ∧ n ≤ 8) ∧ (∀ x5 w6, (LfQ n tx w4 (rdLf m tx 2 [] (w4 2 6).toNat) x5 w6) → ((w32 x5 = 0 → Q (some (0, 0)) (enc w6 t)) ∧ (¬ (w32 x5 = 0) → (LfI n tx m w6 ∧ WFp m ∧ WFs m ∧ n ≤ 8) ∧ (∀ x7 w8, (RtQ n tx w6 (rdRt m tx (w6 2 6).toNat) x7 w8) → ((w32 x7 = 0 → Q (some (0, 0)) (enc w8 t)) ∧ (¬ (w32 x7 = 0) → Q (some (0, 1)) (enc w8 t)))))))))))))) : Cl (d + 4) 62 [rA 15, rA 2, rA 8] (enc w t) Q := by
  show Ev (d + 4) 62 Q 0 [rA 15, rA 2, rA 8] [] (enc w t)
  refine e_lda (v := 15) (show am_cd 62 0 = (2, 1, 0, 2, []) by decide +kernel) rfl ?_
  refine e_lda (v := 2) (show am_cd 62 1 = (2, 2, 1, 2, []) by decide +kernel) rfl ?_
  refine e_cV (z := 0) (a := 15) (as := [rA 2]) (rest := []) (show am_cd 62 2 = (40, 5, 63, 0, [48]) by decide +kernel) (by decide +kernel) rfl rfl (Nat.le_of_ble_eq_true rfl) rfl ?_
  refine Cl.mono (Cl.up (c_town (d := d) h.1) (by omega)) ?_
  rintro _ _ ⟨x1, w2, rfl, rfl, hp⟩
  refine ⟨fun _ h9 => (by cases h9), ?_⟩
  replace h := h.2 x1 w2 hp
  show Ev _ 62 _ 5 [rA 15, rA 2, rA 8] [(0, x1)] _
  refine e_if0 (show am_cd 62 5 = (10, 8, 38, 0, []) by decide +kernel) (fun hc => ?_) (fun hc => ?_)
  · replace h := h.1 hc
    refine e_ic (show am_cd 62 38 = (0, 39, 0, 0, []) by decide +kernel) ?_
    exact e_retz (show am_cd 62 39 = (36, 40, 0, 0, []) by decide +kernel) (by decide +kernel) (Or.inl rfl) h
  · replace h := h.2 hc
    refine e_lda (v := 15) (show am_cd 62 8 = (2, 9, 0, 2, []) by decide +kernel) rfl ?_
    refine e_lda (v := 2) (show am_cd 62 9 = (2, 10, 1, 2, []) by decide +kernel) rfl ?_
    refine e_cV (z := 0) (a := 15) (as := [rA 2]) (rest := []) (show am_cd 62 10 = (40, 13, 64, 0, [52]) by decide +kernel) (by decide +kernel) rfl rfl (Nat.le_of_ble_eq_true rfl) rfl ?_
    refine Cl.mono (Cl.up (c_tsortU (d := d) h.1) (by omega)) ?_
    rintro _ _ ⟨x3, w4, rfl, rfl, hp⟩
    refine ⟨fun _ h9 => (by cases h9), ?_⟩
    replace h := h.2 x3 w4 hp
    show Ev _ 62 _ 13 [rA 15, rA 2, rA 8] [(0, x3)] _
    refine e_if0 (show am_cd 62 13 = (10, 16, 38, 0, []) by decide +kernel) (fun hc => ?_) (fun hc => ?_)
    · replace h := h.1 hc
      refine e_ic (show am_cd 62 38 = (0, 39, 0, 0, []) by decide +kernel) ?_
      exact e_retz (show am_cd 62 39 = (36, 40, 0, 0, []) by decide +kernel) (by decide +kernel) (Or.inl rfl) h
    · replace h := h.2 hc
      refine e_lda (v := 15) (show am_cd 62 16 = (2, 17, 0, 2, []) by decide +kernel) rfl ?_
      refine e_lda (v := 2) (show am_cd 62 17 = (2, 18, 1, 2, []) by decide +kernel) rfl ?_
      refine e_lda (v := 8) (show am_cd 62 18 = (2, 19, 2, 2, []) by decide +kernel) rfl ?_
      refine e_cV (z := 0) (a := 15) (as := [rA 2, rA 8]) (rest := []) (show am_cd 62 19 = (40, 22, 65, 0, [55]) by decide +kernel) (by decide +kernel) rfl rfl (Nat.le_of_ble_eq_true rfl) rfl ?_
      refine Cl.mono (Cl.up (c_leftU (d := d) h.1) (by omega)) ?_
      rintro _ _ ⟨x5, w6, rfl, rfl, hp⟩
      refine ⟨fun _ h9 => (by cases h9), ?_⟩
      replace h := h.2 x5 w6 hp
      show Ev _ 62 _ 22 [rA 15, rA 2, rA 8] [(0, x5)] _
      refine e_if0 (show am_cd 62 22 = (10, 25, 38, 0, []) by decide +kernel) (fun hc => ?_) (fun hc => ?_)
      · replace h := h.1 hc
        refine e_ic (show am_cd 62 38 = (0, 39, 0, 0, []) by decide +kernel) ?_
        exact e_retz (show am_cd 62 39 = (36, 40, 0, 0, []) by decide +kernel) (by decide +kernel) (Or.inl rfl) h
      · replace h := h.2 hc
        refine e_lda (v := 15) (show am_cd 62 25 = (2, 26, 0, 2, []) by decide +kernel) rfl ?_
        refine e_lda (v := 2) (show am_cd 62 26 = (2, 27, 1, 2, []) by decide +kernel) rfl ?_
        refine e_lda (v := 8) (show am_cd 62 27 = (2, 28, 2, 2, []) by decide +kernel) rfl ?_
        refine e_cV (z := 0) (a := 15) (as := [rA 2, rA 8]) (rest := []) (show am_cd 62 28 = (40, 31, 66, 0, [59]) by decide +kernel) (by decide +kernel) rfl rfl (Nat.le_of_ble_eq_true rfl) rfl ?_
        refine Cl.mono (Cl.up (c_right (d := d) h.1) (by omega)) ?_
        rintro _ _ ⟨x7, w8, rfl, rfl, hp⟩
        refine ⟨fun _ h9 => (by cases h9), ?_⟩
        replace h := h.2 x7 w8 hp
        show Ev _ 62 _ 31 [rA 15, rA 2, rA 8] [(0, x7)] _
        refine e_if0 (show am_cd 62 31 = (10, 34, 38, 0, []) by decide +kernel) (fun hc => ?_) (fun hc => ?_)
        · replace h := h.1 hc
          refine e_ic (show am_cd 62 38 = (0, 39, 0, 0, []) by decide +kernel) ?_
          exact e_retz (show am_cd 62 39 = (36, 40, 0, 0, []) by decide +kernel) (by decide +kernel) (Or.inl rfl) h
        · replace h := h.2 hc
          refine e_ic (show am_cd 62 34 = (0, 35, 0, 1, []) by decide +kernel) ?_
          refine e_go (show am_cd 62 35 = (12, 39, 0, 0, []) by decide +kernel) ?_
          exact e_retz (show am_cd 62 39 = (36, 40, 0, 0, []) by decide +kernel) (by decide +kernel) (Or.inr rfl) h

def ruQ (n : Nat) (tx : List Int) (m w : eW) (x : Int) (w2 : eW) : Prop := Fc [17, 18, 19, 20, 21, 22] [(2, 6), (15, 13), (15, 14), (15, 15)] w w2 ∧ Ot n w w2 ∧ TC w2 tx ∧ match ruR m tx with
  | .error q => x = 0 ∧ w2 2 6 = (q : Int)
  | .ok y => x = 1 ∧ w2 15 13 = cdI y.1 ∧ w2 15 14 = cdI y.2.1 ∧ (0 ≤ y.1 ∧ y.1 ≤ 27) ∧ (0 ≤ y.2.1 ∧ y.2.1 ≤ 27) ∧ w2 17 n = y.2.2.1 ∧ LfC w2 n y.2.2.2.1 ∧ RtC w2 n y.2.2.2.2
theorem c_rtakes {d n : Nat} {w m : eW} {t : eT} {tx : List Int} (h : LfI n tx m w ∧ w 2 6 = 0 ∧ WFp m ∧ WFs m ∧ n ≤ 8) : Cl (d + 4) 62 [rA 15, rA 2, rA 8] (enc w t) (fun r S2 => ∃ x w2, r = some (0, x) ∧ S2 = enc w2 t ∧ ruQ n tx m w x w2) := by
  obtain ⟨hI, h0, hp, hs, hn⟩ := h
  refine g_rtakes (tx := tx) (m := m) (n := n) ⟨hI.1, fun x1 w1 h1 => ?_⟩
  obtain ⟨f1, T1, q1⟩ := h1
  rw [h0, show (0 : Int).toNat = 0 from rfl] at q1
  have F1 : Fc [17, 18, 19, 20, 21, 22] [(2, 6), (15, 13), (15, 14), (15, 15)] w w1 := f1.mo (fun a ha => (by cases ha)) (by decide)
  have O1 : Ot n w w1 := Ot.fc f1 (by decide)
  unfold ruQ
  rw [ruR_W]
  cases hA : rdW tx 0 with
  | error q =>
    rw [hA] at q1
    obtain ⟨rfl, e6⟩ := q1
    exact ⟨fun _ => ⟨0, _, rfl, rfl, F1, O1, T1, rfl, e6⟩, fun h9 => absurd (by decide +kernel) h9⟩
  | ok u =>
    rw [hA] at q1
    obtain ⟨rfl, e6, k13, k14, b1, b2⟩ := q1
    dsimp only
    have e12 : w1 15 12 = (n : Int) := by rw [F1 _ _ (by decide) (by decide)]; exact hI.2.2.2
    refine ⟨fun h9 => absurd h9 (by decide +kernel), fun _ => ⟨⟨T1, e12, hn⟩, fun x2 w2 h2 => ?_⟩⟩
    obtain ⟨f2, O2, T2, q2⟩ := h2
    rw [e6, Int.toNat_natCast] at q2
    have F2 : Fc [17, 18, 19, 20, 21, 22] [(2, 6), (15, 13), (15, 14), (15, 15)] w w2 := F1.tr (f2.mo (by decide) (by decide))
    have O2' : Ot n w w2 := O1.tr O2
    cases hB : rdO tx u.2 with
    | error q =>
      rw [hB] at q2
      obtain ⟨rfl, e6⟩ := q2
      exact ⟨fun _ => ⟨0, _, rfl, rfl, F2, O2', T2, rfl, e6⟩, fun h9 => absurd (by decide +kernel) h9⟩
    | ok so =>
      rw [hB] at q2
      obtain ⟨rfl, e6b, k17, b3⟩ := q2
      dsimp only
      have I2 : LfI n tx m w2 := ⟨T2, hI.2.1.fc F2 (by decide) (by decide), hI.2.2.1.fc F2 (by decide) (by decide), by rw [F2 _ _ (by decide) (by decide)]; exact hI.2.2.2⟩
      refine ⟨fun h9 => absurd h9 (by decide +kernel), fun _ => ⟨⟨I2, hp, hs, hn⟩, fun x3 w3 h3 => ?_⟩⟩
      obtain ⟨f3, O3, T3, q3⟩ := h3
      rw [e6b, Int.toNat_natCast] at q3
      have F3 : Fc [17, 18, 19, 20, 21, 22] [(2, 6), (15, 13), (15, 14), (15, 15)] w w3 := F2.tr (f3.mo (by decide) (by decide))
      have O3' : Ot n w w3 := O2'.tr O3
      cases hC : rdLf m tx 2 [] so.2 with
      | error q =>
        rw [hC] at q3
        obtain ⟨rfl, e6⟩ := q3
        exact ⟨fun _ => ⟨0, _, rfl, rfl, F3, O3', T3, rfl, e6⟩, fun h9 => absurd (by decide +kernel) h9⟩
      | ok ls =>
        rw [hC] at q3
        obtain ⟨rfl, e6c, kL⟩ := q3
        dsimp only
        have I3 : LfI n tx m w3 := ⟨T3, hI.2.1.fc F3 (by decide) (by decide), hI.2.2.1.fc F3 (by decide) (by decide), by rw [F3 _ _ (by decide) (by decide)]; exact hI.2.2.2⟩
        refine ⟨fun h9 => absurd h9 (by decide +kernel), fun _ => ⟨⟨I3, hp, hs, hn⟩, fun x4 w4 h4 => ?_⟩⟩
        obtain ⟨f4, O4, T4, q4⟩ := h4
        rw [e6c, Int.toNat_natCast] at q4
        have F4 : Fc [17, 18, 19, 20, 21, 22] [(2, 6), (15, 13), (15, 14), (15, 15)] w w4 := F3.tr (f4.mo (by decide) (by decide))
        have O4' : Ot n w w4 := O3'.tr O4
        cases hE : rdRt m tx ls.2 with
        | error q =>
          rw [hE] at q4
          obtain ⟨rfl, e6⟩ := q4
          exact ⟨fun _ => ⟨0, _, rfl, rfl, F4, O4', T4, rfl, e6⟩, fun h9 => absurd (by decide +kernel) h9⟩
        | ok ri =>
          rw [hE] at q4
          obtain ⟨rfl, e6d, kR⟩ := q4
          dsimp only
          refine ⟨fun h9 => absurd h9 (by decide +kernel), fun _ => ⟨1, _, rfl, rfl, F4, O4', T4, rfl, ?_, ?_, b1, b2, ?_, ?_, kR⟩⟩
          · rw [f4 _ _ (by decide) (by decide), f3 _ _ (by decide) (by decide), f2 _ _ (by decide) (by decide)]; exact k13
          · rw [f4 _ _ (by decide) (by decide), f3 _ _ (by decide) (by decide), f2 _ _ (by decide) (by decide)]; exact k14
          · rw [f4.row (by decide) (by decide), f3.row (by decide) (by decide)]; exact k17
          · unfold LfC at *
            rw [f4.row (a := 18) (by decide) (by decide), f4.row (a := 20) (by decide) (by decide), f4.row (a := 21) (by decide) (by decide)]
            exact kL

