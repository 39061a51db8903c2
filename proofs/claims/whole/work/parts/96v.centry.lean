/-! The class: the call entry. -/

theorem g_xadd {d : Nat} {Q : Option aV → aS → Prop} {w : eW} {t : eT} {a x : Int} {tx : List Int} {m : eW} (h : ((w32 (w 28 8) < w32 16 → (0 ≤ w32 (w 28 8) ∧ w32 (w 28 8) < 16) ∧ (0 ≤ w32 (w 28 8) ∧ w32 (w 28 8) < 16) ∧ (0 ≤ w32 (w 28 8) ∧ w32 (w 28 8) < 16) ∧ (Ev (d + 2) 22 Q 50 [rA 28, (0, a), (0, x), rA 2, (0, 0)] [] (enc (wu (wu (wu w 29 (w32 (w 28 8)).toNat a) 30 (w32 (w 28 8)).toNat x) 31 (w32 (w 28 8)).toNat (if w32 5 < w32 (w 2 8) then 5 else (w 2 8))) t))) ∧ (¬ (w32 (w 28 8) < w32 16) → Q none (enc w t)))) : Cl (d + 2) 22 [rA 28, (0, a), (0, x), rA 2] (enc w t) Q := by
  show Ev (d + 2) 22 Q 0 [rA 28, (0, a), (0, x), rA 2, (9, 0)] [] (enc w t)
  refine e_lda (v := 28) (show am_cd 22 0 = (2, 1, 0, 2, []) by decide +kernel) rfl ?_
  refine e_getf (a := 28) (tg := 0) (show am_cd 22 1 = (18, 4, 308, 0, [40]) by decide +kernel) (by decide +kernel) (by decide +kernel) rfl ?_
  refine e_ic (show am_cd 22 4 = (0, 6, 1, 16, []) by decide +kernel) ?_
  refine e_cmp2 (show am_cd 22 6 = (11, 9, 10, 2, []) by decide +kernel) (fun hc => ?_) (fun hc => ?_)
  · replace h := h.1 hc
    refine e_lda (v := 28) (show am_cd 22 10 = (2, 11, 0, 2, []) by decide +kernel) rfl ?_
    refine e_getr (a := 28) (r := 29) (show am_cd 22 11 = (18, 14, 300, 2, [9]) by decide +kernel) (by decide +kernel) (by decide +kernel) rfl ?_
    refine e_lda (v := 28) (show am_cd 22 14 = (2, 15, 0, 2, []) by decide +kernel) rfl ?_
    refine e_getf (a := 28) (tg := 0) (show am_cd 22 15 = (18, 18, 308, 0, [40]) by decide +kernel) (by decide +kernel) (by decide +kernel) rfl ?_
    refine e_ldi (show am_cd 22 18 = (2, 19, 1, 0, []) by decide +kernel) rfl ?_
    refine e_iast (a := 29) (n := 16) (show am_cd 22 19 = (24, 20, 0, 0, []) by decide +kernel) (by decide +kernel) (by decide +kernel) (by decide +kernel) h.1 ?_
    replace h := h.2
    refine e_lda (v := 28) (show am_cd 22 20 = (2, 21, 0, 2, []) by decide +kernel) rfl ?_
    refine e_getr (a := 28) (r := 30) (show am_cd 22 21 = (18, 24, 301, 2, [15]) by decide +kernel) (by decide +kernel) (by decide +kernel) rfl ?_
    refine e_lda (v := 28) (show am_cd 22 24 = (2, 25, 0, 2, []) by decide +kernel) rfl ?_
    refine e_getfE (a := 28) (tg := 0) (v := w 28 8) (show am_cd 22 25 = (18, 28, 308, 0, [40]) by decide +kernel) (by decide +kernel) (by decide +kernel) rfl rfl ?_
    refine e_ldi (show am_cd 22 28 = (2, 29, 2, 0, []) by decide +kernel) rfl ?_
    refine e_iast (a := 30) (n := 16) (show am_cd 22 29 = (24, 30, 0, 0, []) by decide +kernel) (by decide +kernel) (by decide +kernel) (by decide +kernel) h.1 ?_
    replace h := h.2
    refine e_lda (v := 28) (show am_cd 22 30 = (2, 31, 0, 2, []) by decide +kernel) rfl ?_
    refine e_getr (a := 28) (r := 31) (show am_cd 22 31 = (18, 34, 302, 2, [18]) by decide +kernel) (by decide +kernel) (by decide +kernel) rfl ?_
    refine e_lda (v := 28) (show am_cd 22 34 = (2, 35, 0, 2, []) by decide +kernel) rfl ?_
    refine e_getfE (a := 28) (tg := 0) (v := w 28 8) (show am_cd 22 35 = (18, 38, 308, 0, [40]) by decide +kernel) (by decide +kernel) (by decide +kernel) rfl rfl ?_
    refine e_lda (v := 2) (show am_cd 22 38 = (2, 39, 3, 2, []) by decide +kernel) rfl ?_
    refine e_getfE (a := 2) (tg := 0) (v := w 2 8) (show am_cd 22 39 = (18, 42, 808, 0, [50]) by decide +kernel) (by decide +kernel) (by decide +kernel) rfl rfl ?_
    refine e_ic (show am_cd 22 42 = (0, 43, 0, 5, []) by decide +kernel) ?_
    refine e_min (z := 0) (show am_cd 22 43 = (33, 46, 10, 0, [55]) by decide +kernel) (Nat.le_of_ble_eq_true rfl) ?_
    refine e_iast (a := 31) (n := 16) (show am_cd 22 46 = (24, 47, 0, 0, []) by decide +kernel) (by decide +kernel) (by decide +kernel) (by decide +kernel) h.1 ?_
    replace h := h.2
    refine e_ic (show am_cd 22 47 = (0, 48, 0, 0, []) by decide +kernel) ?_
    refine e_sti (la2 := [rA 28, (0, a), (0, x), rA 2, (0, 0)]) (show am_cd 22 48 = (3, 50, 4, 0, []) by decide +kernel) rfl ?_
    exact h
  · replace h := h.2 hc
    exact e_retv (show am_cd 22 9 = (36, 10, 3, 0, []) by decide +kernel) (by decide +kernel) h

theorem g_xadd1 {d : Nat} {Q : Option aV → aS → Prop} {w : eW} {t : eT} {a x k : Int} {tx : List Int} {m : eW} (h : (0 ≤ w32 (w 28 8) ∧ w32 (w 28 8) < 16) ∧ ((w32 (w 31 (w32 (w 28 8)).toNat) ≤ w32 k → Ev (d + 2) 22 Q 104 [rA 28, (0, a), (0, x), rA 2, (0, 0)] [] (enc (wu w 28 8 ((w 28 8) + 1)) t)) ∧ (¬ (w32 (w 31 (w32 (w 28 8)).toNat) ≤ w32 k) → (0 ≤ w32 k ∧ w32 k < 6) ∧ (0 ≤ w32 (((w 28 8) * 5) + k) ∧ w32 (((w 28 8) * 5) + k) < 80) ∧ (Ev (d + 2) 22 Q 50 [rA 28, (0, a), (0, x), rA 2, (0, k + 1)] [] (enc (wu w 32 (w32 (((w 28 8) * 5) + k)).toNat (w 6 (w32 k).toNat)) t))))) : Ev (d + 2) 22 Q 50 [rA 28, (0, a), (0, x), rA 2, (0, k)] [] (enc w t) := by
  refine e_ldi (show am_cd 22 50 = (2, 52, 4, 0, []) by decide +kernel) rfl ?_
  refine e_lda (v := 28) (show am_cd 22 52 = (2, 53, 0, 2, []) by decide +kernel) rfl ?_
  refine e_getr (a := 28) (r := 31) (show am_cd 22 53 = (18, 56, 302, 2, [18]) by decide +kernel) (by decide +kernel) (by decide +kernel) rfl ?_
  refine e_lda (v := 28) (show am_cd 22 56 = (2, 57, 0, 2, []) by decide +kernel) rfl ?_
  refine e_getf (a := 28) (tg := 0) (show am_cd 22 57 = (18, 60, 308, 0, [40]) by decide +kernel) (by decide +kernel) (by decide +kernel) rfl ?_
  refine e_iald (a := 31) (n := 16) (show am_cd 22 60 = (21, 61, 0, 0, []) by decide +kernel) (by decide +kernel) (by decide +kernel) (by decide +kernel) h.1 ?_
  replace h := h.2
  refine e_cmp3 (show am_cd 22 61 = (11, 64, 91, 3, []) by decide +kernel) (fun hc => ?_) (fun hc => ?_)
  · replace h := h.1 hc
    refine e_lda (v := 28) (show am_cd 22 91 = (2, 92, 0, 2, []) by decide +kernel) rfl ?_
    refine e_dup (show am_cd 22 92 = (13, 93, 0, 0, []) by decide +kernel) (by decide) ?_
    refine e_getf (a := 28) (tg := 0) (show am_cd 22 93 = (18, 96, 308, 0, [40]) by decide +kernel) (by decide +kernel) (by decide +kernel) rfl ?_
    refine e_ic (show am_cd 22 96 = (0, 97, 0, 1, []) by decide +kernel) ?_
    refine e_iadd (show am_cd 22 97 = (5, 98, 0, 0, []) by decide +kernel) ?_
    refine e_putf (a := 28) (show am_cd 22 98 = (19, 101, 308, 0, [40]) by decide +kernel) (by decide +kernel) (by decide +kernel) rfl (fun h9 => absurd h9 (by decide)) (fun h9 => absurd h9 (by decide +kernel)) ?_
    refine e_ic (show am_cd 22 101 = (0, 102, 0, 0, []) by decide +kernel) ?_
    refine e_sti (la2 := [rA 28, (0, a), (0, x), rA 2, (0, 0)]) (show am_cd 22 102 = (3, 104, 4, 0, []) by decide +kernel) rfl ?_
    exact h
  · replace h := h.2 hc
    refine e_lda (v := 28) (show am_cd 22 64 = (2, 65, 0, 2, []) by decide +kernel) rfl ?_
    refine e_getr (a := 28) (r := 32) (show am_cd 22 65 = (18, 68, 303, 2, [21]) by decide +kernel) (by decide +kernel) (by decide +kernel) rfl ?_
    refine e_lda (v := 28) (show am_cd 22 68 = (2, 69, 0, 2, []) by decide +kernel) rfl ?_
    refine e_getf (a := 28) (tg := 0) (show am_cd 22 69 = (18, 72, 308, 0, [40]) by decide +kernel) (by decide +kernel) (by decide +kernel) rfl ?_
    refine e_ic (show am_cd 22 72 = (0, 73, 0, 5, []) by decide +kernel) ?_
    refine e_imul (show am_cd 22 73 = (5, 74, 2, 0, []) by decide +kernel) ?_
    refine e_ldi (show am_cd 22 74 = (2, 76, 4, 0, []) by decide +kernel) rfl ?_
    refine e_iadd (show am_cd 22 76 = (5, 77, 0, 0, []) by decide +kernel) ?_
    refine e_lda (v := 2) (show am_cd 22 77 = (2, 78, 3, 2, []) by decide +kernel) rfl ?_
    refine e_getr (a := 2) (r := 6) (show am_cd 22 78 = (18, 81, 803, 2, [61]) by decide +kernel) (by decide +kernel) (by decide +kernel) rfl ?_
    refine e_ldi (show am_cd 22 81 = (2, 83, 4, 0, []) by decide +kernel) rfl ?_
    refine e_iald (a := 6) (n := 6) (show am_cd 22 83 = (21, 84, 0, 0, []) by decide +kernel) (by decide +kernel) (by decide +kernel) (by decide +kernel) h.1 ?_
    replace h := h.2
    refine e_iast (a := 32) (n := 80) (show am_cd 22 84 = (24, 85, 0, 0, []) by decide +kernel) (by decide +kernel) (by decide +kernel) (by decide +kernel) h.1 ?_
    replace h := h.2
    refine e_inc (la2 := [rA 28, (0, a), (0, x), rA 2, (0, k + 1)]) (show am_cd 22 85 = (4, 88, 4, 1, []) by decide +kernel) rfl rfl ?_
    refine e_go (show am_cd 22 88 = (12, 50, 0, 0, []) by decide +kernel) ?_
    exact h

theorem g_xadd2 {d : Nat} {Q : Option aV → aS → Prop} {w : eW} {t : eT} {a x k : Int} {tx : List Int} {m : eW} (h : ((w32 4 ≤ w32 k → Q none (enc w t)) ∧ (¬ (w32 4 ≤ w32 k) → Cl (d + 1) 23 [rA 28] (enc w t) (fun r S2 => (∀ x, r ≠ some (6, x)) ∧ Ev (d + 2) 22 Q 114 [rA 28, (0, a), (0, x), rA 2, (0, k)] (r.toList ++ []) S2)))) : Ev (d + 2) 22 Q 104 [rA 28, (0, a), (0, x), rA 2, (0, k)] [] (enc w t) := by
  refine e_ldi (show am_cd 22 104 = (2, 106, 4, 0, []) by decide +kernel) rfl ?_
  refine e_ic (show am_cd 22 106 = (0, 107, 0, 4, []) by decide +kernel) ?_
  refine e_cmp3 (show am_cd 22 107 = (11, 110, 120, 3, []) by decide +kernel) (fun hc => ?_) (fun hc => ?_)
  · replace h := h.1 hc
    exact e_retv (show am_cd 22 120 = (36, 121, 3, 0, []) by decide +kernel) (by decide +kernel) h
  · replace h := h.2 hc
    refine e_lda (v := 28) (show am_cd 22 110 = (2, 111, 0, 2, []) by decide +kernel) rfl ?_
    refine e_cV (z := 0) (a := 28) (as := []) (rest := []) (show am_cd 22 111 = (40, 114, 23, 0, [64]) by decide +kernel) (by decide +kernel) rfl rfl (Nat.le_of_ble_eq_true rfl) rfl ?_
    exact h

theorem g_xadd3 {d : Nat} {Q : Option aV → aS → Prop} {w : eW} {t : eT} {a x k : Int} {tx : List Int} {m : eW} (h : Ev (d + 2) 22 Q 104 [rA 28, (0, a), (0, x), rA 2, (0, k + 1)] [] (enc w t)) : Ev (d + 2) 22 Q 114 [rA 28, (0, a), (0, x), rA 2, (0, k)] [] (enc w t) := by
  refine e_inc (la2 := [rA 28, (0, a), (0, x), rA 2, (0, k + 1)]) (show am_cd 22 114 = (4, 117, 4, 1, []) by decide +kernel) rfl rfl ?_
  refine e_go (show am_cd 22 117 = (12, 104, 0, 0, []) by decide +kernel) ?_
  exact h

theorem c_xadd {d : Nat} {w m : eW} {t : eT} {a x : Int} {l : List Int} (hX : XC w m) (hS : ∀ c, c < 4 → 0 ≤ w 36 c ∧ w 36 c ≤ 1000) (hz : ZC w) (he : WFe (enW m a x l)) (hn16 : nE m < 16) (hl : 1 ≤ l.length ∧ l.length ≤ 5) (h8 : w 2 8 = (l.length : Int)) (hL : LtC w 6 l) (hw : WFe m) : Cl (d + 2) 22 [rA 28, (0, a), (0, x), rA 2] (enc w t) (fun r S2 => ∃ w2, r = none ∧ S2 = enc w2 t ∧ Fc [29, 30, 31, 32, 36] [(28, 8)] w w2 ∧ XC w2 (enW m a x l) ∧ ShC w2 (enW m a x l)) := by
  have hn := hw.n
  have e28 : w 28 8 = (nE m : Int) := by rw [hX.1]; omega
  have n2 : nE (enW m a x l) = nE m + 1 := by unfold nE; rw [enW_12]; omega
  refine g_xadd (tx := []) (m := m) ?_
  rw [e28, h8]
  simp (disch := omega) only [w32_id]
  rw [Int.toNat_natCast, if_neg (by omega)]
  refine ⟨fun _ => ⟨by omega, by omega, by omega, ?_⟩, fun h9 => by omega⟩
  refine lq1 (σ := eW) (fun k w1 => Ev (d + 2) 22 (fun r S2 => ∃ w2, r = none ∧ S2 = enc w2 t ∧ Fc [29, 30, 31, 32, 36] [(28, 8)] w w2 ∧ XC w2 (enW m a x l) ∧ ShC w2 (enW m a x l)) 50 [rA 28, (0, a), (0, x), rA 2, (0, (k : Int))] [] (enc w1 t)) (fun k w1 => Fc [29, 30, 31, 32] [] w w1 ∧ (∀ e, e < nE m → w1 29 e = w 29 e ∧ w1 30 e = w 30 e ∧ w1 31 e = w 31 e) ∧ (w1 29 (nE m) = a ∧ w1 30 (nE m) = x ∧ w1 31 (nE m) = (l.length : Int)) ∧ (∀ j, j < 5 * nE m → w1 32 j = w 32 j) ∧ ∀ q, q < k → w1 32 (5 * nE m + q) = l.getD q 0 + 1) l.length ?_ ?_ 0 _ (Nat.zero_le _) ⟨((Fc.pr (by decide)).tr (Fc.pr (by decide))).tr (Fc.pr (by decide)), fun e hel => ?_, ?_, fun j hj => rfl, fun q hq => absurd hq (Nat.not_lt_zero q)⟩
  · rintro k w1 hk ⟨f1, f2, f3, f4, f5⟩ hE
    have e28' : w1 28 8 = (nE m : Int) := by rw [f1 _ _ (by decide) (by decide)]; exact e28
    have e6 : w1 6 = w 6 := f1.row (by decide) (by decide)
    refine g_xadd1 (tx := []) (m := m) ?_
    rw [e28', w32_id (x := (nE m : Int)) (by omega), Int.toNat_natCast, f3.2.2, e6]
    simp (disch := omega) only [w32_id]
    rw [Int.toNat_natCast, hL k hk, show ((nE m : Int) * 5 + (k : Int)).toNat = 5 * nE m + k by omega]
    refine ⟨by omega, fun h9 => by omega, fun _ => ⟨by omega, by omega, hE _ ⟨f1.tr (Fc.pr (by decide)), f2, f3, fun j hj => ?_, fun q hq => ?_⟩⟩⟩
    · rw [wu_nk _ _ (by omega)]; exact f4 j hj
    · by_cases h9 : q = k
      · rw [h9, wu_eq]
      · rw [wu_nk _ _ (by omega)]; exact f5 q (by omega)
  · rintro w1 ⟨f1, f2, f3, f4, f5⟩
    have e28' : w1 28 8 = (nE m : Int) := by rw [f1 _ _ (by decide) (by decide)]; exact e28
    refine g_xadd1 (tx := []) (m := m) ?_
    rw [e28', w32_id (x := (nE m : Int)) (by omega), Int.toNat_natCast, f3.2.2]
    refine ⟨by omega, fun _ => ?_, fun h9 => absurd (Int.le_refl _) h9⟩
    have F1 : Fc [29, 30, 31, 32, 36] [(28, 8)] w (wu w1 28 8 ((nE m : Int) + 1)) := (f1.mo (by decide) (by decide)).tr (Fc.pf (by decide))
    have hX1 : XC (wu w1 28 8 ((nE m : Int) + 1)) (enW m a x l) := by
      refine ⟨by rw [enW_12]; show (nE m : Int) + 1 = _; omega, fun e hel => ?_⟩
      rw [n2] at hel
      rw [wu_na _ _ (by decide), wu_na _ _ (by decide), wu_na _ _ (by decide)]
      by_cases h9 : e = nE m
      · subst h9
        obtain ⟨q1, q2, q3, q4⟩ := @enW_new m a x l
        rw [q1, q2, q3]
        refine ⟨f3.1, f3.2.1, f3.2.2, fun k hk => ?_⟩
        have hk2 : k < l.length := by unfold fmN at hk; rw [q3] at hk; omega
        rw [wu_na _ _ (by decide), q4 k hk2]
        exact f5 k hk2
      · obtain ⟨q1, q2, q3, q4⟩ := @enW_old m a x l e (by omega)
        obtain ⟨x1, x2, x3, x4⟩ := hX.2 e (by omega)
        obtain ⟨y1, y2, y3⟩ := f2 e (by omega)
        have hb := hw.fm (e := e) (by omega)
        have hfe : fmN (enW m a x l) e = fmN m e := by unfold fmN; rw [q3]
        rw [q1, q2, q3, y1, y2, y3]
        refine ⟨x1, x2, x3, fun k hk => ?_⟩
        rw [hfe] at hk
        rw [wu_na _ _ (by decide), q4 _ (by omega), f4 _ (by omega)]
        exact x4 k hk
    have hS1 : ∀ c, c < 4 → 0 ≤ (wu w1 28 8 ((nE m : Int) + 1)) 36 c ∧ (wu w1 28 8 ((nE m : Int) + 1)) 36 c ≤ 1000 := fun c hc => by
      rw [wu_na _ _ (by decide), f1.row (a := 36) (by decide) (by decide)]
      exact hS c hc
    generalize wu w1 28 8 ((nE m : Int) + 1) = w2 at *
    refine lq1 (σ := eW) (fun k w3 => Ev (d + 2) 22 (fun r S2 => ∃ w2, r = none ∧ S2 = enc w2 t ∧ Fc [29, 30, 31, 32, 36] [(28, 8)] w w2 ∧ XC w2 (enW m a x l) ∧ ShC w2 (enW m a x l)) 104 [rA 28, (0, a), (0, x), rA 2, (0, (k : Int))] [] (enc w3 t)) (fun k w3 => Fc [36] [] w2 w3 ∧ ShK (enW m a x l) w3 k) 4 ?_ ?_ 0 w2 (Nat.zero_le _) ⟨Fc.rf _ _ _, hS1, fun c l2 hc hl2 hC => ?_⟩
    · rintro k w3 hk ⟨g1, g2⟩ hE
      refine g_xadd2 (tx := []) (m := m) ⟨fun h9 => absurd h9 (by rw [w32_id (by omega), w32_id (by omega)]; omega), fun _ => ?_⟩
      refine (c_sh (hX1.fc g1 (by decide) (by decide)) he g2.1).mono (fun r S2 ⟨w4, e1, e2, hs⟩ => ?_)
      subst e1 e2
      exact ⟨fun _ h9 => (by cases h9), g_xadd3 (tx := []) (m := m) (hE w4 ⟨g1.tr hs.1, g2.step he hs⟩)⟩
    · rintro w3 ⟨g1, g2⟩
      exact g_xadd2 (tx := []) (m := m) ⟨fun _ => ⟨w3, rfl, rfl, F1.tr (g1.mo (by decide) (by decide)), hX1.fc g1 (by decide) (by decide), g2.shc he (hz.fc (F1.tr (g1.mo (by decide) (by decide))) (by decide) (by decide))⟩, fun h9 => absurd (by decide +kernel) h9⟩
    · cases l2 with
      | nil => exact hC.elim
      | cons a b => rw [List.length_cons] at hl2; omega
  · have : e ≠ nE m := by omega
    refine ⟨?_, ?_, ?_⟩ <;> simp [wu, this]
  · refine ⟨?_, ?_, ?_⟩ <;> simp [wu]

theorem g_te {d : Nat} {Q : Option aV → aS → Prop} {w : eW} {t : eT} {a x : Int} {tx : List Int} {m : eW} (h : (TC w tx ∧ w 2 6 = 0 ∧ (0 : Int) ≤ 5 ∧ (5 : Int) ≤ 6) ∧ (∀ x1 w2, (torP tx w (lsR tx (5 : Int).toNat) x1 w2) → ((¬ w32 x1 = 0 → ((w32 a < 0 → Q (some (0, (-1))) (enc w2 t)) ∧ (¬ (w32 a < 0) → ((w32 4 ≤ w32 a → Q (some (0, (-1))) (enc w2 t)) ∧ (¬ (w32 4 ≤ w32 a) → ((w32 x < w32 (-1) → Q (some (0, (-1))) (enc w2 t)) ∧ (¬ (w32 x < w32 (-1)) → ((w32 x < w32 4 → ((w32 (w2 28 8) < w32 16 → Ev (d + 4) 133 Q 54 [rA 1, (0, a), (0, x), (0, 0)] [] (enc w2 t)) ∧ (¬ (w32 (w2 28 8) < w32 16) → Q (some (0, (-2))) (enc w2 t)))) ∧ (¬ (w32 x < w32 4) → Q (some (0, (-1))) (enc w2 t)))))))))) ∧ (¬ (¬ w32 x1 = 0) → Q (some (0, (-21) - (w2 2 6))) (enc w2 t))))) : Cl (d + 4) 133 [rA 1, (0, a), (0, x)] (enc w t) Q := by
  show Ev (d + 4) 133 Q 0 [rA 1, (0, a), (0, x), (9, 0)] [] (enc w t)
  refine e_lda (v := 1) (show am_cd 133 0 = (2, 1, 0, 2, []) by decide +kernel) rfl ?_
  refine e_getr (a := 1) (r := 2) (show am_cd 133 1 = (18, 4, 1100, 2, [12]) by decide +kernel) (by decide +kernel) (by decide +kernel) rfl ?_
  refine e_ic (show am_cd 133 4 = (0, 5, 0, 5, []) by decide +kernel) ?_
  refine e_cV (z := 0) (a := 2) (as := [(0, 5)]) (rest := []) (show am_cd 133 5 = (40, 8, 87, 0, [198]) by decide +kernel) (by decide +kernel) rfl rfl (Nat.le_of_ble_eq_true rfl) rfl ?_
  refine Cl.mono (Cl.up (c_torU (d := d) h.1) (by omega)) ?_
  rintro _ _ ⟨x1, w2, rfl, rfl, hp⟩
  refine ⟨fun _ h9 => (by cases h9), ?_⟩
  replace h := h.2 x1 w2 hp
  show Ev _ 133 _ 8 [rA 1, (0, a), (0, x), (9, 0)] [(0, x1)] _
  refine e_if1 (show am_cd 133 8 = (10, 11, 16, 1, []) by decide +kernel) (fun hc => ?_) (fun hc => ?_)
  · replace h := h.1 hc
    refine e_ldi (show am_cd 133 16 = (2, 17, 1, 0, []) by decide +kernel) rfl ?_
    refine e_if2 (show am_cd 133 17 = (10, 20, 35, 2, []) by decide +kernel) (fun hc => ?_) (fun hc => ?_)
    · replace h := h.1 hc
      refine e_ic (show am_cd 133 35 = (0, 36, 0, -1, []) by decide +kernel) ?_
      exact e_reti (show am_cd 133 36 = (36, 37, 0, 0, []) by decide +kernel) (by decide +kernel) h
    · replace h := h.2 hc
      refine e_ldi (show am_cd 133 20 = (2, 21, 1, 0, []) by decide +kernel) rfl ?_
      refine e_ic (show am_cd 133 21 = (0, 22, 0, 4, []) by decide +kernel) ?_
      refine e_cmp3 (show am_cd 133 22 = (11, 25, 35, 3, []) by decide +kernel) (fun hc => ?_) (fun hc => ?_)
      · replace h := h.1 hc
        refine e_ic (show am_cd 133 35 = (0, 36, 0, -1, []) by decide +kernel) ?_
        exact e_reti (show am_cd 133 36 = (36, 37, 0, 0, []) by decide +kernel) (by decide +kernel) h
      · replace h := h.2 hc
        refine e_ldi (show am_cd 133 25 = (2, 26, 2, 0, []) by decide +kernel) rfl ?_
        refine e_ic (show am_cd 133 26 = (0, 27, 0, -1, []) by decide +kernel) ?_
        refine e_cmp2 (show am_cd 133 27 = (11, 30, 35, 2, []) by decide +kernel) (fun hc => ?_) (fun hc => ?_)
        · replace h := h.1 hc
          refine e_ic (show am_cd 133 35 = (0, 36, 0, -1, []) by decide +kernel) ?_
          exact e_reti (show am_cd 133 36 = (36, 37, 0, 0, []) by decide +kernel) (by decide +kernel) h
        · replace h := h.2 hc
          refine e_ldi (show am_cd 133 30 = (2, 31, 2, 0, []) by decide +kernel) rfl ?_
          refine e_ic (show am_cd 133 31 = (0, 32, 0, 4, []) by decide +kernel) ?_
          refine e_cmp2 (show am_cd 133 32 = (11, 35, 37, 2, []) by decide +kernel) (fun hc => ?_) (fun hc => ?_)
          · replace h := h.1 hc
            refine e_lda (v := 1) (show am_cd 133 37 = (2, 38, 0, 2, []) by decide +kernel) rfl ?_
            refine e_getr (a := 1) (r := 28) (show am_cd 133 38 = (18, 41, 1103, 2, [33]) by decide +kernel) (by decide +kernel) (by decide +kernel) rfl ?_
            refine e_getf (a := 28) (tg := 0) (show am_cd 133 41 = (18, 44, 308, 0, [202]) by decide +kernel) (by decide +kernel) (by decide +kernel) rfl ?_
            refine e_ic (show am_cd 133 44 = (0, 46, 1, 16, []) by decide +kernel) ?_
            refine e_cmp2 (show am_cd 133 46 = (11, 49, 52, 2, []) by decide +kernel) (fun hc => ?_) (fun hc => ?_)
            · replace h := h.1 hc
              refine e_ic (show am_cd 133 52 = (0, 53, 0, 0, []) by decide +kernel) ?_
              refine e_sti (la2 := [rA 1, (0, a), (0, x), (0, 0)]) (show am_cd 133 53 = (3, 54, 3, 0, []) by decide +kernel) rfl ?_
              exact h
            · replace h := h.2 hc
              refine e_ic (show am_cd 133 49 = (0, 51, 1, -2, []) by decide +kernel) ?_
              exact e_reti (show am_cd 133 51 = (36, 52, 0, 0, []) by decide +kernel) (by decide +kernel) h
          · replace h := h.2 hc
            refine e_ic (show am_cd 133 35 = (0, 36, 0, -1, []) by decide +kernel) ?_
            exact e_reti (show am_cd 133 36 = (36, 37, 0, 0, []) by decide +kernel) (by decide +kernel) h
  · replace h := h.2 hc
    refine e_lda (v := 1) (show am_cd 133 11 = (2, 12, 0, 2, []) by decide +kernel) rfl ?_
    refine e_cV (z := 0) (a := 1) (as := []) (rest := []) (show am_cd 133 12 = (40, 15, 126, 0, [124]) by decide +kernel) (by decide +kernel) rfl rfl (Nat.le_of_ble_eq_true rfl) rfl ?_
    show Ev _ 126 _ 0 [rA 1] [] _
    refine e_ic (show am_cd 126 0 = (0, 2, 1, -21, []) by decide +kernel) ?_
    refine e_lda (v := 1) (show am_cd 126 2 = (2, 3, 0, 2, []) by decide +kernel) rfl ?_
    refine e_getr (a := 1) (r := 2) (show am_cd 126 3 = (18, 6, 1100, 2, [12]) by decide +kernel) (by decide +kernel) (by decide +kernel) rfl ?_
    refine e_getf (a := 2) (tg := 0) (show am_cd 126 6 = (18, 9, 806, 0, [146]) by decide +kernel) (by decide +kernel) (by decide +kernel) rfl ?_
    refine e_isub (show am_cd 126 9 = (5, 10, 1, 0, []) by decide +kernel) ?_
    refine e_reti (show am_cd 126 10 = (36, 11, 0, 0, []) by decide +kernel) (by decide +kernel) ⟨fun _ h9 => (by cases h9), ?_⟩
    show Ev _ 133 _ 15 [rA 1, (0, a), (0, x), (9, 0)] [(0, (-21) - (w2 2 6))] _
    exact e_reti (show am_cd 133 15 = (36, 16, 0, 0, []) by decide +kernel) (by decide +kernel) h

theorem g_te1 {d : Nat} {Q : Option aV → aS → Prop} {w : eW} {t : eT} {a x k : Int} {tx : List Int} {m : eW} (h : ((w32 (w 2 8) ≤ w32 k → Cl (d + 3) 22 [rA 28, (0, a), (0, x), rA 2] (enc w t) (fun r S2 => (∀ x, r ≠ some (6, x)) ∧ Ev (d + 4) 133 Q 107 [rA 1, (0, a), (0, x), (0, k)] (r.toList ++ []) S2)) ∧ (¬ (w32 (w 2 8) ≤ w32 k) → (0 ≤ w32 k ∧ w32 k < 6) ∧ (0 ≤ w32 (w 6 (w32 k).toNat) ∧ w32 (w 6 (w32 k).toNat) < 28) ∧ ((¬ w32 (w 11 (w32 (w 6 (w32 k).toNat)).toNat) = 0 → Ev (d + 4) 133 Q 54 [rA 1, (0, a), (0, x), (0, k + 1)] [] (enc w t)) ∧ (¬ (¬ w32 (w 11 (w32 (w 6 (w32 k).toNat)).toNat) = 0) → Q (some (0, (-3))) (enc w t)))))) : Ev (d + 4) 133 Q 54 [rA 1, (0, a), (0, x), (0, k)] [] (enc w t) := by
  refine e_ldi (show am_cd 133 54 = (2, 55, 3, 0, []) by decide +kernel) rfl ?_
  refine e_lda (v := 1) (show am_cd 133 55 = (2, 56, 0, 2, []) by decide +kernel) rfl ?_
  refine e_getr (a := 1) (r := 2) (show am_cd 133 56 = (18, 59, 1100, 2, [12]) by decide +kernel) (by decide +kernel) (by decide +kernel) rfl ?_
  refine e_getf (a := 2) (tg := 0) (show am_cd 133 59 = (18, 62, 808, 0, [203]) by decide +kernel) (by decide +kernel) (by decide +kernel) rfl ?_
  refine e_cmp3 (show am_cd 133 62 = (11, 65, 94, 3, []) by decide +kernel) (fun hc => ?_) (fun hc => ?_)
  · replace h := h.1 hc
    refine e_lda (v := 1) (show am_cd 133 94 = (2, 95, 0, 2, []) by decide +kernel) rfl ?_
    refine e_getr (a := 1) (r := 28) (show am_cd 133 95 = (18, 98, 1103, 2, [33]) by decide +kernel) (by decide +kernel) (by decide +kernel) rfl ?_
    refine e_ldi (show am_cd 133 98 = (2, 99, 1, 0, []) by decide +kernel) rfl ?_
    refine e_ldi (show am_cd 133 99 = (2, 100, 2, 0, []) by decide +kernel) rfl ?_
    refine e_lda (v := 1) (show am_cd 133 100 = (2, 101, 0, 2, []) by decide +kernel) rfl ?_
    refine e_getr (a := 1) (r := 2) (show am_cd 133 101 = (18, 104, 1100, 2, [12]) by decide +kernel) (by decide +kernel) (by decide +kernel) rfl ?_
    refine e_cV (z := 0) (a := 28) (as := [(0, a), (0, x), rA 2]) (rest := []) (show am_cd 133 104 = (40, 107, 22, 0, [212]) by decide +kernel) (by decide +kernel) rfl rfl (Nat.le_of_ble_eq_true rfl) rfl ?_
    exact h
  · replace h := h.2 hc
    refine e_lda (v := 1) (show am_cd 133 65 = (2, 66, 0, 2, []) by decide +kernel) rfl ?_
    refine e_getr (a := 1) (r := 8) (show am_cd 133 66 = (18, 69, 1101, 2, [19]) by decide +kernel) (by decide +kernel) (by decide +kernel) rfl ?_
    refine e_getr (a := 8) (r := 11) (show am_cd 133 69 = (18, 72, 2, 2, [206]) by decide +kernel) (by decide +kernel) (by decide +kernel) rfl ?_
    refine e_lda (v := 1) (show am_cd 133 72 = (2, 73, 0, 2, []) by decide +kernel) rfl ?_
    refine e_getr (a := 1) (r := 2) (show am_cd 133 73 = (18, 76, 1100, 2, [12]) by decide +kernel) (by decide +kernel) (by decide +kernel) rfl ?_
    refine e_getr (a := 2) (r := 6) (show am_cd 133 76 = (18, 79, 803, 2, [209]) by decide +kernel) (by decide +kernel) (by decide +kernel) rfl ?_
    refine e_ldi (show am_cd 133 79 = (2, 80, 3, 0, []) by decide +kernel) rfl ?_
    refine e_iald (a := 6) (n := 6) (show am_cd 133 80 = (21, 81, 0, 0, []) by decide +kernel) (by decide +kernel) (by decide +kernel) (by decide +kernel) h.1 ?_
    replace h := h.2
    refine e_iald (a := 11) (n := 28) (show am_cd 133 81 = (21, 82, 0, 0, []) by decide +kernel) (by decide +kernel) (by decide +kernel) (by decide +kernel) h.1 ?_
    replace h := h.2
    refine e_if1 (show am_cd 133 82 = (10, 85, 88, 1, []) by decide +kernel) (fun hc => ?_) (fun hc => ?_)
    · replace h := h.1 hc
      refine e_inc (la2 := [rA 1, (0, a), (0, x), (0, k + 1)]) (show am_cd 133 88 = (4, 91, 3, 1, []) by decide +kernel) rfl rfl ?_
      refine e_go (show am_cd 133 91 = (12, 54, 0, 0, []) by decide +kernel) ?_
      exact h
    · replace h := h.2 hc
      refine e_ic (show am_cd 133 85 = (0, 87, 1, -3, []) by decide +kernel) ?_
      exact e_reti (show am_cd 133 87 = (36, 88, 0, 0, []) by decide +kernel) (by decide +kernel) h

theorem g_te2 {d : Nat} {Q : Option aV → aS → Prop} {w : eW} {t : eT} {a x k : Int} {tx : List Int} {m : eW} (h : Q (some (0, (w 28 8) - 1)) (enc w t)) : Ev (d + 4) 133 Q 107 [rA 1, (0, a), (0, x), (0, k)] [] (enc w t) := by
  refine e_lda (v := 1) (show am_cd 133 107 = (2, 108, 0, 2, []) by decide +kernel) rfl ?_
  refine e_getr (a := 1) (r := 28) (show am_cd 133 108 = (18, 111, 1103, 2, [33]) by decide +kernel) (by decide +kernel) (by decide +kernel) rfl ?_
  refine e_getf (a := 28) (tg := 0) (show am_cd 133 111 = (18, 114, 308, 0, [202]) by decide +kernel) (by decide +kernel) (by decide +kernel) rfl ?_
  refine e_ic (show am_cd 133 114 = (0, 115, 0, 1, []) by decide +kernel) ?_
  refine e_isub (show am_cd 133 115 = (5, 116, 1, 0, []) by decide +kernel) ?_
  exact e_reti (show am_cd 133 116 = (36, 117, 0, 0, []) by decide +kernel) (by decide +kernel) h

theorem g_centry {d : Nat} {Q : Option aV → aS → Prop} {w : eW} {t : eT} {a x : Int} {tx : List Int} {m : eW} (h : Cl (d + 4) 133 [rA 1, (0, a), (0, x)] (enc w t) (fun r S2 => (∀ x, r ≠ some (6, x)) ∧ Ev (d + 5) 132 Q 6 [rA 1, (0, a), (0, x), (9, 0)] (r.toList ++ []) S2)) : Cl (d + 5) 132 [rA 1, (0, a), (0, x)] (enc w t) Q := by
  show Ev (d + 5) 132 Q 0 [rA 1, (0, a), (0, x), (9, 0)] [] (enc w t)
  refine e_lda (v := 1) (show am_cd 132 0 = (2, 1, 0, 2, []) by decide +kernel) rfl ?_
  refine e_ldi (show am_cd 132 1 = (2, 2, 1, 0, []) by decide +kernel) rfl ?_
  refine e_ldi (show am_cd 132 2 = (2, 3, 2, 0, []) by decide +kernel) rfl ?_
  refine e_cV (z := 0) (a := 1) (as := [(0, a), (0, x)]) (rest := []) (show am_cd 132 3 = (40, 6, 133, 0, [195]) by decide +kernel) (by decide +kernel) rfl rfl (Nat.le_of_ble_eq_true rfl) rfl ?_
  exact h

theorem g_centry1 {d : Nat} {Q : Option aV → aS → Prop} {w : eW} {t : eT} {a x v : Int} {tx : List Int} {m : eW} (h : Q (some (0, v)) (enc (wu (wu w 2 5 0) 2 6 0) t)) : Ev (d + 5) 132 Q 6 [rA 1, (0, a), (0, x), (9, 0)] [(0, v)] (enc w t) := by
  refine e_sti (la2 := [rA 1, (0, a), (0, x), (0, v)]) (show am_cd 132 6 = (3, 7, 3, 0, []) by decide +kernel) rfl ?_
  refine e_lda (v := 1) (show am_cd 132 7 = (2, 8, 0, 2, []) by decide +kernel) rfl ?_
  refine e_getr (a := 1) (r := 2) (show am_cd 132 8 = (18, 11, 1100, 2, [12]) by decide +kernel) (by decide +kernel) (by decide +kernel) rfl ?_
  refine e_cV (z := 0) (a := 2) (as := []) (rest := []) (show am_cd 132 11 = (40, 14, 79, 0, [117]) by decide +kernel) (by decide +kernel) rfl rfl (Nat.le_of_ble_eq_true rfl) rfl ?_
  show Ev _ 79 _ 0 [rA 2] [] _
  refine e_lda (v := 2) (show am_cd 79 0 = (2, 1, 0, 2, []) by decide +kernel) rfl ?_
  refine e_ic (show am_cd 79 1 = (0, 2, 0, 0, []) by decide +kernel) ?_
  refine e_putf (a := 2) (show am_cd 79 2 = (19, 5, 805, 0, [27]) by decide +kernel) (by decide +kernel) (by decide +kernel) rfl (fun h9 => absurd h9 (by decide)) (fun h9 => absurd h9 (by decide +kernel)) ?_
  refine e_lda (v := 2) (show am_cd 79 5 = (2, 6, 0, 2, []) by decide +kernel) rfl ?_
  refine e_ic (show am_cd 79 6 = (0, 7, 0, 0, []) by decide +kernel) ?_
  refine e_putf (a := 2) (show am_cd 79 7 = (19, 10, 806, 0, [31]) by decide +kernel) (by decide +kernel) (by decide +kernel) rfl (fun h9 => absurd h9 (by decide)) (fun h9 => absurd h9 (by decide +kernel)) ?_
  refine e_retv (show am_cd 79 10 = (36, 11, 3, 0, []) by decide +kernel) (by decide +kernel) ⟨fun _ h9 => (by cases h9), ?_⟩
  show Ev _ 132 _ 14 [rA 1, (0, a), (0, x), (0, v)] [] _
  refine e_ldi (show am_cd 132 14 = (2, 15, 3, 0, []) by decide +kernel) rfl ?_
  exact e_reti (show am_cd 132 15 = (36, 16, 0, 0, []) by decide +kernel) (by decide +kernel) h

theorem k_entry {d : Nat} {w : eW} {t : eT} {b : Nat × Nat} {m : eW} {ks : kT} {rl tl : List Int} {a x : Int} (h : CI w t b m ks rl tl) (ha : okI a) (hx : okI x) (hp : WFp m) (hw : WFe m) (hw2 : WFe (entryM tl m a x)) : Cl (d + 5) 132 [rA 1, (0, a), (0, x)] (enc w t) (AnC w (entryM tl m a x) b ks rl [] (0, entryV tl m a x)) := by
  have ha2 : -2147483648 ≤ a ∧ a ≤ 2147483647 := ha
  have hx2 : -2147483648 ≤ x ∧ x ≤ 2147483647 := hx
  have hn := hw.n
  obtain ⟨⟨hT, hA, hS⟩, ⟨hC, hN⟩, ⟨hX, hH⟩, hK, hL, hD⟩ := h
  have hCI : CI w t b m ks rl tl := ⟨⟨hT, hA, hS⟩, ⟨hC, hN⟩, ⟨hX, hH⟩, hK, hL, hD⟩
  refine g_centry (tx := tl) (m := m) ?_
  refine g_te (tx := tl) (m := m) ⟨⟨hT.1, hT.2, by decide, by decide⟩, fun x1 w1 hw1 => ?_⟩
  obtain ⟨f1, T1, q1⟩ := hw1
  have out : ∀ v, entryM tl m a x = m → v = entryV tl m a x → (∀ z, some ((0 : Nat), v) ≠ some (6, z)) ∧ Ev (d + 5) 132 (AnC w (entryM tl m a x) b ks rl [] (0, entryV tl m a x)) 6 [rA 1, (0, a), (0, x), (9, 0)] ((some ((0 : Nat), v)).toList ++ []) (enc w1 t) := fun v hm hv => by
    refine ⟨fun _ h9 => (by cases h9), ?_⟩
    refine g_centry1 (tx := tl) (m := m) ?_
    rw [hm, ← hv]
    exact AnC.clr hCI f1 T1 (by decide) (by decide) (hK.fc f1 (by decide) (by decide)) (hL.fc f1 (by decide) (by decide))
  have eR : enR tl = lsR tl 5 := rfl
  unfold entryV at *
  unfold entryM at out hw2 ⊢
  rw [eR] at out hw2 ⊢
  cases hP : lsR tl 5 with
  | error q =>
    rw [show ((5 : Int).toNat) = 5 from rfl, hP] at q1
    rw [hP] at out
    obtain ⟨rfl, e6⟩ := q1
    exact ⟨fun h9 => absurd (by decide +kernel) h9, fun _ => out _ rfl (by rw [e6])⟩
  | ok l =>
    rw [show ((5 : Int).toNat) = 5 from rfl, hP] at q1
    rw [hP] at out hw2
    obtain ⟨rfl, e8, hL1, hl1, hl2⟩ := q1
    have hl5 : l.length ≤ 5 := by
      unfold lsR at hP
      cases hq : rdLs tl 5 0 with
      | error z => rw [hq] at hP; cases hP
      | ok y =>
        rw [hq] at hP
        dsimp only at hP
        split at hP
        · cases hP
        · cases hP; exact (rdLs_b hq).1.2
    dsimp only at out hw2 ⊢
    have e28 : w1 28 8 = (nE m : Int) := by rw [f1 _ _ (by decide) (by decide), hX.1]; omega
    rw [e28]
    simp (disch := omega) only [w32_id]
    have nope : ¬ ((0 ≤ a ∧ a ≤ 3) ∧ -1 ≤ x ∧ x ≤ 3) → (∀ z, some ((0 : Nat), (-1 : Int)) ≠ some (6, z)) ∧ Ev (d + 5) 132 _ 6 [rA 1, (0, a), (0, x), (9, 0)] ((some ((0 : Nat), (-1 : Int))).toList ++ []) (enc w1 t) := fun h9 => out (-1) (if_neg h9) (if_neg h9).symm
    refine ⟨fun _ => ⟨fun h0 => nope (by omega), fun h0 => ⟨fun h1 => nope (by omega), fun h1 => ⟨fun h2 => nope (by omega), fun h2 => ⟨fun h3 => ⟨fun h4 => ?_, fun h4 => ?_⟩, fun h3 => nope (by omega)⟩⟩⟩⟩, fun h9 => absurd (fun h8 => absurd h8 (by decide +kernel)) h9⟩
    · have hin : (0 ≤ a ∧ a ≤ 3) ∧ -1 ≤ x ∧ x ≤ 3 := by omega
      have hn16 : ¬ nE m = 16 := by omega
      rw [if_pos hin, if_neg hn16] at hw2
      rw [if_pos hin, if_pos hin, if_neg hn16, if_neg hn16] at out ⊢
      have r6 : ∀ k, k < l.length → w1 6 k = l.getD k 0 + 1 ∧ 0 ≤ l.getD k 0 ∧ l.getD k 0 ≤ 26 := fun k hk => ⟨hL1 k hk, hl2 _ (gD_mem hk)⟩
      have e11 : w1 11 = w 11 := f1.row (by decide) (by decide)
      have up : ∀ k, k < l.length → (w1 11 (l.getD k 0 + 1).toNat = 0 ↔ isUp m (l.getD k 0) = false) := fun k hk => by
        obtain ⟨_, b1, b2⟩ := r6 k hk
        rw [e11, (hA.2.2.1 _ (show (l.getD k 0 + 1).toNat < 28 by omega)).1]
        have : ((byU m (l.getD k 0 + 1).toNat : Nat) : Int) = 0 ↔ byU m (l.getD k 0 + 1).toNat = 0 := by omega
        rw [this]
        unfold byU
        rw [bts_zero]
        constructor
        · intro h9
          cases hu : isUp m (l.getD k 0) with
          | false => rfl
          | true =>
            obtain ⟨p, hpp, hp2⟩ := an_iff.mp hu
            have h8 := of_decide_eq_false (h9 p hpp)
            have h7 := of_decide_eq_true hp2
            exfalso
            apply h8
            rw [h7]
            unfold cdI
            rw [if_neg (by omega)]
            omega
        · intro h9 p hpp
          apply decide_eq_false
          intro h8
          have hb := (hp.2.1 p hpp).1
          have : m 68 p = l.getD k 0 := by
            unfold cdI at h8
            split at h8 <;> omega
          have hu : isUp m (l.getD k 0) = true := an_iff.mpr ⟨p, hpp, decide_eq_true this⟩
          rw [h9] at hu
          cases hu
      have b11 : ∀ k, k < l.length → -2147483648 ≤ w1 11 (l.getD k 0 + 1).toNat ∧ w1 11 (l.getD k 0 + 1).toNat ≤ 2147483647 := fun k hk => by
        obtain ⟨_, b1, b2⟩ := r6 k hk
        rw [e11, (hA.2.2.1 _ (show (l.getD k 0 + 1).toNat < 28 by omega)).1]
        have hlt : byU m (l.getD k 0 + 1).toNat < 2 ^ 16 := bts_le hp.n.2
        omega
      refine lq1 (σ := Unit) (fun k _ => Ev (d + 4) 133 _ 54 [rA 1, (0, a), (0, x), (0, (k : Int))] [] (enc w1 t)) (fun k _ => an (fun k => !isUp m (l.getD k 0)) k = false) l.length ?_ ?_ 0 () (Nat.zero_le _) rfl
      · rintro k _ hk hI hE
        obtain ⟨r1, r2, r3⟩ := r6 k hk
        have hbk := b11 k hk
        refine g_te1 (tx := tl) (m := m) ⟨fun h9 => absurd h9 (by rw [e8, w32_id (by omega), w32_id (by omega)]; omega), fun _ => ?_⟩
        rw [w32_id (x := (k : Int)) (by omega), Int.toNat_natCast, r1, w32_id (x := l.getD k 0 + 1) (by omega), w32_id hbk]
        refine ⟨by omega, by omega, fun h9 => hE () ?_, fun h9 => ?_⟩
        · have hu : isUp m (l.getD k 0) = true := by
            cases hu : isUp m (l.getD k 0) with
            | true => rfl
            | false => exact absurd ((up k hk).mpr hu) h9
          show (an _ k || !isUp m (l.getD k 0)) = false
          rw [hI, hu]; rfl
        · have hu := (up k hk).mp (Classical.not_not.mp h9)
          have hno : noUp m l = true := an_iff.mpr ⟨k, hk, by rw [hu]; rfl⟩
          exact out (-3) (if_pos hno) (if_pos hno).symm
      · rintro _ hI
        have hno : ¬ noUp m l = true := fun h9 => by
          have : noUp m l = false := hI
          rw [this] at h9
          cases h9
        rw [if_neg hno] at hw2
        rw [if_neg hno, if_neg hno]
        refine g_te1 (tx := tl) (m := m) ⟨fun _ => ?_, fun h9 => absurd (by rw [e8]; exact Int.le_refl _) h9⟩
        have hS36 : ∀ c, c < 4 → 0 ≤ w1 36 c ∧ w1 36 c ≤ 1000 := fun c hc => by rw [f1.row (a := 36) (by decide) (by decide)]; exact hH.1 c hc
        refine (c_xadd (hX.fc f1 (by decide) (by decide)) hS36 (hH.2.2.fc f1 (by decide) (by decide)) hw2 (by omega) ⟨hl1.1, hl5⟩ e8 hL1 hw).mono (fun r S2 ⟨w3, e1, e2, f3, hX3, hH3⟩ => ?_)
        subst e1 e2
        refine ⟨fun _ h9 => (by cases h9), g_te2 (tx := tl) (m := m) ⟨fun _ h9 => (by cases h9), g_centry1 (tx := tl) (m := m) ?_⟩⟩
        have e38 : w3 28 8 - 1 = (nE m : Int) := by rw [hX3.1, enW_12]; omega
        rw [e38]
        have fz : Fc [] [(2, 5), (2, 6)] w3 (wu (wu w3 2 5 0) 2 6 0) := Fc.clr (by decide) (by decide)
        have F : Fc [6, 29, 30, 31, 32, 36] [(2, 5), (2, 6), (2, 8), (28, 8)] w (wu (wu w3 2 5 0) 2 6 0) := ((f1.mo (by decide) (by decide)).tr (f3.mo (by decide) (by decide))).tr (fz.mo (by decide) (by decide))
        have epm : pm (enW m a x l) = pm m := by
          funext q k
          unfold pm
          by_cases h9 : (q = 67 ∧ (k = 0 ∨ k = 6)) ∨ q = 68 ∨ q = 69 ∨ (72 ≤ q ∧ q ≤ 76)
          · rw [if_pos h9, if_pos h9]
            by_cases hq : q = 67
            · subst hq; exact enW_f (by omega)
            · rw [enW_o (by omega)]
          · rw [if_neg h9, if_neg h9]
        have n6 : nR (enW m a x l) = nR m := by unfold nR; rw [enW_f (by decide)]
        have n0 : nP (enW m a x l) = nP m := by unfold nP; rw [enW_f (by decide)]
        refine ⟨_, t, rfl, rfl, F.up (by decide) (by decide), ⟨⟨(T1.fc f3 (by decide) (by decide)).nil, (hA.fc F (by decide) (by decide)).mm (enW_f (by decide)) ⟨enW_o (by decide), enW_o (by decide)⟩, (hS.fc F (by decide) (by decide)).mm (enW_f (by decide)) ⟨enW_o (by decide), enW_o (by decide)⟩⟩, ⟨?_, ?_⟩, ⟨hX3.fc fz (by decide) (by decide), hH3.fc fz (by decide) (by decide)⟩, hK.fc F (by decide) (by decide), hL.fc F (by decide) (by decide), (hD.mm epm).fc F (by decide) (by decide)⟩⟩
        · have := hC.fc F (by decide) (by decide)
          unfold RC farB nearB behB at *
          rw [enW_f (by decide), n6, enW_o (by decide), enW_o (by decide), enW_o (by decide), enW_o (by decide), enW_o (by decide)]
          exact this
        · have := hN.fc F (by decide) (by decide)
          unfold LN insB ff nf bf mu ba at *
          rw [n0, n6, enW_o (r := 68) (by decide), enW_o (r := 72) (by decide), enW_o (r := 73) (by decide), enW_o (r := 74) (by decide), enW_o (r := 75) (by decide), enW_o (r := 76) (by decide)]
          exact this
    · have hin : (0 ≤ a ∧ a ≤ 3) ∧ -1 ≤ x ∧ x ≤ 3 := by omega
      have hn16 : nE m = 16 := by omega
      rw [if_pos hin, if_pos hin, if_pos hn16, if_pos hn16] at out ⊢
      exact out (-2) rfl rfl

