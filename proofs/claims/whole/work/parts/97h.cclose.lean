/-! The class: a row kept; closest. -/

theorem g_kadd {d : Nat} {Q : Option aV → aS → Prop} {w : eW} {t : eT} {A n : Int} (h : ((w32 (w 48 4) < w32 20 → (0 ≤ A) ∧ (dyK t A 20 ∨ dyK t A 21) ∧ (Ev (d + 1) 16 Q 25 [rA 48, (2, A), (0, n), (0, if w32 (if w32 13 < w32 (dyL t A : Int) then 13 else (dyL t A : Int)) < w32 n then (if w32 13 < w32 (dyL t A : Int) then 13 else (dyL t A : Int)) else n), (0, 0)] [] (enc w t))) ∧ (¬ (w32 (w 48 4) < w32 20) → Q none (enc w t)))) : Cl (d + 1) 16 [rA 48, (2, A), (0, n)] (enc w t) Q := by
  show Ev (d + 1) 16 Q 0 [rA 48, (2, A), (0, n), (9, 0), (9, 0)] [] (enc w t)
  refine e_lda (v := 48) (show am_cd 16 0 = (2, 1, 0, 2, []) by decide +kernel) rfl ?_
  refine e_getf (a := 48) (tg := 0) (show am_cd 16 1 = (18, 4, 204, 0, [24]) by decide +kernel) (by decide +kernel) (by decide +kernel) rfl ?_
  refine e_ic (show am_cd 16 4 = (0, 6, 1, 20, []) by decide +kernel) ?_
  refine e_cmp2 (show am_cd 16 6 = (11, 9, 10, 2, []) by decide +kernel) (fun hc => ?_) (fun hc => ?_)
  · replace h := h.1 hc
    refine e_ldi (show am_cd 16 10 = (2, 11, 2, 0, []) by decide +kernel) rfl ?_
    refine e_ldaD (v := A) (show am_cd 16 11 = (2, 12, 1, 2, []) by decide +kernel) rfl h.1 ?_
    replace h := h.2
    refine e_alenD (show am_cd 16 12 = (27, 13, 0, 0, []) by decide +kernel) h.1 ?_
    replace h := h.2
    refine e_ic (show am_cd 16 13 = (0, 15, 1, 13, []) by decide +kernel) ?_
    refine e_min (z := 0) (show am_cd 16 15 = (33, 18, 10, 0, [28]) by decide +kernel) (Nat.le_of_ble_eq_true rfl) ?_
    refine e_min (z := 0) (show am_cd 16 18 = (33, 21, 10, 0, [28]) by decide +kernel) (Nat.le_of_ble_eq_true rfl) ?_
    refine e_sti (la2 := [rA 48, (2, A), (0, n), (0, if w32 (if w32 13 < w32 (dyL t A : Int) then 13 else (dyL t A : Int)) < w32 n then (if w32 13 < w32 (dyL t A : Int) then 13 else (dyL t A : Int)) else n), (9, 0)]) (show am_cd 16 21 = (3, 22, 3, 0, []) by decide +kernel) rfl ?_
    refine e_ic (show am_cd 16 22 = (0, 23, 0, 0, []) by decide +kernel) ?_
    refine e_sti (la2 := [rA 48, (2, A), (0, n), (0, if w32 (if w32 13 < w32 (dyL t A : Int) then 13 else (dyL t A : Int)) < w32 n then (if w32 13 < w32 (dyL t A : Int) then 13 else (dyL t A : Int)) else n), (0, 0)]) (show am_cd 16 23 = (3, 25, 4, 0, []) by decide +kernel) rfl ?_
    exact h
  · replace h := h.2 hc
    exact e_retv (show am_cd 16 9 = (36, 10, 3, 0, []) by decide +kernel) (by decide +kernel) h

theorem g_kadd1 {d : Nat} {Q : Option aV → aS → Prop} {w : eW} {t : eT} {A n l k : Int} (h : ((w32 l ≤ w32 k → (0 ≤ w32 (w 48 4) ∧ w32 (w 48 4) < 20) ∧ (0 ≤ w32 (w 48 4) ∧ w32 (w 48 4) < 20) ∧ (Q none (enc (wu (wu (wu w 49 (w32 (w 48 4)).toNat l) 50 (w32 (w 48 4)).toNat 0) 48 4 ((w 48 4) + 1)) t))) ∧ (¬ (w32 l ≤ w32 k) → (0 ≤ A) ∧ (dyK t A 20 ∧ 0 ≤ w32 k ∧ w32 k < dyL t A) ∧ (0 ≤ w32 (((w 48 4) * 13) + k) ∧ w32 (((w 48 4) * 13) + k) < 260) ∧ (Ev (d + 1) 16 Q 25 [rA 48, (2, A), (0, n), (0, l), (0, k + 1)] [] (enc (wu w 51 (w32 (((w 48 4) * 13) + k)).toNat (w A.toNat (w32 k).toNat)) t))))) : Ev (d + 1) 16 Q 25 [rA 48, (2, A), (0, n), (0, l), (0, k)] [] (enc w t) := by
  refine e_ldi (show am_cd 16 25 = (2, 27, 4, 0, []) by decide +kernel) rfl ?_
  refine e_ldi (show am_cd 16 27 = (2, 28, 3, 0, []) by decide +kernel) rfl ?_
  refine e_cmp3 (show am_cd 16 28 = (11, 31, 56, 3, []) by decide +kernel) (fun hc => ?_) (fun hc => ?_)
  · replace h := h.1 hc
    refine e_lda (v := 48) (show am_cd 16 56 = (2, 57, 0, 2, []) by decide +kernel) rfl ?_
    refine e_getr (a := 48) (r := 49) (show am_cd 16 57 = (18, 60, 200, 2, [9]) by decide +kernel) (by decide +kernel) (by decide +kernel) rfl ?_
    refine e_lda (v := 48) (show am_cd 16 60 = (2, 61, 0, 2, []) by decide +kernel) rfl ?_
    refine e_getf (a := 48) (tg := 0) (show am_cd 16 61 = (18, 64, 204, 0, [24]) by decide +kernel) (by decide +kernel) (by decide +kernel) rfl ?_
    refine e_ldi (show am_cd 16 64 = (2, 65, 3, 0, []) by decide +kernel) rfl ?_
    refine e_iast (a := 49) (n := 20) (show am_cd 16 65 = (24, 66, 0, 0, []) by decide +kernel) (by decide +kernel) (by decide +kernel) (by decide +kernel) h.1 ?_
    replace h := h.2
    refine e_lda (v := 48) (show am_cd 16 66 = (2, 67, 0, 2, []) by decide +kernel) rfl ?_
    refine e_getr (a := 48) (r := 50) (show am_cd 16 67 = (18, 70, 201, 2, [15]) by decide +kernel) (by decide +kernel) (by decide +kernel) rfl ?_
    refine e_lda (v := 48) (show am_cd 16 70 = (2, 71, 0, 2, []) by decide +kernel) rfl ?_
    refine e_getfE (a := 48) (tg := 0) (v := w 48 4) (show am_cd 16 71 = (18, 74, 204, 0, [24]) by decide +kernel) (by decide +kernel) (by decide +kernel) rfl rfl ?_
    refine e_ic (show am_cd 16 74 = (0, 75, 0, 0, []) by decide +kernel) ?_
    refine e_iast (a := 50) (n := 20) (show am_cd 16 75 = (24, 76, 0, 0, []) by decide +kernel) (by decide +kernel) (by decide +kernel) (by decide +kernel) h.1 ?_
    replace h := h.2
    refine e_lda (v := 48) (show am_cd 16 76 = (2, 77, 0, 2, []) by decide +kernel) rfl ?_
    refine e_dup (show am_cd 16 77 = (13, 78, 0, 0, []) by decide +kernel) (by decide) ?_
    refine e_getfE (a := 48) (tg := 0) (v := w 48 4) (show am_cd 16 78 = (18, 81, 204, 0, [24]) by decide +kernel) (by decide +kernel) (by decide +kernel) rfl rfl ?_
    refine e_ic (show am_cd 16 81 = (0, 82, 0, 1, []) by decide +kernel) ?_
    refine e_iadd (show am_cd 16 82 = (5, 83, 0, 0, []) by decide +kernel) ?_
    refine e_putf (a := 48) (show am_cd 16 83 = (19, 86, 204, 0, [24]) by decide +kernel) (by decide +kernel) (by decide +kernel) rfl (fun h9 => absurd h9 (by decide)) (fun h9 => absurd h9 (by decide +kernel)) ?_
    exact e_retv (show am_cd 16 86 = (36, 87, 3, 0, []) by decide +kernel) (by decide +kernel) h
  · replace h := h.2 hc
    refine e_lda (v := 48) (show am_cd 16 31 = (2, 32, 0, 2, []) by decide +kernel) rfl ?_
    refine e_getr (a := 48) (r := 51) (show am_cd 16 32 = (18, 35, 202, 2, [18]) by decide +kernel) (by decide +kernel) (by decide +kernel) rfl ?_
    refine e_lda (v := 48) (show am_cd 16 35 = (2, 36, 0, 2, []) by decide +kernel) rfl ?_
    refine e_getf (a := 48) (tg := 0) (show am_cd 16 36 = (18, 39, 204, 0, [24]) by decide +kernel) (by decide +kernel) (by decide +kernel) rfl ?_
    refine e_ic (show am_cd 16 39 = (0, 41, 1, 13, []) by decide +kernel) ?_
    refine e_imul (show am_cd 16 41 = (5, 42, 2, 0, []) by decide +kernel) ?_
    refine e_ldi (show am_cd 16 42 = (2, 44, 4, 0, []) by decide +kernel) rfl ?_
    refine e_iadd (show am_cd 16 44 = (5, 45, 0, 0, []) by decide +kernel) ?_
    refine e_ldaD (v := A) (show am_cd 16 45 = (2, 46, 1, 2, []) by decide +kernel) rfl h.1 ?_
    replace h := h.2
    refine e_ldi (show am_cd 16 46 = (2, 48, 4, 0, []) by decide +kernel) rfl ?_
    refine e_ialdD (show am_cd 16 48 = (21, 49, 0, 0, []) by decide +kernel) h.1 ?_
    replace h := h.2
    refine e_iast (a := 51) (n := 260) (show am_cd 16 49 = (24, 50, 0, 0, []) by decide +kernel) (by decide +kernel) (by decide +kernel) (by decide +kernel) h.1 ?_
    replace h := h.2
    refine e_inc (la2 := [rA 48, (2, A), (0, n), (0, l), (0, k + 1)]) (show am_cd 16 50 = (4, 53, 4, 1, []) by decide +kernel) rfl rfl ?_
    refine e_go (show am_cd 16 53 = (12, 25, 0, 0, []) by decide +kernel) ?_
    exact h

theorem c_kadd {d A La : Nat} {w : eW} {t : eT} {n : Int} {ks : kT} {ml : List Nat} (h : fxA A 20 La ∧ KC w ks ∧ (n = (ml.length : Int) ∧ ml.length ≤ La ∧ ml.length ≤ 13) ∧ (∀ k, k < ml.length → w A k = ((ml.getD k 0 : Nat) : Int)) ∧ (A < 48 ∨ 52 < A)) : Cl (d + 1) 16 [rA 48, rA A, (0, n)] (enc w t) (fun r S2 => ∃ w2, r = none ∧ S2 = enc w2 t ∧ KC w2 ((ks ++ [(ml, [])]).take 20) ∧ Fc [49, 50, 51] [(48, 4)] w w2) := by
  obtain ⟨⟨f1, f2, f3, f4⟩, hK, ⟨rfl, hl1, hl2⟩, hr, hA⟩ := h
  have hk0 : dyK t (A : Int) 20 := dyK_fix f1 f2
  have hdl : dyL t (A : Int) = La := by rw [dyL_fix f1, f3]
  obtain ⟨k1, k2, k3⟩ := hK
  refine g_kadd ?_
  rw [k1, hdl, w32_id (x := (ks.length : Int)) (by omega), w32_id (x := 20) (by decide)]
  refine ⟨fun h20 => ⟨by omega, Or.inl hk0, ?_⟩, fun h20 => ?_⟩
  · have el : (if w32 (if w32 13 < w32 (La : Int) then 13 else (La : Int)) < w32 (ml.length : Int) then (if w32 13 < w32 (La : Int) then 13 else (La : Int)) else (ml.length : Int)) = (ml.length : Int) := by
      rw [w32_id (x := 13) (by decide), w32_id (x := (La : Int)) (by omega), w32_id (x := (ml.length : Int)) (by omega)]
      by_cases h9 : (13 : Int) < (La : Int)
      · rw [if_pos h9, w32_id (x := 13) (by decide), if_neg (by omega)]
      · rw [if_neg h9, w32_id (x := (La : Int)) (by omega), if_neg (by omega)]
    rw [el]
    have hlen : ks.length < 20 := by omega
    rw [take19 ks (ml, []) hlen]
    refine lq1 (σ := eW) (fun k w1 => Ev (d + 1) 16 (fun r S2 => ∃ w2, r = none ∧ S2 = enc w2 t ∧ KC w2 (ks ++ [(ml, [])]) ∧ Fc [49, 50, 51] [(48, 4)] w w2) 25 [rA 48, (2, (A : Int)), (0, (ml.length : Int)), (0, (ml.length : Int)), (0, (k : Int))] [] (enc w1 t)) (fun k w1 => Fc [51] [] w w1 ∧ (∀ j, j < 13 * ks.length → w1 51 j = w 51 j) ∧ ∀ j, j < k → w1 51 (13 * ks.length + j) = ((ml.getD j 0 : Nat) : Int)) ml.length ?_ ?_ 0 w (Nat.zero_le _) ⟨Fc.rf _ _ _, fun _ _ => rfl, fun j hj => absurd hj (Nat.not_lt_zero j)⟩
    · rintro k w1 hk ⟨g1, g2, g3⟩ hE
      have e48 : w1 48 4 = (ks.length : Int) := by rw [g1 _ _ (by decide) (by decide)]; exact k1
      have eA : w1 A = w A := g1.row (by simp; omega) rfl
      refine g_kadd1 ⟨fun h9 => absurd h9 (by rw [w32_id (by omega), w32_id (by omega)]; omega), fun _ => ?_⟩
      rw [e48, hdl, w32_id (x := (k : Int)) (by omega), w32_id (x := (ks.length : Int) * 13 + (k : Int)) (by omega), Int.toNat_natCast, Int.toNat_natCast, eA, hr k hk, show ((ks.length : Int) * 13 + (k : Int)).toNat = 13 * ks.length + k by omega]
      refine ⟨by omega, ⟨hk0, by omega, by omega⟩, by omega, hE _ ⟨g1.tr (Fc.pr (by decide)), fun j hj => ?_, fun j hj => ?_⟩⟩
      · rw [wu_nk _ _ (by omega)]; exact g2 j hj
      · by_cases h9 : j = k
        · rw [h9, wu_eq]
        · rw [wu_nk _ _ (by omega)]; exact g3 j (by omega)
    · rintro w1 ⟨g1, g2, g3⟩
      have e48 : w1 48 4 = (ks.length : Int) := by rw [g1 _ _ (by decide) (by decide)]; exact k1
      refine g_kadd1 ⟨fun _ => ?_, fun h9 => absurd (Int.le_refl _) h9⟩
      rw [e48, w32_id (x := (ks.length : Int)) (by omega), Int.toNat_natCast]
      refine ⟨by omega, by omega, _, rfl, rfl, ⟨?_, ?_, fun i hi => ?_⟩, (((g1.mo (by decide) (by decide)).tr (Fc.pr (by decide))).tr (Fc.pr (by decide))).tr (Fc.pf (by decide))⟩
      · rw [List.length_append]; rfl
      · rw [List.length_append]; show ks.length + 1 ≤ 20; omega
      · rw [List.length_append] at hi
        have hi : i < ks.length + 1 := hi
        have r52 : w1 52 = w 52 := g1.row (by decide) (by decide)
        have r49 : w1 49 = w 49 := g1.row (by decide) (by decide)
        have r50 : w1 50 = w 50 := g1.row (by decide) (by decide)
        by_cases h9 : i = ks.length
        · subst h9
          rw [kAt_n]
          refine ⟨hl2, Nat.zero_le _, by simp [wu], fun k hk => ?_, by simp [wu], fun k hk => absurd hk (Nat.not_lt_zero k)⟩
          rw [wu_na _ _ (by decide), wu_na _ _ (by decide), wu_na _ _ (by decide)]
          exact g3 k hk
        · have hi2 : i < ks.length := by omega
          rw [kAt_l hi2]
          obtain ⟨q1, q2, q3, q4, q5, q6⟩ := k3 i hi2
          refine ⟨q1, q2, ?_, fun k hk => ?_, ?_, fun k hk => ?_⟩
          · rw [wu_na _ _ (by decide), wu_na _ _ (by decide), wu_nk _ _ h9, r49]; exact q3
          · rw [wu_na _ _ (by decide), wu_na _ _ (by decide), wu_na _ _ (by decide), g2 _ (by omega)]; exact q4 k hk
          · rw [wu_na _ _ (by decide), wu_nk _ _ h9, wu_na _ _ (by decide), r50]; exact q5
          · rw [wu_na _ _ (by decide), wu_na _ _ (by decide), wu_na _ _ (by decide), r52]; exact q6 k hk
  · have hlen : ks.length = 20 := by omega
    rw [take20 ks (ml, []) hlen]
    exact ⟨w, rfl, rfl, ⟨k1, k2, k3⟩, Fc.rf _ _ _⟩
def TrP (m : eW) (l1 l2 : List Int) (b : Nat × Nat) (w : eW) (x : Int) (w2 : eW) (t2 : eT) : Prop := x = ((nPt m l1 l2 13 0 0 (16, 16, 16)).length : Int) ∧ LoX 57 w w2 ∧ MC (PmN m l1 l2) b m w2 t2 ∧ ∀ k, k < (nPt m l1 l2 13 0 0 (16, 16, 16)).length → w2 57 k = (((nPt m l1 l2 13 0 0 (16, 16, 16)).getD k 0 : Nat) : Int)
theorem c_trc {d : Nat} {l1 l2 : List Int} {m w : eW} {t : eT} {b : Nat × Nat} {v : Int} (h : FwR l1 l2 m b (16, 16, 16) 0 0 ((tr m 16 16 16 : Nat) : Int) v 0 w t) : Cl (d + 31) 56 [rA 56, (0, v)] (enc w t) (fun r S2 => ∃ x w2 t2, r = some (0, x) ∧ S2 = enc w2 t2 ∧ TrP m l1 l2 b w x w2 t2) := by
  refine g_trc (m := m) (b := b) (P := PmN m l1 l2) (l1 := l1) (l2 := l2) ⟨⟨h.1.1.2.1, h.1.1.2.2.2.1, h.1.1.2.2.2.2⟩, ?_⟩
  refine (trc_loop (w0 := w) 13 0 0 0 _ v (16, 16, 16) w t [] (9, 0) rfl rfl h (fun k hk => absurd hk (Nat.not_lt_zero k)) (fun _ _ _ => rfl)).mono (fun r S2 ⟨w2, t2, e1, e2, e3, e4, e5⟩ => ⟨_, w2, t2, e1, e2, ?_⟩)
  rw [List.nil_append] at e5 ⊢
  exact ⟨rfl, e3, e4, e5⟩
def ttrP (tl : List Int) (w : eW) (R : Except Nat (List Int × List Int)) (x : Int) (w2 : eW) : Prop := Fc [6, 7] [(2, 6), (2, 8), (2, 9)] w w2 ∧ TC w2 tl ∧ match R with
  | .error q => x = 0 ∧ w2 2 6 = (q : Int)
  | .ok y => x = 1 ∧ w2 2 8 = (y.1.length : Int) ∧ LtC w2 6 y.1 ∧ w2 2 9 = (y.2.length : Int) ∧ LtC w2 7 y.2 ∧ (1 ≤ y.1.length ∧ y.1.length ≤ 6) ∧ (1 ≤ y.2.length ∧ y.2.length ≤ 6) ∧ (∀ v ∈ y.1, 0 ≤ v ∧ v ≤ 26) ∧ ∀ v ∈ y.2, 0 ≤ v ∧ v ≤ 26
theorem c_ttrU {d : Nat} {w : eW} {t : eT} {tl : List Int} (h : TC w tl ∧ w 2 6 = 0) : Cl (d + 3) 88 [rA 2, (0, 6)] (enc w t) (fun r S2 => ∃ x w2, r = some (0, x) ∧ S2 = enc w2 t ∧ ttrP tl w (coR tl) x w2) := (c_takesTwoRows h).mono (fun r S2 ⟨w2, e, f, T, q⟩ => by
  unfold ttrP
  cases hp : coR tl with
  | error z => rw [hp] at q; exact ⟨0, w2, q.1, e, f, T, rfl, q.2⟩
  | ok y => rw [hp] at q; exact ⟨1, w2, q.1, e, f, T, rfl, q.2⟩)

theorem g_cclo {d : Nat} {Q : Option aV → aS → Prop} {w : eW} {t : eT} {m : eW} {b : Nat × Nat} {P : Int → Int → Prop} {l1 l2 tl : List Int} {ks : kT} {ml : List Nat} (h : (TC w tl ∧ w 2 6 = 0) ∧ (∀ x1 w2, (ttrP tl w (coR tl) x1 w2) → ((w32 x1 = 0 → ((w32 ((-21) - (w2 2 6)) < w32 1000 → ((w32 x1 = 0 → Q (some (0, (-21) - (w2 2 6))) (enc (wu (wu w2 2 5 0) 2 6 0) t)) ∧ (¬ (w32 x1 = 0) → (FwR l1 l2 m b (16, 16, 16) 0 0 ((tr m 16 16 16 : Nat) : Int) ((-21) - (w2 2 6)) 0 (wu w2 48 4 0) t) ∧ (∀ x3 w4 t5, (TrP m l1 l2 b (wu w2 48 4 0) x3 w4 t5) → (fxA 57 20 13 ∧ KC w4 ks ∧ (x3 = (ml.length : Int) ∧ ml.length ≤ 13 ∧ ml.length ≤ 13) ∧ (∀ k, k < ml.length → w4 57 k = ((ml.getD k 0 : Nat) : Int)) ∧ (57 < 48 ∨ 52 < 57)) ∧ (∀ w6, (KC w6 ((ks ++ [(ml, [])]).take 20) ∧ Fc [49, 50, 51] [(48, 4)] w4 w6) → Q (some (0, (-21) - (w2 2 6))) (enc (wu (wu w6 2 5 0) 2 6 0) t5)))))) ∧ (¬ (w32 ((-21) - (w2 2 6)) < w32 1000) → Q (some (0, (-2))) (enc (wu (wu w2 2 5 0) 2 6 0) t)))) ∧ (¬ (w32 x1 = 0) → (LN (wu (wu w2 45 2 ((w2 45 2) + 1)) 45 3 0) m ∧ WFp m ∧ WFr m) ∧ (∃ g7, (LsR l1 l2 m b 13 g7 0 0 ((tr m 16 16 16 : Nat) : Int) 0 (wu (wu w2 45 2 ((w2 45 2) + 1)) 45 3 0) t) ∧ (∀ x8 w9 t10, (LsO l1 l2 m b g7 0 0 ((tr m 16 16 16 : Nat) : Int) 0 (wu (wu w2 45 2 ((w2 45 2) + 1)) 45 3 0) t x8 w9 t10) → ((w32 x8 < w32 1000 → ((w32 x1 = 0 → Q (some (0, x8)) (enc (wu (wu w9 2 5 0) 2 6 0) t10)) ∧ (¬ (w32 x1 = 0) → (FwR l1 l2 m b (16, 16, 16) 0 0 ((tr m 16 16 16 : Nat) : Int) x8 0 (wu w9 48 4 0) t10) ∧ (∀ x11 w12 t13, (TrP m l1 l2 b (wu w9 48 4 0) x11 w12 t13) → (fxA 57 20 13 ∧ KC w12 ks ∧ (x11 = (ml.length : Int) ∧ ml.length ≤ 13 ∧ ml.length ≤ 13) ∧ (∀ k, k < ml.length → w12 57 k = ((ml.getD k 0 : Nat) : Int)) ∧ (57 < 48 ∨ 52 < 57)) ∧ (∀ w14, (KC w14 ((ks ++ [(ml, [])]).take 20) ∧ Fc [49, 50, 51] [(48, 4)] w12 w14) → Q (some (0, x8)) (enc (wu (wu w14 2 5 0) 2 6 0) t13)))))) ∧ (¬ (w32 x8 < w32 1000) → Q (some (0, (-2))) (enc (wu (wu w9 2 5 0) 2 6 0) t10))))))))) : Cl (d + 34) 148 [rA 1] (enc w t) Q := by
  show Ev (d + 34) 148 Q 0 [rA 1, (9, 0), (9, 0)] [] (enc w t)
  refine e_lda (v := 1) (show am_cd 148 0 = (2, 1, 0, 2, []) by decide +kernel) rfl ?_
  refine e_getr (a := 1) (r := 2) (show am_cd 148 1 = (18, 4, 1100, 2, [12]) by decide +kernel) (by decide +kernel) (by decide +kernel) rfl ?_
  refine e_ic (show am_cd 148 4 = (0, 6, 1, 6, []) by decide +kernel) ?_
  refine e_cV (z := 0) (a := 2) (as := [(0, 6)]) (rest := []) (show am_cd 148 6 = (40, 9, 88, 0, [290]) by decide +kernel) (by decide +kernel) rfl rfl (Nat.le_of_ble_eq_true rfl) rfl ?_
  refine Cl.mono (Cl.up (c_ttrU (d := d) h.1) (by omega)) ?_
  rintro _ _ ⟨x1, w2, rfl, rfl, hp⟩
  refine ⟨fun _ h9 => (by cases h9), ?_⟩
  replace h := h.2 x1 w2 hp
  show Ev _ 148 _ 9 [rA 1, (9, 0), (9, 0)] [(0, x1)] _
  refine e_sti (la2 := [rA 1, (0, x1), (9, 0)]) (show am_cd 148 9 = (3, 10, 1, 0, []) by decide +kernel) rfl ?_
  refine e_ldi (show am_cd 148 10 = (2, 11, 1, 0, []) by decide +kernel) rfl ?_
  refine e_if0 (show am_cd 148 11 = (10, 14, 24, 0, []) by decide +kernel) (fun hc => ?_) (fun hc => ?_)
  · replace h := h.1 hc
    refine e_lda (v := 1) (show am_cd 148 24 = (2, 25, 0, 2, []) by decide +kernel) rfl ?_
    refine e_cV (z := 0) (a := 1) (as := []) (rest := []) (show am_cd 148 25 = (40, 28, 126, 0, [124]) by decide +kernel) (by decide +kernel) rfl rfl (Nat.le_of_ble_eq_true rfl) rfl ?_
    show Ev _ 126 _ 0 [rA 1] [] _
    refine e_ic (show am_cd 126 0 = (0, 2, 1, -21, []) by decide +kernel) ?_
    refine e_lda (v := 1) (show am_cd 126 2 = (2, 3, 0, 2, []) by decide +kernel) rfl ?_
    refine e_getr (a := 1) (r := 2) (show am_cd 126 3 = (18, 6, 1100, 2, [12]) by decide +kernel) (by decide +kernel) (by decide +kernel) rfl ?_
    refine e_getf (a := 2) (tg := 0) (show am_cd 126 6 = (18, 9, 806, 0, [146]) by decide +kernel) (by decide +kernel) (by decide +kernel) rfl ?_
    refine e_isub (show am_cd 126 9 = (5, 10, 1, 0, []) by decide +kernel) ?_
    refine e_reti (show am_cd 126 10 = (36, 11, 0, 0, []) by decide +kernel) (by decide +kernel) ⟨fun _ h9 => (by cases h9), ?_⟩
    show Ev _ 148 _ 28 [rA 1, (0, x1), (9, 0)] [(0, (-21) - (w2 2 6))] _
    refine e_sti (la2 := [rA 1, (0, x1), (0, (-21) - (w2 2 6))]) (show am_cd 148 28 = (3, 29, 2, 0, []) by decide +kernel) rfl ?_
    refine e_ldi (show am_cd 148 29 = (2, 30, 2, 0, []) by decide +kernel) rfl ?_
    refine e_ic (show am_cd 148 30 = (0, 33, 2, 1000, []) by decide +kernel) ?_
    refine e_cmp2 (show am_cd 148 33 = (11, 36, 42, 2, []) by decide +kernel) (fun hc => ?_) (fun hc => ?_)
    · replace h := h.1 hc
      refine e_ldi (show am_cd 148 42 = (2, 43, 1, 0, []) by decide +kernel) rfl ?_
      refine e_if0 (show am_cd 148 43 = (10, 46, 76, 0, []) by decide +kernel) (fun hc => ?_) (fun hc => ?_)
      · replace h := h.1 hc
        refine e_lda (v := 1) (show am_cd 148 76 = (2, 77, 0, 2, []) by decide +kernel) rfl ?_
        refine e_getr (a := 1) (r := 2) (show am_cd 148 77 = (18, 80, 1100, 2, [12]) by decide +kernel) (by decide +kernel) (by decide +kernel) rfl ?_
        refine e_cV (z := 0) (a := 2) (as := []) (rest := []) (show am_cd 148 80 = (40, 83, 79, 0, [117]) by decide +kernel) (by decide +kernel) rfl rfl (Nat.le_of_ble_eq_true rfl) rfl ?_
        show Ev _ 79 _ 0 [rA 2] [] _
        refine e_lda (v := 2) (show am_cd 79 0 = (2, 1, 0, 2, []) by decide +kernel) rfl ?_
        refine e_ic (show am_cd 79 1 = (0, 2, 0, 0, []) by decide +kernel) ?_
        refine e_putf (a := 2) (show am_cd 79 2 = (19, 5, 805, 0, [27]) by decide +kernel) (by decide +kernel) (by decide +kernel) rfl (fun h9 => absurd h9 (by decide)) (fun h9 => absurd h9 (by decide +kernel)) ?_
        refine e_lda (v := 2) (show am_cd 79 5 = (2, 6, 0, 2, []) by decide +kernel) rfl ?_
        refine e_ic (show am_cd 79 6 = (0, 7, 0, 0, []) by decide +kernel) ?_
        refine e_putf (a := 2) (show am_cd 79 7 = (19, 10, 806, 0, [31]) by decide +kernel) (by decide +kernel) (by decide +kernel) rfl (fun h9 => absurd h9 (by decide)) (fun h9 => absurd h9 (by decide +kernel)) ?_
        refine e_retv (show am_cd 79 10 = (36, 11, 3, 0, []) by decide +kernel) (by decide +kernel) ⟨fun _ h9 => (by cases h9), ?_⟩
        show Ev _ 148 _ 83 [rA 1, (0, x1), (0, (-21) - (w2 2 6))] [] _
        refine e_ldi (show am_cd 148 83 = (2, 84, 2, 0, []) by decide +kernel) rfl ?_
        exact e_reti (show am_cd 148 84 = (36, 85, 0, 0, []) by decide +kernel) (by decide +kernel) h
      · replace h := h.2 hc
        refine e_lda (v := 1) (show am_cd 148 46 = (2, 47, 0, 2, []) by decide +kernel) rfl ?_
        refine e_getr (a := 1) (r := 48) (show am_cd 148 47 = (18, 50, 1106, 2, [54]) by decide +kernel) (by decide +kernel) (by decide +kernel) rfl ?_
        refine e_ic (show am_cd 148 50 = (0, 51, 0, 0, []) by decide +kernel) ?_
        refine e_putf (a := 48) (show am_cd 148 51 = (19, 54, 204, 0, [140]) by decide +kernel) (by decide +kernel) (by decide +kernel) rfl (fun h9 => absurd h9 (by decide)) (fun h9 => absurd h9 (by decide +kernel)) ?_
        refine e_lda (v := 1) (show am_cd 148 54 = (2, 55, 0, 2, []) by decide +kernel) rfl ?_
        refine e_getr (a := 1) (r := 48) (show am_cd 148 55 = (18, 58, 1106, 2, [54]) by decide +kernel) (by decide +kernel) (by decide +kernel) rfl ?_
        refine e_lda (v := 1) (show am_cd 148 58 = (2, 59, 0, 2, []) by decide +kernel) rfl ?_
        refine e_getr (a := 1) (r := 56) (show am_cd 148 59 = (18, 62, 1108, 2, [72]) by decide +kernel) (by decide +kernel) (by decide +kernel) rfl ?_
        refine e_getr (a := 56) (r := 57) (show am_cd 148 62 = (18, 65, 604, 2, [296]) by decide +kernel) (by decide +kernel) (by decide +kernel) rfl ?_
        refine e_lda (v := 1) (show am_cd 148 65 = (2, 66, 0, 2, []) by decide +kernel) rfl ?_
        refine e_getr (a := 1) (r := 56) (show am_cd 148 66 = (18, 69, 1108, 2, [72]) by decide +kernel) (by decide +kernel) (by decide +kernel) rfl ?_
        refine e_ldi (show am_cd 148 69 = (2, 70, 2, 0, []) by decide +kernel) rfl ?_
        refine e_cV (z := 0) (a := 56) (as := [(0, (-21) - (w2 2 6))]) (rest := [rA 57, rA 48]) (show am_cd 148 70 = (40, 73, 56, 0, [297]) by decide +kernel) (by decide +kernel) rfl rfl (Nat.le_of_ble_eq_true rfl) rfl ?_
        refine Cl.mono (Cl.up (c_trc (l1 := l1) (l2 := l2) (m := m) (b := b) (d := d) h.1) (by omega)) ?_
        rintro _ _ ⟨x3, w4, t5, rfl, rfl, hp⟩
        refine ⟨fun _ h9 => (by cases h9), ?_⟩
        replace h := h.2 x3 w4 t5 hp
        show Ev _ 148 _ 73 [rA 1, (0, x1), (0, (-21) - (w2 2 6))] [(0, x3), rA 57, rA 48] _
        refine e_cV (z := 0) (a := 48) (as := [rA 57, (0, x3)]) (rest := []) (show am_cd 148 73 = (40, 76, 16, 0, [280]) by decide +kernel) (by decide +kernel) rfl rfl (Nat.le_of_ble_eq_true rfl) rfl ?_
        refine Cl.mono (Cl.up (c_kadd (ks := ks) (ml := ml) (d := d) h.1) (by omega)) ?_
        rintro _ _ ⟨w6, rfl, rfl, hp⟩
        refine ⟨fun _ h9 => (by cases h9), ?_⟩
        replace h := h.2 w6 hp
        show Ev _ 148 _ 76 [rA 1, (0, x1), (0, (-21) - (w2 2 6))] [] _
        refine e_lda (v := 1) (show am_cd 148 76 = (2, 77, 0, 2, []) by decide +kernel) rfl ?_
        refine e_getr (a := 1) (r := 2) (show am_cd 148 77 = (18, 80, 1100, 2, [12]) by decide +kernel) (by decide +kernel) (by decide +kernel) rfl ?_
        refine e_cV (z := 0) (a := 2) (as := []) (rest := []) (show am_cd 148 80 = (40, 83, 79, 0, [117]) by decide +kernel) (by decide +kernel) rfl rfl (Nat.le_of_ble_eq_true rfl) rfl ?_
        show Ev _ 79 _ 0 [rA 2] [] _
        refine e_lda (v := 2) (show am_cd 79 0 = (2, 1, 0, 2, []) by decide +kernel) rfl ?_
        refine e_ic (show am_cd 79 1 = (0, 2, 0, 0, []) by decide +kernel) ?_
        refine e_putf (a := 2) (show am_cd 79 2 = (19, 5, 805, 0, [27]) by decide +kernel) (by decide +kernel) (by decide +kernel) rfl (fun h9 => absurd h9 (by decide)) (fun h9 => absurd h9 (by decide +kernel)) ?_
        refine e_lda (v := 2) (show am_cd 79 5 = (2, 6, 0, 2, []) by decide +kernel) rfl ?_
        refine e_ic (show am_cd 79 6 = (0, 7, 0, 0, []) by decide +kernel) ?_
        refine e_putf (a := 2) (show am_cd 79 7 = (19, 10, 806, 0, [31]) by decide +kernel) (by decide +kernel) (by decide +kernel) rfl (fun h9 => absurd h9 (by decide)) (fun h9 => absurd h9 (by decide +kernel)) ?_
        refine e_retv (show am_cd 79 10 = (36, 11, 3, 0, []) by decide +kernel) (by decide +kernel) ⟨fun _ h9 => (by cases h9), ?_⟩
        show Ev _ 148 _ 83 [rA 1, (0, x1), (0, (-21) - (w2 2 6))] [] _
        refine e_ldi (show am_cd 148 83 = (2, 84, 2, 0, []) by decide +kernel) rfl ?_
        exact e_reti (show am_cd 148 84 = (36, 85, 0, 0, []) by decide +kernel) (by decide +kernel) h
    · replace h := h.2 hc
      refine e_ic (show am_cd 148 36 = (0, 38, 1, -2, []) by decide +kernel) ?_
      refine e_sti (la2 := [rA 1, (0, x1), (0, (-2))]) (show am_cd 148 38 = (3, 39, 2, 0, []) by decide +kernel) rfl ?_
      refine e_go (show am_cd 148 39 = (12, 76, 0, 0, []) by decide +kernel) ?_
      refine e_lda (v := 1) (show am_cd 148 76 = (2, 77, 0, 2, []) by decide +kernel) rfl ?_
      refine e_getr (a := 1) (r := 2) (show am_cd 148 77 = (18, 80, 1100, 2, [12]) by decide +kernel) (by decide +kernel) (by decide +kernel) rfl ?_
      refine e_cV (z := 0) (a := 2) (as := []) (rest := []) (show am_cd 148 80 = (40, 83, 79, 0, [117]) by decide +kernel) (by decide +kernel) rfl rfl (Nat.le_of_ble_eq_true rfl) rfl ?_
      show Ev _ 79 _ 0 [rA 2] [] _
      refine e_lda (v := 2) (show am_cd 79 0 = (2, 1, 0, 2, []) by decide +kernel) rfl ?_
      refine e_ic (show am_cd 79 1 = (0, 2, 0, 0, []) by decide +kernel) ?_
      refine e_putf (a := 2) (show am_cd 79 2 = (19, 5, 805, 0, [27]) by decide +kernel) (by decide +kernel) (by decide +kernel) rfl (fun h9 => absurd h9 (by decide)) (fun h9 => absurd h9 (by decide +kernel)) ?_
      refine e_lda (v := 2) (show am_cd 79 5 = (2, 6, 0, 2, []) by decide +kernel) rfl ?_
      refine e_ic (show am_cd 79 6 = (0, 7, 0, 0, []) by decide +kernel) ?_
      refine e_putf (a := 2) (show am_cd 79 7 = (19, 10, 806, 0, [31]) by decide +kernel) (by decide +kernel) (by decide +kernel) rfl (fun h9 => absurd h9 (by decide)) (fun h9 => absurd h9 (by decide +kernel)) ?_
      refine e_retv (show am_cd 79 10 = (36, 11, 3, 0, []) by decide +kernel) (by decide +kernel) ⟨fun _ h9 => (by cases h9), ?_⟩
      show Ev _ 148 _ 83 [rA 1, (0, x1), (0, (-2))] [] _
      refine e_ldi (show am_cd 148 83 = (2, 84, 2, 0, []) by decide +kernel) rfl ?_
      exact e_reti (show am_cd 148 84 = (36, 85, 0, 0, []) by decide +kernel) (by decide +kernel) h
  · replace h := h.2 hc
    refine e_lda (v := 1) (show am_cd 148 14 = (2, 15, 0, 2, []) by decide +kernel) rfl ?_
    refine e_getr (a := 1) (r := 56) (show am_cd 148 15 = (18, 18, 1108, 2, [72]) by decide +kernel) (by decide +kernel) (by decide +kernel) rfl ?_
    refine e_cV (z := 0) (a := 56) (as := []) (rest := []) (show am_cd 148 18 = (40, 21, 50, 0, [293]) by decide +kernel) (by decide +kernel) rfl rfl (Nat.le_of_ble_eq_true rfl) rfl ?_
    show Ev _ 50 _ 0 [rA 56] [] _
    refine e_lda (v := 56) (show am_cd 50 0 = (2, 1, 0, 2, []) by decide +kernel) rfl ?_
    refine e_getr (a := 56) (r := 45) (show am_cd 50 1 = (18, 4, 603, 2, [27]) by decide +kernel) (by decide +kernel) (by decide +kernel) rfl ?_
    refine e_cV (z := 0) (a := 45) (as := []) (rest := []) (show am_cd 50 4 = (40, 7, 43, 0, [31]) by decide +kernel) (by decide +kernel) rfl rfl (Nat.le_of_ble_eq_true rfl) rfl ?_
    show Ev _ 43 _ 0 [rA 45] [] _
    refine e_lda (v := 45) (show am_cd 43 0 = (2, 1, 0, 2, []) by decide +kernel) rfl ?_
    refine e_dup (show am_cd 43 1 = (13, 2, 0, 0, []) by decide +kernel) (by decide) ?_
    refine e_getf (a := 45) (tg := 0) (show am_cd 43 2 = (18, 5, 502, 0, [18]) by decide +kernel) (by decide +kernel) (by decide +kernel) rfl ?_
    refine e_ic (show am_cd 43 5 = (0, 6, 0, 1, []) by decide +kernel) ?_
    refine e_iadd (show am_cd 43 6 = (5, 7, 0, 0, []) by decide +kernel) ?_
    refine e_putf (a := 45) (show am_cd 43 7 = (19, 10, 502, 0, [18]) by decide +kernel) (by decide +kernel) (by decide +kernel) rfl (fun h9 => absurd h9 (by decide)) (fun h9 => absurd h9 (by decide +kernel)) ?_
    refine e_lda (v := 45) (show am_cd 43 10 = (2, 11, 0, 2, []) by decide +kernel) rfl ?_
    refine e_ic (show am_cd 43 11 = (0, 12, 0, 0, []) by decide +kernel) ?_
    refine e_putf (a := 45) (show am_cd 43 12 = (19, 15, 503, 0, [22]) by decide +kernel) (by decide +kernel) (by decide +kernel) rfl (fun h9 => absurd h9 (by decide)) (fun h9 => absurd h9 (by decide +kernel)) ?_
    refine e_retv (show am_cd 43 15 = (36, 16, 3, 0, []) by decide +kernel) (by decide +kernel) ⟨fun _ h9 => (by cases h9), ?_⟩
    show Ev _ 50 _ 7 [rA 56] [] _
    refine e_lda (v := 56) (show am_cd 50 7 = (2, 8, 0, 2, []) by decide +kernel) rfl ?_
    refine e_ic (show am_cd 50 8 = (0, 9, 0, 0, []) by decide +kernel) ?_
    refine e_ic (show am_cd 50 9 = (0, 10, 0, 0, []) by decide +kernel) ?_
    refine e_lda (v := 56) (show am_cd 50 10 = (2, 11, 0, 2, []) by decide +kernel) rfl ?_
    refine e_getr (a := 56) (r := 15) (show am_cd 50 11 = (18, 14, 602, 2, [23]) by decide +kernel) (by decide +kernel) (by decide +kernel) rfl ?_
    refine e_cV (z := 0) (a := 15) (as := []) (rest := [(0, 0), (0, 0), rA 56]) (show am_cd 50 14 = (40, 17, 73, 0, [36]) by decide +kernel) (by decide +kernel) rfl rfl (Nat.le_of_ble_eq_true rfl) rfl ?_
    refine Cl.mono (Cl.up (c_rstart (d := d) h.1) (by omega)) ?_
    rintro _ _ ⟨rfl, rfl⟩
    refine ⟨fun _ h9 => (by cases h9), ?_⟩
    replace h := h.2
    show Ev _ 50 _ 17 [rA 56] [(0, ((tr m 16 16 16 : Nat) : Int)), (0, 0), (0, 0), rA 56] _
    refine e_ic (show am_cd 50 17 = (0, 18, 0, 0, []) by decide +kernel) ?_
    refine e_cV (z := 0) (a := 56) (as := [(0, 0), (0, 0), (0, ((tr m 16 16 16 : Nat) : Int)), (0, 0)]) (rest := []) (show am_cd 50 18 = (40, 21, 51, 0, [42]) by decide +kernel) (by decide +kernel) rfl rfl (Nat.le_of_ble_eq_true rfl) rfl ?_
    obtain ⟨g7, h⟩ := h
    refine Cl.mono (Cl.up (c_lsB (l1 := l1) (l2 := l2) (m := m) (b := b) (d := d) 13 g7 _ _ _ _ _ _ h.1) (by omega)) ?_
    rintro _ _ ⟨x8, w9, t10, rfl, rfl, hp⟩
    refine ⟨fun _ h9 => (by cases h9), ?_⟩
    replace h := h.2 x8 w9 t10 hp
    show Ev _ 50 _ 21 [rA 56] [(0, x8)] _
    refine e_reti (show am_cd 50 21 = (36, 22, 0, 0, []) by decide +kernel) (by decide +kernel) ⟨fun _ h9 => (by cases h9), ?_⟩
    show Ev _ 148 _ 21 [rA 1, (0, x1), (9, 0)] [(0, x8)] _
    refine e_go (show am_cd 148 21 = (12, 28, 0, 0, []) by decide +kernel) ?_
    refine e_sti (la2 := [rA 1, (0, x1), (0, x8)]) (show am_cd 148 28 = (3, 29, 2, 0, []) by decide +kernel) rfl ?_
    refine e_ldi (show am_cd 148 29 = (2, 30, 2, 0, []) by decide +kernel) rfl ?_
    refine e_ic (show am_cd 148 30 = (0, 33, 2, 1000, []) by decide +kernel) ?_
    refine e_cmp2 (show am_cd 148 33 = (11, 36, 42, 2, []) by decide +kernel) (fun hc => ?_) (fun hc => ?_)
    · replace h := h.1 hc
      refine e_ldi (show am_cd 148 42 = (2, 43, 1, 0, []) by decide +kernel) rfl ?_
      refine e_if0 (show am_cd 148 43 = (10, 46, 76, 0, []) by decide +kernel) (fun hc => ?_) (fun hc => ?_)
      · replace h := h.1 hc
        refine e_lda (v := 1) (show am_cd 148 76 = (2, 77, 0, 2, []) by decide +kernel) rfl ?_
        refine e_getr (a := 1) (r := 2) (show am_cd 148 77 = (18, 80, 1100, 2, [12]) by decide +kernel) (by decide +kernel) (by decide +kernel) rfl ?_
        refine e_cV (z := 0) (a := 2) (as := []) (rest := []) (show am_cd 148 80 = (40, 83, 79, 0, [117]) by decide +kernel) (by decide +kernel) rfl rfl (Nat.le_of_ble_eq_true rfl) rfl ?_
        show Ev _ 79 _ 0 [rA 2] [] _
        refine e_lda (v := 2) (show am_cd 79 0 = (2, 1, 0, 2, []) by decide +kernel) rfl ?_
        refine e_ic (show am_cd 79 1 = (0, 2, 0, 0, []) by decide +kernel) ?_
        refine e_putf (a := 2) (show am_cd 79 2 = (19, 5, 805, 0, [27]) by decide +kernel) (by decide +kernel) (by decide +kernel) rfl (fun h9 => absurd h9 (by decide)) (fun h9 => absurd h9 (by decide +kernel)) ?_
        refine e_lda (v := 2) (show am_cd 79 5 = (2, 6, 0, 2, []) by decide +kernel) rfl ?_
        refine e_ic (show am_cd 79 6 = (0, 7, 0, 0, []) by decide +kernel) ?_
        refine e_putf (a := 2) (show am_cd 79 7 = (19, 10, 806, 0, [31]) by decide +kernel) (by decide +kernel) (by decide +kernel) rfl (fun h9 => absurd h9 (by decide)) (fun h9 => absurd h9 (by decide +kernel)) ?_
        refine e_retv (show am_cd 79 10 = (36, 11, 3, 0, []) by decide +kernel) (by decide +kernel) ⟨fun _ h9 => (by cases h9), ?_⟩
        show Ev _ 148 _ 83 [rA 1, (0, x1), (0, x8)] [] _
        refine e_ldi (show am_cd 148 83 = (2, 84, 2, 0, []) by decide +kernel) rfl ?_
        exact e_reti (show am_cd 148 84 = (36, 85, 0, 0, []) by decide +kernel) (by decide +kernel) h
      · replace h := h.2 hc
        refine e_lda (v := 1) (show am_cd 148 46 = (2, 47, 0, 2, []) by decide +kernel) rfl ?_
        refine e_getr (a := 1) (r := 48) (show am_cd 148 47 = (18, 50, 1106, 2, [54]) by decide +kernel) (by decide +kernel) (by decide +kernel) rfl ?_
        refine e_ic (show am_cd 148 50 = (0, 51, 0, 0, []) by decide +kernel) ?_
        refine e_putf (a := 48) (show am_cd 148 51 = (19, 54, 204, 0, [140]) by decide +kernel) (by decide +kernel) (by decide +kernel) rfl (fun h9 => absurd h9 (by decide)) (fun h9 => absurd h9 (by decide +kernel)) ?_
        refine e_lda (v := 1) (show am_cd 148 54 = (2, 55, 0, 2, []) by decide +kernel) rfl ?_
        refine e_getr (a := 1) (r := 48) (show am_cd 148 55 = (18, 58, 1106, 2, [54]) by decide +kernel) (by decide +kernel) (by decide +kernel) rfl ?_
        refine e_lda (v := 1) (show am_cd 148 58 = (2, 59, 0, 2, []) by decide +kernel) rfl ?_
        refine e_getr (a := 1) (r := 56) (show am_cd 148 59 = (18, 62, 1108, 2, [72]) by decide +kernel) (by decide +kernel) (by decide +kernel) rfl ?_
        refine e_getr (a := 56) (r := 57) (show am_cd 148 62 = (18, 65, 604, 2, [296]) by decide +kernel) (by decide +kernel) (by decide +kernel) rfl ?_
        refine e_lda (v := 1) (show am_cd 148 65 = (2, 66, 0, 2, []) by decide +kernel) rfl ?_
        refine e_getr (a := 1) (r := 56) (show am_cd 148 66 = (18, 69, 1108, 2, [72]) by decide +kernel) (by decide +kernel) (by decide +kernel) rfl ?_
        refine e_ldi (show am_cd 148 69 = (2, 70, 2, 0, []) by decide +kernel) rfl ?_
        refine e_cV (z := 0) (a := 56) (as := [(0, x8)]) (rest := [rA 57, rA 48]) (show am_cd 148 70 = (40, 73, 56, 0, [297]) by decide +kernel) (by decide +kernel) rfl rfl (Nat.le_of_ble_eq_true rfl) rfl ?_
        refine Cl.mono (Cl.up (c_trc (l1 := l1) (l2 := l2) (m := m) (b := b) (d := d) h.1) (by omega)) ?_
        rintro _ _ ⟨x11, w12, t13, rfl, rfl, hp⟩
        refine ⟨fun _ h9 => (by cases h9), ?_⟩
        replace h := h.2 x11 w12 t13 hp
        show Ev _ 148 _ 73 [rA 1, (0, x1), (0, x8)] [(0, x11), rA 57, rA 48] _
        refine e_cV (z := 0) (a := 48) (as := [rA 57, (0, x11)]) (rest := []) (show am_cd 148 73 = (40, 76, 16, 0, [280]) by decide +kernel) (by decide +kernel) rfl rfl (Nat.le_of_ble_eq_true rfl) rfl ?_
        refine Cl.mono (Cl.up (c_kadd (ks := ks) (ml := ml) (d := d) h.1) (by omega)) ?_
        rintro _ _ ⟨w14, rfl, rfl, hp⟩
        refine ⟨fun _ h9 => (by cases h9), ?_⟩
        replace h := h.2 w14 hp
        show Ev _ 148 _ 76 [rA 1, (0, x1), (0, x8)] [] _
        refine e_lda (v := 1) (show am_cd 148 76 = (2, 77, 0, 2, []) by decide +kernel) rfl ?_
        refine e_getr (a := 1) (r := 2) (show am_cd 148 77 = (18, 80, 1100, 2, [12]) by decide +kernel) (by decide +kernel) (by decide +kernel) rfl ?_
        refine e_cV (z := 0) (a := 2) (as := []) (rest := []) (show am_cd 148 80 = (40, 83, 79, 0, [117]) by decide +kernel) (by decide +kernel) rfl rfl (Nat.le_of_ble_eq_true rfl) rfl ?_
        show Ev _ 79 _ 0 [rA 2] [] _
        refine e_lda (v := 2) (show am_cd 79 0 = (2, 1, 0, 2, []) by decide +kernel) rfl ?_
        refine e_ic (show am_cd 79 1 = (0, 2, 0, 0, []) by decide +kernel) ?_
        refine e_putf (a := 2) (show am_cd 79 2 = (19, 5, 805, 0, [27]) by decide +kernel) (by decide +kernel) (by decide +kernel) rfl (fun h9 => absurd h9 (by decide)) (fun h9 => absurd h9 (by decide +kernel)) ?_
        refine e_lda (v := 2) (show am_cd 79 5 = (2, 6, 0, 2, []) by decide +kernel) rfl ?_
        refine e_ic (show am_cd 79 6 = (0, 7, 0, 0, []) by decide +kernel) ?_
        refine e_putf (a := 2) (show am_cd 79 7 = (19, 10, 806, 0, [31]) by decide +kernel) (by decide +kernel) (by decide +kernel) rfl (fun h9 => absurd h9 (by decide)) (fun h9 => absurd h9 (by decide +kernel)) ?_
        refine e_retv (show am_cd 79 10 = (36, 11, 3, 0, []) by decide +kernel) (by decide +kernel) ⟨fun _ h9 => (by cases h9), ?_⟩
        show Ev _ 148 _ 83 [rA 1, (0, x1), (0, x8)] [] _
        refine e_ldi (show am_cd 148 83 = (2, 84, 2, 0, []) by decide +kernel) rfl ?_
        exact e_reti (show am_cd 148 84 = (36, 85, 0, 0, []) by decide +kernel) (by decide +kernel) h
    · replace h := h.2 hc
      refine e_ic (show am_cd 148 36 = (0, 38, 1, -2, []) by decide +kernel) ?_
      refine e_sti (la2 := [rA 1, (0, x1), (0, (-2))]) (show am_cd 148 38 = (3, 39, 2, 0, []) by decide +kernel) rfl ?_
      refine e_go (show am_cd 148 39 = (12, 76, 0, 0, []) by decide +kernel) ?_
      refine e_lda (v := 1) (show am_cd 148 76 = (2, 77, 0, 2, []) by decide +kernel) rfl ?_
      refine e_getr (a := 1) (r := 2) (show am_cd 148 77 = (18, 80, 1100, 2, [12]) by decide +kernel) (by decide +kernel) (by decide +kernel) rfl ?_
      refine e_cV (z := 0) (a := 2) (as := []) (rest := []) (show am_cd 148 80 = (40, 83, 79, 0, [117]) by decide +kernel) (by decide +kernel) rfl rfl (Nat.le_of_ble_eq_true rfl) rfl ?_
      show Ev _ 79 _ 0 [rA 2] [] _
      refine e_lda (v := 2) (show am_cd 79 0 = (2, 1, 0, 2, []) by decide +kernel) rfl ?_
      refine e_ic (show am_cd 79 1 = (0, 2, 0, 0, []) by decide +kernel) ?_
      refine e_putf (a := 2) (show am_cd 79 2 = (19, 5, 805, 0, [27]) by decide +kernel) (by decide +kernel) (by decide +kernel) rfl (fun h9 => absurd h9 (by decide)) (fun h9 => absurd h9 (by decide +kernel)) ?_
      refine e_lda (v := 2) (show am_cd 79 5 = (2, 6, 0, 2, []) by decide +kernel) rfl ?_
      refine e_ic (show am_cd 79 6 = (0, 7, 0, 0, []) by decide +kernel) ?_
      refine e_putf (a := 2) (show am_cd 79 7 = (19, 10, 806, 0, [31]) by decide +kernel) (by decide +kernel) (by decide +kernel) rfl (fun h9 => absurd h9 (by decide)) (fun h9 => absurd h9 (by decide +kernel)) ?_
      refine e_retv (show am_cd 79 10 = (36, 11, 3, 0, []) by decide +kernel) (by decide +kernel) ⟨fun _ h9 => (by cases h9), ?_⟩
      show Ev _ 148 _ 83 [rA 1, (0, x1), (0, (-2))] [] _
      refine e_ldi (show am_cd 148 83 = (2, 84, 2, 0, []) by decide +kernel) rfl ?_
      exact e_reti (show am_cd 148 84 = (36, 85, 0, 0, []) by decide +kernel) (by decide +kernel) h

/-- other cells, and the text's and what is kept -/
def LoK (w w2 : eW) : Prop := ∀ a, a < 37 ∨ (47 < a ∧ a < 102) → okRow a = false → a ≠ 2 → a ≠ 48 → a ≠ 53 → a ≠ 58 → a ≠ 61 → a ≠ 1 → w2 a = w a
theorem CI.lok {w w2 : eW} {t t2 : eT} {b b2 : Nat × Nat} {m : eW} {ks ks2 : kT} {rl rl2 tl tl2 : List Int} (h : CI w t b m ks rl tl) (l : LoK w w2) (hD : DynQ w2 t2 b2 m) (hT : TC w2 tl2 ∧ w2 2 6 = 0) (hK : KC w2 ks2) (hL : TlC w2 rl2) : CI w2 t2 b2 m ks2 rl2 tl2 := by
  obtain ⟨⟨_, hA, hS⟩, ⟨hC, hN⟩, ⟨hX, hH⟩, _, _, _⟩ := h
  have e : ∀ a, a < 33 ∨ (34 ≤ a ∧ a ≤ 36) → 8 ≤ a → w2 a = w a := fun a h1 h2 => l a (by omega) (by
    cases h9 : okRow a with
    | false => rfl
    | true => have := okRow_i h9; omega) (by omega) (by omega) (by omega) (by omega) (by omega) (by omega)
  refine ⟨⟨hT, ?_, ?_⟩, ⟨?_, ?_⟩, ⟨?_, ?_⟩, hK, hL, DynP_Q.mpr hD⟩
  · unfold AC at *
    rw [e 8 (by omega) (by omega), e 9 (by omega) (by omega), e 10 (by omega) (by omega), e 11 (by omega) (by omega), e 12 (by omega) (by omega)]
    exact hA
  · unfold SC at *
    rw [e 8 (by omega) (by omega), e 13 (by omega) (by omega), e 14 (by omega) (by omega)]
    exact hS
  · unfold RC at *
    rw [e 15 (by omega) (by omega), e 16 (by omega) (by omega), e 17 (by omega) (by omega), e 18 (by omega) (by omega), e 19 (by omega) (by omega), e 20 (by omega) (by omega), e 21 (by omega) (by omega), e 22 (by omega) (by omega)]
    exact hC
  · unfold LN at *
    rw [e 15 (by omega) (by omega), e 23 (by omega) (by omega), e 24 (by omega) (by omega), e 25 (by omega) (by omega), e 26 (by omega) (by omega), e 27 (by omega) (by omega)]
    exact hN
  · unfold XC at *
    rw [e 28 (by omega) (by omega), e 29 (by omega) (by omega), e 30 (by omega) (by omega), e 31 (by omega) (by omega), e 32 (by omega) (by omega)]
    exact hX
  · unfold ShC ZC at *
    rw [e 34 (by omega) (by omega), e 35 (by omega) (by omega), e 36 (by omega) (by omega)]
    exact hH
theorem Fc.hi {R : List Nat} {F : List (Nat × Nat)} {w w2 : eW} (h : Fc R F w w2) (hR : ∀ a ∈ R, a < 37 ∨ (47 < a ∧ a < 102)) (hF : F.all (fun p => decide (p.1 < 37) || (decide (47 < p.1) && decide (p.1 < 102))) = true) : Hi w w2 := fun a ha => by
  funext k
  exact h a k (fun h9 => by have := hR a h9; omega) (fun h9 => by
    have := List.all_eq_true.mp hF _ h9
    simp at this
    omega)
theorem Fc.lok {R : List Nat} {F : List (Nat × Nat)} {w w2 : eW} (h : Fc R F w w2) (hR : ∀ a ∈ R, okRow a = true) (hF : F.all (fun p => p.1 == 2 || p.1 == 48 || p.1 == 53 || p.1 == 58 || p.1 == 61 || p.1 == 1) = true) : LoK w w2 := fun a _ h2 h3 h4 h5 h6 h7 h8 => by
  funext k
  exact h a k (fun h9 => by have := hR a h9; rw [h2] at this; cases this) (fun h9 => by
    have := List.all_eq_true.mp hF _ h9
    simp at this
    omega)
theorem LoK.tr {w a b : eW} (h : LoK w a) (h2 : LoK a b) : LoK w b := fun q h3 h4 h5 h6 h7 h8 h9 h10 => by rw [h2 q h3 h4 h5 h6 h7 h8 h9 h10, h q h3 h4 h5 h6 h7 h8 h9 h10]
theorem Lo.lok {w w2 : eW} (h : Lo w w2) : LoK w w2 := fun q h3 _ _ _ _ _ _ _ => h q h3
theorem LoX.lok {A : Nat} {w w2 : eW} (h : LoX A w w2) (hA : okRow A = true) : LoK w w2 := fun q h3 h4 _ _ _ _ _ _ => h q h3 (fun h9 => by rw [h9, hA] at h4; cases h4)
theorem pth_len {m : eW} {lu ll : Nat → Int} {nu nl : Nat} : ∀ (f i j a b c : Nat), (pth m lu nu ll nl f i j a b c).length ≤ f := by
  intro f
  induction f with
  | zero => intro i j a b c; exact Nat.le_refl _
  | succ f ih =>
    intro i j a b c
    unfold pth
    split
    · exact Nat.zero_le _
    · rw [List.length_cons]
      have := ih ((upT m lu nu i (frs m lu nu ll nl i j a b c)).getD 0) ((loT m ll nl j (frs m lu nu ll nl i j a b c)).getD 0) b c (frs m lu nu ll nl i j a b c)
      omega
theorem cL_fin {m : eW} (hr : WFr m) {lu ll : Nat → Int} {nu nl : Nat} : ∀ (f i j a b c : Nat), cL m lu nu ll nl f i j a b c ≤ 8 * f ∨ cL m lu nu ll nl f i j a b c = 1000000 := by
  have hn := hr.n.2
  intro f
  induction f with
  | zero => intro i j a b c; exact Or.inr rfl
  | succ f ih =>
    intro i j a b c
    have hX : (if i = nu ∧ j = nl then brs m (-1) a b c 16 else 1000000) ≤ 8 ∨ (if i = nu ∧ j = nl then brs m (-1) a b c 16 else 1000000) = 1000000 := by
      have := brs_le m (-1) a b c 16
      split
      · exact Or.inl (by omega)
      · exact Or.inr rfl
    unfold cL
    generalize (if i = nu ∧ j = nl then brs m (-1) a b c 16 else 1000000) = X at *
    have main : ∀ (G : Nat → Nat) (n : Nat), (∀ d, G d ≤ 8 * (f + 1) ∨ 1000000 ≤ G d) → mn X G n ≤ 8 * (f + 1) ∨ mn X G n = 1000000 := fun G n hG => by
      have hle := mn_le X G n
      rcases mn_is (x := X) (g := G) (n := n) with h | ⟨d, hd, h⟩
      · rw [h]
        rcases hX with h1 | h1
        · exact Or.inl (by omega)
        · exact Or.inr h1
      · have := hG d
        omega
    refine main _ _ (fun d => ?_)
    cases hu : upT m lu nu i d with
    | none => exact Or.inr (Nat.le_refl _)
    | some u =>
      cases hl : loT m ll nl j d with
      | none => exact Or.inr (Nat.le_refl _)
      | some l =>
        dsimp only
        have hb := brs_le m (-1) a b c d
        have := ih u l b c d
        split
        · exact Or.inr (Nat.le_refl _)
        · omega
theorem k_closest {d : Nat} {w : eW} {t : eT} {b : Nat × Nat} {m : eW} {ks : kT} {rl tl : List Int} (h : CI w t b m ks rl tl) (hp : WFp m) (hr : WFr m) (hb : b.2 + 1 < 1000000000) : Cl (d + 34) 148 [rA 1] (enc w t) (AnC w m (b.1, b.2 + 1) (closestK tl m ks) rl [] (0, closestV tl m)) := by
  have lup : ∀ w2, LoK w w2 → ∀ a, 67 ≤ a → a < 101 → w2 a = w a := fun w2 h9 a h1 h2 => h9 a (by omega) (by
    cases h8 : okRow a with
    | false => rfl
    | true => have := okRow_i h8; omega) (by omega) (by omega) (by omega) (by omega) (by omega) (by omega)
  have hDQ := DynP_Q.mp h.2.2.2.2.2
  refine g_cclo (m := m) (b := (b.1, b.2 + 1)) (P := fun _ _ => True) (l1 := match coR tl with | .error _ => [] | .ok y => y.1) (l2 := match coR tl with | .error _ => [] | .ok y => y.2) (tl := tl) (ks := []) (ml := match coR tl with | .error _ => [] | .ok y => nPt m y.1 y.2 13 0 0 (16, 16, 16)) ⟨h.1.1, fun x1 w1 hw1 => ?_⟩
  obtain ⟨f1, T1, q1⟩ := hw1
  unfold closestV closestK
  cases hP : coR tl with
  | error q =>
    rw [hP] at q1
    obtain ⟨rfl, e6⟩ := q1
    have hq := T1.b
    refine ⟨fun _ => ⟨fun _ => ⟨fun _ => ?_, fun h9 => absurd (by decide +kernel) h9⟩, fun h9 => absurd (by rw [w32_id (x := -21 - w1 2 6) (by omega), w32_id (x := 1000) (by decide)]; omega) h9⟩, fun h9 => absurd (by decide +kernel) h9⟩
    dsimp only
    rw [e6]
    obtain ⟨w2, t2, e1, e2, e3, e4⟩ := AnC.clr (v := (0, -21 - (q : Int))) h f1 T1 (by decide) (by decide) (h.2.2.2.1.fc f1 (by decide) (by decide)) (h.2.2.2.2.1.fc f1 (by decide) (by decide))
    exact ⟨w2, t2, e1, e2, e3, e4.le (Nat.le_succ _)⟩
  | ok y =>
    rw [hP] at q1
    obtain ⟨rfl, e8, L6, e9, L7, hl1, hl2, hv1, hv2⟩ := q1
    dsimp only
    -- the book is emptied
    have hD1 : DynQ w1 t b m := hDQ.hi (f1.hi (by decide) (by decide))
    obtain ⟨mc, lo2, _, _⟩ := m_clear (P := PmN m y.1 y.2) hD1 hb
    have ew : wu (wu w1 45 2 (w1 45 2 + 1)) 45 3 0 = clW w1 := rfl
    rw [ew]
    have hA1 : AC w1 m := h.1.2.1.fc f1 (by decide) (by decide)
    have hN1 : LN w1 m := h.2.1.2.fc f1 (by decide) (by decide)
    have hC1 : RC w1 m := h.2.1.1.fc f1 (by decide) (by decide)
    have hNX1 : NX y.1 y.2 m w1 := ⟨⟨hA1, hN1, hC1, hp, hr⟩, ⟨e8, L6, hl1.2, hv1⟩, e9, L7, hl2.2, hv2⟩
    have hNX2 := hNX1.lo lo2
    have hl1' := hl1
    have hl2' := hl2
    refine ⟨fun h9 => absurd h9 (by decide +kernel), fun _ => ⟨⟨hN1.lo lo2, hp, hr⟩, (16, 16, 16), ⟨hNX2, mc, by omega, by omega, rfl, by show (16 : Nat) ≤ 16; decide, by omega, by show y.1.length - 0 + (y.2.length - 0) < 13; omega⟩, fun x4 w5 t6 hz => ?_⟩⟩
    obtain ⟨hx4, mr, mc5⟩ := hz
    have cle : clC m (ltF y.1) y.1.length (ltF y.2) y.2.length 0 0 (16, 16, 16) = min (coN m y) 1000 := rfl
    have hx4' : x4 = ((min (coN m y) 1000 : Nat) : Int) := hx4
    have lo5 : Lo w1 w5 := lo2.tr mr.2.1
    have lk5 : LoK w w5 := (f1.lok (by decide) (by decide)).tr lo5.lok
    have K5 : KC w5 ks := (h.2.2.2.1.fc f1 (by decide) (by decide)).lo lo5
    have T5 : TC w5 tl := T1.lo lo5
    have Tl5 : TlC w5 rl := (h.2.2.2.2.1.fc f1 (by decide) (by decide)).lo lo5
    rw [w32_id (x := x4) (by omega), w32_id (x := 1000) (by decide)]
    have hcoN : coN m y < 1000 ∨ coN m y = 1000000 := by
      rcases cL_fin hr (lu := ltF y.1) (ll := ltF y.2) (nu := y.1.length) (nl := y.2.length) 13 0 0 16 16 16 with h9 | h9
      · exact Or.inl (Nat.lt_of_le_of_lt h9 (by decide))
      · exact Or.inr h9
    refine ⟨fun h1 => ⟨fun h9 => absurd h9 (by decide +kernel), fun _ => ?_⟩, fun h1 => ?_⟩
    · have hlt : coN m y < 1000 := by omega
      rw [if_pos (by omega), if_pos (by omega)]
      have f48 : Fc [] [(48, 4)] w5 (wu w5 48 4 0) := Fc.pf (by decide)
      have hN5 : NX y.1 y.2 m (wu w5 48 4 0) := by
        have := hNX1.lo lo5
        obtain ⟨⟨a1, a2, a3, a4, a5⟩, ⟨b1, b2, b3⟩, c1, c2, c3⟩ := this
        exact ⟨⟨a1.fc f48 (by decide) (by decide), a2.fc f48 (by decide) (by decide), a3.fc f48 (by decide) (by decide), a4, a5⟩, ⟨b1, b2.fr rfl, b3⟩, c1, c2.fr rfl, c3⟩
      refine ⟨⟨hN5, mc5.hi (f48.hi (by decide) (by decide)), by omega, by omega, rfl, by show (16 : Nat) ≤ 16; decide, by omega, ?_, hlt⟩, fun x7 w8 t9 hz => ?_⟩
      · rw [hx4']
        show _ = ((coN m y : Nat) : Int)
        omega
      · obtain ⟨hx7, lx, mc8, h57⟩ := hz
        have plen : (nPt m y.1 y.2 13 0 0 (16, 16, 16)).length ≤ 13 := pth_len 13 0 0 16 16 16
        have K8 : KC w8 [] := ⟨by rw [lx 48 (by omega) (by decide)]; rfl, by decide, fun i hi => absurd hi (Nat.not_lt_zero i)⟩
        refine ⟨⟨⟨by decide, by decide, by decide, by decide⟩, K8, ⟨hx7, plen, plen⟩, h57, by decide⟩, fun w10 hw10 => ?_⟩
        obtain ⟨K10, f10⟩ := hw10
        have fz : Fc [] [(2, 5), (2, 6)] w10 (wu (wu w10 2 5 0) 2 6 0) := Fc.clr (by decide) (by decide)
        have T10 : TC w10 tl := by
          have T8 : TC w8 tl := by
            unfold TC TI at *
            rw [lx 2 (by omega) (by decide), lx 3 (by omega) (by decide)]
            exact T5
          exact T8.fc f10 (by decide) (by decide)
        have Tl10 : TlC w10 rl := by
          have T8 : TlC w8 rl := by
            unfold TlC at *
            rw [lx 1 (by omega) (by decide), lx 66 (by omega) (by decide)]
            exact Tl5
          exact T8.fc f10 (by decide) (by decide)
        have lk : LoK w (wu (wu w10 2 5 0) 2 6 0) := (((lk5.tr (f48.lok (by decide) (by decide))).tr (lx.lok (by decide))).tr (f10.lok (by decide) (by decide))).tr (fz.lok (by decide) (by decide))
        have hDf : DynQ (wu (wu w10 2 5 0) 2 6 0) t9 (b.1, b.2 + 1) m := (mc8.1.hi (f10.hi (by decide) (by decide))).hi (fz.hi (by decide) (by decide))
        have ex : x4 = ((coN m y : Nat) : Int) := by omega
        rw [ex]
        refine ⟨_, t9, rfl, rfl, lup _ lk, h.lok lk hDf T10.nil ?_ (Tl10.fc fz (by decide) (by decide))⟩
        exact K10.fc fz (by decide) (by decide)
    · have hge : ¬ coN m y < 1000000 := by omega
      rw [if_neg hge, if_neg hge]
      have fz : Fc [] [(2, 5), (2, 6)] w5 (wu (wu w5 2 5 0) 2 6 0) := Fc.clr (by decide) (by decide)
      have lk : LoK w (wu (wu w5 2 5 0) 2 6 0) := lk5.tr (fz.lok (by decide) (by decide))
      exact ⟨_, t6, rfl, rfl, lup _ lk, h.lok lk (mc5.1.hi (fz.hi (by decide) (by decide))) T5.nil (K5.fc fz (by decide) (by decide)) (Tl5.fc fz (by decide) (by decide))⟩

