/-! The class: list: regions. -/

theorem g_kw0 {d : Nat} {Q : Option aV → aS → Prop} {w : eW} {t : eT} {n : Int} (h : ((¬ w32 (w 48 4) = 0 → Ev (d + 1) 17 Q 23 [rA 48, rA 55, (0, n), (0, if w32 (if w32 6 < w32 6 then 6 else 6) < w32 n then (if w32 6 < w32 6 then 6 else 6) else n), (0, 0)] [] (enc w t)) ∧ (¬ (¬ w32 (w 48 4) = 0) → Q none (enc w t)))) : Cl (d + 1) 17 [rA 48, rA 55, (0, n)] (enc w t) Q := by
  show Ev (d + 1) 17 Q 0 [rA 48, rA 55, (0, n), (9, 0), (9, 0)] [] (enc w t)
  refine e_lda (v := 48) (show am_cd 17 0 = (2, 1, 0, 2, []) by decide +kernel) rfl ?_
  refine e_getf (a := 48) (tg := 0) (show am_cd 17 1 = (18, 4, 204, 0, [24]) by decide +kernel) (by decide +kernel) (by decide +kernel) rfl ?_
  refine e_if1 (show am_cd 17 4 = (10, 7, 8, 1, []) by decide +kernel) (fun hc => ?_) (fun hc => ?_)
  · replace h := h.1 hc
    refine e_ldi (show am_cd 17 8 = (2, 9, 2, 0, []) by decide +kernel) rfl ?_
    refine e_lda (v := 55) (show am_cd 17 9 = (2, 10, 1, 2, []) by decide +kernel) rfl ?_
    refine e_alen (a := 55) (n := 6) (show am_cd 17 10 = (27, 11, 0, 0, []) by decide +kernel) (by decide +kernel) (by decide +kernel) ?_
    refine e_ic (show am_cd 17 11 = (0, 13, 1, 6, []) by decide +kernel) ?_
    refine e_min (z := 0) (show am_cd 17 13 = (33, 16, 10, 0, [28]) by decide +kernel) (Nat.le_of_ble_eq_true rfl) ?_
    refine e_min (z := 0) (show am_cd 17 16 = (33, 19, 10, 0, [28]) by decide +kernel) (Nat.le_of_ble_eq_true rfl) ?_
    refine e_sti (la2 := [rA 48, rA 55, (0, n), (0, if w32 (if w32 6 < w32 6 then 6 else 6) < w32 n then (if w32 6 < w32 6 then 6 else 6) else n), (9, 0)]) (show am_cd 17 19 = (3, 20, 3, 0, []) by decide +kernel) rfl ?_
    refine e_ic (show am_cd 17 20 = (0, 21, 0, 0, []) by decide +kernel) ?_
    refine e_sti (la2 := [rA 48, rA 55, (0, n), (0, if w32 (if w32 6 < w32 6 then 6 else 6) < w32 n then (if w32 6 < w32 6 then 6 else 6) else n), (0, 0)]) (show am_cd 17 21 = (3, 23, 4, 0, []) by decide +kernel) rfl ?_
    exact h
  · replace h := h.2 hc
    exact e_retv (show am_cd 17 7 = (36, 8, 3, 0, []) by decide +kernel) (by decide +kernel) h

theorem g_kw1 {d : Nat} {Q : Option aV → aS → Prop} {w : eW} {t : eT} {n l k : Int} (h : ((w32 l ≤ w32 k → (0 ≤ w32 ((w 48 4) - 1) ∧ w32 ((w 48 4) - 1) < 20) ∧ (Q none (enc (wu w 50 (w32 ((w 48 4) - 1)).toNat l) t))) ∧ (¬ (w32 l ≤ w32 k) → (0 ≤ w32 k ∧ w32 k < 6) ∧ (0 ≤ w32 ((((w 48 4) - 1) * 6) + k) ∧ w32 ((((w 48 4) - 1) * 6) + k) < 120) ∧ (Ev (d + 1) 17 Q 23 [rA 48, rA 55, (0, n), (0, l), (0, k + 1)] [] (enc (wu w 52 (w32 ((((w 48 4) - 1) * 6) + k)).toNat (w 55 (w32 k).toNat)) t))))) : Ev (d + 1) 17 Q 23 [rA 48, rA 55, (0, n), (0, l), (0, k)] [] (enc w t) := by
  refine e_ldi (show am_cd 17 23 = (2, 25, 4, 0, []) by decide +kernel) rfl ?_
  refine e_ldi (show am_cd 17 25 = (2, 26, 3, 0, []) by decide +kernel) rfl ?_
  refine e_cmp3 (show am_cd 17 26 = (11, 29, 56, 3, []) by decide +kernel) (fun hc => ?_) (fun hc => ?_)
  · replace h := h.1 hc
    refine e_lda (v := 48) (show am_cd 17 56 = (2, 57, 0, 2, []) by decide +kernel) rfl ?_
    refine e_getr (a := 48) (r := 50) (show am_cd 17 57 = (18, 60, 201, 2, [15]) by decide +kernel) (by decide +kernel) (by decide +kernel) rfl ?_
    refine e_lda (v := 48) (show am_cd 17 60 = (2, 61, 0, 2, []) by decide +kernel) rfl ?_
    refine e_getf (a := 48) (tg := 0) (show am_cd 17 61 = (18, 64, 204, 0, [24]) by decide +kernel) (by decide +kernel) (by decide +kernel) rfl ?_
    refine e_ic (show am_cd 17 64 = (0, 65, 0, 1, []) by decide +kernel) ?_
    refine e_isub (show am_cd 17 65 = (5, 66, 1, 0, []) by decide +kernel) ?_
    refine e_ldi (show am_cd 17 66 = (2, 67, 3, 0, []) by decide +kernel) rfl ?_
    refine e_iast (a := 50) (n := 20) (show am_cd 17 67 = (24, 68, 0, 0, []) by decide +kernel) (by decide +kernel) (by decide +kernel) (by decide +kernel) h.1 ?_
    replace h := h.2
    exact e_retv (show am_cd 17 68 = (36, 69, 3, 0, []) by decide +kernel) (by decide +kernel) h
  · replace h := h.2 hc
    refine e_lda (v := 48) (show am_cd 17 29 = (2, 30, 0, 2, []) by decide +kernel) rfl ?_
    refine e_getr (a := 48) (r := 52) (show am_cd 17 30 = (18, 33, 203, 2, [21]) by decide +kernel) (by decide +kernel) (by decide +kernel) rfl ?_
    refine e_lda (v := 48) (show am_cd 17 33 = (2, 34, 0, 2, []) by decide +kernel) rfl ?_
    refine e_getf (a := 48) (tg := 0) (show am_cd 17 34 = (18, 37, 204, 0, [24]) by decide +kernel) (by decide +kernel) (by decide +kernel) rfl ?_
    refine e_ic (show am_cd 17 37 = (0, 38, 0, 1, []) by decide +kernel) ?_
    refine e_isub (show am_cd 17 38 = (5, 39, 1, 0, []) by decide +kernel) ?_
    refine e_ic (show am_cd 17 39 = (0, 41, 1, 6, []) by decide +kernel) ?_
    refine e_imul (show am_cd 17 41 = (5, 42, 2, 0, []) by decide +kernel) ?_
    refine e_ldi (show am_cd 17 42 = (2, 44, 4, 0, []) by decide +kernel) rfl ?_
    refine e_iadd (show am_cd 17 44 = (5, 45, 0, 0, []) by decide +kernel) ?_
    refine e_lda (v := 55) (show am_cd 17 45 = (2, 46, 1, 2, []) by decide +kernel) rfl ?_
    refine e_ldi (show am_cd 17 46 = (2, 48, 4, 0, []) by decide +kernel) rfl ?_
    refine e_iald (a := 55) (n := 6) (show am_cd 17 48 = (21, 49, 0, 0, []) by decide +kernel) (by decide +kernel) (by decide +kernel) (by decide +kernel) h.1 ?_
    replace h := h.2
    refine e_iast (a := 52) (n := 120) (show am_cd 17 49 = (24, 50, 0, 0, []) by decide +kernel) (by decide +kernel) (by decide +kernel) (by decide +kernel) h.1 ?_
    replace h := h.2
    refine e_inc (la2 := [rA 48, rA 55, (0, n), (0, l), (0, k + 1)]) (show am_cd 17 50 = (4, 53, 4, 1, []) by decide +kernel) rfl rfl ?_
    refine e_go (show am_cd 17 53 = (12, 23, 0, 0, []) by decide +kernel) ?_
    exact h

theorem kw_loop {d : Nat} {w : eW} {t : eT} {n : Int} {ks : kT} {ml el : List Nat} (hK : KC w (ks ++ [(ml, [])])) (hl : el.length ≤ 6) (he : ∀ k, k < el.length → w 55 k = ((el.getD k 0 : Nat) : Int)) : ∀ (j k : Nat) (w1 : eW), k + j = el.length → Fc [52] [] w w1 → (∀ q, q < 6 * ks.length → w1 52 q = w 52 q) → (∀ q, q < k → w1 52 (6 * ks.length + q) = ((el.getD q 0 : Nat) : Int)) → Ev (d + 1) 17 (fun r S2 => ∃ w2, r = none ∧ S2 = enc w2 t ∧ KC w2 (ks ++ [(ml, el)]) ∧ Fc [50, 52] [] w w2) 23 [rA 48, rA 55, (0, n), (0, (el.length : Int)), (0, (k : Int))] [] (enc w1 t) := by
  have hlen : (ks ++ [(ml, ([] : List Nat))]).length = ks.length + 1 := by simp
  have hlen2 : (ks ++ [(ml, el)]).length = ks.length + 1 := by simp
  obtain ⟨h1, h2, h3⟩ := hK
  rw [hlen] at h1 h2 h3
  intro j
  induction j with
  | zero =>
    intro k w1 hk f1 f2 f3
    have e48 : w1 48 4 = ((ks.length + 1 : Nat) : Int) := by rw [f1 48 4 (by simp) (by simp)]; exact h1
    refine g_kw1 ?_
    rw [e48, show (((ks.length + 1 : Nat) : Int) - 1) = (ks.length : Int) by omega, w32_id (x := (ks.length : Int)) (by omega), show (k : Int) = (el.length : Int) by omega, Int.toNat_natCast]
    refine ⟨fun _ => ⟨by omega, _, rfl, rfl, ?_, ?_⟩, fun h9 => absurd (Int.le_refl _) h9⟩
    · have eo : ∀ a i, a ≠ 50 → wu w1 50 ks.length (el.length : Int) a i = w1 a i := fun a i h9 => wu_na _ _ h9
      refine ⟨by rw [eo _ _ (by decide), e48, hlen2], by rw [hlen2]; exact h2, fun i hi => ?_⟩
      rw [hlen2] at hi
      have hi3 := h3 i hi
      rw [eo 49 _ (by decide), f1 49 _ (by simp) (by simp)]
      by_cases h9 : i = ks.length
      · subst h9
        rw [kAt_n] at hi3 ⊢
        refine ⟨hi3.1, hl, hi3.2.2.1, fun q hq => ?_, by rw [wu_eq], fun q hq => ?_⟩
        · rw [eo 51 _ (by decide), f1 51 _ (by simp) (by simp)]; exact hi3.2.2.2.1 q hq
        · rw [eo 52 _ (by decide)]; exact f3 q (by have hq : q < el.length := hq; omega)
      · rw [kAt_l (show i < ks.length by omega)] at hi3 ⊢
        refine ⟨hi3.1, hi3.2.1, hi3.2.2.1, fun q hq => ?_, ?_, fun q hq => ?_⟩
        · rw [eo 51 _ (by decide), f1 51 _ (by simp) (by simp)]; exact hi3.2.2.2.1 q hq
        · rw [wu_nk _ _ h9, f1 50 _ (by simp) (by simp)]; exact hi3.2.2.2.2.1
        · rw [eo 52 _ (by decide), f2 _ (by have := hi3.2.1; omega)]; exact hi3.2.2.2.2.2 q hq
    · intro a i ha _
      rw [wu_na _ _ (by intro h9; apply ha; simp [h9])]
      exact f1 a i (by intro h9; apply ha; simp at h9; simp [h9]) (by simp)
  | succ j ih =>
    intro k w1 hk f1 f2 f3
    have e48 : w1 48 4 = ((ks.length + 1 : Nat) : Int) := by rw [f1 48 4 (by simp) (by simp)]; exact h1
    refine g_kw1 ?_
    rw [e48, show (((ks.length + 1 : Nat) : Int) - 1) = (ks.length : Int) by omega, w32_id (x := (k : Int)) (by omega), w32_id (x := (el.length : Int)) (by omega), w32_id (x := (ks.length : Int) * 6 + (k : Int)) (by omega), Int.toNat_natCast, show ((ks.length : Int) * 6 + (k : Int)).toNat = 6 * ks.length + k by omega]
    refine ⟨fun h9 => by omega, fun _ => ⟨by omega, by omega, ?_⟩⟩
    rw [show ((k : Int) + 1) = ((k + 1 : Nat) : Int) by omega]
    refine ih (k + 1) _ (by omega) ?_ ?_ ?_
    · intro a i ha hb
      rw [wu_na _ _ (by intro h9; apply ha; simp [h9])]
      exact f1 a i ha hb
    · intro q hq
      rw [wu_nk _ _ (by omega)]; exact f2 q hq
    · intro q hq
      by_cases h9 : q = k
      · rw [h9, wu_eq, f1 55 _ (by simp) (by simp)]; exact he k (by omega)
      · rw [wu_nk _ _ (by omega)]; exact f3 q (by omega)
theorem c_kaw {d : Nat} {w : eW} {t : eT} {n : Int} {ks : kT} {ml el : List Nat} (h : KC w (ks ++ [(ml, [])]) ∧ (n = (el.length : Int) ∧ el.length ≤ 6) ∧ (∀ k, k < el.length → w 55 k = ((el.getD k 0 : Nat) : Int))) : Cl (d + 1) 17 [rA 48, rA 55, (0, n)] (enc w t) (fun r S2 => ∃ w2, r = none ∧ S2 = enc w2 t ∧ KC w2 (ks ++ [(ml, el)]) ∧ Fc [50, 52] [] w w2) := by
  obtain ⟨hK, ⟨rfl, hl⟩, he⟩ := h
  have hlen : (ks ++ [(ml, ([] : List Nat))]).length = ks.length + 1 := by simp
  have e48 := hK.1
  have h20 := hK.2.1
  rw [hlen] at e48 h20
  refine g_kw0 ?_
  rw [e48, w32_id (x := ((ks.length + 1 : Nat) : Int)) (by omega)]
  refine ⟨fun _ => ?_, fun h9 => absurd (show ¬ (((ks.length + 1 : Nat) : Int) = 0) by omega) h9⟩
  have e6 : (if w32 (if w32 6 < w32 6 then (6 : Int) else 6) < w32 (el.length : Int) then (if w32 6 < w32 6 then (6 : Int) else 6) else (el.length : Int)) = (el.length : Int) := by
    rw [if_neg (show ¬ (w32 6 < w32 6) from Int.lt_irrefl _), w32_id (x := 6) (by omega), w32_id (x := (el.length : Int)) (by omega), if_neg (by omega)]
  rw [e6]
  exact kw_loop hK hl he el.length 0 w (by omega) (fun _ _ _ _ => rfl) (fun _ _ => rfl) (fun q hq => by omega)

theorem g_li0 {d : Nat} {Q : Option aV → aS → Prop} {w : eW} {t : eT} {st sa pd ed : Int} {m : eW} {b : Nat × Nat} {ks : kT} {ml el : List Nat} {γV : Type} {PRV : γV → Int → Int → Int → eW → eT → Prop} {POV : γV → Int → Int → Int → eW → eT → Int → eW → eT → Prop} (hrV : ∀ (g : γV) (a1 a2 a3 : Int) (w : eW) (t : eT), PRV g a1 a2 a3 w t → Cl (d + 41) 105 [rA 53, (0, a1), (0, a2), (0, a3)] (enc w t) (fun r S2 => ∃ x w2 t2, r = some (1, x) ∧ S2 = enc w2 t2 ∧ POV g a1 a2 a3 w t x w2 t2)) (h : ((w32 (w 53 9) ≤ w32 (w 48 4) → Q none (enc w t)) ∧ (¬ (w32 (w 53 9) ≤ w32 (w 48 4)) → ∃ g1, (PRV g1 st sa 0 w t) ∧ (∀ x2 w3 t4, (POV g1 st sa 0 w t x2 w3 t4) → ((¬ w64 x2 = w64 0 → Ev (d + 50) 106 Q 27 [rA 53, (0, st), (0, sa), (0, pd), (0, ed), (9, 0), (9, 0), (9, 0)] [] (enc w3 t4)) ∧ (¬ (¬ w64 x2 = w64 0) → Q none (enc w3 t4))))))) : Cl (d + 50) 106 [rA 53, (0, st), (0, sa), (0, pd), (0, ed)] (enc w t) Q := by
  show Ev (d + 50) 106 Q 0 [rA 53, (0, st), (0, sa), (0, pd), (0, ed), (9, 0), (9, 0), (9, 0)] [] (enc w t)
  refine e_lda (v := 53) (show am_cd 106 0 = (2, 1, 0, 2, []) by decide +kernel) rfl ?_
  refine e_getr (a := 53) (r := 48) (show am_cd 106 1 = (18, 4, 1005, 2, [38]) by decide +kernel) (by decide +kernel) (by decide +kernel) rfl ?_
  refine e_getf (a := 48) (tg := 0) (show am_cd 106 4 = (18, 7, 204, 0, [113]) by decide +kernel) (by decide +kernel) (by decide +kernel) rfl ?_
  refine e_lda (v := 53) (show am_cd 106 7 = (2, 8, 0, 2, []) by decide +kernel) rfl ?_
  refine e_getf (a := 53) (tg := 0) (show am_cd 106 8 = (18, 11, 1009, 0, [46]) by decide +kernel) (by decide +kernel) (by decide +kernel) rfl ?_
  refine e_cmp3 (show am_cd 106 11 = (11, 14, 26, 3, []) by decide +kernel) (fun hc => ?_) (fun hc => ?_)
  · replace h := h.1 hc
    exact e_retv (show am_cd 106 26 = (36, 27, 3, 0, []) by decide +kernel) (by decide +kernel) h
  · replace h := h.2 hc
    refine e_lda (v := 53) (show am_cd 106 14 = (2, 15, 0, 2, []) by decide +kernel) rfl ?_
    refine e_ldi (show am_cd 106 15 = (2, 16, 1, 0, []) by decide +kernel) rfl ?_
    refine e_ldi (show am_cd 106 16 = (2, 17, 2, 0, []) by decide +kernel) rfl ?_
    refine e_ic (show am_cd 106 17 = (0, 18, 0, 0, []) by decide +kernel) ?_
    refine e_cV (z := 0) (a := 53) (as := [(0, st), (0, sa), (0, 0)]) (rest := []) (show am_cd 106 18 = (40, 21, 105, 0, [54]) by decide +kernel) (by decide +kernel) rfl rfl (Nat.le_of_ble_eq_true rfl) rfl ?_
    obtain ⟨g1, h⟩ := h
    refine Cl.mono (Cl.up (hrV g1 _ _ _ _ _ h.1) (by omega)) ?_
    rintro _ _ ⟨x2, w3, t4, rfl, rfl, hp⟩
    refine ⟨fun _ h9 => (by cases h9), ?_⟩
    replace h := h.2 x2 w3 t4 hp
    show Ev _ 106 _ 21 [rA 53, (0, st), (0, sa), (0, pd), (0, ed), (9, 0), (9, 0), (9, 0)] [(1, x2)] _
    refine e_lc (show am_cd 106 21 = (1, 22, 0, 0, []) by decide +kernel) ?_
    refine e_lcb1 (show am_cd 106 22 = (9, 23, 0, 0, []) by decide +kernel) (show am_cd 106 23 = (10, 26, 27, 1, []) by decide +kernel) (fun hc => ?_) (fun hc => ?_)
    · replace h := h.1 hc
      exact h
    · replace h := h.2 hc
      exact e_retv (show am_cd 106 26 = (36, 27, 3, 0, []) by decide +kernel) (by decide +kernel) h

theorem g_li1 {d : Nat} {Q : Option aV → aS → Prop} {w : eW} {t : eT} {st sa pd ed : Int} {m : eW} {b : Nat × Nat} {ks : kT} {ml el : List Nat} {FW : Int → Int} {RW : Int → eW → Prop} (hW : ∀ (a0 : Int) (w : eW) (t : eT), RW a0 w → Cl (d + 8) 107 [rA 53, (0, a0)] (enc w t) (fun r S2 => ∃ x, r = some (0, x) ∧ S2 = enc w t ∧ x = FW a0)) (h : (RW st w) ∧ (∀ x1, (x1 = FW st) → ((w32 x1 = 0 → Ev (d + 50) 106 Q 71 [rA 53, (0, st), (0, sa), (0, pd), (0, ed), (9, 0), (9, 0), (9, 0)] [] (enc w t)) ∧ (¬ (w32 x1 = 0) → ∃ g2, ((RgM w t (w 37 7).toNat ∧ (0 : Int) ≤ sa ∧ (sa : Int) < w 37 7) ∧ mK w sa.toNat = ((kyG m g2 : Nat) : Int)) ∧ (∀ x3, (x3 = bI (isE m (-1) g2.1 g2.2.1 g2.2.2)) → ((w32 x3 = 0 → Ev (d + 50) 106 Q 71 [rA 53, (0, st), (0, sa), (0, pd), (0, ed), (9, 0), (9, 0), (9, 0)] [] (enc w t)) ∧ (¬ (w32 x3 = 0) → (fxA 54 20 13 ∧ KC w ks ∧ (pd = (ml.length : Int) ∧ ml.length ≤ 13 ∧ ml.length ≤ 13) ∧ (∀ k, k < ml.length → w 54 k = ((ml.getD k 0 : Nat) : Int)) ∧ (54 < 48 ∨ 52 < 54)) ∧ (∀ w4, (KC w4 ((ks ++ [(ml, [])]).take 20) ∧ Fc [49, 50, 51] [(48, 4)] w w4) → (KC w4 (ks ++ [(ml, [])]) ∧ (ed = (el.length : Int) ∧ el.length ≤ 6) ∧ (∀ k, k < el.length → w4 55 k = ((el.getD k 0 : Nat) : Int))) ∧ (∀ w5, (KC w5 (ks ++ [(ml, el)]) ∧ Fc [50, 52] [] w4 w5) → Ev (d + 50) 106 Q 71 [rA 53, (0, st), (0, sa), (0, pd), (0, ed), (9, 0), (9, 0), (9, 0)] [] (enc w5 t)))))))))) : Ev (d + 50) 106 Q 27 [rA 53, (0, st), (0, sa), (0, pd), (0, ed), (9, 0), (9, 0), (9, 0)] [] (enc w t) := by
  refine e_lda (v := 53) (show am_cd 106 27 = (2, 28, 0, 2, []) by decide +kernel) rfl ?_
  refine e_ldi (show am_cd 106 28 = (2, 29, 1, 0, []) by decide +kernel) rfl ?_
  refine e_cV (z := 0) (a := 53) (as := [(0, st)]) (rest := []) (show am_cd 106 29 = (40, 32, 107, 0, [77]) by decide +kernel) (by decide +kernel) rfl rfl (Nat.le_of_ble_eq_true rfl) rfl ?_
  refine Cl.mono (Cl.up (hW _ _ _ h.1) (by omega)) ?_
  rintro _ _ ⟨x1, rfl, rfl, hp⟩
  refine ⟨fun _ h9 => (by cases h9), ?_⟩
  replace h := h.2 x1 hp
  show Ev _ 106 _ 32 [rA 53, (0, st), (0, sa), (0, pd), (0, ed), (9, 0), (9, 0), (9, 0)] [(0, x1)] _
  refine e_if0 (show am_cd 106 32 = (10, 35, 71, 0, []) by decide +kernel) (fun hc => ?_) (fun hc => ?_)
  · replace h := h.1 hc
    exact h
  · replace h := h.2 hc
    refine e_lda (v := 53) (show am_cd 106 35 = (2, 36, 0, 2, []) by decide +kernel) rfl ?_
    refine e_getr (a := 53) (r := 37) (show am_cd 106 36 = (18, 39, 1003, 2, [30]) by decide +kernel) (by decide +kernel) (by decide +kernel) rfl ?_
    refine e_ldi (show am_cd 106 39 = (2, 40, 2, 0, []) by decide +kernel) rfl ?_
    refine e_cV (z := 0) (a := 37) (as := [(0, sa)]) (rest := []) (show am_cd 106 40 = (40, 43, 40, 0, [80]) by decide +kernel) (by decide +kernel) rfl rfl (Nat.le_of_ble_eq_true rfl) rfl ?_
    obtain ⟨g2, h⟩ := h
    refine Cl.mono (Cl.up (c_meU (m := m) (d := d) g2 h.1) (by omega)) ?_
    rintro _ _ ⟨x3, rfl, rfl, hp⟩
    refine ⟨fun _ h9 => (by cases h9), ?_⟩
    replace h := h.2 x3 hp
    show Ev _ 106 _ 43 [rA 53, (0, st), (0, sa), (0, pd), (0, ed), (9, 0), (9, 0), (9, 0)] [(0, x3)] _
    refine e_if0 (show am_cd 106 43 = (10, 46, 71, 0, []) by decide +kernel) (fun hc => ?_) (fun hc => ?_)
    · replace h := h.1 hc
      exact h
    · replace h := h.2 hc
      refine e_lda (v := 53) (show am_cd 106 46 = (2, 47, 0, 2, []) by decide +kernel) rfl ?_
      refine e_getr (a := 53) (r := 48) (show am_cd 106 47 = (18, 50, 1005, 2, [38]) by decide +kernel) (by decide +kernel) (by decide +kernel) rfl ?_
      refine e_lda (v := 53) (show am_cd 106 50 = (2, 51, 0, 2, []) by decide +kernel) rfl ?_
      refine e_getr (a := 53) (r := 54) (show am_cd 106 51 = (18, 54, 1006, 2, [11]) by decide +kernel) (by decide +kernel) (by decide +kernel) rfl ?_
      refine e_ldi (show am_cd 106 54 = (2, 55, 3, 0, []) by decide +kernel) rfl ?_
      refine e_cV (z := 0) (a := 48) (as := [rA 54, (0, pd)]) (rest := []) (show am_cd 106 55 = (40, 58, 16, 0, [116]) by decide +kernel) (by decide +kernel) rfl rfl (Nat.le_of_ble_eq_true rfl) rfl ?_
      refine Cl.mono (Cl.up (c_kadd (ks := ks) (ml := ml) (d := d) h.1) (by omega)) ?_
      rintro _ _ ⟨w4, rfl, rfl, hp⟩
      refine ⟨fun _ h9 => (by cases h9), ?_⟩
      replace h := h.2 w4 hp
      show Ev _ 106 _ 58 [rA 53, (0, st), (0, sa), (0, pd), (0, ed), (9, 0), (9, 0), (9, 0)] [] _
      refine e_lda (v := 53) (show am_cd 106 58 = (2, 59, 0, 2, []) by decide +kernel) rfl ?_
      refine e_getr (a := 53) (r := 48) (show am_cd 106 59 = (18, 62, 1005, 2, [38]) by decide +kernel) (by decide +kernel) (by decide +kernel) rfl ?_
      refine e_lda (v := 53) (show am_cd 106 62 = (2, 63, 0, 2, []) by decide +kernel) rfl ?_
      refine e_getr (a := 53) (r := 55) (show am_cd 106 63 = (18, 66, 1007, 2, [15]) by decide +kernel) (by decide +kernel) (by decide +kernel) rfl ?_
      refine e_ldi (show am_cd 106 66 = (2, 68, 4, 0, []) by decide +kernel) rfl ?_
      refine e_cV (z := 0) (a := 48) (as := [rA 55, (0, ed)]) (rest := []) (show am_cd 106 68 = (40, 71, 17, 0, [120]) by decide +kernel) (by decide +kernel) rfl rfl (Nat.le_of_ble_eq_true rfl) rfl ?_
      refine Cl.mono (Cl.up (c_kaw (ks := ks) (ml := ml) (el := el) (d := d) h.1) (by omega)) ?_
      rintro _ _ ⟨w5, rfl, rfl, hp⟩
      refine ⟨fun _ h9 => (by cases h9), ?_⟩
      replace h := h.2 w5 hp
      show Ev _ 106 _ 71 [rA 53, (0, st), (0, sa), (0, pd), (0, ed), (9, 0), (9, 0), (9, 0)] [] _
      exact h

theorem g_li2 {d : Nat} {Q : Option aV → aS → Prop} {w : eW} {t : eT} {st sa pd ed : Int} {m : eW} {b : Nat × Nat} {ks : kT} {ml el : List Nat} {FP : Int → Int} {RP : Int → eW → Prop} (hP : ∀ (a0 : Int) (w : eW) (t : eT), RP a0 w → Cl (d + 8) 108 [rA 53, (0, a0)] (enc w t) (fun r S2 => ∃ x, r = some (0, x) ∧ S2 = enc w t ∧ x = FP a0)) (h : (RP st w) ∧ (∀ x1, (x1 = FP st) → (RgM w t (w 37 7).toNat ∧ (0 : Int) ≤ sa ∧ (sa : Int) < w 37 7) ∧ (∀ x2, (x2 = iand (mK w sa.toNat) 131071) → Ev (d + 50) 106 Q 90 [rA 53, (0, st), (0, sa), (0, pd), (0, ed), (0, iand x1 x2), (0, 0), (9, 0)] [] (enc w t)))) : Ev (d + 50) 106 Q 71 [rA 53, (0, st), (0, sa), (0, pd), (0, ed), (9, 0), (9, 0), (9, 0)] [] (enc w t) := by
  refine e_lda (v := 53) (show am_cd 106 71 = (2, 72, 0, 2, []) by decide +kernel) rfl ?_
  refine e_ldi (show am_cd 106 72 = (2, 73, 1, 0, []) by decide +kernel) rfl ?_
  refine e_cV (z := 0) (a := 53) (as := [(0, st)]) (rest := []) (show am_cd 106 73 = (40, 76, 108, 0, [83]) by decide +kernel) (by decide +kernel) rfl rfl (Nat.le_of_ble_eq_true rfl) rfl ?_
  refine Cl.mono (Cl.up (hP _ _ _ h.1) (by omega)) ?_
  rintro _ _ ⟨x1, rfl, rfl, hp⟩
  refine ⟨fun _ h9 => (by cases h9), ?_⟩
  replace h := h.2 x1 hp
  show Ev _ 106 _ 76 [rA 53, (0, st), (0, sa), (0, pd), (0, ed), (9, 0), (9, 0), (9, 0)] [(0, x1)] _
  refine e_lda (v := 53) (show am_cd 106 76 = (2, 77, 0, 2, []) by decide +kernel) rfl ?_
  refine e_getr (a := 53) (r := 37) (show am_cd 106 77 = (18, 80, 1003, 2, [30]) by decide +kernel) (by decide +kernel) (by decide +kernel) rfl ?_
  refine e_ldi (show am_cd 106 80 = (2, 81, 2, 0, []) by decide +kernel) rfl ?_
  refine e_cV (z := 0) (a := 37) (as := [(0, sa)]) (rest := [(0, x1)]) (show am_cd 106 81 = (40, 84, 39, 0, [87]) by decide +kernel) (by decide +kernel) rfl rfl (Nat.le_of_ble_eq_true rfl) rfl ?_
  refine Cl.mono (Cl.up (c_mfoU (d := d) h.1) (by omega)) ?_
  rintro _ _ ⟨x2, rfl, rfl, hp⟩
  refine ⟨fun _ h9 => (by cases h9), ?_⟩
  replace h := h.2 x2 hp
  show Ev _ 106 _ 84 [rA 53, (0, st), (0, sa), (0, pd), (0, ed), (9, 0), (9, 0), (9, 0)] [(0, x2), (0, x1)] _
  refine e_iand (show am_cd 106 84 = (5, 85, 3, 0, []) by decide +kernel) ?_
  refine e_sti (la2 := [rA 53, (0, st), (0, sa), (0, pd), (0, ed), (0, iand x1 x2), (9, 0), (9, 0)]) (show am_cd 106 85 = (3, 87, 5, 0, []) by decide +kernel) rfl ?_
  refine e_ic (show am_cd 106 87 = (0, 88, 0, 0, []) by decide +kernel) ?_
  refine e_sti (la2 := [rA 53, (0, st), (0, sa), (0, pd), (0, ed), (0, iand x1 x2), (0, 0), (9, 0)]) (show am_cd 106 88 = (3, 90, 6, 0, []) by decide +kernel) rfl ?_
  exact h

theorem g_li3 {d : Nat} {Q : Option aV → aS → Prop} {w : eW} {t : eT} {st sa pd ed ft p : Int} {m : eW} {b : Nat × Nat} {ks : kT} {ml el : List Nat} {FB : Int → Int → Int} {RB : Int → Int → eW → Prop} (hB : ∀ (a0 a1 : Int) (w : eW) (t : eT), RB a0 a1 w → Cl (d + 8) 113 [rA 53, (0, a0), (0, a1)] (enc w t) (fun r S2 => ∃ x, r = some (0, x) ∧ S2 = enc w t ∧ x = FB a0 a1)) {γT : Type} {PRT : γT → Int → Int → Int → Int → eW → eT → Prop} {POT : γT → Int → Int → Int → Int → eW → eT → eW → eT → Prop} (hrT : ∀ (g : γT) (a1 a2 a3 a4 : Int) (w : eW) (t : eT), PRT g a1 a2 a3 a4 w t → Cl (d + 49) 106 [rA 53, (0, a1), (0, a2), (0, a3), (0, a4)] (enc w t) (fun r S2 => ∃ w2 t2, r = none ∧ S2 = enc w2 t2 ∧ POT g a1 a2 a3 a4 w t w2 t2)) (h : ((w32 16 ≤ w32 p → Ev (d + 50) 106 Q 161 [rA 53, (0, st), (0, sa), (0, pd), (0, ed), (0, ft), (0, p), (9, 0)] [] (enc w t)) ∧ (¬ (w32 16 ≤ w32 p) → ((w32 (ishr ft p) = 0 → Ev (d + 50) 106 Q 161 [rA 53, (0, st), (0, sa), (0, pd), (0, ed), (0, ft), (0, p), (9, 0)] [] (enc w t)) ∧ (¬ (w32 (ishr ft p) = 0) → ((w32 (iand (ishr ft p) 1) = 0 → Ev (d + 50) 106 Q 90 [rA 53, (0, st), (0, sa), (0, pd), (0, ed), (0, ft), (0, p + 1), (9, 0)] [] (enc w t)) ∧ (¬ (w32 (iand (ishr ft p) 1) = 0) → ((w32 13 ≤ w32 pd → Ev (d + 50) 106 Q 90 [rA 53, (0, st), (0, sa), (0, pd), (0, ed), (0, ft), (0, p + 1), (9, 0)] [] (enc w t)) ∧ (¬ (w32 13 ≤ w32 pd) → (0 ≤ w32 pd ∧ w32 pd < 13) ∧ (RB st p (wu w 54 (w32 pd).toNat p)) ∧ (∀ x1, (x1 = FB st p) → (RgM (wu w 54 (w32 pd).toNat p) t ((wu w 54 (w32 pd).toNat p) 37 7).toNat ∧ ((0 : Int) ≤ sa ∧ (sa : Int) < (wu w 54 (w32 pd).toNat p) 37 7) ∧ (0 : Int) ≤ p ∧ (p : Int) < 16) ∧ (∀ x2, (x2 = mA (wu w 54 (w32 pd).toNat p) sa.toNat p.toNat) → ∃ g3, (PRT g3 x1 x2 (pd + 1) ed (wu w 54 (w32 pd).toNat p) t) ∧ (∀ w4 t5, (POT g3 x1 x2 (pd + 1) ed (wu w 54 (w32 pd).toNat p) t w4 t5) → Ev (d + 50) 106 Q 90 [rA 53, (0, st), (0, sa), (0, pd), (0, ed), (0, ft), (0, p + 1), (9, 0)] [] (enc w4 t5))))))))))))) : Ev (d + 50) 106 Q 90 [rA 53, (0, st), (0, sa), (0, pd), (0, ed), (0, ft), (0, p), (9, 0)] [] (enc w t) := by
  refine e_ldi (show am_cd 106 90 = (2, 92, 6, 0, []) by decide +kernel) rfl ?_
  refine e_ic (show am_cd 106 92 = (0, 94, 1, 16, []) by decide +kernel) ?_
  refine e_cmp3 (show am_cd 106 94 = (11, 97, 161, 3, []) by decide +kernel) (fun hc => ?_) (fun hc => ?_)
  · replace h := h.1 hc
    exact h
  · replace h := h.2 hc
    refine e_ldi (show am_cd 106 97 = (2, 99, 5, 0, []) by decide +kernel) rfl ?_
    refine e_ldi (show am_cd 106 99 = (2, 101, 6, 0, []) by decide +kernel) rfl ?_
    refine e_ishr (show am_cd 106 101 = (5, 102, 7, 0, []) by decide +kernel) ?_
    refine e_if0 (show am_cd 106 102 = (10, 105, 161, 0, []) by decide +kernel) (fun hc => ?_) (fun hc => ?_)
    · replace h := h.1 hc
      exact h
    · replace h := h.2 hc
      refine e_ldi (show am_cd 106 105 = (2, 107, 5, 0, []) by decide +kernel) rfl ?_
      refine e_ldi (show am_cd 106 107 = (2, 109, 6, 0, []) by decide +kernel) rfl ?_
      refine e_ishr (show am_cd 106 109 = (5, 110, 7, 0, []) by decide +kernel) ?_
      refine e_ic (show am_cd 106 110 = (0, 111, 0, 1, []) by decide +kernel) ?_
      refine e_iand (show am_cd 106 111 = (5, 112, 3, 0, []) by decide +kernel) ?_
      refine e_if0 (show am_cd 106 112 = (10, 115, 155, 0, []) by decide +kernel) (fun hc => ?_) (fun hc => ?_)
      · replace h := h.1 hc
        refine e_inc (la2 := [rA 53, (0, st), (0, sa), (0, pd), (0, ed), (0, ft), (0, p + 1), (9, 0)]) (show am_cd 106 155 = (4, 158, 6, 1, []) by decide +kernel) rfl rfl ?_
        refine e_go (show am_cd 106 158 = (12, 90, 0, 0, []) by decide +kernel) ?_
        exact h
      · replace h := h.2 hc
        refine e_ldi (show am_cd 106 115 = (2, 116, 3, 0, []) by decide +kernel) rfl ?_
        refine e_ic (show am_cd 106 116 = (0, 118, 1, 13, []) by decide +kernel) ?_
        refine e_cmp3 (show am_cd 106 118 = (11, 121, 155, 3, []) by decide +kernel) (fun hc => ?_) (fun hc => ?_)
        · replace h := h.1 hc
          refine e_inc (la2 := [rA 53, (0, st), (0, sa), (0, pd), (0, ed), (0, ft), (0, p + 1), (9, 0)]) (show am_cd 106 155 = (4, 158, 6, 1, []) by decide +kernel) rfl rfl ?_
          refine e_go (show am_cd 106 158 = (12, 90, 0, 0, []) by decide +kernel) ?_
          exact h
        · replace h := h.2 hc
          refine e_lda (v := 53) (show am_cd 106 121 = (2, 122, 0, 2, []) by decide +kernel) rfl ?_
          refine e_getr (a := 53) (r := 54) (show am_cd 106 122 = (18, 125, 1006, 2, [11]) by decide +kernel) (by decide +kernel) (by decide +kernel) rfl ?_
          refine e_ldi (show am_cd 106 125 = (2, 126, 3, 0, []) by decide +kernel) rfl ?_
          refine e_ldi (show am_cd 106 126 = (2, 128, 6, 0, []) by decide +kernel) rfl ?_
          refine e_iast (a := 54) (n := 13) (show am_cd 106 128 = (24, 129, 0, 0, []) by decide +kernel) (by decide +kernel) (by decide +kernel) (by decide +kernel) h.1 ?_
          replace h := h.2
          refine e_lda (v := 53) (show am_cd 106 129 = (2, 130, 0, 2, []) by decide +kernel) rfl ?_
          refine e_lda (v := 53) (show am_cd 106 130 = (2, 131, 0, 2, []) by decide +kernel) rfl ?_
          refine e_ldi (show am_cd 106 131 = (2, 132, 1, 0, []) by decide +kernel) rfl ?_
          refine e_ldi (show am_cd 106 132 = (2, 134, 6, 0, []) by decide +kernel) rfl ?_
          refine e_cV (z := 0) (a := 53) (as := [(0, st), (0, p)]) (rest := [rA 53]) (show am_cd 106 134 = (40, 137, 113, 0, [90]) by decide +kernel) (by decide +kernel) rfl rfl (Nat.le_of_ble_eq_true rfl) rfl ?_
          refine Cl.mono (Cl.up (hB _ _ _ _ h.1) (by omega)) ?_
          rintro _ _ ⟨x1, rfl, rfl, hp⟩
          refine ⟨fun _ h9 => (by cases h9), ?_⟩
          replace h := h.2 x1 hp
          show Ev _ 106 _ 137 [rA 53, (0, st), (0, sa), (0, pd), (0, ed), (0, ft), (0, p), (9, 0)] [(0, x1), rA 53] _
          refine e_lda (v := 53) (show am_cd 106 137 = (2, 138, 0, 2, []) by decide +kernel) rfl ?_
          refine e_getr (a := 53) (r := 37) (show am_cd 106 138 = (18, 141, 1003, 2, [30]) by decide +kernel) (by decide +kernel) (by decide +kernel) rfl ?_
          refine e_ldi (show am_cd 106 141 = (2, 142, 2, 0, []) by decide +kernel) rfl ?_
          refine e_ldi (show am_cd 106 142 = (2, 144, 6, 0, []) by decide +kernel) rfl ?_
          refine e_cV (z := 0) (a := 37) (as := [(0, sa), (0, p)]) (rest := [(0, x1), rA 53]) (show am_cd 106 144 = (40, 147, 41, 0, [94]) by decide +kernel) (by decide +kernel) rfl rfl (Nat.le_of_ble_eq_true rfl) rfl ?_
          refine Cl.mono (Cl.up (c_behU (d := d) h.1) (by omega)) ?_
          rintro _ _ ⟨x2, rfl, rfl, hp⟩
          refine ⟨fun _ h9 => (by cases h9), ?_⟩
          replace h := h.2 x2 hp
          show Ev _ 106 _ 147 [rA 53, (0, st), (0, sa), (0, pd), (0, ed), (0, ft), (0, p), (9, 0)] [(0, x2), (0, x1), rA 53] _
          refine e_ldi (show am_cd 106 147 = (2, 148, 3, 0, []) by decide +kernel) rfl ?_
          refine e_ic (show am_cd 106 148 = (0, 149, 0, 1, []) by decide +kernel) ?_
          refine e_iadd (show am_cd 106 149 = (5, 150, 0, 0, []) by decide +kernel) ?_
          refine e_ldi (show am_cd 106 150 = (2, 152, 4, 0, []) by decide +kernel) rfl ?_
          refine e_cV (z := 0) (a := 53) (as := [(0, x1), (0, x2), (0, pd + 1), (0, ed)]) (rest := []) (show am_cd 106 152 = (40, 155, 106, 0, [58]) by decide +kernel) (by decide +kernel) rfl rfl (Nat.le_of_ble_eq_true rfl) rfl ?_
          obtain ⟨g3, h⟩ := h
          refine Cl.mono (Cl.up (hrT g3 _ _ _ _ _ _ h.1) (by omega)) ?_
          rintro _ _ ⟨w4, t5, rfl, rfl, hp⟩
          refine ⟨fun _ h9 => (by cases h9), ?_⟩
          replace h := h.2 w4 t5 hp
          show Ev _ 106 _ 155 [rA 53, (0, st), (0, sa), (0, pd), (0, ed), (0, ft), (0, p), (9, 0)] [] _
          refine e_inc (la2 := [rA 53, (0, st), (0, sa), (0, pd), (0, ed), (0, ft), (0, p + 1), (9, 0)]) (show am_cd 106 155 = (4, 158, 6, 1, []) by decide +kernel) rfl rfl ?_
          refine e_go (show am_cd 106 158 = (12, 90, 0, 0, []) by decide +kernel) ?_
          exact h

theorem g_li4 {d : Nat} {Q : Option aV → aS → Prop} {w : eW} {t : eT} {st sa pd ed ft p : Int} {m : eW} {b : Nat × Nat} {ks : kT} {ml el : List Nat} {FE : Int → Int} {RE : Int → eW → Prop} (hE : ∀ (a0 : Int) (w : eW) (t : eT), RE a0 w → Cl (d + 8) 115 [rA 53, (0, a0)] (enc w t) (fun r S2 => ∃ x, r = some (0, x) ∧ S2 = enc w t ∧ x = FE a0)) (h : (RE st w) ∧ (∀ x1, (x1 = FE st) → Ev (d + 50) 106 Q 171 [rA 53, (0, st), (0, sa), (0, pd), (0, ed), (0, ft), (0, x1), (0, 0)] [] (enc w t))) : Ev (d + 50) 106 Q 161 [rA 53, (0, st), (0, sa), (0, pd), (0, ed), (0, ft), (0, p), (9, 0)] [] (enc w t) := by
  refine e_lda (v := 53) (show am_cd 106 161 = (2, 162, 0, 2, []) by decide +kernel) rfl ?_
  refine e_ldi (show am_cd 106 162 = (2, 163, 1, 0, []) by decide +kernel) rfl ?_
  refine e_cV (z := 0) (a := 53) (as := [(0, st)]) (rest := []) (show am_cd 106 163 = (40, 166, 115, 0, [97]) by decide +kernel) (by decide +kernel) rfl rfl (Nat.le_of_ble_eq_true rfl) rfl ?_
  refine Cl.mono (Cl.up (hE _ _ _ h.1) (by omega)) ?_
  rintro _ _ ⟨x1, rfl, rfl, hp⟩
  refine ⟨fun _ h9 => (by cases h9), ?_⟩
  replace h := h.2 x1 hp
  show Ev _ 106 _ 166 [rA 53, (0, st), (0, sa), (0, pd), (0, ed), (0, ft), (0, p), (9, 0)] [(0, x1)] _
  refine e_sti (la2 := [rA 53, (0, st), (0, sa), (0, pd), (0, ed), (0, ft), (0, x1), (9, 0)]) (show am_cd 106 166 = (3, 168, 6, 0, []) by decide +kernel) rfl ?_
  refine e_ic (show am_cd 106 168 = (0, 169, 0, 0, []) by decide +kernel) ?_
  refine e_sti (la2 := [rA 53, (0, st), (0, sa), (0, pd), (0, ed), (0, ft), (0, x1), (0, 0)]) (show am_cd 106 169 = (3, 171, 7, 0, []) by decide +kernel) rfl ?_
  exact h

theorem g_li5 {d : Nat} {Q : Option aV → aS → Prop} {w : eW} {t : eT} {st sa pd ed ft ch e : Int} {m : eW} {b : Nat × Nat} {ks : kT} {ml el : List Nat} {FI : Int → Int → Int} {RI : Int → Int → eW → Prop} (hI : ∀ (a0 a1 : Int) (w : eW) (t : eT), RI a0 a1 w → Cl (d + 8) 116 [rA 53, (0, a0), (0, a1)] (enc w t) (fun r S2 => ∃ x, r = some (0, x) ∧ S2 = enc w t ∧ x = FI a0 a1)) {γT : Type} {PRT : γT → Int → Int → Int → Int → eW → eT → Prop} {POT : γT → Int → Int → Int → Int → eW → eT → eW → eT → Prop} (hrT : ∀ (g : γT) (a1 a2 a3 a4 : Int) (w : eW) (t : eT), PRT g a1 a2 a3 a4 w t → Cl (d + 49) 106 [rA 53, (0, a1), (0, a2), (0, a3), (0, a4)] (enc w t) (fun r S2 => ∃ w2 t2, r = none ∧ S2 = enc w2 t2 ∧ POT g a1 a2 a3 a4 w t w2 t2)) (h : ((w32 16 ≤ w32 e → Q none (enc w t)) ∧ (¬ (w32 16 ≤ w32 e) → ((w32 (ishr ch e) = 0 → Q none (enc w t)) ∧ (¬ (w32 (ishr ch e) = 0) → ((w32 (iand (ishr ch e) 1) = 0 → Ev (d + 50) 106 Q 171 [rA 53, (0, st), (0, sa), (0, pd), (0, ed), (0, ft), (0, ch), (0, e + 1)] [] (enc w t)) ∧ (¬ (w32 (iand (ishr ch e) 1) = 0) → ((w32 6 ≤ w32 ed → Ev (d + 50) 106 Q 171 [rA 53, (0, st), (0, sa), (0, pd), (0, ed), (0, ft), (0, ch), (0, e + 1)] [] (enc w t)) ∧ (¬ (w32 6 ≤ w32 ed) → (0 ≤ w32 ed ∧ w32 ed < 6) ∧ (RI st e (wu w 55 (w32 ed).toNat e)) ∧ (∀ x1, (x1 = FI st e) → ∃ g2, (PRT g2 x1 sa pd (ed + 1) (wu w 55 (w32 ed).toNat e) t) ∧ (∀ w3 t4, (POT g2 x1 sa pd (ed + 1) (wu w 55 (w32 ed).toNat e) t w3 t4) → Ev (d + 50) 106 Q 171 [rA 53, (0, st), (0, sa), (0, pd), (0, ed), (0, ft), (0, ch), (0, e + 1)] [] (enc w3 t4)))))))))))) : Ev (d + 50) 106 Q 171 [rA 53, (0, st), (0, sa), (0, pd), (0, ed), (0, ft), (0, ch), (0, e)] [] (enc w t) := by
  refine e_ldi (show am_cd 106 171 = (2, 173, 7, 0, []) by decide +kernel) rfl ?_
  refine e_ic (show am_cd 106 173 = (0, 175, 1, 16, []) by decide +kernel) ?_
  refine e_cmp3 (show am_cd 106 175 = (11, 178, 235, 3, []) by decide +kernel) (fun hc => ?_) (fun hc => ?_)
  · replace h := h.1 hc
    exact e_retv (show am_cd 106 235 = (36, 236, 3, 0, []) by decide +kernel) (by decide +kernel) h
  · replace h := h.2 hc
    refine e_ldi (show am_cd 106 178 = (2, 180, 6, 0, []) by decide +kernel) rfl ?_
    refine e_ldi (show am_cd 106 180 = (2, 182, 7, 0, []) by decide +kernel) rfl ?_
    refine e_ishr (show am_cd 106 182 = (5, 183, 7, 0, []) by decide +kernel) ?_
    refine e_if0 (show am_cd 106 183 = (10, 186, 235, 0, []) by decide +kernel) (fun hc => ?_) (fun hc => ?_)
    · replace h := h.1 hc
      exact e_retv (show am_cd 106 235 = (36, 236, 3, 0, []) by decide +kernel) (by decide +kernel) h
    · replace h := h.2 hc
      refine e_ldi (show am_cd 106 186 = (2, 188, 6, 0, []) by decide +kernel) rfl ?_
      refine e_ldi (show am_cd 106 188 = (2, 190, 7, 0, []) by decide +kernel) rfl ?_
      refine e_ishr (show am_cd 106 190 = (5, 191, 7, 0, []) by decide +kernel) ?_
      refine e_ic (show am_cd 106 191 = (0, 192, 0, 1, []) by decide +kernel) ?_
      refine e_iand (show am_cd 106 192 = (5, 193, 3, 0, []) by decide +kernel) ?_
      refine e_if0 (show am_cd 106 193 = (10, 196, 229, 0, []) by decide +kernel) (fun hc => ?_) (fun hc => ?_)
      · replace h := h.1 hc
        refine e_inc (la2 := [rA 53, (0, st), (0, sa), (0, pd), (0, ed), (0, ft), (0, ch), (0, e + 1)]) (show am_cd 106 229 = (4, 232, 7, 1, []) by decide +kernel) rfl rfl ?_
        refine e_go (show am_cd 106 232 = (12, 171, 0, 0, []) by decide +kernel) ?_
        exact h
      · replace h := h.2 hc
        refine e_ldi (show am_cd 106 196 = (2, 198, 4, 0, []) by decide +kernel) rfl ?_
        refine e_ic (show am_cd 106 198 = (0, 200, 1, 6, []) by decide +kernel) ?_
        refine e_cmp3 (show am_cd 106 200 = (11, 203, 229, 3, []) by decide +kernel) (fun hc => ?_) (fun hc => ?_)
        · replace h := h.1 hc
          refine e_inc (la2 := [rA 53, (0, st), (0, sa), (0, pd), (0, ed), (0, ft), (0, ch), (0, e + 1)]) (show am_cd 106 229 = (4, 232, 7, 1, []) by decide +kernel) rfl rfl ?_
          refine e_go (show am_cd 106 232 = (12, 171, 0, 0, []) by decide +kernel) ?_
          exact h
        · replace h := h.2 hc
          refine e_lda (v := 53) (show am_cd 106 203 = (2, 204, 0, 2, []) by decide +kernel) rfl ?_
          refine e_getr (a := 53) (r := 55) (show am_cd 106 204 = (18, 207, 1007, 2, [15]) by decide +kernel) (by decide +kernel) (by decide +kernel) rfl ?_
          refine e_ldi (show am_cd 106 207 = (2, 209, 4, 0, []) by decide +kernel) rfl ?_
          refine e_ldi (show am_cd 106 209 = (2, 211, 7, 0, []) by decide +kernel) rfl ?_
          refine e_iast (a := 55) (n := 6) (show am_cd 106 211 = (24, 212, 0, 0, []) by decide +kernel) (by decide +kernel) (by decide +kernel) (by decide +kernel) h.1 ?_
          replace h := h.2
          refine e_lda (v := 53) (show am_cd 106 212 = (2, 213, 0, 2, []) by decide +kernel) rfl ?_
          refine e_lda (v := 53) (show am_cd 106 213 = (2, 214, 0, 2, []) by decide +kernel) rfl ?_
          refine e_ldi (show am_cd 106 214 = (2, 215, 1, 0, []) by decide +kernel) rfl ?_
          refine e_ldi (show am_cd 106 215 = (2, 217, 7, 0, []) by decide +kernel) rfl ?_
          refine e_cV (z := 0) (a := 53) (as := [(0, st), (0, e)]) (rest := [rA 53]) (show am_cd 106 217 = (40, 220, 116, 0, [100]) by decide +kernel) (by decide +kernel) rfl rfl (Nat.le_of_ble_eq_true rfl) rfl ?_
          refine Cl.mono (Cl.up (hI _ _ _ _ h.1) (by omega)) ?_
          rintro _ _ ⟨x1, rfl, rfl, hp⟩
          refine ⟨fun _ h9 => (by cases h9), ?_⟩
          replace h := h.2 x1 hp
          show Ev _ 106 _ 220 [rA 53, (0, st), (0, sa), (0, pd), (0, ed), (0, ft), (0, ch), (0, e)] [(0, x1), rA 53] _
          refine e_ldi (show am_cd 106 220 = (2, 221, 2, 0, []) by decide +kernel) rfl ?_
          refine e_ldi (show am_cd 106 221 = (2, 222, 3, 0, []) by decide +kernel) rfl ?_
          refine e_ldi (show am_cd 106 222 = (2, 224, 4, 0, []) by decide +kernel) rfl ?_
          refine e_ic (show am_cd 106 224 = (0, 225, 0, 1, []) by decide +kernel) ?_
          refine e_iadd (show am_cd 106 225 = (5, 226, 0, 0, []) by decide +kernel) ?_
          refine e_cV (z := 0) (a := 53) (as := [(0, x1), (0, sa), (0, pd), (0, ed + 1)]) (rest := []) (show am_cd 106 226 = (40, 229, 106, 0, [58]) by decide +kernel) (by decide +kernel) rfl rfl (Nat.le_of_ble_eq_true rfl) rfl ?_
          obtain ⟨g2, h⟩ := h
          refine Cl.mono (Cl.up (hrT g2 _ _ _ _ _ _ h.1) (by omega)) ?_
          rintro _ _ ⟨w3, t4, rfl, rfl, hp⟩
          refine ⟨fun _ h9 => (by cases h9), ?_⟩
          replace h := h.2 w3 t4 hp
          show Ev _ 106 _ 229 [rA 53, (0, st), (0, sa), (0, pd), (0, ed), (0, ft), (0, ch), (0, e)] [] _
          refine e_inc (la2 := [rA 53, (0, st), (0, sa), (0, pd), (0, ed), (0, ft), (0, ch), (0, e + 1)]) (show am_cd 106 229 = (4, 232, 7, 1, []) by decide +kernel) rfl rfl ?_
          refine e_go (show am_cd 106 232 = (12, 171, 0, 0, []) by decide +kernel) ?_
          exact h

