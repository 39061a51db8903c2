/-! The class: how many words. -/
theorem sm_pt (X : Nat → Nat) (t v : Nat) : ∀ n, sm (fun i => X i * (if i = t then v else 0)) n = if t < n then X t * v else 0 := by
  intro n
  induction n with
  | zero => rfl
  | succ n ih =>
    show sm (fun i => X i * (if i = t then v else 0)) n + X n * (if n = t then v else 0) = _
    rw [ih]
    by_cases h : n = t
    · subst h
      rw [if_neg (Nat.lt_irrefl n), if_pos rfl, if_pos (Nat.lt_succ_self n), Nat.zero_add]
    · rw [if_neg h, Nat.mul_zero, Nat.add_zero]
      by_cases h2 : t < n
      · rw [if_pos h2, if_pos (by omega)]
      · rw [if_neg h2, if_neg (by omega)]
theorem sm_ex (X t T : Nat → Nat) (N : Nat) : ∀ k, (∀ e, e < k → t e < N) → sm (fun i => X i * sm (fun e => if i = t e then T e else 0) k) N = sm (fun e => X (t e) * T e) k := by
  intro k
  induction k with
  | zero =>
    intro _
    rw [sm_zero.mpr (fun i _ => by show X i * 0 = 0; rw [Nat.mul_zero])]
    rfl
  | succ k ih =>
    intro h
    have : (fun i => X i * sm (fun e => if i = t e then T e else 0) (k + 1)) = fun i => X i * sm (fun e => if i = t e then T e else 0) k + X i * (if i = t k then T k else 0) := by
      funext i
      show X i * (sm (fun e => if i = t e then T e else 0) k + (if i = t k then T k else 0)) = _
      rw [Nat.mul_add]
    rw [this, sm_add, ih (fun e he => h e (by omega)), sm_pt, if_pos (h k (by omega))]
    rfl
/-- what an entry adds where l letters are to come -/
def wT (m : eW) (nt : Int) (l e : Nat) : Nat := if (e : Int) = nt then 0 else if fmN m e ≤ l then (if m 78 e = -1 then (if fmN m e = l then 1 else 0) else wv m nt (l - fmN m e) (m 78 e).toNat) else 0
def wG (m : eW) (nt : Int) (n j i : Nat) : Nat := if j ≤ i % 7 ∧ i % 7 < n then wv m nt (n - i % 7) (i / 7) else 0
theorem wv_T {m : eW} (he : WFe m) {nt : Int} {l g : Nat} (hl : l ≤ 6) : wv m nt l g = sm (fun e => if m 77 e = (g : Int) then wT m nt l e else 0) (nE m) := by
  rw [wv_eq he hl]
  refine sm_congr (fun e _ => ?_)
  unfold wWg wT
  by_cases h1 : (e : Int) = nt
  · rw [if_pos h1, if_pos h1]; split <;> rfl
  · rw [if_neg h1, if_neg h1]
    by_cases h2 : m 77 e = (g : Int)
    · rw [if_pos h2]
      by_cases h3 : fmN m e ≤ l
      · rw [if_pos ⟨h2, h3⟩, if_pos h3]
      · rw [if_neg (fun h9 => h3 h9.2), if_neg h3]
    · rw [if_neg h2, if_neg (fun h9 => h2 h9.1)]
theorem wv_0 {m : eW} (he : WFe m) {nt : Int} {g : Nat} : wv m nt 0 g = 0 := by
  rw [wv_eq he (by decide)]
  refine sm_zero.mpr (fun e hel => ?_)
  have := he.fm hel
  unfold wWg
  split
  · rfl
  · rw [if_neg (by omega)]
theorem wG_step {m : eW} (he : WFe m) {nt : Int} {n j : Nat} (hn : n ≤ 6) (hj : j < n) (X : Nat → Nat) : ws X (wG m nt n j) 28 = ws X (wG m nt n (j + 1)) 28 + sm (fun e => X (7 * (m 77 e).toNat + j) * wT m nt (n - j) e) (nE m) := by
  have e1 : ∀ i, i < 28 → X i * wG m nt n j i = X i * wG m nt n (j + 1) i + X i * sm (fun e => if i = 7 * (m 77 e).toNat + j then wT m nt (n - j) e else 0) (nE m) := fun i hi => by
    rw [← Nat.mul_add]
    congr 1
    unfold wG
    by_cases h : i % 7 = j
    · rw [if_pos (by omega), if_neg (by omega), Nat.zero_add, h, wv_T he (by omega)]
      refine sm_congr (fun e hel => ?_)
      have hb := (he.2 e hel).1
      by_cases h2 : m 77 e = ((i / 7 : Nat) : Int)
      · rw [if_pos h2, if_pos (by omega)]
      · rw [if_neg h2, if_neg (by omega)]
    · have : sm (fun e => if i = 7 * (m 77 e).toNat + j then wT m nt (n - j) e else 0) (nE m) = 0 := sm_zero.mpr (fun e _ => if_neg (by omega))
      rw [this, Nat.add_zero]
      by_cases h2 : j ≤ i % 7 ∧ i % 7 < n
      · rw [if_pos h2, if_pos (by omega)]
      · rw [if_neg h2, if_neg (by omega)]
  unfold ws
  rw [sm_congr e1, sm_add, sm_ex X (fun e => 7 * (m 77 e).toNat + j) (wT m nt (n - j)) 28 (nE m) (fun e hel => by have := (he.2 e hel).1; show 7 * (m 77 e).toNat + j < 28; omega)]

theorem g_wo {d : Nat} {Q : Option aV → aS → Prop} {w : eW} {t : eT} {n q : Int} {m : eW} (h : (fxA 33 21 28) ∧ (Ev (d + 1) 25 Q 20 [rA 28, (0, n), (0, q), (1, 0), (9, 0), (0, 0), (9, 0), (9, 0), (9, 0), (9, 0)] [] (enc (wu (wfl w 33 28 0) 33 0 1) t))) : Cl (d + 1) 25 [rA 28, (0, n), (0, q)] (enc w t) Q := by
  show Ev (d + 1) 25 Q 0 [rA 28, (0, n), (0, q), (9, 0), (9, 0), (9, 0), (9, 0), (9, 0), (9, 0), (9, 0)] [] (enc w t)
  refine e_lda (v := 28) (show am_cd 25 0 = (2, 1, 0, 2, []) by decide +kernel) rfl ?_
  refine e_getr (a := 28) (r := 33) (show am_cd 25 1 = (18, 4, 304, 2, [24]) by decide +kernel) (by decide +kernel) (by decide +kernel) rfl ?_
  refine e_lc (show am_cd 25 4 = (1, 5, 0, 0, []) by decide +kernel) ?_
  refine e_cS (z := 0) (as := [rA 33, (1, 0)]) (rest := []) (show am_cd 25 5 = (40, 8, 268, 1, [71]) by decide +kernel) (by decide) rfl rfl (Nat.le_of_ble_eq_true rfl) rfl ?_
  refine Cl.mono (Cl.up (c_fillL (d := d) h.1) (by omega)) ?_
  rintro _ _ ⟨rfl, rfl⟩
  refine ⟨fun _ h9 => (by cases h9), ?_⟩
  replace h := h.2
  show Ev _ 25 _ 8 [rA 28, (0, n), (0, q), (9, 0), (9, 0), (9, 0), (9, 0), (9, 0), (9, 0), (9, 0)] [] _
  refine e_lda (v := 28) (show am_cd 25 8 = (2, 9, 0, 2, []) by decide +kernel) rfl ?_
  refine e_getr (a := 28) (r := 33) (show am_cd 25 9 = (18, 12, 304, 2, [24]) by decide +kernel) (by decide +kernel) (by decide +kernel) rfl ?_
  refine e_ic (show am_cd 25 12 = (0, 13, 0, 0, []) by decide +kernel) ?_
  refine e_lc (show am_cd 25 13 = (1, 14, 0, 1, []) by decide +kernel) ?_
  refine e_lastK (a := 33) (n := 28) (j := 0) (show am_cd 25 14 = (25, 15, 0, 0, []) by decide +kernel) (by decide +kernel) (by decide +kernel) (by decide +kernel) (by decide +kernel) (by decide +kernel) ?_
  refine e_lc (show am_cd 25 15 = (1, 16, 0, 0, []) by decide +kernel) ?_
  refine e_stl (la2 := [rA 28, (0, n), (0, q), (1, 0), (9, 0), (9, 0), (9, 0), (9, 0), (9, 0), (9, 0)]) (show am_cd 25 16 = (3, 17, 3, 1, []) by decide +kernel) rfl ?_
  refine e_ic (show am_cd 25 17 = (0, 18, 0, 0, []) by decide +kernel) ?_
  refine e_sti (la2 := [rA 28, (0, n), (0, q), (1, 0), (9, 0), (0, 0), (9, 0), (9, 0), (9, 0), (9, 0)]) (show am_cd 25 18 = (3, 20, 5, 0, []) by decide +kernel) rfl ?_
  exact h

theorem g_wo1 {d : Nat} {Q : Option aV → aS → Prop} {w : eW} {t : eT} {n q s j : Int} {m : eW} {J6 J7 J8 J9 : aV} (h : ((w32 n ≤ w32 j → Q (some (1, s)) (enc w t)) ∧ (¬ (w32 n ≤ w32 j) → Ev (d + 1) 25 Q 29 [rA 28, (0, n), (0, q), (1, s), (9, 0), (0, j), (0, 0), J7, J8, J9] [] (enc w t)))) : Ev (d + 1) 25 Q 20 [rA 28, (0, n), (0, q), (1, s), (9, 0), (0, j), J6, J7, J8, J9] [] (enc w t) := by
  refine e_ldi (show am_cd 25 20 = (2, 22, 5, 0, []) by decide +kernel) rfl ?_
  refine e_ldi (show am_cd 25 22 = (2, 23, 1, 0, []) by decide +kernel) rfl ?_
  refine e_cmp3 (show am_cd 25 23 = (11, 26, 157, 3, []) by decide +kernel) (fun hc => ?_) (fun hc => ?_)
  · replace h := h.1 hc
    refine e_ldl (show am_cd 25 157 = (2, 158, 3, 1, []) by decide +kernel) rfl ?_
    exact e_retl (show am_cd 25 158 = (36, 159, 1, 0, []) by decide +kernel) (by decide +kernel) h
  · replace h := h.2 hc
    refine e_ic (show am_cd 25 26 = (0, 27, 0, 0, []) by decide +kernel) ?_
    refine e_sti (la2 := [rA 28, (0, n), (0, q), (1, s), (9, 0), (0, j), (0, 0), J7, J8, J9]) (show am_cd 25 27 = (3, 29, 6, 0, []) by decide +kernel) rfl ?_
    exact h

theorem g_wo2 {d : Nat} {Q : Option aV → aS → Prop} {w : eW} {t : eT} {n q s j e : Int} {m : eW} {J7 J8 J9 : aV} (h : ((w32 (w 28 8) ≤ w32 e → Ev (d + 1) 25 Q 20 [rA 28, (0, n), (0, q), (1, s), (9, 0), (0, j + 1), (0, e), J7, J8, J9] [] (enc w t)) ∧ (¬ (w32 (w 28 8) ≤ w32 e) → ((¬ w32 e = w32 q → (0 ≤ w32 e ∧ w32 e < 16) ∧ (0 ≤ w32 (((w 29 (w32 e).toNat) * 7) + j) ∧ w32 (((w 29 (w32 e).toNat) * 7) + j) < 28) ∧ (Ev (d + 1) 25 Q 66 [rA 28, (0, n), (0, q), (1, s), (9, 0), (0, j), (0, e), J7, J8, J9] [(1, w 33 (w32 (((w 29 (w32 e).toNat) * 7) + j)).toNat)] (enc w t))) ∧ (¬ (¬ w32 e = w32 q) → Ev (d + 1) 25 Q 66 [rA 28, (0, n), (0, q), (1, s), (9, 0), (0, j), (0, e), J7, J8, J9] [(1, 0)] (enc w t)))))) : Ev (d + 1) 25 Q 29 [rA 28, (0, n), (0, q), (1, s), (9, 0), (0, j), (0, e), J7, J8, J9] [] (enc w t) := by
  refine e_ldi (show am_cd 25 29 = (2, 31, 6, 0, []) by decide +kernel) rfl ?_
  refine e_lda (v := 28) (show am_cd 25 31 = (2, 32, 0, 2, []) by decide +kernel) rfl ?_
  refine e_getf (a := 28) (tg := 0) (show am_cd 25 32 = (18, 35, 308, 0, [40]) by decide +kernel) (by decide +kernel) (by decide +kernel) rfl ?_
  refine e_cmp3 (show am_cd 25 35 = (11, 38, 151, 3, []) by decide +kernel) (fun hc => ?_) (fun hc => ?_)
  · replace h := h.1 hc
    refine e_inc (la2 := [rA 28, (0, n), (0, q), (1, s), (9, 0), (0, j + 1), (0, e), J7, J8, J9]) (show am_cd 25 151 = (4, 154, 5, 1, []) by decide +kernel) rfl rfl ?_
    refine e_go (show am_cd 25 154 = (12, 20, 0, 0, []) by decide +kernel) ?_
    exact h
  · replace h := h.2 hc
    refine e_ldi (show am_cd 25 38 = (2, 40, 6, 0, []) by decide +kernel) rfl ?_
    refine e_ldi (show am_cd 25 40 = (2, 41, 2, 0, []) by decide +kernel) rfl ?_
    refine e_cmp1 (show am_cd 25 41 = (11, 44, 48, 1, []) by decide +kernel) (fun hc => ?_) (fun hc => ?_)
    · replace h := h.1 hc
      refine e_lda (v := 28) (show am_cd 25 48 = (2, 49, 0, 2, []) by decide +kernel) rfl ?_
      refine e_getr (a := 28) (r := 33) (show am_cd 25 49 = (18, 52, 304, 2, [24]) by decide +kernel) (by decide +kernel) (by decide +kernel) rfl ?_
      refine e_lda (v := 28) (show am_cd 25 52 = (2, 53, 0, 2, []) by decide +kernel) rfl ?_
      refine e_getr (a := 28) (r := 29) (show am_cd 25 53 = (18, 56, 300, 2, [9]) by decide +kernel) (by decide +kernel) (by decide +kernel) rfl ?_
      refine e_ldi (show am_cd 25 56 = (2, 58, 6, 0, []) by decide +kernel) rfl ?_
      refine e_iald (a := 29) (n := 16) (show am_cd 25 58 = (21, 59, 0, 0, []) by decide +kernel) (by decide +kernel) (by decide +kernel) (by decide +kernel) h.1 ?_
      replace h := h.2
      refine e_ic (show am_cd 25 59 = (0, 61, 1, 7, []) by decide +kernel) ?_
      refine e_imul (show am_cd 25 61 = (5, 62, 2, 0, []) by decide +kernel) ?_
      refine e_ldi (show am_cd 25 62 = (2, 64, 5, 0, []) by decide +kernel) rfl ?_
      refine e_iadd (show am_cd 25 64 = (5, 65, 0, 0, []) by decide +kernel) ?_
      refine e_lald (a := 33) (n := 28) (show am_cd 25 65 = (22, 66, 0, 0, []) by decide +kernel) (by decide +kernel) (by decide +kernel) (by decide +kernel) h.1 ?_
      replace h := h.2
      exact h
    · replace h := h.2 hc
      refine e_lc (show am_cd 25 44 = (1, 45, 0, 0, []) by decide +kernel) ?_
      refine e_go (show am_cd 25 45 = (12, 66, 0, 0, []) by decide +kernel) ?_
      exact h

theorem g_wo3 {d : Nat} {Q : Option aV → aS → Prop} {w : eW} {t : eT} {n q s j e v : Int} {m : eW} {J7 J8 J9 : aV} (h : (0 ≤ w32 e ∧ w32 e < 16) ∧ (0 ≤ w32 e ∧ w32 e < 16) ∧ ((¬ w32 (w 30 (w32 e).toNat) = w32 (-1) → (0 ≤ w32 e ∧ w32 e < 16) ∧ ((w32 (w 30 (w32 e).toNat) = w32 (-1) → Ev (d + 1) 25 Q 29 [rA 28, (0, n), (0, q), (1, s), (9, 0), (0, j), (0, e + 1), (1, v), (9, 0), (0, j + (w 31 (w32 e).toNat))] [] (enc w t)) ∧ (¬ (w32 (w 30 (w32 e).toNat) = w32 (-1)) → ((w32 n ≤ w32 (j + (w 31 (w32 e).toNat)) → Ev (d + 1) 25 Q 29 [rA 28, (0, n), (0, q), (1, s), (9, 0), (0, j), (0, e + 1), (1, v), (9, 0), (0, j + (w 31 (w32 e).toNat))] [] (enc w t)) ∧ (¬ (w32 n ≤ w32 (j + (w 31 (w32 e).toNat))) → (0 ≤ w32 e ∧ w32 e < 16) ∧ (0 ≤ w32 (((w 30 (w32 e).toNat) * 7) + (j + (w 31 (w32 e).toNat))) ∧ w32 (((w 30 (w32 e).toNat) * 7) + (j + (w 31 (w32 e).toNat))) < 28) ∧ (0 ≤ w32 (((w 30 (w32 e).toNat) * 7) + (j + (w 31 (w32 e).toNat))) ∧ w32 (((w 30 (w32 e).toNat) * 7) + (j + (w 31 (w32 e).toNat))) < 28) ∧ (Ev (d + 1) 25 Q 29 [rA 28, (0, n), (0, q), (1, s), (9, 0), (0, j), (0, e + 1), (1, v), (9, 0), (0, j + (w 31 (w32 e).toNat))] [] (enc (wu w 33 (w32 (((w 30 (w32 e).toNat) * 7) + (j + (w 31 (w32 e).toNat)))).toNat ((w 33 (w32 (((w 30 (w32 e).toNat) * 7) + (j + (w 31 (w32 e).toNat)))).toNat) + v)) t))))))) ∧ (¬ (¬ w32 (w 30 (w32 e).toNat) = w32 (-1)) → ((¬ w32 (j + (w 31 (w32 e).toNat)) = w32 n → (0 ≤ w32 e ∧ w32 e < 16) ∧ ((w32 (w 30 (w32 e).toNat) = w32 (-1) → Ev (d + 1) 25 Q 29 [rA 28, (0, n), (0, q), (1, s), (9, 0), (0, j), (0, e + 1), (1, v), (9, 0), (0, j + (w 31 (w32 e).toNat))] [] (enc w t)) ∧ (¬ (w32 (w 30 (w32 e).toNat) = w32 (-1)) → ((w32 n ≤ w32 (j + (w 31 (w32 e).toNat)) → Ev (d + 1) 25 Q 29 [rA 28, (0, n), (0, q), (1, s), (9, 0), (0, j), (0, e + 1), (1, v), (9, 0), (0, j + (w 31 (w32 e).toNat))] [] (enc w t)) ∧ (¬ (w32 n ≤ w32 (j + (w 31 (w32 e).toNat))) → (0 ≤ w32 e ∧ w32 e < 16) ∧ (0 ≤ w32 (((w 30 (w32 e).toNat) * 7) + (j + (w 31 (w32 e).toNat))) ∧ w32 (((w 30 (w32 e).toNat) * 7) + (j + (w 31 (w32 e).toNat))) < 28) ∧ (0 ≤ w32 (((w 30 (w32 e).toNat) * 7) + (j + (w 31 (w32 e).toNat))) ∧ w32 (((w 30 (w32 e).toNat) * 7) + (j + (w 31 (w32 e).toNat))) < 28) ∧ (Ev (d + 1) 25 Q 29 [rA 28, (0, n), (0, q), (1, s), (9, 0), (0, j), (0, e + 1), (1, v), (9, 0), (0, j + (w 31 (w32 e).toNat))] [] (enc (wu w 33 (w32 (((w 30 (w32 e).toNat) * 7) + (j + (w 31 (w32 e).toNat)))).toNat ((w 33 (w32 (((w 30 (w32 e).toNat) * 7) + (j + (w 31 (w32 e).toNat)))).toNat) + v)) t))))))) ∧ (¬ (¬ w32 (j + (w 31 (w32 e).toNat)) = w32 n) → Ev (d + 1) 25 Q 29 [rA 28, (0, n), (0, q), (1, s + v), (9, 0), (0, j), (0, e + 1), (1, v), (9, 0), (0, j + (w 31 (w32 e).toNat))] [] (enc w t)))))) : Ev (d + 1) 25 Q 66 [rA 28, (0, n), (0, q), (1, s), (9, 0), (0, j), (0, e), J7, J8, J9] [(1, v)] (enc w t) := by
  refine e_stl (la2 := [rA 28, (0, n), (0, q), (1, s), (9, 0), (0, j), (0, e), (1, v), (9, 0), J9]) (show am_cd 25 66 = (3, 68, 7, 1, []) by decide +kernel) rfl ?_
  refine e_ldi (show am_cd 25 68 = (2, 70, 5, 0, []) by decide +kernel) rfl ?_
  refine e_lda (v := 28) (show am_cd 25 70 = (2, 71, 0, 2, []) by decide +kernel) rfl ?_
  refine e_getr (a := 28) (r := 31) (show am_cd 25 71 = (18, 74, 302, 2, [18]) by decide +kernel) (by decide +kernel) (by decide +kernel) rfl ?_
  refine e_ldi (show am_cd 25 74 = (2, 76, 6, 0, []) by decide +kernel) rfl ?_
  refine e_iald (a := 31) (n := 16) (show am_cd 25 76 = (21, 77, 0, 0, []) by decide +kernel) (by decide +kernel) (by decide +kernel) (by decide +kernel) h.1 ?_
  replace h := h.2
  refine e_iadd (show am_cd 25 77 = (5, 78, 0, 0, []) by decide +kernel) ?_
  refine e_sti (la2 := [rA 28, (0, n), (0, q), (1, s), (9, 0), (0, j), (0, e), (1, v), (9, 0), (0, j + (w 31 (w32 e).toNat))]) (show am_cd 25 78 = (3, 80, 9, 0, []) by decide +kernel) rfl ?_
  refine e_lda (v := 28) (show am_cd 25 80 = (2, 81, 0, 2, []) by decide +kernel) rfl ?_
  refine e_getr (a := 28) (r := 30) (show am_cd 25 81 = (18, 84, 301, 2, [15]) by decide +kernel) (by decide +kernel) (by decide +kernel) rfl ?_
  refine e_ldi (show am_cd 25 84 = (2, 86, 6, 0, []) by decide +kernel) rfl ?_
  refine e_iald (a := 30) (n := 16) (show am_cd 25 86 = (21, 87, 0, 0, []) by decide +kernel) (by decide +kernel) (by decide +kernel) (by decide +kernel) h.1 ?_
  replace h := h.2
  refine e_ic (show am_cd 25 87 = (0, 88, 0, -1, []) by decide +kernel) ?_
  refine e_cmp1 (show am_cd 25 88 = (11, 91, 105, 1, []) by decide +kernel) (fun hc => ?_) (fun hc => ?_)
  · replace h := h.1 hc
    refine e_lda (v := 28) (show am_cd 25 105 = (2, 106, 0, 2, []) by decide +kernel) rfl ?_
    refine e_getr (a := 28) (r := 30) (show am_cd 25 106 = (18, 109, 301, 2, [15]) by decide +kernel) (by decide +kernel) (by decide +kernel) rfl ?_
    refine e_ldi (show am_cd 25 109 = (2, 111, 6, 0, []) by decide +kernel) rfl ?_
    refine e_iald (a := 30) (n := 16) (show am_cd 25 111 = (21, 112, 0, 0, []) by decide +kernel) (by decide +kernel) (by decide +kernel) (by decide +kernel) h.1 ?_
    replace h := h.2
    refine e_ic (show am_cd 25 112 = (0, 113, 0, -1, []) by decide +kernel) ?_
    refine e_cmp0 (show am_cd 25 113 = (11, 116, 145, 0, []) by decide +kernel) (fun hc => ?_) (fun hc => ?_)
    · replace h := h.1 hc
      refine e_inc (la2 := [rA 28, (0, n), (0, q), (1, s), (9, 0), (0, j), (0, e + 1), (1, v), (9, 0), (0, j + (w 31 (w32 e).toNat))]) (show am_cd 25 145 = (4, 148, 6, 1, []) by decide +kernel) rfl rfl ?_
      refine e_go (show am_cd 25 148 = (12, 29, 0, 0, []) by decide +kernel) ?_
      exact h
    · replace h := h.2 hc
      refine e_ldi (show am_cd 25 116 = (2, 118, 9, 0, []) by decide +kernel) rfl ?_
      refine e_ldi (show am_cd 25 118 = (2, 119, 1, 0, []) by decide +kernel) rfl ?_
      refine e_cmp3 (show am_cd 25 119 = (11, 122, 145, 3, []) by decide +kernel) (fun hc => ?_) (fun hc => ?_)
      · replace h := h.1 hc
        refine e_inc (la2 := [rA 28, (0, n), (0, q), (1, s), (9, 0), (0, j), (0, e + 1), (1, v), (9, 0), (0, j + (w 31 (w32 e).toNat))]) (show am_cd 25 145 = (4, 148, 6, 1, []) by decide +kernel) rfl rfl ?_
        refine e_go (show am_cd 25 148 = (12, 29, 0, 0, []) by decide +kernel) ?_
        exact h
      · replace h := h.2 hc
        refine e_lda (v := 28) (show am_cd 25 122 = (2, 123, 0, 2, []) by decide +kernel) rfl ?_
        refine e_getr (a := 28) (r := 33) (show am_cd 25 123 = (18, 126, 304, 2, [24]) by decide +kernel) (by decide +kernel) (by decide +kernel) rfl ?_
        refine e_lda (v := 28) (show am_cd 25 126 = (2, 127, 0, 2, []) by decide +kernel) rfl ?_
        refine e_getr (a := 28) (r := 30) (show am_cd 25 127 = (18, 130, 301, 2, [15]) by decide +kernel) (by decide +kernel) (by decide +kernel) rfl ?_
        refine e_ldi (show am_cd 25 130 = (2, 132, 6, 0, []) by decide +kernel) rfl ?_
        refine e_iald (a := 30) (n := 16) (show am_cd 25 132 = (21, 133, 0, 0, []) by decide +kernel) (by decide +kernel) (by decide +kernel) (by decide +kernel) h.1 ?_
        replace h := h.2
        refine e_ic (show am_cd 25 133 = (0, 135, 1, 7, []) by decide +kernel) ?_
        refine e_imul (show am_cd 25 135 = (5, 136, 2, 0, []) by decide +kernel) ?_
        refine e_ldi (show am_cd 25 136 = (2, 138, 9, 0, []) by decide +kernel) rfl ?_
        refine e_iadd (show am_cd 25 138 = (5, 139, 0, 0, []) by decide +kernel) ?_
        refine e_dup2 (show am_cd 25 139 = (14, 140, 0, 0, []) by decide +kernel) (by decide) ?_
        refine e_lald (a := 33) (n := 28) (show am_cd 25 140 = (22, 141, 0, 0, []) by decide +kernel) (by decide +kernel) (by decide +kernel) (by decide +kernel) h.1 ?_
        replace h := h.2
        refine e_ldl (show am_cd 25 141 = (2, 143, 7, 1, []) by decide +kernel) rfl ?_
        refine e_ladd (show am_cd 25 143 = (6, 144, 0, 0, []) by decide +kernel) ?_
        refine e_last (a := 33) (n := 28) (show am_cd 25 144 = (25, 145, 0, 0, []) by decide +kernel) (by decide +kernel) (by decide +kernel) (by decide +kernel) h.1 ?_
        replace h := h.2
        refine e_inc (la2 := [rA 28, (0, n), (0, q), (1, s), (9, 0), (0, j), (0, e + 1), (1, v), (9, 0), (0, j + (w 31 (w32 e).toNat))]) (show am_cd 25 145 = (4, 148, 6, 1, []) by decide +kernel) rfl rfl ?_
        refine e_go (show am_cd 25 148 = (12, 29, 0, 0, []) by decide +kernel) ?_
        exact h
  · replace h := h.2 hc
    refine e_ldi (show am_cd 25 91 = (2, 93, 9, 0, []) by decide +kernel) rfl ?_
    refine e_ldi (show am_cd 25 93 = (2, 94, 1, 0, []) by decide +kernel) rfl ?_
    refine e_cmp1 (show am_cd 25 94 = (11, 97, 105, 1, []) by decide +kernel) (fun hc => ?_) (fun hc => ?_)
    · replace h := h.1 hc
      refine e_lda (v := 28) (show am_cd 25 105 = (2, 106, 0, 2, []) by decide +kernel) rfl ?_
      refine e_getr (a := 28) (r := 30) (show am_cd 25 106 = (18, 109, 301, 2, [15]) by decide +kernel) (by decide +kernel) (by decide +kernel) rfl ?_
      refine e_ldi (show am_cd 25 109 = (2, 111, 6, 0, []) by decide +kernel) rfl ?_
      refine e_iald (a := 30) (n := 16) (show am_cd 25 111 = (21, 112, 0, 0, []) by decide +kernel) (by decide +kernel) (by decide +kernel) (by decide +kernel) h.1 ?_
      replace h := h.2
      refine e_ic (show am_cd 25 112 = (0, 113, 0, -1, []) by decide +kernel) ?_
      refine e_cmp0 (show am_cd 25 113 = (11, 116, 145, 0, []) by decide +kernel) (fun hc => ?_) (fun hc => ?_)
      · replace h := h.1 hc
        refine e_inc (la2 := [rA 28, (0, n), (0, q), (1, s), (9, 0), (0, j), (0, e + 1), (1, v), (9, 0), (0, j + (w 31 (w32 e).toNat))]) (show am_cd 25 145 = (4, 148, 6, 1, []) by decide +kernel) rfl rfl ?_
        refine e_go (show am_cd 25 148 = (12, 29, 0, 0, []) by decide +kernel) ?_
        exact h
      · replace h := h.2 hc
        refine e_ldi (show am_cd 25 116 = (2, 118, 9, 0, []) by decide +kernel) rfl ?_
        refine e_ldi (show am_cd 25 118 = (2, 119, 1, 0, []) by decide +kernel) rfl ?_
        refine e_cmp3 (show am_cd 25 119 = (11, 122, 145, 3, []) by decide +kernel) (fun hc => ?_) (fun hc => ?_)
        · replace h := h.1 hc
          refine e_inc (la2 := [rA 28, (0, n), (0, q), (1, s), (9, 0), (0, j), (0, e + 1), (1, v), (9, 0), (0, j + (w 31 (w32 e).toNat))]) (show am_cd 25 145 = (4, 148, 6, 1, []) by decide +kernel) rfl rfl ?_
          refine e_go (show am_cd 25 148 = (12, 29, 0, 0, []) by decide +kernel) ?_
          exact h
        · replace h := h.2 hc
          refine e_lda (v := 28) (show am_cd 25 122 = (2, 123, 0, 2, []) by decide +kernel) rfl ?_
          refine e_getr (a := 28) (r := 33) (show am_cd 25 123 = (18, 126, 304, 2, [24]) by decide +kernel) (by decide +kernel) (by decide +kernel) rfl ?_
          refine e_lda (v := 28) (show am_cd 25 126 = (2, 127, 0, 2, []) by decide +kernel) rfl ?_
          refine e_getr (a := 28) (r := 30) (show am_cd 25 127 = (18, 130, 301, 2, [15]) by decide +kernel) (by decide +kernel) (by decide +kernel) rfl ?_
          refine e_ldi (show am_cd 25 130 = (2, 132, 6, 0, []) by decide +kernel) rfl ?_
          refine e_iald (a := 30) (n := 16) (show am_cd 25 132 = (21, 133, 0, 0, []) by decide +kernel) (by decide +kernel) (by decide +kernel) (by decide +kernel) h.1 ?_
          replace h := h.2
          refine e_ic (show am_cd 25 133 = (0, 135, 1, 7, []) by decide +kernel) ?_
          refine e_imul (show am_cd 25 135 = (5, 136, 2, 0, []) by decide +kernel) ?_
          refine e_ldi (show am_cd 25 136 = (2, 138, 9, 0, []) by decide +kernel) rfl ?_
          refine e_iadd (show am_cd 25 138 = (5, 139, 0, 0, []) by decide +kernel) ?_
          refine e_dup2 (show am_cd 25 139 = (14, 140, 0, 0, []) by decide +kernel) (by decide) ?_
          refine e_lald (a := 33) (n := 28) (show am_cd 25 140 = (22, 141, 0, 0, []) by decide +kernel) (by decide +kernel) (by decide +kernel) (by decide +kernel) h.1 ?_
          replace h := h.2
          refine e_ldl (show am_cd 25 141 = (2, 143, 7, 1, []) by decide +kernel) rfl ?_
          refine e_ladd (show am_cd 25 143 = (6, 144, 0, 0, []) by decide +kernel) ?_
          refine e_last (a := 33) (n := 28) (show am_cd 25 144 = (25, 145, 0, 0, []) by decide +kernel) (by decide +kernel) (by decide +kernel) (by decide +kernel) h.1 ?_
          replace h := h.2
          refine e_inc (la2 := [rA 28, (0, n), (0, q), (1, s), (9, 0), (0, j), (0, e + 1), (1, v), (9, 0), (0, j + (w 31 (w32 e).toNat))]) (show am_cd 25 145 = (4, 148, 6, 1, []) by decide +kernel) rfl rfl ?_
          refine e_go (show am_cd 25 148 = (12, 29, 0, 0, []) by decide +kernel) ?_
          exact h
    · replace h := h.2 hc
      refine e_ldl (show am_cd 25 97 = (2, 98, 3, 1, []) by decide +kernel) rfl ?_
      refine e_ldl (show am_cd 25 98 = (2, 100, 7, 1, []) by decide +kernel) rfl ?_
      refine e_ladd (show am_cd 25 100 = (6, 101, 0, 0, []) by decide +kernel) ?_
      refine e_stl (la2 := [rA 28, (0, n), (0, q), (1, s + v), (9, 0), (0, j), (0, e), (1, v), (9, 0), (0, j + (w 31 (w32 e).toNat))]) (show am_cd 25 101 = (3, 102, 3, 1, []) by decide +kernel) rfl ?_
      refine e_go (show am_cd 25 102 = (12, 145, 0, 0, []) by decide +kernel) ?_
      refine e_inc (la2 := [rA 28, (0, n), (0, q), (1, s + v), (9, 0), (0, j), (0, e + 1), (1, v), (9, 0), (0, j + (w 31 (w32 e).toNat))]) (show am_cd 25 145 = (4, 148, 6, 1, []) by decide +kernel) rfl rfl ?_
      refine e_go (show am_cd 25 148 = (12, 29, 0, 0, []) by decide +kernel) ?_
      exact h

def woI (m : eW) (w0 : eW) (nt : Int) (n j e S : Nat) (X : Nat → Nat) (w : eW) : Prop := Fc [33] [] w0 w ∧ (∀ i, i < 28 → w 33 i = (X i : Int)) ∧ S + ws X (wG m nt n (j + 1)) 28 + sm (fun i => X (7 * (m 77 (e + i)).toNat + j) * wT m nt (n - j) (e + i)) (nE m - e) = wv m nt n 0
theorem c_wo {d n : Nat} {w m : eW} {t : eT} {nt : Int} (hX : XC w m) (he : WFe m) (hn : 1 ≤ n ∧ n ≤ 6) (hnt : okI nt) : Cl (d + 1) 25 [rA 28, (0, (n : Int)), (0, nt)] (enc w t) (fun r S2 => ∃ w2, r = some (1, ((wv m nt n 0 : Nat) : Int)) ∧ S2 = enc w2 t ∧ Fc [33] [] w w2) := by
  have hE := he.n
  have hnt2 : -2147483648 ≤ nt ∧ nt ≤ 2147483647 := hnt
  refine g_wo (m := m) ⟨⟨by decide, by decide, by decide, by decide⟩, ?_⟩
  have main := lq2 (σ := eW × Nat × (Nat → Nat)) (τ := aV × aV × aV × aV) (fun j s J => Ev (d + 1) 25 (fun r S2 => ∃ w2, r = some (1, ((wv m nt n 0 : Nat) : Int)) ∧ S2 = enc w2 t ∧ Fc [33] [] w w2) 20 [rA 28, (0, (n : Int)), (0, nt), (1, (s.2.1 : Int)), (9, 0), (0, (j : Int)), J.1, J.2.1, J.2.2.1, J.2.2.2] [] (enc s.1 t)) (fun j s => Fc [33] [] w s.1 ∧ (∀ i, i < 28 → s.1 33 i = (s.2.2 i : Int)) ∧ s.2.1 + ws s.2.2 (wG m nt n j) 28 = wv m nt n 0) n ?_ ?_ 0 (wu (wfl w 33 28 0) 33 0 1, 0, fun i => if i = 0 then 1 else 0) ((9, 0), (9, 0), (9, 0), (9, 0)) (Nat.zero_le _) ⟨(Fc.wfl (by decide)).tr (Fc.pr (by decide)), fun i hi => ?_, ?_⟩
  · exact main
  · rintro j ⟨w1, S, Y⟩ ⟨J6, J7, J8, J9⟩ hj ⟨f1, f2, f3⟩ hO
    dsimp only at f1 f2 f3 ⊢
    refine g_wo1 (m := m) ⟨fun h9 => absurd h9 (by rw [w32_id (by omega), w32_id (by omega)]; omega), fun _ => ?_⟩
    have inner := lq2 (σ := eW × Nat × (Nat → Nat)) (τ := aV × aV × aV) (fun e s J => Ev (d + 1) 25 (fun r S2 => ∃ w2, r = some (1, ((wv m nt n 0 : Nat) : Int)) ∧ S2 = enc w2 t ∧ Fc [33] [] w w2) 29 [rA 28, (0, (n : Int)), (0, nt), (1, (s.2.1 : Int)), (9, 0), (0, (j : Int)), (0, (e : Int)), J.1, J.2.1, J.2.2] [] (enc s.1 t)) (fun e s => woI m w nt n j e s.2.1 s.2.2 s.1) (nE m) ?_ ?_ 0 (w1, S, Y) (J7, J8, J9) (Nat.zero_le _) ⟨f1, f2, ?_⟩
    · exact inner
    · rintro e ⟨w2, S2, Y2⟩ ⟨K7, K8, K9⟩ hel ⟨g1, g2, g3⟩ hI
      dsimp only at g1 g2 g3 ⊢
      have hX2 : XC w2 m := hX.fc g1 (by decide) (by decide)
      obtain ⟨x1, x2, x3, _⟩ := hX2.2 e hel
      obtain ⟨b1, b2, b3, _⟩ := he.2 e hel
      have hfm := he.fm hel
      obtain ⟨g, hg⟩ : ∃ g : Nat, m 77 e = (g : Int) := ⟨(m 77 e).toNat, by omega⟩
      have hlen : nE m - e = 1 + (nE m - (e + 1)) := by omega
      rw [hlen, sm_split] at g3
      have hfirst : sm (fun i => Y2 (7 * (m 77 (e + i)).toNat + j) * wT m nt (n - j) (e + i)) 1 = Y2 (7 * g + j) * wT m nt (n - j) e := by
        show 0 + Y2 (7 * (m 77 (e + 0)).toNat + j) * wT m nt (n - j) (e + 0) = _
        rw [Nat.zero_add, Nat.add_zero, hg, Int.toNat_natCast]
      rw [hfirst] at g3
      have hrest : (fun i => Y2 (7 * (m 77 (e + (1 + i))).toNat + j) * wT m nt (n - j) (e + (1 + i))) = fun i => Y2 (7 * (m 77 (e + 1 + i)).toNat + j) * wT m nt (n - j) (e + 1 + i) := by
        funext i
        rw [show e + (1 + i) = e + 1 + i by omega]
      rw [hrest] at g3
      -- behind the choice of ways
      have tail : ∀ (v : Nat), v = (if (e : Int) = nt then 0 else Y2 (7 * g + j)) → Ev (d + 1) 25 (fun r S2 => ∃ w2, r = some (1, ((wv m nt n 0 : Nat) : Int)) ∧ S2 = enc w2 t ∧ Fc [33] [] w w2) 66 [rA 28, (0, (n : Int)), (0, nt), (1, (S2 : Int)), (9, 0), (0, (j : Int)), (0, (e : Int)), K7, K8, K9] [(1, (v : Int))] (enc w2 t) := fun v hv => by
        have hprod : Y2 (7 * g + j) * wT m nt (n - j) e = v * (if fmN m e ≤ n - j then (if m 78 e = -1 then (if fmN m e = n - j then 1 else 0) else wv m nt (n - j - fmN m e) (m 78 e).toNat) else 0) := by
          unfold wT
          rw [hv]
          by_cases h9 : (e : Int) = nt
          · rw [if_pos h9, if_pos h9, Nat.mul_zero, Nat.zero_mul]
          · rw [if_neg h9, if_neg h9]
        rw [hprod] at g3
        have same : v * (if fmN m e ≤ n - j then (if m 78 e = -1 then (if fmN m e = n - j then 1 else 0) else wv m nt (n - j - fmN m e) (m 78 e).toNat) else 0) = 0 → ∀ J, Ev (d + 1) 25 (fun r S2 => ∃ w2, r = some (1, ((wv m nt n 0 : Nat) : Int)) ∧ S2 = enc w2 t ∧ Fc [33] [] w w2) 29 [rA 28, (0, (n : Int)), (0, nt), (1, (S2 : Int)), (9, 0), (0, (j : Int)), (0, (e : Int) + 1), (1, (v : Int)), (9, 0), J] [] (enc w2 t) := fun h0 J => hI (w2, S2, Y2) (_, _, _) ⟨g1, g2, by rw [h0] at g3; show S2 + ws Y2 (wG m nt n (j + 1)) 28 + sm (fun i => Y2 (7 * (m 77 (e + 1 + i)).toNat + j) * wT m nt (n - j) (e + 1 + i)) (nE m - (e + 1)) = _; omega⟩
        refine g_wo3 (m := m) ?_
        rw [w32_id (x := (e : Int)) (by omega), Int.toNat_natCast, x2, x3, ← hfm.2.2]
        simp (disch := omega) only [w32_id]
        have ee : (0 : Int) ≤ (e : Int) ∧ (e : Int) < 16 := by omega
        have moreC : ∀ J, ¬ m 78 e = -1 → ((n : Int) ≤ (j : Int) + (fmN m e : Int) → Ev (d + 1) 25 (fun r S2 => ∃ w2, r = some (1, ((wv m nt n 0 : Nat) : Int)) ∧ S2 = enc w2 t ∧ Fc [33] [] w w2) 29 [rA 28, (0, (n : Int)), (0, nt), (1, (S2 : Int)), (9, 0), (0, (j : Int)), (0, (e : Int) + 1), (1, (v : Int)), (9, 0), J] [] (enc w2 t)) := fun J h1 h2 => same (by
          by_cases h3 : fmN m e ≤ n - j
          · rw [if_pos h3, if_neg h1, show n - j - fmN m e = 0 by omega, wv_0 he, Nat.mul_zero]
          · rw [if_neg h3, Nat.mul_zero]) J
        refine ⟨ee, ee, fun h1 => ⟨ee, fun h9 => absurd h9 h1, fun _ => ⟨fun h2 => moreC _ h1 h2, fun h2 => ?_⟩⟩, fun h1 => ?_⟩
        · obtain ⟨x, hx⟩ : ∃ x : Nat, m 78 e = (x : Int) := ⟨(m 78 e).toNat, by omega⟩
          have hx3 : x ≤ 3 := by omega
          rw [hx, show ((x : Int) * 7 + ((j : Int) + (fmN m e : Int))) = ((7 * x + (j + fmN m e) : Nat) : Int) by omega]
          rw [Int.toNat_natCast, g2 _ (by omega)]
          refine ⟨ee, by omega, by omega, ?_⟩
          refine hI (_, S2, updN Y2 (7 * x + (j + fmN m e)) v) (_, _, _) ⟨g1.tr (Fc.pr (by decide)), fun i hi => ?_, ?_⟩
          · show wu w2 33 (7 * x + (j + fmN m e)) _ 33 i = ((updN Y2 (7 * x + (j + fmN m e)) v i : Nat) : Int)
            unfold updN
            by_cases h9 : i = 7 * x + (j + fmN m e)
            · rw [if_pos h9, h9, wu_eq]; omega
            · rw [if_neg h9, wu_nk _ _ h9]; exact g2 i hi
          · show S2 + ws (updN Y2 (7 * x + (j + fmN m e)) v) (wG m nt n (j + 1)) 28 + sm (fun i => updN Y2 (7 * x + (j + fmN m e)) v (7 * (m 77 (e + 1 + i)).toNat + j) * wT m nt (n - j) (e + 1 + i)) (nE m - (e + 1)) = _
            rw [ws_upd _ _ _ _ _ (by omega)]
            have hw : wG m nt n (j + 1) (7 * x + (j + fmN m e)) = wv m nt (n - j - fmN m e) x := by
              unfold wG
              rw [if_pos (by omega), show (7 * x + (j + fmN m e)) % 7 = j + fmN m e by omega, show (7 * x + (j + fmN m e)) / 7 = x by omega, show n - (j + fmN m e) = n - j - fmN m e by omega]
            have hsm : sm (fun i => updN Y2 (7 * x + (j + fmN m e)) v (7 * (m 77 (e + 1 + i)).toNat + j) * wT m nt (n - j) (e + 1 + i)) (nE m - (e + 1)) = sm (fun i => Y2 (7 * (m 77 (e + 1 + i)).toNat + j) * wT m nt (n - j) (e + 1 + i)) (nE m - (e + 1)) := sm_congr (fun i _ => by
              unfold updN
              rw [if_neg (by omega)])
            rw [hw, hsm]
            rw [if_pos (by omega), if_neg h1, hx, Int.toNat_natCast] at g3
            omega
        · have h1' := Classical.not_not.mp h1
          refine ⟨fun h2 => ⟨ee, fun _ => same (by
            by_cases h3 : fmN m e ≤ n - j
            · rw [if_pos h3, if_pos h1', if_neg (by omega), Nat.mul_zero]
            · rw [if_neg h3, Nat.mul_zero]) _, fun h9 => absurd h1' h9⟩, fun h2 => ?_⟩
          refine hI (w2, S2 + v, Y2) (_, _, _) ⟨g1, g2, ?_⟩
          rw [if_pos (by omega), if_pos h1', if_pos (by omega), Nat.mul_one] at g3
          show S2 + v + ws Y2 (wG m nt n (j + 1)) 28 + sm (fun i => Y2 (7 * (m 77 (e + 1 + i)).toNat + j) * wT m nt (n - j) (e + 1 + i)) (nE m - (e + 1)) = _
          omega
      refine g_wo2 (m := m) ?_
      rw [hX2.1, ← hE.1, w32_id (x := (e : Int)) (by omega), Int.toNat_natCast, x1, hg, w32_id (x := (nE m : Int)) (by omega), w32_id (x := nt) (by omega)]
      refine ⟨fun h9 => by omega, fun _ => ⟨fun h1 => ?_, fun h1 => ?_⟩⟩
      · rw [show (g : Int) * 7 + (j : Int) = ((7 * g + j : Nat) : Int) by omega, w32_id (x := ((7 * g + j : Nat) : Int)) (by omega), Int.toNat_natCast, g2 _ (by omega)]
        exact ⟨by omega, by omega, tail _ (by rw [if_neg h1])⟩
      · exact tail 0 (by rw [if_pos (Classical.not_not.mp h1)])
    · rintro ⟨w2, S2, Y2⟩ ⟨K7, K8, K9⟩ ⟨g1, g2, g3⟩
      dsimp only at g1 g2 g3 ⊢
      have hX2 : XC w2 m := hX.fc g1 (by decide) (by decide)
      refine g_wo2 (m := m) ⟨fun _ => hO (w2, S2, Y2) (_, _, _, _) ⟨g1, g2, ?_⟩, fun h9 => absurd (by rw [hX2.1, hE.1]; exact Int.le_refl _) h9⟩
      rw [Nat.sub_self] at g3
      exact g3
    · show S + ws Y (wG m nt n (j + 1)) 28 + sm (fun i => Y (7 * (m 77 (0 + i)).toNat + j) * wT m nt (n - j) (0 + i)) (nE m - 0) = _
      rw [wG_step he hn.2 hj Y] at f3
      simp only [Nat.zero_add, Nat.sub_zero]
      omega
  · rintro ⟨w1, S, Y⟩ ⟨J6, J7, J8, J9⟩ ⟨f1, f2, f3⟩
    dsimp only at f1 f2 f3 ⊢
    have hz : ws Y (wG m nt n n) 28 = 0 := sm_zero.mpr (fun i _ => by unfold wG; rw [if_neg (by omega), Nat.mul_zero])
    rw [hz, Nat.add_zero] at f3
    exact g_wo1 (m := m) ⟨fun _ => ⟨w1, by rw [← f3], rfl, f1⟩, fun h9 => absurd (Int.le_refl _) h9⟩
  · show wu (wfl w 33 28 0) 33 0 1 33 i = (((if i = 0 then 1 else 0 : Nat)) : Int)
    by_cases h9 : i = 0
    · rw [h9, wu_eq]; rfl
    · rw [wu_nk _ _ h9, wfl_at hi, if_neg h9]; rfl
  · show 0 + ws (fun i => if i = 0 then 1 else 0) (wG m nt n 0) 28 = _
    rw [Nat.zero_add]
    have hf : (fun s => (if s = 0 then 1 else 0) * wG m nt n 0 s) = fun s => wG m nt n 0 s * (if s = 0 then 1 else 0) := by funext s; rw [Nat.mul_comm]
    unfold ws
    rw [hf, sm_pt, if_pos (by decide), Nat.mul_one]
    unfold wG
    rw [if_pos (by omega)]
    rfl

