/-! The model: unlike lower sides. -/
def insC (S : List Int) (x : Int) : List Int := if 200 < S.length then S else if x ∈ S then S else S ++ [x]
theorem insC_full {S : List Int} (h : 200 < S.length) (L : List Int) : L.foldl insC S = S := by
  induction L with
  | nil => rfl
  | cons x L ih =>
    rw [List.foldl_cons]
    have : insC S x = S := if_pos h
    rw [this]
    exact ih
theorem insC_len {S : List Int} (h : S.length ≤ 201) (x : Int) : (insC S x).length ≤ 201 := by
  unfold insC
  split
  · exact h
  · split
    · exact h
    · rw [List.length_append]; simp; omega
theorem insCs_len {S : List Int} (h : S.length ≤ 201) (L : List Int) : (L.foldl insC S).length ≤ 201 := by
  induction L generalizing S with
  | nil => exact h
  | cons x L ih => exact ih (insC_len h x)
def cdF (m : eW) (x : Int) (p : List Nat) : Int := p.foldl (fun c d => if m 69 d = 27 then c else 28 * c + m 69 d + 1) x
def SpM (w : eW) (sl : List Int) : Prop := w 67 51 = (sl.length : Int) ∧ sl.length ≤ 201 ∧ ∀ k, k < sl.length → w 98 k = sl.getD k 0 ∧ 0 ≤ sl.getD k 0 ∧ sl.getD k 0 ≤ 2147483647
def spW (w : eW) (sl : List Int) (x : Int) : eW := if x ∈ sl then w else wu (wu w 98 sl.length x) 67 51 ((sl.length : Int) + 1)
theorem SpM.fr {w w2 : eW} {sl : List Int} (h : SpM w sl) (h0 : w2 67 51 = w 67 51) (h1 : w2 98 = w 98) : SpM w2 sl := by
  unfold SpM at *
  rw [h0, h1]
  exact h
theorem spW_m {w : eW} {sl : List Int} {x : Int} : Fm [98] [51] w (spW w sl x) := by
  unfold spW
  split
  · exact Fm.rf _ _ _
  · exact (Fm.pr (by decide) (by decide)).tr (Fm.pf (by decide))
theorem SpM.add {w : eW} {sl : List Int} {x : Int} (h : SpM w sl) (hl : sl.length ≤ 200) (hx : 0 ≤ x ∧ x ≤ 2147483647) : SpM (spW w sl x) (insC sl x) := by
  unfold spW insC
  rw [if_neg (show ¬ 200 < sl.length by omega)]
  by_cases hin : x ∈ sl
  · rw [if_pos hin, if_pos hin]; exact h
  · rw [if_neg hin, if_neg hin]
    obtain ⟨h1, h2, h3⟩ := h
    refine ⟨?_, by rw [List.length_append]; simp; omega, fun k hk => ?_⟩
    · rw [wu_eq, List.length_append]; simp
    · rw [List.length_append, List.length_singleton] at hk
      rw [wu_row (by decide)]
      by_cases hkl : k = sl.length
      · subst hkl
        rw [wu_eq]
        simp [List.getD_eq_getElem?_getD]
        omega
      · rw [wu_nk _ _ hkl]
        have := h3 k (by omega)
        simp only [List.getD_eq_getElem?_getD, List.getElem?_append_left (show k < sl.length by omega)]
        simp only [List.getD_eq_getElem?_getD] at this
        exact this

theorem g_addsSpelling0 {d : Nat} {Q : Option aV → aS → Prop} {w : eW} {t : eT} {x : Int} (h : Ev (d) 238 Q 2 [rA 67, (0, x), (0, 0)] [] (enc w t)) : Cl (d) 238 [rA 67, (0, x)] (enc w t) Q := by
  show Ev (d) 238 Q 0 [rA 67, (0, x), (9, 0)] [] (enc w t)
  refine e_ic (show am_cd 238 0 = (0, 1, 0, 0, []) by decide +kernel) ?_
  refine e_sti (la2 := [rA 67, (0, x), (0, 0)]) (show am_cd 238 1 = (3, 2, 2, 0, []) by decide +kernel) rfl ?_
  exact h

theorem g_addsSpelling1 {d : Nat} {Q : Option aV → aS → Prop} {w : eW} {t : eT} {x i : Int} (h : ((w32 (w 67 51) ≤ w32 i → (0 ≤ w32 (w 67 51) ∧ w32 (w 67 51) < 201) ∧ (Q none (enc (wu (wu w 98 (w32 (w 67 51)).toNat x) 67 51 ((w 67 51) + 1)) t))) ∧ (¬ (w32 (w 67 51) ≤ w32 i) → (0 ≤ w32 i ∧ w32 i < 201) ∧ ((¬ w32 (w 98 (w32 i).toNat) = w32 x → Ev (d) 238 Q 2 [rA 67, (0, x), (0, i + 1)] [] (enc w t)) ∧ (¬ (¬ w32 (w 98 (w32 i).toNat) = w32 x) → Q none (enc w t)))))) : Ev (d) 238 Q 2 [rA 67, (0, x), (0, i)] [] (enc w t) := by
  refine e_ldi (show am_cd 238 2 = (2, 3, 2, 0, []) by decide +kernel) rfl ?_
  refine e_lda (v := 67) (show am_cd 238 3 = (2, 4, 0, 2, []) by decide +kernel) rfl ?_
  refine e_getf (a := 67) (tg := 0) (show am_cd 238 4 = (18, 7, 1251, 0, [380]) by decide +kernel) (by decide +kernel) (by decide +kernel) rfl ?_
  refine e_cmp3 (show am_cd 238 7 = (11, 10, 27, 3, []) by decide +kernel) (fun hc => ?_) (fun hc => ?_)
  · replace h := h.1 hc
    refine e_lda (v := 67) (show am_cd 238 27 = (2, 28, 0, 2, []) by decide +kernel) rfl ?_
    refine e_getr (a := 67) (r := 98) (show am_cd 238 28 = (18, 31, 1250, 2, [107]) by decide +kernel) (by decide +kernel) (by decide +kernel) rfl ?_
    refine e_lda (v := 67) (show am_cd 238 31 = (2, 32, 0, 2, []) by decide +kernel) rfl ?_
    refine e_getf (a := 67) (tg := 0) (show am_cd 238 32 = (18, 35, 1251, 0, [380]) by decide +kernel) (by decide +kernel) (by decide +kernel) rfl ?_
    refine e_ldi (show am_cd 238 35 = (2, 36, 1, 0, []) by decide +kernel) rfl ?_
    refine e_iast (a := 98) (n := 201) (show am_cd 238 36 = (24, 37, 0, 0, []) by decide +kernel) (by decide +kernel) (by decide +kernel) (by decide +kernel) h.1 ?_
    replace h := h.2
    refine e_lda (v := 67) (show am_cd 238 37 = (2, 38, 0, 2, []) by decide +kernel) rfl ?_
    refine e_dup (show am_cd 238 38 = (13, 39, 0, 0, []) by decide +kernel) (by decide) ?_
    refine e_getfE (a := 67) (tg := 0) (v := w 67 51) (show am_cd 238 39 = (18, 42, 1251, 0, [380]) by decide +kernel) (by decide +kernel) (by decide +kernel) rfl rfl ?_
    refine e_ic (show am_cd 238 42 = (0, 43, 0, 1, []) by decide +kernel) ?_
    refine e_iadd (show am_cd 238 43 = (5, 44, 0, 0, []) by decide +kernel) ?_
    refine e_putf (a := 67) (show am_cd 238 44 = (19, 47, 1251, 0, [380]) by decide +kernel) (by decide +kernel) (by decide +kernel) rfl (fun h9 => absurd h9 (by decide)) (fun h9 => absurd h9 (by decide +kernel)) ?_
    exact e_retv (show am_cd 238 47 = (36, 48, 3, 0, []) by decide +kernel) (by decide +kernel) h
  · replace h := h.2 hc
    refine e_lda (v := 67) (show am_cd 238 10 = (2, 11, 0, 2, []) by decide +kernel) rfl ?_
    refine e_getr (a := 67) (r := 98) (show am_cd 238 11 = (18, 14, 1250, 2, [107]) by decide +kernel) (by decide +kernel) (by decide +kernel) rfl ?_
    refine e_ldi (show am_cd 238 14 = (2, 15, 2, 0, []) by decide +kernel) rfl ?_
    refine e_iald (a := 98) (n := 201) (show am_cd 238 15 = (21, 16, 0, 0, []) by decide +kernel) (by decide +kernel) (by decide +kernel) (by decide +kernel) h.1 ?_
    replace h := h.2
    refine e_ldi (show am_cd 238 16 = (2, 17, 1, 0, []) by decide +kernel) rfl ?_
    refine e_cmp1 (show am_cd 238 17 = (11, 20, 21, 1, []) by decide +kernel) (fun hc => ?_) (fun hc => ?_)
    · replace h := h.1 hc
      refine e_inc (la2 := [rA 67, (0, x), (0, i + 1)]) (show am_cd 238 21 = (4, 24, 2, 1, []) by decide +kernel) rfl rfl ?_
      refine e_go (show am_cd 238 24 = (12, 2, 0, 0, []) by decide +kernel) ?_
      exact h
    · replace h := h.2 hc
      exact e_retv (show am_cd 238 20 = (36, 21, 3, 0, []) by decide +kernel) (by decide +kernel) h

theorem c_addsSpelling {d : Nat} {w : eW} {t : eT} {sl : List Int} {x : Int} (h : SpM w sl ∧ sl.length ≤ 200 ∧ 0 ≤ x ∧ x ≤ 2147483647) : Cl d 238 [rA 67, (0, x)] (enc w t) (fun r S2 => r = none ∧ S2 = enc (spW w sl x) t) := by
  obtain ⟨⟨h1, h2, h3⟩, h4, h5⟩ := h
  refine g_addsSpelling0 ?_
  have main : ∀ i, i ≤ sl.length → (∀ k, k < i → sl.getD k 0 ≠ x) → Ev d 238 (fun r S2 => r = none ∧ S2 = enc (spW w sl x) t) 2 [rA 67, (0, x), (0, (i : Int))] [] (enc w t) := by
    refine lp0 (fun i => (∀ k, k < i → sl.getD k 0 ≠ x) → Ev d 238 (fun r S2 => r = none ∧ S2 = enc (spW w sl x) t) 2 [rA 67, (0, x), (0, (i : Int))] [] (enc w t)) sl.length ?_ ?_
    · intro i hi hE hno
      have hb := h3 i hi
      refine g_addsSpelling1 ?_
      rw [h1]
      simp (disch := omega) only [w32_id, Int.toNat_natCast]
      refine ⟨fun h9 => (by omega), fun _ => ⟨by omega, fun hne => hE (fun k hk => ?_), fun heq => ⟨by trivial, ?_⟩⟩⟩
      · by_cases hki : k = i
        · subst hki; rw [← hb.1]; exact hne
        · exact hno k (by omega)
      · unfold spW
        rw [if_pos]
        have : sl.getD i 0 = x := by rw [← hb.1]; omega
        rw [← this, List.getD_eq_getElem?_getD, List.getElem?_eq_getElem hi]
        exact List.getElem_mem hi
    · intro hno
      refine g_addsSpelling1 ?_
      rw [h1]
      simp (disch := omega) only [w32_id, Int.toNat_natCast]
      refine ⟨fun _ => ⟨by omega, by trivial, ?_⟩, fun h9 => (by omega)⟩
      unfold spW
      rw [if_neg]
      intro hmem
      obtain ⟨k, hk, he⟩ := List.getElem_of_mem hmem
      refine hno k hk ?_
      rw [List.getD_eq_getElem?_getD, List.getElem?_eq_getElem hk]
      exact he
  exact main 0 (Nat.zero_le _) (fun k hk => absurd hk (Nat.not_lt_zero k))
theorem stT_2 {m : eW} {lt : Nat → Int} {n s d k : Nat} (h : stT m 2 lt n s d = some k) : k % 16 = s % 16 + (if m 69 d = 27 then 0 else 1) ∧ k % 16 ≤ 6 := by
  unfold stT at h
  rw [if_neg (by decide)] at h
  split at h
  · cases h
  · by_cases h27 : m 69 d = 27
    · rw [if_neg (show ¬ (2 = 2 ∧ ¬ m 69 d = 27) by omega)] at h
      rw [if_pos h27]
      split at h
      · cases h
      · cases h; omega
    · rw [if_pos (show (2 = 2 ∧ ¬ m 69 d = 27) by omega)] at h
      rw [if_neg h27]
      split at h
      · cases h
      · cases h; omega
def SPR (m : eW) (lt : Nat → Int) (n B : Nat) (g : List Int) (s a b c x : Int) (w : eW) (t : eT) : Prop := WPR m 2 lt n B s a b c w t ∧ SpM w g ∧ g.length ≤ 200 ∧ 0 ≤ x ∧ x < ((28 ^ (s.toNat % 16) : Nat) : Int) ∧ s.toNat % 16 ≤ 6
def SPO (m : eW) (lt : Nat → Int) (n : Nat) (g : List Int) (s a b c x : Int) (w : eW) (t : eT) (w2 : eW) (t2 : eT) : Prop := t2 = t ∧ Fm [92, 93, 98] [38, 51] w w2 ∧ KnW (PmW m 2 lt n) w2 ∧ SpM w2 (((lw m 2 lt n s.toNat a.toNat b.toNat c.toNat).map (cdF m x)).foldl insC g)
theorem p28 {j : Nat} (h : j ≤ 6) : 28 ^ j ≤ 481890304 := by
  have := Nat.pow_le_pow_right (n := 28) (by decide) h
  exact this

theorem g_spellsOut0 {d : Nat} {Q : Option aV → aS → Prop} {w : eW} {t : eT} {s a b c x : Int} {m : eW} {q n : Nat} {lt : Nat → Int} {wo : Int} {J : aV} {sl : List Int} (hw : w32 wo = wo) (h : (TkM w q lt n ∧ (0 ≤ s ∧ s.toNat / 16 ≤ n)) ∧ (((decide (s.toNat / 16 = n)) = false → Ev (d + 21) 239 Q 28 [rA 67, (0, s), (0, a), (0, b), (0, c), (0, x), (0, 0), (9, 0)] [] (enc w t)) ∧ ((decide (s.toNat / 16 = n)) = true → (MG w m ∧ w 67 35 = wo ∧ gE a ∧ gE b ∧ gC m c) ∧ (((isE m wo a.toNat b.toNat c.toNat) = false → Ev (d + 21) 239 Q 28 [rA 67, (0, s), (0, a), (0, b), (0, c), (0, x), (0, 0), (9, 0)] [] (enc w t)) ∧ ((isE m wo a.toNat b.toNat c.toNat) = true → (SpM w sl ∧ sl.length ≤ 200 ∧ 0 ≤ x ∧ x ≤ 2147483647) ∧ (Ev (d + 21) 239 Q 28 [rA 67, (0, s), (0, a), (0, b), (0, c), (0, x), (0, 0), (9, 0)] [] (enc (spW w sl x) t))))))) : Cl (d + 21) 239 [rA 67, (0, s), (0, a), (0, b), (0, c), (0, x)] (enc w t) Q := by
  show Ev (d + 21) 239 Q 0 [rA 67, (0, s), (0, a), (0, b), (0, c), (0, x), (9, 0), (9, 0)] [] (enc w t)
  refine e_lda (v := 67) (show am_cd 239 0 = (2, 1, 0, 2, []) by decide +kernel) rfl ?_
  refine e_ldi (show am_cd 239 1 = (2, 2, 1, 0, []) by decide +kernel) rfl ?_
  refine e_cV (z := 0) (a := 67) (as := [(0, s)]) (rest := []) (show am_cd 239 2 = (40, 5, 231, 0, [360]) by decide +kernel) (by decide +kernel) rfl rfl (Nat.le_of_ble_eq_true rfl) rfl ?_
  refine Cl.mono (Cl.up (c_isThrough (d := d) h.1) (by omega)) ?_
  rintro _ _ ⟨rfl, rfl⟩
  refine ⟨fun _ h9 => (by cases h9), ?_⟩
  replace h := h.2
  show Ev _ 239 _ 5 [rA 67, (0, s), (0, a), (0, b), (0, c), (0, x), (9, 0), (9, 0)] [(0, bI (decide (s.toNat / 16 = n)))] _
  refine e_ifb0 (show am_cd 239 5 = (10, 8, 25, 0, []) by decide +kernel) (fun hc => ?_) (fun hc => ?_)
  · replace h := h.1 hc
    refine e_ic (show am_cd 239 25 = (0, 26, 0, 0, []) by decide +kernel) ?_
    refine e_sti (la2 := [rA 67, (0, s), (0, a), (0, b), (0, c), (0, x), (0, 0), (9, 0)]) (show am_cd 239 26 = (3, 28, 6, 0, []) by decide +kernel) rfl ?_
    exact h
  · replace h := h.2 hc
    refine e_lda (v := 67) (show am_cd 239 8 = (2, 9, 0, 2, []) by decide +kernel) rfl ?_
    refine e_ldi (show am_cd 239 9 = (2, 10, 2, 0, []) by decide +kernel) rfl ?_
    refine e_ldi (show am_cd 239 10 = (2, 11, 3, 0, []) by decide +kernel) rfl ?_
    refine e_ldi (show am_cd 239 11 = (2, 13, 4, 0, []) by decide +kernel) rfl ?_
    refine e_cV (z := 0) (a := 67) (as := [(0, a), (0, b), (0, c)]) (rest := []) (show am_cd 239 13 = (40, 16, 211, 0, [285]) by decide +kernel) (by decide +kernel) rfl rfl (Nat.le_of_ble_eq_true rfl) rfl ?_
    refine Cl.mono (Cl.up (c_isEnd (hw := hw) (d := d) h.1) (by omega)) ?_
    rintro _ _ ⟨rfl, rfl⟩
    refine ⟨fun _ h9 => (by cases h9), ?_⟩
    replace h := h.2
    show Ev _ 239 _ 16 [rA 67, (0, s), (0, a), (0, b), (0, c), (0, x), (9, 0), (9, 0)] [(0, bI (isE m wo a.toNat b.toNat c.toNat))] _
    refine e_ifb0 (show am_cd 239 16 = (10, 19, 25, 0, []) by decide +kernel) (fun hc => ?_) (fun hc => ?_)
    · replace h := h.1 hc
      refine e_ic (show am_cd 239 25 = (0, 26, 0, 0, []) by decide +kernel) ?_
      refine e_sti (la2 := [rA 67, (0, s), (0, a), (0, b), (0, c), (0, x), (0, 0), (9, 0)]) (show am_cd 239 26 = (3, 28, 6, 0, []) by decide +kernel) rfl ?_
      exact h
    · replace h := h.2 hc
      refine e_lda (v := 67) (show am_cd 239 19 = (2, 20, 0, 2, []) by decide +kernel) rfl ?_
      refine e_ldi (show am_cd 239 20 = (2, 22, 5, 0, []) by decide +kernel) rfl ?_
      refine e_cV (z := 0) (a := 67) (as := [(0, x)]) (rest := []) (show am_cd 239 22 = (40, 25, 238, 0, [383]) by decide +kernel) (by decide +kernel) rfl rfl (Nat.le_of_ble_eq_true rfl) rfl ?_
      refine Cl.mono (Cl.up (c_addsSpelling (d := d) h.1) (by omega)) ?_
      rintro _ _ ⟨rfl, rfl⟩
      refine ⟨fun _ h9 => (by cases h9), ?_⟩
      replace h := h.2
      show Ev _ 239 _ 25 [rA 67, (0, s), (0, a), (0, b), (0, c), (0, x), (9, 0), (9, 0)] [] _
      refine e_ic (show am_cd 239 25 = (0, 26, 0, 0, []) by decide +kernel) ?_
      refine e_sti (la2 := [rA 67, (0, s), (0, a), (0, b), (0, c), (0, x), (0, 0), (9, 0)]) (show am_cd 239 26 = (3, 28, 6, 0, []) by decide +kernel) rfl ?_
      exact h

theorem g_spellsOut1 {d : Nat} {Q : Option aV → aS → Prop} {w : eW} {t : eT} {s a b c x i : Int} {m : eW} {q n : Nat} {lt : Nat → Int} {wo : Int} {J : aV} {sl : List Int} (hw : w32 wo = wo) {γS : Type} {PRS : γS → Int → Int → Int → Int → Int → eW → eT → Prop} {POS : γS → Int → Int → Int → Int → Int → eW → eT → eW → eT → Prop} (hrS : ∀ (g : γS) (a1 a2 a3 a4 a5 : Int) (w : eW) (t : eT), PRS g a1 a2 a3 a4 a5 w t → Cl (d + 20) 239 [rA 67, (0, a1), (0, a2), (0, a3), (0, a4), (0, a5)] (enc w t) (fun r S2 => ∃ w2 t2, r = none ∧ S2 = enc w2 t2 ∧ POS g a1 a2 a3 a4 a5 w t w2 t2)) (h : ((w32 (w 67 0) ≤ w32 i → Q none (enc w t)) ∧ (¬ (w32 (w 67 0) ≤ w32 i) → ((w32 200 < w32 (w 67 51) → Q none (enc w t)) ∧ (¬ (w32 200 < w32 (w 67 51)) → (MG w m ∧ TkM w q lt n ∧ (0 ≤ s ∧ s.toNat / 16 ≤ n ∧ s.toNat % 16 ≤ 8) ∧ gP m i) ∧ ((w32 (oI (stT m q lt n s.toNat i.toNat)) = w32 (-1) → Ev (d + 21) 239 Q 28 [rA 67, (0, s), (0, a), (0, b), (0, c), (0, x), (0, i + 1), (0, oI (stT m q lt n s.toNat i.toNat))] [] (enc w t)) ∧ (¬ (w32 (oI (stT m q lt n s.toNat i.toNat)) = w32 (-1)) → (MG w m ∧ w 67 35 = wo ∧ gE a ∧ gE b ∧ gC m c ∧ gC m i) ∧ (((goes m wo a.toNat b.toNat c.toNat i.toNat) = false → Ev (d + 21) 239 Q 28 [rA 67, (0, s), (0, a), (0, b), (0, c), (0, x), (0, i + 1), (0, oI (stT m q lt n s.toNat i.toNat))] [] (enc w t)) ∧ ((goes m wo a.toNat b.toNat c.toNat i.toNat) = true → (WPR m q lt n 14 (oI (stT m q lt n s.toNat i.toNat)) b c i w t) ∧ (∀ x1 w2 t3, (WPO m q lt n (oI (stT m q lt n s.toNat i.toNat)) b c i w t x1 w2 t3) → ((¬ w64 x1 = w64 0 → (0 ≤ w32 i ∧ w32 i < 16) ∧ ((¬ w32 (w2 69 (w32 i).toNat) = w32 27 → (0 ≤ w32 i ∧ w32 i < 16) ∧ (∃ g4, (PRS g4 (oI (stT m q lt n s.toNat i.toNat)) b c i (((28 * x) + (w2 69 (w32 i).toNat)) + 1) w2 t3) ∧ (∀ w5 t6, (POS g4 (oI (stT m q lt n s.toNat i.toNat)) b c i (((28 * x) + (w2 69 (w32 i).toNat)) + 1) w2 t3 w5 t6) → Ev (d + 21) 239 Q 28 [rA 67, (0, s), (0, a), (0, b), (0, c), (0, x), (0, i + 1), (0, oI (stT m q lt n s.toNat i.toNat))] [] (enc w5 t6)))) ∧ (¬ (¬ w32 (w2 69 (w32 i).toNat) = w32 27) → ∃ g7, (PRS g7 (oI (stT m q lt n s.toNat i.toNat)) b c i x w2 t3) ∧ (∀ w8 t9, (POS g7 (oI (stT m q lt n s.toNat i.toNat)) b c i x w2 t3 w8 t9) → Ev (d + 21) 239 Q 28 [rA 67, (0, s), (0, a), (0, b), (0, c), (0, x), (0, i + 1), (0, oI (stT m q lt n s.toNat i.toNat))] [] (enc w8 t9))))) ∧ (¬ (¬ w64 x1 = w64 0) → Ev (d + 21) 239 Q 28 [rA 67, (0, s), (0, a), (0, b), (0, c), (0, x), (0, i + 1), (0, oI (stT m q lt n s.toNat i.toNat))] [] (enc w2 t3))))))))))))) : Ev (d + 21) 239 Q 28 [rA 67, (0, s), (0, a), (0, b), (0, c), (0, x), (0, i), J] [] (enc w t) := by
  refine e_ldi (show am_cd 239 28 = (2, 30, 6, 0, []) by decide +kernel) rfl ?_
  refine e_lda (v := 67) (show am_cd 239 30 = (2, 31, 0, 2, []) by decide +kernel) rfl ?_
  refine e_getf (a := 67) (tg := 0) (show am_cd 239 31 = (18, 34, 1200, 0, [168]) by decide +kernel) (by decide +kernel) (by decide +kernel) rfl ?_
  refine e_cmp3 (show am_cd 239 34 = (11, 37, 143, 3, []) by decide +kernel) (fun hc => ?_) (fun hc => ?_)
  · replace h := h.1 hc
    exact e_retv (show am_cd 239 143 = (36, 144, 3, 0, []) by decide +kernel) (by decide +kernel) h
  · replace h := h.2 hc
    refine e_lda (v := 67) (show am_cd 239 37 = (2, 38, 0, 2, []) by decide +kernel) rfl ?_
    refine e_getf (a := 67) (tg := 0) (show am_cd 239 38 = (18, 41, 1251, 0, [380]) by decide +kernel) (by decide +kernel) (by decide +kernel) rfl ?_
    refine e_ic (show am_cd 239 41 = (0, 44, 2, 200, []) by decide +kernel) ?_
    refine e_cmp4 (show am_cd 239 44 = (11, 47, 143, 4, []) by decide +kernel) (fun hc => ?_) (fun hc => ?_)
    · replace h := h.1 hc
      exact e_retv (show am_cd 239 143 = (36, 144, 3, 0, []) by decide +kernel) (by decide +kernel) h
    · replace h := h.2 hc
      refine e_lda (v := 67) (show am_cd 239 47 = (2, 48, 0, 2, []) by decide +kernel) rfl ?_
      refine e_ldi (show am_cd 239 48 = (2, 49, 1, 0, []) by decide +kernel) rfl ?_
      refine e_ldi (show am_cd 239 49 = (2, 51, 6, 0, []) by decide +kernel) rfl ?_
      refine e_cV (z := 0) (a := 67) (as := [(0, s), (0, i)]) (rest := []) (show am_cd 239 51 = (40, 54, 230, 0, [363]) by decide +kernel) (by decide +kernel) rfl rfl (Nat.le_of_ble_eq_true rfl) rfl ?_
      refine Cl.mono (Cl.up (c_standsThen (d := d) h.1) (by omega)) ?_
      rintro _ _ ⟨rfl, rfl⟩
      refine ⟨fun _ h9 => (by cases h9), ?_⟩
      replace h := h.2
      show Ev _ 239 _ 54 [rA 67, (0, s), (0, a), (0, b), (0, c), (0, x), (0, i), J] [(0, oI (stT m q lt n s.toNat i.toNat))] _
      refine e_sti (la2 := [rA 67, (0, s), (0, a), (0, b), (0, c), (0, x), (0, i), (0, oI (stT m q lt n s.toNat i.toNat))]) (show am_cd 239 54 = (3, 56, 7, 0, []) by decide +kernel) rfl ?_
      refine e_ldi (show am_cd 239 56 = (2, 58, 7, 0, []) by decide +kernel) rfl ?_
      refine e_ic (show am_cd 239 58 = (0, 59, 0, -1, []) by decide +kernel) ?_
      refine e_cmp0 (show am_cd 239 59 = (11, 62, 137, 0, []) by decide +kernel) (fun hc => ?_) (fun hc => ?_)
      · replace h := h.1 hc
        refine e_inc (la2 := [rA 67, (0, s), (0, a), (0, b), (0, c), (0, x), (0, i + 1), (0, oI (stT m q lt n s.toNat i.toNat))]) (show am_cd 239 137 = (4, 140, 6, 1, []) by decide +kernel) rfl rfl ?_
        refine e_go (show am_cd 239 140 = (12, 28, 0, 0, []) by decide +kernel) ?_
        exact h
      · replace h := h.2 hc
        refine e_lda (v := 67) (show am_cd 239 62 = (2, 63, 0, 2, []) by decide +kernel) rfl ?_
        refine e_ldi (show am_cd 239 63 = (2, 64, 2, 0, []) by decide +kernel) rfl ?_
        refine e_ldi (show am_cd 239 64 = (2, 65, 3, 0, []) by decide +kernel) rfl ?_
        refine e_ldi (show am_cd 239 65 = (2, 67, 4, 0, []) by decide +kernel) rfl ?_
        refine e_ldi (show am_cd 239 67 = (2, 69, 6, 0, []) by decide +kernel) rfl ?_
        refine e_cV (z := 0) (a := 67) (as := [(0, a), (0, b), (0, c), (0, i)]) (rest := []) (show am_cd 239 69 = (40, 72, 210, 0, [282]) by decide +kernel) (by decide +kernel) rfl rfl (Nat.le_of_ble_eq_true rfl) rfl ?_
        refine Cl.mono (Cl.up (c_goes (hw := hw) (d := d) h.1) (by omega)) ?_
        rintro _ _ ⟨rfl, rfl⟩
        refine ⟨fun _ h9 => (by cases h9), ?_⟩
        replace h := h.2
        show Ev _ 239 _ 72 [rA 67, (0, s), (0, a), (0, b), (0, c), (0, x), (0, i), (0, oI (stT m q lt n s.toNat i.toNat))] [(0, bI (goes m wo a.toNat b.toNat c.toNat i.toNat))] _
        refine e_ifb0 (show am_cd 239 72 = (10, 75, 137, 0, []) by decide +kernel) (fun hc => ?_) (fun hc => ?_)
        · replace h := h.1 hc
          refine e_inc (la2 := [rA 67, (0, s), (0, a), (0, b), (0, c), (0, x), (0, i + 1), (0, oI (stT m q lt n s.toNat i.toNat))]) (show am_cd 239 137 = (4, 140, 6, 1, []) by decide +kernel) rfl rfl ?_
          refine e_go (show am_cd 239 140 = (12, 28, 0, 0, []) by decide +kernel) ?_
          exact h
        · replace h := h.2 hc
          refine e_lda (v := 67) (show am_cd 239 75 = (2, 76, 0, 2, []) by decide +kernel) rfl ?_
          refine e_ldi (show am_cd 239 76 = (2, 78, 7, 0, []) by decide +kernel) rfl ?_
          refine e_ldi (show am_cd 239 78 = (2, 79, 3, 0, []) by decide +kernel) rfl ?_
          refine e_ldi (show am_cd 239 79 = (2, 81, 4, 0, []) by decide +kernel) rfl ?_
          refine e_ldi (show am_cd 239 81 = (2, 83, 6, 0, []) by decide +kernel) rfl ?_
          refine e_cV (z := 0) (a := 67) (as := [(0, oI (stT m q lt n s.toNat i.toNat)), (0, b), (0, c), (0, i)]) (rest := []) (show am_cd 239 83 = (40, 86, 232, 0, [366]) by decide +kernel) (by decide +kernel) rfl rfl (Nat.le_of_ble_eq_true rfl) rfl ?_
          refine Cl.mono (Cl.up (c_waysFromB (d := d) 14 _ _ _ _ _ _ h.1) (by omega)) ?_
          rintro _ _ ⟨x1, w2, t3, rfl, rfl, hp⟩
          refine ⟨fun _ h9 => (by cases h9), ?_⟩
          replace h := h.2 x1 w2 t3 hp
          show Ev _ 239 _ 86 [rA 67, (0, s), (0, a), (0, b), (0, c), (0, x), (0, i), (0, oI (stT m q lt n s.toNat i.toNat))] [(1, x1)] _
          refine e_lc (show am_cd 239 86 = (1, 87, 0, 0, []) by decide +kernel) ?_
          refine e_lcb1 (show am_cd 239 87 = (9, 88, 0, 0, []) by decide +kernel) (show am_cd 239 88 = (10, 91, 94, 1, []) by decide +kernel) (fun hc => ?_) (fun hc => ?_)
          · replace h := h.1 hc
            refine e_lda (v := 67) (show am_cd 239 94 = (2, 95, 0, 2, []) by decide +kernel) rfl ?_
            refine e_ldi (show am_cd 239 95 = (2, 97, 7, 0, []) by decide +kernel) rfl ?_
            refine e_ldi (show am_cd 239 97 = (2, 98, 3, 0, []) by decide +kernel) rfl ?_
            refine e_ldi (show am_cd 239 98 = (2, 100, 4, 0, []) by decide +kernel) rfl ?_
            refine e_ldi (show am_cd 239 100 = (2, 102, 6, 0, []) by decide +kernel) rfl ?_
            refine e_lda (v := 67) (show am_cd 239 102 = (2, 103, 0, 2, []) by decide +kernel) rfl ?_
            refine e_getr (a := 67) (r := 69) (show am_cd 239 103 = (18, 106, 1202, 2, [13]) by decide +kernel) (by decide +kernel) (by decide +kernel) rfl ?_
            refine e_ldi (show am_cd 239 106 = (2, 108, 6, 0, []) by decide +kernel) rfl ?_
            refine e_iald (a := 69) (n := 16) (show am_cd 239 108 = (21, 109, 0, 0, []) by decide +kernel) (by decide +kernel) (by decide +kernel) (by decide +kernel) h.1 ?_
            replace h := h.2
            refine e_ic (show am_cd 239 109 = (0, 111, 1, 27, []) by decide +kernel) ?_
            refine e_cmp1 (show am_cd 239 111 = (11, 114, 119, 1, []) by decide +kernel) (fun hc => ?_) (fun hc => ?_)
            · replace h := h.1 hc
              refine e_ic (show am_cd 239 119 = (0, 121, 1, 28, []) by decide +kernel) ?_
              refine e_ldi (show am_cd 239 121 = (2, 123, 5, 0, []) by decide +kernel) rfl ?_
              refine e_imul (show am_cd 239 123 = (5, 124, 2, 0, []) by decide +kernel) ?_
              refine e_lda (v := 67) (show am_cd 239 124 = (2, 125, 0, 2, []) by decide +kernel) rfl ?_
              refine e_getr (a := 67) (r := 69) (show am_cd 239 125 = (18, 128, 1202, 2, [13]) by decide +kernel) (by decide +kernel) (by decide +kernel) rfl ?_
              refine e_ldi (show am_cd 239 128 = (2, 130, 6, 0, []) by decide +kernel) rfl ?_
              refine e_iald (a := 69) (n := 16) (show am_cd 239 130 = (21, 131, 0, 0, []) by decide +kernel) (by decide +kernel) (by decide +kernel) (by decide +kernel) h.1 ?_
              replace h := h.2
              refine e_iadd (show am_cd 239 131 = (5, 132, 0, 0, []) by decide +kernel) ?_
              refine e_ic (show am_cd 239 132 = (0, 133, 0, 1, []) by decide +kernel) ?_
              refine e_iadd (show am_cd 239 133 = (5, 134, 0, 0, []) by decide +kernel) ?_
              refine e_cV (z := 0) (a := 67) (as := [(0, oI (stT m q lt n s.toNat i.toNat)), (0, b), (0, c), (0, i), (0, ((28 * x) + (w2 69 (w32 i).toNat)) + 1)]) (rest := []) (show am_cd 239 134 = (40, 137, 239, 0, [386]) by decide +kernel) (by decide +kernel) rfl rfl (Nat.le_of_ble_eq_true rfl) rfl ?_
              obtain ⟨g4, h⟩ := h
              refine Cl.mono (Cl.up (hrS g4 _ _ _ _ _ _ _ h.1) (by omega)) ?_
              rintro _ _ ⟨w5, t6, rfl, rfl, hp⟩
              refine ⟨fun _ h9 => (by cases h9), ?_⟩
              replace h := h.2 w5 t6 hp
              show Ev _ 239 _ 137 [rA 67, (0, s), (0, a), (0, b), (0, c), (0, x), (0, i), (0, oI (stT m q lt n s.toNat i.toNat))] [] _
              refine e_inc (la2 := [rA 67, (0, s), (0, a), (0, b), (0, c), (0, x), (0, i + 1), (0, oI (stT m q lt n s.toNat i.toNat))]) (show am_cd 239 137 = (4, 140, 6, 1, []) by decide +kernel) rfl rfl ?_
              refine e_go (show am_cd 239 140 = (12, 28, 0, 0, []) by decide +kernel) ?_
              exact h
            · replace h := h.2 hc
              refine e_ldi (show am_cd 239 114 = (2, 116, 5, 0, []) by decide +kernel) rfl ?_
              refine e_go (show am_cd 239 116 = (12, 134, 0, 0, []) by decide +kernel) ?_
              refine e_cV (z := 0) (a := 67) (as := [(0, oI (stT m q lt n s.toNat i.toNat)), (0, b), (0, c), (0, i), (0, x)]) (rest := []) (show am_cd 239 134 = (40, 137, 239, 0, [386]) by decide +kernel) (by decide +kernel) rfl rfl (Nat.le_of_ble_eq_true rfl) rfl ?_
              obtain ⟨g7, h⟩ := h
              refine Cl.mono (Cl.up (hrS g7 _ _ _ _ _ _ _ h.1) (by omega)) ?_
              rintro _ _ ⟨w8, t9, rfl, rfl, hp⟩
              refine ⟨fun _ h9 => (by cases h9), ?_⟩
              replace h := h.2 w8 t9 hp
              show Ev _ 239 _ 137 [rA 67, (0, s), (0, a), (0, b), (0, c), (0, x), (0, i), (0, oI (stT m q lt n s.toNat i.toNat))] [] _
              refine e_inc (la2 := [rA 67, (0, s), (0, a), (0, b), (0, c), (0, x), (0, i + 1), (0, oI (stT m q lt n s.toNat i.toNat))]) (show am_cd 239 137 = (4, 140, 6, 1, []) by decide +kernel) rfl rfl ?_
              refine e_go (show am_cd 239 140 = (12, 28, 0, 0, []) by decide +kernel) ?_
              exact h
          · replace h := h.2 hc
            refine e_go (show am_cd 239 91 = (12, 137, 0, 0, []) by decide +kernel) ?_
            refine e_inc (la2 := [rA 67, (0, s), (0, a), (0, b), (0, c), (0, x), (0, i + 1), (0, oI (stT m q lt n s.toNat i.toNat))]) (show am_cd 239 137 = (4, 140, 6, 1, []) by decide +kernel) rfl rfl ?_
            refine e_go (show am_cd 239 140 = (12, 28, 0, 0, []) by decide +kernel) ?_
            exact h

theorem TkM.m {R F : List Nat} {w w2 : eW} {q n : Nat} {lt : Nat → Int} (h : TkM w q lt n) (hf : Fm R F w w2) (hR : ∀ a ∈ R, a ≠ 90 ∧ a ≠ 91) (hF : ∀ k ∈ F, k < 47 ∨ 49 < k) : TkM w2 q lt n := by
  obtain ⟨h1, h2, h3, h4⟩ := h
  have n90 : 90 ∉ R := fun h9 => (hR 90 h9).1 rfl
  have n91 : 91 ∉ R := fun h9 => (hR 91 h9).2 rfl
  have n47 : 47 ∉ F := fun h9 => by have := hF 47 h9; omega
  have n48 : 48 ∉ F := fun h9 => by have := hF 48 h9; omega
  have n49 : 49 ∉ F := fun h9 => by have := hF 49 h9; omega
  refine ⟨by rw [hf.2 49 n49]; exact h1, h2, fun hq => ?_, fun hq => ?_⟩
  · obtain ⟨a1, a2, a3⟩ := h3 hq
    exact ⟨by rw [hf.2 48 n48]; exact a1, a2, by rw [hf.1 91 (by decide) n91]; exact a3⟩
  · obtain ⟨a1, a2, a3⟩ := h4 hq
    exact ⟨by rw [hf.2 47 n47]; exact a1, a2, by rw [hf.1 90 (by decide) n90]; exact a3⟩
theorem c_spellsOutB {d : Nat} {m : eW} {n : Nat} {lt : Nat → Int} : ∀ (B : Nat) (g : List Int) (s a b c x : Int) (w : eW) (t : eT), SPR m lt n B g s a b c x w t → Cl (d + B + 20) 239 [rA 67, (0, s), (0, a), (0, b), (0, c), (0, x)] (enc w t) (fun r S2 => ∃ w2 t2, r = none ∧ S2 = enc w2 t2 ∧ SPO m lt n g s a b c x w t w2 t2) := by
  intro B
  induction B with
  | zero => intro g s a b c x w t h; exact absurd h.1.2.2.2.2.2.2.2.1 (Nat.not_lt_zero _)
  | succ B ih =>
    intro g s a b c x w t h
    obtain ⟨⟨hm, hwo, hk, hs, ha, hb, hc, hB, hKn⟩, hS, hgl, hx0, hx1, hs6⟩ := h
    have hn := hk.n
    have hpn := hm.1.n
    have h28 := p28 hs6
    have hcE : gE c := by unfold gC at hc; unfold gE; omega
    have hw1 : w32 (-1) = -1 := by decide +kernel
    have hle := lw_eq (m := m) (q := 2) (lt := lt) (n := n) (s := s.toNat) (a := a.toNat) (b := b.toNat) (c := c.toNat) hn hs.2.2
    generalize hF : (fun d => match stT m 2 lt n s.toNat d with
      | none => []
      | some s2 => if goes m (-1) a.toNat b.toNat c.toNat d then (lw m 2 lt n s2 b.toNat c.toNat d).map (fun l => d :: l) else []) = F at hle
    have loop : ∀ (b0 : List (List Nat)) (w0 : eW), b0 = (if s.toNat / 16 = n ∧ isE m (-1) a.toNat b.toNat c.toNat = true then [[]] else []) → Fm [92, 93, 98] [38, 51] w w0 → KnW (PmW m 2 lt n) w0 → SpM w0 ((b0.map (cdF m x)).foldl insC g) → Ev (d + B + 21) 239 (fun r S2 => ∃ w2 t2, r = none ∧ S2 = enc w2 t2 ∧ SPO m lt n g s a b c x w t w2 t2) 28 [rA 67, (0, s), (0, a), (0, b), (0, c), (0, x), (0, 0), (9, 0)] [] (enc w0 t) := by
      intro b0 w0 hb0 q1 q2 q3
      have done : ∀ (w2 : eW) (i : Nat), i ≤ nP m → Fm [92, 93, 98] [38, 51] w w2 → KnW (PmW m 2 lt n) w2 → SpM w2 (((b0 ++ lsD F i).map (cdF m x)).foldl insC g) → (i = nP m ∨ 200 < (((b0 ++ lsD F i).map (cdF m x)).foldl insC g).length) → SPO m lt n g s a b c x w t w2 t := by
        intro w2 i hi r1 r2 r3 r4
        refine ⟨rfl, r1, r2, ?_⟩
        rw [hle, ← hb0]
        rcases r4 with r4 | r4
        · rw [← r4]; exact r3
        · have : ∃ L, lsD F (nP m) = lsD F i ++ L := by
            obtain ⟨j, hj⟩ : ∃ j, nP m = i + j := ⟨nP m - i, by omega⟩
            rw [hj]
            clear hj
            induction j with
            | zero => exact ⟨[], by simp⟩
            | succ j ihj =>
              obtain ⟨L, hL⟩ := ihj
              exact ⟨L ++ F (i + j), by rw [← Nat.add_assoc]; show lsD F (i + j) ++ F (i + j) = _; rw [hL, List.append_assoc]⟩
          obtain ⟨L, hL⟩ := this
          rw [hL, ← List.append_assoc, List.map_append, List.foldl_append, insC_full r4]
          exact r3
      refine lq1 (fun i (σ : eW × aV) => Ev (d + B + 21) 239 (fun r S2 => ∃ w2 t2, r = none ∧ S2 = enc w2 t2 ∧ SPO m lt n g s a b c x w t w2 t2) 28 [rA 67, (0, s), (0, a), (0, b), (0, c), (0, x), (0, (i : Int)), σ.2] [] (enc σ.1 t)) (fun i σ => Fm [92, 93, 98] [38, 51] w σ.1 ∧ KnW (PmW m 2 lt n) σ.1 ∧ SpM σ.1 (((b0 ++ lsD F i).map (cdF m x)).foldl insC g)) (nP m) ?_ ?_ 0 (w0, (9, 0)) (Nat.zero_le _) ⟨q1, q2, by rw [show lsD F 0 = [] from rfl, List.append_nil]; exact q3⟩
      · intro i σ hi hI hE
        obtain ⟨i1, i2, i3⟩ := hI
        have hm2 := hm.m i1 (by decide) (by decide)
        have hk2 := hk.m i1 (by decide) (by decide)
        have hwo2 : σ.1 67 35 = -1 := by rw [i1.2 35 (by decide)]; exact hwo
        have g1 := (hm.2.2.1.2 i hi).2
        have b1 := (hm.1.2.1 i hi).2.1
        refine g_spellsOut1 (m := m) (q := 2) (n := n) (lt := lt) (sl := []) hw1 ih ?_
        have hFi : F i = (match stT m 2 lt n s.toNat i with
          | none => []
          | some s2 => if goes m (-1) a.toNat b.toNat c.toNat i then (lw m 2 lt n s2 b.toNat c.toNat i).map (fun l => i :: l) else []) := by rw [← hF]
        rw [show lsD F (i + 1) = lsD F i ++ F i from rfl] at hE
        have hSl := i3.2.1
        rw [hm2.2.2.1.1, i3.1]
        simp (disch := omega) only [w32_id, Int.toNat_natCast]
        refine ⟨fun h9 => (by omega), fun _ => ⟨fun hfull => ⟨_, _, by trivial, rfl, done _ i (by omega) i1 i2 i3 (Or.inr (by omega))⟩, fun hroom => ⟨⟨hm2, hk2, hs, ⟨by omega, by omega⟩⟩, ?_⟩⟩⟩
        cases hst : stT m 2 lt n s.toNat i with
        | none =>
          rw [hst] at hFi
          dsimp only at hFi
          refine ⟨fun _ => ?_, fun h9 => absurd rfl h9⟩
          exact hE (σ.1, (0, oI none)) ⟨i1, i2, by rw [hFi, List.append_nil]; exact i3⟩
        | some s2 =>
          rw [hst] at hFi
          dsimp only at hFi
          have hin := stT_in hs.2.1 hs.2.2 hst
          have h2j := stT_2 hst
          simp (disch := omega) only [oI_s, w32_id]
          refine ⟨fun h9 => (by omega), fun _ => ⟨⟨hm2, hwo2, ha, hb, hc, ⟨by omega, by omega⟩⟩, fun hg => ?_, fun hg => ?_⟩⟩
          · rw [if_neg (by rw [hg]; decide)] at hFi
            exact hE (σ.1, (0, (s2 : Int))) ⟨i1, i2, by rw [hFi, List.append_nil]; exact i3⟩
          · rw [if_pos hg] at hFi
            have hdn := mW_down hi hs.2.2 hst hg
            have h13 := mW_le (m := m) (q := 2) (n := n) (s := s2) (c := i) hn
            refine ⟨⟨hm2, hwo2, hk2, ⟨by omega, by rw [Int.toNat_natCast]; exact hin.1, by rw [Int.toNat_natCast]; exact hin.2⟩, hb, hcE, ⟨by omega, by omega⟩, by rw [Int.toNat_natCast, Int.toNat_natCast]; omega, i2⟩, fun y w2 t2 hp => ?_⟩
            obtain ⟨p1, p2, p3, p4⟩ := hp
            subst p2
            rw [Int.toNat_natCast, Int.toNat_natCast] at p1
            have hlt := cw_lt (m := m) hpn.2 (q := 2) (lt := lt) (n := n) (s := s2) (a := b.toNat) (b := c.toNat) (c := i)
            have iC : Fm [92, 93, 98] [38, 51] w w2 := i1.tr (p3.m.mo (by decide) (by decide))
            have iS : SpM w2 (((b0 ++ lsD F i).map (cdF m x)).foldl insC g) := i3.fr (p3.2 51 (by decide)) (p3.1 98 (by decide) (by decide) (by decide))
            have e69 : w2 69 i = m 69 i := by rw [iC.1 69 (by decide) (by decide)]; exact g1
            rw [p1]
            simp (disch := omega) only [w32_id, w64_id, Int.toNat_natCast, e69]
            have rcc : ∀ (x2 : Int), 0 ≤ x2 → x2 < ((28 ^ (s2 % 16) : Nat) : Int) → (∀ l, cdF m x (i :: l) = cdF m x2 l) → (∃ gg, SPR m lt n B gg (s2 : Int) b c (i : Int) x2 w2 t2 ∧ ∀ w5 t6, SPO m lt n gg (s2 : Int) b c (i : Int) x2 w2 t2 w5 t6 → Ev (d + B + 21) 239 (fun r S2 => ∃ w2 t3, r = none ∧ S2 = enc w2 t3 ∧ SPO m lt n g s a b c x w t2 w2 t3) 28 [rA 67, (0, s), (0, a), (0, b), (0, c), (0, x), (0, (i : Int) + 1), (0, (s2 : Int))] [] (enc w5 t6)) := by
              intro x2 hx2 hx3 hcd
              refine ⟨_, ⟨⟨hm.m iC (by decide) (by decide), by rw [iC.2 35 (by decide)]; exact hwo, hk.m iC (by decide) (by decide), ⟨by omega, by rw [Int.toNat_natCast]; exact hin.1, by rw [Int.toNat_natCast]; exact hin.2⟩, hb, hcE, ⟨by omega, by omega⟩, by rw [Int.toNat_natCast, Int.toNat_natCast]; omega, p4⟩, iS, by omega, hx2, by rw [Int.toNat_natCast]; exact hx3, by rw [Int.toNat_natCast]; exact h2j.2⟩, fun w5 t6 hp5 => ?_⟩
              obtain ⟨e1, e2, e3, e4⟩ := hp5
              subst e1
              rw [Int.toNat_natCast, Int.toNat_natCast] at e4
              refine hE (w5, (0, (s2 : Int))) ⟨iC.tr e2, e3, ?_⟩
              rw [hFi, ← List.append_assoc, List.map_append, List.foldl_append, List.map_map]
              rw [show (cdF m x ∘ fun l => i :: l) = cdF m x2 from funext (fun l => hcd l)]
              exact e4
            refine ⟨fun h3 => ⟨by omega, fun hne => ⟨by omega, rcc _ (by omega) ?_ ?_⟩, fun heq => rcc x hx0 ?_ ?_⟩, fun h3 => ?_⟩
            · rw [h2j.1, if_neg hne, Nat.pow_succ]; omega
            · intro l
              show cdF m (if m 69 i = 27 then x else 28 * x + m 69 i + 1) l = _
              rw [if_neg hne]
            · rw [h2j.1, if_pos (by omega)]; exact hx1
            · intro l
              show cdF m (if m 69 i = 27 then x else 28 * x + m 69 i + 1) l = _
              rw [if_pos (by omega)]
            · have hz : lw m 2 lt n s2 b.toNat c.toNat i = [] := lw_nil_of (by omega)
              rw [hz, List.map_nil] at hFi
              exact hE (w2, (0, (s2 : Int))) ⟨iC, p4, by rw [hFi, List.append_nil]; exact iS⟩
      · intro σ hI
        obtain ⟨i1, i2, i3⟩ := hI
        refine g_spellsOut1 (m := m) (q := 2) (n := n) (lt := lt) (sl := []) hw1 ih ?_
        rw [(hm.m i1 (by decide) (by decide)).2.2.1.1]
        simp (disch := omega) only [w32_id]
        exact ⟨fun _ => ⟨_, _, by trivial, rfl, done _ (nP m) (Nat.le_refl _) i1 i2 i3 (Or.inl rfl)⟩, fun h9 => (by omega)⟩
    refine g_spellsOut0 (m := m) (q := 2) (n := n) (lt := lt) (J := (9, 0)) (sl := g) hw1 ?_
    refine ⟨⟨hk, hs.1, hs.2.1⟩, fun h2 => ?_, fun h2 => ⟨⟨hm, hwo, ha, hb, hc⟩, fun h3 => ?_, fun h3 => ⟨⟨hS, hgl, hx0, by omega⟩, ?_⟩⟩⟩
    · refine loop [] w ?_ (Fm.rf _ _ w) hKn hS
      rw [if_neg (fun h9 => of_decide_eq_false h2 h9.1)]
    · refine loop [] w ?_ (Fm.rf _ _ w) hKn hS
      rw [if_neg (fun h9 => by rw [h3] at h9; cases h9.2)]
    · have hsp : Fm [98] [51] w (spW w g x) := spW_m
      refine loop [[]] (spW w g x) ?_ (hsp.mo (by decide) (by decide)) (hKn.fr (hsp.1 92 (by decide) (by decide)) (hsp.1 93 (by decide) (by decide)) (hsp.2 38 (by decide))) ?_
      · rw [if_pos ⟨of_decide_eq_true h2, h3⟩]
      · exact hS.add hgl ⟨hx0, by omega⟩

