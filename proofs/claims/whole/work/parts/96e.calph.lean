/-! The class: filling arrays; the alphabet. -/
def fxA (A kd n : Nat) : Prop := en_at A kd = true ∧ en_no A = true ∧ (en_k A).2 = n ∧ n ≤ 2000
def wfl (w : eW) (a n : Nat) (v : Int) : eW := fun q j => if q = a ∧ j < n then v else w q j
theorem wfl_at {w : eW} {a n j : Nat} {v : Int} (h : j < n) : wfl w a n v a j = v := by unfold wfl; rw [if_pos ⟨rfl, h⟩]
theorem wfl_na {w : eW} {a n q : Nat} {v : Int} (h : q ≠ a) : wfl w a n v q = w q := by funext j; unfold wfl; rw [if_neg (fun h9 => h h9.1)]
theorem Fc.wfl {R : List Nat} {F : List (Nat × Nat)} {w : eW} {a n : Nat} {v : Int} (h : a ∈ R) : Fc R F w (wfl w a n v) := fun b j h1 _ => by rw [wfl_na (fun h9 => h1 (by rw [h9]; exact h))]

theorem g_fillI {d : Nat} {Q : Option aV → aS → Prop} {w : eW} {t : eT} {A v : Int} (h : (0 ≤ A) ∧ (dyK t A 20 ∨ dyK t A 21) ∧ (Ev (d) 269 Q 5 [(2, A), (0, v), (0, 0), (0, (dyL t A : Int))] [] (enc w t))) : Cl (d) 269 [(2, A), (0, v)] (enc w t) Q := by
  show Ev (d) 269 Q 0 [(2, A), (0, v), (9, 0), (9, 0)] [] (enc w t)
  refine e_ic (show am_cd 269 0 = (0, 1, 0, 0, []) by decide +kernel) ?_
  refine e_sti (la2 := [(2, A), (0, v), (0, 0), (9, 0)]) (show am_cd 269 1 = (3, 2, 2, 0, []) by decide +kernel) rfl ?_
  refine e_ldaD (v := A) (show am_cd 269 2 = (2, 3, 0, 2, []) by decide +kernel) rfl h.1 ?_
  replace h := h.2
  refine e_alenD (show am_cd 269 3 = (27, 4, 0, 0, []) by decide +kernel) h.1 ?_
  replace h := h.2
  refine e_sti (la2 := [(2, A), (0, v), (0, 0), (0, (dyL t A : Int))]) (show am_cd 269 4 = (3, 5, 3, 0, []) by decide +kernel) rfl ?_
  exact h

theorem g_fillI0 {d : Nat} {Q : Option aV → aS → Prop} {w : eW} {t : eT} {A v i n : Int} (h : ((w32 n ≤ w32 i → Q none (enc w t)) ∧ (¬ (w32 n ≤ w32 i) → (0 ≤ A) ∧ (dyK t A 20 ∧ 0 ≤ w32 i ∧ w32 i < dyL t A) ∧ (Ev (d) 269 Q 5 [(2, A), (0, v), (0, i + 1), (0, n)] [] (enc (wu w A.toNat (w32 i).toNat v) t))))) : Ev (d) 269 Q 5 [(2, A), (0, v), (0, i), (0, n)] [] (enc w t) := by
  refine e_ldi (show am_cd 269 5 = (2, 6, 2, 0, []) by decide +kernel) rfl ?_
  refine e_ldi (show am_cd 269 6 = (2, 7, 3, 0, []) by decide +kernel) rfl ?_
  refine e_cmp3 (show am_cd 269 7 = (11, 10, 20, 3, []) by decide +kernel) (fun hc => ?_) (fun hc => ?_)
  · replace h := h.1 hc
    exact e_retv (show am_cd 269 20 = (36, 21, 3, 0, []) by decide +kernel) (by decide +kernel) h
  · replace h := h.2 hc
    refine e_ldaD (v := A) (show am_cd 269 10 = (2, 11, 0, 2, []) by decide +kernel) rfl h.1 ?_
    replace h := h.2
    refine e_ldi (show am_cd 269 11 = (2, 12, 2, 0, []) by decide +kernel) rfl ?_
    refine e_ldi (show am_cd 269 12 = (2, 13, 1, 0, []) by decide +kernel) rfl ?_
    refine e_iastD (show am_cd 269 13 = (24, 14, 0, 0, []) by decide +kernel) h.1 ?_
    replace h := h.2
    refine e_inc (la2 := [(2, A), (0, v), (0, i + 1), (0, n)]) (show am_cd 269 14 = (4, 17, 2, 1, []) by decide +kernel) rfl rfl ?_
    refine e_go (show am_cd 269 17 = (12, 5, 0, 0, []) by decide +kernel) ?_
    exact h

theorem c_fillI {d A n : Nat} {w : eW} {t : eT} {v : Int} (h : fxA A 20 n) : Cl d 269 [rA A, (0, v)] (enc w t) (fun r S2 => r = none ∧ S2 = enc (wfl w A n v) t) := by
  obtain ⟨h1, h2, h3, h4⟩ := h
  have hk : dyK t (A : Int) 20 := dyK_fix h1 h2
  have hl : dyL t (A : Int) = n := by rw [dyL_fix h1, h3]
  refine g_fillI ⟨by omega, by first | exact Or.inl hk | exact Or.inr hk, ?_⟩
  rw [hl]
  have key := lp0 (fun i => Ev d 269 (fun r S2 => r = none ∧ S2 = enc (wfl w A n v) t) 5 [(2, (A : Int)), (0, v), (0, (i : Int)), (0, (n : Int))] [] (enc (wfl w A i v) t)) n ?_ ?_ 0 (by omega)
  · have e : wfl w A 0 v = w := by funext q j; unfold wfl; rw [if_neg (by omega)]
    rw [e] at key
    exact key
  · intro i hi hE
    refine g_fillI0 ⟨fun hc => absurd hc (by rw [w32_id (by omega), w32_id (by omega)]; omega), fun _ => ⟨by omega, ⟨hk, by rw [w32_id (by omega)]; omega, by rw [hl, w32_id (by omega)]; omega⟩, ?_⟩⟩
    rw [w32_id (x := (i : Int)) (by omega), Int.toNat_natCast, Int.toNat_natCast]
    have e : wu (wfl w A i v) A i v = wfl w A (i + 1) v := by
      funext q j
      unfold wu wfl
      by_cases h9 : q = A ∧ j = i
      · rw [if_pos h9, if_pos ⟨h9.1, by omega⟩]
      · rw [if_neg h9]
        by_cases h8 : q = A ∧ j < i
        · rw [if_pos h8, if_pos ⟨h8.1, by omega⟩]
        · rw [if_neg h8, if_neg (by omega)]
    rw [e]
    exact hE
  · exact g_fillI0 ⟨fun _ => ⟨rfl, rfl⟩, fun hc => absurd (Int.le_refl _) hc⟩

theorem g_fillL {d : Nat} {Q : Option aV → aS → Prop} {w : eW} {t : eT} {A v : Int} (h : (0 ≤ A) ∧ (dyK t A 20 ∨ dyK t A 21) ∧ (Ev (d) 268 Q 6 [(2, A), (1, v), (9, 0), (0, 0), (0, (dyL t A : Int))] [] (enc w t))) : Cl (d) 268 [(2, A), (1, v)] (enc w t) Q := by
  show Ev (d) 268 Q 0 [(2, A), (1, v), (9, 0), (9, 0), (9, 0)] [] (enc w t)
  refine e_ic (show am_cd 268 0 = (0, 1, 0, 0, []) by decide +kernel) ?_
  refine e_sti (la2 := [(2, A), (1, v), (9, 0), (0, 0), (9, 0)]) (show am_cd 268 1 = (3, 2, 3, 0, []) by decide +kernel) rfl ?_
  refine e_ldaD (v := A) (show am_cd 268 2 = (2, 3, 0, 2, []) by decide +kernel) rfl h.1 ?_
  replace h := h.2
  refine e_alenD (show am_cd 268 3 = (27, 4, 0, 0, []) by decide +kernel) h.1 ?_
  replace h := h.2
  refine e_sti (la2 := [(2, A), (1, v), (9, 0), (0, 0), (0, (dyL t A : Int))]) (show am_cd 268 4 = (3, 6, 4, 0, []) by decide +kernel) rfl ?_
  exact h

theorem g_fillL0 {d : Nat} {Q : Option aV → aS → Prop} {w : eW} {t : eT} {A v i n : Int} (h : ((w32 n ≤ w32 i → Q none (enc w t)) ∧ (¬ (w32 n ≤ w32 i) → (0 ≤ A) ∧ (dyK t A 21 ∧ 0 ≤ w32 i ∧ w32 i < dyL t A) ∧ (Ev (d) 268 Q 6 [(2, A), (1, v), (9, 0), (0, i + 1), (0, n)] [] (enc (wu w A.toNat (w32 i).toNat v) t))))) : Ev (d) 268 Q 6 [(2, A), (1, v), (9, 0), (0, i), (0, n)] [] (enc w t) := by
  refine e_ldi (show am_cd 268 6 = (2, 7, 3, 0, []) by decide +kernel) rfl ?_
  refine e_ldi (show am_cd 268 7 = (2, 9, 4, 0, []) by decide +kernel) rfl ?_
  refine e_cmp3 (show am_cd 268 9 = (11, 12, 22, 3, []) by decide +kernel) (fun hc => ?_) (fun hc => ?_)
  · replace h := h.1 hc
    exact e_retv (show am_cd 268 22 = (36, 23, 3, 0, []) by decide +kernel) (by decide +kernel) h
  · replace h := h.2 hc
    refine e_ldaD (v := A) (show am_cd 268 12 = (2, 13, 0, 2, []) by decide +kernel) rfl h.1 ?_
    replace h := h.2
    refine e_ldi (show am_cd 268 13 = (2, 14, 3, 0, []) by decide +kernel) rfl ?_
    refine e_ldl (show am_cd 268 14 = (2, 15, 1, 1, []) by decide +kernel) rfl ?_
    refine e_lastD (show am_cd 268 15 = (25, 16, 0, 0, []) by decide +kernel) h.1 ?_
    replace h := h.2
    refine e_inc (la2 := [(2, A), (1, v), (9, 0), (0, i + 1), (0, n)]) (show am_cd 268 16 = (4, 19, 3, 1, []) by decide +kernel) rfl rfl ?_
    refine e_go (show am_cd 268 19 = (12, 6, 0, 0, []) by decide +kernel) ?_
    exact h

theorem c_fillL {d A n : Nat} {w : eW} {t : eT} {v : Int} (h : fxA A 21 n) : Cl d 268 [rA A, (1, v)] (enc w t) (fun r S2 => r = none ∧ S2 = enc (wfl w A n v) t) := by
  obtain ⟨h1, h2, h3, h4⟩ := h
  have hk : dyK t (A : Int) 21 := dyK_fix h1 h2
  have hl : dyL t (A : Int) = n := by rw [dyL_fix h1, h3]
  refine g_fillL ⟨by omega, by first | exact Or.inl hk | exact Or.inr hk, ?_⟩
  rw [hl]
  have key := lp0 (fun i => Ev d 268 (fun r S2 => r = none ∧ S2 = enc (wfl w A n v) t) 6 [(2, (A : Int)), (1, v), (9, 0), (0, (i : Int)), (0, (n : Int))] [] (enc (wfl w A i v) t)) n ?_ ?_ 0 (by omega)
  · have e : wfl w A 0 v = w := by funext q j; unfold wfl; rw [if_neg (by omega)]
    rw [e] at key
    exact key
  · intro i hi hE
    refine g_fillL0 ⟨fun hc => absurd hc (by rw [w32_id (by omega), w32_id (by omega)]; omega), fun _ => ⟨by omega, ⟨hk, by rw [w32_id (by omega)]; omega, by rw [hl, w32_id (by omega)]; omega⟩, ?_⟩⟩
    rw [w32_id (x := (i : Int)) (by omega), Int.toNat_natCast, Int.toNat_natCast]
    have e : wu (wfl w A i v) A i v = wfl w A (i + 1) v := by
      funext q j
      unfold wu wfl
      by_cases h9 : q = A ∧ j = i
      · rw [if_pos h9, if_pos ⟨h9.1, by omega⟩]
      · rw [if_neg h9]
        by_cases h8 : q = A ∧ j < i
        · rw [if_pos h8, if_pos ⟨h8.1, by omega⟩]
        · rw [if_neg h8, if_neg (by omega)]
    rw [e]
    exact hE
  · exact g_fillL0 ⟨fun _ => ⟨rfl, rfl⟩, fun hc => absurd (Int.le_refl _) hc⟩

/-- the alphabet of the class -/
def byU (m : eW) (c : Nat) : Nat := bts (fun p => decide (cdI (m 68 p) = (c : Int))) (nP m)
def byL (m : eW) (c : Nat) : Nat := bts (fun p => decide (cdI (m 69 p) = (c : Int))) (nP m)
def AC (w m : eW) : Prop := w 8 6 = m 67 0 ∧ (∀ p, p < nP m → w 9 p = cdI (m 68 p) ∧ w 10 p = cdI (m 69 p)) ∧ (∀ c, c < 28 → w 11 c = (byU m c : Int) ∧ w 12 c = (byL m c : Int)) ∧ w 8 8 = (insB m : Int)
def SC (w m : eW) : Prop := w 8 7 = m 67 3 ∧ ∀ i, i < nS m → w 13 i = m 70 i ∧ w 14 i = 2 * m 71 i
theorem byU_0 {m : eW} (h : WFp m) : byU m 0 = insB m := by
  unfold byU insB
  apply bts_congr
  intro p hp
  rw [decide_eq_decide]
  exact cdI_0 (h.2.1 p hp).1

theorem g_repl {d : Nat} {Q : Option aV → aS → Prop} {w : eW} {t : eT} (h : (fxA 11 20 28) ∧ (fxA 12 20 28) ∧ (Ev (d + 1) 1 Q 31 [rA 8, rA 2, (0, 0)] [] (enc (wfl (wfl (wu (wu w 8 6 (w 2 7)) 8 7 0) 11 28 0) 12 28 0) t))) : Cl (d + 1) 1 [rA 8, rA 2] (enc w t) Q := by
  show Ev (d + 1) 1 Q 0 [rA 8, rA 2, (9, 0)] [] (enc w t)
  refine e_lda (v := 8) (show am_cd 1 0 = (2, 1, 0, 2, []) by decide +kernel) rfl ?_
  refine e_lda (v := 2) (show am_cd 1 1 = (2, 2, 1, 2, []) by decide +kernel) rfl ?_
  refine e_getf (a := 2) (tg := 0) (show am_cd 1 2 = (18, 5, 807, 0, [30]) by decide +kernel) (by decide +kernel) (by decide +kernel) rfl ?_
  refine e_putf (a := 8) (show am_cd 1 5 = (19, 8, 6, 0, [36]) by decide +kernel) (by decide +kernel) (by decide +kernel) rfl (fun h9 => absurd h9 (by decide)) (fun h9 => absurd h9 (by decide +kernel)) ?_
  refine e_lda (v := 8) (show am_cd 1 8 = (2, 9, 0, 2, []) by decide +kernel) rfl ?_
  refine e_ic (show am_cd 1 9 = (0, 10, 0, 0, []) by decide +kernel) ?_
  refine e_putf (a := 8) (show am_cd 1 10 = (19, 13, 7, 0, [39]) by decide +kernel) (by decide +kernel) (by decide +kernel) rfl (fun h9 => absurd h9 (by decide)) (fun h9 => absurd h9 (by decide +kernel)) ?_
  refine e_lda (v := 8) (show am_cd 1 13 = (2, 14, 0, 2, []) by decide +kernel) rfl ?_
  refine e_getr (a := 8) (r := 11) (show am_cd 1 14 = (18, 17, 2, 2, [18]) by decide +kernel) (by decide +kernel) (by decide +kernel) rfl ?_
  refine e_ic (show am_cd 1 17 = (0, 18, 0, 0, []) by decide +kernel) ?_
  refine e_cS (z := 0) (as := [rA 11, (0, 0)]) (rest := []) (show am_cd 1 18 = (40, 21, 269, 1, [42]) by decide +kernel) (by decide) rfl rfl (Nat.le_of_ble_eq_true rfl) rfl ?_
  refine Cl.mono (Cl.up (c_fillI (d := d) h.1) (by omega)) ?_
  rintro _ _ ⟨rfl, rfl⟩
  refine ⟨fun _ h9 => (by cases h9), ?_⟩
  replace h := h.2
  show Ev _ 1 _ 21 [rA 8, rA 2, (9, 0)] [] _
  refine e_lda (v := 8) (show am_cd 1 21 = (2, 22, 0, 2, []) by decide +kernel) rfl ?_
  refine e_getr (a := 8) (r := 12) (show am_cd 1 22 = (18, 25, 3, 2, [21]) by decide +kernel) (by decide +kernel) (by decide +kernel) rfl ?_
  refine e_ic (show am_cd 1 25 = (0, 26, 0, 0, []) by decide +kernel) ?_
  refine e_cS (z := 0) (as := [rA 12, (0, 0)]) (rest := []) (show am_cd 1 26 = (40, 29, 269, 1, [42]) by decide +kernel) (by decide) rfl rfl (Nat.le_of_ble_eq_true rfl) rfl ?_
  refine Cl.mono (Cl.up (c_fillI (d := d) h.1) (by omega)) ?_
  rintro _ _ ⟨rfl, rfl⟩
  refine ⟨fun _ h9 => (by cases h9), ?_⟩
  replace h := h.2
  show Ev _ 1 _ 29 [rA 8, rA 2, (9, 0)] [] _
  refine e_ic (show am_cd 1 29 = (0, 30, 0, 0, []) by decide +kernel) ?_
  refine e_sti (la2 := [rA 8, rA 2, (0, 0)]) (show am_cd 1 30 = (3, 31, 2, 0, []) by decide +kernel) rfl ?_
  exact h

theorem g_repl0 {d : Nat} {Q : Option aV → aS → Prop} {w : eW} {t : eT} {p : Int} (h : ((w32 (w 8 6) ≤ w32 p → Q none (enc (wu w 8 8 (w 11 0)) t)) ∧ (¬ (w32 (w 8 6) ≤ w32 p) → (0 ≤ w32 p ∧ w32 p < 16) ∧ (0 ≤ w32 p ∧ w32 p < 16) ∧ (0 ≤ w32 p ∧ w32 p < 16) ∧ (0 ≤ w32 p ∧ w32 p < 16) ∧ (0 ≤ w32 p ∧ w32 p < 16) ∧ (0 ≤ w32 (w 4 (w32 p).toNat) ∧ w32 (w 4 (w32 p).toNat) < 28) ∧ (0 ≤ w32 (w 4 (w32 p).toNat) ∧ w32 (w 4 (w32 p).toNat) < 28) ∧ (0 ≤ w32 p ∧ w32 p < 16) ∧ (0 ≤ w32 (w 5 (w32 p).toNat) ∧ w32 (w 5 (w32 p).toNat) < 28) ∧ (0 ≤ w32 (w 5 (w32 p).toNat) ∧ w32 (w 5 (w32 p).toNat) < 28) ∧ (Ev (d + 1) 1 Q 31 [rA 8, rA 2, (0, p + 1)] [] (enc (wu (wu (wu (wu w 9 (w32 p).toNat (w 4 (w32 p).toNat)) 10 (w32 p).toNat (w 5 (w32 p).toNat)) 11 (w32 (w 4 (w32 p).toNat)).toNat (ior (w 11 (w32 (w 4 (w32 p).toNat)).toNat) (ishl 1 p))) 12 (w32 (w 5 (w32 p).toNat)).toNat (ior (w 12 (w32 (w 5 (w32 p).toNat)).toNat) (ishl 1 p))) t))))) : Ev (d + 1) 1 Q 31 [rA 8, rA 2, (0, p)] [] (enc w t) := by
  refine e_ldi (show am_cd 1 31 = (2, 32, 2, 0, []) by decide +kernel) rfl ?_
  refine e_lda (v := 8) (show am_cd 1 32 = (2, 33, 0, 2, []) by decide +kernel) rfl ?_
  refine e_getf (a := 8) (tg := 0) (show am_cd 1 33 = (18, 36, 6, 0, [36]) by decide +kernel) (by decide +kernel) (by decide +kernel) rfl ?_
  refine e_cmp3 (show am_cd 1 36 = (11, 39, 103, 3, []) by decide +kernel) (fun hc => ?_) (fun hc => ?_)
  · replace h := h.1 hc
    refine e_lda (v := 8) (show am_cd 1 103 = (2, 104, 0, 2, []) by decide +kernel) rfl ?_
    refine e_lda (v := 8) (show am_cd 1 104 = (2, 105, 0, 2, []) by decide +kernel) rfl ?_
    refine e_getr (a := 8) (r := 11) (show am_cd 1 105 = (18, 108, 2, 2, [18]) by decide +kernel) (by decide +kernel) (by decide +kernel) rfl ?_
    refine e_ic (show am_cd 1 108 = (0, 109, 0, 0, []) by decide +kernel) ?_
    refine e_ialdK (a := 11) (n := 28) (j := 0) (v := w 11 0) (show am_cd 1 109 = (21, 110, 0, 0, []) by decide +kernel) (by decide +kernel) (by decide +kernel) (by decide +kernel) (by decide +kernel) (by decide +kernel) rfl ?_
    refine e_putf (a := 8) (show am_cd 1 110 = (19, 113, 8, 0, [54]) by decide +kernel) (by decide +kernel) (by decide +kernel) rfl (fun h9 => absurd h9 (by decide)) (fun h9 => absurd h9 (by decide +kernel)) ?_
    exact e_retv (show am_cd 1 113 = (36, 114, 3, 0, []) by decide +kernel) (by decide +kernel) h
  · replace h := h.2 hc
    refine e_lda (v := 8) (show am_cd 1 39 = (2, 40, 0, 2, []) by decide +kernel) rfl ?_
    refine e_getr (a := 8) (r := 9) (show am_cd 1 40 = (18, 43, 0, 2, [9]) by decide +kernel) (by decide +kernel) (by decide +kernel) rfl ?_
    refine e_ldi (show am_cd 1 43 = (2, 44, 2, 0, []) by decide +kernel) rfl ?_
    refine e_lda (v := 2) (show am_cd 1 44 = (2, 45, 1, 2, []) by decide +kernel) rfl ?_
    refine e_getr (a := 2) (r := 4) (show am_cd 1 45 = (18, 48, 801, 2, [48]) by decide +kernel) (by decide +kernel) (by decide +kernel) rfl ?_
    refine e_ldi (show am_cd 1 48 = (2, 49, 2, 0, []) by decide +kernel) rfl ?_
    refine e_iald (a := 4) (n := 16) (show am_cd 1 49 = (21, 50, 0, 0, []) by decide +kernel) (by decide +kernel) (by decide +kernel) (by decide +kernel) h.1 ?_
    replace h := h.2
    refine e_iast (a := 9) (n := 16) (show am_cd 1 50 = (24, 51, 0, 0, []) by decide +kernel) (by decide +kernel) (by decide +kernel) (by decide +kernel) h.1 ?_
    replace h := h.2
    refine e_lda (v := 8) (show am_cd 1 51 = (2, 52, 0, 2, []) by decide +kernel) rfl ?_
    refine e_getr (a := 8) (r := 10) (show am_cd 1 52 = (18, 55, 1, 2, [15]) by decide +kernel) (by decide +kernel) (by decide +kernel) rfl ?_
    refine e_ldi (show am_cd 1 55 = (2, 56, 2, 0, []) by decide +kernel) rfl ?_
    refine e_lda (v := 2) (show am_cd 1 56 = (2, 57, 1, 2, []) by decide +kernel) rfl ?_
    refine e_getr (a := 2) (r := 5) (show am_cd 1 57 = (18, 60, 802, 2, [51]) by decide +kernel) (by decide +kernel) (by decide +kernel) rfl ?_
    refine e_ldi (show am_cd 1 60 = (2, 61, 2, 0, []) by decide +kernel) rfl ?_
    refine e_ialdE (a := 5) (n := 16) (v := w 5 (w32 p).toNat) (show am_cd 1 61 = (21, 62, 0, 0, []) by decide +kernel) (by decide +kernel) (by decide +kernel) (by decide +kernel) h.1 rfl ?_
    replace h := h.2
    refine e_iast (a := 10) (n := 16) (show am_cd 1 62 = (24, 63, 0, 0, []) by decide +kernel) (by decide +kernel) (by decide +kernel) (by decide +kernel) h.1 ?_
    replace h := h.2
    refine e_lda (v := 8) (show am_cd 1 63 = (2, 64, 0, 2, []) by decide +kernel) rfl ?_
    refine e_getr (a := 8) (r := 11) (show am_cd 1 64 = (18, 67, 2, 2, [18]) by decide +kernel) (by decide +kernel) (by decide +kernel) rfl ?_
    refine e_lda (v := 8) (show am_cd 1 67 = (2, 68, 0, 2, []) by decide +kernel) rfl ?_
    refine e_getr (a := 8) (r := 9) (show am_cd 1 68 = (18, 71, 0, 2, [9]) by decide +kernel) (by decide +kernel) (by decide +kernel) rfl ?_
    refine e_ldi (show am_cd 1 71 = (2, 72, 2, 0, []) by decide +kernel) rfl ?_
    refine e_ialdE (a := 9) (n := 16) (v := w 4 (w32 p).toNat) (show am_cd 1 72 = (21, 73, 0, 0, []) by decide +kernel) (by decide +kernel) (by decide +kernel) (by decide +kernel) h.1 (by simp [wu]) ?_
    replace h := h.2
    refine e_dup2 (show am_cd 1 73 = (14, 74, 0, 0, []) by decide +kernel) (by decide) ?_
    refine e_ialdE (a := 11) (n := 28) (v := w 11 (w32 (w 4 (w32 p).toNat)).toNat) (show am_cd 1 74 = (21, 75, 0, 0, []) by decide +kernel) (by decide +kernel) (by decide +kernel) (by decide +kernel) h.1 rfl ?_
    replace h := h.2
    refine e_ic (show am_cd 1 75 = (0, 76, 0, 1, []) by decide +kernel) ?_
    refine e_ldi (show am_cd 1 76 = (2, 77, 2, 0, []) by decide +kernel) rfl ?_
    refine e_ishl (show am_cd 1 77 = (5, 78, 6, 0, []) by decide +kernel) ?_
    refine e_ior (show am_cd 1 78 = (5, 79, 4, 0, []) by decide +kernel) ?_
    refine e_iast (a := 11) (n := 28) (show am_cd 1 79 = (24, 80, 0, 0, []) by decide +kernel) (by decide +kernel) (by decide +kernel) (by decide +kernel) h.1 ?_
    replace h := h.2
    refine e_lda (v := 8) (show am_cd 1 80 = (2, 81, 0, 2, []) by decide +kernel) rfl ?_
    refine e_getr (a := 8) (r := 12) (show am_cd 1 81 = (18, 84, 3, 2, [21]) by decide +kernel) (by decide +kernel) (by decide +kernel) rfl ?_
    refine e_lda (v := 8) (show am_cd 1 84 = (2, 85, 0, 2, []) by decide +kernel) rfl ?_
    refine e_getr (a := 8) (r := 10) (show am_cd 1 85 = (18, 88, 1, 2, [15]) by decide +kernel) (by decide +kernel) (by decide +kernel) rfl ?_
    refine e_ldi (show am_cd 1 88 = (2, 89, 2, 0, []) by decide +kernel) rfl ?_
    refine e_ialdE (a := 10) (n := 16) (v := w 5 (w32 p).toNat) (show am_cd 1 89 = (21, 90, 0, 0, []) by decide +kernel) (by decide +kernel) (by decide +kernel) (by decide +kernel) h.1 (by simp [wu]) ?_
    replace h := h.2
    refine e_dup2 (show am_cd 1 90 = (14, 91, 0, 0, []) by decide +kernel) (by decide) ?_
    refine e_ialdE (a := 12) (n := 28) (v := w 12 (w32 (w 5 (w32 p).toNat)).toNat) (show am_cd 1 91 = (21, 92, 0, 0, []) by decide +kernel) (by decide +kernel) (by decide +kernel) (by decide +kernel) h.1 rfl ?_
    replace h := h.2
    refine e_ic (show am_cd 1 92 = (0, 93, 0, 1, []) by decide +kernel) ?_
    refine e_ldi (show am_cd 1 93 = (2, 94, 2, 0, []) by decide +kernel) rfl ?_
    refine e_ishl (show am_cd 1 94 = (5, 95, 6, 0, []) by decide +kernel) ?_
    refine e_ior (show am_cd 1 95 = (5, 96, 4, 0, []) by decide +kernel) ?_
    refine e_iast (a := 12) (n := 28) (show am_cd 1 96 = (24, 97, 0, 0, []) by decide +kernel) (by decide +kernel) (by decide +kernel) (by decide +kernel) h.1 ?_
    replace h := h.2
    refine e_inc (la2 := [rA 8, rA 2, (0, p + 1)]) (show am_cd 1 97 = (4, 100, 2, 1, []) by decide +kernel) rfl rfl ?_
    refine e_go (show am_cd 1 100 = (12, 31, 0, 0, []) by decide +kernel) ?_
    exact h

def rpI (l : List (Int × Int)) (w : eW) (p : Nat) (w1 : eW) : Prop := Fc [9, 10, 11, 12] [(8, 6), (8, 7), (8, 8)] w w1 ∧ w1 8 6 = (l.length : Int) ∧ w1 8 7 = 0 ∧ (∀ q, q < p → w1 9 q = cdI (l.getD q (0, 0)).1 ∧ w1 10 q = cdI (l.getD q (0, 0)).2) ∧ ∀ c, c < 28 → w1 11 c = ((bts (fun q => decide (cdI (l.getD q (0, 0)).1 = (c : Int))) p : Nat) : Int) ∧ w1 12 c = ((bts (fun q => decide (cdI (l.getD q (0, 0)).2 = (c : Int))) p : Nat) : Int)
theorem bts_setI {f : Nat → Bool} {p : Nat} (hp : p < 30) : ior ((bts f p : Nat) : Int) (ishl 1 (p : Int)) = ((bts f p ||| 2 ^ p : Nat) : Int) := by
  have h1 := bts_lt f p
  have h2 : 2 ^ p ≤ 2 ^ 30 := Nat.pow_le_pow_right (by decide) (by omega)
  rw [i_set (by omega) (by omega), Int.toNat_natCast, Int.toNat_natCast]
theorem byS {f : Nat → Int} {x : Int} {p c : Nat} (hx : 0 ≤ x ∧ x ≤ 27) (hc : c < 28) (hp : p < 16) (hf : f p = x) {w1 w2 : eW} {A : Nat} (h1 : ∀ c, c < 28 → w1 A c = ((bts (fun q => decide (f q = (c : Int))) p : Nat) : Int)) (h2 : w2 A c = if c = x.toNat then ior (w1 A x.toNat) (ishl 1 (p : Int)) else w1 A c) : w2 A c = ((bts (fun q => decide (f q = (c : Int))) (p + 1) : Nat) : Int) := by
  rw [h2]
  unfold bts
  by_cases h : c = x.toNat
  · rw [if_pos h, h1 _ (by omega), bts_setI (by omega), hf, if_pos (by rw [decide_eq_true]; omega), h]
  · rw [if_neg h, h1 c hc, hf, if_neg (by rw [decide_eq_true_eq]; omega), Nat.or_zero]
theorem c_repl {d : Nat} {w : eW} {t : eT} {l : List (Int × Int)} (h : PrC w l ∧ w 2 7 = (l.length : Int) ∧ l.length ≤ 16 ∧ ∀ x ∈ l, okPr x) : Cl (d + 1) 1 [rA 8, rA 2] (enc w t) (fun r S2 => ∃ w2, r = none ∧ S2 = enc w2 t ∧ rpI l w l.length w2 ∧ w2 8 8 = w2 11 0) := by
  obtain ⟨hP, hn, hl, hok⟩ := h
  have hb : ∀ i, i < l.length → w 4 i = cdI (l.getD i (0, 0)).1 ∧ w 5 i = cdI (l.getD i (0, 0)).2 ∧ okPr (l.getD i (0, 0)) := fun i hi => by
    refine ⟨(hP i hi).1, (hP i hi).2, ?_⟩
    exact hok _ (gD_mem hi)
  refine g_repl ⟨⟨by decide, by decide, by decide, by decide⟩, ⟨by decide, by decide, by decide, by decide⟩, ?_⟩
  refine lq1 (σ := eW) (fun p w1 => Ev (d + 1) 1 (fun r S2 => ∃ w2, r = none ∧ S2 = enc w2 t ∧ rpI l w l.length w2 ∧ w2 8 8 = w2 11 0) 31 [rA 8, rA 2, (0, (p : Int))] [] (enc w1 t)) (rpI l w) l.length ?_ ?_ 0 _ (by omega) ?_
  · intro p w1 hp hI hE
    obtain ⟨i1, i2, i3, i4, i5⟩ := hI
    obtain ⟨b1, b2, b3⟩ := hb p hp
    have c1 := cdI_b b3.1
    have c2 := cdI_b b3.2.1
    refine g_repl0 ⟨fun hc => absurd hc (by rw [i2, w32_id (by omega), w32_id (by omega)]; omega), fun _ => ?_⟩
    rw [w32_id (x := (p : Int)) (by omega), Int.toNat_natCast, i1.row (a := 4) (by decide) (by decide), i1.row (a := 5) (by decide) (by decide), b1, b2, w32_id (x := cdI _) (by omega), w32_id (x := cdI (l.getD p (0, 0)).2) (by omega)]
    have hp' : (0 : Int) ≤ (p : Int) ∧ (p : Int) < 16 := by omega
    refine ⟨hp', hp', hp', hp', hp', by omega, by omega, hp', by omega, by omega, hE _ ?_⟩
    generalize hx : cdI (l.getD p (0, 0)).1 = x at *
    generalize hy : cdI (l.getD p (0, 0)).2 = y at *
    refine ⟨(((i1.tr (Fc.pr (by decide))).tr (Fc.pr (by decide))).tr (Fc.pr (by decide))).tr (Fc.pr (by decide)), i2, i3, fun q hq => ?_, fun c hc => ⟨?_, ?_⟩⟩
    · by_cases h9 : q = p
      · subst h9
        rw [hx, hy]
        simp [wu]
      · have := i4 q (by omega)
        rw [← this.1, ← this.2]
        simp [wu, h9]
    · refine byS (f := fun q => cdI (l.getD q (0, 0)).1) c1 hc (by omega) hx (fun c hc => (i5 c hc).1) ?_
      by_cases h9 : c = x.toNat
      · rw [if_pos h9]; simp [wu, h9]
      · rw [if_neg h9]; simp [wu, h9]
    · refine byS (f := fun q => cdI (l.getD q (0, 0)).2) c2 hc (by omega) hy (fun c hc => (i5 c hc).2) ?_
      by_cases h9 : c = y.toNat
      · rw [if_pos h9]; simp [wu, h9]
      · rw [if_neg h9]; simp [wu, h9]
  · intro w1 hI
    refine g_repl0 ⟨fun _ => ⟨_, rfl, rfl, ?_, rfl⟩, fun hc => absurd (by rw [hI.2.1]; exact Int.le_refl _) hc⟩
    obtain ⟨i1, i2, i3, i4, i5⟩ := hI
    exact ⟨i1.tr (Fc.pf (by decide)), i2, i3, i4, i5⟩
  · refine ⟨(((Fc.pf (by decide)).tr (Fc.pf (by decide))).tr (Fc.wfl (by decide))).tr (Fc.wfl (by decide)), ?_, ?_, fun q hq => absurd hq (Nat.not_lt_zero q), fun c hc => ⟨?_, ?_⟩⟩
    · rw [wfl_na (by decide), wfl_na (by decide)]; exact hn
    · rw [wfl_na (by decide), wfl_na (by decide)]; rfl
    · rw [wfl_na (by decide), wfl_at hc]; rfl
    · rw [wfl_at hc]; rfl

