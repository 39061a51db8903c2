/-! The model: conflict, conflicts. -/
def fcN (m : eW) (a b : Nat) : Nat := if unl m a b then fsN (fun n => (fnd m a b n []).isSome) 4 1 else 5
def fcI (m : eW) (a b : Nat) : Int := if fcN m a b = 5 then -2 else (fcN m a b : Int)
def fcR (m : eW) (a b : Nat) : List Nat := (fnd m a b (fcN m a b) []).getD []
theorem fcN_le (m : eW) (a b : Nat) : 1 ≤ fcN m a b ∧ fcN m a b ≤ 5 := by
  unfold fcN
  split
  · exact fsN_le 4 1
  · omega
def RowM (w : eW) (rl : List Int) : Prop := w 67 25 = (rl.length : Int) ∧ rl.length ≤ 24 ∧ ∀ i, i < rl.length → w 86 i = rl.getD i 0

theorem g_few_c0 {d : Nat} {Q : Option aV → aS → Prop} {w : eW} {t : eT} {a b : Int} {m : eW} {ks : kT} {ml : List Nat} (h : (MG w m ∧ gR m a ∧ gR m b) ∧ (((unl m a.toNat b.toNat) = true → Ev (d + 10) 225 Q 14 [rA 67, (0, a), (0, b), (0, 1)] [] (enc w t)) ∧ ((unl m a.toNat b.toNat) = false → Q (some (0, (-2))) (enc w t)))) : Cl (d + 10) 225 [rA 67, (0, a), (0, b)] (enc w t) Q := by
  show Ev (d + 10) 225 Q 0 [rA 67, (0, a), (0, b), (9, 0)] [] (enc w t)
  refine e_lda (v := 67) (show am_cd 225 0 = (2, 1, 0, 2, []) by decide +kernel) rfl ?_
  refine e_ldi (show am_cd 225 1 = (2, 2, 1, 0, []) by decide +kernel) rfl ?_
  refine e_ldi (show am_cd 225 2 = (2, 3, 2, 0, []) by decide +kernel) rfl ?_
  refine e_cV (z := 0) (a := 67) (as := [(0, a), (0, b)]) (rest := []) (show am_cd 225 3 = (40, 6, 221, 0, [339]) by decide +kernel) (by decide +kernel) rfl rfl (Nat.le_of_ble_eq_true rfl) rfl ?_
  refine Cl.mono (Cl.up (c_areUnlike (d := d) h.1) (by omega)) ?_
  rintro _ _ ⟨rfl, rfl⟩
  refine ⟨fun _ h9 => (by cases h9), ?_⟩
  replace h := h.2
  show Ev _ 225 _ 6 [rA 67, (0, a), (0, b), (9, 0)] [(0, bI (unl m a.toNat b.toNat))] _
  refine e_ifb1 (show am_cd 225 6 = (10, 9, 12, 1, []) by decide +kernel) (fun hc => ?_) (fun hc => ?_)
  · replace h := h.1 hc
    refine e_ic (show am_cd 225 12 = (0, 13, 0, 1, []) by decide +kernel) ?_
    refine e_sti (la2 := [rA 67, (0, a), (0, b), (0, 1)]) (show am_cd 225 13 = (3, 14, 3, 0, []) by decide +kernel) rfl ?_
    exact h
  · replace h := h.2 hc
    refine e_ic (show am_cd 225 9 = (0, 11, 1, -2, []) by decide +kernel) ?_
    exact e_reti (show am_cd 225 11 = (36, 12, 0, 0, []) by decide +kernel) (by decide +kernel) h

theorem g_few_c1 {d : Nat} {Q : Option aV → aS → Prop} {w : eW} {t : eT} {a b i : Int} {m : eW} {ks : kT} {ml : List Nat} (h : ((w32 4 < w32 i → Q (some (0, (-2))) (enc w t)) ∧ (¬ (w32 4 < w32 i) → ∃ g1, (KPR m 5 g1 a b i (wu w 67 40 0) t) ∧ (∀ x2 w3 t4, (KPO m g1 a b i (wu w 67 40 0) t x2 w3 t4) → ((w32 x2 = 0 → Ev (d + 10) 225 Q 14 [rA 67, (0, a), (0, b), (0, i + 1)] [] (enc w3 t4)) ∧ (¬ (w32 x2 = 0) → Q (some (0, i)) (enc w3 t4))))))) : Ev (d + 10) 225 Q 14 [rA 67, (0, a), (0, b), (0, i)] [] (enc w t) := by
  refine e_ldi (show am_cd 225 14 = (2, 15, 3, 0, []) by decide +kernel) rfl ?_
  refine e_ic (show am_cd 225 15 = (0, 16, 0, 4, []) by decide +kernel) ?_
  refine e_cmp4 (show am_cd 225 16 = (11, 19, 42, 4, []) by decide +kernel) (fun hc => ?_) (fun hc => ?_)
  · replace h := h.1 hc
    refine e_ic (show am_cd 225 42 = (0, 44, 1, -2, []) by decide +kernel) ?_
    exact e_reti (show am_cd 225 44 = (36, 45, 0, 0, []) by decide +kernel) (by decide +kernel) h
  · replace h := h.2 hc
    refine e_lda (v := 67) (show am_cd 225 19 = (2, 20, 0, 2, []) by decide +kernel) rfl ?_
    refine e_ic (show am_cd 225 20 = (0, 21, 0, 0, []) by decide +kernel) ?_
    refine e_putf (a := 67) (show am_cd 225 21 = (19, 24, 1240, 0, [272]) by decide +kernel) (by decide +kernel) (by decide +kernel) rfl (fun h9 => absurd h9 (by decide)) (fun h9 => absurd h9 (by decide +kernel)) ?_
    refine e_lda (v := 67) (show am_cd 225 24 = (2, 25, 0, 2, []) by decide +kernel) rfl ?_
    refine e_ldi (show am_cd 225 25 = (2, 26, 1, 0, []) by decide +kernel) rfl ?_
    refine e_ldi (show am_cd 225 26 = (2, 27, 2, 0, []) by decide +kernel) rfl ?_
    refine e_ldi (show am_cd 225 27 = (2, 28, 3, 0, []) by decide +kernel) rfl ?_
    refine e_cV (z := 0) (a := 67) (as := [(0, a), (0, b), (0, i)]) (rest := []) (show am_cd 225 28 = (40, 31, 224, 0, [336]) by decide +kernel) (by decide +kernel) rfl rfl (Nat.le_of_ble_eq_true rfl) rfl ?_
    obtain ⟨g1, h⟩ := h
    refine Cl.mono (Cl.up (c_clashesB (d := d) 5 g1 _ _ _ _ _ h.1) (by omega)) ?_
    rintro _ _ ⟨x2, w3, t4, rfl, rfl, hp⟩
    refine ⟨fun _ h9 => (by cases h9), ?_⟩
    replace h := h.2 x2 w3 t4 hp
    show Ev _ 225 _ 31 [rA 67, (0, a), (0, b), (0, i)] [(0, x2)] _
    refine e_if0 (show am_cd 225 31 = (10, 34, 36, 0, []) by decide +kernel) (fun hc => ?_) (fun hc => ?_)
    · replace h := h.1 hc
      refine e_inc (la2 := [rA 67, (0, a), (0, b), (0, i + 1)]) (show am_cd 225 36 = (4, 39, 3, 1, []) by decide +kernel) rfl rfl ?_
      refine e_go (show am_cd 225 39 = (12, 14, 0, 0, []) by decide +kernel) ?_
      exact h
    · replace h := h.2 hc
      refine e_ldi (show am_cd 225 34 = (2, 35, 3, 0, []) by decide +kernel) rfl ?_
      exact e_reti (show am_cd 225 35 = (36, 36, 0, 0, []) by decide +kernel) (by decide +kernel) h

theorem c_fewestClash {d : Nat} {m w : eW} {t : eT} {a b : Int} (h : MG w m ∧ gR m a ∧ gR m b) : Cl (d + 10) 225 [rA 67, (0, a), (0, b)] (enc w t) (fun r S2 => ∃ w2, r = some (0, fcI m a.toNat b.toNat) ∧ S2 = enc w2 t ∧ Fm [94] [40, 46] w w2 ∧ (fcN m a.toNat b.toNat ≠ 5 → MdM w2 (fcR m a.toNat b.toNat) ∧ w2 67 46 = clI m a.toNat b.toNat (fcR m a.toNat b.toNat))) := by
  obtain ⟨hm, ha, hb⟩ := h
  refine g_few_c0 (m := m) (ks := []) (ml := []) ⟨⟨hm, ha, hb⟩, fun h1 => ?_, fun h1 => ?_⟩
  · have main : ∀ (k i : Nat) (σ : eW), i + k = 5 → 1 ≤ i → fcN m a.toNat b.toNat = fsN (fun n => (fnd m a.toNat b.toNat n []).isSome) k i → Fm [94] [40, 46] w σ → Ev (d + 10) 225 (fun r S2 => ∃ w2, r = some (0, fcI m a.toNat b.toNat) ∧ S2 = enc w2 t ∧ Fm [94] [40, 46] w w2 ∧ (fcN m a.toNat b.toNat ≠ 5 → MdM w2 (fcR m a.toNat b.toNat) ∧ w2 67 46 = clI m a.toNat b.toNat (fcR m a.toNat b.toNat))) 14 [rA 67, (0, a), (0, b), (0, (i : Int))] [] (enc σ t) := by
      intro k
      induction k with
      | zero =>
        intro i σ hi hi1 hf q1
        refine g_few_c1 (m := m) (ks := []) (ml := []) ?_
        simp (disch := omega) only [w32_id]
        have h5 : fcN m a.toNat b.toNat = 5 := by rw [hf]; exact hi
        refine ⟨fun _ => ⟨σ, ?_, rfl, q1, fun h9 => absurd h5 h9⟩, fun h9 => (by omega)⟩
        unfold fcI
        rw [if_pos h5]
      | succ k ih =>
        intro i σ hi hi1 hf q1
        refine g_few_c1 (m := m) (ks := []) (ml := []) ?_
        simp (disch := omega) only [w32_id]
        have q2 : Fm [94] [40, 46] w (wu σ 67 40 0) := q1.tr (Fm.pf (by decide))
        refine ⟨fun h9 => (by omega), fun _ => ⟨[], ⟨hm.m q2 (by decide) (by decide), ha, hb, MdM.nil (wu_eq _ _ _ _), fun p hp => (by cases hp), by simp only [List.length_nil]; omega, by omega, by simp only [List.length_nil]; omega⟩, fun x w3 t3 hp => ?_⟩⟩
        obtain ⟨p1, p2, p3, p4, p5⟩ := hp
        subst p2
        rw [Int.toNat_natCast] at p1 p4 p5
        rw [p1, bI_w, bI_0]
        refine ⟨fun h2 => ih (i + 1) w3 (by omega) (by omega) ?_ (q2.tr p3), fun h2 => ⟨w3, ?_, rfl, q2.tr p3, fun _ => ?_⟩⟩
        · rw [hf, fsN, if_neg (by rw [h2]; decide)]
        · have h2' : (fnd m a.toNat b.toNat i []).isSome = true := by cases hh : (fnd m a.toNat b.toNat i []).isSome; exact absurd hh h2; rfl
          rw [fsN, if_pos h2'] at hf
          unfold fcI
          rw [hf, if_neg (by omega)]
        · have h2' : (fnd m a.toNat b.toNat i []).isSome = true := by cases hh : (fnd m a.toNat b.toNat i []).isSome; exact absurd hh h2; rfl
          rw [fsN, if_pos h2'] at hf
          unfold fcR
          rw [hf]
          rw [List.nil_append] at p4 p5
          exact ⟨p4, p5 h2'⟩
    refine main 4 1 w rfl (Nat.le_refl _) ?_ (Fm.rf _ _ _)
    unfold fcN
    rw [h1, if_pos rfl]
  · have h5 : fcN m a.toNat b.toNat = 5 := by unfold fcN; rw [h1, if_neg (by decide)]
    refine ⟨w, ?_, rfl, Fm.rf _ _ _, fun h9 => absurd h5 h9⟩
    unfold fcI
    rw [if_pos h5]

