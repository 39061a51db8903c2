/-! The model: holds, never. -/
theorem g_in {d : Nat} {Q : Option aV → aS → Prop} {w : eW} {t : eT} {v lo hi : Int} (h : ((w64 v < w64 lo → Q (some (0, 0)) (enc w t)) ∧ (¬ (w64 v < w64 lo) → ((w64 hi < w64 v → Q (some (0, 0)) (enc w t)) ∧ (¬ (w64 hi < w64 v) → Q (some (0, 1)) (enc w t)))))) : Cl (d) 165 [(1, v), (1, lo), (1, hi)] (enc w t) Q := by
  show Ev (d) 165 Q 0 [(1, v), (9, 0), (1, lo), (9, 0), (1, hi), (9, 0)] [] (enc w t)
  refine e_ldl (show am_cd 165 0 = (2, 1, 0, 1, []) by decide +kernel) rfl ?_
  refine e_ldl (show am_cd 165 1 = (2, 2, 2, 1, []) by decide +kernel) rfl ?_
  refine e_lcb2 (show am_cd 165 2 = (9, 3, 0, 0, []) by decide +kernel) (show am_cd 165 3 = (10, 6, 17, 2, []) by decide +kernel) (fun hc => ?_) (fun hc => ?_)
  · replace h := h.1 hc
    refine e_ic (show am_cd 165 17 = (0, 18, 0, 0, []) by decide +kernel) ?_
    exact e_retz (show am_cd 165 18 = (36, 19, 0, 0, []) by decide +kernel) (by decide +kernel) (Or.inl rfl) h
  · replace h := h.2 hc
    refine e_ldl (show am_cd 165 6 = (2, 7, 0, 1, []) by decide +kernel) rfl ?_
    refine e_ldl (show am_cd 165 7 = (2, 9, 4, 1, []) by decide +kernel) rfl ?_
    refine e_lcb4 (show am_cd 165 9 = (9, 10, 0, 0, []) by decide +kernel) (show am_cd 165 10 = (10, 13, 17, 4, []) by decide +kernel) (fun hc => ?_) (fun hc => ?_)
    · replace h := h.1 hc
      refine e_ic (show am_cd 165 17 = (0, 18, 0, 0, []) by decide +kernel) ?_
      exact e_retz (show am_cd 165 18 = (36, 19, 0, 0, []) by decide +kernel) (by decide +kernel) (Or.inl rfl) h
    · replace h := h.2 hc
      refine e_ic (show am_cd 165 13 = (0, 14, 0, 1, []) by decide +kernel) ?_
      refine e_go (show am_cd 165 14 = (12, 18, 0, 0, []) by decide +kernel) ?_
      exact e_retz (show am_cd 165 18 = (36, 19, 0, 0, []) by decide +kernel) (by decide +kernel) (Or.inr rfl) h

theorem c_in {d : Nat} {w : eW} {t : eT} {v lo hi : Int} : Cl d 165 [(1, v), (1, lo), (1, hi)] (enc w t) (fun z S2 => z = some (0, bI (decide (w64 lo ≤ w64 v ∧ w64 v ≤ w64 hi))) ∧ S2 = enc w t) := by
  refine g_in ⟨fun h1 => ⟨?_, by trivial⟩, fun h1 => ⟨fun h2 => ⟨?_, by trivial⟩, fun h2 => ⟨?_, by trivial⟩⟩⟩
  · rw [decide_eq_false (by omega)]; rfl
  · rw [decide_eq_false (by omega)]; rfl
  · rw [decide_eq_true (by omega)]; rfl
def fw (m : eW) (wt : Nat) : Nat := fsN (fun n => hB m wt n 0 16 16 16) 6 1
def fwI (m : eW) (wt : Nat) : Int := if fw m wt = 7 then -1 else (fw m wt : Int)
theorem fsN_none {P : Nat → Bool} : ∀ (k i : Nat), (∀ j, i ≤ j → j < i + k → P j = false) → fsN P k i = i + k := by
  intro k
  induction k with
  | zero => intro i _; rfl
  | succ k ih =>
    intro i h
    unfold fsN
    rw [if_neg (by rw [h i (Nat.le_refl _) (by omega)]; decide), ih (i + 1) (fun j h1 h2 => h j (by omega) (by omega))]
    omega
theorem fsN_le {P : Nat → Bool} : ∀ (k i : Nat), i ≤ fsN P k i ∧ fsN P k i ≤ i + k := by
  intro k
  induction k with
  | zero => intro i; exact ⟨Nat.le_refl _, Nat.le_refl _⟩
  | succ k ih =>
    intro i
    unfold fsN
    split
    · omega
    · have := ih (i + 1); omega
theorem fw_le (m : eW) (wt : Nat) : 1 ≤ fw m wt ∧ fw m wt ≤ 7 := fsN_le 6 1

theorem g_few0 {d : Nat} {Q : Option aV → aS → Prop} {w : eW} {t : eT} {p : Int} {m : eW} {wt : Nat} (h : ∀ w1, (FrT w w1 ∧ w1 67 38 = 0 ∧ DV w1 (fun _ => none)) → Ev (d + 13) 217 Q 11 [rA 67, (0, p), (0, 1)] [] (enc (wu w1 67 45 p) t)) : Cl (d + 13) 217 [rA 67, (0, p)] (enc w t) Q := by
  show Ev (d + 13) 217 Q 0 [rA 67, (0, p), (9, 0)] [] (enc w t)
  refine e_lda (v := 67) (show am_cd 217 0 = (2, 1, 0, 2, []) by decide +kernel) rfl ?_
  refine e_cV (z := 0) (a := 67) (as := []) (rest := []) (show am_cd 217 1 = (40, 4, 208, 0, [311]) by decide +kernel) (by decide +kernel) rfl rfl (Nat.le_of_ble_eq_true rfl) rfl ?_
  refine Cl.mono (Cl.up (c_forget (d := d)) (by omega)) ?_
  rintro _ _ ⟨w1, rfl, rfl, hp⟩
  refine ⟨fun _ h9 => (by cases h9), ?_⟩
  replace h := h w1 hp
  show Ev _ 217 _ 4 [rA 67, (0, p), (9, 0)] [] _
  refine e_lda (v := 67) (show am_cd 217 4 = (2, 5, 0, 2, []) by decide +kernel) rfl ?_
  refine e_ldi (show am_cd 217 5 = (2, 6, 1, 0, []) by decide +kernel) rfl ?_
  refine e_putf (a := 67) (show am_cd 217 6 = (19, 9, 1245, 0, [301]) by decide +kernel) (by decide +kernel) (by decide +kernel) rfl (fun h9 => absurd h9 (by decide)) (fun h9 => absurd h9 (by decide +kernel)) ?_
  refine e_ic (show am_cd 217 9 = (0, 10, 0, 1, []) by decide +kernel) ?_
  refine e_sti (la2 := [rA 67, (0, p), (0, 1)]) (show am_cd 217 10 = (3, 11, 2, 0, []) by decide +kernel) rfl ?_
  exact h

theorem g_few1 {d : Nat} {Q : Option aV → aS → Prop} {w : eW} {t : eT} {p i : Int} {m : eW} {wt : Nat} (h : ((w32 6 < w32 i → Q (some (0, (-1))) (enc w t)) ∧ (¬ (w32 6 < w32 i) → (HPR m wt 7 i 0 16 16 16 w t) ∧ (∀ x1 w2 t3, (HPO m wt i 0 16 16 16 w t x1 w2 t3) → ((w32 x1 = 0 → Ev (d + 13) 217 Q 11 [rA 67, (0, p), (0, i + 1)] [] (enc w2 t3)) ∧ (¬ (w32 x1 = 0) → Q (some (0, i)) (enc w2 t3))))))) : Ev (d + 13) 217 Q 11 [rA 67, (0, p), (0, i)] [] (enc w t) := by
  refine e_ldi (show am_cd 217 11 = (2, 12, 2, 0, []) by decide +kernel) rfl ?_
  refine e_ic (show am_cd 217 12 = (0, 14, 1, 6, []) by decide +kernel) ?_
  refine e_cmp4 (show am_cd 217 14 = (11, 17, 40, 4, []) by decide +kernel) (fun hc => ?_) (fun hc => ?_)
  · replace h := h.1 hc
    refine e_ic (show am_cd 217 40 = (0, 41, 0, -1, []) by decide +kernel) ?_
    exact e_reti (show am_cd 217 41 = (36, 42, 0, 0, []) by decide +kernel) (by decide +kernel) h
  · replace h := h.2 hc
    refine e_lda (v := 67) (show am_cd 217 17 = (2, 18, 0, 2, []) by decide +kernel) rfl ?_
    refine e_ldi (show am_cd 217 18 = (2, 19, 2, 0, []) by decide +kernel) rfl ?_
    refine e_ic (show am_cd 217 19 = (0, 20, 0, 0, []) by decide +kernel) ?_
    refine e_ic (show am_cd 217 20 = (0, 22, 1, 16, []) by decide +kernel) ?_
    refine e_ic (show am_cd 217 22 = (0, 24, 1, 16, []) by decide +kernel) ?_
    refine e_ic (show am_cd 217 24 = (0, 26, 1, 16, []) by decide +kernel) ?_
    refine e_cV (z := 0) (a := 67) (as := [(0, i), (0, 0), (0, 16), (0, 16), (0, 16)]) (rest := []) (show am_cd 217 26 = (40, 29, 216, 0, [304]) by decide +kernel) (by decide +kernel) rfl rfl (Nat.le_of_ble_eq_true rfl) rfl ?_
    refine Cl.mono (Cl.up (c_holdsFromB (d := d) 7 _ _ _ _ _ _ _ h.1) (by omega)) ?_
    rintro _ _ ⟨x1, w2, t3, rfl, rfl, hp⟩
    refine ⟨fun _ h9 => (by cases h9), ?_⟩
    replace h := h.2 x1 w2 t3 hp
    show Ev _ 217 _ 29 [rA 67, (0, p), (0, i)] [(0, x1)] _
    refine e_if0 (show am_cd 217 29 = (10, 32, 34, 0, []) by decide +kernel) (fun hc => ?_) (fun hc => ?_)
    · replace h := h.1 hc
      refine e_inc (la2 := [rA 67, (0, p), (0, i + 1)]) (show am_cd 217 34 = (4, 37, 2, 1, []) by decide +kernel) rfl rfl ?_
      refine e_go (show am_cd 217 37 = (12, 11, 0, 0, []) by decide +kernel) ?_
      exact h
    · replace h := h.2 hc
      refine e_ldi (show am_cd 217 32 = (2, 33, 2, 0, []) by decide +kernel) rfl ?_
      exact e_reti (show am_cd 217 33 = (36, 34, 0, 0, []) by decide +kernel) (by decide +kernel) h

theorem c_fewestWith {d : Nat} {m w : eW} {t : eT} {p : Int} (h : MG w m ∧ w 67 35 = -1 ∧ gP m p) : Cl (d + 13) 217 [rA 67, (0, p)] (enc w t) (fun r S2 => ∃ w2, r = some (0, fwI m p.toNat) ∧ S2 = enc w2 t ∧ Fm [92, 93] [38, 45] w w2 ∧ KnW (PmH m p.toNat) w2 ∧ w2 67 45 = p) := by
  obtain ⟨hm, hwo, hp⟩ := h
  unfold gP at hp
  have hw01 : ∀ b : Bool, w32 (bI b) = 0 ↔ b = false := fun b => by rw [bI_w, bI_0]
  refine g_few0 (m := m) (wt := p.toNat) (fun w1 h1 => ?_)
  obtain ⟨f1, f2, f3⟩ := h1
  have q0 : Fm [92, 93] [38, 45] w (wu w1 67 45 p) := (f1.m.mo (by decide) (by decide)).tr (Fm.pf (by decide))
  have main : ∀ (k i : Nat) (σ : eW), i + k = 7 → 1 ≤ i → fw m p.toNat = fsN (fun n => hB m p.toNat n 0 16 16 16) k i → Fm [92, 93] [38, 45] w σ → KnW (PmH m p.toNat) σ → σ 67 45 = p → Ev (d + 13) 217 (fun r S2 => ∃ w2, r = some (0, fwI m p.toNat) ∧ S2 = enc w2 t ∧ Fm [92, 93] [38, 45] w w2 ∧ KnW (PmH m p.toNat) w2 ∧ w2 67 45 = p) 11 [rA 67, (0, p), (0, (i : Int))] [] (enc σ t) := by
    intro k
    induction k with
    | zero =>
      intro i σ hi h1 hfw q1 q2 q3
      refine g_few1 (m := m) (wt := p.toNat) ?_
      simp (disch := omega) only [w32_id]
      refine ⟨fun _ => ⟨σ, ?_, rfl, q1, q2, q3⟩, fun h9 => (by omega)⟩
      unfold fwI
      rw [if_pos (by rw [hfw]; exact hi)]
    | succ k ih =>
      intro i σ hi h1 hfw q1 q2 q3
      refine g_few1 (m := m) (wt := p.toNat) ?_
      simp (disch := omega) only [w32_id]
      refine ⟨fun h9 => (by omega), fun _ => ⟨⟨⟨hm.m q1 (by decide) (by decide), by rw [q1.2 35 (by decide)]; exact hwo, by rw [q3]; omega, by omega⟩, q2, ⟨by omega, by omega, by omega⟩, ⟨by decide, by decide⟩, ⟨gE16, gE16, ⟨by decide, Or.inr rfl⟩⟩⟩, fun x w2 t2 hpo => ?_⟩⟩
      obtain ⟨p1, p2, p3, p4⟩ := hpo
      subst p2
      rw [Int.toNat_natCast, show (0 : Int).toNat = 0 from rfl, show (16 : Int).toNat = 16 from rfl] at p1
      rw [p1, hw01]
      have q1b : Fm [92, 93] [38, 45] w w2 := q1.tr (p3.m.mo (by decide) (by decide))
      have q3b : w2 67 45 = p := by rw [p3.2 45 (by decide)]; exact q3
      refine ⟨fun h2 => ?_, fun h2 => ⟨w2, ?_, rfl, q1b, p4, q3b⟩⟩
      · refine ih (i + 1) w2 (by omega) (by omega) ?_ q1b p4 q3b
        rw [hfw, fsN, if_neg (by rw [h2]; decide)]
      · have h2' : hB m p.toNat i 0 16 16 16 = true := by cases hh : hB m p.toNat i 0 16 16 16; exact absurd hh h2; rfl
        rw [fsN, if_pos h2'] at hfw
        unfold fwI
        rw [hfw, if_neg (by omega)]
  refine main 6 1 (wu w1 67 45 p) rfl (Nat.le_refl _) rfl q0 ?_ (wu_eq _ _ _ _)
  exact (KnW.nil f3).fld (by decide)
/-- the next pair of the first good row that holds the wanted one -/
def hnx (m : eW) (wt n z a b c : Nat) : Nat := fsN (fun d => goes m (-1) a b c d && hB m wt n (if d = wt then 1 else z) b c d) (nP m) 0
def hpt (m : eW) (wt : Nat) : Nat → Nat → Nat → Nat → Nat → List Nat
  | 0, _, _, _, _ => []
  | n + 1, z, a, b, c => hnx m wt n z a b c :: hpt m wt n (if hnx m wt n z a b c = wt then 1 else z) b c (hnx m wt n z a b c)
theorem hnx_ok {m : eW} {wt n z a b c : Nat} (h : hB m wt (n + 1) z a b c = true) : hnx m wt n z a b c < nP m ∧ goes m (-1) a b c (hnx m wt n z a b c) = true ∧ hB m wt n (if hnx m wt n z a b c = wt then 1 else z) b c (hnx m wt n z a b c) = true ∧ ∀ d, d < hnx m wt n z a b c → (goes m (-1) a b c d && hB m wt n (if d = wt then 1 else z) b c d) = false := by
  unfold hB at h
  obtain ⟨d, h1, h2⟩ := an_iff.mp h
  obtain ⟨q1, q2, q3, q4⟩ := fsN_spec (P := fun d => goes m (-1) a b c d && hB m wt n (if d = wt then 1 else z) b c d) (nP m) 0 ⟨d, Nat.zero_le _, by omega, h2⟩
  have e : fsN (fun d => goes m (-1) a b c d && hB m wt n (if d = wt then 1 else z) b c d) (nP m) 0 = hnx m wt n z a b c := rfl
  rw [e] at q1 q3 q4
  rw [Bool.and_eq_true] at q1
  exact ⟨by omega, q1.1, q1.2, fun d h9 => q4 d (Nat.zero_le _) h9⟩

