/-! The model: the closest row. -/
/-- the first place from i on (k of them) where P holds -/
def fsN (P : Nat → Bool) : Nat → Nat → Nat
  | 0, i => i
  | k + 1, i => if P i then i else fsN P k (i + 1)
theorem fsN_spec {P : Nat → Bool} : ∀ (k i : Nat), (∃ j, i ≤ j ∧ j < i + k ∧ P j = true) → P (fsN P k i) = true ∧ i ≤ fsN P k i ∧ fsN P k i < i + k ∧ ∀ j, i ≤ j → j < fsN P k i → P j = false := by
  intro k
  induction k with
  | zero => rintro i ⟨j, h1, h2, h3⟩; omega
  | succ k ih =>
    rintro i ⟨j, h1, h2, h3⟩
    unfold fsN
    by_cases hp : P i = true
    · rw [if_pos hp]
      exact ⟨hp, Nat.le_refl _, by omega, fun j h4 h5 => by omega⟩
    · rw [if_neg hp]
      have hji : j ≠ i := fun h9 => hp (by rw [← h9]; exact h3)
      obtain ⟨q1, q2, q3, q4⟩ := ih (i + 1) ⟨j, by omega, by omega, h3⟩
      refine ⟨q1, by omega, by omega, fun y h4 h5 => ?_⟩
      by_cases hy : y = i
      · subst hy; cases hh : P y; rfl; exact absurd hh hp
      · exact q4 y (by omega) h5
def frs (m : eW) (lu : Nat → Int) (nu : Nat) (ll : Nat → Int) (nl i j a b c : Nat) : Nat := fsN (fun d => decide (clG m lu nu ll nl i j a b c d = cl m lu nu ll nl i j a b c)) (nP m) 0
/-- the first row with the least faults -/
def pth (m : eW) (lu : Nat → Int) (nu : Nat) (ll : Nat → Int) (nl : Nat) : Nat → Nat → Nat → Nat → Nat → Nat → List Nat
  | 0, _, _, _, _, _ => []
  | f + 1, i, j, a, b, c => if i = nu ∧ j = nl then [] else frs m lu nu ll nl i j a b c :: pth m lu nu ll nl f ((upT m lu nu i (frs m lu nu ll nl i j a b c)).getD 0) ((loT m ll nl j (frs m lu nu ll nl i j a b c)).getD 0) b c (frs m lu nu ll nl i j a b c)
theorem cl_end {m : eW} (hp : WFp m) (hr : nR m ≤ 8) {lu ll : Nat → Int} {nu nl a b c : Nat} (hnu : nu ≤ 6) (hnl : nl ≤ 6) : cl m lu nu ll nl nu nl a b c = brs m (-1) a b c 16 := by
  rw [cl_eq hp hnu hnl (Nat.le_refl _) (Nat.le_refl _), if_pos ⟨rfl, rfl⟩]
  have h1 := mn_le (brs m (-1) a b c 16) (clG m lu nu ll nl nu nl a b c) (nP m)
  rcases mn_is (x := brs m (-1) a b c 16) (g := clG m lu nu ll nl nu nl a b c) (n := nP m) with h | ⟨i, hi, h⟩
  · exact h
  · exfalso
    have hb := brs_le m (-1) a b c 16
    cases hu : upT m lu nu nu i with
    | none => rw [clG_n1 hu] at h; omega
    | some u =>
      cases hl : loT m ll nl nl i with
      | none => rw [clG_n2 hl] at h; omega
      | some l =>
        have := both_down hp hi (Nat.le_refl _) (Nat.le_refl _) hu hl
        omega
/-- where the least is reached: a pair that goes on so -/
theorem frs_ok {m : eW} (hp : WFp m) {lu ll : Nat → Int} {nu nl i j a b c : Nat} (hnu : nu ≤ 6) (hnl : nl ≤ 6) (hi : i ≤ nu) (hj : j ≤ nl) (he : ¬ (i = nu ∧ j = nl)) (hc : cl m lu nu ll nl i j a b c < 1000000) : frs m lu nu ll nl i j a b c < nP m ∧ clG m lu nu ll nl i j a b c (frs m lu nu ll nl i j a b c) = cl m lu nu ll nl i j a b c ∧ (∀ d, d < frs m lu nu ll nl i j a b c → ¬ clG m lu nu ll nl i j a b c d = cl m lu nu ll nl i j a b c) ∧ ∃ u l, upT m lu nu i (frs m lu nu ll nl i j a b c) = some u ∧ loT m ll nl j (frs m lu nu ll nl i j a b c) = some l ∧ cl m lu nu ll nl u l b c (frs m lu nu ll nl i j a b c) < 1000000 := by
  have heq := cl_eq hp (lu := lu) (ll := ll) (a := a) (b := b) (c := c) hnu hnl hi hj
  rw [if_neg he] at heq
  have hex : ∃ d, d < nP m ∧ clG m lu nu ll nl i j a b c d = cl m lu nu ll nl i j a b c := by
    rcases mn_is (x := 1000000) (g := clG m lu nu ll nl i j a b c) (n := nP m) with h | ⟨d, hd, h⟩
    · omega
    · exact ⟨d, hd, by rw [heq, h]⟩
  obtain ⟨d, hd, h⟩ := hex
  obtain ⟨q1, q2, q3, q4⟩ := fsN_spec (P := fun d => decide (clG m lu nu ll nl i j a b c d = cl m lu nu ll nl i j a b c)) (nP m) 0 ⟨d, Nat.zero_le _, by omega, decide_eq_true h⟩
  have q1' := of_decide_eq_true q1
  have e : fsN (fun d => decide (clG m lu nu ll nl i j a b c d = cl m lu nu ll nl i j a b c)) (nP m) 0 = frs m lu nu ll nl i j a b c := rfl
  rw [e] at q1' q3 q4
  refine ⟨by omega, q1', fun d h1 => of_decide_eq_false (q4 d (Nat.zero_le _) h1), ?_⟩
  cases hu : upT m lu nu i (frs m lu nu ll nl i j a b c) with
  | none => rw [clG_n1 hu] at q1'; omega
  | some u =>
    cases hl : loT m ll nl j (frs m lu nu ll nl i j a b c) with
    | none => rw [clG_n2 hl] at q1'; omega
    | some l =>
      refine ⟨u, l, rfl, rfl, ?_⟩
      rw [clG_s hu hl] at q1'
      split at q1' <;> omega

theorem g_isClosest {d : Nat} {Q : Option aV → aS → Prop} {w : eW} {t : eT} {i j a b c p v : Int} {m : eW} {lu ll : Nat → Int} {nu nl : Nat} {wo : Int} {J J2 J3 : aV} (hw : w32 wo = wo) (h : (MG w m ∧ UpM w lu nu ∧ (0 ≤ i ∧ i ≤ nu) ∧ gP m p) ∧ (MG w m ∧ LoM w ll nl ∧ (0 ≤ j ∧ j ≤ nl) ∧ gP m p) ∧ ((w32 (oI (upT m lu nu i.toNat p.toNat)) = w32 (-1) → Q (some (0, 0)) (enc w t)) ∧ (¬ (w32 (oI (upT m lu nu i.toNat p.toNat)) = w32 (-1)) → ((w32 (oI (loT m ll nl j.toNat p.toNat)) = w32 (-1) → Q (some (0, 0)) (enc w t)) ∧ (¬ (w32 (oI (loT m ll nl j.toNat p.toNat)) = w32 (-1)) → (MG w m ∧ gC m c ∧ gC m p) ∧ (((!(isI m c.toNat && isI m p.toNat)) = false → Q (some (0, 0)) (enc w t)) ∧ ((!(isI m c.toNat && isI m p.toNat)) = true → (MG w m ∧ w 67 35 = wo ∧ gE a ∧ gE b ∧ gC m c ∧ gE p) ∧ (LPR m lu nu ll nl 13 (oI (upT m lu nu i.toNat p.toNat)) (oI (loT m ll nl j.toNat p.toNat)) b c p w t) ∧ (∀ x1 w2 t3, (LPO m lu nu ll nl (oI (upT m lu nu i.toNat p.toNat)) (oI (loT m ll nl j.toNat p.toNat)) b c p w t x1 w2 t3) → ((¬ w64 ((w32 ((brs m wo a.toNat b.toNat c.toNat p.toNat : Nat) : Int)) + x1) = w64 v → Q (some (0, 0)) (enc w2 t3)) ∧ (¬ (¬ w64 ((w32 ((brs m wo a.toNat b.toNat c.toNat p.toNat : Nat) : Int)) + x1) = w64 v) → Q (some (0, 1)) (enc w2 t3))))))))))) : Cl (d + 19) 252 [rA 67, (0, i), (0, j), (0, a), (0, b), (0, c), (0, p), (1, v)] (enc w t) Q := by
  show Ev (d + 19) 252 Q 0 [rA 67, (0, i), (0, j), (0, a), (0, b), (0, c), (0, p), (1, v), (9, 0), (9, 0), (9, 0)] [] (enc w t)
  refine e_lda (v := 67) (show am_cd 252 0 = (2, 1, 0, 2, []) by decide +kernel) rfl ?_
  refine e_ldi (show am_cd 252 1 = (2, 2, 1, 0, []) by decide +kernel) rfl ?_
  refine e_ldi (show am_cd 252 2 = (2, 4, 6, 0, []) by decide +kernel) rfl ?_
  refine e_cV (z := 0) (a := 67) (as := [(0, i), (0, p)]) (rest := []) (show am_cd 252 4 = (40, 7, 228, 0, [357]) by decide +kernel) (by decide +kernel) rfl rfl (Nat.le_of_ble_eq_true rfl) rfl ?_
  refine Cl.mono (Cl.up (c_upperThen (d := d) h.1) (by omega)) ?_
  rintro _ _ ⟨rfl, rfl⟩
  refine ⟨fun _ h9 => (by cases h9), ?_⟩
  replace h := h.2
  show Ev _ 252 _ 7 [rA 67, (0, i), (0, j), (0, a), (0, b), (0, c), (0, p), (1, v), (9, 0), (9, 0), (9, 0)] [(0, oI (upT m lu nu i.toNat p.toNat))] _
  refine e_sti (la2 := [rA 67, (0, i), (0, j), (0, a), (0, b), (0, c), (0, p), (1, v), (9, 0), (0, oI (upT m lu nu i.toNat p.toNat)), (9, 0)]) (show am_cd 252 7 = (3, 9, 9, 0, []) by decide +kernel) rfl ?_
  refine e_lda (v := 67) (show am_cd 252 9 = (2, 10, 0, 2, []) by decide +kernel) rfl ?_
  refine e_ldi (show am_cd 252 10 = (2, 11, 2, 0, []) by decide +kernel) rfl ?_
  refine e_ldi (show am_cd 252 11 = (2, 13, 6, 0, []) by decide +kernel) rfl ?_
  refine e_cV (z := 0) (a := 67) (as := [(0, j), (0, p)]) (rest := []) (show am_cd 252 13 = (40, 16, 229, 0, [354]) by decide +kernel) (by decide +kernel) rfl rfl (Nat.le_of_ble_eq_true rfl) rfl ?_
  refine Cl.mono (Cl.up (c_lowerThen (d := d) h.1) (by omega)) ?_
  rintro _ _ ⟨rfl, rfl⟩
  refine ⟨fun _ h9 => (by cases h9), ?_⟩
  replace h := h.2
  show Ev _ 252 _ 16 [rA 67, (0, i), (0, j), (0, a), (0, b), (0, c), (0, p), (1, v), (9, 0), (0, oI (upT m lu nu i.toNat p.toNat)), (9, 0)] [(0, oI (loT m ll nl j.toNat p.toNat))] _
  refine e_sti (la2 := [rA 67, (0, i), (0, j), (0, a), (0, b), (0, c), (0, p), (1, v), (9, 0), (0, oI (upT m lu nu i.toNat p.toNat)), (0, oI (loT m ll nl j.toNat p.toNat))]) (show am_cd 252 16 = (3, 18, 10, 0, []) by decide +kernel) rfl ?_
  refine e_ldi (show am_cd 252 18 = (2, 20, 9, 0, []) by decide +kernel) rfl ?_
  refine e_ic (show am_cd 252 20 = (0, 21, 0, -1, []) by decide +kernel) ?_
  refine e_cmp0 (show am_cd 252 21 = (11, 24, 78, 0, []) by decide +kernel) (fun hc => ?_) (fun hc => ?_)
  · replace h := h.1 hc
    refine e_ic (show am_cd 252 78 = (0, 79, 0, 0, []) by decide +kernel) ?_
    exact e_retz (show am_cd 252 79 = (36, 80, 0, 0, []) by decide +kernel) (by decide +kernel) (Or.inl rfl) h
  · replace h := h.2 hc
    refine e_ldi (show am_cd 252 24 = (2, 26, 10, 0, []) by decide +kernel) rfl ?_
    refine e_ic (show am_cd 252 26 = (0, 27, 0, -1, []) by decide +kernel) ?_
    refine e_cmp0 (show am_cd 252 27 = (11, 30, 78, 0, []) by decide +kernel) (fun hc => ?_) (fun hc => ?_)
    · replace h := h.1 hc
      refine e_ic (show am_cd 252 78 = (0, 79, 0, 0, []) by decide +kernel) ?_
      exact e_retz (show am_cd 252 79 = (36, 80, 0, 0, []) by decide +kernel) (by decide +kernel) (Or.inl rfl) h
    · replace h := h.2 hc
      refine e_lda (v := 67) (show am_cd 252 30 = (2, 31, 0, 2, []) by decide +kernel) rfl ?_
      refine e_ldi (show am_cd 252 31 = (2, 33, 5, 0, []) by decide +kernel) rfl ?_
      refine e_ldi (show am_cd 252 33 = (2, 35, 6, 0, []) by decide +kernel) rfl ?_
      refine e_cV (z := 0) (a := 67) (as := [(0, c), (0, p)]) (rest := []) (show am_cd 252 35 = (40, 38, 201, 0, [265]) by decide +kernel) (by decide +kernel) rfl rfl (Nat.le_of_ble_eq_true rfl) rfl ?_
      refine Cl.mono (Cl.up (c_mayCome (d := d) h.1) (by omega)) ?_
      rintro _ _ ⟨rfl, rfl⟩
      refine ⟨fun _ h9 => (by cases h9), ?_⟩
      replace h := h.2
      show Ev _ 252 _ 38 [rA 67, (0, i), (0, j), (0, a), (0, b), (0, c), (0, p), (1, v), (9, 0), (0, oI (upT m lu nu i.toNat p.toNat)), (0, oI (loT m ll nl j.toNat p.toNat))] [(0, bI (!(isI m c.toNat && isI m p.toNat)))] _
      refine e_ifb0 (show am_cd 252 38 = (10, 41, 78, 0, []) by decide +kernel) (fun hc => ?_) (fun hc => ?_)
      · replace h := h.1 hc
        refine e_ic (show am_cd 252 78 = (0, 79, 0, 0, []) by decide +kernel) ?_
        exact e_retz (show am_cd 252 79 = (36, 80, 0, 0, []) by decide +kernel) (by decide +kernel) (Or.inl rfl) h
      · replace h := h.2 hc
        refine e_lda (v := 67) (show am_cd 252 41 = (2, 42, 0, 2, []) by decide +kernel) rfl ?_
        refine e_ldi (show am_cd 252 42 = (2, 43, 3, 0, []) by decide +kernel) rfl ?_
        refine e_ldi (show am_cd 252 43 = (2, 45, 4, 0, []) by decide +kernel) rfl ?_
        refine e_ldi (show am_cd 252 45 = (2, 47, 5, 0, []) by decide +kernel) rfl ?_
        refine e_ldi (show am_cd 252 47 = (2, 49, 6, 0, []) by decide +kernel) rfl ?_
        refine e_cV (z := 0) (a := 67) (as := [(0, a), (0, b), (0, c), (0, p)]) (rest := []) (show am_cd 252 49 = (40, 52, 199, 0, [268]) by decide +kernel) (by decide +kernel) rfl rfl (Nat.le_of_ble_eq_true rfl) rfl ?_
        refine Cl.mono (Cl.up (c_broken (hw := hw) (d := d) h.1) (by omega)) ?_
        rintro _ _ ⟨rfl, rfl⟩
        refine ⟨fun _ h9 => (by cases h9), ?_⟩
        replace h := h.2
        show Ev _ 252 _ 52 [rA 67, (0, i), (0, j), (0, a), (0, b), (0, c), (0, p), (1, v), (9, 0), (0, oI (upT m lu nu i.toNat p.toNat)), (0, oI (loT m ll nl j.toNat p.toNat))] [(0, ((brs m wo a.toNat b.toNat c.toNat p.toNat : Nat) : Int))] _
        refine e_i2l (show am_cd 252 52 = (8, 53, 0, 0, []) by decide +kernel) ?_
        refine e_lda (v := 67) (show am_cd 252 53 = (2, 54, 0, 2, []) by decide +kernel) rfl ?_
        refine e_ldi (show am_cd 252 54 = (2, 56, 9, 0, []) by decide +kernel) rfl ?_
        refine e_ldi (show am_cd 252 56 = (2, 58, 10, 0, []) by decide +kernel) rfl ?_
        refine e_ldi (show am_cd 252 58 = (2, 60, 4, 0, []) by decide +kernel) rfl ?_
        refine e_ldi (show am_cd 252 60 = (2, 62, 5, 0, []) by decide +kernel) rfl ?_
        refine e_ldi (show am_cd 252 62 = (2, 64, 6, 0, []) by decide +kernel) rfl ?_
        refine e_cV (z := 0) (a := 67) (as := [(0, oI (upT m lu nu i.toNat p.toNat)), (0, oI (loT m ll nl j.toNat p.toNat)), (0, b), (0, c), (0, p)]) (rest := [(1, w32 ((brs m wo a.toNat b.toNat c.toNat p.toNat : Nat) : Int))]) (show am_cd 252 64 = (40, 67, 250, 0, [420]) by decide +kernel) (by decide +kernel) rfl rfl (Nat.le_of_ble_eq_true rfl) rfl ?_
        refine Cl.mono (Cl.up (c_leastB (d := d) 13 _ _ _ _ _ _ _ h.1) (by omega)) ?_
        rintro _ _ ⟨x1, w2, t3, rfl, rfl, hp⟩
        refine ⟨fun _ h9 => (by cases h9), ?_⟩
        replace h := h.2 x1 w2 t3 hp
        show Ev _ 252 _ 67 [rA 67, (0, i), (0, j), (0, a), (0, b), (0, c), (0, p), (1, v), (9, 0), (0, oI (upT m lu nu i.toNat p.toNat)), (0, oI (loT m ll nl j.toNat p.toNat))] [(1, x1), (1, w32 ((brs m wo a.toNat b.toNat c.toNat p.toNat : Nat) : Int))] _
        refine e_ladd (show am_cd 252 67 = (6, 68, 0, 0, []) by decide +kernel) ?_
        refine e_ldl (show am_cd 252 68 = (2, 70, 7, 1, []) by decide +kernel) rfl ?_
        refine e_lcb1 (show am_cd 252 70 = (9, 71, 0, 0, []) by decide +kernel) (show am_cd 252 71 = (10, 74, 78, 1, []) by decide +kernel) (fun hc => ?_) (fun hc => ?_)
        · replace h := h.1 hc
          refine e_ic (show am_cd 252 78 = (0, 79, 0, 0, []) by decide +kernel) ?_
          exact e_retz (show am_cd 252 79 = (36, 80, 0, 0, []) by decide +kernel) (by decide +kernel) (Or.inl rfl) h
        · replace h := h.2 hc
          refine e_ic (show am_cd 252 74 = (0, 75, 0, 1, []) by decide +kernel) ?_
          refine e_go (show am_cd 252 75 = (12, 79, 0, 0, []) by decide +kernel) ?_
          exact e_retz (show am_cd 252 79 = (36, 80, 0, 0, []) by decide +kernel) (by decide +kernel) (Or.inr rfl) h

theorem c_isClosest {d : Nat} {m w : eW} {t : eT} {lu ll : Nat → Int} {nu nl : Nat} {i j a b c p v : Int} (h : LCx m lu nu ll nl w ∧ KnW (PmL m lu nu ll nl) w ∧ (0 ≤ i ∧ i ≤ nu) ∧ (0 ≤ j ∧ j ≤ nl) ∧ gABC m a b c ∧ gP m p ∧ (0 ≤ v ∧ v < 1000000)) : Cl (d + 19) 252 [rA 67, (0, i), (0, j), (0, a), (0, b), (0, c), (0, p), (1, v)] (enc w t) (fun r S2 => ∃ w2, r = some (0, bI (decide ((clG m lu nu ll nl i.toNat j.toNat a.toNat b.toNat c.toNat p.toNat : Int) = v))) ∧ S2 = enc w2 t ∧ FrT w w2 ∧ KnW (PmL m lu nu ll nl) w2) := by
  obtain ⟨hX, hK, hi, hj, ⟨ha, hb, hc⟩, hp, hv⟩ := h
  have hXX := hX
  obtain ⟨hm, hwo, hU, hL⟩ := hX
  have hpn := hm.1.n
  have hrn := hm.2.1.n
  have hnu := hU.2.1
  have hnl := hL.2.1
  have hcE : gE c := by unfold gC at hc; unfold gE; omega
  have hp' := hp
  unfold gP at hp'
  refine g_isClosest (m := m) (lu := lu) (ll := ll) (nu := nu) (nl := nl) (J := (9, 0)) (J2 := (9, 0)) (J3 := (9, 0)) hm1 ?_
  refine ⟨⟨hm, hU, hi, hp⟩, ⟨hm, hL, hj, hp⟩, ?_⟩
  have no : clG m lu nu ll nl i.toNat j.toNat a.toNat b.toNat c.toNat p.toNat = 1000000 → ∃ w2, some ((0 : Nat), (0 : Int)) = some (0, bI (decide ((clG m lu nu ll nl i.toNat j.toNat a.toNat b.toNat c.toNat p.toNat : Int) = v))) ∧ enc w t = enc w2 t ∧ FrT w w2 ∧ KnW (PmL m lu nu ll nl) w2 := fun h9 => ⟨w, by rw [h9, decide_eq_false (by omega)]; rfl, rfl, FrT.rf w, hK⟩
  cases hu : upT m lu nu i.toNat p.toNat with
  | none => exact ⟨fun _ => no (clG_n1 hu), fun h9 => absurd rfl h9⟩
  | some u =>
    have hul := upT_le (m := m) (by omega) hu
    simp (disch := omega) only [oI_s, w32_id]
    refine ⟨fun h9 => (by omega), fun _ => ?_⟩
    cases hl : loT m ll nl j.toNat p.toNat with
    | none => exact ⟨fun _ => no (clG_n2 hl), fun h9 => absurd rfl h9⟩
    | some l =>
      have hll := loT_le (m := m) (by omega) hl
      have hdn := both_down hm.1 (show p.toNat < nP m by omega) (show i.toNat ≤ nu by omega) (show j.toNat ≤ nl by omega) hu hl
      have hFp := clG_s (a := a.toNat) (b := b.toNat) (c := c.toNat) hu hl
      simp (disch := omega) only [oI_s, w32_id]
      refine ⟨fun h9 => (by omega), fun _ => ⟨⟨hm, hc, ⟨by omega, by omega⟩⟩, fun h3 => no ?_, fun h3 => ⟨⟨hm, hwo, ha, hb, hc, ⟨by omega, by omega⟩⟩, ⟨hXX, hK, ⟨by omega, by omega⟩, ⟨by omega, by omega⟩, ⟨hb, hcE, ⟨by omega, by omega⟩⟩, ?_⟩, fun x w2 t2 hp2 => ?_⟩⟩⟩
      · have h3' : (isI m c.toNat && isI m p.toNat) = true := by
          cases hh : (isI m c.toNat && isI m p.toNat)
          · rw [hh] at h3; cases h3
          · rfl
        rw [hFp, h3', if_pos rfl]
      · rw [Int.toNat_natCast, Int.toNat_natCast]; omega
      · have h3' : (isI m c.toNat && isI m p.toNat) = false := by
          cases hh : (isI m c.toNat && isI m p.toNat)
          · rfl
          · rw [hh] at h3; cases h3
        rw [h3', if_neg (by decide)] at hFp
        obtain ⟨p1, p2, p3, p4⟩ := hp2
        subst p2
        rw [Int.toNat_natCast, Int.toNat_natCast] at p1
        have hcl := cl_le (m := m) hrn.2 (lu := lu) (nu := nu) (ll := ll) (nl := nl) (i := u) (j := l) (a := b.toNat) (b := c.toNat) (c := p.toNat)
        have hbl := brs_le m (-1) a.toNat b.toNat c.toNat p.toNat
        rw [p1]
        simp (disch := omega) only [w32_id, w64_id]
        refine ⟨fun h4 => ⟨w2, ?_, rfl, p3, p4⟩, fun h4 => ⟨w2, ?_, rfl, p3, p4⟩⟩
        · rw [hFp, decide_eq_false (by omega)]; rfl
        · rw [hFp, decide_eq_true (by omega)]; rfl

