/-! The class: pairs of the text. -/
def PrC (w : eW) (l : List (Int × Int)) : Prop := ∀ i, i < l.length → w 4 i = cdI (l.getD i (0, 0)).1 ∧ w 5 i = cdI (l.getD i (0, 0)).2
theorem PrC.app {w w2 : eW} {l : List (Int × Int)} {x : Int × Int} (h : PrC w l) (h1 : ∀ i, i < l.length → w2 4 i = w 4 i ∧ w2 5 i = w 5 i) (h2 : w2 4 l.length = cdI x.1 ∧ w2 5 l.length = cdI x.2) : PrC w2 (l ++ [x]) := by
  intro i hi
  rw [List.length_append] at hi
  have hi : i < l.length + 1 := hi
  by_cases hl : i < l.length
  · have := h i hl
    rw [(h1 i hl).1, (h1 i hl).2, gD_app hl]
    exact this
  · have e : i = l.length := by omega
    subst e
    rw [gD_last]
    exact h2

theorem g_tps {d : Nat} {Q : Option aV → aS → Prop} {w : eW} {t : eT} {tx : List Int} (h : Ev (d + 3) 83 Q 7 [rA 2, (0, 0)] [] (enc (wu w 2 7 0) t)) : Cl (d + 3) 83 [rA 2] (enc w t) Q := by
  show Ev (d + 3) 83 Q 0 [rA 2, (9, 0)] [] (enc w t)
  refine e_lda (v := 2) (show am_cd 83 0 = (2, 1, 0, 2, []) by decide +kernel) rfl ?_
  refine e_ic (show am_cd 83 1 = (0, 2, 0, 0, []) by decide +kernel) ?_
  refine e_putf (a := 2) (show am_cd 83 2 = (19, 5, 807, 0, [42]) by decide +kernel) (by decide +kernel) (by decide +kernel) rfl (fun h9 => absurd h9 (by decide)) (fun h9 => absurd h9 (by decide +kernel)) ?_
  refine e_ic (show am_cd 83 5 = (0, 6, 0, 0, []) by decide +kernel) ?_
  refine e_sti (la2 := [rA 2, (0, 0)]) (show am_cd 83 6 = (3, 7, 1, 0, []) by decide +kernel) rfl ?_
  exact h

theorem g_tps0 {d : Nat} {Q : Option aV → aS → Prop} {w : eW} {t : eT} {k : Int} {tx : List Int} (h : ((w32 16 ≤ w32 k → Q (some (0, 0)) (enc w t)) ∧ (¬ (w32 16 ≤ w32 k) → Cl (d + 2) 84 [rA 2] (enc w t) (fun r S2 => (∀ x, r ≠ some (6, x)) ∧ Ev (d + 3) 83 Q 17 [rA 2, (0, k)] (r.toList ++ []) S2)))) : Ev (d + 3) 83 Q 7 [rA 2, (0, k)] [] (enc w t) := by
  refine e_ldi (show am_cd 83 7 = (2, 8, 1, 0, []) by decide +kernel) rfl ?_
  refine e_ic (show am_cd 83 8 = (0, 10, 1, 16, []) by decide +kernel) ?_
  refine e_cmp3 (show am_cd 83 10 = (11, 13, 61, 3, []) by decide +kernel) (fun hc => ?_) (fun hc => ?_)
  · replace h := h.1 hc
    refine e_ic (show am_cd 83 61 = (0, 62, 0, 0, []) by decide +kernel) ?_
    exact e_retz (show am_cd 83 62 = (36, 63, 0, 0, []) by decide +kernel) (by decide +kernel) (Or.inl rfl) h
  · replace h := h.2 hc
    refine e_lda (v := 2) (show am_cd 83 13 = (2, 14, 0, 2, []) by decide +kernel) rfl ?_
    refine e_cV (z := 0) (a := 2) (as := []) (rest := []) (show am_cd 83 14 = (40, 17, 84, 0, [45]) by decide +kernel) (by decide +kernel) rfl rfl (Nat.le_of_ble_eq_true rfl) rfl ?_
    exact h

theorem g_tpsF {d : Nat} {Q : Option aV → aS → Prop} {w : eW} {t : eT} {k : Int} {tx : List Int} (h : Q (some (0, 0)) (enc w t)) : Ev (d + 3) 83 Q 17 [rA 2, (0, k)] [(0, 0)] (enc w t) := by
  refine e_ifF (show am_cd 83 17 = (10, 20, 22, 1, []) by decide +kernel) (by decide +kernel) ?_
  refine e_ic (show am_cd 83 20 = (0, 21, 0, 0, []) by decide +kernel) ?_
  exact e_retz (show am_cd 83 21 = (36, 22, 0, 0, []) by decide +kernel) (by decide +kernel) (Or.inl rfl) h

theorem g_tpsT {d : Nat} {Q : Option aV → aS → Prop} {w : eW} {t : eT} {k : Int} {tx : List Int} (h : ((w32 (w 2 6) < w32 (w 2 5) → ((w32 16 ≤ w32 (w 2 7) → Q (some (0, 0)) (enc w t)) ∧ (¬ (w32 16 ≤ w32 (w 2 7)) → (TC w tx) ∧ ((w32 (hr tx (w 2 6).toNat) = w32 32 → Ev (d + 3) 83 Q 7 [rA 2, (0, k + 1)] [] (enc (wu w 2 6 ((w 2 6) + 1)) t)) ∧ (¬ (w32 (hr tx (w 2 6).toNat) = w32 32) → Q (some (0, 0)) (enc w t)))))) ∧ (¬ (w32 (w 2 6) < w32 (w 2 5)) → Q (some (0, 1)) (enc w t)))) : Ev (d + 3) 83 Q 17 [rA 2, (0, k)] [(0, 1)] (enc w t) := by
  refine e_ifT (show am_cd 83 17 = (10, 20, 22, 1, []) by decide +kernel) (by decide +kernel) ?_
  refine e_lda (v := 2) (show am_cd 83 22 = (2, 23, 0, 2, []) by decide +kernel) rfl ?_
  refine e_getf (a := 2) (tg := 0) (show am_cd 83 23 = (18, 26, 806, 0, [31]) by decide +kernel) (by decide +kernel) (by decide +kernel) rfl ?_
  refine e_lda (v := 2) (show am_cd 83 26 = (2, 27, 0, 2, []) by decide +kernel) rfl ?_
  refine e_getf (a := 2) (tg := 0) (show am_cd 83 27 = (18, 30, 805, 0, [27]) by decide +kernel) (by decide +kernel) (by decide +kernel) rfl ?_
  refine e_cmp2 (show am_cd 83 30 = (11, 33, 35, 2, []) by decide +kernel) (fun hc => ?_) (fun hc => ?_)
  · replace h := h.1 hc
    refine e_lda (v := 2) (show am_cd 83 35 = (2, 36, 0, 2, []) by decide +kernel) rfl ?_
    refine e_getf (a := 2) (tg := 0) (show am_cd 83 36 = (18, 39, 807, 0, [42]) by decide +kernel) (by decide +kernel) (by decide +kernel) rfl ?_
    refine e_ic (show am_cd 83 39 = (0, 41, 1, 16, []) by decide +kernel) ?_
    refine e_cmp3 (show am_cd 83 41 = (11, 44, 53, 3, []) by decide +kernel) (fun hc => ?_) (fun hc => ?_)
    · replace h := h.1 hc
      refine e_ic (show am_cd 83 53 = (0, 54, 0, 0, []) by decide +kernel) ?_
      exact e_retz (show am_cd 83 54 = (36, 55, 0, 0, []) by decide +kernel) (by decide +kernel) (Or.inl rfl) h
    · replace h := h.2 hc
      refine e_lda (v := 2) (show am_cd 83 44 = (2, 45, 0, 2, []) by decide +kernel) rfl ?_
      refine e_ic (show am_cd 83 45 = (0, 47, 1, 32, []) by decide +kernel) ?_
      refine e_cV (z := 0) (a := 2) (as := [(0, 32)]) (rest := []) (show am_cd 83 47 = (40, 50, 81, 0, [49]) by decide +kernel) (by decide +kernel) rfl rfl (Nat.le_of_ble_eq_true rfl) rfl ?_
      show Ev _ 81 _ 0 [rA 2, (0, 32)] [] _
      refine e_lda (v := 2) (show am_cd 81 0 = (2, 1, 0, 2, []) by decide +kernel) rfl ?_
      refine e_cV (z := 0) (a := 2) (as := []) (rest := []) (show am_cd 81 1 = (40, 4, 80, 0, [34]) by decide +kernel) (by decide +kernel) rfl rfl (Nat.le_of_ble_eq_true rfl) rfl ?_
      refine Cl.mono (Cl.up (c_ahd (tx := tx) (d := d) h.1) (by omega)) ?_
      rintro _ _ ⟨rfl, rfl⟩
      refine ⟨fun _ h9 => (by cases h9), ?_⟩
      replace h := h.2
      show Ev _ 81 _ 4 [rA 2, (0, 32)] [(0, hr tx (w 2 6).toNat)] _
      refine e_ldi (show am_cd 81 4 = (2, 5, 1, 0, []) by decide +kernel) rfl ?_
      refine e_cmp0 (show am_cd 81 5 = (11, 8, 10, 0, []) by decide +kernel) (fun hc => ?_) (fun hc => ?_)
      · replace h := h.1 hc
        refine e_lda (v := 2) (show am_cd 81 10 = (2, 11, 0, 2, []) by decide +kernel) rfl ?_
        refine e_dup (show am_cd 81 11 = (13, 12, 0, 0, []) by decide +kernel) (by decide) ?_
        refine e_getf (a := 2) (tg := 0) (show am_cd 81 12 = (18, 15, 806, 0, [31]) by decide +kernel) (by decide +kernel) (by decide +kernel) rfl ?_
        refine e_ic (show am_cd 81 15 = (0, 16, 0, 1, []) by decide +kernel) ?_
        refine e_iadd (show am_cd 81 16 = (5, 17, 0, 0, []) by decide +kernel) ?_
        refine e_putf (a := 2) (show am_cd 81 17 = (19, 20, 806, 0, [31]) by decide +kernel) (by decide +kernel) (by decide +kernel) rfl (fun h9 => absurd h9 (by decide)) (fun h9 => absurd h9 (by decide +kernel)) ?_
        refine e_ic (show am_cd 81 20 = (0, 21, 0, 1, []) by decide +kernel) ?_
        refine e_retz (show am_cd 81 21 = (36, 22, 0, 0, []) by decide +kernel) (by decide +kernel) (Or.inr rfl) ⟨fun _ h9 => (by cases h9), ?_⟩
        show Ev _ 83 _ 50 [rA 2, (0, k)] [(0, 1)] _
        refine e_ifT (show am_cd 83 50 = (10, 53, 55, 1, []) by decide +kernel) (by decide +kernel) ?_
        refine e_inc (la2 := [rA 2, (0, k + 1)]) (show am_cd 83 55 = (4, 58, 1, 1, []) by decide +kernel) rfl rfl ?_
        refine e_go (show am_cd 83 58 = (12, 7, 0, 0, []) by decide +kernel) ?_
        exact h
      · replace h := h.2 hc
        refine e_ic (show am_cd 81 8 = (0, 9, 0, 0, []) by decide +kernel) ?_
        refine e_retz (show am_cd 81 9 = (36, 10, 0, 0, []) by decide +kernel) (by decide +kernel) (Or.inl rfl) ⟨fun _ h9 => (by cases h9), ?_⟩
        show Ev _ 83 _ 50 [rA 2, (0, k)] [(0, 0)] _
        refine e_ifF (show am_cd 83 50 = (10, 53, 55, 1, []) by decide +kernel) (by decide +kernel) ?_
        refine e_ic (show am_cd 83 53 = (0, 54, 0, 0, []) by decide +kernel) ?_
        exact e_retz (show am_cd 83 54 = (36, 55, 0, 0, []) by decide +kernel) (by decide +kernel) (Or.inl rfl) h
  · replace h := h.2 hc
    refine e_ic (show am_cd 83 33 = (0, 34, 0, 1, []) by decide +kernel) ?_
    exact e_retz (show am_cd 83 34 = (36, 35, 0, 0, []) by decide +kernel) (by decide +kernel) (Or.inr rfl) h

theorem rdP_err {w : eW} {tx : List Int} {p q : Nat} (hT : TC w tx) (hp : w 2 6 = (p : Int)) (h : rdP tx p = .error q) (hq : ¬ q ≤ tx.length) : False := by
  have hb := hT.b
  unfold rdP at h
  cases hS : rdS tx p with
  | error e =>
    rw [hS] at h
    cases h
    unfold rdS at hS
    split at hS <;> cases hS
    omega
  | ok y =>
    rw [hS] at h
    have hy : y.2 ≤ tx.length := by
      unfold rdS at hS
      split at hS
      · next s hs => cases hS; have := (caI_s hs).2.2; show p + 1 ≤ _; omega
      · cases hS
    dsimp only at h
    by_cases h27 : y.1 = 27
    · rw [if_pos h27] at h
      by_cases h58 : hr tx y.2 = 58
      · rw [if_pos h58] at h
        have := hr_in h58 (by decide)
        cases hL : rdL tx (y.2 + 1) with
        | error e =>
          rw [hL] at h
          cases h
          unfold rdL at hL
          split at hL <;> cases hL
          omega
        | ok z => rw [hL] at h; cases h
      · rw [if_neg h58] at h
        cases h
        omega
    · rw [if_neg h27] at h
      by_cases h58 : hr tx y.2 = 58
      · rw [if_pos h58] at h
        have := hr_in h58 (by decide)
        cases hL : rdS tx (y.2 + 1) with
        | error e =>
          rw [hL] at h
          cases h
          unfold rdS at hL
          split at hL <;> cases hL
          omega
        | ok z => rw [hL] at h; cases h
      · rw [if_neg h58] at h; cases h

def tpsQ (tx : List Int) (w : eW) (t : eT) (R : Except Nat (List (Int × Int))) (r : Option aV) (S2 : aS) : Prop := ∃ w2, S2 = enc w2 t ∧ Fc [4, 5] [(2, 6), (2, 7)] w w2 ∧ TC w2 tx ∧ match R with
  | .error q => r = some (0, 0) ∧ w2 2 6 = (q : Int)
  | .ok l => r = some (0, 1) ∧ w2 2 7 = (l.length : Int) ∧ PrC w2 l
theorem tps_loop {d : Nat} {w0 : eW} {t : eT} {tx : List Int} : ∀ (f k p : Nat) (w : eW) (acc : List (Int × Int)), f + k = 16 → acc.length = k → TC w tx → w 2 6 = (p : Int) → w 2 7 = (k : Int) → PrC w acc → Fc [4, 5] [(2, 6), (2, 7)] w0 w → (f = 0 → p ≤ tx.length) → Ev (d + 3) 83 (tpsQ tx w0 t (if f = 0 then .error p else fiP tx acc (rdPs tx f p))) 7 [rA 2, (0, (k : Int))] [] (enc w t) := by
  intro f
  induction f with
  | zero =>
    intro k p w acc hk hacc hT hp hn hP hF _
    refine g_tps0 (tx := tx) ⟨fun hc => ?_, fun hc => absurd (by rw [w32_id (by omega), w32_id (by omega)]; omega) hc⟩
    rw [if_pos rfl]
    exact ⟨w, rfl, hF, hT, rfl, hp⟩
  | succ f ih =>
    intro k p w acc hk hacc hT hp hn hP hF _
    refine g_tps0 (tx := tx) ⟨fun hc => absurd hc (by rw [w32_id (by omega), w32_id (by omega)]; omega), fun _ => ?_⟩
    rw [if_neg (Nat.succ_ne_zero f)]
    refine (c_takesPair hT hp hn (by omega)).mono (fun r S2 hq => ?_)
    unfold tpQ at hq
    unfold rdPs
    cases hR : rdP tx p with
    | error q =>
      rw [hR] at hq
      obtain ⟨rfl, rfl⟩ := hq
      refine ⟨fun _ h9 => (by cases h9), g_tpsF (tx := tx) ?_⟩
      have hb := hT.b
      have hq : q ≤ tx.length := by
        apply Classical.byContradiction
        intro h9
        exact rdP_err hT hp hR h9
      exact ⟨_, rfl, hF.tr (Fc.pf (by decide)), hT.at (by omega), rfl, wu_eq _ _ _ _⟩
    | ok y =>
      rw [hR] at hq
      obtain ⟨rfl, rfl, hy⟩ := hq
      refine ⟨fun _ h9 => (by cases h9), ?_⟩
      have hb := hT.b
      generalize hw1 : wu (wu (wu (wu w 2 6 (y.2 : Int)) 4 k (cdI y.1.1)) 5 k (cdI y.1.2)) 2 7 ((k : Int) + 1) = w1
      have f1 : Fc [4, 5] [(2, 6), (2, 7)] w w1 := by
        rw [← hw1]
        exact (((Fc.pf (by decide)).tr (Fc.pr (by decide))).tr (Fc.pr (by decide))).tr (Fc.pf (by decide))
      have e6 : w1 2 6 = (y.2 : Int) := by rw [← hw1]; rfl
      have e7 : w1 2 7 = (k : Int) + 1 := by rw [← hw1]; rfl
      have e5 : w1 2 5 = w 2 5 := by rw [← hw1]; rfl
      have e3 : w1 3 = w 3 := by rw [← hw1]; rfl
      have hT1 : TC w1 tx := (hT.at (v := (y.2 : Int)) (by omega)).fr (by rw [e5]; rfl) (by rw [e6]; rfl) (by rw [e3]; rfl)
      have hP1 : PrC w1 (acc ++ [y.1]) := by
        refine hP.app (fun i hi => ?_) ?_
        · rw [← hw1]
          have : i ≠ k := by omega
          simp [wu, this]
        · rw [← hw1, hacc]
          simp [wu]
      refine g_tpsT (tx := tx) ?_
      have hh := hT1.hrb y.2
      rw [e6, e7, e5, hT.2.1, Int.toNat_natCast]
      have hlen := hT.len
      simp (disch := omega) only [w32_id]
      refine ⟨fun hc => ⟨fun h16 => ?_, fun h16 => ⟨hT1, fun h32 => ?_, fun h32 => ?_⟩⟩, fun hc => ?_⟩
      · rw [if_neg (by omega)]
        refine ⟨w1, rfl, hF.tr f1, hT1, ?_⟩
        show match (if y.2 < tx.length then _ else _ : Except Nat (List (Int × Int))) with
          | .error q => _
          | .ok l => _
        rw [if_pos (by omega)]
        exact ⟨rfl, e6⟩
      · rw [if_pos ⟨by omega, h32⟩]
        have hp1 := hr_in h32 (by decide)
        refine (ih (k + 1) (y.2 + 1) _ (acc ++ [y.1]) (by omega) (by rw [List.length_append, hacc]; rfl) (hT1.at (by omega)) (by rw [wu_eq]; rfl) (by rw [wu_ne _ _ (by decide), e7]; rfl) ?_ ((hF.tr f1).tr (Fc.pf (by decide))) (by omega)).mono (fun r S2 hz => ?_)
        · intro i hi
          have := hP1 i hi
          rw [wu_na _ _ (by decide), wu_na _ _ (by decide)]
          exact this
        · rw [if_neg (show ¬ f = 0 by omega)] at hz
          cases hr2 : rdPs tx f (y.2 + 1) with
          | error q => rw [hr2] at hz; exact hz
          | ok z =>
            rw [hr2] at hz
            have : fiP tx acc (.ok (y.1 :: z.1, z.2)) = fiP tx (acc ++ [y.1]) (.ok z) := by
              unfold fiP
              simp only [List.append_assoc, List.singleton_append]
            show tpsQ tx w0 t (fiP tx acc (.ok (y.1 :: z.1, z.2))) r S2
            rw [this]
            exact hz
      · rw [if_neg (fun h9 => h32 h9.2)]
        refine ⟨w1, rfl, hF.tr f1, hT1, ?_⟩
        show match (if y.2 < tx.length then _ else _ : Except Nat (List (Int × Int))) with
          | .error q => _
          | .ok l => _
        rw [if_pos (by omega)]
        exact ⟨rfl, e6⟩
      · have h32 : ¬ hr tx y.2 = 32 := fun h9 => by have := hr_in h9 (by decide); omega
        rw [if_neg (fun h9 => h32 h9.2)]
        refine ⟨w1, rfl, hF.tr f1, hT1, ?_⟩
        show match (if y.2 < tx.length then _ else _ : Except Nat (List (Int × Int))) with
          | .error q => _
          | .ok l => _
        rw [if_neg (by omega)]
        exact ⟨rfl, by rw [e7, List.length_append, hacc]; rfl, hP1⟩

theorem c_takesPairs {d : Nat} {w : eW} {t : eT} {tx : List Int} (h : TC w tx ∧ w 2 6 = 0) : Cl (d + 3) 83 [rA 2] (enc w t) (tpsQ tx w t (prsA tx)) := by
  refine g_tps (tx := tx) ?_
  refine (tps_loop (w0 := w) 16 0 0 (wu w 2 7 0) [] rfl rfl (h.1.fr rfl rfl rfl) h.2 rfl (fun i hi => absurd hi (Nat.not_lt_zero i)) (Fc.pf (by decide)) (by omega)).mono (fun r S2 hq => ?_)
  have e : fiP tx [] (rdPs tx 16 0) = prsA tx := by
    unfold fiP prsA
    cases rdPs tx 16 0 <;> rfl
  rw [if_neg (by decide), e] at hq
  exact hq

theorem g_twc {d : Nat} {Q : Option aV → aS → Prop} {w : eW} {t : eT} (h : Ev (d) 85 Q 2 [rA 2, (0, 1), (9, 0)] [] (enc w t)) : Cl (d) 85 [rA 2] (enc w t) Q := by
  show Ev (d) 85 Q 0 [rA 2, (9, 0), (9, 0)] [] (enc w t)
  refine e_ic (show am_cd 85 0 = (0, 1, 0, 1, []) by decide +kernel) ?_
  refine e_sti (la2 := [rA 2, (0, 1), (9, 0)]) (show am_cd 85 1 = (3, 2, 1, 0, []) by decide +kernel) rfl ?_
  exact h

theorem g_twc0 {d : Nat} {Q : Option aV → aS → Prop} {w : eW} {t : eT} {i : Int} {Jn : aV} (h : ((w32 (w 2 7) ≤ w32 i → Q (some (0, 0)) (enc w t)) ∧ (¬ (w32 (w 2 7) ≤ w32 i) → Ev (d) 85 Q 12 [rA 2, (0, i), (0, 0)] [] (enc w t)))) : Ev (d) 85 Q 2 [rA 2, (0, i), Jn] [] (enc w t) := by
  refine e_ldi (show am_cd 85 2 = (2, 3, 1, 0, []) by decide +kernel) rfl ?_
  refine e_lda (v := 2) (show am_cd 85 3 = (2, 4, 0, 2, []) by decide +kernel) rfl ?_
  refine e_getf (a := 2) (tg := 0) (show am_cd 85 4 = (18, 7, 807, 0, [42]) by decide +kernel) (by decide +kernel) (by decide +kernel) rfl ?_
  refine e_cmp3 (show am_cd 85 7 = (11, 10, 61, 3, []) by decide +kernel) (fun hc => ?_) (fun hc => ?_)
  · replace h := h.1 hc
    refine e_ic (show am_cd 85 61 = (0, 62, 0, 0, []) by decide +kernel) ?_
    exact e_retz (show am_cd 85 62 = (36, 63, 0, 0, []) by decide +kernel) (by decide +kernel) (Or.inl rfl) h
  · replace h := h.2 hc
    refine e_ic (show am_cd 85 10 = (0, 11, 0, 0, []) by decide +kernel) ?_
    refine e_sti (la2 := [rA 2, (0, i), (0, 0)]) (show am_cd 85 11 = (3, 12, 2, 0, []) by decide +kernel) rfl ?_
    exact h

theorem g_twc1 {d : Nat} {Q : Option aV → aS → Prop} {w : eW} {t : eT} {i j : Int} (h : ((w32 i ≤ w32 j → Ev (d) 85 Q 2 [rA 2, (0, i + 1), (0, j)] [] (enc w t)) ∧ (¬ (w32 i ≤ w32 j) → (0 ≤ w32 i ∧ w32 i < 16) ∧ (0 ≤ w32 j ∧ w32 j < 16) ∧ ((¬ w32 (w 4 (w32 i).toNat) = w32 (w 4 (w32 j).toNat) → Ev (d) 85 Q 12 [rA 2, (0, i), (0, j + 1)] [] (enc w t)) ∧ (¬ (¬ w32 (w 4 (w32 i).toNat) = w32 (w 4 (w32 j).toNat)) → (0 ≤ w32 i ∧ w32 i < 16) ∧ (0 ≤ w32 j ∧ w32 j < 16) ∧ ((¬ w32 (w 5 (w32 i).toNat) = w32 (w 5 (w32 j).toNat) → Ev (d) 85 Q 12 [rA 2, (0, i), (0, j + 1)] [] (enc w t)) ∧ (¬ (¬ w32 (w 5 (w32 i).toNat) = w32 (w 5 (w32 j).toNat)) → Q (some (0, 1)) (enc w t)))))))) : Ev (d) 85 Q 12 [rA 2, (0, i), (0, j)] [] (enc w t) := by
  refine e_ldi (show am_cd 85 12 = (2, 13, 2, 0, []) by decide +kernel) rfl ?_
  refine e_ldi (show am_cd 85 13 = (2, 14, 1, 0, []) by decide +kernel) rfl ?_
  refine e_cmp3 (show am_cd 85 14 = (11, 17, 55, 3, []) by decide +kernel) (fun hc => ?_) (fun hc => ?_)
  · replace h := h.1 hc
    refine e_inc (la2 := [rA 2, (0, i + 1), (0, j)]) (show am_cd 85 55 = (4, 58, 1, 1, []) by decide +kernel) rfl rfl ?_
    refine e_go (show am_cd 85 58 = (12, 2, 0, 0, []) by decide +kernel) ?_
    exact h
  · replace h := h.2 hc
    refine e_lda (v := 2) (show am_cd 85 17 = (2, 18, 0, 2, []) by decide +kernel) rfl ?_
    refine e_getr (a := 2) (r := 4) (show am_cd 85 18 = (18, 21, 801, 2, [15]) by decide +kernel) (by decide +kernel) (by decide +kernel) rfl ?_
    refine e_ldi (show am_cd 85 21 = (2, 22, 1, 0, []) by decide +kernel) rfl ?_
    refine e_iald (a := 4) (n := 16) (show am_cd 85 22 = (21, 23, 0, 0, []) by decide +kernel) (by decide +kernel) (by decide +kernel) (by decide +kernel) h.1 ?_
    replace h := h.2
    refine e_lda (v := 2) (show am_cd 85 23 = (2, 24, 0, 2, []) by decide +kernel) rfl ?_
    refine e_getr (a := 2) (r := 4) (show am_cd 85 24 = (18, 27, 801, 2, [15]) by decide +kernel) (by decide +kernel) (by decide +kernel) rfl ?_
    refine e_ldi (show am_cd 85 27 = (2, 28, 2, 0, []) by decide +kernel) rfl ?_
    refine e_iald (a := 4) (n := 16) (show am_cd 85 28 = (21, 29, 0, 0, []) by decide +kernel) (by decide +kernel) (by decide +kernel) (by decide +kernel) h.1 ?_
    replace h := h.2
    refine e_cmp1 (show am_cd 85 29 = (11, 32, 49, 1, []) by decide +kernel) (fun hc => ?_) (fun hc => ?_)
    · replace h := h.1 hc
      refine e_inc (la2 := [rA 2, (0, i), (0, j + 1)]) (show am_cd 85 49 = (4, 52, 2, 1, []) by decide +kernel) rfl rfl ?_
      refine e_go (show am_cd 85 52 = (12, 12, 0, 0, []) by decide +kernel) ?_
      exact h
    · replace h := h.2 hc
      refine e_lda (v := 2) (show am_cd 85 32 = (2, 33, 0, 2, []) by decide +kernel) rfl ?_
      refine e_getr (a := 2) (r := 5) (show am_cd 85 33 = (18, 36, 802, 2, [18]) by decide +kernel) (by decide +kernel) (by decide +kernel) rfl ?_
      refine e_ldi (show am_cd 85 36 = (2, 37, 1, 0, []) by decide +kernel) rfl ?_
      refine e_iald (a := 5) (n := 16) (show am_cd 85 37 = (21, 38, 0, 0, []) by decide +kernel) (by decide +kernel) (by decide +kernel) (by decide +kernel) h.1 ?_
      replace h := h.2
      refine e_lda (v := 2) (show am_cd 85 38 = (2, 39, 0, 2, []) by decide +kernel) rfl ?_
      refine e_getr (a := 2) (r := 5) (show am_cd 85 39 = (18, 42, 802, 2, [18]) by decide +kernel) (by decide +kernel) (by decide +kernel) rfl ?_
      refine e_ldi (show am_cd 85 42 = (2, 43, 2, 0, []) by decide +kernel) rfl ?_
      refine e_iald (a := 5) (n := 16) (show am_cd 85 43 = (21, 44, 0, 0, []) by decide +kernel) (by decide +kernel) (by decide +kernel) (by decide +kernel) h.1 ?_
      replace h := h.2
      refine e_cmp1 (show am_cd 85 44 = (11, 47, 49, 1, []) by decide +kernel) (fun hc => ?_) (fun hc => ?_)
      · replace h := h.1 hc
        refine e_inc (la2 := [rA 2, (0, i), (0, j + 1)]) (show am_cd 85 49 = (4, 52, 2, 1, []) by decide +kernel) rfl rfl ?_
        refine e_go (show am_cd 85 52 = (12, 12, 0, 0, []) by decide +kernel) ?_
        exact h
      · replace h := h.2 hc
        refine e_ic (show am_cd 85 47 = (0, 48, 0, 1, []) by decide +kernel) ?_
        exact e_retz (show am_cd 85 48 = (36, 49, 0, 0, []) by decide +kernel) (by decide +kernel) (Or.inr rfl) h

theorem c_twc {d : Nat} {w : eW} {t : eT} {l : List (Int × Int)} (h : PrC w l ∧ w 2 7 = (l.length : Int) ∧ l.length ≤ 16 ∧ ∀ x ∈ l, okPr x) : Cl d 85 [rA 2] (enc w t) (fun r S2 => r = some (0, bI (dupP l)) ∧ S2 = enc w t) := by
  obtain ⟨hP, hn, hl, hok⟩ := h
  have hb : ∀ i, i < l.length → w 4 i = cdI (l.getD i (0, 0)).1 ∧ w 5 i = cdI (l.getD i (0, 0)).2 ∧ okPr (l.getD i (0, 0)) := fun i hi => by
    refine ⟨(hP i hi).1, (hP i hi).2, ?_⟩
    exact hok _ (gD_mem hi)
  have heq : ∀ i j, i < l.length → j < l.length → ((w 4 i = w 4 j ∧ w 5 i = w 5 j) ↔ l.getD i (0, 0) = l.getD j (0, 0)) := fun i j hi hj => by
    obtain ⟨a1, a2, a3⟩ := hb i hi
    obtain ⟨b1, b2, b3⟩ := hb j hj
    rw [a1, a2, b1, b2, cdI_i a3.1 b3.1, cdI_i a3.2.1 b3.2.1]
    exact ⟨fun h => Prod.ext h.1 h.2, fun h => ⟨by rw [h], by rw [h]⟩⟩
  have hw : ∀ i, i < l.length → (0 ≤ w 4 i ∧ w 4 i ≤ 27) ∧ (0 ≤ w 5 i ∧ w 5 i ≤ 27) := fun i hi => by
    obtain ⟨a1, a2, a3⟩ := hb i hi
    rw [a1, a2]
    exact ⟨cdI_b a3.1, cdI_b a3.2.1⟩
  refine g_twc ?_
  by_cases h0 : l.length = 0
  · refine g_twc0 ⟨fun _ => ?_, fun hc => absurd (by rw [hn, w32_id (by omega), w32_id (by omega)]; omega) hc⟩
    have : dupP l = false := by rw [List.length_eq_zero_iff.mp h0]; rfl
    rw [this]
    exact ⟨rfl, rfl⟩
  refine lq1 (σ := aV) (fun i J => Ev d 85 _ 2 [rA 2, (0, (i : Int)), J] [] (enc w t)) (fun i _ => 1 ≤ i ∧ an (fun k => an (fun j => decide (l.getD k (0, 0) = l.getD j (0, 0))) k) i = false) l.length ?_ ?_ 1 (9, 0) (by omega) ⟨Nat.le_refl 1, rfl⟩
  · intro i J hi hI hE
    refine g_twc0 ⟨fun hc => absurd hc (by rw [hn, w32_id (by omega), w32_id (by omega)]; omega), fun _ => ?_⟩
    refine lq1 (σ := Unit) (fun j _ => Ev d 85 _ 12 [rA 2, (0, (i : Int)), (0, (j : Int))] [] (enc w t)) (fun j _ => an (fun j => decide (l.getD i (0, 0) = l.getD j (0, 0))) j = false) i ?_ ?_ 0 () (by omega) rfl
    · intro j _ hj hJ hE2
      have h1 := hw i hi
      have h2 := hw j (by omega)
      refine g_twc1 ⟨fun hc => absurd hc (by rw [w32_id (by omega), w32_id (by omega)]; omega), fun _ => ?_⟩
      rw [w32_id (x := (i : Int)) (by omega), w32_id (x := (j : Int)) (by omega), Int.toNat_natCast, Int.toNat_natCast]
      simp (disch := omega) only [w32_id]
      have hstep : ¬ (w 4 i = w 4 j ∧ w 5 i = w 5 j) → Ev d 85 (fun r S2 => r = some (0, bI (dupP l)) ∧ S2 = enc w t) 12 [rA 2, (0, (i : Int)), (0, (j : Int) + 1)] [] (enc w t) := fun h9 => by
        refine hE2 () ?_
        have : ¬ l.getD i (0, 0) = l.getD j (0, 0) := fun h8 => h9 ((heq i j hi (by omega)).mpr h8)
        show (an _ j || decide _) = false
        rw [hJ, decide_eq_false this]; rfl
      refine ⟨by omega, by omega, fun hc => hstep (fun h9 => hc h9.1), fun hc => ⟨by omega, by omega, fun hc2 => hstep (fun h9 => hc2 h9.2), fun hc2 => ?_⟩⟩
      have h8 := (heq i j hi (by omega)).mp ⟨Classical.not_not.mp hc, Classical.not_not.mp hc2⟩
      have : dupP l = true := an_iff.mpr ⟨i, hi, an_iff.mpr ⟨j, hj, decide_eq_true h8⟩⟩
      rw [this]
      exact ⟨rfl, by trivial⟩
    · intro _ hJ
      refine g_twc1 ⟨fun _ => hE _ ⟨by omega, ?_⟩, fun hc => absurd (Int.le_refl _) hc⟩
      show (an _ i || an _ i) = false
      rw [hI.2, hJ]; rfl
  · intro J hI
    refine g_twc0 ⟨fun _ => ?_, fun hc => absurd (by rw [hn]; exact Int.le_refl _) hc⟩
    have : dupP l = false := hI.2
    rw [this]
    exact ⟨rfl, rfl⟩

