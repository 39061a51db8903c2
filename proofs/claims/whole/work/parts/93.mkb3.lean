/-! What is kept: closest rows; what holds between two calls, with the kept rows' bounds. -/
theorem pth_rows {m : eW} (hp : WFp m) {lu ll : Nat → Int} {nu nl : Nat} (hnu : nu ≤ 6) (hnl : nl ≤ 6) : ∀ (f i j a b c : Nat), i ≤ nu → j ≤ nl → cl m lu nu ll nl i j a b c < 1000000 → (pth m lu nu ll nl f i j a b c).length ≤ f ∧ ∀ p ∈ pth m lu nu ll nl f i j a b c, p < nP m := by
  intro f
  induction f with
  | zero => intro i j a b c _ _ _; exact ⟨Nat.le_refl _, fun p hp => by cases hp⟩
  | succ f ih =>
    intro i j a b c hi hj hc
    rw [pth]
    by_cases h9 : i = nu ∧ j = nl
    · rw [if_pos h9]
      exact ⟨Nat.zero_le _, fun p hp => by cases hp⟩
    · rw [if_neg h9]
      obtain ⟨q1, q2, q3, u, l, q4, q5, q6⟩ := frs_ok hp hnu hnl hi hj h9 hc
      rw [q4, q5]
      have hu := upT_j q4 hi
      have hl := loT_j q5 hj
      have := ih u l b c _ hu.2.1 hl.2 q6
      refine ⟨by rw [List.length_cons]; have := this.1; simp only [Option.getD_some]; omega, fun p hp => ?_⟩
      rw [List.mem_cons] at hp
      rcases hp with hp | hp
      · rw [hp]; exact q1
      · exact this.2 p hp
theorem coR_b {tx : List Int} {x : List Int × List Int} (h : coR tx = .ok x) : x.1.length ≤ 6 ∧ x.2.length ≤ 6 := by
  unfold coR at h
  cases hY : rdLs tx 6 0 with
  | error q => rw [hY] at h; cases h
  | ok y =>
    rw [hY] at h
    dsimp only at h
    split at h
    · cases hZ : rdLs tx 6 (y.2 + 1) with
      | error q => rw [hZ] at h; cases h
      | ok z =>
        rw [hZ] at h
        dsimp only at h
        split at h
        · cases h
        · cases h
          exact ⟨(rdLs_b hY).1.2, (rdLs_b hZ).1.2⟩
    · cases h
theorem closestK_kb {tx : List Int} {m : eW} {ks : kT} (hp : WFp m) (h : KB (nP m) ks) : KB (nP m) (closestK tx m ks) := by
  unfold closestK
  cases hR : coR tx with
  | error q => exact h
  | ok x =>
    dsimp only
    split
    · next hc =>
      have hb := coR_b hR
      have q := pth_rows hp hb.1 hb.2 13 0 0 16 16 16 (Nat.zero_le _) (Nat.zero_le _) hc
      intro y hy
      rw [List.mem_singleton] at hy
      subst hy
      exact ⟨q.1, q.2, Nat.zero_le _, fun e he => by cases he⟩
    · exact h
theorem kb_nil (n : Nat) : KB n [] := fun x hx => by cases hx
theorem pairs_kb {tx : List Int} {m : eW} {ks : kT} (h : KB (nP m) ks) : KB (nP (pairsM tx m)) (pairsK tx ks) := by
  unfold pairsM pairsK
  cases hR : prsA tx with
  | error q => exact h
  | ok l =>
    dsimp only
    split
    · exact h
    · exact kb_nil _

