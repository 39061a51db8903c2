/-! What is kept: rows of pairs of the grammar. -/
theorem lsD_mem {α : Type} {g : Nat → List α} {n : Nat} {x : α} (h : x ∈ lsD g n) : ∃ i, i < n ∧ x ∈ g i := by
  induction n with
  | zero => cases h
  | succ n ih =>
    rw [lsD, List.mem_append] at h
    rcases h with h | h
    · obtain ⟨i, h1, h2⟩ := ih h
      exact ⟨i, by omega, h2⟩
    · exact ⟨n, by omega, h⟩
theorem lW_rows {m : eW} {q : Nat} {lt : Nat → Int} {n : Nat} : ∀ (f s a b c : Nat), ∀ x ∈ lW m q lt n f s a b c, x.length + 1 ≤ f ∧ ∀ p ∈ x, p < nP m := by
  intro f
  induction f with
  | zero => intro s a b c x hx; cases hx
  | succ f ih =>
    intro s a b c x hx
    rw [lW, List.mem_append] at hx
    rcases hx with hx | hx
    · split at hx
      · rw [List.mem_singleton] at hx
        subst hx
        exact ⟨by rw [List.length_nil]; omega, fun p hp => by cases hp⟩
      · cases hx
    · obtain ⟨d, h1, h2⟩ := lsD_mem hx
      split at h2
      · cases h2
      · split at h2
        · obtain ⟨y, h3, h4⟩ := List.mem_map.mp h2
          subst h4
          have := ih _ _ _ _ y h3
          refine ⟨by rw [List.length_cons]; omega, fun p hp => ?_⟩
          rw [List.mem_cons] at hp
          rcases hp with hp | hp
          · rw [hp]; exact h1
          · exact this.2 p hp
        · cases h2
theorem spellsK_kb {q : Nat} {tx : List Int} {m : eW} {ks : kT} (h : KB (nP m) ks) : KB (nP m) (spellsK q tx m ks) := by
  unfold spellsK
  split
  · exact h
  · intro x hx
    have hx := List.mem_of_mem_take hx
    obtain ⟨y, h1, h2⟩ := List.mem_map.mp hx
    subst h2
    have := lW_rows _ _ _ _ _ y h1
    exact ⟨by show y.length ≤ 13; omega, this.2, Nat.zero_le _, fun e he => by cases he⟩
theorem hpt_rows {m : eW} {wt : Nat} : ∀ (n z a b c : Nat), hB m wt n z a b c = true → (hpt m wt n z a b c).length = n ∧ ∀ p ∈ hpt m wt n z a b c, p < nP m := by
  intro n
  induction n with
  | zero => intro z a b c h; exact ⟨rfl, fun p hp => by cases hp⟩
  | succ n ih =>
    intro z a b c h
    have q := hnx_ok h
    have := ih _ _ _ _ q.2.2.1
    rw [hpt]
    refine ⟨by rw [List.length_cons, this.1], fun p hp => ?_⟩
    rw [List.mem_cons] at hp
    rcases hp with hp | hp
    · rw [hp]; exact q.1
    · exact this.2 p hp
theorem holdsK_kb {m : eW} {ks : kT} {p : Int} (h : KB (nP m) ks) : KB (nP m) (holdsK m ks p) := by
  unfold holdsK
  split
  · split
    · exact h
    · next h7 =>
      have := hpt_rows _ _ _ _ _ (fw_hB h7)
      have h1 := fw_le m p.toNat
      intro x hx
      rw [List.mem_singleton] at hx
      subst hx
      exact ⟨by show (hpt m p.toNat (fw m p.toNat) 0 16 16 16).length ≤ 13; omega, this.2, Nat.zero_le _, fun e he => by cases he⟩
  · exact h

