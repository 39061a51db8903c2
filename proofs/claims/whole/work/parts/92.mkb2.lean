/-! What is kept: rows that clash, closest rows, readings. -/
theorem rwL_rows {m : eW} : ∀ (n c : Nat), ∀ x ∈ rwL m n c, x.length = n ∧ ∀ p ∈ x, p < nP m := by
  intro n
  induction n with
  | zero =>
    intro c x hx
    rw [rwL, List.mem_singleton] at hx
    subst hx
    exact ⟨rfl, fun p hp => by cases hp⟩
  | succ n ih =>
    intro c x hx
    rw [rwL] at hx
    obtain ⟨d, h1, h2⟩ := lsD_mem hx
    split at h2
    · cases h2
    · obtain ⟨y, h3, h4⟩ := List.mem_map.mp h2
      subst h4
      have := ih _ y h3
      refine ⟨by rw [List.length_cons, this.1], fun p hp => ?_⟩
      rw [List.mem_cons] at hp
      rcases hp with hp | hp
      · rw [hp]; exact h1
      · exact this.2 p hp
theorem fcR_rows (m : eW) (a b : Nat) : (fcR m a b).length ≤ 5 ∧ ∀ p ∈ fcR m a b, p < nP m := by
  unfold fcR
  cases hf : fnd m a b (fcN m a b) [] with
  | none => exact ⟨Nat.zero_le _, fun p hp => by cases hp⟩
  | some x =>
    have hx := List.mem_of_find?_eq_some hf
    have := rwL_rows _ _ x hx
    have h5 := fcN_le m a b
    refine ⟨?_, this.2⟩
    show x.length ≤ 5
    rw [this.1]
    omega
theorem conK_kb {m : eW} {ks : kT} {a b : Int} (h : KB (nP m) ks) : KB (nP m) (conK m ks a b) := by
  unfold conK
  split
  · intro x hx
    rw [List.mem_singleton] at hx
    subst hx
    have := fcR_rows m a.toNat b.toNat
    exact ⟨by show (fcR m a.toNat b.toNat).length ≤ 13; omega, this.2, Nat.zero_le _, fun e he => by cases he⟩
  · exact h
theorem fL_rows {m : eW} (hp : WFp m) (he : WFe m) {ll : Nat → Int} {nl : Nat} : ∀ (f md e done all j a b c : Nat), md ≤ 1 → all ≤ 6 → j ≤ nl → (md = 0 → done < fmN m e) → ∀ x ∈ fL m ll nl f md e done all j a b c, x.1.length ≤ (if md = 0 then fmN m e - done else 0) + (6 - all) + (nl - j) ∧ (∀ p ∈ x.1, p < nP m) ∧ x.2.length ≤ 6 - all ∧ ∀ y ∈ x.2, y < nE m := by
  intro f
  induction f with
  | zero => intro md e done all j a b c _ _ _ _ x hx; unfold fL at hx; cases hx
  | succ f ih =>
    intro md e done all j a b c hmd hal hj hdn x hx
    match md, hmd, hdn, hx with
    | 0, _, hdn, hx =>
      have hdn := hdn rfl
      rw [fL] at hx
      obtain ⟨d, h1, h2⟩ := lsD_mem hx
      split at h2
      · cases h2
      · next j2 hl =>
        have hj2 := loT_j hl hj
        split at h2
        · obtain ⟨y, h3, h4⟩ := List.mem_map.mp h2
          subst h4
          have step : dnT m done d + (nl - j2) = done + (nl - j2) ∧ j < j2 ∨ dnT m done d = done + 1 := by
            unfold dnT
            by_cases h27 : m 68 d = 27
            · have := loT_ins hp h1 hl h27
              rw [if_pos h27]
              exact Or.inl ⟨rfl, by omega⟩
            · rw [if_neg h27]
              exact Or.inr rfl
          have hyp : y.1.length + 1 ≤ (fmN m e - done) + (6 - all) + (nl - j) ∧ (∀ p ∈ y.1, p < nP m) ∧ y.2.length ≤ 6 - all ∧ ∀ z ∈ y.2, z < nE m := by
            unfold beL at h3
            split at h3
            · next hlt =>
              have q := ih 0 e _ all j2 _ _ _ (by decide) hal (by omega) (fun _ => hlt) y h3
              rw [if_pos rfl] at q
              exact ⟨by omega, q.2⟩
            · next hge =>
              split at h3
              · unfold enL at h3
                rw [List.mem_append] at h3
                rcases h3 with h3 | h3
                · split at h3
                  · rw [List.mem_singleton] at h3
                    subst h3
                    exact ⟨by show 0 + 1 ≤ _; omega, fun p hp => (by cases hp), Nat.zero_le _, fun p hp => (by cases hp)⟩
                  · cases h3
                · obtain ⟨d2, h5, h6⟩ := lsD_mem h3
                  split at h6
                  · next hls =>
                    rw [List.mem_singleton] at h6
                    subst h6
                    unfold isLs at hls
                    rw [Bool.and_eq_true, Bool.and_eq_true, Bool.and_eq_true] at hls
                    have q := loT_ins hp h5 (of_decide_eq_true hls.1.1.2) (of_decide_eq_true hls.1.1.1)
                    refine ⟨by show 1 + 1 ≤ _; omega, fun p hp => ?_, Nat.zero_le _, fun p hp => (by cases hp)⟩
                    rw [List.mem_singleton] at hp
                    rw [hp]
                    exact h5
                  · cases h6
              · have q := ih 1 _ 0 all j2 _ _ _ (by decide) hal (by omega) (fun h9 => by cases h9) y h3
                rw [if_neg (by decide)] at q
                exact ⟨by omega, q.2⟩
          rw [if_pos rfl]
          refine ⟨by show (d :: y.1).length ≤ _; rw [List.length_cons]; omega, fun p hp => ?_, hyp.2.2⟩
          rw [show (d :: y.1, y.2).1 = d :: y.1 from rfl, List.mem_cons] at hp
          rcases hp with hp | hp
          · rw [hp]; exact h1
          · exact hyp.2.1 p hp
        · cases h2
    | 1, _, _, hx =>
      rw [fL] at hx
      obtain ⟨e2, h1, h2⟩ := lsD_mem hx
      split at h2
      · next hc =>
        obtain ⟨y, h3, h4⟩ := List.mem_map.mp h2
        subst h4
        have hfm : 1 ≤ fmN m e2 := by
          have := (he.2 e2 h1).2.2.1
          unfold fmN
          omega
        have q := ih 0 e2 0 _ j _ _ _ (by decide) hc.2 hj (fun _ => by omega) y h3
        rw [if_pos rfl] at q
        rw [if_neg (by decide)]
        refine ⟨by show y.1.length ≤ _; omega, q.2.1, by show (e2 :: y.2).length ≤ _; rw [List.length_cons]; omega, fun z hz => ?_⟩
        rw [show (y.1, e2 :: y.2).2 = e2 :: y.2 from rfl, List.mem_cons] at hz
        rcases hz with hz | hz
        · rw [hz]; exact h1
        · exact q.2.2.2 z hz
      · cases h2
theorem findsK_kb {tx : List Int} {m : eW} {ks : kT} (hp : WFp m) (he : WFe m) (h : KB (nP m) ks) : KB (nP m) (findsK tx m ks) := by
  unfold findsK
  cases hR : lsR tx 6 with
  | error q => exact h
  | ok l =>
    intro x hx
    have hx := List.mem_of_mem_take hx
    have hl : l.length ≤ 6 := by
      unfold lsR at hR
      cases hY : rdLs tx 6 0 with
      | error q => rw [hY] at hR; cases hR
      | ok y =>
        rw [hY] at hR
        dsimp only at hR
        split at hR
        · cases hR
        · cases hR
          exact (rdLs_b hY).1.2
    have q := fL_rows hp he _ 1 _ _ _ _ _ _ _ (by decide) (by decide) (Nat.zero_le _) (fun h9 => by cases h9) x hx
    rw [if_neg (by decide)] at q
    have hn := he.n
    exact ⟨by omega, q.2.1, by omega, fun e he2 => by have := q.2.2.2 e he2; omega⟩

