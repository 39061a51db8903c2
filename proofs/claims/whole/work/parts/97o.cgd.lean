/-! The class: the first row that fits, against all rows in order. -/

def okR (m : eW) : Nat → List Nat → Prop
  | _, [] => True
  | c, d :: l => d < nP m ∧ (isI m c && isI m d) = false ∧ okR m d l
theorem lsD_in {α : Type} {g : Nat → List α} {n i : Nat} {x : α} (hi : i < n) (h : x ∈ g i) : x ∈ lsD g n := by
  induction n with
  | zero => omega
  | succ n ih =>
    unfold lsD
    rw [List.mem_append]
    by_cases h9 : i = n
    · right; rw [← h9]; exact h
    · left; exact ih (by omega)
theorem rwL_iff (m : eW) : ∀ (n c : Nat) (l : List Nat), l ∈ rwL m n c ↔ l.length = n ∧ okR m c l := by
  intro n
  induction n with
  | zero =>
    intro c l
    show l ∈ [[]] ↔ _
    rw [List.mem_singleton]
    constructor
    · intro h; rw [h]; exact ⟨rfl, trivial⟩
    · intro h; exact List.eq_nil_of_length_eq_zero h.1
  | succ n ih =>
    intro c l
    constructor
    · intro h
      obtain ⟨d, hd, h1⟩ := lsD_mem (show l ∈ lsD _ (nP m) from h)
      cases hb : (isI m c && isI m d) with
      | true => rw [hb, if_pos rfl] at h1; cases h1
      | false =>
        rw [hb, if_neg (by decide), List.mem_map] at h1
        obtain ⟨l2, h2, h3⟩ := h1
        obtain ⟨h4, h5⟩ := (ih d l2).mp h2
        rw [← h3]
        exact ⟨by show l2.length + 1 = n + 1; omega, hd, hb, h5⟩
    · rintro ⟨h1, h2⟩
      cases l with
      | nil => cases h1
      | cons d l2 =>
        obtain ⟨h3, h4, h5⟩ := h2
        refine lsD_in h3 ?_
        rw [h4, if_neg (by decide), List.mem_map]
        exact ⟨l2, (ih d l2).mpr ⟨by have : l2.length + 1 = n + 1 := h1; omega, h5⟩, rfl⟩
theorem okR_take (m : eW) : ∀ (k c : Nat) (l : List Nat), okR m c l → okR m c (l.take k) := by
  intro k
  induction k with
  | zero => intro c l _; rw [List.take_zero]; trivial
  | succ k ih =>
    intro c l h
    cases l with
    | nil => trivial
    | cons d l =>
      rw [List.take_succ_cons]
      exact ⟨h.1, h.2.1, ih d l h.2.2⟩
theorem isI_16 {m : eW} (hp : WFp m) : isI m 16 = false := by
  have := hp.n.2
  unfold isI
  rw [decide_eq_false (by omega)]
  rfl
theorem okR_16 {m : eW} (hp : WFp m) {c : Nat} {l : List Nat} (h : okR m c l) : okR m 16 l := by
  cases l with
  | nil => trivial
  | cons d l => exact ⟨h.1, by rw [isI_16 hp]; rfl, h.2.2⟩
theorem okR_lt (m : eW) : ∀ (l : List Nat) (c : Nat), okR m c l → ∀ p ∈ l, p < nP m := by
  intro l
  induction l with
  | nil => intro c _ p hp; cases hp
  | cons d l ih =>
    intro c h p hp
    rw [List.mem_cons] at hp
    rcases hp with h1 | h1
    · rw [h1]; exact h.1
    · exact ih d h.2.2 p h1
def fitL (F : Nat → Nat) : Nat → List Nat → Bool
  | _, [] => true
  | i, d :: l => (F i).testBit d && fitL F (i + 1) l
theorem find_lsD {α : Type} {g : Nat → List α} {P : α → Bool} {x : α} {n i : Nat} (hi : i < n) (h : (g i).find? P = some x) (h0 : ∀ j, j < i → (g j).find? P = none) : (lsD g n).find? P = some x := by
  have none' : ∀ k, k ≤ i → (lsD g k).find? P = none := by
    intro k
    induction k with
    | zero => intro _; rfl
    | succ k ih =>
      intro hk
      unfold lsD
      rw [List.find?_append, ih (by omega), h0 k (by omega)]
      rfl
  induction n with
  | zero => omega
  | succ n ih =>
    unfold lsD
    rw [List.find?_append]
    by_cases h9 : i = n
    · rw [none' n (by omega), ← h9, h]; rfl
    · rw [ih (by omega)]; rfl
theorem noI_0 {m : eW} {x d : Nat} (h : noI m x = 0) (hd : d < 31) (hx : x.testBit d = true) : isI m d = true := by
  have := noI_t m x hd
  rw [h, Nat.zero_testBit, hx, Bool.true_and] at this
  cases hb : isI m d with
  | true => rfl
  | false => rw [hb] at this; cases this
theorem tb_ex {x : Nat} (hx : x < 65536) (h : x ≠ 0) : ∃ p, p < 16 ∧ x.testBit p = true := by
  obtain ⟨p, hp⟩ := Nat.exists_testBit_of_ne_zero h
  refine ⟨p, ?_, hp⟩
  by_cases h9 : p < 16
  · exact h9
  · have : x < 2 ^ p := Nat.lt_of_lt_of_le hx (Nat.pow_le_pow_right (n := 2) (i := 16) (by decide) (by omega))
    rw [Nat.testBit_lt_two_pow this] at hp
    cases hp
theorem no_row {m : eW} {F : Nat → Nat} {n k i d : Nat} {l : List Nat} (hp : WFp m) (hk : i + 1 + k = n) (hn : i + 1 < n) (h0 : noI m (F (i + 1)) = 0) (hd : isI m d = true) (hl : l ∈ rwL m k d) : fitL F (i + 1) l = false := by
  obtain ⟨h1, h2⟩ := (rwL_iff m k d l).mp hl
  cases l with
  | nil => have h1 : 0 = k := h1; omega
  | cons e l =>
    obtain ⟨h3, h4, _⟩ := h2
    show ((F (i + 1)).testBit e && fitL F (i + 2) l) = false
    cases hb : (F (i + 1)).testBit e with
    | false => rfl
    | true =>
      have := hp.n.2
      rw [hd, noI_0 h0 (by omega) hb] at h4
      cases h4
theorem gd_none {m : eW} {F : Nat → Nat} {n : Nat} (hp : WFp m) : ∀ (k i c j : Nat), i + k = n → i ≤ j → j < n → stk m F n j = 0 → gd m (stk m F n) k i c = none ∧ ∀ l ∈ rwL m k c, fitL F i l = false := by
  intro k
  induction k with
  | zero => intro i c j h1 h2 h3; omega
  | succ k ih =>
    intro i c j h1 h2 h3 h4
    have hpn := hp.n.2
    by_cases hij : i = j
    · subst hij
      constructor
      · unfold gd
        rw [if_pos]
        unfold gdN
        exact fsN_none 16 0 (fun q _ _ => by rw [h4, Nat.zero_testBit]; rfl)
      · intro l hl
        obtain ⟨h5, h6⟩ := (rwL_iff m (k + 1) c l).mp hl
        cases l with
        | nil => cases h5
        | cons d l =>
          obtain ⟨h7, h8, h9⟩ := h6
          have hl2 : l ∈ rwL m k d := (rwL_iff m k d l).mpr ⟨by have : l.length + 1 = k + 1 := h5; omega, h9⟩
          show ((F i).testBit d && fitL F (i + 1) l) = false
          unfold stk at h4
          by_cases hc : i + 1 < n ∧ noI m (F (i + 1)) = 0
          · rw [if_pos hc] at h4
            cases hb : (F i).testBit d with
            | false => rfl
            | true => exact no_row hp (by omega) hc.1 hc.2 (noI_0 h4 (by omega) hb) hl2
          · rw [if_neg hc] at h4
            rw [h4, Nat.zero_testBit]
            rfl
    · constructor
      · unfold gd
        split
        · rfl
        · rw [(ih (i + 1) _ j (by omega) (by omega) h3 h4).1]; rfl
      · intro l hl
        obtain ⟨h5, h6⟩ := (rwL_iff m (k + 1) c l).mp hl
        cases l with
        | nil => cases h5
        | cons d l =>
          obtain ⟨h7, h8, h9⟩ := h6
          have hl2 : l ∈ rwL m k d := (rwL_iff m k d l).mpr ⟨by have : l.length + 1 = k + 1 := h5; omega, h9⟩
          show ((F i).testBit d && fitL F (i + 1) l) = false
          rw [(ih (i + 1) d j (by omega) (by omega) h3 h4).2 l hl2, Bool.and_false]
theorem gd_some {m : eW} {F : Nat → Nat} {n : Nat} (hp : WFp m) (hF : ∀ j, j < n → F j < 65536 ∧ ∀ d, (F j).testBit d = true → d < nP m) (hG : ∀ j, j < n → stk m F n j ≠ 0) : ∀ (k i c : Nat), i + k = n → (0 < k → isI m c = true → noI m (F i) ≠ 0) → ∃ l, gd m (stk m F n) k i c = some l ∧ (rwL m k c).find? (fitL F i) = some l := by
  intro k
  induction k with
  | zero => intro i c _ _; exact ⟨[], rfl, rfl⟩
  | succ k ih =>
    intro i c hi hc
    have hpn := hp.n.2
    obtain ⟨hF1, hF2⟩ := hF i (by omega)
    have hGb := stk_b (m := m) (n := n) hF1
    have sub : ∀ d, d < 31 → (stk m F n i).testBit d = true → (F i).testBit d = true := by
      intro d hd h9
      unfold stk at h9
      split at h9
      · rw [noI_t m _ hd, Bool.and_eq_true] at h9; exact h9.1
      · exact h9
    have hex : ∃ j, 0 ≤ j ∧ j < 0 + 16 ∧ ((stk m F n i).testBit j && !(isI m c && isI m j)) = true := by
      cases hic : isI m c with
      | false =>
        obtain ⟨q, q1, q2⟩ := tb_ex hGb (hG i (by omega))
        exact ⟨q, by omega, by omega, by rw [q2]; rfl⟩
      | true =>
        obtain ⟨q, q1, q2⟩ := tb_ex (by have := noI_le m (F i); omega) (hc (by omega) hic)
        rw [noI_t m _ (by omega), Bool.and_eq_true] at q2
        refine ⟨q, by omega, by omega, ?_⟩
        have : (stk m F n i).testBit q = true := by
          unfold stk
          split
          · rw [noI_t m _ (by omega), q2.1, q2.2]; rfl
          · exact q2.1
        rw [this, Bool.true_and]
        exact q2.2
    obtain ⟨s1, _, s2, s3⟩ := fsN_spec 16 0 hex
    rw [show fsN (fun p => (stk m F n i).testBit p && !(isI m c && isI m p)) 16 0 = gdN m (stk m F n) i c from rfl] at s1 s2 s3
    obtain ⟨D, hD⟩ : ∃ D, D = gdN m (stk m F n) i c := ⟨_, rfl⟩
    rw [← hD] at s1 s2 s3
    rw [Bool.and_eq_true] at s1
    obtain ⟨t1, t2⟩ := s1
    have hFD := sub D (by omega) t1
    have hDn := hF2 D hFD
    obtain ⟨l, e1, e2⟩ := ih (i + 1) D (by omega) (fun hk hD2 h0 => by
      unfold stk at t1
      rw [if_pos ⟨by omega, h0⟩, noI_t m _ (by omega), hD2, Bool.not_true, Bool.and_false] at t1
      cases t1)
    refine ⟨D :: l, ?_, ?_⟩
    · unfold gd
      rw [← hD, if_neg (by omega), e1]
      rfl
    · unfold rwL
      refine find_lsD hDn ?_ ?_
      · have t3 : (isI m c && isI m D) = false := by
          cases hb : (isI m c && isI m D) with
          | false => rfl
          | true => rw [hb] at t2; cases t2
        rw [t3, if_neg (by decide), List.find?_map]
        have : (fitL F i ∘ fun l => D :: l) = fitL F (i + 1) := by
          funext l2
          show ((F i).testBit D && fitL F (i + 1) l2) = _
          rw [hFD, Bool.true_and]
        rw [this, e2]
        rfl
      · intro j hj
        cases hb : (isI m c && isI m j) with
        | true => rw [if_pos rfl]; rfl
        | false =>
          rw [if_neg (by decide), List.find?_eq_none]
          intro x hx
          rw [List.mem_map] at hx
          obtain ⟨l2, hl2, rfl⟩ := hx
          have h9 := s3 j (by omega) hj
          rw [hb, Bool.not_false, Bool.and_true] at h9
          show ¬ ((F i).testBit j && fitL F (i + 1) l2) = true
          cases hb2 : (F i).testBit j with
          | false => simp
          | true =>
            unfold stk at h9
            by_cases hs : i + 1 < n ∧ noI m (F (i + 1)) = 0
            · rw [if_pos hs, noI_t m _ (by omega), hb2, Bool.true_and] at h9
              rw [no_row hp (by omega) hs.1 hs.2 (by cases hi2 : isI m j with | true => rfl | false => rw [hi2] at h9; cases h9) hl2]
              decide
            · rw [if_neg hs, hb2] at h9
              cases h9
theorem gd_eq {m : eW} {F : Nat → Nat} {n : Nat} (hp : WFp m) (hF : ∀ j, j < n → F j < 65536 ∧ ∀ d, (F j).testBit d = true → d < nP m) : gd m (stk m F n) n 0 16 = (rwL m n 16).find? (fitL F 0) := by
  by_cases h : ∃ j, j < n ∧ stk m F n j = 0
  · obtain ⟨j, h1, h2⟩ := h
    obtain ⟨h3, h4⟩ := gd_none hp n 0 16 j (by omega) (by omega) h1 h2
    rw [h3]
    symm
    rw [List.find?_eq_none]
    intro x hx
    rw [h4 x hx]
    decide
  · obtain ⟨l, h1, h2⟩ := gd_some hp hF (fun j hj h9 => h ⟨j, hj, h9⟩) n 0 16 (by omega) (fun _ h9 => by rw [isI_16 hp] at h9; cases h9)
    rw [h1, h2]

