/-! Rows that spell or read: how many, which ones. -/
/-- lists one behind another -/
def lsD {α : Type} (g : Nat → List α) : Nat → List α
  | 0 => []
  | n + 1 => lsD g n ++ g n
theorem lsD_len {α : Type} (g : Nat → List α) (n : Nat) : (lsD g n).length = sm (fun i => (g i).length) n := by
  induction n with
  | zero => rfl
  | succ n ih => unfold lsD sm; rw [List.length_append, ih]
theorem lsD_congr {α : Type} {g h : Nat → List α} {n : Nat} (hh : ∀ i, i < n → g i = h i) : lsD g n = lsD h n := by
  induction n with
  | zero => rfl
  | succ n ih => unfold lsD; rw [ih (fun i hi => hh i (by omega)), hh n (by omega)]
def upT (m : eW) (lt : Nat → Int) (n i d : Nat) : Option Nat := if m 68 d = 27 then some i else if i < n ∧ m 68 d = lt i then some (i + 1) else none
def loT (m : eW) (lt : Nat → Int) (n i d : Nat) : Option Nat := if m 69 d = 27 then some i else if i < n ∧ m 69 d = lt i then some (i + 1) else none
/-- where one stands behind a pair: q = 0 spells, 1 reads, 2 short -/
def stT (m : eW) (q : Nat) (lt : Nat → Int) (n s d : Nat) : Option Nat :=
  if q = 1 then (match loT m lt n (s / 16) d with
    | none => none
    | some i => if s % 16 = 8 then none else some (16 * i + s % 16 + 1))
  else (match upT m lt n (s / 16) d with
    | none => none
    | some i => if (if q = 2 ∧ ¬ m 69 d = 27 then s % 16 + 1 else s % 16) > 6 then none else some (16 * i + (if q = 2 ∧ ¬ m 69 d = 27 then s % 16 + 1 else s % 16)))
/-- how many rows go on from there -/
def cW (m : eW) (q : Nat) (lt : Nat → Int) (n : Nat) : Nat → Nat → Nat → Nat → Nat → Nat
  | 0, _, _, _, _ => 0
  | f + 1, s, a, b, c => (if s / 16 = n ∧ isE m (-1) a b c = true then 1 else 0) + sm (fun d => match stT m q lt n s d with
    | none => 0
    | some s2 => if goes m (-1) a b c d then cW m q lt n f s2 b c d else 0) (nP m)
/-- which ones -/
def lW (m : eW) (q : Nat) (lt : Nat → Int) (n : Nat) : Nat → Nat → Nat → Nat → Nat → List (List Nat)
  | 0, _, _, _, _ => []
  | f + 1, s, a, b, c => (if s / 16 = n ∧ isE m (-1) a b c = true then [[]] else []) ++ lsD (fun d => match stT m q lt n s d with
    | none => []
    | some s2 => if goes m (-1) a b c d then (lW m q lt n f s2 b c d).map (fun l => d :: l) else []) (nP m)
/-- what is still to come, at most -/
def mW (m : eW) (q n s c : Nat) : Nat := if q = 1 then 8 - s % 16 else 2 * (n - s / 16) + (if isI m c then 0 else 1)
theorem goes_II {m : eW} {wo : Int} {a b c d : Nat} (h : goes m wo a b c d = true) : ¬ (isI m c = true ∧ isI m d = true) := by
  unfold goes at h
  intro ⟨h1, h2⟩
  rw [h1, h2] at h
  cases h
theorem isI_of {m : eW} {d : Nat} (hd : d < nP m) : isI m d = decide (m 68 d = 27) := by
  unfold isI
  rw [decide_eq_true hd, Bool.true_and]
theorem mW_down {m : eW} {q : Nat} {lt : Nat → Int} {n s a b c d s2 : Nat} (hd : d < nP m) (hs : s % 16 ≤ 8) (h1 : stT m q lt n s d = some s2) (h2 : goes m (-1) a b c d = true) : mW m q n s2 d < mW m q n s c ∧ s2 % 16 ≤ 8 ∧ s2 / 16 ≤ max n (s / 16) ∧ s2 / 16 ≤ s / 16 + 1 := by
  have hi := isI_of hd
  have hII := goes_II h2
  unfold stT at h1
  unfold mW
  by_cases hq : q = 1
  · rw [if_pos hq] at h1
    rw [if_pos hq, if_pos hq]
    unfold loT at h1
    by_cases h27 : m 69 d = 27
    · rw [if_pos h27] at h1
      dsimp only at h1
      split at h1
      · cases h1
      · cases h1; omega
    · rw [if_neg h27] at h1
      by_cases hl : s / 16 < n ∧ m 69 d = lt (s / 16)
      · rw [if_pos hl] at h1
        dsimp only at h1
        split at h1
        · cases h1
        · cases h1; omega
      · rw [if_neg hl] at h1; cases h1
  · rw [if_neg hq] at h1
    rw [if_neg hq, if_neg hq]
    unfold upT at h1
    by_cases h27 : m 68 d = 27
    · rw [if_pos h27] at h1
      dsimp only at h1
      have hid : isI m d = true := by rw [hi]; exact decide_eq_true h27
      have hic : ¬ isI m c = true := fun h9 => hII ⟨h9, hid⟩
      rw [if_pos hid, if_neg hic]
      by_cases hm : (if q = 2 ∧ ¬ m 69 d = 27 then s % 16 + 1 else s % 16) > 6
      · rw [if_pos hm] at h1; cases h1
      · rw [if_neg hm] at h1
        injection h1 with h1
        generalize (if q = 2 ∧ ¬ m 69 d = 27 then s % 16 + 1 else s % 16) = e at *
        omega
    · rw [if_neg h27] at h1
      have hid : ¬ isI m d = true := by rw [hi]; exact fun h9 => h27 (of_decide_eq_true h9)
      rw [if_neg hid]
      by_cases hl : s / 16 < n ∧ m 68 d = lt (s / 16)
      · rw [if_pos hl] at h1
        dsimp only at h1
        by_cases hm : (if q = 2 ∧ ¬ m 69 d = 27 then s % 16 + 1 else s % 16) > 6
        · rw [if_pos hm] at h1; cases h1
        · rw [if_neg hm] at h1
          injection h1 with h1
          generalize (if q = 2 ∧ ¬ m 69 d = 27 then s % 16 + 1 else s % 16) = e at *
          split <;> omega
      · rw [if_neg hl] at h1; cases h1
theorem cW_stab {m : eW} {q : Nat} {lt : Nat → Int} {n : Nat} : ∀ (f g s a b c : Nat), s % 16 ≤ 8 → mW m q n s c < f → mW m q n s c < g → cW m q lt n f s a b c = cW m q lt n g s a b c := by
  intro f
  induction f with
  | zero => intro g s a b c _ h; omega
  | succ f ih =>
    intro g s a b c hs h1 h2
    match g, h2 with
    | 0, h2 => omega
    | g + 1, h2 =>
      unfold cW
      congr 1
      refine sm_congr (fun d hd => ?_)
      cases hst : stT m q lt n s d with
      | none => rfl
      | some s2 =>
        dsimp only
        by_cases hg : goes m (-1) a b c d = true
        · rw [if_pos hg, if_pos hg]
          have := mW_down hd hs hst hg
          exact ih g s2 b c d this.2.1 (by omega) (by omega)
        · rw [if_neg hg, if_neg hg]
theorem lW_stab {m : eW} {q : Nat} {lt : Nat → Int} {n : Nat} : ∀ (f g s a b c : Nat), s % 16 ≤ 8 → mW m q n s c < f → mW m q n s c < g → lW m q lt n f s a b c = lW m q lt n g s a b c := by
  intro f
  induction f with
  | zero => intro g s a b c _ h; omega
  | succ f ih =>
    intro g s a b c hs h1 h2
    match g, h2 with
    | 0, h2 => omega
    | g + 1, h2 =>
      unfold lW
      congr 1
      refine lsD_congr (fun d hd => ?_)
      cases hst : stT m q lt n s d with
      | none => rfl
      | some s2 =>
        dsimp only
        by_cases hg : goes m (-1) a b c d = true
        · rw [if_pos hg, if_pos hg]
          have := mW_down hd hs hst hg
          rw [ih g s2 b c d this.2.1 (by omega) (by omega)]
        · rw [if_neg hg, if_neg hg]
theorem lW_len {m : eW} {q : Nat} {lt : Nat → Int} {n : Nat} : ∀ (f s a b c : Nat), (lW m q lt n f s a b c).length = cW m q lt n f s a b c := by
  intro f
  induction f with
  | zero => intro s a b c; rfl
  | succ f ih =>
    intro s a b c
    unfold lW cW
    rw [List.length_append, lsD_len]
    congr 1
    · split <;> rfl
    · refine sm_congr (fun d hd => ?_)
      cases hst : stT m q lt n s d with
      | none => rfl
      | some s2 =>
        dsimp only
        split
        · rw [List.length_map, ih]
        · rfl
theorem cW_le {m : eW} (hp : nP m ≤ 16) {q : Nat} {lt : Nat → Int} {n : Nat} : ∀ (f s a b c : Nat), cW m q lt n f s a b c ≤ 17 ^ f := by
  intro f
  induction f with
  | zero => intro s a b c; exact Nat.zero_le _
  | succ f ih =>
    intro s a b c
    unfold cW
    have h1 := sm_bound (f := fun d => match stT m q lt n s d with
      | none => 0
      | some s2 => if goes m (-1) a b c d then cW m q lt n f s2 b c d else 0) (n := nP m) (c := 17 ^ f) (fun d hd => by
        cases stT m q lt n s d with
        | none => exact Nat.zero_le _
        | some s2 => dsimp only; split; exact ih _ _ _ _; exact Nat.zero_le _)
    have h2 : nP m * 17 ^ f ≤ 16 * 17 ^ f := Nat.mul_le_mul_right _ hp
    have h3 : (if s / 16 = n ∧ isE m (-1) a b c = true then 1 else 0) ≤ 1 := by split <;> omega
    have h4 : 0 < 17 ^ f := Nat.pow_pos (by decide)
    rw [Nat.pow_succ]
    omega
/-- with enough steps -/
def cw (m : eW) (q : Nat) (lt : Nat → Int) (n s a b c : Nat) : Nat := cW m q lt n 14 s a b c
def lw (m : eW) (q : Nat) (lt : Nat → Int) (n s a b c : Nat) : List (List Nat) := lW m q lt n 14 s a b c
theorem mW_le {m : eW} {q n s c : Nat} (hn : n ≤ 6) : mW m q n s c ≤ 13 := by
  unfold mW
  split
  · omega
  · split <;> omega
theorem cW_step {m : eW} {q : Nat} {lt : Nat → Int} {n f s a b c : Nat} (hs : s % 16 ≤ 8) (hf : mW m q n s c ≤ f) : cW m q lt n (f + 1) s a b c = (if s / 16 = n ∧ isE m (-1) a b c = true then 1 else 0) + sm (fun d => match stT m q lt n s d with
    | none => 0
    | some s2 => if goes m (-1) a b c d then cW m q lt n (f + 1) s2 b c d else 0) (nP m) := by
  rw [cW]
  congr 1
  refine sm_congr (fun d hd => ?_)
  cases hst : stT m q lt n s d with
  | none => rfl
  | some s2 =>
    dsimp only
    by_cases hg : goes m (-1) a b c d = true
    · rw [if_pos hg, if_pos hg]
      have := mW_down hd hs hst hg
      exact cW_stab f (f + 1) s2 b c d this.2.1 (by omega) (by omega)
    · rw [if_neg hg, if_neg hg]
theorem lW_step {m : eW} {q : Nat} {lt : Nat → Int} {n f s a b c : Nat} (hs : s % 16 ≤ 8) (hf : mW m q n s c ≤ f) : lW m q lt n (f + 1) s a b c = (if s / 16 = n ∧ isE m (-1) a b c = true then [[]] else []) ++ lsD (fun d => match stT m q lt n s d with
    | none => []
    | some s2 => if goes m (-1) a b c d then (lW m q lt n (f + 1) s2 b c d).map (fun l => d :: l) else []) (nP m) := by
  rw [lW]
  congr 1
  refine lsD_congr (fun d hd => ?_)
  cases hst : stT m q lt n s d with
  | none => rfl
  | some s2 =>
    dsimp only
    by_cases hg : goes m (-1) a b c d = true
    · rw [if_pos hg, if_pos hg]
      have := mW_down hd hs hst hg
      rw [lW_stab f (f + 1) s2 b c d this.2.1 (by omega) (by omega)]
    · rw [if_neg hg, if_neg hg]
theorem cw_eq {m : eW} {q : Nat} {lt : Nat → Int} {n s a b c : Nat} (hn : n ≤ 6) (hs : s % 16 ≤ 8) : cw m q lt n s a b c = (if s / 16 = n ∧ isE m (-1) a b c = true then 1 else 0) + sm (fun d => match stT m q lt n s d with
    | none => 0
    | some s2 => if goes m (-1) a b c d then cw m q lt n s2 b c d else 0) (nP m) := cW_step hs (mW_le hn)
theorem lw_eq {m : eW} {q : Nat} {lt : Nat → Int} {n s a b c : Nat} (hn : n ≤ 6) (hs : s % 16 ≤ 8) : lw m q lt n s a b c = (if s / 16 = n ∧ isE m (-1) a b c = true then [[]] else []) ++ lsD (fun d => match stT m q lt n s d with
    | none => []
    | some s2 => if goes m (-1) a b c d then (lw m q lt n s2 b c d).map (fun l => d :: l) else []) (nP m) := lW_step hs (mW_le hn)
theorem cw_lt {m : eW} (hp : nP m ≤ 16) {q : Nat} {lt : Nat → Int} {n s a b c : Nat} : cw m q lt n s a b c < 9223372036854775807 := Nat.lt_of_le_of_lt (cW_le hp _ _ _ _ _) (by decide)
theorem lw_0 {m : eW} {q : Nat} {lt : Nat → Int} {n s a b c : Nat} : cw m q lt n s a b c = 0 ↔ lw m q lt n s a b c = [] := by
  unfold cw lw
  rw [← lW_len, List.length_eq_zero_iff]

