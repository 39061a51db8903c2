/-! The class's book of answers once more: what has been noted is found. First, tables of tags. -/

/-- a place is in use; its key -/
abbrev tF (s : Int) (tg : Nat → Int) (j : Nat) : Prop := tg j / 4294967296 = s
def tK (tg : Nat → Int) (j : Nat) : Int := tg j % 4294967296
/-- the places where a key is looked for, in their order -/
def tps (M : Nat) (k : Int) : Nat → Int
  | 0 => iand (ixor (ixor k (iushr k 7)) (iushr k 15)) ((M : Int) - 1)
  | q + 1 => iand (tps M k q + 1) ((M : Int) - 1)
def tpl (M : Nat) (k : Int) (q : Nat) : Nat := (tps M k q).toNat
/-- a key is found -/
def tFn (s : Int) (tg : Nat → Int) (M : Nat) (k : Int) : Prop := ∃ n, n < M ∧ (∀ q, q < n → tF s tg (tpl M k q) ∧ ¬ tK tg (tpl M k q) = k) ∧ tF s tg (tpl M k n) ∧ tK tg (tpl M k n) = k
/-- how many places are in use -/
def tCf (s : Int) (tg : Nat → Int) (n : Nat) : Nat := sm (fun j => if tg j / 4294967296 = s then 1 else 0) n
theorem tps_b {M : Nat} (hM : 1 ≤ M ∧ M ≤ 262144) (k : Int) (q : Nat) : 0 ≤ tps M k q ∧ tps M k q < (M : Int) := by
  have mask : ∀ z, 0 ≤ iand z ((M : Int) - 1) ∧ iand z ((M : Int) - 1) < (M : Int) := fun z => by
    have := i_mask z (n := M - 1) (by omega)
    rw [show ((M - 1 : Nat) : Int) = (M : Int) - 1 by omega] at this
    omega
  cases q with
  | zero => exact mask _
  | succ q => exact mask _
theorem tpl_lt {M : Nat} (hM : 1 ≤ M ∧ M ≤ 262144) (k : Int) (q : Nat) : tpl M k q < M := by
  have := tps_b hM k q
  unfold tpl
  omega
theorem tpl_nx {M e : Nat} (hM : 1 ≤ M ∧ M ≤ 262144) (he : M = 2 ^ e) (k : Int) (q : Nat) : tpl M k (q + 1) = if tpl M k q + 1 = M then 0 else tpl M k q + 1 := by
  have hb := tps_b hM k q
  have e1 : tps M k (q + 1) = (((tps M k q + 1).toNat &&& ((M : Int) - 1).toNat : Nat) : Int) := i_and (by omega) (by omega)
  have e2 : ((M : Int) - 1).toNat = 2 ^ e - 1 := by omega
  have e3 : tpl M k (q + 1) = (tps M k q + 1).toNat % 2 ^ e := by
    unfold tpl
    rw [e1, Int.toNat_natCast, e2, Nat.and_two_pow_sub_one_eq_mod]
  rw [e3, ← he]
  have e4 : (tps M k q + 1).toNat = tpl M k q + 1 := by unfold tpl; omega
  have hl := tpl_lt hM k q
  rw [e4]
  by_cases h : tpl M k q + 1 = M
  · rw [if_pos h, h, Nat.mod_self]
  · rw [if_neg h, Nat.mod_eq_of_lt (by omega)]
theorem tpl_at {M e : Nat} (hM : 1 ≤ M ∧ M ≤ 262144) (he : M = 2 ^ e) (k : Int) : ∀ q, q ≤ M → tpl M k q = if tpl M k 0 + q < M then tpl M k 0 + q else tpl M k 0 + q - M := by
  have h0 := tpl_lt hM k 0
  intro q
  induction q with
  | zero => intro _; rw [if_pos (by omega)]; rfl
  | succ q ih =>
    intro hq
    rw [tpl_nx hM he k q, ih (by omega)]
    by_cases h : tpl M k 0 + q < M
    · rw [if_pos h]
      by_cases h2 : tpl M k 0 + q + 1 = M
      · rw [if_pos h2, if_neg (by omega)]; omega
      · rw [if_neg h2, if_pos (by omega)]; omega
    · rw [if_neg h, if_neg (show ¬ (tpl M k 0 + (q + 1) < M) by omega), if_neg (by omega)]; omega
/-- every place is looked at -/
theorem tpl_all {M e : Nat} (hM : 1 ≤ M ∧ M ≤ 262144) (he : M = 2 ^ e) (k : Int) {j : Nat} (hj : j < M) : ∃ q, q < M ∧ tpl M k q = j := by
  have h0 := tpl_lt hM k 0
  by_cases h : tpl M k 0 ≤ j
  · exact ⟨j - tpl M k 0, by omega, by rw [tpl_at hM he k _ (by omega), if_pos (by omega)]; omega⟩
  · exact ⟨M + j - tpl M k 0, by omega, by rw [tpl_at hM he k _ (by omega), if_neg (by omega)]; omega⟩
theorem tCf_lt {s : Int} {tg : Nat → Int} {n : Nat} (h : tCf s tg n < n) : ∃ j, j < n ∧ ¬ tF s tg j := by
  refine Classical.byContradiction (fun h2 => ?_)
  have e : tCf s tg n = n * 1 := by
    unfold tCf
    rw [sm_congr (g := fun _ => 1) (fun i hi => if_pos (Classical.byContradiction (fun h3 => h2 ⟨i, hi, h3⟩))), sm_const]
  omega
theorem tCf_le (s : Int) (tg : Nat → Int) (n : Nat) : tCf s tg n ≤ n := by
  have := sm_bound (f := fun j => if tg j / 4294967296 = s then 1 else 0) (n := n) (c := 1) (fun i _ => by
    show (if tg i / 4294967296 = s then 1 else 0) ≤ 1
    split <;> omega)
  show sm _ n ≤ n
  omega
/-- with a place to spare, looking for a key ends -/
theorem t_free {s : Int} {tg : Nat → Int} {M e : Nat} (hM : 1 ≤ M ∧ M ≤ 262144) (he : M = 2 ^ e) (k : Int) (h : tCf s tg M < M) : ¬ ∀ q, q < M → tF s tg (tpl M k q) ∧ ¬ tK tg (tpl M k q) = k := fun h2 => by
  obtain ⟨j, j1, j2⟩ := tCf_lt h
  obtain ⟨q, q1, q2⟩ := tpl_all hM he k j1
  have := (h2 q q1).1
  rw [q2] at this
  exact j2 this
/-- a tag is written -/
def tSt (tg : Nat → Int) (x : Nat) (T : Int) : Nat → Int := fun j => if j = x then T else tg j
theorem tSt_k {s : Int} {tg : Nat → Int} {x j : Nat} {T : Int} (hT : T / 4294967296 = s) (hx : tF s tg x → tK tg x = T % 4294967296) (h : tF s tg j) : tF s (tSt tg x T) j ∧ tK (tSt tg x T) j = tK tg j := by
  unfold tF tK tSt at *
  by_cases h9 : j = x
  · rw [if_pos h9]
    rw [h9] at h ⊢
    exact ⟨hT, (hx h).symm⟩
  · rw [if_neg h9]; exact ⟨h, rfl⟩
theorem tSt_b {s : Int} {tg : Nat → Int} {x j : Nat} {T : Int} (h : tF s (tSt tg x T) j) : tK (tSt tg x T) j = T % 4294967296 ∨ (tF s tg j ∧ tK (tSt tg x T) j = tK tg j) := by
  unfold tF tK tSt at *
  by_cases h9 : j = x
  · rw [if_pos h9]; exact Or.inl rfl
  · rw [if_neg h9] at h ⊢; exact Or.inr ⟨h, rfl⟩
theorem tFn_st {s : Int} {tg : Nat → Int} {M x : Nat} {T k : Int} (hT : T / 4294967296 = s) (hx : tF s tg x → tK tg x = T % 4294967296) (h : tFn s tg M k) : tFn s (tSt tg x T) M k := by
  obtain ⟨n, n1, n2, n3, n4⟩ := h
  refine ⟨n, n1, fun q hq => ?_, ?_, ?_⟩
  · have := tSt_k hT hx (n2 q hq).1
    exact ⟨this.1, by rw [this.2]; exact (n2 q hq).2⟩
  · exact (tSt_k hT hx n3).1
  · rw [(tSt_k hT hx n3).2]; exact n4
/-- where looking for a key ends: at a free place, or at the key -/
def tEn (s : Int) (tg : Nat → Int) (M : Nat) (k : Int) (n : Nat) : Prop := (∀ q, q < n → tF s tg (tpl M k q) ∧ ¬ tK tg (tpl M k q) = k) ∧ (tF s tg (tpl M k n) → tK tg (tpl M k n) = k)
theorem tEn_fn {s : Int} {tg : Nat → Int} {M n : Nat} {k : Int} (h : tEn s tg M k n) (hf : tFn s tg M k) : tF s tg (tpl M k n) := by
  obtain ⟨n2, a1, a2, a3, a4⟩ := hf
  rcases Nat.lt_trichotomy n n2 with h9 | h9 | h9
  · exact absurd (h.2 (a2 n h9).1) (a2 n h9).2
  · rw [h9]; exact a3
  · exact absurd a4 (h.1 n2 h9).2
theorem tFn_nw {s : Int} {tg : Nat → Int} {M n : Nat} {T k : Int} (hT : T / 4294967296 = s) (hk : T % 4294967296 = k) (hn : n < M) (h : tEn s tg M k n) : tFn s (tSt tg (tpl M k n) T) M k := by
  have hx : tF s tg (tpl M k n) → tK tg (tpl M k n) = T % 4294967296 := fun h9 => by rw [hk]; exact h.2 h9
  refine ⟨n, hn, fun q hq => ?_, ?_, ?_⟩
  · have := tSt_k hT hx (h.1 q hq).1
    exact ⟨this.1, by rw [this.2]; exact (h.1 q hq).2⟩
  · unfold tF tSt; rw [if_pos rfl]; exact hT
  · unfold tK tSt; rw [if_pos rfl]; exact hk
theorem tCf_st {s : Int} {tg : Nat → Int} {x : Nat} {T : Int} (hT : T / 4294967296 = s) : ∀ n, tCf s (tSt tg x T) n = tCf s tg n + if x < n ∧ ¬ tF s tg x then 1 else 0 := by
  intro n
  induction n with
  | zero => rw [if_neg (by omega)]; rfl
  | succ n ih =>
    show tCf s (tSt tg x T) n + (if tSt tg x T n / 4294967296 = s then 1 else 0) = tCf s tg n + (if tg n / 4294967296 = s then 1 else 0) + _
    rw [ih]
    by_cases h9 : n = x
    · have e1 : tSt tg x T n = T := if_pos h9
      rw [e1, if_pos hT, if_neg (show ¬ (x < n ∧ ¬ tF s tg x) by omega)]
      by_cases h8 : tF s tg x
      · have e2 : tg n / 4294967296 = s := by rw [h9]; exact h8
        rw [if_pos e2, if_neg (fun z => z.2 h8)]
      · have e2 : ¬ tg n / 4294967296 = s := by rw [h9]; exact h8
        rw [if_neg e2, if_pos ⟨by omega, h8⟩]
    · have e1 : tSt tg x T n = tg n := if_neg h9
      have e2 : (if x < n + 1 ∧ ¬ tF s tg x then 1 else 0) = (if x < n ∧ ¬ tF s tg x then 1 else 0) := by
        by_cases h8 : x < n ∧ ¬ tF s tg x
        · rw [if_pos h8, if_pos (show x < n + 1 ∧ ¬ tF s tg x from ⟨by omega, h8.2⟩)]
        · rw [if_neg h8, if_neg (show ¬ (x < n + 1 ∧ ¬ tF s tg x) from fun z => h8 ⟨by omega, z.2⟩)]
      rw [e1, e2, Nat.add_right_comm]
/-- what one more key does to a table -/
theorem t_put {s : Int} {tg : Nat → Int} {M n : Nat} {T k : Int} (hM : 1 ≤ M ∧ M ≤ 262144) (hT : T / 4294967296 = s) (hk : T % 4294967296 = k) (hn : n < M) (h : tEn s tg M k n) : (∀ q, tFn s tg M q → tFn s (tSt tg (tpl M k n) T) M q) ∧ tFn s (tSt tg (tpl M k n) T) M k ∧ tCf s (tSt tg (tpl M k n) T) M = tCf s tg M + (if tF s tg (tpl M k n) then 0 else 1) ∧ ∀ j, tF s (tSt tg (tpl M k n) T) j → tK (tSt tg (tpl M k n) T) j = k ∨ (tF s tg j ∧ tK (tSt tg (tpl M k n) T) j = tK tg j) := by
  have hx : tF s tg (tpl M k n) → tK tg (tpl M k n) = T % 4294967296 := fun h9 => by rw [hk]; exact h.2 h9
  refine ⟨fun q hq => tFn_st hT hx hq, tFn_nw hT hk hn h, ?_, fun j hj => by have := tSt_b hj; rw [hk] at this; exact this⟩
  rw [tCf_st hT M]
  have := tpl_lt hM k n
  by_cases h9 : tF s tg (tpl M k n)
  · rw [if_pos h9, if_neg (fun z => z.2 h9)]
  · rw [if_neg h9, if_pos ⟨this, h9⟩]
