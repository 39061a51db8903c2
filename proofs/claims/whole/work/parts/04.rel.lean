/-! What the abstract machine's state is in the heap. -/
def am_ph (b sz a : Nat) : Nat := if a = 0 then b else sz + (am_pj a - 1)
def am_cv (b sz : Nat) (v : aV) : Value := match v with
  | (0, x) => .int (Int32.ofInt x)
  | (1, x) => .long (Int64.ofInt x)
  | (2, x) => if x < 0 then .null else .ref (am_ph b sz x.toNat)
  | _ => .null
def am_ce (b sz : Nat) (cI cJ cB : ClassId) (S : aS) (a : Nat) : va_E :=
  if (S.2.1 a).1 = 20 then .inl (cI, (S.2.1 a).2, .inl fun j => Int32.ofInt (S.1 a j))
  else if (S.2.1 a).1 = 21 then .inl (cJ, (S.2.1 a).2, .inr (.inl fun j => Int64.ofInt (S.1 a j)))
  else if (S.2.1 a).1 = 22 then .inl (cB, (S.2.1 a).2, .inl fun j => Int32.ofInt (S.1 a j))
  else .inr ((S.2.1 a).1, (List.range (am_nF (S.2.1 a).1)).map fun k => am_cv b sz (am_tg (am_ty (S.2.1 a).1 k), S.1 a k))
def am_ws (b sz : Nat) (cI cJ cB : ClassId) (S : aS) : va_W := (List.range (S.2.2.1 - 1)).map fun k => (sz + k, am_ce b sz cI cJ cB S (am_pi (k + 1)))
def am_Rel (b sz L : Nat) (xs : Nat → Int32) (D : va_G) (cI cJ cB : ClassId) (S : aS) (H : Heap) : Prop :=
  va_P D am_cl (am_ws b sz cI cJ cB S) H ∧ H.size = sz + (S.2.2.1 - 1) ∧ 1 ≤ S.2.2.1 ∧ S.2.1 0 = (23, L) ∧ ∀ j, j < L → Int32.ofInt (S.1 0 j) = xs j
def am_asc (b sz : Nat) (la : List aV) : List (Nat × Value) := (List.range la.length).filterMap fun i => match la[i]? with
  | some v => if v.1 ≤ 2 then some (i, am_cv b sz v) else none
  | none => none
theorem am_asc_mem {b sz : Nat} {la : List aV} {q : Nat × Value} : q ∈ am_asc b sz la ↔ ∃ v, la[q.1]? = some v ∧ v.1 ≤ 2 ∧ q.2 = am_cv b sz v := by
  unfold am_asc
  rw [List.mem_filterMap]
  constructor
  · rintro ⟨i, -, hi⟩
    split at hi
    · next v hv =>
      split at hi
      · next ht => cases hi; exact ⟨v, hv, ht, rfl⟩
      · cases hi
    · cases hi
  · rintro ⟨v, hv, ht, hq⟩
    have hl : q.1 < la.length := (List.getElem?_eq_some_iff.mp hv).1
    refine ⟨q.1, List.mem_range.mpr hl, ?_⟩
    simp only [hv, ht, if_true]
    rw [← hq]
def am_LR (b sz : Nat) (lr : Array Slot) (nL : Nat) (la : List aV) : Prop := la.length = nL ∧ lv_has lr nL (am_asc b sz la)
theorem am_LR.at {b sz : Nat} {lr : Array Slot} {nL : Nat} {la : List aV} (h : am_LR b sz lr nL la) {i : Nat} {v : aV} (hv : la[i]? = some v) (ht : v.1 ≤ 2) : lr[i]? = some (.val (am_cv b sz v)) :=
  h.2.2.2 (i, am_cv b sz v) (am_asc_mem.mpr ⟨v, hv, ht, rfl⟩)
theorem am_LR.to {b sz : Nat} {lr : Array Slot} {nL : Nat} {la : List aV} {l : List (Nat × Value)} (hlen : la.length = nL) (h : lv_has lr nL l) (hs : ∀ q ∈ am_asc b sz la, q ∈ l) : am_LR b sz lr nL la := ⟨hlen, h.1, h.2.1, fun q hq => h.2.2 q (hs q hq)⟩
theorem am_cv_cat {b sz : Nat} {v : aV} : (am_cv b sz v).category = if v.1 = 1 then 2 else 1 := by
  obtain ⟨t, x⟩ := v
  unfold am_cv
  split
  · next h => cases h; rfl
  · next h => cases h; rfl
  · next h => cases h; split <;> rfl
  · next h1 h2 h3 =>
    have : ¬ t = 1 := fun e => by subst e; exact h2 x rfl
    simp [this, Value.category]
theorem am_ws_get {b sz : Nat} {cI cJ cB : ClassId} {S : aS} {a : Nat} (h0 : 0 < a) (h : am_pj a < S.2.2.1) : (am_ws b sz cI cJ cB S)[am_pj a - 1]? = some (sz + (am_pj a - 1), am_ce b sz cI cJ cB S a) := by
  have h0 := am_pj_pos h0
  unfold am_ws
  rw [List.getElem?_map, List.getElem?_range (by omega)]
  simp only [Option.map_some]
  rw [show am_pj a - 1 + 1 = am_pj a by omega, am_pi_pj]
theorem am_ws_D {b sz : Nat} {cI cJ cB : ClassId} {S : aS} : va_D (fun q => sz ≤ q) (am_ws b sz cI cJ cB S) := by
  have key : ∀ (k : Nat) (q : Nat × va_E), (am_ws b sz cI cJ cB S)[k]? = some q → q.1 = sz + k := by
    intro k q hq
    unfold am_ws at hq
    rw [List.getElem?_map] at hq
    cases h : (List.range (S.2.2.1 - 1))[k]? with
    | none => rw [h] at hq; cases hq
    | some j =>
      rw [h] at hq
      have := List.getElem?_eq_some_iff.mp h
      obtain ⟨hl, hj⟩ := this
      rw [List.getElem_range] at hj
      cases hq
      simp [hj]
  exact ⟨fun i j p q hp hq h => by rw [key i p hp, key j q hq] at h; omega, fun k q hq => by rw [key k q hq]; omega⟩
/-- a write to one cell -/
theorem am_ws_set {b sz : Nat} {cI cJ cB : ClassId} {S S2 : aS} {a : Nat} (ht : S2.2 = S.2) (h0 : 0 < a) (hm : ∀ q j, q ≠ a → S2.1 q j = S.1 q j) : am_ws b sz cI cJ cB S2 = (am_ws b sz cI cJ cB S).set (am_pj a - 1) (sz + (am_pj a - 1), am_ce b sz cI cJ cB S2 a) := by
  have h0 := am_pj_pos h0
  apply List.ext_getElem?
  intro k
  rw [List.getElem?_set]
  unfold am_ws
  rw [ht]
  by_cases hk : am_pj a - 1 = k
  · subst hk
    simp only [List.length_map, List.length_range, if_true]
    by_cases hl : am_pj a - 1 < S.2.2.1 - 1
    · rw [List.getElem?_map, List.getElem?_range hl]
      simp only [hl, if_true, Option.map_some]
      rw [show am_pj a - 1 + 1 = am_pj a by omega, am_pi_pj]
    · simp only [hl, if_false]
      rw [List.getElem?_eq_none_iff]
      simp; omega
  · simp only [hk, if_false]
    rw [List.getElem?_map, List.getElem?_map]
    cases h : (List.range (S.2.2.1 - 1))[k]? with
    | none => rfl
    | some j =>
      obtain ⟨hl, hj⟩ := List.getElem?_eq_some_iff.mp h
      rw [List.getElem_range] at hj
      subst hj
      simp only [Option.map_some, Option.some.injEq, Prod.mk.injEq, true_and]
      have hne : am_pi (k + 1) ≠ a := fun h9 => by
        have := am_pj_pi (k + 1)
        rw [h9] at this
        omega
      unfold am_ce
      rw [show S2.2.1 (am_pi (k + 1)) = S.2.1 (am_pi (k + 1)) by rw [ht]]
      simp only [hm _ _ hne]
theorem am_ws_al {b sz : Nat} {cI cJ cB : ClassId} {S : aS} {kd n sl : Nat} {df : Nat → Int} (h1 : 1 ≤ S.2.2.1) : am_ws b sz cI cJ cB (am_al S kd n df sl) = am_ws b sz cI cJ cB S ++ [(sz + (S.2.2.1 - 1), am_ce b sz cI cJ cB (am_al S kd n df sl) (am_pi S.2.2.1))] := by
  unfold am_ws
  rw [show (am_al S kd n df sl).2.2.1 - 1 = (S.2.2.1 - 1) + 1 by simp [am_al]; omega, List.range_succ, List.map_append]
  congr 1
  · apply List.map_congr_left
    intro k hk
    have hk := List.mem_range.mp hk
    have hne : ¬ am_pi (k + 1) = am_pi S.2.2.1 := fun h9 => by
      have h8 := am_pj_pi (k + 1)
      rw [h9, am_pj_pi] at h8
      omega
    simp only [am_ce, am_al, hne, if_false]
  · simp only [List.map_cons, List.map_nil]
    rw [show S.2.2.1 - 1 + 1 = S.2.2.1 by omega]
