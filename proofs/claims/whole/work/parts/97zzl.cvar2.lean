/-! The class: unlike spellings: the fewest letters. -/

def ow (m : eW) (p : Nat) : Nat := if m 69 p = 27 then 0 else 1
/-- the least, at most 1000 -/
def mnF (h : Nat → Nat) : Nat → Nat
  | 0 => 1000
  | k + 1 => min (mnF h k) (h k)
theorem mnF_le (h : Nat → Nat) (k : Nat) : ∀ n, k < 1000 → (mnF h n ≤ k ↔ ∃ p, p < n ∧ h p ≤ k) := by
  intro n
  induction n with
  | zero => intro hk; exact ⟨fun h9 => by unfold mnF at h9; omega, fun ⟨p, h1, _⟩ => by omega⟩
  | succ n ih =>
    intro hk
    unfold mnF
    refine ⟨fun h9 => ?_, fun ⟨p, h1, h2⟩ => ?_⟩
    · by_cases h8 : h n ≤ k
      · exact ⟨n, by omega, h8⟩
      · obtain ⟨p, h1, h2⟩ := (ih hk).mp (by omega)
        exact ⟨p, by omega, h2⟩
    · by_cases h8 : p = n
      · rw [h8] at h2; omega
      · have := (ih hk).mpr ⟨p, by omega, h2⟩
        omega
theorem mnF_1000 (h : Nat → Nat) : ∀ n, mnF h n ≤ 1000 := by
  intro n
  induction n with
  | zero => exact Nat.le_refl _
  | succ n ih => unfold mnF; omega
def fwF (m : eW) (l : List Int) : Nat → Nat → t3 → Nat
  | 0, _, _ => 1000
  | f + 1, i, g => if decide (i = l.length) && isE m (-1) g.1 g.2.1 g.2.2 then 0 else mnF (fun p => if (spP m l i &&& mfG m g).testBit p then ow m p + fwF m l f (spB m i p) (gN g p) else 1000) 16
theorem fwF_1000 {m : eW} {l : List Int} : ∀ (f i : Nat) (g : t3), fwF m l f i g ≤ 1000 := by
  intro f i g
  cases f with
  | zero => exact Nat.le_refl _
  | succ f =>
    unfold fwF
    split
    · omega
    · exact mnF_1000 _ _
/-- letters of the lower side -/
def lows (m : eW) (x : List Nat) : List Int := x.filterMap (fun d => if m 69 d = 27 then none else some (m 69 d))
theorem lows_c (m : eW) (d : Nat) (x : List Nat) : lows m (d :: x) = if m 69 d = 27 then lows m x else m 69 d :: lows m x := by
  unfold lows
  by_cases h : m 69 d = 27
  · rw [if_pos h, List.filterMap_cons_none (by rw [if_pos h])]
  · rw [if_neg h, List.filterMap_cons_some (by rw [if_neg h])]
theorem lows_n (m : eW) (d : Nat) (x : List Nat) : (lows m (d :: x)).length = ow m d + (lows m x).length := by
  rw [lows_c]
  unfold ow
  by_cases h : m 69 d = 27
  · rw [if_pos h, if_pos h]; omega
  · rw [if_neg h, if_neg h, List.length_cons]; omega
/-- a row goes on from a spot just so -/
theorem lW_0 {m : eW} (hp : WFp m) {l : List Int} (hl : LtO l) {f i : Nat} {g : t3} {x : List Nat} : x ∈ lW m 0 (ltF l) l.length (f + 1) (16 * i) g.1 g.2.1 g.2.2 ↔ (x = [] ∧ i = l.length ∧ isE m (-1) g.1 g.2.1 g.2.2 = true) ∨ ∃ p y, p < 16 ∧ (spP m l i &&& mfG m g).testBit p = true ∧ x = p :: y ∧ y ∈ lW m 0 (ltF l) l.length f (16 * spB m i p) (gN g p).1 (gN g p).2.1 (gN g p).2.2 := by
  have hn16 : nP m ≤ 16 := by have := hp.1; unfold nP; omega
  rw [lW]
  rw [List.mem_append, show 16 * i / 16 = i by omega]
  refine ⟨fun h => ?_, fun h => ?_⟩
  · rcases h with h | h
    · split at h
      · next hc => rw [List.mem_singleton] at h; exact Or.inl ⟨h, hc⟩
      · cases h
    · obtain ⟨p, hpl, h2⟩ := lsD_mem2 h
      rw [stT_0 hpl] at h2
      cases h1 : decide (m 68 p = 27) || (decide (i < l.length) && decide (m 68 p = ltF l i)) with
      | false => rw [h1, if_neg (by decide)] at h2; cases h2
      | true =>
        rw [h1, if_pos rfl] at h2
        dsimp only at h2
        split at h2
        · next hg =>
          obtain ⟨y, y1, y2⟩ := List.mem_map.mp h2
          refine Or.inr ⟨p, y, by omega, ?_, y2.symm, y1⟩
          rw [Nat.testBit_and, mf_tb2 (by omega), decide_eq_true hpl, Bool.true_and, spP_t hp hl hpl, h1, hg]; rfl
        · cases h2
  · rcases h with ⟨rfl, h⟩ | ⟨p, y, h1, h2, rfl, h4⟩
    · left
      rw [if_pos h]; exact List.mem_singleton.mpr rfl
    · right
      rw [Nat.testBit_and, mf_tb2 h1] at h2
      obtain ⟨h5, h6⟩ := Bool.and_eq_true_iff.mp h2
      obtain ⟨h7, h8⟩ := Bool.and_eq_true_iff.mp h6
      have hpl := of_decide_eq_true h7
      rw [spP_t hp hl hpl] at h5
      refine lsD_inn hpl ?_
      rw [stT_0 hpl, if_pos h5]
      dsimp only
      rw [if_pos h8]
      exact List.mem_map.mpr ⟨y, h4, rfl⟩
theorem fwF_c {m : eW} (hp : WFp m) {l : List Int} (hl : LtO l) {k : Nat} (hk : k < 1000) : ∀ (f i : Nat) (g : t3) (j : Nat), j ≤ k → (fwF m l f i g ≤ j ↔ ∃ x ∈ lW m 0 (ltF l) l.length f (16 * i) g.1 g.2.1 g.2.2, (lows m x).length ≤ j) := by
  intro f
  induction f with
  | zero =>
    intro i g j hj
    unfold fwF lW
    exact ⟨fun h => by omega, fun ⟨x, h, _⟩ => by cases h⟩
  | succ f ih =>
    intro i g j hj
    have hd : ∀ h, (fwF m l (f + 1) i g ≤ j ↔ h) ↔ ((if decide (i = l.length) && isE m (-1) g.1 g.2.1 g.2.2 then 0 else mnF (fun p => if (spP m l i &&& mfG m g).testBit p then ow m p + fwF m l f (spB m i p) (gN g p) else 1000) 16) ≤ j ↔ h) := fun h => Iff.rfl
    rw [hd]
    cases hw : decide (i = l.length) && isE m (-1) g.1 g.2.1 g.2.2 with
    | true =>
      obtain ⟨h1, h2⟩ := Bool.and_eq_true_iff.mp hw
      rw [if_pos rfl]
      exact ⟨fun _ => ⟨[], (lW_0 hp hl).mpr (Or.inl ⟨rfl, of_decide_eq_true h1, h2⟩), Nat.zero_le _⟩, fun _ => Nat.zero_le _⟩
    | false =>
      rw [if_neg (by decide), mnF_le _ j 16 (by omega)]
      refine ⟨fun ⟨p, h1, h2⟩ => ?_, fun ⟨x, h1, h2⟩ => ?_⟩
      · split at h2
        · next hb =>
          obtain ⟨y, y1, y2⟩ := (ih (spB m i p) (gN g p) (j - ow m p) (by omega)).mp (by omega)
          exact ⟨p :: y, (lW_0 hp hl).mpr (Or.inr ⟨p, y, h1, hb, rfl, y1⟩), by rw [lows_n]; omega⟩
        · omega
      · rcases (lW_0 hp hl).mp h1 with ⟨_, h3, h4⟩ | ⟨p, y, h3, h4, rfl, h6⟩
        · rw [decide_eq_true h3, h4] at hw; cases hw
        · rw [lows_n] at h2
          have := (ih (spB m i p) (gN g p) (j - ow m p) (by omega)).mpr ⟨y, h6, by omega⟩
          exact ⟨p, h3, by rw [if_pos h4]; omega⟩
/-- equal where the same rows go on -/
theorem fwF_eq {m : eW} (hp : WFp m) {l : List Int} (hl : LtO l) {f f2 i i2 : Nat} {g g2 : t3} (h : ∀ x, x ∈ lW m 0 (ltF l) l.length f (16 * i) g.1 g.2.1 g.2.2 ↔ x ∈ lW m 0 (ltF l) l.length f2 (16 * i2) g2.1 g2.2.1 g2.2.2) : fwF m l f i g = fwF m l f2 i2 g2 := by
  have h1 := fwF_1000 (m := m) (l := l) f i g
  have h2 := fwF_1000 (m := m) (l := l) f2 i2 g2
  have hx : ∀ j, j < 1000 → (fwF m l f i g ≤ j ↔ fwF m l f2 i2 g2 ≤ j) := fun j hj => by
    rw [fwF_c hp hl hj f i g j (Nat.le_refl _), fwF_c hp hl hj f2 i2 g2 j (Nat.le_refl _)]
    exact ⟨fun ⟨x, a, b⟩ => ⟨x, (h x).mp a, b⟩, fun ⟨x, a, b⟩ => ⟨x, (h x).mpr a, b⟩⟩
  rcases Nat.lt_trichotomy (fwF m l f i g) (fwF m l f2 i2 g2) with h3 | h3 | h3
  · have := (hx (fwF m l f i g) (by omega)).mp (Nat.le_refl _); omega
  · exact h3
  · have := (hx (fwF m l f2 i2 g2) (by omega)).mpr (Nat.le_refl _); omega
def fwl (m : eW) (l : List Int) (i : Nat) (g : t3) : Nat := fwF m l 14 i g
theorem fwl_eq {m : eW} (hp : WFp m) {l : List Int} (hl : LtO l) {i : Nat} {g : t3} : fwl m l i g = if decide (i = l.length) && isE m (-1) g.1 g.2.1 g.2.2 then 0 else mnF (fun p => if (spP m l i &&& mfG m g).testBit p then ow m p + fwl m l (spB m i p) (gN g p) else 1000) 16 := by
  have e : fwl m l i g = fwF m l 15 i g := by
    unfold fwl
    refine fwF_eq hp hl (fun x => ?_)
    rw [lW_stab 14 15 (16 * i) g.1 g.2.1 g.2.2 (by omega) (by have := mW_le (m := m) (q := 0) (s := 16 * i) (c := g.2.2) hl.1.2; omega) (by have := mW_le (m := m) (q := 0) (s := 16 * i) (c := g.2.2) hl.1.2; omega)]
  rw [e]
  rfl
theorem fwl_c {m : eW} (hp : WFp m) {l : List Int} (hl : LtO l) {k i : Nat} {g : t3} (hk : k < 1000) : fwl m l i g ≤ k ↔ ∃ x ∈ lw m 0 (ltF l) l.length (16 * i) g.1 g.2.1 g.2.2, (lows m x).length ≤ k := fwF_c hp hl hk 14 i g k (Nat.le_refl _)
theorem fwl_k {m : eW} (hp : WFp m) (hr : WFr m) {l : List Int} (hl : LtO l) {i : Nat} {g h : t3} (a1 : spA m l i g) (a2 : spA m l i h) (e : kyG m g = kyG m h) : fwl m l i g = fwl m l i h := by
  have hk := (ws_spel hp hl).k hp hr (spM m l i g + spM m l i h + 1) i g h (by omega) (by omega) a1 a2 e
  unfold spL at hk
  have hk2 : lw m 0 (ltF l) l.length (16 * i) g.1 g.2.1 g.2.2 = lw m 0 (ltF l) l.length (16 * i) h.1 h.2.1 h.2.2 := by
    have := congrArg (List.map Prod.fst) hk
    rw [List.map_map, List.map_map] at this
    have e2 : (Prod.fst ∘ fun x : List Nat => ((x, []) : List Nat × List Nat)) = id := rfl
    rw [e2, List.map_id, List.map_id] at this
    exact this
  exact fwF_eq hp hl (fun x => by show x ∈ lw m 0 (ltF l) l.length (16 * i) g.1 g.2.1 g.2.2 ↔ x ∈ lw m 0 (ltF l) l.length (16 * i) h.1 h.2.1 h.2.2; rw [hk2])
theorem fwl_z {m : eW} (hp : WFp m) {l : List Int} (hl : LtO l) {i : Nat} {g : t3} (h0 : mfG m g = 0) : fwl m l i g = 1000 := by
  have ht := mf_tb (m := m) (g := g) (p := 16) (by omega)
  rw [if_pos rfl, h0, Nat.zero_testBit] at ht
  rw [fwl_eq hp hl, ← ht, Bool.and_false, if_neg (by decide)]
  have : ∀ n, mnF (fun p => if (spP m l i &&& mfG m g).testBit p then ow m p + fwl m l (spB m i p) (gN g p) else 1000) n = 1000 := by
    intro n
    induction n with
    | zero => rfl
    | succ n ih => unfold mnF; rw [ih, h0, Nat.and_zero, Nat.zero_testBit, if_neg (by decide)]; rfl
  exact this 16
