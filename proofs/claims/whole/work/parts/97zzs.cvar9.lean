/-! The class: unlike spellings: rows and their lower sides. -/

theorem lw_0c {m : eW} (hp : WFp m) {l : List Int} (hl : LtO l) {i : Nat} {g : t3} {x : List Nat} : x ∈ lw m 0 (ltF l) l.length (16 * i) g.1 g.2.1 g.2.2 ↔ (x = [] ∧ i = l.length ∧ isE m (-1) g.1 g.2.1 g.2.2 = true) ∨ ∃ p y, p < 16 ∧ (spP m l i &&& mfG m g).testBit p = true ∧ x = p :: y ∧ y ∈ lw m 0 (ltF l) l.length (16 * spB m i p) (gN g p).1 (gN g p).2.1 (gN g p).2.2 := by
  have e : lw m 0 (ltF l) l.length (16 * i) g.1 g.2.1 g.2.2 = lW m 0 (ltF l) l.length 15 (16 * i) g.1 g.2.1 g.2.2 := by
    unfold lw
    have := mW_le (m := m) (q := 0) (s := 16 * i) (c := g.2.2) hl.1.2
    rw [lW_stab 14 15 (16 * i) g.1 g.2.1 g.2.2 (by omega) (by omega) (by omega)]
  rw [e]
  exact lW_0 hp hl (f := 14)
theorem fwl_st {m : eW} (hp : WFp m) {l : List Int} (hl : LtO l) {i p k : Nat} {g : t3} (hk : k < 900) (h1 : p < 16) (h2 : (spP m l i &&& mfG m g).testBit p = true) (h3 : fwl m l (spB m i p) (gN g p) ≤ k) : fwl m l i g ≤ ow m p + k := by
  have ho : ow m p ≤ 1 := by unfold ow; split <;> omega
  obtain ⟨y, y1, y2⟩ := (fwl_c hp hl (k := k) (by omega)).mp h3
  refine (fwl_c hp hl (by omega)).mpr ⟨p :: y, (lw_0c hp hl).mpr (Or.inr ⟨p, y, h1, h2, rfl, y1⟩), ?_⟩
  rw [lows_n]; omega
theorem RcR_A {m : eW} (hp : WFp m) {l : List Int} (hl : LtO l) : ∀ (x : List Nat) (i : Nat) (g : t3), RcR m l x = some (i, g) → spA m l i g := by
  intro x
  induction x with
  | nil => intro i g h; cases h; exact ⟨Nat.zero_le _, tri_start m⟩
  | cons p y ih =>
    intro i g h
    obtain ⟨i', g', b1, b2, b3, b4, b5⟩ := RcR_c h
    have hA := ih i' g' b1
    rw [Nat.testBit_and] at b3
    obtain ⟨h5, h6⟩ := Bool.and_eq_true_iff.mp b3
    rw [b4, b5]
    exact ((ws_spel hp hl i' g' hA).2.1 p b2 h5 h6).1
/-- where so much of the lower side is done -/
theorem row_sp {m : eW} (hp : WFp m) {l : List Int} (hl : LtO l) : ∀ (x : List Nat) (u : List Nat) (i : Nat) (g : t3), RcR m l u = some (i, g) → x ∈ lw m 0 (ltF l) l.length (16 * i) g.1 g.2.1 g.2.2 → ∀ α β : List Int, lows m x = α ++ β → ∃ (u2 : List Nat) (i2 : Nat) (g2 : t3) (x2 : List Nat), RcR m l u2 = some (i2, g2) ∧ lows m u2 = α.reverse ++ lows m u ∧ x2 ∈ lw m 0 (ltF l) l.length (16 * i2) g2.1 g2.2.1 g2.2.2 ∧ lows m x2 = β := by
  intro x
  induction x with
  | nil =>
    intro u i g hu hx α β h
    have h : [] = α ++ β := h
    obtain ⟨h1, h2⟩ := List.append_eq_nil_iff.mp h.symm
    rw [h1, h2]
    exact ⟨u, i, g, [], hu, rfl, hx, rfl⟩
  | cons p y ih =>
    intro u i g hu hx α β h
    cases α with
    | nil => exact ⟨u, i, g, p :: y, hu, rfl, hx, h⟩
    | cons a α =>
      rcases (lw_0c hp hl).mp hx with ⟨h1, _⟩ | ⟨p2, y2, h1, h2, h3, h4⟩
      · cases h1
      · injection h3 with e1 e2
        subst e1; subst e2
        have hu2 : RcR m l (p :: u) = some (spB m i p, gN g p) := by
          unfold RcR
          rw [hu]
          dsimp only
          rw [decide_eq_true h1, h2]; rfl
        rw [lows_c] at h
        by_cases h69 : m 69 p = 27
        · rw [if_pos h69] at h
          obtain ⟨u2, i2, g2, x2, a1, a2, a3, a4⟩ := ih (p :: u) _ _ hu2 h4 (a :: α) β h
          rw [lows_c, if_pos h69] at a2
          exact ⟨u2, i2, g2, x2, a1, a2, a3, a4⟩
        · rw [if_neg h69] at h
          injection h with e1 e2
          obtain ⟨u2, i2, g2, x2, a1, a2, a3, a4⟩ := ih (p :: u) _ _ hu2 h4 α β e2
          rw [lows_c, if_neg h69, e1] at a2
          refine ⟨u2, i2, g2, x2, a1, ?_, a3, a4⟩
          rw [a2, List.reverse_cons, List.append_assoc]; rfl
theorem row_en {m : eW} (hp : WFp m) {l : List Int} (hl : LtO l) : ∀ (x : List Nat) (u : List Nat) (i : Nat) (g : t3), RcR m l u = some (i, g) → x ∈ lw m 0 (ltF l) l.length (16 * i) g.1 g.2.1 g.2.2 → ∃ (u2 : List Nat) (g2 : t3), RcR m l u2 = some (l.length, g2) ∧ isE m (-1) g2.1 g2.2.1 g2.2.2 = true ∧ lows m u2 = (lows m x).reverse ++ lows m u := by
  intro x
  induction x with
  | nil =>
    intro u i g hu hx
    rcases (lw_0c hp hl).mp hx with ⟨_, h1, h2⟩ | ⟨p2, y2, _, _, h3, _⟩
    · rw [h1] at hu; exact ⟨u, g, hu, h2, rfl⟩
    · cases h3
  | cons p y ih =>
    intro u i g hu hx
    rcases (lw_0c hp hl).mp hx with ⟨h1, _⟩ | ⟨p2, y2, h1, h2, h3, h4⟩
    · cases h1
    · injection h3 with e1 e2
      subst e1; subst e2
      have hu2 : RcR m l (p :: u) = some (spB m i p, gN g p) := by
        unfold RcR
        rw [hu]
        dsimp only
        rw [decide_eq_true h1, h2]; rfl
      obtain ⟨u2, g2, a1, a2, a3⟩ := ih (p :: u) _ _ hu2 h4
      refine ⟨u2, g2, a1, a2, ?_⟩
      rw [a3, lows_c, lows_c]
      by_cases h69 : m 69 p = 27
      · rw [if_pos h69, if_pos h69]
      · rw [if_neg h69, if_neg h69, List.reverse_cons, List.append_assoc]; rfl
theorem row_bk {m : eW} (hp : WFp m) {l : List Int} (hl : LtO l) : ∀ (u : List Nat) (i : Nat) (g : t3) (y : List Nat), RcR m l u = some (i, g) → y ∈ lw m 0 (ltF l) l.length (16 * i) g.1 g.2.1 g.2.2 → u.reverse ++ y ∈ lw m 0 (ltF l) l.length 0 16 16 16 := by
  intro u
  induction u with
  | nil => intro i g y h hy; cases h; exact hy
  | cons p u ih =>
    intro i g y h hy
    obtain ⟨i', g', b1, b2, b3, b4, b5⟩ := RcR_c h
    rw [List.reverse_cons, List.append_assoc]
    refine ih i' g' _ b1 ((lw_0c hp hl).mpr (Or.inr ⟨p, y, b2, b3, rfl, ?_⟩))
    rw [b4, b5] at hy; exact hy
theorem lows_rev (m : eW) (x : List Nat) : lows m x.reverse = (lows m x).reverse := by
  unfold lows
  rw [List.filterMap_reverse]
theorem lows_app (m : eW) (x y : List Nat) : lows m (x ++ y) = lows m x ++ lows m y := by
  unfold lows
  rw [List.filterMap_append]
/-- lower sides that go on from σ (its last letter first) -/
def TS (m : eW) (l : List Int) (σ : List Int) (t : List Int) : Prop := σ.length + t.length ≤ 6 ∧ ∃ x ∈ lw m 0 (ltF l) l.length 0 16 16 16, lows m x = σ.reverse ++ t
theorem TS_c {m : eW} {l : List Int} {σ t : List Int} {y : Int} : TS m l σ (y :: t) ↔ TS m l (y :: σ) t := by
  unfold TS
  rw [List.reverse_cons, List.append_assoc, List.length_cons, List.length_cons]
  refine ⟨fun ⟨h1, h2⟩ => ⟨by omega, h2⟩, fun ⟨h1, h2⟩ => ⟨by omega, h2⟩⟩
/-- all spots that are not without hope -/
def Com (m : eW) (l : List Int) (N : Nat) (KY : Nat → Int) (σ : List Int) (L : List Nat) : Prop := ∀ i g, Rch m l σ i g → σ.length + fwl m l i g ≤ 6 → ∃ s, s < N ∧ KY s = ((kyG m g : Nat) : Int) ∧ s * 7 + i ∈ L
/-- from what goes on to a spot -/
theorem TS_sp {m : eW} (hp : WFp m) {l : List Int} (hl : LtO l) {σ t : List Int} (h : TS m l σ t) : ∃ (i : Nat) (g : t3) (x : List Nat), Rch m l σ i g ∧ σ.length + fwl m l i g ≤ 6 ∧ x ∈ lw m 0 (ltF l) l.length (16 * i) g.1 g.2.1 g.2.2 ∧ lows m x = t := by
  obtain ⟨h1, x, x1, x2⟩ := h
  obtain ⟨u2, i2, g2, y, a1, a2, a3, a4⟩ := row_sp hp hl x [] 0 (16, 16, 16) rfl x1 σ.reverse t x2
  rw [List.reverse_reverse] at a2
  refine ⟨i2, g2, y, ⟨u2, a1, by rw [a2]; show σ ++ [] = σ; rw [List.append_nil]⟩, ?_, a3, a4⟩
  have := (fwl_c hp hl (m := m) (l := l) (k := t.length) (i := i2) (g := g2) (by omega)).mpr ⟨y, a3, by rw [a4]; exact Nat.le_refl _⟩
  omega
theorem TS_nil {m : eW} (hp : WFp m) (hr : WFr m) {l : List Int} (hl : LtO l) {N : Nat} {KY : Nat → Int} {σ : List Int} {L : List Nat} (hs : σ.length ≤ 6) (hC : Com m l N KY σ L) (hG : ∀ c ∈ L, GV m l N KY σ.length (Rch m l σ) c) : TS m l σ [] ↔ ∃ (s i : Nat) (g : t3), s < N ∧ KY s = ((kyG m g : Nat) : Int) ∧ s * 7 + i ∈ L ∧ i = l.length ∧ isE m (-1) g.1 g.2.1 g.2.2 = true ∧ i ≤ 6 := by
  have hl6 := hl.1.2
  refine ⟨fun h => ?_, fun h => ?_⟩
  · obtain ⟨_, x, x1, x2⟩ := h
    rw [List.append_nil] at x2
    obtain ⟨u2, g2, a1, a2, a3⟩ := row_en hp hl x [] 0 (16, 16, 16) rfl x1
    rw [x2, List.reverse_reverse] at a3
    have a3 : lows m u2 = σ ++ [] := a3
    rw [List.append_nil] at a3
    have h0 := (fwl_c hp hl (m := m) (l := l) (k := 0) (i := l.length) (g := g2) (by omega)).mpr ⟨[], (lw_0c hp hl).mpr (Or.inl ⟨rfl, rfl, a2⟩), Nat.le_refl _⟩
    obtain ⟨s, s1, s2, s3⟩ := hC l.length g2 ⟨u2, a1, a3⟩ (by omega)
    exact ⟨s, l.length, g2, s1, s2, s3, rfl, a2, hl6⟩
  · obtain ⟨s, i, g, h1, h2, h3, h4, h5, h6⟩ := h
    obtain ⟨s', i', g', a1, a2, a3, a4, ⟨u, b1, b2⟩, _⟩ := hG _ h3
    obtain ⟨rfl, rfl⟩ := code_un a4 h6 (by have := a3.1; omega)
    have ek : kyG m g = kyG m g' := by rw [h2] at a2; omega
    rw [ky_E hr ek] at h5
    have := row_bk hp hl u i g' [] b1 ((lw_0c hp hl).mpr (Or.inl ⟨rfl, h4, h5⟩))
    refine ⟨by show σ.length + 0 ≤ 6; omega, _, this, ?_⟩
    rw [lows_app, lows_rev, b2]
    rfl
/-- the next letter is one of those that go on from the spots -/
theorem TS_cons {m : eW} (hp : WFp m) {l : List Int} (hl : LtO l) {N : Nat} {KY : Nat → Int} {σ t : List Int} {L : List Nat} {y : Int} (hC : Com m l N KY σ L) (h : TS m l σ (y :: t)) : ∃ (s i : Nat) (g : t3) (p : Nat), s < N ∧ KY s = ((kyG m g : Nat) : Int) ∧ s * 7 + i ∈ L ∧ spA m l i g ∧ p < 16 ∧ (spP m l i &&& mfG m g).testBit p = true ∧ m 69 p = y ∧ ¬ (m 69 p = 27) := by
  obtain ⟨i, g, x, ⟨u, u1, u2⟩, h2, h3, h4⟩ := TS_sp hp hl h
  -- along pairs without lower sign
  suffices hk : ∀ (x : List Nat) (u : List Nat) (i : Nat) (g : t3), RcR m l u = some (i, g) → lows m u = σ → σ.length + fwl m l i g ≤ 6 → x ∈ lw m 0 (ltF l) l.length (16 * i) g.1 g.2.1 g.2.2 → lows m x = y :: t → ∃ (s i : Nat) (g : t3) (p : Nat), s < N ∧ KY s = ((kyG m g : Nat) : Int) ∧ s * 7 + i ∈ L ∧ spA m l i g ∧ p < 16 ∧ (spP m l i &&& mfG m g).testBit p = true ∧ m 69 p = y ∧ ¬ (m 69 p = 27) from hk x u i g u1 u2 h2 h3 h4
  have hlen := h.1
  intro x
  induction x with
  | nil => intro u i g _ _ _ _ h; cases h
  | cons p z ih =>
    intro u i g h1 h2 h3 h4 h5
    rcases (lw_0c hp hl).mp h4 with ⟨e1, _⟩ | ⟨p2, y2, q1, q2, q3, q4⟩
    · cases e1
    · injection q3 with e1 e2
      subst e1; subst e2
      rw [lows_c] at h5
      by_cases h69 : m 69 p = 27
      · rw [if_pos h69] at h5
        have hu2 : RcR m l (p :: u) = some (spB m i p, gN g p) := by
          unfold RcR
          rw [h1]
          dsimp only
          rw [decide_eq_true q1, q2]; rfl
        have := (fwl_c hp hl (m := m) (l := l) (k := (y :: t).length) (i := spB m i p) (g := gN g p) (by omega)).mpr ⟨z, q4, by rw [h5]; exact Nat.le_refl _⟩
        exact ih (p :: u) _ _ hu2 (by rw [lows_c, if_pos h69]; exact h2) (by omega) q4 h5
      · rw [if_neg h69] at h5
        injection h5 with e1 e2
        obtain ⟨s, s1, s2, s3⟩ := hC i g ⟨u, h1, h2⟩ h3
        exact ⟨s, i, g, p, s1, s2, s3, RcR_A hp hl u i g h1, q1, q2, e1, h69⟩
/-- what is closed holds all, if it holds what comes from the level before -/
theorem com_nx {m : eW} (hp : WFp m) (hr : WFr m) {l : List Int} (hl : LtO l) {N : Nat} {KY : Nat → Int} {σ : List Int} {L L2 : List Nat} {y : Int} (hC : Com m l N KY σ L) (hcl : Clo m l N KY (σ.length + 1) L2 L2) (hst : ∀ (s i : Nat) (g : t3) (p : Nat), s * 7 + i ∈ L → s < N → spA m l i g → KY s = ((kyG m g : Nat) : Int) → p < 16 → (spP m l i &&& mfG m g).testBit p = true → m 69 p = y → ¬ (m 69 p = 27) → σ.length + 1 + fwl m l (spB m i p) (gN g p) ≤ 6 → ∃ s2, s2 < N ∧ KY s2 = ((kyG m (gN g p) : Nat) : Int) ∧ s2 * 7 + spB m i p ∈ L2) : Com m l N KY (y :: σ) L2 := by
  suffices hk : ∀ (x : List Nat) (i : Nat) (g : t3), RcR m l x = some (i, g) → lows m x = y :: σ → σ.length + 1 + fwl m l i g ≤ 6 → ∃ s, s < N ∧ KY s = ((kyG m g : Nat) : Int) ∧ s * 7 + i ∈ L2 from fun i g ⟨x, x1, x2⟩ h => hk x i g x1 x2 h
  intro x
  induction x with
  | nil => intro i g _ h; cases h
  | cons p u ih =>
    intro i g h1 h2 h3
    obtain ⟨i', g', b1, b2, b3, b4, b5⟩ := RcR_c h1
    have hA := RcR_A hp hl u i' g' b1
    rw [b4, b5] at h3 ⊢
    have hfw := fwl_st hp hl (k := fwl m l (spB m i' p) (gN g' p)) (by omega) b2 b3 (Nat.le_refl _)
    rw [lows_c] at h2
    by_cases h69 : m 69 p = 27
    · rw [if_pos h69] at h2
      have ho : ow m p = 0 := by unfold ow; rw [if_pos h69]
      obtain ⟨s, s1, s2, s3⟩ := ih i' g' b1 h2 (by omega)
      obtain ⟨c1, c2⟩ := bit_p hp hl b2 b3
      exact hcl s i' g' s3 s1 hA s2 p b2 ⟨b3, by rw [(by_t hp c1).2.1]; exact decide_eq_true h69⟩ h3
    · rw [if_neg h69] at h2
      injection h2 with e1 e2
      have ho : ow m p = 1 := by unfold ow; rw [if_neg h69]
      obtain ⟨s, s1, s2, s3⟩ := hC i' g' ⟨u, b1, e2⟩ (by omega)
      exact hst s i' g' p s3 s1 hA s2 b2 b3 e1 h69 h3
theorem com_0 {m : eW} (hp : WFp m) {l : List Int} (hl : LtO l) {N : Nat} {KY : Nat → Int} {L : List Nat} (hcl : Clo m l N KY 0 L L) (h0 : fwl m l 0 (16, 16, 16) ≤ 6 → ∃ s, s < N ∧ KY s = ((kyG m (16, 16, 16) : Nat) : Int) ∧ s * 7 + 0 ∈ L) : Com m l N KY [] L := by
  suffices hk : ∀ (x : List Nat) (i : Nat) (g : t3), RcR m l x = some (i, g) → lows m x = [] → 0 + fwl m l i g ≤ 6 → ∃ s, s < N ∧ KY s = ((kyG m g : Nat) : Int) ∧ s * 7 + i ∈ L from fun i g ⟨x, x1, x2⟩ h => hk x i g x1 x2 h
  intro x
  induction x with
  | nil => intro i g h _ h3; cases h; exact h0 (by omega)
  | cons p u ih =>
    intro i g h1 h2 h3
    obtain ⟨i', g', b1, b2, b3, b4, b5⟩ := RcR_c h1
    have hA := RcR_A hp hl u i' g' b1
    rw [b4, b5] at h3 ⊢
    have hfw := fwl_st hp hl (k := fwl m l (spB m i' p) (gN g' p)) (by omega) b2 b3 (Nat.le_refl _)
    rw [lows_c] at h2
    by_cases h69 : m 69 p = 27
    · rw [if_pos h69] at h2
      have ho : ow m p = 0 := by unfold ow; rw [if_pos h69]
      obtain ⟨s, s1, s2, s3⟩ := ih i' g' b1 h2 (by omega)
      obtain ⟨c1, c2⟩ := bit_p hp hl b2 b3
      exact hcl s i' g' s3 s1 hA s2 p b2 ⟨b3, by rw [(by_t hp c1).2.1]; exact decide_eq_true h69⟩ h3
    · rw [if_neg h69] at h2; cases h2
/-- so many strings of at most k letters -/
def Cnt : Nat → (List Int → Prop) → Nat → Prop
  | 0, P, c => (P [] ∧ c = 1) ∨ (¬ P [] ∧ c = 0)
  | k + 1, P, c => ∃ f : Nat → Nat, (∀ y : Nat, y < 27 → Cnt k (fun t => P ((y : Int) :: t)) (f y)) ∧ ((P [] ∧ c = 1 + sm f 27) ∨ (¬ P [] ∧ c = sm f 27))
theorem Cnt_ex : ∀ (k : Nat) (P : List Int → Prop), ∃ c, Cnt k P c := by
  intro k
  induction k with
  | zero =>
    intro P
    by_cases h : P []
    · exact ⟨1, Or.inl ⟨h, rfl⟩⟩
    · exact ⟨0, Or.inr ⟨h, rfl⟩⟩
  | succ k ih =>
    intro P
    have hf : ∃ f : Nat → Nat, ∀ y : Nat, Cnt k (fun t => P ((y : Int) :: t)) (f y) := ⟨fun y => Classical.choose (ih (fun t => P ((y : Int) :: t))), fun y => Classical.choose_spec (ih (fun t => P ((y : Int) :: t)))⟩
    obtain ⟨f, hf⟩ := hf
    by_cases h : P []
    · exact ⟨_, f, fun y _ => hf y, Or.inl ⟨h, rfl⟩⟩
    · exact ⟨_, f, fun y _ => hf y, Or.inr ⟨h, rfl⟩⟩
theorem Cnt_0 : ∀ (k : Nat) (P : List Int → Prop), (∀ t, ¬ P t) → Cnt k P 0 := by
  intro k
  induction k with
  | zero => intro P h; exact Or.inr ⟨h [], rfl⟩
  | succ k ih =>
    intro P h
    refine ⟨fun _ => 0, fun y _ => ih _ (fun t => h _), Or.inr ⟨h [], ?_⟩⟩
    rw [sm_const]
theorem Cnt_cg : ∀ (k : Nat) (P Q : List Int → Prop) (c : Nat), (∀ t, P t ↔ Q t) → Cnt k P c → Cnt k Q c := by
  intro k P Q c h hc
  have : P = Q := funext (fun t => propext (h t))
  rw [← this]; exact hc
