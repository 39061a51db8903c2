/-! The machine: what a state tells. -/

def kyG (m : eW) (g : t3) : Nat := kyT m g.1 g.2.1 g.2.2
theorem mfB_lt (m : eW) (a b c : Nat) : mfB m a b c < 131072 := bts_lt _ 17
theorem ky_inj {m : eW} (hr : WFr m) {g h : t3} (e : kyG m g = kyG m h) : mfG m g = mfG m h ∧ nxB m g.2.1 g.2.2 = nxB m h.2.1 h.2.2 ∧ frB m g.2.2 = frB m h.2.2 := by
  have a1 := mfB_lt m g.1 g.2.1 g.2.2
  have a2 := mfB_lt m h.1 h.2.1 h.2.2
  have b1 : nxB m g.2.1 g.2.2 < 256 := bts8 _ hr
  have b2 : nxB m h.2.1 h.2.2 < 256 := bts8 _ hr
  unfold kyG kyT at e
  unfold mfG
  omega
theorem mf_tb {m : eW} {g : t3} {p : Nat} (hp : p < 17) : (mfG m g).testBit p = if p = 16 then isE m (-1) g.1 g.2.1 g.2.2 else decide (p < nP m) && goes m (-1) g.1 g.2.1 g.2.2 p := by
  unfold mfG mfB
  rw [bts_tb, decide_eq_true hp, Bool.true_and]
theorem okP_tE {m : eW} (hr : WFr m) {g h : t3} (e : tE m g h) {wo : Int} {p : Nat} : okP m wo g.1 g.2.1 g.2.2 p = okP m wo h.1 h.2.1 h.2.2 p := by
  unfold okP
  have : ∀ n, n ≤ nR m → al (fun r => decide ((r : Int) = wo) || !brk m r g.1 g.2.1 g.2.2 p) n = al (fun r => decide ((r : Int) = wo) || !brk m r h.1 h.2.1 h.2.2 p) n := by
    intro n
    induction n with
    | zero => intro _; rfl
    | succ n ih =>
      intro hn
      unfold al
      rw [ih (by omega), e.brk hr (by omega)]
  exact this _ (Nat.le_refl _)
theorem mf_tE {m : eW} (hr : WFr m) {g h : t3} (e : tE m g h) : mfG m g = mfG m h := by
  have e1 : g.2.2 = h.2.2 := (e.l hr).1
  unfold mfG mfB
  refine bts_congr (fun p _ => ?_)
  unfold isE goes
  rw [okP_tE hr e, okP_tE hr e, e1]
theorem kyG_gN (m : eW) (g : t3) (p : Nat) : kyG m (gN g p) = kyT m g.2.1 g.2.2 p := rfl
theorem trG_gN (m : eW) (g : t3) (p : Nat) : trG m (gN g p) = tr m g.2.1 g.2.2 p := rfl
theorem mfG_gN (m : eW) (g : t3) (p : Nat) : mfG m (gN g p) = mfB m g.2.1 g.2.2 p := rfl
theorem kyT_cg {m : eW} {a b c a2 b2 : Nat} {c2 : Nat} (h1 : mfB m a b c = mfB m a2 b2 c2) (h2 : nxB m b c = nxB m b2 c2) (h3 : frB m c = frB m c2) : kyT m a b c = kyT m a2 b2 c2 := by
  unfold kyT
  rw [h1, h2, h3]
theorem ky_tE {m : eW} (hr : WFr m) {g h : t3} (e : kyG m g = kyG m h) {p : Nat} (hp : p ≤ 16) : tE m (gN g p) (gN h p) ∧ nxB m g.2.2 p = nxB m h.2.2 p := by
  obtain ⟨_, e2, e3⟩ := ky_inj hr e
  have h1 : ftB m g.2.1 g.2.2 p = ftB m h.2.1 h.2.2 p := bts_congr (fun r hrl => by
    have := bts_inj e2 hrl
    rw [this])
  have h2 : nxB m g.2.2 p = nxB m h.2.2 p := bts_congr (fun r hrl => by
    have := bts_inj e3 hrl
    rw [this])
  refine ⟨⟨?_, hp, hp⟩, h2⟩
  rw [trG_gN, trG_gN]
  unfold tr
  rw [h1, h2]
theorem ky_nx {m : eW} (hr : WFr m) {g h : t3} (e : kyG m g = kyG m h) {p : Nat} (hp : p ≤ 16) : tE m (gN g p) (gN h p) ∧ kyG m (gN g p) = kyG m (gN h p) := by
  obtain ⟨ht, h2⟩ := ky_tE hr e hp
  refine ⟨ht, ?_⟩
  have h3 := mf_tE hr ht
  rw [mfG_gN, mfG_gN] at h3
  rw [kyG_gN, kyG_gN]
  exact kyT_cg h3 h2 rfl
theorem ky_E {m : eW} (hr : WFr m) {g h : t3} (e : kyG m g = kyG m h) : isE m (-1) g.1 g.2.1 g.2.2 = isE m (-1) h.1 h.2.1 h.2.2 := by
  have := (ky_inj hr e).1
  have a1 := mf_tb (m := m) (g := g) (p := 16) (by decide)
  have a2 := mf_tb (m := m) (g := h) (p := 16) (by decide)
  rw [if_pos rfl] at a1 a2
  rw [← a1, ← a2, this]
theorem ky_go {m : eW} (hr : WFr m) (hp : WFp m) {g h : t3} (e : kyG m g = kyG m h) {p : Nat} (hpl : p < nP m) : goes m (-1) g.1 g.2.1 g.2.2 p = goes m (-1) h.1 h.2.1 h.2.2 p := by
  have := (ky_inj hr e).1
  have hn := hp.n.2
  have a1 := mf_tb (m := m) (g := g) (p := p) (by omega)
  have a2 := mf_tb (m := m) (g := h) (p := p) (by omega)
  rw [if_neg (by omega), decide_eq_true hpl, Bool.true_and] at a1 a2
  rw [← a1, ← a2, this]
theorem an_congr {f g : Nat → Bool} : ∀ {n : Nat}, (∀ i, i < n → f i = g i) → an f n = an g n := by
  intro n
  induction n with
  | zero => intro _; rfl
  | succ n ih => intro h; unfold an; rw [ih (fun i hi => h i (by omega)), h n (by omega)]
theorem ky_eR {m : eW} (hr : WFr m) (hp : WFp m) : ∀ (n : Nat) (g h : t3), kyG m g = kyG m h → eR m n g.1 g.2.1 g.2.2 = eR m n h.1 h.2.1 h.2.2 := by
  intro n
  induction n with
  | zero => intro g h e; exact ky_E hr e
  | succ n ih =>
    intro g h e
    unfold eR
    have hn := hp.n.2
    refine an_congr (fun p hpl => ?_)
    rw [ky_go hr hp e hpl]
    have := ih _ _ (ky_nx hr e (p := p) (by omega)).2
    have h2 : eR m n g.2.1 g.2.2 p = eR m n h.2.1 h.2.2 p := this
    rw [h2]
/-- numbers of last places -/
def triN (g : t3) : Nat := if g.2.2 = 16 then 0 else if g.2.1 = 16 then 1 + g.2.2 else if g.1 = 16 then 17 + (16 * g.2.1 + g.2.2) else 273 + (256 * g.1 + 16 * g.2.1 + g.2.2)
def triG (m : eW) (g : t3) : Prop := tri m g.1 g.2.1 g.2.2
theorem triN_lt {m : eW} (hp : WFp m) {g : t3} (h : triG m g) : triN g < 4369 := by
  have hn := hp.n.2
  obtain ⟨h1, h2, h3, _, _⟩ := h
  unfold triN
  split
  · omega
  · split
    · omega
    · split <;> omega
theorem triN_inj {m : eW} (hp : WFp m) {g h : t3} (hg : triG m g) (hh : triG m h) (e : triN g = triN h) : g = h := by
  have hn := hp.n.2
  obtain ⟨g1, g2, g3⟩ := g
  obtain ⟨k1, k2, k3⟩ := h
  obtain ⟨a1, a2, a3, a4, a5⟩ := hg
  obtain ⟨b1, b2, b3, b4, b5⟩ := hh
  dsimp only at a1 a2 a3 a4 a5 b1 b2 b3 b4 b5
  unfold triN at e
  dsimp only at e
  have : g1 = k1 ∧ g2 = k2 ∧ g3 = k3 := by
    by_cases c1 : g3 = 16
    · rw [if_pos c1] at e
      by_cases d1 : k3 = 16
      · omega
      · rw [if_neg d1] at e
        split at e
        · omega
        · split at e <;> omega
    · rw [if_neg c1] at e
      by_cases c2 : g2 = 16
      · rw [if_pos c2] at e
        split at e
        · omega
        · split at e
          · omega
          · split at e <;> omega
      · rw [if_neg c2] at e
        by_cases c3 : g1 = 16
        · rw [if_pos c3] at e
          split at e
          · omega
          · split at e
            · omega
            · split at e <;> omega
        · rw [if_neg c3] at e
          split at e
          · omega
          · split at e
            · omega
            · split at e <;> omega
  rw [this.1, this.2.1, this.2.2]
/-- not more numbers below K than K -/
theorem pgn : ∀ (K N : Nat) (f : Nat → Nat), (∀ i, i < N → f i < K) → (∀ i j, i < N → j < N → f i = f j → i = j) → N ≤ K := by
  intro K
  induction K with
  | zero =>
    intro N f h _
    by_cases hN : N = 0
    · omega
    · have := h 0 (by omega); omega
  | succ K ih =>
    intro N f h1 h2
    by_cases hN : N = 0
    · omega
    · -- the last one is put where K was
      have := ih (N - 1) (fun i => if f i = K then f (N - 1) else f i) (fun i hi => ?_) (fun i j hi hj e => ?_)
      · omega
      · show (if f i = K then f (N - 1) else f i) < K
        have a1 := h1 i (by omega)
        have a2 := h1 (N - 1) (by omega)
        by_cases h9 : f i = K
        · rw [if_pos h9]
          by_cases h8 : f (N - 1) = K
          · have := h2 i (N - 1) (by omega) (by omega) (by omega)
            omega
          · omega
        · rw [if_neg h9]; omega
      · have e : (if f i = K then f (N - 1) else f i) = (if f j = K then f (N - 1) else f j) := e
        by_cases h9 : f i = K
        · rw [if_pos h9] at e
          by_cases h8 : f j = K
          · exact h2 i j (by omega) (by omega) (by omega)
          · rw [if_neg h8] at e
            have := h2 (N - 1) j (by omega) (by omega) e
            omega
        · rw [if_neg h9] at e
          by_cases h8 : f j = K
          · rw [if_pos h8] at e
            have := h2 i (N - 1) (by omega) (by omega) e
            omega
          · rw [if_neg h8] at e
            exact h2 i j (by omega) (by omega) e
theorem triG_nx {m : eW} (hW : WFp m) {g : t3} (h : triG m g) {p : Nat} (hp : p < nP m) : triG m (gN g p) := by
  have hn := hW.n.2
  obtain ⟨h1, h2, h3, h4, h5⟩ := h
  exact ⟨Or.inr hp, h1, h2, fun h9 => by have h9 : p = 16 := h9; omega, h4⟩

