/-! The class: unlike spellings: how many spots there can be. -/

def Rch (m : eW) (l : List Int) (σ : List Int) (i : Nat) (g : t3) : Prop := ∃ x, RcR m l x = some (i, g) ∧ lows m x = σ
theorem RcR_c {m : eW} {l : List Int} {p : Nat} {x : List Nat} {i : Nat} {g : t3} (h : RcR m l (p :: x) = some (i, g)) : ∃ i' g', RcR m l x = some (i', g') ∧ p < 16 ∧ (spP m l i' &&& mfG m g').testBit p = true ∧ i = spB m i' p ∧ g = gN g' p := by
  unfold RcR at h
  split at h
  · cases h
  · next i' g' hx =>
    split at h
    · next hc =>
      obtain ⟨h1, h2⟩ := Bool.and_eq_true_iff.mp hc
      cases h
      exact ⟨i', g', hx, of_decide_eq_true h1, h2, rfl, rfl⟩
    · cases h
theorem Rch.s {m : eW} (hp : WFp m) {l : List Int} {σ : List Int} {i : Nat} {g : t3} {p c : Nat} (h : Rch m l σ i g) (h1 : p < 16) (h2 : sB m l i g c p) : Rch m l (if m 69 p = 27 then σ else m 69 p :: σ) (spB m i p) (gN g p) := by
  obtain ⟨x, x1, x2⟩ := h
  refine ⟨p :: x, ?_, by rw [lows_c, x2]⟩
  unfold RcR
  rw [x1]
  dsimp only
  rw [decide_eq_true h1, h2.1]; rfl
def ocd (m : eW) (p : Nat) : Nat := if p = 16 then 0 else if m 68 p = 27 then 2 else if m 69 p = 27 then 1 else 0
theorem ocd_lt (m : eW) (p : Nat) : ocd m p < 3 := by
  unfold ocd
  split
  · omega
  · split
    · omega
    · split <;> omega
theorem bit_p {m : eW} (hp : WFp m) {l : List Int} (hl : LtO l) {i p : Nat} {g : t3} (h1 : p < 16) (h : (spP m l i &&& mfG m g).testBit p = true) : p < nP m ∧ (m 68 p = 27 ∨ (¬ (m 68 p = 27) ∧ m 68 p = ltF l i)) := by
  rw [Nat.testBit_and] at h
  obtain ⟨h2, h3⟩ := Bool.and_eq_true_iff.mp h
  obtain ⟨e1, _⟩ := mf_goes h1 h3
  rw [spP_t hp hl e1] at h2
  refine ⟨e1, ?_⟩
  by_cases h9 : m 68 p = 27
  · exact Or.inl h9
  · rcases Bool.or_eq_true_iff.mp h2 with h4 | h4
    · exact absurd (of_decide_eq_true h4) h9
    · exact Or.inr ⟨h9, of_decide_eq_true (Bool.and_eq_true_iff.mp h4).2⟩
theorem det1 {m : eW} (hp : WFp m) {l : List Int} (hl : LtO l) {x x2 : List Nat} {i : Nat} {g g2 : t3} (h : RcR m l x = some (i, g)) (h2 : RcR m l x2 = some (i, g2)) (hw : lows m x = lows m x2) (ho : ocd m g.2.2 = ocd m g2.2.2) : g.2.2 = g2.2.2 ∧ ((g = (16, 16, 16) ∧ g2 = (16, 16, 16)) ∨ ∃ y y2 i' h h2, RcR m l y = some (i', h) ∧ RcR m l y2 = some (i', h2) ∧ lows m y = lows m y2 ∧ (g.1 = h.2.1 ∧ g.2.1 = h.2.2) ∧ (g2.1 = h2.2.1 ∧ g2.2.1 = h2.2.2)) := by
  have hn16 : nP m ≤ 16 := by have := hp.1; unfold nP; omega
  -- no pair against a pair
  have hne : ∀ (p : Nat) (y : List Nat) (q : t3), RcR m l (p :: y) = some (0, q) → lows m (p :: y) = [] → False := fun p y q a1 a2 => by
    obtain ⟨i', g', b1, b2, b3, b4, b5⟩ := RcR_c a1
    obtain ⟨c1, c2⟩ := bit_p hp hl b2 b3
    have hI := isI_of c1
    by_cases h27 : m 68 p = 27
    · have h69 : ¬ (m 69 p = 27) := fun h9 => (hp.2.1 p c1).2.2 ⟨h27, h9⟩
      rw [lows_c, if_neg h69] at a2; cases a2
    · unfold spB at b4
      rw [hI, decide_eq_false h27, if_neg (by decide)] at b4; omega
  cases x with
  | nil =>
    cases h
    cases x2 with
    | nil => cases h2; exact ⟨rfl, Or.inl ⟨rfl, rfl⟩⟩
    | cons q z => exact absurd (hne q z g2 h2 (by rw [← hw]; rfl)) (fun h => h)
  | cons p y =>
    cases x2 with
    | nil =>
      cases h2
      exact absurd (hne p y g h (by rw [hw]; rfl)) (fun h => h)
    | cons q z =>
      obtain ⟨i', g', b1, b2, b3, b4, b5⟩ := RcR_c h
      obtain ⟨i'', g'', d1, d2, d3, d4, d5⟩ := RcR_c h2
      obtain ⟨c1, c2⟩ := bit_p hp hl b2 b3
      obtain ⟨e1, e2⟩ := bit_p hp hl d2 d3
      have hIp := isI_of c1
      have hIq := isI_of e1
      rw [b5, d5] at ho ⊢
      have ho : ocd m p = ocd m q := ho
      unfold ocd at ho
      rw [if_neg (show ¬ (p = 16) by omega), if_neg (show ¬ (q = 16) by omega)] at ho
      unfold spB at b4 d4
      rw [lows_c, lows_c] at hw
      -- the same pair, and the same place before
      have key : p = q ∧ i' = i'' ∧ lows m y = lows m z := by
        rcases c2 with c3 | ⟨c3, c4⟩
        · rw [if_pos c3] at ho
          have e3 : m 68 q = 27 := by
            by_cases h9 : m 68 q = 27
            · exact h9
            · rw [if_neg h9] at ho; split at ho <;> omega
          have hp69 : ¬ (m 69 p = 27) := fun h9 => (hp.2.1 p c1).2.2 ⟨c3, h9⟩
          have hq69 : ¬ (m 69 q = 27) := fun h9 => (hp.2.1 q e1).2.2 ⟨e3, h9⟩
          rw [if_neg hp69, if_neg hq69] at hw
          injection hw with hw1 hw2
          rw [hIp, decide_eq_true c3, if_pos rfl] at b4
          rw [hIq, decide_eq_true e3, if_pos rfl] at d4
          exact ⟨hp.2.2 p q c1 e1 (by rw [c3, e3]) hw1, by omega, hw2⟩
        · rw [if_neg c3] at ho
          have e3 : ¬ (m 68 q = 27) := fun h9 => by rw [if_pos h9] at ho; split at ho <;> omega
          rw [if_neg e3] at ho
          have e4 : m 68 q = ltF l i'' := by
            rcases e2 with h9 | ⟨_, h9⟩
            · exact absurd h9 e3
            · exact h9
          rw [hIp, decide_eq_false c3, if_neg (by decide)] at b4
          rw [hIq, decide_eq_false e3, if_neg (by decide)] at d4
          have ei : i' = i'' := by omega
          by_cases hp69 : m 69 p = 27
          · have hq69 : m 69 q = 27 := by
              by_cases h9 : m 69 q = 27
              · exact h9
              · rw [if_pos hp69, if_neg h9] at ho; omega
            rw [if_pos hp69, if_pos hq69] at hw
            exact ⟨hp.2.2 p q c1 e1 (by rw [c4, e4, ei]) (by rw [hp69, hq69]), ei, hw⟩
          · have hq69 : ¬ (m 69 q = 27) := fun h9 => by rw [if_neg hp69, if_pos h9] at ho; omega
            rw [if_neg hp69, if_neg hq69] at hw
            injection hw with hw1 hw2
            exact ⟨hp.2.2 p q c1 e1 (by rw [c4, e4, ei]) hw1, ei, hw2⟩
      obtain ⟨k1, k2, k3⟩ := key
      subst k2
      exact ⟨k1, Or.inr ⟨y, z, i', g', g'', b1, d1, k3, ⟨rfl, rfl⟩, ⟨rfl, rfl⟩⟩⟩
theorem det3 {m : eW} (hp : WFp m) {l : List Int} (hl : LtO l) {σ : List Int} {i : Nat} {g g2 : t3} (h : Rch m l σ i g) (h2 : Rch m l σ i g2) (o3 : ocd m g.2.2 = ocd m g2.2.2) (o2 : ocd m g.2.1 = ocd m g2.2.1) (o1 : ocd m g.1 = ocd m g2.1) : g = g2 := by
  obtain ⟨x, x1, x2⟩ := h
  obtain ⟨y, y1, y2⟩ := h2
  obtain ⟨a1, a2⟩ := det1 hp hl x1 y1 (by rw [x2, y2]) o3
  rcases a2 with ⟨e1, e2⟩ | ⟨u, u2, i', q, q2, b1, b2, b3, ⟨b4, b5⟩, b6, b7⟩
  · rw [e1, e2]
  · rw [b5, b7] at o2
    obtain ⟨c1, c2⟩ := det1 hp hl b1 b2 b3 o2
    rcases c2 with ⟨e1, e2⟩ | ⟨v, v2, i'', r, r2, d1, d2, d3, ⟨d4, d5⟩, d6, d7⟩
    · refine Prod.ext ?_ (Prod.ext ?_ a1)
      · rw [b4, b6, e1, e2]
      · rw [b5, b7, c1]
    · rw [b4, b6, d5, d7] at o1
      obtain ⟨f1, _⟩ := det1 hp hl d1 d2 d3 o1
      refine Prod.ext ?_ (Prod.ext ?_ a1)
      · rw [b4, b6, d5, d7, f1]
      · rw [b5, b7, c1]
theorem room {m : eW} (hp : WFp m) {l : List Int} (hl : LtO l) {N : Nat} {KY : Nat → Int} (hN : N ≤ 4369) (hKD : ∀ s s2, s < N → s2 < N → KY s = KY s2 → s = s2) {n : Nat} {σ : List Int} : GRm (GV m l N KY n (Rch m l σ)) := by
  have hl6 := hl.1.2
  refine ⟨fun L hL hG => ?_, fun c hc => ?_⟩
  · have hw : ∀ k, ∃ v : Nat × Nat × t3, k < L.length → v.1 < N ∧ KY v.1 = ((kyG m v.2.2 : Nat) : Int) ∧ v.2.1 ≤ l.length ∧ L.getD k 0 = v.1 * 7 + v.2.1 ∧ Rch m l σ v.2.1 v.2.2 := fun k => by
      by_cases hk : k < L.length
      · obtain ⟨s, i, g, a1, a2, a3, a4, a5, _⟩ := hG _ (getD_mem hk)
        exact ⟨(s, i, g), fun _ => ⟨a1, a2, a3.1, a4, a5⟩⟩
      · exact ⟨(0, 0, 0, 0, 0), fun h => absurd h hk⟩
    have hf : ∃ f : Nat → Nat × Nat × t3, ∀ k, k < L.length → (f k).1 < N ∧ KY (f k).1 = ((kyG m (f k).2.2 : Nat) : Int) ∧ (f k).2.1 ≤ l.length ∧ L.getD k 0 = (f k).1 * 7 + (f k).2.1 ∧ Rch m l σ (f k).2.1 (f k).2.2 := ⟨fun k => Classical.choose (hw k), fun k => Classical.choose_spec (hw k)⟩
    obtain ⟨f, hf⟩ := hf
    refine pgn 189 L.length (fun k => (f k).2.1 * 27 + (ocd m (f k).2.2.2.2 * 9 + ocd m (f k).2.2.2.1 * 3 + ocd m (f k).2.2.1)) (fun k hk => ?_) (fun k j hk hj e => ?_)
    · have := (hf k hk).2.2.1
      have h1 := ocd_lt m (f k).2.2.2.2
      have h2 := ocd_lt m (f k).2.2.2.1
      have h3 := ocd_lt m (f k).2.2.1
      omega
    · obtain ⟨a1, a2, a3, a4, a5⟩ := hf k hk
      obtain ⟨b1, b2, b3, b4, b5⟩ := hf j hj
      have h1 := ocd_lt m (f k).2.2.2.2
      have h2 := ocd_lt m (f k).2.2.2.1
      have h3 := ocd_lt m (f k).2.2.1
      have h4 := ocd_lt m (f j).2.2.2.2
      have h5 := ocd_lt m (f j).2.2.2.1
      have h6 := ocd_lt m (f j).2.2.1
      have ei : (f k).2.1 = (f j).2.1 := by omega
      rw [← ei] at b5
      have eg := det3 hp hl a5 b5 (by omega) (by omega) (by omega)
      have es : (f k).1 = (f j).1 := hKD _ _ a1 b1 (by rw [a2, b2, eg])
      have ec : L.getD k 0 = L.getD j 0 := by rw [a4, b4, es, ei]
      rw [List.getD_eq_getElem?_getD, List.getD_eq_getElem?_getD, List.getElem?_eq_getElem hk, List.getElem?_eq_getElem hj] at ec
      have ec : L[k] = L[j] := ec
      have hpw := List.pairwise_iff_getElem.mp hL
      rcases Nat.lt_trichotomy k j with h9 | h9 | h9
      · exact absurd ec (hpw k j hk hj h9)
      · exact h9
      · exact absurd ec.symm (hpw j k hj hk h9)
  · obtain ⟨s, i, g, a1, _, a3, a4, _⟩ := hc
    have : i ≤ l.length := a3.1
    omega
