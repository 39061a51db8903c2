/-! The class: finds: what is walked. -/

def stF (e k wd j : Nat) : Nat := ((e * 6 + k) * 7 + wd) * 7 + j
def fiE (st : Nat) : Nat := st / 294
def fiK (st : Nat) : Nat := st / 49 % 6
def fiW (st : Nat) : Nat := st / 7 % 7
def fiJ (st : Nat) : Nat := st % 7
theorem stF_d {e k wd j : Nat} (h1 : k < 6) (h2 : wd < 7) (h3 : j < 7) : fiE (stF e k wd j) = e ∧ fiK (stF e k wd j) = k ∧ fiW (stF e k wd j) = wd ∧ fiJ (stF e k wd j) = j := by
  unfold fiE fiK fiW fiJ stF
  omega
/-- in the last entry it is no matter how long the word has become -/
theorem fL_all {m : eW} {ll : Nat → Int} {nl e : Nat} (h : m 78 e = -1) : ∀ (f done all all2 j a b c : Nat), fL m ll nl f 0 e done all j a b c = fL m ll nl f 0 e done all2 j a b c := by
  intro f
  induction f with
  | zero => intro done all all2 j a b c; rfl
  | succ f ih =>
    intro done all all2 j a b c
    unfold fL
    refine lsD_congr (fun d _ => ?_)
    cases loT m ll nl j d with
    | none => rfl
    | some j2 =>
      dsimp only
      have : beL m ll nl (fL m ll nl f) e (dnT m done d) all j2 b c d = beL m ll nl (fL m ll nl f) e (dnT m done d) all2 j2 b c d := by
        unfold beL
        rw [if_pos h, if_pos h, ih _ all all2]
      rw [this]
theorem enL_2 {m : eW} {ll : Nat → Int} {nl j a b c : Nat} {x : List Nat × List Nat} (h : x ∈ enL m ll nl j a b c) : x.2 = [] := by
  unfold enL at h
  rcases List.mem_append.mp h with h1 | h1
  · split at h1
    · rw [List.mem_singleton] at h1; rw [h1]
    · cases h1
  · obtain ⟨d, _, h2⟩ := lsD_mem2 h1
    split at h2
    · rw [List.mem_singleton] at h2; rw [h2]
    · cases h2
/-- the entries of a reading are a chain -/
theorem fL_ch {m : eW} (he : WFe m) {ll : Nat → Int} {nl : Nat} : ∀ (f md e done all j a b c : Nat), (md = 0 → e < nE m) → ∀ x ∈ fL m ll nl f md e done all j a b c, (md = 0 → (m 78 e = -1 ∧ x.2 = []) ∨ (m 78 e ≠ -1 ∧ Ch m (m 78 e) x.2 ∧ all + totL m x.2 ≤ 6)) ∧ (md ≠ 0 → Ch m (e : Int) x.2 ∧ all + totL m x.2 ≤ 6) := by
  intro f
  induction f with
  | zero => intro md e done all j a b c _ x hx; cases md <;> cases hx
  | succ f ih =>
    intro md e done all j a b c hok x hx
    cases md with
    | zero =>
      refine ⟨fun _ => ?_, fun h => absurd rfl h⟩
      have hee := hok rfl
      unfold fL at hx
      obtain ⟨d, _, h2⟩ := lsD_mem2 hx
      split at h2
      · cases h2
      · split at h2
        · obtain ⟨y, y1, y2⟩ := List.mem_map.mp h2
          rw [← y2]
          show (m 78 e = -1 ∧ y.2 = []) ∨ (m 78 e ≠ -1 ∧ Ch m (m 78 e) y.2 ∧ all + totL m y.2 ≤ 6)
          unfold beL at y1
          split at y1
          · exact (ih 0 e _ all _ _ _ _ (fun _ => hee) y y1).1 rfl
          · split at y1
            · next hn => exact Or.inl ⟨hn, enL_2 y1⟩
            · next hn =>
              have := (ih 1 (m 78 e).toNat 0 all _ _ _ _ (fun h => by cases h) y y1).2 (by decide)
              have h78 := (he.2 e hee).2.1
              rw [show (((m 78 e).toNat : Nat) : Int) = m 78 e by omega] at this
              exact Or.inr ⟨hn, this⟩
        · cases h2
    | succ md =>
      refine ⟨fun h => by omega, fun _ => ?_⟩
      unfold fL at hx
      obtain ⟨e2, h1, h2⟩ := lsD_mem2 hx
      split at h2
      · next hc =>
        obtain ⟨y, y1, y2⟩ := List.mem_map.mp h2
        rw [← y2]
        show Ch m (e : Int) (e2 :: y.2) ∧ all + totL m (e2 :: y.2) ≤ 6
        have ht : totL m (e2 :: y.2) = fmN m e2 + totL m y.2 := by unfold totL; rw [List.map_cons, List.sum_cons]
        rcases (ih 0 e2 0 _ _ _ _ _ (fun _ => h1) y y1).1 rfl with ⟨a1, a2⟩ | ⟨a1, a2, a3⟩
        · rw [ht, a2]
          exact ⟨⟨h1, hc.1, a1⟩, by show all + (fmN m e2 + 0) ≤ 6; omega⟩
        · rw [ht]
          refine ⟨?_, by omega⟩
          cases h9 : y.2 with
          | nil => rw [h9] at a2; exact absurd a2 (by intro h; exact h)
          | cons q r =>
            rw [h9] at a2
            exact ⟨h1, hc.1, a1, a2⟩
      · cases h2
/-- the shortest goings on, as the class keeps them -/
def ShF (m : eW) (sh : Nat → Int) : Prop := (∀ c, c < 4 → 0 ≤ sh c ∧ sh c ≤ 1000) ∧ ∀ (c : Nat) n, c < 4 → Cn m (c : Int) n → sh c ≤ (n : Int)
def toE (m : eW) (sh : Nat → Int) (e : Nat) : Int := (fmN m e : Int) + (if m 78 e = -1 then 0 else sh (m 78 e).toNat)
theorem fl_dead {m : eW} (he : WFe m) {sh : Nat → Int} (hs : ShF m sh) {ll : Nat → Int} {nl e all j a b c : Nat} (hee : e < nE m) (h1 : all + fmN m e ≤ 6) (h2 : ¬ ((all : Int) + toE m sh e ≤ 6)) : fl m ll nl 0 e 0 (all + fmN m e) j a b c = [] := by
  cases h9 : fl m ll nl 0 e 0 (all + fmN m e) j a b c with
  | nil => rfl
  | cons x xs =>
    exfalso
    have hx : x ∈ fL m ll nl 20 0 e 0 (all + fmN m e) j a b c := by
      have h9 : fL m ll nl 20 0 e 0 (all + fmN m e) j a b c = x :: xs := h9
      rw [h9]; exact List.mem_cons_self
    unfold toE at h2
    have h78 := (he.2 e hee).2.1
    rcases (fL_ch he 20 0 e 0 _ _ _ _ _ (fun _ => hee) x hx).1 rfl with ⟨a1, _⟩ | ⟨a1, a2, a3⟩
    · rw [if_pos a1] at h2; omega
    · rw [if_neg a1] at h2
      have := hs.2 (m 78 e).toNat (totL m x.2) (by omega) ⟨x.2, by rw [show (((m 78 e).toNat : Nat) : Int) = m 78 e by omega]; exact a2, rfl⟩
      omega
def fiL (m : eW) (l : List Int) (st : Nat) (g : t3) : kT := if fiE st < 16 then fl m (ltF l) l.length 0 (fiE st) (fiK st) (if m 78 (fiE st) = -1 then 6 else fiW st) (fiJ st) g.1 g.2.1 g.2.2 else if fiE st < 20 then fl m (ltF l) l.length 1 (fiE st - 16) 0 (fiW st) (fiJ st) g.1 g.2.1 g.2.2 else enL m (ltF l) l.length (fiJ st) g.1 g.2.1 g.2.2
def fiLo (m : eW) (l : List Int) (j : Nat) : Nat := if j < l.length then byL m ((ltF l j).toNat + 1) else 0
def fiPr (m : eW) (l : List Int) (st : Nat) : Nat := if fiE st < 16 then (byU m ((m 80 (5 * fiE st + fiK st)).toNat + 1) &&& (fiLo m l (fiJ st) ||| byL m 0)) ||| (insB m &&& fiLo m l (fiJ st)) else if fiE st = 20 then insB m &&& fiLo m l (fiJ st) else 0
def fiB (m : eW) (st p : Nat) : Nat := if isI m p = false ∧ fiE st < 16 then (if fiK st + 1 < fmN m (fiE st) then stF (fiE st) (fiK st + 1) (fiW st) (fiJ st + (if m 69 p = 27 then 0 else 1)) else (if m 78 (fiE st) = -1 then stF 20 0 (fiW st) (fiJ st + (if m 69 p = 27 then 0 else 1)) else stF (16 + (m 78 (fiE st)).toNat) 0 (fiW st) (fiJ st + (if m 69 p = 27 then 0 else 1)))) else stF (fiE st) (fiK st) (fiW st) (fiJ st + (if m 69 p = 27 then 0 else 1))
def fiEn (m : eW) (sh : Nat → Int) (st : Nat) : Nat := if 16 ≤ fiE st ∧ fiE st < 20 then bts (fun e => decide (m 77 e = ((fiE st - 16 : Nat) : Int)) && decide ((fiW st : Int) + toE m sh e ≤ 6)) (nE m) else 0
def fiI (m : eW) (st e : Nat) : Nat := stF e 0 (if m 78 e = -1 then 0 else fiW st + fmN m e) (fiJ st)
def fiWh (l : List Int) (st : Nat) : Bool := decide (fiE st = 20) && decide (fiJ st = l.length)
def fiA (m : eW) (l : List Int) (st : Nat) (g : t3) : Prop := (triG m g ∧ fiJ st ≤ l.length) ∧ ((fiE st < 16 ∧ fiE st < nE m ∧ fiK st < fmN m (fiE st) ∧ (if m 78 (fiE st) = -1 then fiW st = 0 else fmN m (fiE st) ≤ fiW st)) ∨ (16 ≤ fiE st ∧ fiE st < 20 ∧ fiK st = 0) ∨ (fiE st = 20 ∧ fiK st = 0 ∧ fiW st = 0))
def fiM (m : eW) (l : List Int) (st : Nat) (_ : t3) : Nat := if fiE st < 16 then mF m l.length 0 (fiE st) (fiK st) (if m 78 (fiE st) = -1 then 6 else fiW st) (fiJ st) else if fiE st < 20 then mF m l.length 1 (fiE st - 16) 0 (fiW st) (fiJ st) else l.length - fiJ st
theorem fiLo_t {m : eW} (hp : WFp m) {l : List Int} (hl : LtO l) {j p : Nat} (hpl : p < nP m) : (fiLo m l j).testBit p = (decide (j < l.length) && decide (m 69 p = ltF l j)) := by
  obtain ⟨_, _, b3⟩ := by_t hp hpl
  unfold fiLo
  by_cases h : j < l.length
  · have := hl.b h
    rw [if_pos h, (b3 _ this.1 this.2).2, decide_eq_true h, Bool.true_and]
  · rw [if_neg h, Nat.zero_testBit, decide_eq_false h, Bool.false_and]
theorem fiLo_lt {m : eW} (hp : WFp m) {l : List Int} {j : Nat} : fiLo m l j < 65536 := by
  unfold fiLo
  split
  · exact (by_lt hp _).2.1
  · decide
theorem loT_d {m : eW} {l : List Int} {j p : Nat} : loT m (ltF l) l.length j p = if m 69 p = 27 then some j else if decide (j < l.length) && decide (m 69 p = ltF l j) then some (j + 1) else none := by
  unfold loT
  by_cases h : m 69 p = 27
  · rw [if_pos h, if_pos h]
  · rw [if_neg h, if_neg h]
    by_cases h2 : j < l.length ∧ m 69 p = ltF l j
    · rw [if_pos h2, decide_eq_true h2.1, decide_eq_true h2.2]; rfl
    · rw [if_neg h2, if_neg]
      intro h9
      obtain ⟨h3, h4⟩ := Bool.and_eq_true_iff.mp h9
      exact h2 ⟨of_decide_eq_true h3, of_decide_eq_true h4⟩
theorem and_l16 {a b : Nat} (h : a < 65536) : a &&& b < 65536 := Nat.lt_of_le_of_lt Nat.and_le_left h
theorem fiPr_lt {m : eW} (hp : WFp m) {l : List Int} {st : Nat} : fiPr m l st < 65536 := by
  unfold fiPr
  split
  · exact or_lt16 (and_l16 (by_lt hp _).1) (and_l16 (by_lt hp 0).2.2)
  · split
    · exact and_l16 (by_lt hp 0).2.2
    · decide
theorem fiEn_lt {m : eW} (he : WFe m) {sh : Nat → Int} {st : Nat} : fiEn m sh st < 65536 := by
  have hn : nE m ≤ 16 := by have := he.1; unfold nE; omega
  unfold fiEn
  split
  · exact bts_le hn
  · decide
