/-! The class: spells and reads: what is walked. -/

theorem lsD_map {α β : Type} (f : Nat → List α) (h : α → β) : ∀ n, (lsD f n).map h = lsD (fun i => (f i).map h) n := by
  intro n
  induction n with
  | zero => rfl
  | succ n ih => unfold lsD; rw [List.map_append, ih]
theorem lsD_ext {α : Type} {f : Nat → List α} {n k : Nat} (hk : n ≤ k) (h : ∀ i, n ≤ i → i < k → f i = []) : lsD f k = lsD f n := by
  obtain ⟨j, rfl⟩ : ∃ j, k = n + j := ⟨k - n, by omega⟩
  exact lsD_cut j h
theorem lW_el {m : eW} {q : Nat} {lt : Nat → Int} {n : Nat} : ∀ (f s a b c : Nat) (x : List Nat), x ∈ lW m q lt n f s a b c → x.length + 1 ≤ f := by
  intro f
  induction f with
  | zero => intro s a b c x h; cases h
  | succ f ih =>
    intro s a b c x h
    unfold lW at h
    rcases List.mem_append.mp h with h1 | h1
    · split at h1
      · rw [List.mem_singleton] at h1; rw [h1]; show 0 + 1 ≤ f + 1; omega
      · cases h1
    · obtain ⟨d, _, h2⟩ := lsD_mem2 h1
      split at h2
      · cases h2
      · split at h2
        · obtain ⟨y, y1, y2⟩ := List.mem_map.mp h2
          have := ih _ _ _ _ y y1
          rw [← y2]; show y.length + 1 + 1 ≤ f + 1; omega
        · cases h2
theorem cdI_z {x : Int} (h : 0 ≤ x ∧ x ≤ 27) : cdI x = 0 ↔ x = 27 := by
  unfold cdI
  by_cases h1 : x = 27
  · rw [if_pos h1]; exact ⟨fun _ => h1, fun _ => rfl⟩
  · rw [if_neg h1]; exact ⟨fun h2 => by omega, fun h2 => absurd h2 h1⟩
theorem cdI_s {x y : Int} (h : 0 ≤ x ∧ x ≤ 27) (hy : 0 ≤ y ∧ y ≤ 26) : cdI x = ((y.toNat + 1 : Nat) : Int) ↔ x = y := by
  unfold cdI
  by_cases h1 : x = 27
  · rw [if_pos h1]; exact ⟨fun _ => by omega, fun _ => by omega⟩
  · rw [if_neg h1]; exact ⟨fun h2 => by omega, fun h2 => by omega⟩
theorem by_t {m : eW} (hp : WFp m) {p : Nat} (hpl : p < nP m) : (insB m).testBit p = decide (m 68 p = 27) ∧ (byL m 0).testBit p = decide (m 69 p = 27) ∧ ∀ y : Int, 0 ≤ y → y ≤ 26 → (byU m (y.toNat + 1)).testBit p = decide (m 68 p = y) ∧ (byL m (y.toNat + 1)).testBit p = decide (m 69 p = y) := by
  obtain ⟨a1, a2, _⟩ := hp.2.1 p hpl
  refine ⟨?_, ?_, fun y h1 h2 => ⟨?_, ?_⟩⟩
  · unfold insB; rw [bts_tb, decide_eq_true hpl, Bool.true_and]
  · unfold byL; rw [bts_tb, decide_eq_true hpl, Bool.true_and]
    exact decide_eq_decide.mpr (cdI_z a2)
  · unfold byU; rw [bts_tb, decide_eq_true hpl, Bool.true_and]
    exact decide_eq_decide.mpr (cdI_s a1 ⟨h1, h2⟩)
  · unfold byL; rw [bts_tb, decide_eq_true hpl, Bool.true_and]
    exact decide_eq_decide.mpr (cdI_s a2 ⟨h1, h2⟩)
theorem mf_tb2 {m : eW} {g : t3} {p : Nat} (hp : p < 16) : (mfG m g).testBit p = (decide (p < nP m) && goes m (-1) g.1 g.2.1 g.2.2 p) := by
  rw [mf_tb (by omega), if_neg (by omega)]
/-- letters -/
def LtO (l : List Int) : Prop := (1 ≤ l.length ∧ l.length ≤ 6) ∧ ∀ v ∈ l, 0 ≤ v ∧ v ≤ 26
theorem LtO.b {l : List Int} (h : LtO l) {i : Nat} (hi : i < l.length) : 0 ≤ ltF l i ∧ ltF l i ≤ 26 := by
  refine h.2 _ ?_
  unfold ltF
  rw [List.getD_eq_getElem?_getD, List.getElem?_eq_getElem hi]
  exact List.getElem_mem hi
def spWh (l : List Int) (st : Nat) : Bool := decide (st = l.length)
def spP (m : eW) (l : List Int) (st : Nat) : Nat := (if st < l.length then byU m ((ltF l st).toNat + 1) else 0) ||| insB m
def spB (m : eW) (st p : Nat) : Nat := if isI m p then st else st + 1
def spA (m : eW) (l : List Int) (st : Nat) (g : t3) : Prop := st ≤ l.length ∧ triG m g
def spM (m : eW) (l : List Int) (st : Nat) (g : t3) : Nat := mW m 0 l.length (16 * st) g.2.2
def spL (m : eW) (l : List Int) (st : Nat) (g : t3) : kT := (lw m 0 (ltF l) l.length (16 * st) g.1 g.2.1 g.2.2).map (fun x => (x, []))
theorem by_lt {m : eW} (hp : WFp m) (c : Nat) : byU m c < 65536 ∧ byL m c < 65536 ∧ insB m < 65536 := by
  have hn : nP m ≤ 16 := by have := hp.1; unfold nP; omega
  exact ⟨bts_le hn, bts_le hn, bts_le hn⟩
theorem or_lt16 {a b : Nat} (ha : a < 65536) (hb : b < 65536) : a ||| b < 65536 := Nat.or_lt_two_pow (n := 16) ha hb
theorem spP_t {m : eW} (hp : WFp m) {l : List Int} (hl : LtO l) {st p : Nat} (hpl : p < nP m) : (spP m l st).testBit p = (decide (m 68 p = 27) || (decide (st < l.length) && decide (m 68 p = ltF l st))) := by
  obtain ⟨b1, _, b3⟩ := by_t hp hpl
  unfold spP
  rw [Nat.testBit_or, b1]
  by_cases h : st < l.length
  · have := hl.b h
    rw [if_pos h, (b3 _ this.1 this.2).1, decide_eq_true h, Bool.true_and, Bool.or_comm]
  · rw [if_neg h, Nat.zero_testBit, decide_eq_false h, Bool.false_and, Bool.false_or, Bool.or_false]
theorem stT_0 {m : eW} {l : List Int} {st p : Nat} (hpl : p < nP m) : stT m 0 (ltF l) l.length (16 * st) p = if decide (m 68 p = 27) || (decide (st < l.length) && decide (m 68 p = ltF l st)) then some (16 * spB m st p) else none := by
  unfold stT upT spB
  rw [if_neg (show ¬ ((0 : Nat) = 1) by decide), show 16 * st / 16 = st by omega, show 16 * st % 16 = 0 by omega, isI_of hpl]
  by_cases h27 : m 68 p = 27
  · rw [if_pos h27, decide_eq_true h27]
    dsimp only
    rw [if_neg (show ¬ ((0 : Nat) = 2 ∧ ¬ m 69 p = 27) by omega), if_neg (by decide), if_pos rfl, Bool.true_or, if_pos rfl]; rfl
  · rw [if_neg h27, decide_eq_false h27, Bool.false_or, if_neg (show ¬ (false = true) by decide)]
    by_cases h : st < l.length ∧ m 68 p = ltF l st
    · rw [if_pos h, decide_eq_true h.1, decide_eq_true h.2]
      dsimp only
      rw [if_neg (show ¬ ((0 : Nat) = 2 ∧ ¬ m 69 p = 27) by omega), if_neg (by decide), Bool.true_and, if_pos rfl]; rfl
    · rw [if_neg h]
      have : (decide (st < l.length) && decide (m 68 p = ltF l st)) = false := by
        cases h9 : (decide (st < l.length) && decide (m 68 p = ltF l st))
        · rfl
        · obtain ⟨h1, h2⟩ := Bool.and_eq_true_iff.mp h9
          exact absurd ⟨of_decide_eq_true h1, of_decide_eq_true h2⟩ h
      rw [this]; rfl
theorem lw_len {m : eW} (hp : WFp m) {q : Nat} {lt : Nat → Int} {n s a b c : Nat} : (lw m q lt n s a b c).length < 1000000000000000000 := by
  have hn : nP m ≤ 16 := by have := hp.1; unfold nP; omega
  unfold lw
  rw [lW_len]
  exact Nat.lt_of_le_of_lt (cW_le hn _ _ _ _ _) (by decide)
theorem ws_spel {m : eW} (hp : WFp m) {l : List Int} (hl : LtO l) : WSy m (spWh l) (spP m l) (spB m) noE noJ (spA m l) (spM m l) (spL m l) := by
  have hn16 : nP m ≤ 16 := by have := hp.1; unfold nP; omega
  intro st g hA
  obtain ⟨hA1, hA2⟩ := hA
  have hl6 := hl.1.2
  have hPl : spP m l st < 65536 := by
    unfold spP
    refine or_lt16 ?_ (by_lt hp 0).2.2
    split
    · exact (by_lt hp _).1
    · decide
  refine ⟨⟨⟨by omega, hPl, by unfold noE; decide⟩, by unfold spL; rw [List.length_map]; exact lw_len hp⟩, fun p hp16 h1 h2 => ?_, fun e _ h1 => ?_, ?_⟩
  · obtain ⟨e1, e2⟩ := mf_goes hp16 h2
    rw [spP_t hp hl e1] at h1
    have hst := stT_0 (m := m) (l := l) (st := st) e1
    rw [if_pos h1] at hst
    have hd := mW_down e1 (show 16 * st % 16 ≤ 8 by omega) hst e2
    refine ⟨⟨?_, triG_nx hp hA2 e1⟩, hd.1⟩
    have := hd.2.2.1
    omega
  · rw [noE_t] at h1; cases h1
  · rw [lsD_nil (f := fun e => if (noE st).testBit e = true then _ else []) 16 (fun e _ => by rw [noE_t, if_neg (by decide)]), List.append_nil]
    unfold spL
    rw [lw_eq hl6 (show 16 * st % 16 ≤ 8 by omega), List.map_append, lsD_map, show 16 * st / 16 = st by omega]
    congr 1
    · unfold spWh
      by_cases h1 : st = l.length
      · rw [decide_eq_true h1, Bool.true_and]
        cases h2 : isE m (-1) g.1 g.2.1 g.2.2 with
        | true => rw [if_pos ⟨h1, rfl⟩, if_pos rfl]; rfl
        | false => rw [if_neg (fun h9 => by cases h9.2), if_neg (by decide)]; rfl
      · rw [decide_eq_false h1, Bool.false_and, if_neg (fun h9 => h1 h9.1), if_neg (by decide)]; rfl
    · rw [lsD_ext (f := fun p => if (spP m l st &&& mfG m g).testBit p = true then _ else []) hn16 (fun p h1 h2 => by
        rw [Nat.testBit_and, mf_tb2 (by omega), decide_eq_false (by omega), Bool.false_and, Bool.and_false, if_neg (by decide)])]
      refine lsD_cg _ (fun p hpl => ?_)
      rw [Nat.testBit_and, mf_tb2 (by omega), decide_eq_true hpl, Bool.true_and, spP_t hp hl hpl, stT_0 hpl]
      cases h1 : decide (m 68 p = 27) || (decide (st < l.length) && decide (m 68 p = ltF l st)) with
      | false => rfl
      | true =>
        rw [Bool.true_and, if_pos rfl]
        dsimp only
        cases h2 : goes m (-1) g.1 g.2.1 g.2.2 p with
        | false => rfl
        | true =>
          rw [if_pos rfl, if_pos rfl, List.map_map, List.map_map]
          rfl
/-- reading -/
def rdW7 (l : List Int) (st : Nat) : Bool := decide (st % 7 = l.length)
def rdP7 (m : eW) (l : List Int) (st : Nat) : Nat := (if st % 7 < l.length then byL m ((ltF l (st % 7)).toNat + 1) else 0) ||| (if st / 7 + (l.length - st % 7) < 8 then byL m 0 else 0)
def rdB7 (m : eW) (st p : Nat) : Nat := st + 7 + (if m 69 p = 27 then 0 else 1)
def rdA7 (m : eW) (l : List Int) (st : Nat) (g : t3) : Prop := (st % 7 ≤ l.length ∧ st / 7 + (l.length - st % 7) ≤ 8) ∧ triG m g
def rdM7 (st : Nat) (_ : t3) : Nat := 8 - st / 7
def rdL7 (m : eW) (l : List Int) (st : Nat) (g : t3) : kT := (lw m 1 (ltF l) l.length (16 * (st % 7) + st / 7) g.1 g.2.1 g.2.2).map (fun x => (x, []))
theorem lw_dead {m : eW} {lt : Nat → Int} {n : Nat} (hn : n ≤ 6) : ∀ (j k i a b c : Nat), k + j = 8 → i ≤ n → 8 < k + (n - i) → lw m 1 lt n (16 * i + k) a b c = [] := by
  intro j
  induction j with
  | zero =>
    intro k i a b c hk hi hd
    rw [lw_eq hn (show (16 * i + k) % 16 ≤ 8 by omega), if_neg (fun h9 => by have := h9.1; omega), List.nil_append]
    refine lsD_nil _ (fun d _ => ?_)
    have : stT m 1 lt n (16 * i + k) d = none := by
      unfold stT
      rw [if_pos rfl]
      split
      · rfl
      · rw [if_pos (by omega)]
    rw [this]
  | succ j ih =>
    intro k i a b c hk hi hd
    rw [lw_eq hn (show (16 * i + k) % 16 ≤ 8 by omega), if_neg (fun h9 => by have := h9.1; omega), List.nil_append]
    refine lsD_nil _ (fun d _ => ?_)
    cases hs : stT m 1 lt n (16 * i + k) d with
    | none => rfl
    | some s2 =>
      dsimp only
      split
      · unfold stT loT at hs
        rw [if_pos rfl, show (16 * i + k) / 16 = i by omega, show (16 * i + k) % 16 = k by omega] at hs
        by_cases h27 : m 69 d = 27
        · rw [if_pos h27] at hs
          dsimp only at hs
          rw [if_neg (by omega)] at hs
          cases hs
          rw [show 16 * i + k + 1 = 16 * i + (k + 1) by omega, ih (k + 1) i _ _ _ (by omega) hi (by omega)]; rfl
        · rw [if_neg h27] at hs
          by_cases h1 : i < n ∧ m 69 d = lt i
          · rw [if_pos h1] at hs
            dsimp only at hs
            rw [if_neg (by omega)] at hs
            cases hs
            rw [show 16 * (i + 1) + k + 1 = 16 * (i + 1) + (k + 1) by omega, ih (k + 1) (i + 1) _ _ _ (by omega) (by omega) (by omega)]; rfl
          · rw [if_neg h1] at hs; cases hs
      · rfl
theorem ws_read {m : eW} (hp : WFp m) {l : List Int} (hl : LtO l) : WSy m (rdW7 l) (rdP7 m l) (rdB7 m) noE noJ (rdA7 m l) rdM7 (rdL7 m l) := by
  have hn16 : nP m ≤ 16 := by have := hp.1; unfold nP; omega
  intro st g hA
  obtain ⟨⟨hA1, hA2⟩, hA3⟩ := hA
  have hl6 := hl.1.2
  have hPl : rdP7 m l st < 65536 := by
    unfold rdP7
    refine or_lt16 ?_ ?_
    · split
      · exact (by_lt hp _).2.1
      · decide
    · split
      · exact (by_lt hp _).2.1
      · decide
  have hPt : ∀ p, p < nP m → (rdP7 m l st).testBit p = ((decide (st % 7 < l.length) && decide (m 69 p = ltF l (st % 7))) || (decide (st / 7 + (l.length - st % 7) < 8) && decide (m 69 p = 27))) := fun p hpl => by
    obtain ⟨_, b2, b3⟩ := by_t hp hpl
    unfold rdP7
    rw [Nat.testBit_or]
    congr 1
    · by_cases h : st % 7 < l.length
      · have := hl.b h
        rw [if_pos h, (b3 _ this.1 this.2).2, decide_eq_true h, Bool.true_and]
      · rw [if_neg h, Nat.zero_testBit, decide_eq_false h, Bool.false_and]
    · by_cases h : st / 7 + (l.length - st % 7) < 8
      · rw [if_pos h, b2, decide_eq_true h, Bool.true_and]
      · rw [if_neg h, Nat.zero_testBit, decide_eq_false h, Bool.false_and]
  refine ⟨⟨⟨by omega, hPl, by unfold noE; decide⟩, by unfold rdL7; rw [List.length_map]; exact lw_len hp⟩, fun p hp16 h1 h2 => ?_, fun e _ h1 => ?_, ?_⟩
  · obtain ⟨e1, e2⟩ := mf_goes hp16 h2
    rw [hPt p e1] at h1
    unfold rdA7 rdB7 rdM7
    rcases Bool.or_eq_true_iff.mp h1 with h3 | h3
    · obtain ⟨h4, h5⟩ := Bool.and_eq_true_iff.mp h3
      have h4 := of_decide_eq_true h4
      have h5 := of_decide_eq_true h5
      have := hl.b h4
      rw [if_neg (by omega)]
      exact ⟨⟨by omega, triG_nx hp hA3 e1⟩, by omega⟩
    · obtain ⟨h4, h5⟩ := Bool.and_eq_true_iff.mp h3
      have h4 := of_decide_eq_true h4
      rw [if_pos (of_decide_eq_true h5)]
      exact ⟨⟨by omega, triG_nx hp hA3 e1⟩, by omega⟩
  · rw [noE_t] at h1; cases h1
  · rw [lsD_nil (f := fun e => if (noE st).testBit e = true then _ else []) 16 (fun e _ => by rw [noE_t, if_neg (by decide)]), List.append_nil]
    unfold rdL7
    have hs1 : (16 * (st % 7) + st / 7) / 16 = st % 7 := by omega
    have hs2 : (16 * (st % 7) + st / 7) % 16 = st / 7 := by omega
    rw [lw_eq hl6 (by omega), List.map_append, lsD_map, hs1]
    congr 1
    · unfold rdW7
      by_cases h1 : st % 7 = l.length
      · rw [decide_eq_true h1, Bool.true_and]
        cases h2 : isE m (-1) g.1 g.2.1 g.2.2 with
        | true => rw [if_pos ⟨h1, rfl⟩, if_pos rfl]; rfl
        | false => rw [if_neg (fun h9 => by cases h9.2), if_neg (by decide)]; rfl
      · rw [decide_eq_false h1, Bool.false_and, if_neg (fun h9 => h1 h9.1), if_neg (by decide)]; rfl
    · rw [lsD_ext (f := fun p => if (rdP7 m l st &&& mfG m g).testBit p = true then _ else []) hn16 (fun p h1 h2 => by
        rw [Nat.testBit_and, mf_tb2 (by omega), decide_eq_false (by omega), Bool.false_and, Bool.and_false, if_neg (by decide)])]
      refine lsD_cg _ (fun p hpl => ?_)
      rw [Nat.testBit_and, mf_tb2 (by omega), decide_eq_true hpl, Bool.true_and, hPt p hpl]
      unfold stT loT
      rw [if_pos rfl, hs1, hs2]
      by_cases h27 : m 69 p = 27
      · rw [if_pos h27, decide_eq_true h27, Bool.and_true]
        have hf : (decide (st % 7 < l.length) && decide (m 69 p = ltF l (st % 7))) = false := by
          by_cases h : st % 7 < l.length
          · have := hl.b h
            rw [decide_eq_false (show ¬ (m 69 p = ltF l (st % 7)) by omega), Bool.and_false]
          · rw [decide_eq_false h, Bool.false_and]
        rw [hf, Bool.false_or]
        dsimp only
        by_cases hsp : st / 7 + (l.length - st % 7) < 8
        · rw [decide_eq_true hsp, Bool.true_and, if_neg (show ¬ (st / 7 = 8) by omega)]
          dsimp only
          cases h2 : goes m (-1) g.1 g.2.1 g.2.2 p with
          | false => rfl
          | true =>
            rw [if_pos rfl, if_pos rfl, List.map_map, List.map_map]
            unfold rdB7
            rw [if_pos h27, show (st + 7 + 0) % 7 = st % 7 by omega, show (st + 7 + 0) / 7 = st / 7 + 1 by omega]
            rfl
        · rw [decide_eq_false hsp, Bool.false_and, if_neg (show ¬ (false = true) by decide)]
          by_cases h8 : st / 7 = 8
          · rw [if_pos h8]; rfl
          · rw [if_neg h8]
            dsimp only
            rw [show 16 * (st % 7) + st / 7 + 1 = 16 * (st % 7) + (st / 7 + 1) by omega, lw_dead hl6 (8 - (st / 7 + 1)) (st / 7 + 1) (st % 7) _ _ _ (by omega) hA1 (by omega)]
            split <;> rfl
      · rw [if_neg h27, decide_eq_false h27, Bool.and_false, Bool.or_false]
        by_cases h1 : st % 7 < l.length ∧ m 69 p = ltF l (st % 7)
        · rw [if_pos h1, decide_eq_true h1.1, decide_eq_true h1.2]
          dsimp only
          rw [if_neg (show ¬ (st / 7 = 8) by omega)]
          dsimp only
          rw [Bool.true_and, Bool.true_and]
          cases h2 : goes m (-1) g.1 g.2.1 g.2.2 p with
          | false => rfl
          | true =>
            rw [if_pos rfl, if_pos rfl, List.map_map, List.map_map]
            unfold rdB7
            rw [if_neg h27, show (st + 7 + 1) % 7 = st % 7 + 1 by omega, show (st + 7 + 1) / 7 = st / 7 + 1 by omega]
            rfl
        · rw [if_neg h1]
          have : (decide (st % 7 < l.length) && decide (m 69 p = ltF l (st % 7))) = false := by
            cases h9 : (decide (st % 7 < l.length) && decide (m 69 p = ltF l (st % 7)))
            · rfl
            · obtain ⟨h2, h3⟩ := Bool.and_eq_true_iff.mp h9
              exact absurd ⟨of_decide_eq_true h2, of_decide_eq_true h3⟩ h1
          rw [this, Bool.false_and, if_neg (show ¬ (false = true) by decide)]
          rfl
