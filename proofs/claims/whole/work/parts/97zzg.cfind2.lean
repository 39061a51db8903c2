/-! The class: finds: what is walked (2). -/

theorem fi_b {st : Nat} : fiK st < 6 ∧ fiW st < 7 ∧ fiJ st < 7 ∧ (fiE st ≤ 20 → st < 7000) := by
  unfold fiK fiW fiJ fiE
  omega
theorem fi_lo {m : eW} {l : List Int} {j p x : Nat} (h : loT m (ltF l) l.length j p = some x) : x = j + (if m 69 p = 27 then 0 else 1) := by
  rw [loT_d] at h
  by_cases h1 : m 69 p = 27
  · rw [if_pos h1] at h ⊢; cases h; rfl
  · rw [if_neg h1] at h ⊢
    split at h
    · cases h; rfl
    · cases h
theorem fi_bit {m : eW} (hp : WFp m) (he : WFe m) {l : List Int} (hl : LtO l) {st p : Nat} (hpl : p < nP m) (h16 : fiE st < 16) (hE : fiE st < nE m) (hk : fiK st < fmN m (fiE st)) : (fiPr m l st).testBit p = ((loT m (ltF l) l.length (fiJ st) p).isSome && isFm m (fiE st) (fiK st) p) := by
  obtain ⟨b1, b2, b3⟩ := by_t hp hpl
  have hf := (he.2 _ hE).2.2.2 (fiK st) (by have := (he.fm hE).2.2; omega)
  have hno := (hp.2.1 p hpl).2.2
  unfold fiPr
  rw [if_pos h16, Nat.testBit_or, Nat.testBit_and, Nat.testBit_or, Nat.testBit_and, (b3 _ hf.1 hf.2).1, b1, b2, fiLo_t hp hl hpl, loT_d]
  unfold isFm
  by_cases h27 : m 69 p = 27
  · have h68 : ¬ (m 68 p = 27) := fun h9 => hno ⟨h9, h27⟩
    rw [if_pos h27, decide_eq_true h27, decide_eq_false h68, Bool.or_true, Bool.and_true, Bool.false_and, Bool.or_false, Bool.false_or]
    rfl
  · rw [if_neg h27, decide_eq_false h27, Bool.or_false]
    cases decide (fiJ st < l.length) && decide (m 69 p = ltF l (fiJ st))
    · rw [Bool.and_false, Bool.and_false]; rfl
    · rw [Bool.and_true, Bool.and_true, Bool.or_comm, if_pos rfl]; rfl
theorem fi_L {m : eW} (he : WFe m) {l : List Int} (hl : LtO l) {st p j2 : Nat} {g : t3} (hpl : p < nP m) (h16 : fiE st < 16) (hE : fiE st < nE m) (hk : fiK st < fmN m (fiE st)) (hj : fiJ st ≤ l.length) (hlo : loT m (ltF l) l.length (fiJ st) p = some j2) : fiL m l (fiB m st p) g = beL m (ltF l) l.length (fl m (ltF l) l.length) (fiE st) (dnT m (fiK st) p) (if m 78 (fiE st) = -1 then 6 else fiW st) j2 g.1 g.2.1 g.2.2 := by
  obtain ⟨c1, c2, c3, _⟩ := fi_b (st := st)
  have hl6 := hl.1.2
  have hj2 := loT_j hlo hj
  have hf := he.fm hE
  have h78 := (he.2 _ hE).2.1
  unfold fiB
  rw [← fi_lo hlo]
  have hI := isI_of hpl
  unfold dnT beL
  by_cases h27 : m 68 p = 27
  · rw [hI, decide_eq_true h27, if_neg (fun h9 => by cases h9.1), if_pos h27, if_pos hk]
    obtain ⟨d1, d2, d3, d4⟩ := stF_d (e := fiE st) c1 c2 (show j2 < 7 by omega)
    unfold fiL
    rw [d1, d2, d3, d4, if_pos h16]
  · rw [hI, decide_eq_false h27, if_pos ⟨rfl, h16⟩, if_neg h27]
    by_cases hk1 : fiK st + 1 < fmN m (fiE st)
    · rw [if_pos hk1, if_pos hk1]
      obtain ⟨d1, d2, d3, d4⟩ := stF_d (e := fiE st) (show fiK st + 1 < 6 by omega) c2 (show j2 < 7 by omega)
      unfold fiL
      rw [d1, d2, d3, d4, if_pos h16]
    · rw [if_neg hk1, if_neg hk1]
      by_cases hn : m 78 (fiE st) = -1
      · rw [if_pos hn, if_pos hn]
        obtain ⟨d1, d2, d3, d4⟩ := stF_d (e := 20) (show 0 < 6 by omega) c2 (show j2 < 7 by omega)
        unfold fiL
        rw [d1, d4, if_neg (by omega), if_neg (by omega)]
      · rw [if_neg hn, if_neg hn]
        obtain ⟨d1, d2, d3, d4⟩ := stF_d (e := 16 + (m 78 (fiE st)).toNat) (show 0 < 6 by omega) c2 (show j2 < 7 by omega)
        unfold fiL
        rw [d1, d3, d4, if_neg (by omega), if_pos (by omega), if_neg hn, show 16 + (m 78 (fiE st)).toNat - 16 = (m 78 (fiE st)).toNat by omega]
theorem fi_A {m : eW} (hp : WFp m) (he : WFe m) {l : List Int} (hl : LtO l) {st p j2 : Nat} {g : t3} (hg : triG m g) (hpl : p < nP m) (h16 : fiE st < 16) (hE : fiE st < nE m) (hk : fiK st < fmN m (fiE st)) (hw : if m 78 (fiE st) = -1 then fiW st = 0 else fmN m (fiE st) ≤ fiW st) (hj : fiJ st ≤ l.length) (hlo : loT m (ltF l) l.length (fiJ st) p = some j2) : fiA m l (fiB m st p) (gN g p) ∧ fiM m l (fiB m st p) (gN g p) < fiM m l st g := by
  obtain ⟨c1, c2, c3, _⟩ := fi_b (st := st)
  have hl6 := hl.1.2
  have hj2 := loT_j hlo hj
  have hf := he.fm hE
  have h78 := (he.2 _ hE).2.1
  have hg2 := triG_nx hp hg hpl
  have hbe := mF_be (all := if m 78 (fiE st) = -1 then 6 else fiW st) hp hpl hj hk hlo
  have hI := isI_of hpl
  unfold fiB
  rw [← fi_lo hlo]
  unfold dnT at hbe
  have eM : fiM m l st g = mF m l.length 0 (fiE st) (fiK st) (if m 78 (fiE st) = -1 then 6 else fiW st) (fiJ st) := by unfold fiM; rw [if_pos h16]
  rw [eM]
  by_cases h27 : m 68 p = 27
  · rw [hI, decide_eq_true h27, if_neg (fun h9 => by cases h9.1)]
    rw [if_pos h27] at hbe
    obtain ⟨d1, d2, d3, d4⟩ := stF_d (e := fiE st) c1 c2 (show j2 < 7 by omega)
    unfold fiA fiM
    rw [d1, d2, d3, d4, if_pos h16]
    exact ⟨⟨⟨hg2, hj2.2⟩, Or.inl ⟨h16, hE, hk, hw⟩⟩, hbe.1 hk⟩
  · rw [hI, decide_eq_false h27, if_pos ⟨rfl, h16⟩]
    rw [if_neg h27] at hbe
    by_cases hk1 : fiK st + 1 < fmN m (fiE st)
    · rw [if_pos hk1]
      obtain ⟨d1, d2, d3, d4⟩ := stF_d (e := fiE st) (show fiK st + 1 < 6 by omega) c2 (show j2 < 7 by omega)
      unfold fiA fiM
      rw [d1, d2, d3, d4, if_pos h16]
      exact ⟨⟨⟨hg2, hj2.2⟩, Or.inl ⟨h16, hE, hk1, hw⟩⟩, hbe.1 hk1⟩
    · rw [if_neg hk1]
      by_cases hn : m 78 (fiE st) = -1
      · rw [if_pos hn]
        rw [if_pos hn] at hw hbe ⊢
        rw [hw]
        obtain ⟨d1, d2, d3, d4⟩ := stF_d (e := 20) (show 0 < 6 by omega) (show 0 < 7 by omega) (show j2 < 7 by omega)
        unfold fiA fiM
        rw [d1, d2, d3, d4, if_neg (show ¬ (20 < 16) by omega), if_neg (show ¬ (20 < 20) by omega)]
        refine ⟨⟨⟨hg2, hj2.2⟩, Or.inr (Or.inr ⟨rfl, rfl, rfl⟩)⟩, ?_⟩
        unfold mF
        rw [if_pos rfl]; omega
      · rw [if_neg hn]
        rw [if_neg hn] at hbe ⊢
        obtain ⟨d1, d2, d3, d4⟩ := stF_d (e := 16 + (m 78 (fiE st)).toNat) (show 0 < 6 by omega) c2 (show j2 < 7 by omega)
        unfold fiA fiM
        rw [d1, d2, d3, d4, if_neg (show ¬ (16 + (m 78 (fiE st)).toNat < 16) by omega), if_pos (show 16 + (m 78 (fiE st)).toNat < 20 by omega)]
        exact ⟨⟨⟨hg2, hj2.2⟩, Or.inr (Or.inl ⟨by omega, by omega, rfl⟩)⟩, hbe.2 hk1 _ 0⟩
theorem fiEn_t {m : eW} {sh : Nat → Int} {st e : Nat} (h : 16 ≤ fiE st ∧ fiE st < 20) : (fiEn m sh st).testBit e = (decide (e < nE m) && (decide (m 77 e = ((fiE st - 16 : Nat) : Int)) && decide ((fiW st : Int) + toE m sh e ≤ 6))) := by
  unfold fiEn
  rw [if_pos h, bts_tb]
theorem fiEn_n {m : eW} {sh : Nat → Int} {st e : Nat} (h : ¬ (16 ≤ fiE st ∧ fiE st < 20)) : (fiEn m sh st).testBit e = false := by
  unfold fiEn
  rw [if_neg h, Nat.zero_testBit]
/-- behind the last entry -/
theorem enL_ins {m : eW} (hp : WFp m) {ll : Nat → Int} {nl j : Nat} {g : t3} (hi : isI m (gL g) = true) : enL m ll nl j g.1 g.2.1 g.2.2 = if j = nl ∧ isE m (-1) g.1 g.2.1 g.2.2 = true then [([], [])] else [] := by
  unfold enL
  rw [lsD_nil _ (fun d hd => ?_), List.append_nil]
  have : isLs m ll nl j g.1 g.2.1 g.2.2 d = false := by
    unfold isLs
    by_cases h27 : m 68 d = 27
    · have h2 : isI m d = true := by rw [isI_of hd, decide_eq_true h27]
      have h1 : isI m g.2.2 = true := hi
      have : goes m (-1) g.1 g.2.1 g.2.2 d = false := by unfold goes; rw [h1, h2]; rfl
      rw [this, Bool.and_false, Bool.false_and]
    · rw [decide_eq_false h27]; rfl
  rw [this, if_neg (by decide)]
