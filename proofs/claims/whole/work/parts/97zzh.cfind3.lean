/-! The class: finds: what is walked (3). -/

theorem ws_fi0 {m : eW} (hp : WFp m) (he : WFe m) {l : List Int} (hl : LtO l) {st : Nat} {g : t3} (hj : fiJ st ≤ l.length) (h16 : fiE st < 16) (hE : fiE st < nE m) (hk : fiK st < fmN m (fiE st)) (hw : if m 78 (fiE st) = -1 then fiW st = 0 else fmN m (fiE st) ≤ fiW st) : fiL m l st g = lsD (fun p => if (fiPr m l st &&& mfG m g).testBit p then (fiL m l (fiB m st p) (gN g p)).map (fun x => (p :: x.1, x.2)) else []) 16 := by
  have hn16 : nP m ≤ 16 := by have := hp.1; unfold nP; omega
  obtain ⟨c1, c2, c3, _⟩ := fi_b (st := st)
  have hl6 := hl.1.2
  have hf := he.fm hE
  have e1 : fiL m l st g = fl m (ltF l) l.length 0 (fiE st) (fiK st) (if m 78 (fiE st) = -1 then 6 else fiW st) (fiJ st) g.1 g.2.1 g.2.2 := by unfold fiL; rw [if_pos h16]
  have hal : (if m 78 (fiE st) = -1 then 6 else fiW st) ≤ 6 ∧ fmN m (fiE st) ≤ (if m 78 (fiE st) = -1 then 6 else fiW st) := by
    by_cases hn : m 78 (fiE st) = -1
    · rw [if_pos hn]; omega
    · rw [if_neg hn] at hw ⊢; omega
  rw [e1, fl_0 hp he hl6 ⟨hj, hal.1, fun _ => ⟨hE, hk⟩⟩ hal.2]
  rw [lsD_ext (f := fun p => if (fiPr m l st &&& mfG m g).testBit p = true then _ else []) hn16 (fun p h1 h2 => by
    rw [Nat.testBit_and, mf_tb2 (by omega), decide_eq_false (by omega), Bool.false_and, Bool.and_false, if_neg (by decide)])]
  refine lsD_cg _ (fun p hpl => ?_)
  rw [Nat.testBit_and, mf_tb2 (by omega), decide_eq_true hpl, Bool.true_and, fi_bit hp he hl hpl h16 hE hk]
  cases hlo : loT m (ltF l) l.length (fiJ st) p with
  | none => rfl
  | some j2 =>
    dsimp only
    rw [fi_L he hl hpl h16 hE hk hj hlo]
    rfl
theorem ws_fi1 {m : eW} (hp : WFp m) (he : WFe m) {sh : Nat → Int} (hs : ShF m sh) {l : List Int} (hl : LtO l) {st : Nat} {g : t3} (hj : fiJ st ≤ l.length) (h1 : 16 ≤ fiE st ∧ fiE st < 20) : fiL m l st g = lsD (fun e => if (fiEn m sh st).testBit e then (fiL m l (fiI m st e) g).map (fun x => (x.1, e :: x.2)) else []) 16 := by
  have hnE : nE m ≤ 16 := by have := he.1; unfold nE; omega
  obtain ⟨c1, c2, c3, _⟩ := fi_b (st := st)
  have hl6 := hl.1.2
  have e1 : fiL m l st g = fl m (ltF l) l.length 1 (fiE st - 16) 0 (fiW st) (fiJ st) g.1 g.2.1 g.2.2 := by unfold fiL; rw [if_neg (by omega), if_pos h1.2]
  rw [e1, fl_1 hp he hl6 ⟨hj, by omega, fun h9 => by cases h9⟩]
  rw [lsD_ext (f := fun e => if (fiEn m sh st).testBit e = true then _ else []) hnE (fun e h2 h3 => by
    rw [fiEn_t h1, decide_eq_false (by omega), Bool.false_and, if_neg (by decide)])]
  refine lsD_cg _ (fun e hel => ?_)
  have hf := he.fm hel
  have h78 := (he.2 e hel).2.1
  have hsh : (fmN m e : Int) ≤ toE m sh e := by
    unfold toE
    by_cases hn : m 78 e = -1
    · rw [if_pos hn]; omega
    · rw [if_neg hn]; have := (hs.1 (m 78 e).toNat (by omega)).1; omega
  rw [fiEn_t h1, decide_eq_true hel, Bool.true_and]
  by_cases hc1 : m 77 e = ((fiE st - 16 : Nat) : Int)
  · rw [decide_eq_true hc1, Bool.true_and]
    by_cases hc2 : (fiW st : Int) + toE m sh e ≤ 6
    · rw [decide_eq_true hc2, if_pos ⟨hc1, by omega⟩, if_pos rfl]
      have hwd : (if m 78 e = -1 then 0 else fiW st + fmN m e) < 7 := by split <;> omega
      obtain ⟨d1, d2, d3, d4⟩ := stF_d (e := e) (show 0 < 6 by omega) hwd c3
      have e2 : fiL m l (fiI m st e) g = fl m (ltF l) l.length 0 e 0 (fiW st + fmN m e) (fiJ st) g.1 g.2.1 g.2.2 := by
        unfold fiL fiI
        rw [d1, d2, d3, d4, if_pos (by omega)]
        by_cases hn : m 78 e = -1
        · rw [if_pos hn]
          exact fL_all hn 20 0 6 (fiW st + fmN m e) _ _ _ _
        · rw [if_neg hn, if_neg hn]
      rw [e2]
    · rw [decide_eq_false hc2, if_neg (show ¬ (false = true) by decide)]
      by_cases hc3 : fiW st + fmN m e ≤ 6
      · rw [if_pos ⟨hc1, hc3⟩, fl_dead he hs hel hc3 hc2]; rfl
      · rw [if_neg (fun h9 => hc3 h9.2)]
  · rw [decide_eq_false hc1, Bool.false_and, if_neg (fun h9 => hc1 h9.1), if_neg (by decide)]
theorem ws_fi2 {m : eW} (hp : WFp m) {l : List Int} (hl : LtO l) {st : Nat} {g : t3} (hj : fiJ st ≤ l.length) (h1 : fiE st = 20) (hk : fiK st = 0) : fiL m l st g = (if fiWh l st && isE m (-1) g.1 g.2.1 g.2.2 then [([], [])] else []) ++ lsD (fun p => if (fiPr m l st &&& mfG m g).testBit p then (fiL m l (fiB m st p) (gN g p)).map (fun x => (p :: x.1, x.2)) else []) 16 := by
  have hn16 : nP m ≤ 16 := by have := hp.1; unfold nP; omega
  obtain ⟨c1, c2, c3, _⟩ := fi_b (st := st)
  have hl6 := hl.1.2
  have e1 : fiL m l st g = enL m (ltF l) l.length (fiJ st) g.1 g.2.1 g.2.2 := by unfold fiL; rw [if_neg (by omega), if_neg (by omega)]
  rw [e1]
  unfold enL
  congr 1
  · unfold fiWh
    rw [decide_eq_true h1, Bool.true_and]
    by_cases h2 : fiJ st = l.length
    · rw [decide_eq_true h2, Bool.true_and]
      cases h3 : isE m (-1) g.1 g.2.1 g.2.2 with
      | true => rw [if_pos ⟨h2, rfl⟩, if_pos rfl]
      | false => rw [if_neg (fun h9 => by cases h9.2), if_neg (by decide)]
    · rw [decide_eq_false h2, Bool.false_and, if_neg (fun h9 => h2 h9.1), if_neg (by decide)]
  · rw [lsD_ext (f := fun p => if (fiPr m l st &&& mfG m g).testBit p = true then _ else []) hn16 (fun p h1 h2 => by
      rw [Nat.testBit_and, mf_tb2 (by omega), decide_eq_false (by omega), Bool.false_and, Bool.and_false, if_neg (by decide)])]
    refine lsD_cg _ (fun p hpl => ?_)
    rw [Nat.testBit_and, mf_tb2 (by omega), decide_eq_true hpl, Bool.true_and]
    have hbt : (fiPr m l st).testBit p = (decide (m 68 p = 27) && (decide (fiJ st < l.length) && decide (m 69 p = ltF l (fiJ st)))) := by
      unfold fiPr
      rw [if_neg (by omega), if_pos h1, Nat.testBit_and, (by_t hp hpl).1, fiLo_t hp hl hpl]
    rw [hbt]
    unfold isLs
    rw [loT_d]
    have hno := (hp.2.1 p hpl).2.2
    by_cases h27 : m 68 p = 27
    · have h69 : ¬ (m 69 p = 27) := fun h9 => hno ⟨h27, h9⟩
      rw [decide_eq_true h27, Bool.true_and, Bool.true_and, if_neg h69]
      cases hlm : decide (fiJ st < l.length) && decide (m 69 p = ltF l (fiJ st)) with
      | false =>
        rw [if_neg (show ¬ (false = true) by decide), decide_eq_false (by intro h9; cases h9), Bool.false_and, Bool.false_and]
        rfl
      | true =>
        have hjl := of_decide_eq_true (Bool.and_eq_true_iff.mp hlm).1
        rw [if_pos rfl, Bool.true_and]
        cases hgo : goes m (-1) g.1 g.2.1 g.2.2 p with
        | false => rw [Bool.and_false, Bool.false_and, if_neg (by decide), if_neg (by decide)]
        | true =>
          rw [Bool.and_true, if_pos (show true = true from rfl)]
          have hI : isI m p = true := by rw [isI_of hpl, decide_eq_true h27]
          have e2 : fiB m st p = stF 20 0 (fiW st) (fiJ st + 1) := by
            unfold fiB
            rw [hI, if_neg (fun h9 => by cases h9.1), if_neg h69, h1, hk]
          obtain ⟨d1, d2, d3, d4⟩ := stF_d (e := 20) (show 0 < 6 by omega) c2 (show fiJ st + 1 < 7 by omega)
          have e3 : fiL m l (fiB m st p) (gN g p) = enL m (ltF l) l.length (fiJ st + 1) (gN g p).1 (gN g p).2.1 (gN g p).2.2 := by
            rw [e2]; unfold fiL; rw [d1, d4, if_neg (by omega), if_neg (by omega)]
          rw [e3, enL_ins hp (g := gN g p) hI]
          by_cases hjn : fiJ st + 1 = l.length
          · rw [decide_eq_true (show some (fiJ st + 1) = some l.length by rw [hjn]), Bool.true_and]
            cases hie : isE m (-1) g.2.1 g.2.2 p with
            | true =>
              have hie : isE m (-1) (gN g p).1 (gN g p).2.1 (gN g p).2.2 = true := hie
              rw [if_pos rfl, if_pos ⟨hjn, hie⟩]; rfl
            | false =>
              have hie : isE m (-1) (gN g p).1 (gN g p).2.1 (gN g p).2.2 = false := hie
              rw [if_neg (by decide), if_neg (fun h9 => by rw [hie] at h9; cases h9.2)]; rfl
          · rw [decide_eq_false (fun h9 => hjn (Option.some.inj h9)), Bool.false_and, if_neg (by decide), if_neg (fun h9 => hjn h9.1)]; rfl
    · rw [decide_eq_false h27]; rfl
theorem ws_find {m : eW} (hp : WFp m) (he : WFe m) {sh : Nat → Int} (hs : ShF m sh) {l : List Int} (hl : LtO l) : WSy m (fiWh l) (fiPr m l) (fiB m) (fiEn m sh) (fiI m) (fiA m l) (fiM m l) (fiL m l) := by
  have hn16 : nP m ≤ 16 := by have := hp.1; unfold nP; omega
  have hnE : nE m ≤ 16 := by have := he.1; unfold nE; omega
  intro st g hA
  obtain ⟨⟨hg, hj⟩, hA⟩ := hA
  obtain ⟨c1, c2, c3, c4⟩ := fi_b (st := st)
  have hl6 := hl.1.2
  rcases hA with ⟨h16, hE, hk, hw⟩ | ⟨h1, h2, hk⟩ | ⟨h1, hk, hw⟩
  · have hal : (if m 78 (fiE st) = -1 then 6 else fiW st) ≤ 6 ∧ fmN m (fiE st) ≤ (if m 78 (fiE st) = -1 then 6 else fiW st) := by
      have hf := he.fm hE
      by_cases hn : m 78 (fiE st) = -1
      · rw [if_pos hn]; omega
      · rw [if_neg hn] at hw ⊢; omega
    refine ⟨⟨⟨c4 (by omega), fiPr_lt hp, fiEn_lt he⟩, ?_⟩, fun p hp16 h1 h2 => ?_, fun e _ h1 => ?_, ?_⟩
    · have := fl_lt hp he (ll := ltF l) (a := g.1) (b := g.2.1) (c := g.2.2) hl6 (by decide) (md := 0) ⟨hj, hal.1, fun _ => ⟨hE, hk⟩⟩ (fun _ => hal.2)
      unfold fiL
      rw [if_pos h16]
      omega
    · obtain ⟨e1, e2⟩ := mf_goes hp16 h2
      rw [fi_bit hp he hl e1 h16 hE hk] at h1
      cases hlo : loT m (ltF l) l.length (fiJ st) p with
      | none => rw [hlo] at h1; cases h1
      | some j2 => exact fi_A hp he hl hg e1 h16 hE hk hw hj hlo
    · rw [fiEn_n (by omega)] at h1; cases h1
    · rw [lsD_nil (f := fun e => if (fiEn m sh st).testBit e = true then _ else []) 16 (fun e _ => by rw [fiEn_n (by omega), if_neg (by decide)]), List.append_nil]
      have : fiWh l st = false := by unfold fiWh; rw [decide_eq_false (by omega)]; rfl
      rw [this, Bool.false_and, if_neg (by decide), List.nil_append]
      exact ws_fi0 hp he hl hj h16 hE hk hw
  · refine ⟨⟨⟨c4 (by omega), fiPr_lt hp, fiEn_lt he⟩, ?_⟩, fun p hp16 h3 _ => ?_, fun e _ h3 => ?_, ?_⟩
    · have := fl_lt hp he (ll := ltF l) (a := g.1) (b := g.2.1) (c := g.2.2) (e := fiE st - 16) (done := 0) (all := fiW st) (j := fiJ st) hl6 (by decide) (md := 1) ⟨hj, by omega, fun h9 => by cases h9⟩ (fun h9 => by cases h9)
      unfold fiL
      rw [if_neg (by omega), if_pos h2]
      omega
    · have : fiPr m l st = 0 := by unfold fiPr; rw [if_neg (by omega), if_neg (by omega)]
      rw [this, Nat.zero_testBit] at h3; cases h3
    · rw [fiEn_t ⟨h1, h2⟩] at h3
      obtain ⟨h4, h5⟩ := Bool.and_eq_true_iff.mp h3
      obtain ⟨h6, h7⟩ := Bool.and_eq_true_iff.mp h5
      have h4 := of_decide_eq_true h4
      have h7 := of_decide_eq_true h7
      have hf := he.fm h4
      have h78 := (he.2 e h4).2.1
      have hsh : (fmN m e : Int) ≤ toE m sh e := by
        unfold toE
        by_cases hn : m 78 e = -1
        · rw [if_pos hn]; omega
        · rw [if_neg hn]; have := (hs.1 (m 78 e).toNat (by omega)).1; omega
      have hwd : (if m 78 e = -1 then 0 else fiW st + fmN m e) < 7 := by split <;> omega
      obtain ⟨d1, d2, d3, d4⟩ := stF_d (e := e) (show 0 < 6 by omega) hwd c3
      unfold fiA fiI fiM
      rw [d1, d2, d3, d4, if_pos (show e < 16 by omega), if_neg (show ¬ (fiE st < 16) by omega), if_pos h2]
      refine ⟨⟨⟨hg, hj⟩, Or.inl ⟨by omega, h4, hf.1, ?_⟩⟩, ?_⟩
      · by_cases hn : m 78 e = -1
        · rw [if_pos hn, if_pos hn]
        · rw [if_neg hn, if_neg hn]; omega
      · by_cases hn : m 78 e = -1
        · rw [if_pos hn]; unfold mF; rw [if_pos rfl, if_neg (by decide)]; omega
        · rw [if_neg hn, if_neg hn]
          exact mF_ne hf.1 (by omega) _ 0
    · have e0 : fiPr m l st = 0 := by unfold fiPr; rw [if_neg (by omega), if_neg (by omega)]
      rw [lsD_nil (f := fun p => if (fiPr m l st &&& mfG m g).testBit p = true then _ else []) 16 (fun p _ => by rw [e0, Nat.zero_and, Nat.zero_testBit, if_neg (by decide)]), List.nil_append]
      have : fiWh l st = false := by unfold fiWh; rw [decide_eq_false (by omega)]; rfl
      rw [this, Bool.false_and, if_neg (by decide), List.nil_append]
      exact ws_fi1 hp he hs hl hj ⟨h1, h2⟩
  · refine ⟨⟨⟨c4 (by omega), fiPr_lt hp, fiEn_lt he⟩, ?_⟩, fun p hp16 h3 h4 => ?_, fun e _ h3 => ?_, ?_⟩
    · have := enL_len hn16 (m := m) (ll := ltF l) (nl := l.length) (j := fiJ st) (a := g.1) (b := g.2.1) (c := g.2.2)
      unfold fiL
      rw [if_neg (by omega), if_neg (by omega)]
      omega
    · obtain ⟨e1, e2⟩ := mf_goes hp16 h4
      have hbt : (fiPr m l st).testBit p = (decide (m 68 p = 27) && (decide (fiJ st < l.length) && decide (m 69 p = ltF l (fiJ st)))) := by
        unfold fiPr
        rw [if_neg (by omega), if_pos h1, Nat.testBit_and, (by_t hp e1).1, fiLo_t hp hl e1]
      rw [hbt] at h3
      obtain ⟨h5, h6⟩ := Bool.and_eq_true_iff.mp h3
      have h27 := of_decide_eq_true h5
      have hjl := of_decide_eq_true (Bool.and_eq_true_iff.mp h6).1
      have h69 : ¬ (m 69 p = 27) := fun h9 => (hp.2.1 p e1).2.2 ⟨h27, h9⟩
      have hI : isI m p = true := by rw [isI_of e1, decide_eq_true h27]
      have e3 : fiB m st p = stF 20 0 0 (fiJ st + 1) := by
        unfold fiB
        rw [hI, if_neg (fun h9 => by cases h9.1), if_neg h69, h1, hk, hw]
      obtain ⟨d1, d2, d3, d4⟩ := stF_d (e := 20) (show 0 < 6 by omega) (show 0 < 7 by omega) (show fiJ st + 1 < 7 by omega)
      rw [e3]
      unfold fiA fiM
      rw [d1, d2, d3, d4, h1, if_neg (show ¬ (20 < 16) by omega), if_neg (show ¬ (20 < 20) by omega), if_neg (show ¬ (20 < 16) by omega), if_neg (show ¬ (20 < 20) by omega)]
      exact ⟨⟨⟨triG_nx hp hg e1, by omega⟩, Or.inr (Or.inr ⟨rfl, rfl, rfl⟩)⟩, by omega⟩
    · rw [fiEn_n (by omega)] at h3; cases h3
    · rw [lsD_nil (f := fun e => if (fiEn m sh st).testBit e = true then _ else []) 16 (fun e _ => by rw [fiEn_n (by omega), if_neg (by decide)]), List.append_nil]
      exact ws_fi2 hp hl hj h1 hk
