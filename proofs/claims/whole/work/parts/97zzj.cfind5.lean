/-! The class: finds. -/

theorem wf_ea {d : Nat} {m w0 : eW} (he : WFe m) {l : List Int} {sh : Nat → Int} (hs : ShF m sh) (hT : FdL w0 m l sh) (hk : w0 53 8 = 4) (a : Int) (w : eW) (t : eT) (h : wR1 (fiA m l) w0 a w) : Cl (d + 8) 115 [rA 53, (0, a)] (enc w t) (fun r S2 => ∃ x, r = some (0, x) ∧ S2 = enc w t ∧ x = ((fiEn m sh a.toNat : Nat) : Int)) := by
  have hnE : nE m ≤ 16 := by have := he.1; unfold nE; omega
  refine Cl.up (d := d + 3) (g_ea ?_) (by omega)
  obtain ⟨⟨st, g, hA, rfl⟩, hi⟩ := h
  have hT2 := hT.in' hi
  obtain ⟨b1, b2⟩ := hA.b he
  obtain ⟨i1, i2, i3, i4⟩ := fi_i b1
  obtain ⟨c1, c2, c3, c4⟩ := fi_b (st := st)
  have hX := hT2.2.1
  have e28 : w 28 8 = (nE m : Int) := by rw [hX.1]; have := he.1; unfold nE; omega
  rw [hi 53 (by omega), hk, i1, Int.toNat_natCast, w32_id (x := 4) (by omega), w32_id (x := ((fiE st : Nat) : Int) - 16) (by omega)]
  refine ⟨fun _ => ⟨fun h9 => ⟨_, rfl, rfl, ?_⟩, fun h9 => ⟨fun h8 => ?_, fun h8 => ⟨_, rfl, rfl, ?_⟩⟩⟩, fun h9 => absurd rfl h9⟩
  · unfold fiEn; rw [if_neg (by omega)]; rfl
  rotate_left
  · unfold fiEn; rw [if_neg (by omega)]; rfl
  · have hen : fiEn m sh st = bts (fun e => decide (m 77 e = ((fiE st - 16 : Nat) : Int)) && decide ((fiW st : Int) + toE m sh e ≤ 6)) (nE m) := by unfold fiEn; rw [if_pos (by omega)]
    rw [hen]
    generalize hF : (fun e => decide (m 77 e = ((fiE st - 16 : Nat) : Int)) && decide ((fiW st : Int) + toE m sh e ≤ 6)) = F
    suffices hk : ∀ (k e : Nat), e + k = nE m → Ev (d + 3) 115 (fun r S2 => ∃ x, r = some (0, x) ∧ S2 = enc w t ∧ x = ((bts F (nE m) : Nat) : Int)) 34 [rA 53, (0, (st : Int)), (0, ((fiE st : Nat) : Int) - 16), (0, ((bts F e : Nat) : Int)), (0, (e : Int))] [] (enc w t) from hk (nE m) 0 (by omega)
    intro k
    induction k with
    | zero =>
      intro e hek
      refine g_ea1 ?_
      rw [e28, show (e : Int) = (nE m : Int) by omega, show e = nE m by omega]
      exact ⟨fun _ => ⟨_, rfl, rfl, rfl⟩, fun h9 => absurd (Int.le_refl _) h9⟩
    | succ k ih =>
      intro e hek
      refine g_ea1 ?_
      have hel : e < nE m := by omega
      obtain ⟨x1, x2, x3, _⟩ := hX.2 e hel
      have hf := he.fm hel
      have hwf := he.2 e hel
      rw [e28, i3, w32_id (x := (nE m : Int)) (by omega), w32_id (x := (e : Int)) (by omega), Int.toNat_natCast, x1, x2, x3, ← hf.2.2, w32_id (x := m 77 e) (by omega), w32_id (x := ((fiE st : Nat) : Int) - 16) (by omega), w32_id (x := m 78 e) (by omega), w32_id (x := (-1 : Int)) (by omega), w32_id (x := (6 : Int)) (by omega), show ((e : Int) + 1) = ((e + 1 : Nat) : Int) by omega]
      have hno : F e = false → Ev (d + 3) 115 (fun r S2 => ∃ x, r = some (0, x) ∧ S2 = enc w t ∧ x = ((bts F (nE m) : Nat) : Int)) 34 [rA 53, (0, (st : Int)), (0, ((fiE st : Nat) : Int) - 16), (0, ((bts F e : Nat) : Int)), (0, ((e + 1 : Nat) : Int))] [] (enc w t) := fun h7 => by
        have := ih (e + 1) (by omega)
        have e9 : bts F (e + 1) = bts F e := by
          show bts F e ||| (if F e then 2 ^ e else 0) = bts F e
          rw [h7, if_neg (by decide), Nat.or_zero]
        rw [e9] at this
        exact this
      have hyes : F e = true → Ev (d + 3) 115 (fun r S2 => ∃ x, r = some (0, x) ∧ S2 = enc w t ∧ x = ((bts F (nE m) : Nat) : Int)) 34 [rA 53, (0, (st : Int)), (0, ((fiE st : Nat) : Int) - 16), (0, ior ((bts F e : Nat) : Int) (ishl 1 (e : Int))), (0, ((e + 1 : Nat) : Int))] [] (enc w t) := fun h7 => by
        have := ih (e + 1) (by omega)
        have e9 : bts F (e + 1) = bts F e ||| 2 ^ e := by
          show bts F e ||| (if F e then 2 ^ e else 0) = bts F e ||| 2 ^ e
          rw [h7, if_pos rfl]
        rw [e9] at this
        rw [bts_setI (by omega)]
        exact this
      have hFe : F e = (decide (m 77 e = ((fiE st - 16 : Nat) : Int)) && decide ((fiW st : Int) + toE m sh e ≤ 6)) := by rw [← hF]
      refine ⟨fun h9 => by omega, fun _ => ⟨by omega, fun h7 => hno ?_, fun h7 => ⟨by omega, by omega, fun hn => ⟨by omega, by omega, ?_⟩, fun hn => ?_⟩⟩⟩
      · rw [hFe, decide_eq_false (by omega)]; rfl
      · have hsb := hs.1 (m 78 e).toNat (by omega)
        rw [hT2.2.2, w32_id (x := ((fiW st : Nat) : Int) + ((fmN m e : Int) + sh (m 78 e).toNat)) (by omega)]
        have hto : toE m sh e = (fmN m e : Int) + sh (m 78 e).toNat := by unfold toE; rw [if_neg hn]
        refine ⟨fun h6 => hno ?_, fun h6 => hyes ?_⟩
        · rw [hFe, hto, decide_eq_false (show ¬ ((fiW st : Int) + ((fmN m e : Int) + sh (m 78 e).toNat) ≤ 6) by omega), Bool.and_false]
        · rw [hFe, hto, decide_eq_true (show m 77 e = ((fiE st - 16 : Nat) : Int) by omega), decide_eq_true (show (fiW st : Int) + ((fmN m e : Int) + sh (m 78 e).toNat) ≤ 6 by omega)]; rfl
      · rw [w32_id (x := ((fiW st : Nat) : Int) + ((fmN m e : Int) + 0)) (by omega)]
        have hto : toE m sh e = (fmN m e : Int) := by unfold toE; rw [if_pos (Classical.not_not.mp hn)]; omega
        refine ⟨fun h6 => hno ?_, fun h6 => hyes ?_⟩
        · rw [hFe, hto, decide_eq_false (show ¬ ((fiW st : Int) + (fmN m e : Int) ≤ 6) by omega), Bool.and_false]
        · rw [hFe, hto, decide_eq_true (show m 77 e = ((fiE st - 16 : Nat) : Int) by omega), decide_eq_true (show (fiW st : Int) + (fmN m e : Int) ≤ 6 by omega)]; rfl
theorem wf_sw {d : Nat} {m w0 : eW} (he : WFe m) {l : List Int} {sh : Nat → Int} (hs : ShF m sh) (hT : FdL w0 m l sh) (a p : Int) (w : eW) (t : eT) (h : wR3 (fiEn m sh) (fiA m l) w0 a p w) : Cl (d + 8) 116 [rA 53, (0, a), (0, p)] (enc w t) (fun r S2 => ∃ x, r = some (0, x) ∧ S2 = enc w t ∧ x = ((fiI m a.toNat p.toNat : Nat) : Int)) := by
  have hnE : nE m ≤ 16 := by have := he.1; unfold nE; omega
  refine Cl.up (d := d + 3) (g_sw ?_) (by omega)
  obtain ⟨⟨st, g, e, hA, rfl, rfl, he16, hb⟩, hi⟩ := h
  have hT2 := hT.in' hi
  obtain ⟨b1, b2⟩ := hA.b he
  obtain ⟨i1, i2, i3, i4⟩ := fi_i b1
  obtain ⟨c1, c2, c3, c4⟩ := fi_b (st := st)
  have hel : e < nE m := by
    by_cases h9 : 16 ≤ fiE st ∧ fiE st < 20
    · rw [fiEn_t h9] at hb
      exact of_decide_eq_true (Bool.and_eq_true_iff.mp hb).1
    · rw [fiEn_n h9] at hb; cases hb
  obtain ⟨x1, x2, x3, _⟩ := hT2.2.1.2 e hel
  have hf := he.fm hel
  have hwf := he.2 e hel
  rw [i3, i4, w32_id (x := (e : Int)) (by omega), Int.toNat_natCast, Int.toNat_natCast, x2, x3, ← hf.2.2, w32_id (x := m 78 e) (by omega), w32_id (x := (-1 : Int)) (by omega)]
  unfold fiI
  refine ⟨by omega, fun hn => ⟨by omega, _, rfl, rfl, ?_⟩, fun hn => ⟨_, rfl, rfl, ?_⟩⟩
  · rw [if_neg hn, ← stF_c]; omega
  · rw [if_pos (Classical.not_not.mp hn), ← stF_c]; omega
theorem wh_find {d : Nat} {m w0 : eW} (hp : WFp m) (he : WFe m) {l : List Int} (hl : LtO l) {sh : Nat → Int} (hs : ShF m sh) (hT : FdL w0 m l sh) (hk : w0 53 8 = 4) : WHy d m (fiWh l) (fiPr m l) (fiB m) (fiEn m sh) (fiI m) (fiA m l) w0 := ⟨wf_iw he hl hT hk, wf_pa hp he hl hT hk, wf_sb hp he hl hT hk, wf_ea he hs hT hk, wf_sw he hs hT⟩
theorem k_finds {d : Nat} {w : eW} {t : eT} {b : Nat × Nat} {m : eW} {ks : kT} {rl tl : List Int} (h : CI w t b m ks rl tl) (hp : WFp m) (hr : WFr m) (he : WFe m) (hb : b.2 + 1 < 1000000000) : Cl (d + 105) 146 [rA 1] (enc w t) (AnC w m (b.1, b.2 + 1) (findsK tl m ks) rl [] (1, findsV tl m)) := by
  have hDQ := DynP_Q.mp h.2.2.2.2.2
  refine g_cfind (tx := tl) ⟨⟨h.1.1.1, h.1.1.2, by decide, by decide⟩, fun x1 w2 hw2 => ?_⟩
  obtain ⟨f1, T1, q1⟩ := hw2
  rw [show (6 : Int).toNat = 6 from rfl] at q1
  unfold findsV findsK
  cases hP : lsR tl 6 with
  | error q =>
    rw [hP] at q1
    obtain ⟨rfl, e6⟩ := q1
    exact ⟨fun _ => wl_err h f1 T1 e6, fun h9 => absurd (by decide +kernel) h9⟩
  | ok l =>
    rw [hP] at q1
    obtain ⟨rfl, e8, L6, hl1, hv1⟩ := q1
    refine ⟨fun h9 => absurd h9 (by decide +kernel), fun _ => ?_⟩
    have hl : LtO l := ⟨hl1, hv1⟩
    have hl6 := hl.1.2
    have hA1 : AC w2 m := h.1.2.1.fc f1 (by decide) (by decide)
    have hX1 : XC w2 m := h.2.2.1.1.fc f1 (by decide) (by decide)
    have hS1 : ShC w2 m := h.2.2.1.2.fc f1 (by decide) (by decide)
    have hs : ShF m (w2 36) := ⟨hS1.1, hS1.2.1⟩
    have hD1 : DynQ w2 t b m := hDQ.hi (f1.hi (by decide) (by decide))
    have hst : fiE 4704 = 16 ∧ fiK 4704 = 0 ∧ fiW 4704 = 0 ∧ fiJ 4704 = 0 := by decide
    have eL : fiL m l 4704 (16, 16, 16) = findsL tl m l := by
      unfold fiL findsL
      rw [hst.1, hst.2.2.1, hst.2.2.2, if_neg (by decide), if_pos (by decide)]
    refine ((c_wall (d := d) (kd := 4) (s0 := 4704) (ws_find hp he hs hl) hp hr (by decide) ⟨⟨tri_start m, by rw [hst.2.2.2]; omega⟩, Or.inr (Or.inl ⟨by rw [hst.1]; decide, by rw [hst.1]; decide, hst.2.1⟩)⟩ ?_ (fun w0 hw0 hk => wh_find hp he hl hs ⟨⟨hA1.lo9 (fun a h1 h2 => hw0 a (by omega)), by rw [hw0 2 (by omega)]; exact e8, fun i hi => by rw [hw0 6 (by omega)]; exact L6 i hi⟩, ?_, fun c => by rw [hw0 36 (by omega)]⟩ hk) (fun x hx => ?_) (h.2.1.2.fc f1 (by decide) (by decide)) (h.2.1.1.fc f1 (by decide) (by decide)) hD1 hb).up (by omega)).mono ?_
    · unfold fiM
      rw [hst.1, hst.2.2.1, hst.2.2.2, if_neg (by decide), if_pos (by decide)]
      unfold mF
      rw [if_neg (by decide)]; omega
    · unfold XC
      rw [hw0 28 (by omega), hw0 29 (by omega), hw0 30 (by omega), hw0 31 (by omega), hw0 32 (by omega)]
      exact hX1
    · rw [eL] at hx
      have := fL_rows hp he 20 1 0 0 0 0 16 16 16 (by decide) (by decide) (by omega) (fun h9 => by cases h9) x hx
      rw [if_neg (by decide)] at this
      exact ⟨by omega, by omega⟩
    · rintro _ _ ⟨w5, t5, rfl, rfl, lo, hD5, K5⟩
      refine ⟨fun _ h9 => (by cases h9), g_cfindb ?_⟩
      rw [eL] at K5 ⊢
      exact wl_ok h f1 T1 lo hD5 K5
