/-! The class: finds: the questions. -/

theorem fi_i {st : Nat} (h : st < 7000) : idiv (st : Int) 294 = ((fiE st : Nat) : Int) ∧ irem (idiv (st : Int) 49) 6 = ((fiK st : Nat) : Int) ∧ irem (idiv (st : Int) 7) 7 = ((fiW st : Nat) : Int) ∧ irem (st : Int) 7 = ((fiJ st : Nat) : Int) := by
  have a1 := i_div (x := (st : Int)) (y := 294) (by omega) (by omega)
  have a2 := i_div (x := (st : Int)) (y := 49) (by omega) (by omega)
  have a3 := i_div (x := (st : Int)) (y := 7) (by omega) (by omega)
  have a4 := i_rem (x := (st : Int)) (y := 7) (by omega) (by omega)
  have a5 := i_rem (x := (st : Int) / 49) (y := 6) (by omega) (by omega)
  have a6 := i_rem (x := (st : Int) / 7) (y := 7) (by omega) (by omega)
  unfold fiE fiK fiW fiJ
  refine ⟨by rw [a1]; omega, by rw [a2, a5]; omega, by rw [a3, a6]; omega, by rw [a4]; omega⟩
/-- text, lexicon and shortest goings on -/
def FdL (w m : eW) (l : List Int) (sh : Nat → Int) : Prop := TlL w m l ∧ XC w m ∧ ∀ c, w 36 c = sh c
theorem FdL.in' {w0 w m : eW} {l : List Int} {sh : Nat → Int} (h : FdL w0 m l sh) (hi : InvW w0 w) : FdL w m l sh := by
  refine ⟨h.1.in' hi, ?_, fun c => by rw [hi 36 (by omega)]; exact h.2.2 c⟩
  unfold XC
  rw [hi 28 (by omega), hi 29 (by omega), hi 30 (by omega), hi 31 (by omega), hi 32 (by omega)]
  exact h.2.1
theorem fiA.b {m : eW} {l : List Int} {st : Nat} {g : t3} (he : WFe m) (h : fiA m l st g) : st < 7000 ∧ fiE st ≤ 20 := by
  have hnE : nE m ≤ 16 := by have := he.1; unfold nE; omega
  obtain ⟨_, h⟩ := h
  obtain ⟨c1, c2, c3, c4⟩ := fi_b (st := st)
  have : fiE st ≤ 20 := by rcases h with ⟨h1, _⟩ | ⟨_, h1, _⟩ | ⟨h1, _⟩ <;> omega
  exact ⟨c4 this, this⟩
theorem wf_iw {d : Nat} {m w0 : eW} (he : WFe m) {l : List Int} (hl : LtO l) {sh : Nat → Int} (hT : FdL w0 m l sh) (hk : w0 53 8 = 4) (a : Int) (w : eW) (t : eT) (h : wR1 (fiA m l) w0 a w) : Cl (d + 8) 107 [rA 53, (0, a)] (enc w t) (fun r S2 => ∃ x, r = some (0, x) ∧ S2 = enc w t ∧ x = bI (fiWh l a.toNat)) := by
  have hl6 := hl.1.2
  refine Cl.up (d := d + 4) (g_iw ?_) (by omega)
  obtain ⟨⟨st, g, hA, rfl⟩, hi⟩ := h
  have hT2 := hT.in' hi
  obtain ⟨b1, b2⟩ := hA.b he
  obtain ⟨i1, i2, i3, i4⟩ := fi_i b1
  obtain ⟨c1, c2, c3, c4⟩ := fi_b (st := st)
  unfold fiWh
  rw [hi 53 (by omega), hk, hT2.1.2.1, i1, i4, w32_id (x := 4) (by omega), w32_id (x := ((fiE st : Nat) : Int)) (by omega), w32_id (x := ((fiJ st : Nat) : Int)) (by omega), w32_id (x := 20) (by omega), w32_id (x := (l.length : Int)) (by omega), Int.toNat_natCast]
  refine ⟨fun h9 => by omega, fun h9 => by omega, fun h9 => by omega, fun h9 => by omega, fun _ => ⟨fun h9 => ⟨_, rfl, rfl, ?_⟩, fun h9 => ⟨fun h8 => ⟨_, rfl, rfl, ?_⟩, fun h8 => ⟨_, rfl, rfl, ?_⟩⟩⟩⟩
  · rw [decide_eq_false (by omega)]; rfl
  · rw [decide_eq_false (show ¬ (fiJ st = l.length) by omega), Bool.and_false]; rfl
  · rw [decide_eq_true (show fiE st = 20 by omega), decide_eq_true (show fiJ st = l.length by omega)]; rfl
theorem wf_pa {d : Nat} {m w0 : eW} (hp : WFp m) (he : WFe m) {l : List Int} (hl : LtO l) {sh : Nat → Int} (hT : FdL w0 m l sh) (hk : w0 53 8 = 4) (a : Int) (w : eW) (t : eT) (h : wR1 (fiA m l) w0 a w) : Cl (d + 8) 108 [rA 53, (0, a)] (enc w t) (fun r S2 => ∃ x, r = some (0, x) ∧ S2 = enc w t ∧ x = ((fiPr m l a.toNat : Nat) : Int)) := by
  have hl6 := hl.1.2
  have hnE : nE m ≤ 16 := by have := he.1; unfold nE; omega
  refine Cl.up (d := d + 5) (g_pa (m := m) ?_) (by omega)
  obtain ⟨⟨st, g, hA, rfl⟩, hi⟩ := h
  have hT2 := hT.in' hi
  obtain ⟨b1, b2⟩ := hA.b he
  obtain ⟨i1, i2, i3, i4⟩ := fi_i b1
  obtain ⟨c1, c2, c3, c4⟩ := fi_b (st := st)
  rw [hi 53 (by omega), hk, w32_id (x := 4) (by omega)]
  refine ⟨fun h9 => by omega, fun h9 => by omega, fun h9 => by omega, fun h9 => by omega, fun _ => ?_⟩
  refine Cl.up (d := d + 2) (Q := fun r S2 => (∀ x, r ≠ some (6, x)) ∧ Ev (d + 5) 108 (fun r S2 => ∃ x, r = some (0, x) ∧ S2 = enc w t ∧ x = ((fiPr m l ((st : Int)).toNat : Nat) : Int)) 101 [rA 53, (0, (st : Int))] (r.toList ++ []) S2) (g_ptf ?_) (by omega)
  have hfin : ∀ y : Int, y = ((fiPr m l st : Nat) : Int) → (∀ x, some ((0 : Nat), y) ≠ some (6, x)) ∧ Ev (d + 5) 108 (fun r S2 => ∃ x, r = some (0, x) ∧ S2 = enc w t ∧ x = ((fiPr m l ((st : Int)).toNat : Nat) : Int)) 101 [rA 53, (0, (st : Int))] ((some ((0 : Nat), y)).toList ++ []) (enc w t) := fun y hy => by
    refine ⟨fun _ h9 => (by cases h9), g_pa4 (m := m) ⟨y, rfl, rfl, ?_⟩⟩
    rw [Int.toNat_natCast]; exact hy
  have hb0 := (by_lt hp 0).2.1
  have hin := (by_lt hp 0).2.2
  have hlo := fiLo_lt hp (l := l) (j := fiJ st)
  have hAC := hT2.1.1
  rw [i1, i2, i4, hT2.1.2.1, w32_id (x := ((fiE st : Nat) : Int)) (by omega), w32_id (x := ((fiJ st : Nat) : Int)) (by omega), w32_id (x := (l.length : Int)) (by omega), w32_id (x := 16) (by omega), w32_id (x := 20) (by omega), w32_id (x := ((fiE st : Nat) : Int) * 5 + ((fiK st : Nat) : Int)) (by omega), show (((fiE st : Nat) : Int) * 5 + ((fiK st : Nat) : Int)).toNat = 5 * fiE st + fiK st by omega, show (((fiJ st : Nat) : Int)).toNat = fiJ st from Int.toNat_natCast _, hAC.2.2.2, (hAC.2.2.1 0 (by decide)).2]
  -- the form's letter
  have hform : fiE st < 16 → (w 32 (5 * fiE st + fiK st) = (((m 80 (5 * fiE st + fiK st)).toNat + 1 : Nat) : Int) ∧ (m 80 (5 * fiE st + fiK st)).toNat + 1 < 28) ∧ 5 * fiE st + fiK st < 80 := fun h16 => by
    rcases hA.2 with ⟨_, hE, hkk, _⟩ | ⟨h1, _⟩ | ⟨h1, _⟩
    · have hf := he.fm hE
      have hx := (he.2 _ hE).2.2.2 (fiK st) (by omega)
      refine ⟨⟨?_, by omega⟩, by omega⟩
      rw [(hT2.2.1.2 _ hE).2.2.2 _ hkk]; omega
    · omega
    · omega
  have ei : ∀ {u v : Nat}, u < 65536 → v < 65536 → iand (u : Int) (v : Int) = ((u &&& v : Nat) : Int) := fun hu hv => by rw [i_and (by omega) (by omega), Int.toNat_natCast, Int.toNat_natCast]
  have eo : ∀ {u v : Nat}, u < 65536 → v < 65536 → ior (u : Int) (v : Int) = ((u ||| v : Nat) : Int) := fun hu hv => by rw [i_or (by omega) (by omega), Int.toNat_natCast, Int.toNat_natCast]
  -- what is asked, by the lowers
  have hall : ∀ L : Nat, L = fiLo m l (fiJ st) → (((fiE st : Nat) : Int) < 16 → (0 ≤ ((fiE st : Nat) : Int) * 5 + ((fiK st : Nat) : Int) ∧ ((fiE st : Nat) : Int) * 5 + ((fiK st : Nat) : Int) < 80) ∧ (0 ≤ w32 (w 32 (5 * fiE st + fiK st)) ∧ w32 (w 32 (5 * fiE st + fiK st)) < 28) ∧ ior (iand (w 11 (w32 (w 32 (5 * fiE st + fiK st))).toNat) (ior (L : Int) ((byL m 0 : Nat) : Int))) (iand ((insB m : Nat) : Int) (L : Int)) = ((fiPr m l st : Nat) : Int)) ∧ (¬ (((fiE st : Nat) : Int) < 16) → ((¬ ((fiE st : Nat) : Int) = 20 → (0 : Int) = ((fiPr m l st : Nat) : Int)) ∧ (¬ (¬ ((fiE st : Nat) : Int) = 20) → iand ((insB m : Nat) : Int) (L : Int) = ((fiPr m l st : Nat) : Int)))) := fun L hL => by
    subst hL
    refine ⟨fun h16 => ?_, fun h16 => ⟨fun h20 => ?_, fun h20 => ?_⟩⟩
    · obtain ⟨⟨e1, e2⟩, e3⟩ := hform (by omega)
      have hu := (by_lt hp ((m 80 (5 * fiE st + fiK st)).toNat + 1)).1
      rw [e1, w32_id (x := (((m 80 (5 * fiE st + fiK st)).toNat + 1 : Nat) : Int)) (by omega), Int.toNat_natCast, (hAC.2.2.1 _ e2).1]
      refine ⟨by omega, by omega, ?_⟩
      rw [eo hlo hb0, ei hu (or_lt16 hlo hb0), ei hin hlo, eo (and_l16 hu) (and_l16 hin)]
      unfold fiPr
      rw [if_pos (by omega)]
    · unfold fiPr
      rw [if_neg (by omega), if_neg (by omega)]; rfl
    · unfold fiPr
      rw [if_neg (by omega), if_pos (by omega), ei hin hlo]
  refine ⟨fun h9 => ?_, fun h9 => ?_⟩
  · have e0 : fiLo m l (fiJ st) = 0 := by unfold fiLo; rw [if_neg (by omega)]
    obtain ⟨k1, k2⟩ := hall 0 e0.symm
    refine ⟨fun h16 => ?_, fun h16 => ⟨fun h20 => hfin _ ((k2 h16).1 h20), fun h20 => hfin _ ((k2 h16).2 h20)⟩⟩
    obtain ⟨q1, q2, q3⟩ := k1 h16
    exact ⟨q1, q2, hfin _ q3⟩
  · obtain ⟨e1, e2⟩ := tl_cd hT2.1 hl (i := fiJ st) (by omega)
    have e0 : fiLo m l (fiJ st) = byL m ((ltF l (fiJ st)).toNat + 1) := by unfold fiLo; rw [if_pos (by omega)]
    rw [e1, w32_id (x := (((ltF l (fiJ st)).toNat + 1 : Nat) : Int)) (by omega), Int.toNat_natCast, (hAC.2.2.1 _ e2).2]
    obtain ⟨k1, k2⟩ := hall _ e0.symm
    refine ⟨by omega, by omega, fun h16 => ?_, fun h16 => ⟨fun h20 => hfin _ ((k2 h16).1 h20), fun h20 => hfin _ ((k2 h16).2 h20)⟩⟩
    obtain ⟨q1, q2, q3⟩ := k1 h16
    exact ⟨q1, q2, hfin _ q3⟩
theorem stF_c (e k wd j : Nat) : ((((e : Int) * 6 + (k : Int)) * 7 + (wd : Int)) * 7) + (j : Int) = ((stF e k wd j : Nat) : Int) := by
  unfold stF
  omega
theorem wf_sb {d : Nat} {m w0 : eW} (hp : WFp m) (he : WFe m) {l : List Int} (hl : LtO l) {sh : Nat → Int} (hT : FdL w0 m l sh) (hk : w0 53 8 = 4) (a p : Int) (w : eW) (t : eT) (h : wR2 m (fiPr m l) (fiA m l) w0 a p w) : Cl (d + 8) 113 [rA 53, (0, a), (0, p)] (enc w t) (fun r S2 => ∃ x, r = some (0, x) ∧ S2 = enc w t ∧ x = ((fiB m a.toNat p.toNat : Nat) : Int)) := by
  have hl6 := hl.1.2
  have hnE : nE m ≤ 16 := by have := he.1; unfold nE; omega
  refine Cl.up (d := d + 5) (g_sb (m := m) ?_) (by omega)
  obtain ⟨⟨st, g, q, hA, rfl, rfl, hq, h1, h2⟩, hi⟩ := h
  have hT2 := hT.in' hi
  obtain ⟨b1, b2⟩ := hA.b he
  obtain ⟨i1, i2, i3, i4⟩ := fi_i b1
  obtain ⟨c1, c2, c3, c4⟩ := fi_b (st := st)
  obtain ⟨e1, e2⟩ := mf_goes hq h2
  obtain ⟨_, a2, _⟩ := hp.2.1 q e1
  have hcd := cdI_z a2
  have hcb : 0 ≤ cdI (m 69 q) ∧ cdI (m 69 q) ≤ 28 := by unfold cdI; split <;> omega
  rw [hi 53 (by omega), hk, w32_id (x := 4) (by omega)]
  refine ⟨fun h9 => by omega, fun h9 => by omega, fun h9 => by omega, fun h9 => by omega, fun _ => ?_⟩
  have hfin : ∀ y : Int, y = ((fiB m st q : Nat) : Int) → (∀ x, some ((0 : Nat), y) ≠ some (6, x)) ∧ Ev (d + 5) 113 (fun r S2 => ∃ x, r = some (0, x) ∧ S2 = enc w t ∧ x = ((fiB m ((st : Int)).toNat ((q : Int)).toNat : Nat) : Int)) 106 [rA 53, (0, (st : Int)), (0, (q : Int))] ((some ((0 : Nat), y)).toList ++ []) (enc w t) := fun y hy => by
    refine ⟨fun _ h9 => (by cases h9), g_sb4 (m := m) ⟨y, rfl, rfl, ?_⟩⟩
    rw [Int.toNat_natCast, Int.toNat_natCast]; exact hy
  refine g_sfb (m := m) ?_
  rw [i1, i2, i3, i4, w32_id (x := (q : Int)) (by omega), Int.toNat_natCast, (hT2.1.1.2.1 q e1).2, w32_id (x := cdI (m 69 q)) (by omega), w32_id (x := ((fiE st : Nat) : Int)) (by omega), w32_id (x := 16) (by omega), w32_id (x := ((fiK st : Nat) : Int) + 1) (by omega), Int.toNat_natCast, w32_id (x := (-1 : Int)) (by omega)]
  refine ⟨by omega, ?_⟩
  -- both kinds of lower
  have hent : fiE st < 16 → fiE st < nE m ∧ (w 31 (fiE st) = (fmN m (fiE st) : Int) ∧ w 30 (fiE st) = m 78 (fiE st)) ∧ (-1 ≤ m 78 (fiE st) ∧ m 78 (fiE st) ≤ 3) ∧ fmN m (fiE st) ≤ 5 := fun h16 => by
    rcases hA.2 with ⟨_, hE, _⟩ | ⟨h1, _⟩ | ⟨h1, _⟩
    · have hf := he.fm hE
      have hx := hT2.2.1.2 _ hE
      exact ⟨hE, ⟨by rw [hx.2.2.1, hf.2.2], hx.2.1⟩, (he.2 _ hE).2.1, hf.2.1⟩
    · omega
    · omega
  have hall : ∀ (z : Nat), (z = if m 69 q = 27 then 0 else 1) → (AC w m ∧ WFp m ∧ ((0 : Int) ≤ (q : Int) ∧ ((q : Int) : Int) < 32)) ∧ (((isI m q) = true → (∀ y : Int, y = ((((((fiE st : Nat) : Int) * 6) + ((fiK st : Nat) : Int)) * 7) + ((fiW st : Nat) : Int)) * 7 + (((fiJ st : Nat) : Int) + (z : Int)) → y = ((fiB m st q : Nat) : Int))) ∧ ((isI m q) = false → (((16 : Int) ≤ ((fiE st : Nat) : Int) → (∀ y : Int, y = ((((((fiE st : Nat) : Int) * 6) + ((fiK st : Nat) : Int)) * 7) + ((fiW st : Nat) : Int)) * 7 + (((fiJ st : Nat) : Int) + (z : Int)) → y = ((fiB m st q : Nat) : Int))) ∧ (¬ ((16 : Int) ≤ ((fiE st : Nat) : Int)) → (((fiK st : Nat) : Int) + 1 < w32 (w 31 (fiE st)) → (∀ y : Int, y = ((((((fiE st : Nat) : Int) * 6) + (((fiK st : Nat) : Int) + 1)) * 7) + ((fiW st : Nat) : Int)) * 7 + (((fiJ st : Nat) : Int) + (z : Int)) → y = ((fiB m st q : Nat) : Int))) ∧ (¬ (((fiK st : Nat) : Int) + 1 < w32 (w 31 (fiE st))) → (¬ w32 (w 30 (fiE st)) = -1 → (∀ y : Int, y = (((((16 + w 30 (fiE st)) * 6) + 0) * 7) + ((fiW st : Nat) : Int)) * 7 + (((fiJ st : Nat) : Int) + (z : Int)) → y = ((fiB m st q : Nat) : Int))) ∧ (¬ (¬ w32 (w 30 (fiE st)) = -1) → (∀ y : Int, y = ((840 + ((fiW st : Nat) : Int)) * 7) + (((fiJ st : Nat) : Int) + (z : Int)) → y = ((fiB m st q : Nat) : Int)))))))) := fun z hz => by
    refine ⟨⟨hT2.1.1, hp, by omega, by omega⟩, fun hI y hy => ?_, fun hI => ⟨fun h16 y hy => ?_, fun h16 => ?_⟩⟩
    · subst hy
      unfold fiB
      rw [hI, if_neg (fun h9 => by cases h9.1), ← hz, ← stF_c]; omega
    · subst hy
      unfold fiB
      rw [if_neg (fun h9 => by omega), ← hz, ← stF_c]; omega
    · obtain ⟨hE, ⟨x1, x2⟩, x3, x4⟩ := hent (by omega)
      rw [x1, x2, w32_id (x := (fmN m (fiE st) : Int)) (by omega), w32_id (x := m 78 (fiE st)) (by omega)]
      refine ⟨fun hk1 y hy => ?_, fun hk1 => ⟨fun hn y hy => ?_, fun hn y hy => ?_⟩⟩
      · subst hy
        unfold fiB
        rw [if_pos ⟨hI, by omega⟩, if_pos (by omega), ← hz, ← stF_c]; omega
      · subst hy
        unfold fiB
        rw [if_pos ⟨hI, by omega⟩, if_neg (by omega), if_neg hn, ← hz, ← stF_c]; omega
      · subst hy
        unfold fiB
        rw [if_pos ⟨hI, by omega⟩, if_neg (by omega), if_pos (Classical.not_not.mp hn), ← hz, ← stF_c]; omega
  have hgo : ∀ (z : Nat), (z = if m 69 q = 27 then 0 else 1) → (AC w m ∧ WFp m ∧ ((0 : Int) ≤ (q : Int) ∧ ((q : Int) : Int) < 32)) ∧ (((isI m q) = true → _) ∧ ((isI m q) = false → _)) := hall
  clear hgo
  have hb16 : ¬ ((16 : Int) ≤ ((fiE st : Nat) : Int)) → 0 ≤ ((fiE st : Nat) : Int) ∧ ((fiE st : Nat) : Int) < 16 := fun h9 => by omega
  refine ⟨fun h9 => ?_, fun h9 => ?_⟩
  · obtain ⟨k0, k1, k2⟩ := hall 1 (by rw [if_neg (fun h8 => h9 (hcd.mpr h8))])
    refine ⟨k0, fun hI => hfin _ (k1 hI _ rfl), fun hI => ⟨fun h16 => hfin _ ((k2 hI).1 h16 _ rfl), fun h16 => ⟨hb16 h16, fun hk1 => hfin _ (((k2 hI).2 h16).1 hk1 _ rfl), fun hk1 => ⟨hb16 h16, fun hn => ⟨hb16 h16, hfin _ ((((k2 hI).2 h16).2 hk1).1 hn _ rfl)⟩, fun hn => hfin _ ((((k2 hI).2 h16).2 hk1).2 hn _ rfl)⟩⟩⟩⟩
  · obtain ⟨k0, k1, k2⟩ := hall 0 (by rw [if_pos (hcd.mp (Classical.not_not.mp h9))])
    refine ⟨k0, fun hI => hfin _ (k1 hI _ rfl), fun hI => ⟨fun h16 => hfin _ ((k2 hI).1 h16 _ rfl), fun h16 => ⟨hb16 h16, fun hk1 => hfin _ (((k2 hI).2 h16).1 hk1 _ rfl), fun hk1 => ⟨hb16 h16, fun hn => ⟨hb16 h16, hfin _ ((((k2 hI).2 h16).2 hk1).1 hn _ rfl)⟩, fun hn => hfin _ ((((k2 hI).2 h16).2 hk1).2 hn _ rfl)⟩⟩⟩⟩
