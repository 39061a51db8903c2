/-! The class: spells and reads: the questions. -/

/-- the text's letters are l -/
def TlL (w m : eW) (l : List Int) : Prop := AC w m ∧ w 2 8 = (l.length : Int) ∧ LtC w 6 l
theorem TlL.in' {w0 w m : eW} {l : List Int} (h : TlL w0 m l) (hi : InvW w0 w) : TlL w m l := by
  refine ⟨h.1.lo9 (fun a h1 h2 => hi a (by omega)), by rw [hi 2 (by omega)]; exact h.2.1, fun i hl => by rw [hi 6 (by omega)]; exact h.2.2 i hl⟩
theorem tl_cd {w m : eW} {l : List Int} (h : TlL w m l) (hl : LtO l) {i : Nat} (hi : i < l.length) : w 6 i = (((ltF l i).toNat + 1 : Nat) : Int) ∧ (ltF l i).toNat + 1 < 28 := by
  have := hl.b hi
  refine ⟨?_, by omega⟩
  rw [h.2.2 i hi]
  show ltF l i + 1 = _
  omega
theorem wh_spel {d : Nat} {m w0 : eW} (hp : WFp m) {l : List Int} (hl : LtO l) (hT : TlL w0 m l) (hk : w0 53 8 = 2) : WHy d m (spWh l) (spP m l) (spB m) noE noJ (spA m l) w0 := by
  have hl6 := hl.1.2
  refine ⟨fun a w t h => ?_, fun a w t h => ?_, fun a p w t h => ?_, wh_ent (Or.inr (Or.inr (Or.inl hk))), wh_no⟩
  · refine Cl.up (d := d + 4) (g_iw ?_) (by omega)
    obtain ⟨⟨st, g, hA, rfl⟩, hi⟩ := h
    have hA : st ≤ l.length := hA.1
    have hT2 := hT.in' hi
    unfold spWh
    rw [hi 53 (by omega), hk, hT2.2.1, w32_id (x := 2) (by omega), w32_id (x := (st : Int)) (by omega), w32_id (x := (l.length : Int)) (by omega), Int.toNat_natCast]
    refine ⟨fun h9 => by omega, fun h9 => by omega, fun _ => ⟨fun h9 => ⟨_, rfl, rfl, ?_⟩, fun h9 => ⟨_, rfl, rfl, ?_⟩⟩, fun h9 => by omega, fun h9 => by omega⟩
    · rw [decide_eq_false (by omega)]; rfl
    · rw [decide_eq_true (by omega)]; rfl
  · refine Cl.up (d := d + 5) (g_pa (m := m) ?_) (by omega)
    obtain ⟨⟨st, g, hA, rfl⟩, hi⟩ := h
    have hA : st ≤ l.length := hA.1
    have hT2 := hT.in' hi
    have hins := (by_lt hp 0).2.2
    unfold spP
    rw [hi 53 (by omega), hk, hT2.2.1, w32_id (x := 2) (by omega), w32_id (x := (st : Int)) (by omega), w32_id (x := (l.length : Int)) (by omega), Int.toNat_natCast, hT2.1.2.2.2]
    refine ⟨fun h9 => by omega, fun h9 => by omega, fun _ => ⟨fun h9 => ⟨_, rfl, rfl, ?_⟩, fun h9 => ?_⟩, fun h9 => by omega, fun h9 => by omega⟩
    · rw [if_neg (by omega), i_or (by omega) (by omega), Int.toNat_natCast]; rfl
    · obtain ⟨e1, e2⟩ := tl_cd hT2 hl (i := st) (by omega)
      have hu := (by_lt hp ((ltF l st).toNat + 1)).1
      rw [e1, w32_id (x := (((ltF l st).toNat + 1 : Nat) : Int)) (by omega), Int.toNat_natCast, (hT2.1.2.2.1 _ e2).1]
      refine ⟨by omega, by omega, _, rfl, rfl, ?_⟩
      rw [if_pos (by omega), i_or (by omega) (by omega), Int.toNat_natCast, Int.toNat_natCast]
  · refine Cl.up (d := d + 5) (g_sb (m := m) ?_) (by omega)
    obtain ⟨⟨st, g, q, hA, rfl, rfl, hq, h1, h2⟩, hi⟩ := h
    have hA : st ≤ l.length := hA.1
    have hT2 := hT.in' hi
    unfold spB
    rw [hi 53 (by omega), hk, w32_id (x := 2) (by omega), Int.toNat_natCast, Int.toNat_natCast]
    refine ⟨fun h9 => by omega, fun h9 => by omega, fun _ => ⟨⟨hT2.1, hp, by omega, by omega⟩, fun h9 => ⟨_, rfl, rfl, ?_⟩, fun h9 => ⟨_, rfl, rfl, ?_⟩⟩, fun h9 => by omega, fun h9 => by omega⟩
    · rw [h9, if_neg (by decide)]; omega
    · rw [h9, if_pos rfl]
theorem wh_read {d : Nat} {m w0 : eW} (hp : WFp m) {l : List Int} (hl : LtO l) (hT : TlL w0 m l) (hk : w0 53 8 = 3) : WHy d m (rdW7 l) (rdP7 m l) (rdB7 m) noE noJ (rdA7 m l) w0 := by
  have hl6 := hl.1.2
  refine ⟨fun a w t h => ?_, fun a w t h => ?_, fun a p w t h => ?_, wh_ent (Or.inr (Or.inr (Or.inr hk))), wh_no⟩
  · refine Cl.up (d := d + 4) (g_iw ?_) (by omega)
    obtain ⟨⟨st, g, hA, rfl⟩, hi⟩ := h
    obtain ⟨hA1, hA2⟩ := hA.1
    have hT2 := hT.in' hi
    unfold rdW7
    rw [hi 53 (by omega), hk, hT2.2.1, w32_id (x := 3) (by omega), i_rem (x := (st : Int)) (by omega) (by omega), w32_id (x := (st : Int) % 7) (by omega), w32_id (x := (l.length : Int)) (by omega), Int.toNat_natCast]
    refine ⟨fun h9 => by omega, fun h9 => by omega, fun h9 => by omega, fun _ => ⟨fun h9 => ⟨_, rfl, rfl, ?_⟩, fun h9 => ⟨_, rfl, rfl, ?_⟩⟩, fun h9 => by omega⟩
    · rw [decide_eq_false (by omega)]; rfl
    · rw [decide_eq_true (by omega)]; rfl
  · refine Cl.up (d := d + 5) (g_pa (m := m) ?_) (by omega)
    obtain ⟨⟨st, g, hA, rfl⟩, hi⟩ := h
    obtain ⟨hA1, hA2⟩ := hA.1
    have hT2 := hT.in' hi
    have hb0 := (by_lt hp 0).2.1
    rw [hi 53 (by omega), hk, w32_id (x := 3) (by omega)]
    refine ⟨fun h9 => by omega, fun h9 => by omega, fun h9 => by omega, fun _ => ?_, fun h9 => by omega⟩
    refine Cl.up (d := d + 2) (Q := fun r S2 => (∀ x, r ≠ some (6, x)) ∧ Ev (d + 5) 108 (fun r S2 => ∃ x, r = some (0, x) ∧ S2 = enc w t ∧ x = ((rdP7 m l ((st : Int)).toNat : Nat) : Int)) 95 [rA 53, (0, (st : Int))] (r.toList ++ []) S2) (g_ptr ?_) (by omega)
    have hfin : ∀ y : Int, y = ((rdP7 m l st : Nat) : Int) → (∀ x, some ((0 : Nat), y) ≠ some (6, x)) ∧ Ev (d + 5) 108 (fun r S2 => ∃ x, r = some (0, x) ∧ S2 = enc w t ∧ x = ((rdP7 m l ((st : Int)).toNat : Nat) : Int)) 95 [rA 53, (0, (st : Int))] ((some ((0 : Nat), y)).toList ++ []) (enc w t) := fun y hy => by
      refine ⟨fun _ h9 => (by cases h9), g_pa3 (m := m) ⟨y, rfl, rfl, ?_⟩⟩
      rw [Int.toNat_natCast]; exact hy
    have hdv := i_div (x := (st : Int)) (y := 7) (by omega) (by omega)
    have hrm := i_rem (x := (st : Int)) (y := 7) (by omega) (by omega)
    rw [hdv, hrm, hT2.2.1, w32_id (x := (st : Int) % 7) (by omega), w32_id (x := (l.length : Int)) (by omega), w32_id (x := 8 - (st : Int) / 7 - ((l.length : Int) - (st : Int) % 7)) (by omega), show ((st : Int) % 7).toNat = st % 7 by omega, (hT2.1.2.2.1 0 (by decide)).2]
    refine ⟨fun h9 => ⟨fun h8 => hfin _ ?_, fun h8 => hfin _ ?_⟩, fun h9 => ⟨by omega, ?_⟩⟩
    · unfold rdP7
      rw [if_neg (by omega), if_neg (by omega)]; rfl
    · unfold rdP7
      rw [if_neg (by omega), if_pos (by omega), i_or (by omega) (by omega), Int.toNat_natCast]; rfl
    · obtain ⟨e1, e2⟩ := tl_cd hT2 hl (i := st % 7) (by omega)
      have hu := (by_lt hp ((ltF l (st % 7)).toNat + 1)).2.1
      rw [e1, w32_id (x := (((ltF l (st % 7)).toNat + 1 : Nat) : Int)) (by omega), Int.toNat_natCast, (hT2.1.2.2.1 _ e2).2]
      refine ⟨by omega, fun h8 => hfin _ ?_, fun h8 => hfin _ ?_⟩
      · unfold rdP7
        rw [if_pos (by omega), if_neg (by omega), i_or (by omega) (by omega), Int.toNat_natCast]; rfl
      · unfold rdP7
        rw [if_pos (by omega), if_pos (by omega), i_or (by omega) (by omega), Int.toNat_natCast, Int.toNat_natCast]
  · refine Cl.up (d := d + 5) (g_sb (m := m) ?_) (by omega)
    obtain ⟨⟨st, g, q, hA, rfl, rfl, hq, h1, h2⟩, hi⟩ := h
    have hT2 := hT.in' hi
    obtain ⟨e1, e2⟩ := mf_goes hq h2
    obtain ⟨_, a2, _⟩ := hp.2.1 q e1
    have hcd := cdI_z a2
    have hcb : 0 ≤ cdI (m 69 q) ∧ cdI (m 69 q) ≤ 28 := by unfold cdI; split <;> omega
    unfold rdB7
    rw [hi 53 (by omega), hk, w32_id (x := 3) (by omega), Int.toNat_natCast, Int.toNat_natCast, w32_id (x := (q : Int)) (by omega), Int.toNat_natCast, (hT2.1.2.1 q e1).2, w32_id (x := cdI (m 69 q)) (by omega)]
    refine ⟨fun h9 => by omega, fun h9 => by omega, fun h9 => by omega, fun _ => ⟨by omega, fun h9 => ⟨_, rfl, rfl, ?_⟩, fun h9 => ⟨_, rfl, rfl, ?_⟩⟩, fun h9 => by omega⟩
    · rw [if_neg (fun h8 => h9 (hcd.mpr h8))]; omega
    · rw [if_pos (hcd.mp (Classical.not_not.mp h9))]; omega
