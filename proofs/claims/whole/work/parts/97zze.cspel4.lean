/-! The class: spells, reads. -/

theorem wl_err {w w2 : eW} {t : eT} {b : Nat × Nat} {m : eW} {ks : kT} {rl tl : List Int} {q : Nat} (h : CI w t b m ks rl tl) (f1 : Fc [6] [(2, 6), (2, 8)] w w2) (T2 : TC w2 tl) (e6 : w2 2 6 = (q : Int)) : AnC w m (b.1, b.2 + 1) ks rl [] (1, -21 - (q : Int)) (some (1, w32 ((-21) - (w2 2 6)))) (enc (wu (wu w2 2 5 0) 2 6 0) t) := by
  have hq : w2 2 6 ≤ 80 := by have := T2.1; unfold TI at this; omega
  rw [e6, w32_id (x := -21 - (q : Int)) (by omega)]
  obtain ⟨w3, t3, e1, e2, e3, e4⟩ := AnC.clr (v := (1, -21 - (q : Int))) h f1 T2 (by decide) (by decide) (h.2.2.2.1.fc f1 (by decide) (by decide)) (h.2.2.2.2.1.fc f1 (by decide) (by decide))
  exact ⟨w3, t3, e1, e2, e3, e4.le (Nat.le_succ _)⟩
theorem rows_3755 {a : Nat} (ha : a < 37 ∨ (47 < a ∧ a < 102)) (h1 : okRow a = false) (h48 : a ≠ 48) (h53 : a ≠ 53) : a < 37 ∨ (55 < a ∧ a < 102) := by
  have : ¬ (48 ≤ a ∧ a ≤ 55) := fun h9 => by
    have h10 : a = 48 ∨ a = 49 ∨ a = 50 ∨ a = 51 ∨ a = 52 ∨ a = 53 ∨ a = 54 ∨ a = 55 := by omega
    rcases h10 with h10 | h10 | h10 | h10 | h10 | h10 | h10 | h10 <;> rw [h10] at h1 <;> first | omega | exact absurd h1 (by decide)
  omega
theorem wl_ok {w w2 w5 : eW} {t t5 : eT} {b : Nat × Nat} {m : eW} {ks ks2 : kT} {rl tl : List Int} {v : aV} (h : CI w t b m ks rl tl) (f1 : Fc [6] [(2, 6), (2, 8)] w w2) (T2 : TC w2 tl) (lo : ∀ a, a < 37 ∨ (55 < a ∧ a < 102) → w5 a = w2 a) (hD : DynQ w5 t5 (b.1, b.2 + 1) m) (hK : KC w5 ks2) : AnC w m (b.1, b.2 + 1) ks2 rl [] v (some v) (enc (wu (wu w5 2 5 0) 2 6 0) t5) := by
  have T5 : TC w5 tl := by unfold TC TI; rw [lo 2 (by omega), lo 3 (by omega)]; exact T2
  have fz : Fc [] [(2, 5), (2, 6)] w5 (wu (wu w5 2 5 0) 2 6 0) := Fc.clr (by decide) (by decide)
  have l1 : LoK w w2 := f1.lok (by decide) (by decide)
  have l2 : LoK w2 w5 := fun a ha h1 _ h48 h53 _ _ _ => lo a (rows_3755 ha h1 h48 h53)
  have l3 : LoK w5 (wu (wu w5 2 5 0) 2 6 0) := fz.lok (by decide) (by decide)
  have Tl2 : TlC w2 rl := h.2.2.2.2.1.fc f1 (by decide) (by decide)
  have Tl5 : TlC w5 rl := by unfold TlC; rw [lo 1 (by omega), lo 66 (by omega)]; exact Tl2
  refine ⟨_, t5, rfl, rfl, fun a h1 h2 => ?_, h.lok ((l1.tr l2).tr l3) (hD.hi (fz.hi (by decide) (by decide))) T5.nil (hK.cg (fun a h1 h2 => by rw [wu_row (by omega), wu_row (by omega)])) (Tl5.fc fz (by decide) (by decide))⟩
  rw [wu_row (by omega), wu_row (by omega), lo a (by omega)]
  exact f1.up (by decide) (by decide) a h1 h2
theorem k_spells {d : Nat} {w : eW} {t : eT} {b : Nat × Nat} {m : eW} {ks : kT} {rl tl : List Int} (h : CI w t b m ks rl tl) (hp : WFp m) (hr : WFr m) (hb : b.2 + 1 < 1000000000) : Cl (d + 105) 144 [rA 1] (enc w t) (AnC w m (b.1, b.2 + 1) (spellsK 0 tl m ks) rl [] (1, spellsV 0 tl m)) := by
  have hDQ := DynP_Q.mp h.2.2.2.2.2
  refine g_cspel (tx := tl) ⟨⟨h.1.1.1, h.1.1.2, by decide, by decide⟩, fun x1 w2 hw2 => ?_⟩
  obtain ⟨f1, T1, q1⟩ := hw2
  rw [show (6 : Int).toNat = 6 from rfl] at q1
  unfold spellsV spellsK
  cases hP : lsR tl 6 with
  | error q =>
    rw [hP] at q1
    obtain ⟨rfl, e6⟩ := q1
    exact ⟨fun _ => wl_err h f1 T1 e6, fun h9 => absurd (by decide +kernel) h9⟩
  | ok l =>
    rw [hP] at q1
    obtain ⟨rfl, e8, L6, hl1, hv1⟩ := q1
    refine ⟨fun h9 => absurd h9 (by decide +kernel), fun _ => ?_⟩
    have hl : LtO l := ⟨hl1, hv1⟩
    have hA1 : AC w2 m := h.1.2.1.fc f1 (by decide) (by decide)
    have hD1 : DynQ w2 t b m := hDQ.hi (f1.hi (by decide) (by decide))
    refine ((c_wall (d := d) (kd := 2) (s0 := 0) (ws_spel hp hl) hp hr (by decide) ⟨by omega, tri_start m⟩ (Nat.le_trans (mW_le hl.1.2) (by decide)) (fun w0 hw0 hk => wh_spel hp hl ⟨hA1.lo9 (fun a h1 h2 => hw0 a (by omega)), by rw [hw0 2 (by omega)]; exact e8, fun i hi => by rw [hw0 6 (by omega)]; exact L6 i hi⟩ hk) (fun x hx => ?_) (h.2.1.2.fc f1 (by decide) (by decide)) (h.2.1.1.fc f1 (by decide) (by decide)) hD1 hb).up (by omega)).mono ?_
    · obtain ⟨y, y1, y2⟩ := List.mem_map.mp hx
      have := lW_el _ _ _ _ _ y y1
      rw [← y2]
      exact ⟨by show y.length ≤ 13; omega, Nat.zero_le _⟩
    · rintro _ _ ⟨w5, t5, rfl, rfl, lo, hD5, K5⟩
      refine ⟨fun _ h9 => (by cases h9), g_cspelb ?_⟩
      have e1 : ((spL m l 0 (16, 16, 16)).length : Int) = ((cw m 0 (ltF l) l.length 0 16 16 16 : Nat) : Int) := by
        unfold spL
        rw [List.length_map]
        show ((lW m 0 (ltF l) l.length 14 0 16 16 16).length : Int) = _
        rw [lW_len]; rfl
      rw [e1]
      exact wl_ok h f1 T1 lo hD5 K5
theorem k_reads {d : Nat} {w : eW} {t : eT} {b : Nat × Nat} {m : eW} {ks : kT} {rl tl : List Int} (h : CI w t b m ks rl tl) (hp : WFp m) (hr : WFr m) (hb : b.2 + 1 < 1000000000) : Cl (d + 105) 145 [rA 1] (enc w t) (AnC w m (b.1, b.2 + 1) (spellsK 1 tl m ks) rl [] (1, spellsV 1 tl m)) := by
  have hDQ := DynP_Q.mp h.2.2.2.2.2
  refine g_cread (tx := tl) ⟨⟨h.1.1.1, h.1.1.2, by decide, by decide⟩, fun x1 w2 hw2 => ?_⟩
  obtain ⟨f1, T1, q1⟩ := hw2
  rw [show (6 : Int).toNat = 6 from rfl] at q1
  unfold spellsV spellsK
  cases hP : lsR tl 6 with
  | error q =>
    rw [hP] at q1
    obtain ⟨rfl, e6⟩ := q1
    exact ⟨fun _ => wl_err h f1 T1 e6, fun h9 => absurd (by decide +kernel) h9⟩
  | ok l =>
    rw [hP] at q1
    obtain ⟨rfl, e8, L6, hl1, hv1⟩ := q1
    refine ⟨fun h9 => absurd h9 (by decide +kernel), fun _ => ?_⟩
    have hl : LtO l := ⟨hl1, hv1⟩
    have hl6 := hl.1.2
    have hA1 : AC w2 m := h.1.2.1.fc f1 (by decide) (by decide)
    have hD1 : DynQ w2 t b m := hDQ.hi (f1.hi (by decide) (by decide))
    refine ((c_wall (d := d) (kd := 3) (s0 := 0) (ws_read hp hl) hp hr (by decide) ⟨⟨by omega, by omega⟩, tri_start m⟩ (by unfold rdM7; omega) (fun w0 hw0 hk => wh_read hp hl ⟨hA1.lo9 (fun a h1 h2 => hw0 a (by omega)), by rw [hw0 2 (by omega)]; exact e8, fun i hi => by rw [hw0 6 (by omega)]; exact L6 i hi⟩ hk) (fun x hx => ?_) (h.2.1.2.fc f1 (by decide) (by decide)) (h.2.1.1.fc f1 (by decide) (by decide)) hD1 hb).up (by omega)).mono ?_
    · obtain ⟨y, y1, y2⟩ := List.mem_map.mp hx
      have := lW_el _ _ _ _ _ y y1
      rw [← y2]
      exact ⟨by show y.length ≤ 13; omega, Nat.zero_le _⟩
    · rintro _ _ ⟨w5, t5, rfl, rfl, lo, hD5, K5⟩
      refine ⟨fun _ h9 => (by cases h9), g_creadb ?_⟩
      have e1 : ((rdL7 m l 0 (16, 16, 16)).length : Int) = ((cw m 1 (ltF l) l.length 0 16 16 16 : Nat) : Int) := by
        unfold rdL7
        rw [List.length_map]
        show ((lW m 1 (ltF l) l.length 14 0 16 16 16).length : Int) = _
        rw [lW_len]; rfl
      rw [e1]
      exact wl_ok h f1 T1 lo hD5 K5
