/-! The law: rounds that cannot throw. -/

theorem Cl.ex {d k : Nat} {as : List aV} {S : aS} {Q : Option aV → aS → Prop} (h : Cl d k as S Q) : ∃ r S2, Q r S2 := by
  obtain ⟨n, c, r, S2, _, _, h⟩ := h
  exact ⟨r, S2, h⟩
theorem nP_rule (tx : List Int) (m : eW) : nP (ruleM tx m) = nP m := by
  unfold ruleM
  split
  · rfl
  · split
    · rfl
    · split
      · rfl
      · unfold nP ruW
        simp
theorem nP_entry (tx : List Int) (m : eW) (a x : Int) : nP (entryM tx m a x) = nP m := by
  unfold entryM
  split
  · rfl
  · split
    · split
      · rfl
      · split
        · rfl
        · unfold nP enW
          simp
    · rfl
/-- the round is done -/
def Nx (d L : Nat) (xs : Nat → Int32) (j : Nat) (Q : Option aV → aS → Prop) (i : Nat) : Prop := ∀ (w : eW) (t : eT) (m : eW) (ks : kT) (rl tx : List Int) (J5 J6 J7 : aV), LI L xs w t (j + 1) m ks rl tx → Ev (d + 120) 272 Q 929 [rA 0, rA 1, rA 67, rA 100, (0, (i : Int)), J5, J6, J7] [] (enc w t)

theorem lr_sign {d L : Nat} {xs : Nat → Int32} {w : eW} {t : eT} {j i : Nat} {m : eW} {ks : kT} {rl tx : List Int} {Q : Option aV → aS → Prop} {J5 J6 J7 : aV} (h : LI L xs w t j m ks rl tx) (hi : i + 4 ≤ L) (hL : L ≤ 2048) (hj : j ≤ 600) (hn : Nx d L xs j Q i) : Ev (d + 120) 272 Q 160 [rA 0, rA 1, rA 67, rA 100, (0, (i : Int)), J5, J6, J7] [] (enc w t) := by
  have wf := h.2.2.1.wf
  have hl : ((t.1 0).2 : Int) = (L : Int) := by rw [h.1.2]
  have hb : (1063745, j).2 + 1 < 1000000000 := by show j + 1 < 1000000000; omega
  have s1 : w32 ((i : Int) + 1) = ((i + 1 : Nat) : Int) := by rw [w32_id (by omega)]; rfl
  have ok1 := h.ok (i + 1)
  refine g_lA122 ?_
  rw [s1, hl, show (((i + 1 : Nat) : Int)).toNat = i + 1 from Int.toNat_natCast _]
  refine ⟨⟨by omega, by omega⟩, ?_⟩
  refine ((Cl.up (k_sign (d := 0) h.2.1 (ok1)) (by omega)).r0).mono ?_
  rintro _ _ ⟨⟨w2, t2, rfl, rfl, h67, hC2⟩, r0⟩
  obtain ⟨hs2, e0, hM⟩ := h.cls h67 r0
  have hl2 : ((t2.1 0).2 : Int) = (L : Int) := by rw [hs2.2]
  refine ⟨fun _ h9 => (by cases h9), ?_⟩
  refine g_lB122 ?_
  rw [s1, hl2, show (((i + 1 : Nat) : Int)).toNat = i + 1 from Int.toNat_natCast _, e0]
  refine ⟨⟨by omega, by omega⟩, ?_⟩
  refine (Cl.up (n_sign (d := 0) hM ok1) (by omega)).mono ?_
  rintro _ _ ⟨w3, rfl, rfl, e1, e2, hM3⟩
  refine ⟨fun _ h9 => (by cases h9), g_lC122 ⟨fun _ => ?_, fun h9 => absurd rfl h9⟩⟩
  exact hn w3 t2 _ _ _ _ _ _ _ (LI.mdl hs2 (hC2.le (Nat.le_succ _)) e1 e2 hM3 h.2.2.2)

theorem lr_end {d L : Nat} {xs : Nat → Int32} {w : eW} {t : eT} {j i : Nat} {m : eW} {ks : kT} {rl tx : List Int} {Q : Option aV → aS → Prop} {J5 J6 J7 : aV} (h : LI L xs w t j m ks rl tx) (hi : i + 4 ≤ L) (hL : L ≤ 2048) (hj : j ≤ 600) (hn : Nx d L xs j Q i) : Ev (d + 120) 272 Q 185 [rA 0, rA 1, rA 67, rA 100, (0, (i : Int)), J5, J6, J7] [] (enc w t) := by
  have wf := h.2.2.1.wf
  have hl : ((t.1 0).2 : Int) = (L : Int) := by rw [h.1.2]
  have hb : (1063745, j).2 + 1 < 1000000000 := by show j + 1 < 1000000000; omega
  have s1 : w32 ((i : Int) + 1) = ((i + 1 : Nat) : Int) := by rw [w32_id (by omega)]; rfl
  have ok1 := h.ok (i + 1)
  refine g_lA123 ?_
  rw [s1, hl, show (((i + 1 : Nat) : Int)).toNat = i + 1 from Int.toNat_natCast _]
  refine ⟨⟨by omega, by omega⟩, ?_⟩
  refine ((Cl.up (k_end (d := 0) h.2.1 (ok1)) (by omega)).r0).mono ?_
  rintro _ _ ⟨⟨w2, t2, rfl, rfl, h67, hC2⟩, r0⟩
  obtain ⟨hs2, e0, hM⟩ := h.cls h67 r0
  have hl2 : ((t2.1 0).2 : Int) = (L : Int) := by rw [hs2.2]
  refine ⟨fun _ h9 => (by cases h9), ?_⟩
  refine g_lB123 ?_
  rw [s1, hl2, show (((i + 1 : Nat) : Int)).toNat = i + 1 from Int.toNat_natCast _, e0]
  refine ⟨⟨by omega, by omega⟩, ?_⟩
  refine (Cl.up (n_end (d := 0) hM ok1) (by omega)).mono ?_
  rintro _ _ ⟨w3, rfl, rfl, e1, e2, hM3⟩
  refine ⟨fun _ h9 => (by cases h9), g_lC123 ⟨fun _ => ?_, fun h9 => absurd rfl h9⟩⟩
  exact hn w3 t2 _ _ _ _ _ _ _ (LI.mdl hs2 (hC2.le (Nat.le_succ _)) e1 e2 hM3 h.2.2.2)

theorem lr_pairs {d L : Nat} {xs : Nat → Int32} {w : eW} {t : eT} {j i : Nat} {m : eW} {ks : kT} {rl tx : List Int} {Q : Option aV → aS → Prop} {J5 J6 J7 : aV} (h : LI L xs w t j m ks rl tx) (hi : i + 4 ≤ L) (hL : L ≤ 2048) (hj : j ≤ 600) (hn : Nx d L xs j Q i) : Ev (d + 120) 272 Q 210 [rA 0, rA 1, rA 67, rA 100, (0, (i : Int)), J5, J6, J7] [] (enc w t) := by
  have wf := h.2.2.1.wf
  have hl : ((t.1 0).2 : Int) = (L : Int) := by rw [h.1.2]
  have hb : (1063745, j).2 + 1 < 1000000000 := by show j + 1 < 1000000000; omega
  refine g_lA124 ?_
  refine ((Cl.up (k_pairs (d := 0) h.2.1 ) (by omega)).r0).mono ?_
  rintro _ _ ⟨⟨w2, t2, rfl, rfl, h67, hC2⟩, r0⟩
  obtain ⟨hs2, e0, hM⟩ := h.cls h67 r0
  have hl2 : ((t2.1 0).2 : Int) = (L : Int) := by rw [hs2.2]
  refine ⟨fun _ h9 => (by cases h9), ?_⟩
  refine g_lB124 ?_
  refine (Cl.up (n_pairs (d := 0) hM) (by omega)).mono ?_
  rintro _ _ ⟨w3, rfl, rfl, e1, e2, hM3⟩
  refine ⟨fun _ h9 => (by cases h9), g_lC124 ⟨fun _ => ?_, fun h9 => absurd rfl h9⟩⟩
  exact hn w3 t2 _ _ _ _ _ _ _ (LI.mdl hs2 (hC2.le (Nat.le_succ _)) e1 e2 hM3 (pairs_kb h.2.2.2))

theorem lr_names {d L : Nat} {xs : Nat → Int32} {w : eW} {t : eT} {j i : Nat} {m : eW} {ks : kT} {rl tx : List Int} {Q : Option aV → aS → Prop} {J5 J6 J7 : aV} (h : LI L xs w t j m ks rl tx) (hi : i + 4 ≤ L) (hL : L ≤ 2048) (hj : j ≤ 600) (hn : Nx d L xs j Q i) : Ev (d + 120) 272 Q 223 [rA 0, rA 1, rA 67, rA 100, (0, (i : Int)), J5, J6, J7] [] (enc w t) := by
  have wf := h.2.2.1.wf
  have hl : ((t.1 0).2 : Int) = (L : Int) := by rw [h.1.2]
  have hb : (1063745, j).2 + 1 < 1000000000 := by show j + 1 < 1000000000; omega
  refine g_lA127 ?_
  refine ((Cl.up (k_names (d := 0) h.2.1 wf.1 wf.2.2.1) (by omega)).r0).mono ?_
  rintro _ _ ⟨⟨w2, t2, rfl, rfl, h67, hC2⟩, r0⟩
  obtain ⟨hs2, e0, hM⟩ := h.cls h67 r0
  have hl2 : ((t2.1 0).2 : Int) = (L : Int) := by rw [hs2.2]
  refine ⟨fun _ h9 => (by cases h9), ?_⟩
  refine g_lB127 ?_
  refine (Cl.up (n_names (d := 0) hM) (by omega)).mono ?_
  rintro _ _ ⟨w3, rfl, rfl, e1, e2, hM3⟩
  refine ⟨fun _ h9 => (by cases h9), g_lC127 ⟨fun _ => ?_, fun h9 => absurd rfl h9⟩⟩
  exact hn w3 t2 _ _ _ _ _ _ _ (LI.mdl hs2 (hC2.le (Nat.le_succ _)) e1 e2 hM3 (by rw [nP_names]; exact h.2.2.2))

theorem lr_rule {d L : Nat} {xs : Nat → Int32} {w : eW} {t : eT} {j i : Nat} {m : eW} {ks : kT} {rl tx : List Int} {Q : Option aV → aS → Prop} {J5 J6 J7 : aV} (h : LI L xs w t j m ks rl tx) (hi : i + 4 ≤ L) (hL : L ≤ 2048) (hj : j ≤ 600) (hn : Nx d L xs j Q i) : Ev (d + 120) 272 Q 236 [rA 0, rA 1, rA 67, rA 100, (0, (i : Int)), J5, J6, J7] [] (enc w t) := by
  have wf := h.2.2.1.wf
  have hl : ((t.1 0).2 : Int) = (L : Int) := by rw [h.1.2]
  have hb : (1063745, j).2 + 1 < 1000000000 := by show j + 1 < 1000000000; omega
  obtain ⟨_, _, _, _, _, _, _, hM2⟩ := (n_rule (d := 0) (t := t) h.2.2.1).ex
  have hw2 : WFp (ruleM tx m) ∧ WFr (ruleM tx m) := ⟨hM2.wf.1, hM2.wf.2.1⟩
  refine g_lA129 ?_
  refine ((Cl.up (k_rule (d := 0) h.2.1 wf.1 wf.2.2.1 wf.2.1 hw2) (by omega)).r0).mono ?_
  rintro _ _ ⟨⟨w2, t2, rfl, rfl, h67, hC2⟩, r0⟩
  obtain ⟨hs2, e0, hM⟩ := h.cls h67 r0
  have hl2 : ((t2.1 0).2 : Int) = (L : Int) := by rw [hs2.2]
  refine ⟨fun _ h9 => (by cases h9), ?_⟩
  refine g_lB129 ?_
  refine (Cl.up (n_rule (d := 0) hM) (by omega)).mono ?_
  rintro _ _ ⟨w3, rfl, rfl, e1, e2, hM3⟩
  refine ⟨fun _ h9 => (by cases h9), g_lC129 ⟨fun _ => ?_, fun h9 => absurd rfl h9⟩⟩
  exact hn w3 t2 _ _ _ _ _ _ _ (LI.mdl hs2 (hC2.le (Nat.le_succ _)) e1 e2 hM3 (by rw [nP_rule]; exact h.2.2.2))

theorem lr_drops {d L : Nat} {xs : Nat → Int32} {w : eW} {t : eT} {j i : Nat} {m : eW} {ks : kT} {rl tx : List Int} {Q : Option aV → aS → Prop} {J5 J6 J7 : aV} (h : LI L xs w t j m ks rl tx) (hi : i + 4 ≤ L) (hL : L ≤ 2048) (hj : j ≤ 600) (hn : Nx d L xs j Q i) : Ev (d + 120) 272 Q 249 [rA 0, rA 1, rA 67, rA 100, (0, (i : Int)), J5, J6, J7] [] (enc w t) := by
  have wf := h.2.2.1.wf
  have hl : ((t.1 0).2 : Int) = (L : Int) := by rw [h.1.2]
  have hb : (1063745, j).2 + 1 < 1000000000 := by show j + 1 < 1000000000; omega
  have s1 : w32 ((i : Int) + 1) = ((i + 1 : Nat) : Int) := by rw [w32_id (by omega)]; rfl
  have ok1 := h.ok (i + 1)
  refine g_lA131 ?_
  rw [s1, hl, show (((i + 1 : Nat) : Int)).toNat = i + 1 from Int.toNat_natCast _]
  refine ⟨⟨by omega, by omega⟩, ?_⟩
  refine ((Cl.up (k_drops (d := 0) h.2.1 ok1 wf.1 wf.2.1) (by omega)).r0).mono ?_
  rintro _ _ ⟨⟨w2, t2, rfl, rfl, h67, hC2⟩, r0⟩
  obtain ⟨hs2, e0, hM⟩ := h.cls h67 r0
  have hl2 : ((t2.1 0).2 : Int) = (L : Int) := by rw [hs2.2]
  refine ⟨fun _ h9 => (by cases h9), ?_⟩
  refine g_lB131 ?_
  rw [s1, hl2, show (((i + 1 : Nat) : Int)).toNat = i + 1 from Int.toNat_natCast _, e0]
  refine ⟨⟨by omega, by omega⟩, ?_⟩
  refine (Cl.up (n_drops (d := 0) hM ok1) (by omega)).mono ?_
  rintro _ _ ⟨w3, rfl, rfl, e1, e2, hM3⟩
  refine ⟨fun _ h9 => (by cases h9), g_lC131 ⟨fun _ => ?_, fun h9 => absurd rfl h9⟩⟩
  exact hn w3 t2 _ _ _ _ _ _ _ (LI.mdl hs2 (hC2.le (Nat.le_succ _)) e1 e2 hM3 (by rw [nP_drops]; exact h.2.2.2))

theorem lr_entry {d L : Nat} {xs : Nat → Int32} {w : eW} {t : eT} {j i : Nat} {m : eW} {ks : kT} {rl tx : List Int} {Q : Option aV → aS → Prop} {J5 J6 J7 : aV} (h : LI L xs w t j m ks rl tx) (hi : i + 4 ≤ L) (hL : L ≤ 2048) (hj : j ≤ 600) (hn : Nx d L xs j Q i) : Ev (d + 120) 272 Q 274 [rA 0, rA 1, rA 67, rA 100, (0, (i : Int)), J5, J6, J7] [] (enc w t) := by
  have wf := h.2.2.1.wf
  have hl : ((t.1 0).2 : Int) = (L : Int) := by rw [h.1.2]
  have hb : (1063745, j).2 + 1 < 1000000000 := by show j + 1 < 1000000000; omega
  have s1 : w32 ((i : Int) + 1) = ((i + 1 : Nat) : Int) := by rw [w32_id (by omega)]; rfl
  have s2 : w32 ((i : Int) + 2) = ((i + 2 : Nat) : Int) := by rw [w32_id (by omega)]; rfl
  have ok1 := h.ok (i + 1)
  have ok2 := h.ok (i + 2)
  obtain ⟨_, _, _, _, _, _, _, hM2⟩ := (n_entry (d := 0) (t := t) h.2.2.1 ok1 ok2).ex
  have hw2 : WFe (entryM tx m (w 0 (i + 1)) (w 0 (i + 2))) := hM2.wf.2.2.2
  refine g_lA132 ?_
  rw [s1, s2, hl, show (((i + 1 : Nat) : Int)).toNat = i + 1 from Int.toNat_natCast _, show (((i + 2 : Nat) : Int)).toNat = i + 2 from Int.toNat_natCast _]
  refine ⟨⟨by omega, by omega⟩, ⟨by omega, by omega⟩, ?_⟩
  refine ((Cl.up (k_entry (d := 0) h.2.1 ok1 ok2 wf.1 wf.2.2.2 hw2) (by omega)).r0).mono ?_
  rintro _ _ ⟨⟨w2, t2, rfl, rfl, h67, hC2⟩, r0⟩
  obtain ⟨hs2, e0, hM⟩ := h.cls h67 r0
  have hl2 : ((t2.1 0).2 : Int) = (L : Int) := by rw [hs2.2]
  refine ⟨fun _ h9 => (by cases h9), ?_⟩
  refine g_lB132 ?_
  rw [s1, s2, hl2, show (((i + 1 : Nat) : Int)).toNat = i + 1 from Int.toNat_natCast _, show (((i + 2 : Nat) : Int)).toNat = i + 2 from Int.toNat_natCast _, e0]
  refine ⟨⟨by omega, by omega⟩, ⟨by omega, by omega⟩, ?_⟩
  refine (Cl.up (n_entry (d := 0) hM ok1 ok2) (by omega)).mono ?_
  rintro _ _ ⟨w3, rfl, rfl, e1, e2, hM3⟩
  refine ⟨fun _ h9 => (by cases h9), g_lC132 ⟨fun _ => ?_, fun h9 => absurd rfl h9⟩⟩
  exact hn w3 t2 _ _ _ _ _ _ _ (LI.mdl hs2 (hC2.le (Nat.le_succ _)) e1 e2 hM3 (by rw [nP_entry]; exact h.2.2.2))

theorem lr_judges {d L : Nat} {xs : Nat → Int32} {w : eW} {t : eT} {j i : Nat} {m : eW} {ks : kT} {rl tx : List Int} {Q : Option aV → aS → Prop} {J5 J6 J7 : aV} (h : LI L xs w t j m ks rl tx) (hi : i + 4 ≤ L) (hL : L ≤ 2048) (hj : j ≤ 600) (hn : Nx d L xs j Q i) : Ev (d + 120) 272 Q 311 [rA 0, rA 1, rA 67, rA 100, (0, (i : Int)), J5, J6, J7] [] (enc w t) := by
  have wf := h.2.2.1.wf
  have hl : ((t.1 0).2 : Int) = (L : Int) := by rw [h.1.2]
  have hb : (1063745, j).2 + 1 < 1000000000 := by show j + 1 < 1000000000; omega
  refine g_lA134 ?_
  refine ((Cl.up (k_judges (d := 0) h.2.1 wf.1 wf.2.1) (by omega)).r0).mono ?_
  rintro _ _ ⟨⟨w2, t2, rfl, rfl, h67, hC2⟩, r0⟩
  obtain ⟨hs2, e0, hM⟩ := h.cls h67 r0
  have hl2 : ((t2.1 0).2 : Int) = (L : Int) := by rw [hs2.2]
  refine ⟨fun _ h9 => (by cases h9), ?_⟩
  refine g_lB134 ?_
  refine (Cl.up (n_judges (d := 0) hM) (by omega)).mono ?_
  rintro _ _ ⟨w3, rfl, rfl, e1, e2, hM3⟩
  refine ⟨fun _ h9 => (by cases h9), g_lC134 ⟨fun _ => ?_, fun h9 => absurd rfl h9⟩⟩
  exact hn w3 t2 _ _ _ _ _ _ _ (LI.mdl hs2 (hC2.le (Nat.le_succ _)) e1 e2 hM3 h.2.2.2)

theorem lr_rows {d L : Nat} {xs : Nat → Int32} {w : eW} {t : eT} {j i : Nat} {m : eW} {ks : kT} {rl tx : List Int} {Q : Option aV → aS → Prop} {J5 J6 J7 : aV} (h : LI L xs w t j m ks rl tx) (hi : i + 4 ≤ L) (hL : L ≤ 2048) (hj : j ≤ 600) (hn : Nx d L xs j Q i) : Ev (d + 120) 272 Q 324 [rA 0, rA 1, rA 67, rA 100, (0, (i : Int)), J5, J6, J7] [] (enc w t) := by
  have wf := h.2.2.1.wf
  have hl : ((t.1 0).2 : Int) = (L : Int) := by rw [h.1.2]
  have hb : (1063745, j).2 + 1 < 1000000000 := by show j + 1 < 1000000000; omega
  have s1 : w32 ((i : Int) + 1) = ((i + 1 : Nat) : Int) := by rw [w32_id (by omega)]; rfl
  have ok1 := h.ok (i + 1)
  refine g_lA139 ?_
  rw [s1, hl, show (((i + 1 : Nat) : Int)).toNat = i + 1 from Int.toNat_natCast _]
  refine ⟨⟨by omega, by omega⟩, ?_⟩
  refine ((Cl.up (k_rows (d := 0) h.2.1 ok1 wf.1 wf.2.1 hb) (by omega)).r0).mono ?_
  rintro _ _ ⟨⟨w2, t2, rfl, rfl, h67, hC2⟩, r0⟩
  obtain ⟨hs2, e0, hM⟩ := h.cls h67 r0
  have hl2 : ((t2.1 0).2 : Int) = (L : Int) := by rw [hs2.2]
  refine ⟨fun _ h9 => (by cases h9), ?_⟩
  refine g_lB139 ?_
  rw [s1, hl2, show (((i + 1 : Nat) : Int)).toNat = i + 1 from Int.toNat_natCast _, e0]
  refine ⟨⟨by omega, by omega⟩, ?_⟩
  refine (Cl.up (n_rows (d := 0) hM ok1) (by omega)).mono ?_
  rintro _ _ ⟨w3, rfl, rfl, e1, e2, hM3⟩
  refine ⟨fun _ h9 => (by cases h9), g_lC139 ⟨fun _ => ?_, fun h9 => absurd rfl h9⟩⟩
  exact hn w3 t2 _ _ _ _ _ _ _ (LI.mdl hs2 (hC2) e1 e2 hM3 h.2.2.2)

theorem lr_holds {d L : Nat} {xs : Nat → Int32} {w : eW} {t : eT} {j i : Nat} {m : eW} {ks : kT} {rl tx : List Int} {Q : Option aV → aS → Prop} {J5 J6 J7 : aV} (h : LI L xs w t j m ks rl tx) (hi : i + 4 ≤ L) (hL : L ≤ 2048) (hj : j ≤ 600) (hn : Nx d L xs j Q i) : Ev (d + 120) 272 Q 350 [rA 0, rA 1, rA 67, rA 100, (0, (i : Int)), J5, J6, J7] [] (enc w t) := by
  have wf := h.2.2.1.wf
  have hl : ((t.1 0).2 : Int) = (L : Int) := by rw [h.1.2]
  have hb : (1063745, j).2 + 1 < 1000000000 := by show j + 1 < 1000000000; omega
  have s1 : w32 ((i : Int) + 1) = ((i + 1 : Nat) : Int) := by rw [w32_id (by omega)]; rfl
  have ok1 := h.ok (i + 1)
  refine g_lA140 ?_
  rw [s1, hl, show (((i + 1 : Nat) : Int)).toNat = i + 1 from Int.toNat_natCast _]
  refine ⟨⟨by omega, by omega⟩, ?_⟩
  refine ((Cl.up (k_holds (d := 0) h.2.1 ok1 wf.1 wf.2.1 hb) (by omega)).r0).mono ?_
  rintro _ _ ⟨⟨w2, t2, rfl, rfl, h67, hC2⟩, r0⟩
  obtain ⟨hs2, e0, hM⟩ := h.cls h67 r0
  have hl2 : ((t2.1 0).2 : Int) = (L : Int) := by rw [hs2.2]
  refine ⟨fun _ h9 => (by cases h9), ?_⟩
  refine g_lB140 ?_
  rw [s1, hl2, show (((i + 1 : Nat) : Int)).toNat = i + 1 from Int.toNat_natCast _, e0]
  refine ⟨⟨by omega, by omega⟩, ?_⟩
  refine (Cl.up (n_holds (d := 0) hM ok1) (by omega)).mono ?_
  rintro _ _ ⟨w3, rfl, rfl, e1, e2, hM3⟩
  refine ⟨fun _ h9 => (by cases h9), g_lC140 ⟨fun _ => ?_, fun h9 => absurd rfl h9⟩⟩
  exact hn w3 t2 _ _ _ _ _ _ _ (LI.mdl hs2 (hC2) e1 e2 hM3 (holdsK_kb h.2.2.2))

theorem lr_never {d L : Nat} {xs : Nat → Int32} {w : eW} {t : eT} {j i : Nat} {m : eW} {ks : kT} {rl tx : List Int} {Q : Option aV → aS → Prop} {J5 J6 J7 : aV} (h : LI L xs w t j m ks rl tx) (hi : i + 4 ≤ L) (hL : L ≤ 2048) (hj : j ≤ 600) (hn : Nx d L xs j Q i) : Ev (d + 120) 272 Q 375 [rA 0, rA 1, rA 67, rA 100, (0, (i : Int)), J5, J6, J7] [] (enc w t) := by
  have wf := h.2.2.1.wf
  have hl : ((t.1 0).2 : Int) = (L : Int) := by rw [h.1.2]
  have hb : (1063745, j).2 + 1 < 1000000000 := by show j + 1 < 1000000000; omega
  refine g_lA141 ?_
  refine ((Cl.up (k_never (d := 0) h.2.1 wf.1 wf.2.1) (by omega)).r0).mono ?_
  rintro _ _ ⟨⟨w2, t2, rfl, rfl, h67, hC2⟩, r0⟩
  obtain ⟨hs2, e0, hM⟩ := h.cls h67 r0
  have hl2 : ((t2.1 0).2 : Int) = (L : Int) := by rw [hs2.2]
  refine ⟨fun _ h9 => (by cases h9), ?_⟩
  refine g_lB141 ?_
  refine (Cl.up (n_never (d := 0) hM) (by omega)).mono ?_
  rintro _ _ ⟨w3, rfl, rfl, e1, e2, hM3⟩
  refine ⟨fun _ h9 => (by cases h9), g_lC141 ⟨fun _ => ?_, fun h9 => absurd rfl h9⟩⟩
  exact hn w3 t2 _ _ _ _ _ _ _ (LI.mdl hs2 (hC2.le (Nat.le_succ _)) e1 e2 hM3 h.2.2.2)

theorem lr_conflict {d L : Nat} {xs : Nat → Int32} {w : eW} {t : eT} {j i : Nat} {m : eW} {ks : kT} {rl tx : List Int} {Q : Option aV → aS → Prop} {J5 J6 J7 : aV} (h : LI L xs w t j m ks rl tx) (hi : i + 4 ≤ L) (hL : L ≤ 2048) (hj : j ≤ 600) (hn : Nx d L xs j Q i) : Ev (d + 120) 272 Q 388 [rA 0, rA 1, rA 67, rA 100, (0, (i : Int)), J5, J6, J7] [] (enc w t) := by
  have wf := h.2.2.1.wf
  have hl : ((t.1 0).2 : Int) = (L : Int) := by rw [h.1.2]
  have hb : (1063745, j).2 + 1 < 1000000000 := by show j + 1 < 1000000000; omega
  have s1 : w32 ((i : Int) + 1) = ((i + 1 : Nat) : Int) := by rw [w32_id (by omega)]; rfl
  have s2 : w32 ((i : Int) + 2) = ((i + 2 : Nat) : Int) := by rw [w32_id (by omega)]; rfl
  have ok1 := h.ok (i + 1)
  have ok2 := h.ok (i + 2)
  refine g_lA142 ?_
  rw [s1, s2, hl, show (((i + 1 : Nat) : Int)).toNat = i + 1 from Int.toNat_natCast _, show (((i + 2 : Nat) : Int)).toNat = i + 2 from Int.toNat_natCast _]
  refine ⟨⟨by omega, by omega⟩, ⟨by omega, by omega⟩, ?_⟩
  refine ((Cl.up (k_conflict (d := 0) h.2.1 wf.1 wf.2.1 ok1 ok2) (by omega)).r0).mono ?_
  rintro _ _ ⟨⟨w2, t2, rfl, rfl, h67, hC2⟩, r0⟩
  obtain ⟨hs2, e0, hM⟩ := h.cls h67 r0
  have hl2 : ((t2.1 0).2 : Int) = (L : Int) := by rw [hs2.2]
  refine ⟨fun _ h9 => (by cases h9), ?_⟩
  refine g_lB142 ?_
  rw [s1, s2, hl2, show (((i + 1 : Nat) : Int)).toNat = i + 1 from Int.toNat_natCast _, show (((i + 2 : Nat) : Int)).toNat = i + 2 from Int.toNat_natCast _, e0]
  refine ⟨⟨by omega, by omega⟩, ⟨by omega, by omega⟩, ?_⟩
  refine (Cl.up (n_conflict (d := 0) hM ok1 ok2) (by omega)).mono ?_
  rintro _ _ ⟨w3, rfl, rfl, e1, e2, hM3⟩
  refine ⟨fun _ h9 => (by cases h9), g_lC142 ⟨fun _ => ?_, fun h9 => absurd rfl h9⟩⟩
  exact hn w3 t2 _ _ _ _ _ _ _ (LI.mdl hs2 (hC2.le (Nat.le_succ _)) e1 e2 hM3 (conK_kb h.2.2.2))

theorem lr_conflicts {d L : Nat} {xs : Nat → Int32} {w : eW} {t : eT} {j i : Nat} {m : eW} {ks : kT} {rl tx : List Int} {Q : Option aV → aS → Prop} {J5 J6 J7 : aV} (h : LI L xs w t j m ks rl tx) (hi : i + 4 ≤ L) (hL : L ≤ 2048) (hj : j ≤ 600) (hn : Nx d L xs j Q i) : Ev (d + 120) 272 Q 425 [rA 0, rA 1, rA 67, rA 100, (0, (i : Int)), J5, J6, J7] [] (enc w t) := by
  have wf := h.2.2.1.wf
  have hl : ((t.1 0).2 : Int) = (L : Int) := by rw [h.1.2]
  have hb : (1063745, j).2 + 1 < 1000000000 := by show j + 1 < 1000000000; omega
  refine g_lA143 ?_
  refine ((Cl.up (k_conflicts (d := 0) h.2.1 wf.1 wf.2.1) (by omega)).r0).mono ?_
  rintro _ _ ⟨⟨w2, t2, rfl, rfl, h67, hC2⟩, r0⟩
  obtain ⟨hs2, e0, hM⟩ := h.cls h67 r0
  have hl2 : ((t2.1 0).2 : Int) = (L : Int) := by rw [hs2.2]
  refine ⟨fun _ h9 => (by cases h9), ?_⟩
  refine g_lB143 ?_
  refine (Cl.up (n_conflicts (d := 0) hM) (by omega)).mono ?_
  rintro _ _ ⟨w3, rfl, rfl, e1, e2, hM3⟩
  refine ⟨fun _ h9 => (by cases h9), g_lC143 ⟨fun _ => ?_, fun h9 => absurd rfl h9⟩⟩
  exact hn w3 t2 _ _ _ _ _ _ _ (LI.mdl hs2 (hC2.le (Nat.le_succ _)) e1 e2 hM3 h.2.2.2)

theorem lr_spells {d L : Nat} {xs : Nat → Int32} {w : eW} {t : eT} {j i : Nat} {m : eW} {ks : kT} {rl tx : List Int} {Q : Option aV → aS → Prop} {J5 J6 J7 : aV} (h : LI L xs w t j m ks rl tx) (hi : i + 4 ≤ L) (hL : L ≤ 2048) (hj : j ≤ 600) (hn : Nx d L xs j Q i) : Ev (d + 120) 272 Q 438 [rA 0, rA 1, rA 67, rA 100, (0, (i : Int)), J5, J6, J7] [] (enc w t) := by
  have wf := h.2.2.1.wf
  have hl : ((t.1 0).2 : Int) = (L : Int) := by rw [h.1.2]
  have hb : (1063745, j).2 + 1 < 1000000000 := by show j + 1 < 1000000000; omega
  refine g_lA144 ?_
  refine ((Cl.up (k_spells (d := 0) h.2.1 wf.1 wf.2.1 hb) (by omega)).r0).mono ?_
  rintro _ _ ⟨⟨w2, t2, rfl, rfl, h67, hC2⟩, r0⟩
  obtain ⟨hs2, e0, hM⟩ := h.cls h67 r0
  have hl2 : ((t2.1 0).2 : Int) = (L : Int) := by rw [hs2.2]
  refine ⟨fun _ h9 => (by cases h9), ?_⟩
  refine g_lB144 ?_
  refine (Cl.up (n_spells (d := 0) hM) (by omega)).mono ?_
  rintro _ _ ⟨w3, rfl, rfl, e1, e2, hM3⟩
  refine ⟨fun _ h9 => (by cases h9), g_lC144 ⟨fun _ => ?_, fun h9 => absurd rfl h9⟩⟩
  exact hn w3 t2 _ _ _ _ _ _ _ (LI.mdl hs2 (hC2) e1 e2 hM3 (spellsK_kb h.2.2.2))

theorem lr_reads {d L : Nat} {xs : Nat → Int32} {w : eW} {t : eT} {j i : Nat} {m : eW} {ks : kT} {rl tx : List Int} {Q : Option aV → aS → Prop} {J5 J6 J7 : aV} (h : LI L xs w t j m ks rl tx) (hi : i + 4 ≤ L) (hL : L ≤ 2048) (hj : j ≤ 600) (hn : Nx d L xs j Q i) : Ev (d + 120) 272 Q 452 [rA 0, rA 1, rA 67, rA 100, (0, (i : Int)), J5, J6, J7] [] (enc w t) := by
  have wf := h.2.2.1.wf
  have hl : ((t.1 0).2 : Int) = (L : Int) := by rw [h.1.2]
  have hb : (1063745, j).2 + 1 < 1000000000 := by show j + 1 < 1000000000; omega
  refine g_lA145 ?_
  refine ((Cl.up (k_reads (d := 0) h.2.1 wf.1 wf.2.1 hb) (by omega)).r0).mono ?_
  rintro _ _ ⟨⟨w2, t2, rfl, rfl, h67, hC2⟩, r0⟩
  obtain ⟨hs2, e0, hM⟩ := h.cls h67 r0
  have hl2 : ((t2.1 0).2 : Int) = (L : Int) := by rw [hs2.2]
  refine ⟨fun _ h9 => (by cases h9), ?_⟩
  refine g_lB145 ?_
  refine (Cl.up (n_reads (d := 0) hM) (by omega)).mono ?_
  rintro _ _ ⟨w3, rfl, rfl, e1, e2, hM3⟩
  refine ⟨fun _ h9 => (by cases h9), g_lC145 ⟨fun _ => ?_, fun h9 => absurd rfl h9⟩⟩
  exact hn w3 t2 _ _ _ _ _ _ _ (LI.mdl hs2 (hC2) e1 e2 hM3 (spellsK_kb h.2.2.2))

theorem lr_finds {d L : Nat} {xs : Nat → Int32} {w : eW} {t : eT} {j i : Nat} {m : eW} {ks : kT} {rl tx : List Int} {Q : Option aV → aS → Prop} {J5 J6 J7 : aV} (h : LI L xs w t j m ks rl tx) (hi : i + 4 ≤ L) (hL : L ≤ 2048) (hj : j ≤ 600) (hn : Nx d L xs j Q i) : Ev (d + 120) 272 Q 466 [rA 0, rA 1, rA 67, rA 100, (0, (i : Int)), J5, J6, J7] [] (enc w t) := by
  have wf := h.2.2.1.wf
  have hl : ((t.1 0).2 : Int) = (L : Int) := by rw [h.1.2]
  have hb : (1063745, j).2 + 1 < 1000000000 := by show j + 1 < 1000000000; omega
  refine g_lA146 ?_
  refine ((Cl.up (k_finds (d := 0) h.2.1 wf.1 wf.2.1 wf.2.2.2 hb) (by omega)).r0).mono ?_
  rintro _ _ ⟨⟨w2, t2, rfl, rfl, h67, hC2⟩, r0⟩
  obtain ⟨hs2, e0, hM⟩ := h.cls h67 r0
  have hl2 : ((t2.1 0).2 : Int) = (L : Int) := by rw [hs2.2]
  refine ⟨fun _ h9 => (by cases h9), ?_⟩
  refine g_lB146 ?_
  refine (Cl.up (n_finds (d := 0) hM) (by omega)).mono ?_
  rintro _ _ ⟨w3, rfl, rfl, e1, e2, hM3⟩
  refine ⟨fun _ h9 => (by cases h9), g_lC146 ⟨fun _ => ?_, fun h9 => absurd rfl h9⟩⟩
  exact hn w3 t2 _ _ _ _ _ _ _ (LI.mdl hs2 (hC2) e1 e2 hM3 (findsK_kb wf.1 wf.2.2.2 h.2.2.2))

theorem lr_closest {d L : Nat} {xs : Nat → Int32} {w : eW} {t : eT} {j i : Nat} {m : eW} {ks : kT} {rl tx : List Int} {Q : Option aV → aS → Prop} {J5 J6 J7 : aV} (h : LI L xs w t j m ks rl tx) (hi : i + 4 ≤ L) (hL : L ≤ 2048) (hj : j ≤ 600) (hn : Nx d L xs j Q i) : Ev (d + 120) 272 Q 480 [rA 0, rA 1, rA 67, rA 100, (0, (i : Int)), J5, J6, J7] [] (enc w t) := by
  have wf := h.2.2.1.wf
  have hl : ((t.1 0).2 : Int) = (L : Int) := by rw [h.1.2]
  have hb : (1063745, j).2 + 1 < 1000000000 := by show j + 1 < 1000000000; omega
  refine g_lA148 ?_
  refine ((Cl.up (k_closest (d := 0) h.2.1 wf.1 wf.2.1 hb) (by omega)).r0).mono ?_
  rintro _ _ ⟨⟨w2, t2, rfl, rfl, h67, hC2⟩, r0⟩
  obtain ⟨hs2, e0, hM⟩ := h.cls h67 r0
  have hl2 : ((t2.1 0).2 : Int) = (L : Int) := by rw [hs2.2]
  refine ⟨fun _ h9 => (by cases h9), ?_⟩
  refine g_lB148 ?_
  refine (Cl.up (n_closest (d := 0) hM) (by omega)).mono ?_
  rintro _ _ ⟨w3, rfl, rfl, e1, e2, hM3⟩
  refine ⟨fun _ h9 => (by cases h9), g_lC148 ⟨fun _ => ?_, fun h9 => absurd rfl h9⟩⟩
  exact hn w3 t2 _ _ _ _ _ _ _ (LI.mdl hs2 (hC2) e1 e2 hM3 (closestK_kb wf.1 h.2.2.2))

theorem lr_spellings {d L : Nat} {xs : Nat → Int32} {w : eW} {t : eT} {j i : Nat} {m : eW} {ks : kT} {rl tx : List Int} {Q : Option aV → aS → Prop} {J5 J6 J7 : aV} (h : LI L xs w t j m ks rl tx) (hi : i + 4 ≤ L) (hL : L ≤ 2048) (hj : j ≤ 600) (hn : Nx d L xs j Q i) : Ev (d + 120) 272 Q 493 [rA 0, rA 1, rA 67, rA 100, (0, (i : Int)), J5, J6, J7] [] (enc w t) := by
  have wf := h.2.2.1.wf
  have hl : ((t.1 0).2 : Int) = (L : Int) := by rw [h.1.2]
  have hb : (1063745, j).2 + 1 < 1000000000 := by show j + 1 < 1000000000; omega
  refine g_lA150 ?_
  refine ((Cl.up (k_spellings (d := 0) h.2.1 wf.1 wf.2.1 hb) (by omega)).r0).mono ?_
  rintro _ _ ⟨⟨w2, t2, rfl, rfl, h67, hC2⟩, r0⟩
  obtain ⟨hs2, e0, hM⟩ := h.cls h67 r0
  have hl2 : ((t2.1 0).2 : Int) = (L : Int) := by rw [hs2.2]
  refine ⟨fun _ h9 => (by cases h9), ?_⟩
  refine g_lB150 ?_
  refine (Cl.up (n_spellings (d := 0) hM) (by omega)).mono ?_
  rintro _ _ ⟨w3, rfl, rfl, e1, e2, hM3⟩
  refine ⟨fun _ h9 => (by cases h9), g_lC150 ⟨fun _ => ?_, fun h9 => absurd rfl h9⟩⟩
  exact hn w3 t2 _ _ _ _ _ _ _ (LI.mdl hs2 (hC2) e1 e2 hM3 h.2.2.2)

theorem lr_words {d L : Nat} {xs : Nat → Int32} {w : eW} {t : eT} {j i : Nat} {m : eW} {ks : kT} {rl tx : List Int} {Q : Option aV → aS → Prop} {J5 J6 J7 : aV} (h : LI L xs w t j m ks rl tx) (hi : i + 4 ≤ L) (hL : L ≤ 2048) (hj : j ≤ 600) (hn : Nx d L xs j Q i) : Ev (d + 120) 272 Q 722 [rA 0, rA 1, rA 67, rA 100, (0, (i : Int)), J5, J6, J7] [] (enc w t) := by
  have wf := h.2.2.1.wf
  have hl : ((t.1 0).2 : Int) = (L : Int) := by rw [h.1.2]
  have hb : (1063745, j).2 + 1 < 1000000000 := by show j + 1 < 1000000000; omega
  have s1 : w32 ((i : Int) + 1) = ((i + 1 : Nat) : Int) := by rw [w32_id (by omega)]; rfl
  have ok1 := h.ok (i + 1)
  refine g_lA155 ?_
  rw [s1, hl, show (((i + 1 : Nat) : Int)).toNat = i + 1 from Int.toNat_natCast _]
  refine ⟨⟨by omega, by omega⟩, ?_⟩
  refine ((Cl.up (k_words (d := 0) h.2.1 ok1 wf.2.2.2) (by omega)).r0).mono ?_
  rintro _ _ ⟨⟨w2, t2, rfl, rfl, h67, hC2⟩, r0⟩
  obtain ⟨hs2, e0, hM⟩ := h.cls h67 r0
  have hl2 : ((t2.1 0).2 : Int) = (L : Int) := by rw [hs2.2]
  refine ⟨fun _ h9 => (by cases h9), ?_⟩
  refine g_lB155 ?_
  rw [s1, hl2, show (((i + 1 : Nat) : Int)).toNat = i + 1 from Int.toNat_natCast _, e0]
  refine ⟨⟨by omega, by omega⟩, ?_⟩
  refine (Cl.up (n_words (d := 0) hM ok1) (by omega)).mono ?_
  rintro _ _ ⟨w3, rfl, rfl, e1, e2, hM3⟩
  refine ⟨fun _ h9 => (by cases h9), g_lC155 ⟨fun _ => ?_, fun h9 => absurd rfl h9⟩⟩
  exact hn w3 t2 _ _ _ _ _ _ _ (LI.mdl hs2 (hC2.le (Nat.le_succ _)) e1 e2 hM3 h.2.2.2)

theorem lr_twice {d L : Nat} {xs : Nat → Int32} {w : eW} {t : eT} {j i : Nat} {m : eW} {ks : kT} {rl tx : List Int} {Q : Option aV → aS → Prop} {J5 J6 J7 : aV} (h : LI L xs w t j m ks rl tx) (hi : i + 4 ≤ L) (hL : L ≤ 2048) (hj : j ≤ 600) (hn : Nx d L xs j Q i) : Ev (d + 120) 272 Q 748 [rA 0, rA 1, rA 67, rA 100, (0, (i : Int)), J5, J6, J7] [] (enc w t) := by
  have wf := h.2.2.1.wf
  have hl : ((t.1 0).2 : Int) = (L : Int) := by rw [h.1.2]
  have hb : (1063745, j).2 + 1 < 1000000000 := by show j + 1 < 1000000000; omega
  have s1 : w32 ((i : Int) + 1) = ((i + 1 : Nat) : Int) := by rw [w32_id (by omega)]; rfl
  have ok1 := h.ok (i + 1)
  refine g_lA156 ?_
  rw [s1, hl, show (((i + 1 : Nat) : Int)).toNat = i + 1 from Int.toNat_natCast _]
  refine ⟨⟨by omega, by omega⟩, ?_⟩
  refine ((Cl.up (k_twice (d := 0) h.2.1 wf.2.2.2 ok1) (by omega)).r0).mono ?_
  rintro _ _ ⟨⟨w2, t2, rfl, rfl, h67, hC2⟩, r0⟩
  obtain ⟨hs2, e0, hM⟩ := h.cls h67 r0
  have hl2 : ((t2.1 0).2 : Int) = (L : Int) := by rw [hs2.2]
  refine ⟨fun _ h9 => (by cases h9), ?_⟩
  refine g_lB156 ?_
  rw [s1, hl2, show (((i + 1 : Nat) : Int)).toNat = i + 1 from Int.toNat_natCast _, e0]
  refine ⟨⟨by omega, by omega⟩, ?_⟩
  refine (Cl.up (n_twice (d := 0) hM ok1) (by omega)).mono ?_
  rintro _ _ ⟨w3, rfl, rfl, e1, e2, hM3⟩
  refine ⟨fun _ h9 => (by cases h9), g_lC156 ⟨fun _ => ?_, fun h9 => absurd rfl h9⟩⟩
  exact hn w3 t2 _ _ _ _ _ _ _ (LI.mdl hs2 (hC2.le (Nat.le_succ _)) e1 e2 hM3 h.2.2.2)

theorem lr_entryOf {d L : Nat} {xs : Nat → Int32} {w : eW} {t : eT} {j i : Nat} {m : eW} {ks : kT} {rl tx : List Int} {Q : Option aV → aS → Prop} {J5 J6 J7 : aV} (h : LI L xs w t j m ks rl tx) (hi : i + 4 ≤ L) (hL : L ≤ 2048) (hj : j ≤ 600) (hn : Nx d L xs j Q i) : Ev (d + 120) 272 Q 773 [rA 0, rA 1, rA 67, rA 100, (0, (i : Int)), J5, J6, J7] [] (enc w t) := by
  have wf := h.2.2.1.wf
  have hl : ((t.1 0).2 : Int) = (L : Int) := by rw [h.1.2]
  have hb : (1063745, j).2 + 1 < 1000000000 := by show j + 1 < 1000000000; omega
  have s1 : w32 ((i : Int) + 1) = ((i + 1 : Nat) : Int) := by rw [w32_id (by omega)]; rfl
  have s2 : w32 ((i : Int) + 2) = ((i + 2 : Nat) : Int) := by rw [w32_id (by omega)]; rfl
  have ok1 := h.ok (i + 1)
  have ok2 := h.ok (i + 2)
  refine g_lA157 ?_
  rw [s1, s2, hl, show (((i + 1 : Nat) : Int)).toNat = i + 1 from Int.toNat_natCast _, show (((i + 2 : Nat) : Int)).toNat = i + 2 from Int.toNat_natCast _]
  refine ⟨⟨by omega, by omega⟩, ⟨by omega, by omega⟩, ?_⟩
  refine ((Cl.up (k_entryOf (d := 0) h.2.1 ok1 ok2 wf.2.2.2) (by omega)).r0).mono ?_
  rintro _ _ ⟨⟨w2, t2, rfl, rfl, h67, hC2⟩, r0⟩
  obtain ⟨hs2, e0, hM⟩ := h.cls h67 r0
  have hl2 : ((t2.1 0).2 : Int) = (L : Int) := by rw [hs2.2]
  refine ⟨fun _ h9 => (by cases h9), ?_⟩
  refine g_lB157 ?_
  rw [s1, s2, hl2, show (((i + 1 : Nat) : Int)).toNat = i + 1 from Int.toNat_natCast _, show (((i + 2 : Nat) : Int)).toNat = i + 2 from Int.toNat_natCast _, e0]
  refine ⟨⟨by omega, by omega⟩, ⟨by omega, by omega⟩, ?_⟩
  refine (Cl.up (n_entryOf (d := 0) hM ok1 ok2) (by omega)).mono ?_
  rintro _ _ ⟨w3, rfl, rfl, e1, e2, hM3⟩
  refine ⟨fun _ h9 => (by cases h9), g_lC157 ⟨fun _ => ?_, fun h9 => absurd rfl h9⟩⟩
  exact hn w3 t2 _ _ _ _ _ _ _ (LI.mdl hs2 (hC2.le (Nat.le_succ _)) e1 e2 hM3 h.2.2.2)

theorem lr_ruleOf {d L : Nat} {xs : Nat → Int32} {w : eW} {t : eT} {j i : Nat} {m : eW} {ks : kT} {rl tx : List Int} {Q : Option aV → aS → Prop} {J5 J6 J7 : aV} (h : LI L xs w t j m ks rl tx) (hi : i + 4 ≤ L) (hL : L ≤ 2048) (hj : j ≤ 600) (hn : Nx d L xs j Q i) : Ev (d + 120) 272 Q 811 [rA 0, rA 1, rA 67, rA 100, (0, (i : Int)), J5, J6, J7] [] (enc w t) := by
  have wf := h.2.2.1.wf
  have hl : ((t.1 0).2 : Int) = (L : Int) := by rw [h.1.2]
  have hb : (1063745, j).2 + 1 < 1000000000 := by show j + 1 < 1000000000; omega
  have s1 : w32 ((i : Int) + 1) = ((i + 1 : Nat) : Int) := by rw [w32_id (by omega)]; rfl
  have s2 : w32 ((i : Int) + 2) = ((i + 2 : Nat) : Int) := by rw [w32_id (by omega)]; rfl
  have ok1 := h.ok (i + 1)
  have ok2 := h.ok (i + 2)
  refine g_lA158 ?_
  rw [s1, s2, hl, show (((i + 1 : Nat) : Int)).toNat = i + 1 from Int.toNat_natCast _, show (((i + 2 : Nat) : Int)).toNat = i + 2 from Int.toNat_natCast _]
  refine ⟨⟨by omega, by omega⟩, ⟨by omega, by omega⟩, ?_⟩
  refine ((Cl.up (k_ruleOf (d := 0) h.2.1 ok1 ok2 wf.1 wf.2.1 hb) (by omega)).r0).mono ?_
  rintro _ _ ⟨⟨w2, t2, rfl, rfl, h67, hC2⟩, r0⟩
  obtain ⟨hs2, e0, hM⟩ := h.cls h67 r0
  have hl2 : ((t2.1 0).2 : Int) = (L : Int) := by rw [hs2.2]
  refine ⟨fun _ h9 => (by cases h9), ?_⟩
  refine g_lB158 ?_
  rw [s1, s2, hl2, show (((i + 1 : Nat) : Int)).toNat = i + 1 from Int.toNat_natCast _, show (((i + 2 : Nat) : Int)).toNat = i + 2 from Int.toNat_natCast _, e0]
  refine ⟨⟨by omega, by omega⟩, ⟨by omega, by omega⟩, ?_⟩
  refine (Cl.up (n_ruleOf (d := 0) hM ok1 ok2) (by omega)).mono ?_
  rintro _ _ ⟨w3, rfl, rfl, e1, e2, hM3⟩
  refine ⟨fun _ h9 => (by cases h9), g_lC158 ⟨fun _ => ?_, fun h9 => absurd rfl h9⟩⟩
  exact hn w3 t2 _ _ _ _ _ _ _ (LI.mdl hs2 (hC2) e1 e2 hM3 h.2.2.2)

theorem lr_count {d L : Nat} {xs : Nat → Int32} {w : eW} {t : eT} {j i : Nat} {m : eW} {ks : kT} {rl tx : List Int} {Q : Option aV → aS → Prop} {J5 J6 J7 : aV} (h : LI L xs w t j m ks rl tx) (hi : i + 4 ≤ L) (hL : L ≤ 2048) (hj : j ≤ 600) (hn : Nx d L xs j Q i) : Ev (d + 120) 272 Q 849 [rA 0, rA 1, rA 67, rA 100, (0, (i : Int)), J5, J6, J7] [] (enc w t) := by
  have wf := h.2.2.1.wf
  have hl : ((t.1 0).2 : Int) = (L : Int) := by rw [h.1.2]
  have hb : (1063745, j).2 + 1 < 1000000000 := by show j + 1 < 1000000000; omega
  have s1 : w32 ((i : Int) + 1) = ((i + 1 : Nat) : Int) := by rw [w32_id (by omega)]; rfl
  have ok1 := h.ok (i + 1)
  refine g_lA159 ?_
  rw [s1, hl, show (((i + 1 : Nat) : Int)).toNat = i + 1 from Int.toNat_natCast _]
  refine ⟨⟨by omega, by omega⟩, ?_⟩
  refine ((Cl.up (k_count (d := 0) h.2.1 ok1) (by omega)).r0).mono ?_
  rintro _ _ ⟨⟨w2, t2, rfl, rfl, h67, hC2⟩, r0⟩
  obtain ⟨hs2, e0, hM⟩ := h.cls h67 r0
  have hl2 : ((t2.1 0).2 : Int) = (L : Int) := by rw [hs2.2]
  refine ⟨fun _ h9 => (by cases h9), ?_⟩
  refine g_lB159 ?_
  rw [s1, hl2, show (((i + 1 : Nat) : Int)).toNat = i + 1 from Int.toNat_natCast _, e0]
  refine ⟨⟨by omega, by omega⟩, ?_⟩
  refine (Cl.up (n_count (d := 0) hM ok1) (by omega)).mono ?_
  rintro _ _ ⟨w3, rfl, rfl, e1, e2, hM3⟩
  refine ⟨fun _ h9 => (by cases h9), g_lC159 ⟨fun _ => ?_, fun h9 => absurd rfl h9⟩⟩
  exact hn w3 t2 _ _ _ _ _ _ _ (LI.mdl hs2 (hC2.le (Nat.le_succ _)) e1 e2 hM3 h.2.2.2)
