/-! The law: from its start to its end. -/

def m0 : eW := fun _ _ => 0
theorem m0_n : nP m0 = 0 ∧ nR m0 = 0 ∧ nE m0 = 0 ∧ nS m0 = 0 := ⟨rfl, rfl, rfl, rfl⟩
theorem st_MI (F : Nat → Nat → Int) : MI (nFL F) m0 [] [] [] := by
  obtain ⟨a1, a2, a3, a4, a5, a6, a7, a8⟩ := st_mods F
  refine ⟨⟨⟨⟨⟨by decide, by decide⟩, fun p hp => absurd hp (Nat.not_lt_zero p), fun p q hp => absurd hp (Nat.not_lt_zero p)⟩, ⟨⟨by decide, by decide⟩, fun r hr => absurd hr (Nat.not_lt_zero r)⟩, ⟨a1, fun p hp => absurd hp (Nat.not_lt_zero p)⟩, ⟨a3, fun r hr => absurd hr (Nat.not_lt_zero r)⟩⟩, ⟨⟨by decide, by decide⟩, fun e he => absurd he (Nat.not_lt_zero e)⟩, ⟨a4, fun e he => absurd he (Nat.not_lt_zero e)⟩⟩, ⟨⟨by decide, by decide⟩, fun i hi => absurd hi (Nat.not_lt_zero i)⟩, ⟨a2, fun i hi => absurd hi (Nat.not_lt_zero i)⟩, ⟨a5, by decide, fun i hi => absurd hi (Nat.not_lt_zero i)⟩, ⟨a7, by decide, fun i hi => absurd hi (Nat.not_lt_zero i)⟩, ⟨a6, by decide, (fun b hb => by cases hb), fun i hi => absurd hi (Nat.not_lt_zero i)⟩, a8⟩
theorem bts_0 (f : Nat → Bool) : bts f 0 = 0 := rfl
theorem st_CI (F : Nat → Nat → Int) (K : Nat → Nat × Nat) : CI (nFL F) (nKL K, 0, 1063745) (1063745, 0) m0 [] [] [] := by
  obtain ⟨r3, r11, r12, r46, _⟩ := st_rows F
  obtain ⟨f1, f2, f3, f4, f5, f6, f7, f8, f9, f10, f11, f12⟩ := st_flds F
  obtain ⟨⟨l1, l2⟩, l3, l4, l5, l6, l7⟩ := st_lrn F
  obtain ⟨s0, s1, s2, s3⟩ := st_sh F
  obtain ⟨⟨d1, d2, d3, d4, d5, d6⟩, d7, d8⟩ := st_dyn F
  have dk : ∀ (a kd n : Nat), 1 ≤ a → a < 102 → en_k a = (kd, n) → en_no a = true → dyK (nKL K, 0, 1063745) (a : Int) kd ∧ dyL (nKL K, 0, 1063745) (a : Int) = n := fun a kd n h1 h2 h3 h4 => by
    unfold dyK dyL
    rw [Int.toNat_natCast, if_pos ⟨h1, h2⟩, h3]
    exact ⟨⟨by omega, by show a < 102 + 0; omega, rfl, h4⟩, rfl⟩
  refine ⟨⟨⟨⟨⟨by rw [f2]; decide, by rw [f1, f2]; decide, by rw [f1]; decide, fun j _ => by rw [r3]; decide⟩, f1, fun i hi => absurd hi (Nat.not_lt_zero i)⟩, f2⟩, ⟨f3, fun p hp => absurd hp (Nat.not_lt_zero p), fun c _ => ⟨r11 c, r12 c⟩, f5⟩, f4, fun i hi => absurd hi (Nat.not_lt_zero i)⟩, ⟨⟨f6, fun r hr => absurd hr (Nat.not_lt_zero r)⟩, ⟨l1, l2⟩, fun p _ => ⟨l3 p, l4 p, l5 p, l6 p, l7 p⟩⟩, ⟨⟨f7, fun e he => absurd he (Nat.not_lt_zero e)⟩, ?_, ?_, fun g _ _ => (st_zero F).2 g, fun j _ => (st_zero F).1 j⟩, ⟨f8, by decide, fun i hi => absurd hi (Nat.not_lt_zero i)⟩, ⟨f9, by decide, fun i hi => absurd hi (Nat.not_lt_zero i)⟩, DynP_Q.mpr ⟨?_, ?_, ⟨?_, ?_, ?_⟩, Or.inl f10⟩⟩
  · intro c hc
    have h4 : c = 0 ∨ c = 1 ∨ c = 2 ∨ c = 3 := by omega
    rcases h4 with rfl | rfl | rfl | rfl
    · rw [s0]; decide
    · rw [s1]; decide
    · rw [s2]; decide
    · rw [s3]; decide
  · rintro c n _ ⟨l, hl, _⟩
    cases l with
    | nil => exact absurd hl (fun h => h)
    | cons e r => exact absurd (Ch.head hl).1 (Nat.not_lt_zero e)
  · unfold DyI dyRef
    rw [d1, d2, d3, d4, d5, d6, d7, d8]
    refine ⟨by decide, by decide, ⟨32, by decide, dk 39 21 32 (by decide) (by decide) (by decide +kernel) (by decide +kernel), dk 40 20 32 (by decide) (by decide) (by decide +kernel) (by decide +kernel), dk 41 20 32 (by decide) (by decide) (by decide +kernel) (by decide +kernel), dk 42 20 32 (by decide) (by decide) (by decide +kernel) (by decide +kernel), dk 43 20 32 (by decide) (by decide) (by decide +kernel) (by decide +kernel), dk 44 20 512 (by decide) (by decide) (by decide +kernel) (by decide +kernel)⟩, 256, by decide, ⟨4, by decide⟩, dk 46 21 256 (by decide) (by decide) (by decide +kernel) (by decide +kernel), dk 47 21 256 (by decide) (by decide) (by decide +kernel) (by decide +kernel)⟩
  · unfold RmI
    exact ⟨Nat.le_refl _, by show 1063745 ≤ 1063745 + _ + _ + _; omega⟩
  · rw [f11]; decide
  · rw [f12]
    refine ⟨by decide, by omega⟩
  · intro j _
    rw [d7, f11]
    show 0 ≤ nFL F 46 j ∧ nFL F 46 j < _
    rw [r46]; decide
def lwQ (r : Option aV) (S2 : aS) : Prop := r = some (0, 1) ∧ S2.2.2.1 ≤ 601025 ∧ S2.2.2.2 ≤ 7293034
theorem LI.fin {L : Nat} {xs : Nat → Int32} {w : eW} {t : eT} {j : Nat} {m : eW} {ks : kT} {rl tx : List Int} (h : LI L xs w t j m ks rl tx) (hj : j ≤ 600) : lwQ (some (0, 1)) (enc w t) := by
  obtain ⟨⟨_, _, ⟨R, hR, ⟨_, l1⟩, _⟩, M, hM, _, ⟨_, l7⟩, _⟩, ⟨r1, r2⟩, _⟩ := DynP_Q.mp h.2.1.2.2.2.2.2
  rw [l1, l7] at r2
  have hm : mcS R ≤ 355530 := by
    unfold mcS
    split
    · omega
    · split <;> omega
  have r1 : 1063745 + 6 * t.2.1 ≤ t.2.2 := r1
  have r2 : t.2.2 ≤ 1063745 + mcS R + 4 * M + 6 * j := r2
  refine ⟨rfl, ?_, ?_⟩
  · show 102 + t.2.1 ≤ 601025
    omega
  · show t.2.2 ≤ 7293034
    omega
theorem l_loop {d L : Nat} {xs : Nat → Int32} (hL : L ≤ 2048) : ∀ (k j : Nat) (w : eW) (t : eT) (m : eW) (ks : kT) (rl tx : List Int) (J5 J6 J7 : aV), j + k = 600 → LI L xs w t j m ks rl tx → Ev (d + 120) 272 lwQ 23 [rA 0, rA 1, rA 67, rA 100, (0, ((4 * j : Nat) : Int)), J5, J6, J7] [] (enc w t) := by
  intro k
  induction k with
  | zero =>
    intro j w t m ks rl tx J5 J6 J7 hk h
    have hl : ((t.1 0).2 : Int) = (L : Int) := by rw [h.1.2]
    refine g_lw ?_
    rw [hl, w32_id (x := (L : Int) - 4) (by omega), w32_id (x := ((4 * j : Nat) : Int)) (by omega)]
    exact ⟨fun _ => h.fin (by omega), fun h9 => by omega⟩
  | succ k ih =>
    intro j w t m ks rl tx J5 J6 J7 hk h
    have hl : ((t.1 0).2 : Int) = (L : Int) := by rw [h.1.2]
    refine g_lw ?_
    rw [hl, w32_id (x := (L : Int) - 4) (by omega), w32_id (x := ((4 * j : Nat) : Int)) (by omega)]
    refine ⟨fun _ => h.fin (by omega), fun h9 => ⟨by omega, ?_⟩⟩
    have hi : 4 * j + 4 ≤ L := by omega
    have hj : j ≤ 600 := by omega
    have hn : Nx d L xs j lwQ (4 * j) := fun w t m ks rl tx J5 J6 J7 h => by
      refine g_lwn ?_
      rw [show (((4 * j : Nat) : Int) + 4) = ((4 * (j + 1) : Nat) : Int) by omega]
      exact ih (j + 1) w t m ks rl tx J5 J6 J7 (by omega) h
    refine ⟨fun _ => lr_sign h hi hL hj hn, fun _ => lr_end h hi hL hj hn, fun _ => lr_pairs h hi hL hj hn, fun _ => lr_names h hi hL hj hn, fun _ => lr_rule h hi hL hj hn, fun _ => lr_drops h hi hL hj hn, fun _ => lr_entry h hi hL hj hn, fun _ => lr_judges h hi hL hj hn, fun _ => lr_rows h hi hL hj hn, fun _ => lr_holds h hi hL hj hn, fun _ => lr_never h hi hL hj hn, fun _ => lr_conflict h hi hL hj hn, fun _ => lr_conflicts h hi hL hj hn, fun _ => lr_spells h hi hL hj hn, fun _ => lr_reads h hi hL hj hn, fun _ => lr_finds h hi hL hj hn, fun _ => lr_closest h hi hL hj hn, fun _ => lr_spellings h hi hL hj hn, fun _ => lr_kept h hi hL hj hn, fun _ => lr_side h hi hL hj hn, fun _ => lr_word h hi hL hj hn, fun _ => lr_words h hi hL hj hn, fun _ => lr_twice h hi hL hj hn, fun _ => lr_entryOf h hi hL hj hn, fun _ => lr_ruleOf h hi hL hj hn, fun _ => lr_count h hi hL hj hn, fun _ => lr_row h hi hL hj hn, fun _ => ?_⟩
    exact hn w t m ks rl tx _ _ _ ⟨h.1, h.2.1.le (Nat.le_succ _), h.2.2⟩
theorem l_all {L : Nat} {xs : Nat → Int32} (hL : L ≤ 2048) : Ev 120 272 lwQ 0 [rA 0, (9, 0), (9, 0), (9, 0), (9, 0), (9, 0), (9, 0), (9, 0)] [] (fun a j => if a = 0 then (xs j).toInt else 0, fun _ => (23, L), 1, 0) := by
  refine k_law (d := 117) ?_
  rw [k_enc]
  have hk : nKL (fun _ => (23, L)) 0 = (23, L) := st_k0 (fun _ => (23, L))
  have h0 : ∀ k, nFL (fun a j => if a = 0 then (xs j).toInt else 0) 0 k = (xs k).toInt := fun k => by rw [(st_rows (fun a j => if a = 0 then (xs j).toInt else 0)).2.2.2.2 k]; rfl
  have hC := st_CI (fun a j => if a = 0 then (xs j).toInt else 0) (fun _ => (23, L))
  have hM := st_MI (fun a j => if a = 0 then (xs j).toInt else 0)
  rw [Nat.zero_add]
  generalize nFL (fun a j => if a = 0 then (xs j).toInt else 0) = w at *
  generalize nKL (fun _ => (23, L)) = kk at *
  exact l_loop (d := 0) hL 600 0 w (kk, 0, 1063745) m0 [] [] [] _ _ _ (by omega) ⟨⟨h0, hk⟩, hC, hM, fun x hx => by cases hx⟩
