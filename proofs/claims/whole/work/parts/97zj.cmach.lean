/-! The class: the machine: leaves. -/

theorem g_mfo {d : Nat} {Q : Option aV → aS → Prop} {w : eW} {t : eT} {s : Int} (h : ((w32 s < 0 → Q (some (0, 0)) (enc w t)) ∧ (¬ (w32 s < 0) → ((w32 (w 37 7) ≤ w32 s → Q (some (0, 0)) (enc w t)) ∧ (¬ (w32 (w 37 7) ≤ w32 s) → (dyK t (w 37 1) 21 ∧ 0 ≤ w32 s ∧ w32 s < dyL t (w 37 1)) ∧ (Q (some (0, iand (w (w 37 1).toNat (w32 s).toNat) 131071)) (enc w t))))))) : Cl (d + 1) 39 [rA 37, (0, s)] (enc w t) Q := by
  show Ev (d + 1) 39 Q 0 [rA 37, (0, s)] [] (enc w t)
  refine e_ldi (show am_cd 39 0 = (2, 1, 1, 0, []) by decide +kernel) rfl ?_
  refine e_if2 (show am_cd 39 1 = (10, 4, 25, 2, []) by decide +kernel) (fun hc => ?_) (fun hc => ?_)
  · replace h := h.1 hc
    refine e_ic (show am_cd 39 25 = (0, 26, 0, 0, []) by decide +kernel) ?_
    exact e_reti (show am_cd 39 26 = (36, 27, 0, 0, []) by decide +kernel) (by decide +kernel) h
  · replace h := h.2 hc
    refine e_ldi (show am_cd 39 4 = (2, 5, 1, 0, []) by decide +kernel) rfl ?_
    refine e_lda (v := 37) (show am_cd 39 5 = (2, 6, 0, 2, []) by decide +kernel) rfl ?_
    refine e_getf (a := 37) (tg := 0) (show am_cd 39 6 = (18, 9, 407, 0, [38]) by decide +kernel) (by decide +kernel) (by decide +kernel) rfl ?_
    refine e_cmp3 (show am_cd 39 9 = (11, 12, 25, 3, []) by decide +kernel) (fun hc => ?_) (fun hc => ?_)
    · replace h := h.1 hc
      refine e_ic (show am_cd 39 25 = (0, 26, 0, 0, []) by decide +kernel) ?_
      exact e_reti (show am_cd 39 26 = (36, 27, 0, 0, []) by decide +kernel) (by decide +kernel) h
    · replace h := h.2 hc
      refine e_lda (v := 37) (show am_cd 39 12 = (2, 13, 0, 2, []) by decide +kernel) rfl ?_
      refine e_getf (a := 37) (tg := 2) (show am_cd 39 13 = (18, 16, 401, 2, [15]) by decide +kernel) (by decide +kernel) (by decide +kernel) rfl ?_
      refine e_ldi (show am_cd 39 16 = (2, 17, 1, 0, []) by decide +kernel) rfl ?_
      refine e_laldD (show am_cd 39 17 = (22, 18, 0, 0, []) by decide +kernel) h.1 ?_
      replace h := h.2
      refine e_l2i (show am_cd 39 18 = (8, 19, 1, 0, []) by decide +kernel) ?_
      refine e_ic (show am_cd 39 19 = (0, 21, 3, 131071, [99]) by decide +kernel) ?_
      refine e_iand (show am_cd 39 21 = (5, 22, 3, 0, []) by decide +kernel) ?_
      refine e_go (show am_cd 39 22 = (12, 26, 0, 0, []) by decide +kernel) ?_
      exact e_reti (show am_cd 39 26 = (36, 27, 0, 0, []) by decide +kernel) (by decide +kernel) h

theorem g_beh {d : Nat} {Q : Option aV → aS → Prop} {w : eW} {t : eT} {s p : Int} (h : ((w32 s < 0 → Q (some (0, (-1))) (enc w t)) ∧ (¬ (w32 s < 0) → ((w32 (w 37 7) ≤ w32 s → Q (some (0, (-1))) (enc w t)) ∧ (¬ (w32 (w 37 7) ≤ w32 s) → ((w32 p < 0 → Q (some (0, (-1))) (enc w t)) ∧ (¬ (w32 p < 0) → ((w32 16 ≤ w32 p → Q (some (0, (-1))) (enc w t)) ∧ (¬ (w32 16 ≤ w32 p) → (dyK t (w 37 6) 20 ∧ 0 ≤ w32 ((s * 16) + p) ∧ w32 ((s * 16) + p) < dyL t (w 37 6)) ∧ (Q (some (0, w (w 37 6).toNat (w32 ((s * 16) + p)).toNat)) (enc w t))))))))))) : Cl (d + 1) 41 [rA 37, (0, s), (0, p)] (enc w t) Q := by
  show Ev (d + 1) 41 Q 0 [rA 37, (0, s), (0, p), (9, 0)] [] (enc w t)
  refine e_ldi (show am_cd 41 0 = (2, 1, 1, 0, []) by decide +kernel) rfl ?_
  refine e_if2 (show am_cd 41 1 = (10, 4, 26, 2, []) by decide +kernel) (fun hc => ?_) (fun hc => ?_)
  · replace h := h.1 hc
    refine e_ic (show am_cd 41 26 = (0, 27, 0, 0, []) by decide +kernel) ?_
    refine e_sti (la2 := [rA 37, (0, s), (0, p), (0, 0)]) (show am_cd 41 27 = (3, 28, 3, 0, []) by decide +kernel) rfl ?_
    refine e_ldi (show am_cd 41 28 = (2, 29, 3, 0, []) by decide +kernel) rfl ?_
    refine e_ifT (show am_cd 41 29 = (10, 32, 46, 0, []) by decide +kernel) (by decide +kernel) ?_
    refine e_ic (show am_cd 41 46 = (0, 47, 0, -1, []) by decide +kernel) ?_
    exact e_reti (show am_cd 41 47 = (36, 48, 0, 0, []) by decide +kernel) (by decide +kernel) h
  · replace h := h.2 hc
    refine e_ldi (show am_cd 41 4 = (2, 5, 1, 0, []) by decide +kernel) rfl ?_
    refine e_lda (v := 37) (show am_cd 41 5 = (2, 6, 0, 2, []) by decide +kernel) rfl ?_
    refine e_getf (a := 37) (tg := 0) (show am_cd 41 6 = (18, 9, 407, 0, [38]) by decide +kernel) (by decide +kernel) (by decide +kernel) rfl ?_
    refine e_cmp3 (show am_cd 41 9 = (11, 12, 26, 3, []) by decide +kernel) (fun hc => ?_) (fun hc => ?_)
    · replace h := h.1 hc
      refine e_ic (show am_cd 41 26 = (0, 27, 0, 0, []) by decide +kernel) ?_
      refine e_sti (la2 := [rA 37, (0, s), (0, p), (0, 0)]) (show am_cd 41 27 = (3, 28, 3, 0, []) by decide +kernel) rfl ?_
      refine e_ldi (show am_cd 41 28 = (2, 29, 3, 0, []) by decide +kernel) rfl ?_
      refine e_ifT (show am_cd 41 29 = (10, 32, 46, 0, []) by decide +kernel) (by decide +kernel) ?_
      refine e_ic (show am_cd 41 46 = (0, 47, 0, -1, []) by decide +kernel) ?_
      exact e_reti (show am_cd 41 47 = (36, 48, 0, 0, []) by decide +kernel) (by decide +kernel) h
    · replace h := h.2 hc
      refine e_ldi (show am_cd 41 12 = (2, 13, 2, 0, []) by decide +kernel) rfl ?_
      refine e_if2 (show am_cd 41 13 = (10, 16, 26, 2, []) by decide +kernel) (fun hc => ?_) (fun hc => ?_)
      · replace h := h.1 hc
        refine e_ic (show am_cd 41 26 = (0, 27, 0, 0, []) by decide +kernel) ?_
        refine e_sti (la2 := [rA 37, (0, s), (0, p), (0, 0)]) (show am_cd 41 27 = (3, 28, 3, 0, []) by decide +kernel) rfl ?_
        refine e_ldi (show am_cd 41 28 = (2, 29, 3, 0, []) by decide +kernel) rfl ?_
        refine e_ifT (show am_cd 41 29 = (10, 32, 46, 0, []) by decide +kernel) (by decide +kernel) ?_
        refine e_ic (show am_cd 41 46 = (0, 47, 0, -1, []) by decide +kernel) ?_
        exact e_reti (show am_cd 41 47 = (36, 48, 0, 0, []) by decide +kernel) (by decide +kernel) h
      · replace h := h.2 hc
        refine e_ldi (show am_cd 41 16 = (2, 17, 2, 0, []) by decide +kernel) rfl ?_
        refine e_ic (show am_cd 41 17 = (0, 19, 1, 16, []) by decide +kernel) ?_
        refine e_cmp3 (show am_cd 41 19 = (11, 22, 26, 3, []) by decide +kernel) (fun hc => ?_) (fun hc => ?_)
        · replace h := h.1 hc
          refine e_ic (show am_cd 41 26 = (0, 27, 0, 0, []) by decide +kernel) ?_
          refine e_sti (la2 := [rA 37, (0, s), (0, p), (0, 0)]) (show am_cd 41 27 = (3, 28, 3, 0, []) by decide +kernel) rfl ?_
          refine e_ldi (show am_cd 41 28 = (2, 29, 3, 0, []) by decide +kernel) rfl ?_
          refine e_ifT (show am_cd 41 29 = (10, 32, 46, 0, []) by decide +kernel) (by decide +kernel) ?_
          refine e_ic (show am_cd 41 46 = (0, 47, 0, -1, []) by decide +kernel) ?_
          exact e_reti (show am_cd 41 47 = (36, 48, 0, 0, []) by decide +kernel) (by decide +kernel) h
        · replace h := h.2 hc
          refine e_ic (show am_cd 41 22 = (0, 23, 0, 1, []) by decide +kernel) ?_
          refine e_go (show am_cd 41 23 = (12, 27, 0, 0, []) by decide +kernel) ?_
          refine e_sti (la2 := [rA 37, (0, s), (0, p), (0, 1)]) (show am_cd 41 27 = (3, 28, 3, 0, []) by decide +kernel) rfl ?_
          refine e_ldi (show am_cd 41 28 = (2, 29, 3, 0, []) by decide +kernel) rfl ?_
          refine e_ifF (show am_cd 41 29 = (10, 32, 46, 0, []) by decide +kernel) (by decide +kernel) ?_
          refine e_lda (v := 37) (show am_cd 41 32 = (2, 33, 0, 2, []) by decide +kernel) rfl ?_
          refine e_getf (a := 37) (tg := 2) (show am_cd 41 33 = (18, 36, 406, 2, [31]) by decide +kernel) (by decide +kernel) (by decide +kernel) rfl ?_
          refine e_ldi (show am_cd 41 36 = (2, 37, 1, 0, []) by decide +kernel) rfl ?_
          refine e_ic (show am_cd 41 37 = (0, 39, 1, 16, []) by decide +kernel) ?_
          refine e_imul (show am_cd 41 39 = (5, 40, 2, 0, []) by decide +kernel) ?_
          refine e_ldi (show am_cd 41 40 = (2, 41, 2, 0, []) by decide +kernel) rfl ?_
          refine e_iadd (show am_cd 41 41 = (5, 42, 0, 0, []) by decide +kernel) ?_
          refine e_ialdD (show am_cd 41 42 = (21, 43, 0, 0, []) by decide +kernel) h.1 ?_
          replace h := h.2
          refine e_go (show am_cd 41 43 = (12, 47, 0, 0, []) by decide +kernel) ?_
          exact e_reti (show am_cd 41 47 = (36, 48, 0, 0, []) by decide +kernel) (by decide +kernel) h


def RgM (w : eW) (t : eT) (N : Nat) : Prop := DyI w t ∧ w 37 7 = (N : Int) ∧ N ≤ dyL t (w 37 1) ∧ N ≤ 4369
theorem SoI.rg {w m : eW} {t : eT} {b : Nat × Nat} {N : Nat} {f : Nat → t3} {D : Nat → Nat} (h : SoI w m t b N f D) : RgM w t N := ⟨h.2.2.1.1, h.2.1.1, h.2.2.2.1, h.2.2.2.2.le h.1.2.2.1⟩
theorem i_key {k : Nat} : iand (k : Int) 131071 = ((k % 131072 : Nat) : Int) := by
  show (Int32.ofInt (k : Int) &&& Int32.ofInt 131071).toInt = _
  have hn : (Int32.ofInt (k : Int) &&& Int32.ofInt 131071).toBitVec.toNat = k % 131072 := by
    rw [Int32.toBitVec_and, BitVec.toNat_and]
    show ((BitVec.ofInt 32 (k : Int)).toNat &&& 131071) = _
    rw [BitVec.toNat_ofInt]
    show (((k : Int) % 4294967296).toNat &&& (2 ^ 17 - 1)) = _
    rw [Nat.and_two_pow_sub_one_eq_mod]
    show _ % 131072 = _
    omega
  show (Int32.ofInt (k : Int) &&& Int32.ofInt 131071).toBitVec.toInt = _
  rw [BitVec.toInt_eq_toNat_of_lt (by rw [hn]; omega), hn]
theorem ky_mf {m : eW} {g : t3} : iand ((kyG m g : Nat) : Int) 131071 = ((mfG m g : Nat) : Int) := by
  rw [i_key]
  have h3 := mfB_lt m g.1 g.2.1 g.2.2
  have : kyG m g % 131072 = mfG m g := by
    unfold kyG kyT mfG
    omega
  rw [this]
theorem c_mfoU {d : Nat} {w : eW} {t : eT} {s : Int} (h : RgM w t (w 37 7).toNat ∧ (0 : Int) ≤ s ∧ (s : Int) < w 37 7) : Cl (d + 1) 39 [rA 37, (0, s)] (enc w t) (fun r S2 => ∃ x, r = some (0, x) ∧ S2 = enc w t ∧ x = iand (mK w s.toNat) 131071) := by
  obtain ⟨⟨hD, hN, hl, hl2⟩, h1, h2⟩ := h
  obtain ⟨_, _, ⟨R, hR, ⟨k1, l1⟩, _⟩, _⟩ := hD
  refine g_mfo ?_
  rw [w32_id (x := s) (by omega), w32_id (x := w 37 7) (by omega)]
  exact ⟨fun h9 => by omega, fun _ => ⟨fun h9 => by omega, fun _ => ⟨⟨k1, by omega, by omega⟩, _, rfl, rfl, rfl⟩⟩⟩
theorem c_behU {d : Nat} {w : eW} {t : eT} {s p : Int} (h : RgM w t (w 37 7).toNat ∧ ((0 : Int) ≤ s ∧ (s : Int) < w 37 7) ∧ (0 : Int) ≤ p ∧ (p : Int) < 16) : Cl (d + 1) 41 [rA 37, (0, s), (0, p)] (enc w t) (fun r S2 => ∃ x, r = some (0, x) ∧ S2 = enc w t ∧ x = mA w s.toNat p.toNat) := by
  obtain ⟨⟨hD, hN, hl, hl2⟩, ⟨h1, h2⟩, h3, h4⟩ := h
  obtain ⟨_, _, ⟨R, hR, ⟨k1, l1⟩, _, _, _, _, k6, l6⟩, _⟩ := hD
  refine g_beh ?_
  rw [w32_id (x := s) (by omega), w32_id (x := p) (by omega), w32_id (x := w 37 7) (by omega), w32_id (x := 16) (by omega), w32_id (x := s * 16 + p) (by omega)]
  refine ⟨fun h9 => by omega, fun _ => ⟨fun h9 => by omega, fun _ => ⟨fun h9 => by omega, fun _ => ⟨fun h9 => by omega, fun _ => ⟨⟨k6, by omega, by omega⟩, _, rfl, rfl, ?_⟩⟩⟩⟩⟩
  unfold mA
  rw [show (s * 16 + p).toNat = 16 * s.toNat + p.toNat by omega]

theorem g_me {d : Nat} {Q : Option aV → aS → Prop} {w : eW} {t : eT} {s : Int} (h : (RgM w t (w 37 7).toNat ∧ (0 : Int) ≤ s ∧ (s : Int) < w 37 7) ∧ (∀ x1, (x1 = iand (mK w s.toNat) 131071) → ((w32 (iand (ishr x1 16) 1) = 0 → Q (some (0, 0)) (enc w t)) ∧ (¬ (w32 (iand (ishr x1 16) 1) = 0) → Q (some (0, 1)) (enc w t))))) : Cl (d + 2) 40 [rA 37, (0, s)] (enc w t) Q := by
  show Ev (d + 2) 40 Q 0 [rA 37, (0, s)] [] (enc w t)
  refine e_lda (v := 37) (show am_cd 40 0 = (2, 1, 0, 2, []) by decide +kernel) rfl ?_
  refine e_ldi (show am_cd 40 1 = (2, 2, 1, 0, []) by decide +kernel) rfl ?_
  refine e_cV (z := 0) (a := 37) (as := [(0, s)]) (rest := []) (show am_cd 40 2 = (40, 5, 39, 0, [58]) by decide +kernel) (by decide +kernel) rfl rfl (Nat.le_of_ble_eq_true rfl) rfl ?_
  refine Cl.mono (Cl.up (c_mfoU (d := d) h.1) (by omega)) ?_
  rintro _ _ ⟨x1, rfl, rfl, hp⟩
  refine ⟨fun _ h9 => (by cases h9), ?_⟩
  replace h := h.2 x1 hp
  show Ev _ 40 _ 5 [rA 37, (0, s)] [(0, x1)] _
  refine e_ic (show am_cd 40 5 = (0, 7, 1, 16, []) by decide +kernel) ?_
  refine e_ishr (show am_cd 40 7 = (5, 8, 7, 0, []) by decide +kernel) ?_
  refine e_ic (show am_cd 40 8 = (0, 9, 0, 1, []) by decide +kernel) ?_
  refine e_iand (show am_cd 40 9 = (5, 10, 3, 0, []) by decide +kernel) ?_
  refine e_if0 (show am_cd 40 10 = (10, 13, 17, 0, []) by decide +kernel) (fun hc => ?_) (fun hc => ?_)
  · replace h := h.1 hc
    refine e_ic (show am_cd 40 17 = (0, 18, 0, 0, []) by decide +kernel) ?_
    exact e_retz (show am_cd 40 18 = (36, 19, 0, 0, []) by decide +kernel) (by decide +kernel) (Or.inl rfl) h
  · replace h := h.2 hc
    refine e_ic (show am_cd 40 13 = (0, 14, 0, 1, []) by decide +kernel) ?_
    refine e_go (show am_cd 40 14 = (12, 18, 0, 0, []) by decide +kernel) ?_
    exact e_retz (show am_cd 40 18 = (36, 19, 0, 0, []) by decide +kernel) (by decide +kernel) (Or.inr rfl) h


theorem b_tst {x p : Nat} (hx : x < 131072) (hp : p < 32) : w32 (iand (ishr (x : Int) (p : Int)) 1) = if x.testBit p then 1 else 0 := by
  rw [i_bit (by omega) (by omega)]
  unfold bt
  rw [Int.toNat_natCast, Int.toNat_natCast]
  cases x.testBit p with
  | true => exact w32_id (by decide)
  | false => exact w32_id (by decide)
theorem c_meU {d : Nat} {w m : eW} {t : eT} {s : Int} (g : t3) (h : (RgM w t (w 37 7).toNat ∧ (0 : Int) ≤ s ∧ (s : Int) < w 37 7) ∧ mK w s.toNat = ((kyG m g : Nat) : Int)) : Cl (d + 2) 40 [rA 37, (0, s)] (enc w t) (fun r S2 => ∃ x, r = some (0, x) ∧ S2 = enc w t ∧ x = bI (isE m (-1) g.1 g.2.1 g.2.2)) := by
  refine g_me ⟨h.1, ?_⟩
  rintro x2 rfl
  have hmf : mfG m g < 131072 := mfB_lt m g.1 g.2.1 g.2.2
  have ht := mf_tb (m := m) (g := g) (p := 16) (by omega)
  rw [if_pos rfl] at ht
  rw [h.2, ky_mf, show (16 : Int) = ((16 : Nat) : Int) from rfl, b_tst hmf (by omega), ht]
  cases isE m (-1) g.1 g.2.1 g.2.2 with
  | true => exact ⟨fun h9 => absurd h9 (by decide), fun _ => ⟨_, rfl, rfl, rfl⟩⟩
  | false => exact ⟨fun _ => ⟨_, rfl, rfl, rfl⟩, fun h9 => absurd (by decide) h9⟩

