/-! The class: unlike spellings: regions. -/

theorem g_vpa {d : Nat} {Q : Option aV → aS → Prop} {w : eW} {t : eT} {s i : Int} (h : ((w32 (w 2 8) ≤ w32 i → (RgM w t (w 37 7).toNat ∧ (0 : Int) ≤ s ∧ (s : Int) < w 37 7) ∧ (∀ x1, (x1 = iand (mK w s.toNat) 131071) → Q (some (0, iand (ior 0 (w 8 8)) x1)) (enc w t))) ∧ (¬ (w32 (w 2 8) ≤ w32 i) → (0 ≤ w32 i ∧ w32 i < 6) ∧ (0 ≤ w32 (w 6 (w32 i).toNat) ∧ w32 (w 6 (w32 i).toNat) < 28) ∧ (RgM w t (w 37 7).toNat ∧ (0 : Int) ≤ s ∧ (s : Int) < w 37 7) ∧ (∀ x2, (x2 = iand (mK w s.toNat) 131071) → Q (some (0, iand (ior (w 11 (w32 (w 6 (w32 i).toNat)).toNat) (w 8 8)) x2)) (enc w t))))) : Cl (d + 2) 94 [rA 58, (0, s), (0, i)] (enc w t) Q := by
  show Ev (d + 2) 94 Q 0 [rA 58, (0, s), (0, i), (9, 0)] [] (enc w t)
  refine e_ldi (show am_cd 94 0 = (2, 1, 2, 0, []) by decide +kernel) rfl ?_
  refine e_lda (v := 58) (show am_cd 94 1 = (2, 2, 0, 2, []) by decide +kernel) rfl ?_
  refine e_getr (a := 58) (r := 2) (show am_cd 94 2 = (18, 5, 900, 2, [18]) by decide +kernel) (by decide +kernel) (by decide +kernel) rfl ?_
  refine e_getf (a := 2) (tg := 0) (show am_cd 94 5 = (18, 8, 808, 0, [70]) by decide +kernel) (by decide +kernel) (by decide +kernel) rfl ?_
  refine e_cmp3 (show am_cd 94 8 = (11, 11, 31, 3, []) by decide +kernel) (fun hc => ?_) (fun hc => ?_)
  · replace h := h.1 hc
    refine e_ic (show am_cd 94 31 = (0, 32, 0, 0, []) by decide +kernel) ?_
    refine e_sti (la2 := [rA 58, (0, s), (0, i), (0, 0)]) (show am_cd 94 32 = (3, 33, 3, 0, []) by decide +kernel) rfl ?_
    refine e_ldi (show am_cd 94 33 = (2, 34, 3, 0, []) by decide +kernel) rfl ?_
    refine e_lda (v := 58) (show am_cd 94 34 = (2, 35, 0, 2, []) by decide +kernel) rfl ?_
    refine e_getr (a := 58) (r := 8) (show am_cd 94 35 = (18, 38, 901, 2, [22]) by decide +kernel) (by decide +kernel) (by decide +kernel) rfl ?_
    refine e_getf (a := 8) (tg := 0) (show am_cd 94 38 = (18, 41, 8, 0, [88]) by decide +kernel) (by decide +kernel) (by decide +kernel) rfl ?_
    refine e_ior (show am_cd 94 41 = (5, 42, 4, 0, []) by decide +kernel) ?_
    refine e_lda (v := 58) (show am_cd 94 42 = (2, 43, 0, 2, []) by decide +kernel) rfl ?_
    refine e_getr (a := 58) (r := 37) (show am_cd 94 43 = (18, 46, 902, 2, [26]) by decide +kernel) (by decide +kernel) (by decide +kernel) rfl ?_
    refine e_ldi (show am_cd 94 46 = (2, 47, 1, 0, []) by decide +kernel) rfl ?_
    refine e_cV (z := 0) (a := 37) (as := [(0, s)]) (rest := [(0, ior 0 (w 8 8))]) (show am_cd 94 47 = (40, 50, 39, 0, [91]) by decide +kernel) (by decide +kernel) rfl rfl (Nat.le_of_ble_eq_true rfl) rfl ?_
    refine Cl.mono (Cl.up (c_mfoU (d := d) h.1) (by omega)) ?_
    rintro _ _ ⟨x1, rfl, rfl, hp⟩
    refine ⟨fun _ h9 => (by cases h9), ?_⟩
    replace h := h.2 x1 hp
    show Ev _ 94 _ 50 [rA 58, (0, s), (0, i), (0, 0)] [(0, x1), (0, ior 0 (w 8 8))] _
    refine e_iand (show am_cd 94 50 = (5, 51, 3, 0, []) by decide +kernel) ?_
    exact e_reti (show am_cd 94 51 = (36, 52, 0, 0, []) by decide +kernel) (by decide +kernel) h
  · replace h := h.2 hc
    refine e_lda (v := 58) (show am_cd 94 11 = (2, 12, 0, 2, []) by decide +kernel) rfl ?_
    refine e_getr (a := 58) (r := 8) (show am_cd 94 12 = (18, 15, 901, 2, [22]) by decide +kernel) (by decide +kernel) (by decide +kernel) rfl ?_
    refine e_getr (a := 8) (r := 11) (show am_cd 94 15 = (18, 18, 2, 2, [80]) by decide +kernel) (by decide +kernel) (by decide +kernel) rfl ?_
    refine e_lda (v := 58) (show am_cd 94 18 = (2, 19, 0, 2, []) by decide +kernel) rfl ?_
    refine e_getr (a := 58) (r := 2) (show am_cd 94 19 = (18, 22, 900, 2, [18]) by decide +kernel) (by decide +kernel) (by decide +kernel) rfl ?_
    refine e_getr (a := 2) (r := 6) (show am_cd 94 22 = (18, 25, 803, 2, [85]) by decide +kernel) (by decide +kernel) (by decide +kernel) rfl ?_
    refine e_ldi (show am_cd 94 25 = (2, 26, 2, 0, []) by decide +kernel) rfl ?_
    refine e_iald (a := 6) (n := 6) (show am_cd 94 26 = (21, 27, 0, 0, []) by decide +kernel) (by decide +kernel) (by decide +kernel) (by decide +kernel) h.1 ?_
    replace h := h.2
    refine e_iald (a := 11) (n := 28) (show am_cd 94 27 = (21, 28, 0, 0, []) by decide +kernel) (by decide +kernel) (by decide +kernel) (by decide +kernel) h.1 ?_
    replace h := h.2
    refine e_go (show am_cd 94 28 = (12, 32, 0, 0, []) by decide +kernel) ?_
    refine e_sti (la2 := [rA 58, (0, s), (0, i), (0, w 11 (w32 (w 6 (w32 i).toNat)).toNat)]) (show am_cd 94 32 = (3, 33, 3, 0, []) by decide +kernel) rfl ?_
    refine e_ldi (show am_cd 94 33 = (2, 34, 3, 0, []) by decide +kernel) rfl ?_
    refine e_lda (v := 58) (show am_cd 94 34 = (2, 35, 0, 2, []) by decide +kernel) rfl ?_
    refine e_getr (a := 58) (r := 8) (show am_cd 94 35 = (18, 38, 901, 2, [22]) by decide +kernel) (by decide +kernel) (by decide +kernel) rfl ?_
    refine e_getf (a := 8) (tg := 0) (show am_cd 94 38 = (18, 41, 8, 0, [88]) by decide +kernel) (by decide +kernel) (by decide +kernel) rfl ?_
    refine e_ior (show am_cd 94 41 = (5, 42, 4, 0, []) by decide +kernel) ?_
    refine e_lda (v := 58) (show am_cd 94 42 = (2, 43, 0, 2, []) by decide +kernel) rfl ?_
    refine e_getr (a := 58) (r := 37) (show am_cd 94 43 = (18, 46, 902, 2, [26]) by decide +kernel) (by decide +kernel) (by decide +kernel) rfl ?_
    refine e_ldi (show am_cd 94 46 = (2, 47, 1, 0, []) by decide +kernel) rfl ?_
    refine e_cV (z := 0) (a := 37) (as := [(0, s)]) (rest := [(0, ior (w 11 (w32 (w 6 (w32 i).toNat)).toNat) (w 8 8))]) (show am_cd 94 47 = (40, 50, 39, 0, [91]) by decide +kernel) (by decide +kernel) rfl rfl (Nat.le_of_ble_eq_true rfl) rfl ?_
    refine Cl.mono (Cl.up (c_mfoU (d := d) h.1) (by omega)) ?_
    rintro _ _ ⟨x2, rfl, rfl, hp⟩
    refine ⟨fun _ h9 => (by cases h9), ?_⟩
    replace h := h.2 x2 hp
    show Ev _ 94 _ 50 [rA 58, (0, s), (0, i), (0, w 11 (w32 (w 6 (w32 i).toNat)).toNat)] [(0, x2), (0, ior (w 11 (w32 (w 6 (w32 i).toNat)).toNat) (w 8 8))] _
    refine e_iand (show am_cd 94 50 = (5, 51, 3, 0, []) by decide +kernel) ?_
    exact e_reti (show am_cd 94 51 = (36, 52, 0, 0, []) by decide +kernel) (by decide +kernel) h

def VpP (m : eW) (l : List Int) (g : t3) (s i : Int) (w : eW) (t : eT) : Prop := (TlL w m l ∧ LtO l ∧ WFp m) ∧ (RgM w t (w 37 7).toNat ∧ (0 : Int) ≤ s ∧ (s : Int) < w 37 7) ∧ mK w s.toNat = ((kyG m g : Nat) : Int) ∧ 0 ≤ i ∧ i ≤ (l.length : Int)
theorem c_vpa {d : Nat} {w m : eW} {t : eT} {l : List Int} {s i : Int} (g : t3) (h : VpP m l g s i w t) : Cl (d + 2) 94 [rA 58, (0, s), (0, i)] (enc w t) (fun r S2 => ∃ x, r = some (0, x) ∧ S2 = enc w t ∧ x = ((spP m l i.toNat &&& mfG m g : Nat) : Int)) := by
  obtain ⟨⟨hT, hl, hp⟩, hrg, hk, hi1, hi2⟩ := h
  have hl6 := hl.1.2
  obtain ⟨q, rfl⟩ : ∃ q : Nat, i = (q : Int) := ⟨i.toNat, by omega⟩
  have hmf : mfG m g < 131072 := mfB_lt m g.1 g.2.1 g.2.2
  have hins := (by_lt hp 0).2.2
  have hfin : ∀ u : Nat, u < 65536 → iand (u : Int) (iand (mK w s.toNat) 131071) = ((u &&& mfG m g : Nat) : Int) := fun u hu => by
    rw [hk, ky_mf, i_and (by omega) (by omega), Int.toNat_natCast, Int.toNat_natCast]
  refine g_vpa ?_
  rw [hT.2.1, w32_id (x := (q : Int)) (by omega), w32_id (x := (l.length : Int)) (by omega), Int.toNat_natCast, hT.1.2.2.2]
  refine ⟨fun h9 => ⟨hrg, ?_⟩, fun h9 => ⟨by omega, ?_⟩⟩
  · rintro x1 rfl
    have e : ior 0 ((insB m : Nat) : Int) = ((spP m l q : Nat) : Int) := by
      unfold spP
      rw [if_neg (by omega), i_or (by omega) (by omega), Int.toNat_natCast]; rfl
    rw [e, hfin _ (by unfold spP; refine or_lt16 ?_ hins; split; exact (by_lt hp _).1; decide)]
    exact ⟨_, rfl, rfl, rfl⟩
  · obtain ⟨e1, e2⟩ := tl_cd hT hl (i := q) (by omega)
    have hu := (by_lt hp ((ltF l q).toNat + 1)).1
    rw [e1, w32_id (x := (((ltF l q).toNat + 1 : Nat) : Int)) (by omega), Int.toNat_natCast, (hT.1.2.2.1 _ e2).1]
    refine ⟨by omega, hrg, ?_⟩
    rintro x1 rfl
    have e : ior ((byU m ((ltF l q).toNat + 1) : Nat) : Int) ((insB m : Nat) : Int) = ((spP m l q : Nat) : Int) := by
      unfold spP
      rw [if_pos (by omega), i_or (by omega) (by omega), Int.toNat_natCast, Int.toNat_natCast]
    rw [e, hfin _ (by unfold spP; refine or_lt16 ?_ hins; split; exact (by_lt hp _).1; decide)]
    exact ⟨_, rfl, rfl, rfl⟩

theorem g_fl0 {d : Nat} {Q : Option aV → aS → Prop} {w : eW} {t : eT} {s i dp : Int} {m : eW} {l : List Int} {b : Nat × Nat} {P : Int → Int → Prop} (h : ((w32 s = w32 (-1) → Q (some (0, 1000)) (enc w t)) ∧ (¬ (w32 s = w32 (-1)) → ((w32 dp ≤ w32 13 → (MC P b m w t ∧ 0 ≤ (s * 7) + i ∧ (s * 7) + i < 2147483648) ∧ (∀ x1, ((x1 = -1 ∧ ¬ Fnd w t ((s * 7) + i)) ∨ (P ((s * 7) + i) x1 ∧ ∃ j, j < mM w t ∧ tF (w 45 2) (mTag w) j ∧ tK (mTag w) j = (s * 7) + i)) → ((w64 x1 < w64 0 → ((¬ w32 i = w32 (w 2 8) → ∃ g2, (VpP m l g2 s i w t) ∧ (∀ x3, (x3 = ((spP m l i.toNat &&& mfG m g2 : Nat) : Int)) → Ev (d + 5) 100 Q 87 [rA 58, (0, s), (0, i), (0, dp), (0, (s * 7) + i), (1, x1), (9, 0), (0, 1000), (0, x3), (0, 0), (9, 0), (9, 0)] [] (enc w t))) ∧ (¬ (¬ w32 i = w32 (w 2 8)) → ∃ g4, ((RgM w t (w 37 7).toNat ∧ (0 : Int) ≤ s ∧ (s : Int) < w 37 7) ∧ mK w s.toNat = ((kyG m g4 : Nat) : Int)) ∧ (∀ x5, (x5 = bI (isE m (-1) g4.1 g4.2.1 g4.2.2)) → ((w32 x5 = 0 → ∃ g6, (VpP m l g6 s i w t) ∧ (∀ x7, (x7 = ((spP m l i.toNat &&& mfG m g6 : Nat) : Int)) → Ev (d + 5) 100 Q 87 [rA 58, (0, s), (0, i), (0, dp), (0, (s * 7) + i), (1, x1), (9, 0), (0, 1000), (0, x7), (0, 0), (9, 0), (9, 0)] [] (enc w t))) ∧ (¬ (w32 x5 = 0) → ∃ g8, (VpP m l g8 s i w t) ∧ (∀ x9, (x9 = ((spP m l i.toNat &&& mfG m g8 : Nat) : Int)) → Ev (d + 5) 100 Q 87 [rA 58, (0, s), (0, i), (0, dp), (0, (s * 7) + i), (1, x1), (9, 0), (0, 0), (0, x9), (0, 0), (9, 0), (9, 0)] [] (enc w t)))))))) ∧ (¬ (w64 x1 < w64 0) → Q (some (0, x1)) (enc w t))))) ∧ (¬ (w32 dp ≤ w32 13) → Q (some (0, 1000)) (enc w t)))))) : Cl (d + 5) 100 [rA 58, (0, s), (0, i), (0, dp)] (enc w t) Q := by
  show Ev (d + 5) 100 Q 0 [rA 58, (0, s), (0, i), (0, dp), (9, 0), (9, 0), (9, 0), (9, 0), (9, 0), (9, 0), (9, 0), (9, 0)] [] (enc w t)
  refine e_ldi (show am_cd 100 0 = (2, 1, 1, 0, []) by decide +kernel) rfl ?_
  refine e_ic (show am_cd 100 1 = (0, 2, 0, -1, []) by decide +kernel) ?_
  refine e_cmp0 (show am_cd 100 2 = (11, 5, 11, 0, []) by decide +kernel) (fun hc => ?_) (fun hc => ?_)
  · replace h := h.1 hc
    refine e_ic (show am_cd 100 11 = (0, 14, 2, 1000, []) by decide +kernel) ?_
    exact e_reti (show am_cd 100 14 = (36, 15, 0, 0, []) by decide +kernel) (by decide +kernel) h
  · replace h := h.2 hc
    refine e_ldi (show am_cd 100 5 = (2, 6, 3, 0, []) by decide +kernel) rfl ?_
    refine e_ic (show am_cd 100 6 = (0, 8, 1, 13, []) by decide +kernel) ?_
    refine e_cmp5 (show am_cd 100 8 = (11, 11, 15, 5, []) by decide +kernel) (fun hc => ?_) (fun hc => ?_)
    · replace h := h.1 hc
      refine e_ldi (show am_cd 100 15 = (2, 16, 1, 0, []) by decide +kernel) rfl ?_
      refine e_ic (show am_cd 100 16 = (0, 18, 1, 7, []) by decide +kernel) ?_
      refine e_imul (show am_cd 100 18 = (5, 19, 2, 0, []) by decide +kernel) ?_
      refine e_ldi (show am_cd 100 19 = (2, 20, 2, 0, []) by decide +kernel) rfl ?_
      refine e_iadd (show am_cd 100 20 = (5, 21, 0, 0, []) by decide +kernel) ?_
      refine e_sti (la2 := [rA 58, (0, s), (0, i), (0, dp), (0, (s * 7) + i), (9, 0), (9, 0), (9, 0), (9, 0), (9, 0), (9, 0), (9, 0)]) (show am_cd 100 21 = (3, 23, 4, 0, []) by decide +kernel) rfl ?_
      refine e_lda (v := 58) (show am_cd 100 23 = (2, 24, 0, 2, []) by decide +kernel) rfl ?_
      refine e_getr (a := 58) (r := 45) (show am_cd 100 24 = (18, 27, 903, 2, [30]) by decide +kernel) (by decide +kernel) (by decide +kernel) rfl ?_
      refine e_ldi (show am_cd 100 27 = (2, 29, 4, 0, []) by decide +kernel) rfl ?_
      refine e_cV (z := 0) (a := 45) (as := [(0, (s * 7) + i)]) (rest := []) (show am_cd 100 29 = (40, 32, 46, 0, [113]) by decide +kernel) (by decide +kernel) rfl rfl (Nat.le_of_ble_eq_true rfl) rfl ?_
      refine Cl.mono (Cl.up (m_findF (P := P) (m := m) (b := b) (d := d) h.1) (by omega)) ?_
      rintro _ _ ⟨x1, rfl, rfl, hp⟩
      refine ⟨fun _ h9 => (by cases h9), ?_⟩
      replace h := h.2 x1 hp
      show Ev _ 100 _ 32 [rA 58, (0, s), (0, i), (0, dp), (0, (s * 7) + i), (9, 0), (9, 0), (9, 0), (9, 0), (9, 0), (9, 0), (9, 0)] [(1, x1)] _
      refine e_stl (la2 := [rA 58, (0, s), (0, i), (0, dp), (0, (s * 7) + i), (1, x1), (9, 0), (9, 0), (9, 0), (9, 0), (9, 0), (9, 0)]) (show am_cd 100 32 = (3, 34, 5, 1, []) by decide +kernel) rfl ?_
      refine e_ldl (show am_cd 100 34 = (2, 36, 5, 1, []) by decide +kernel) rfl ?_
      refine e_lc (show am_cd 100 36 = (1, 37, 0, 0, []) by decide +kernel) ?_
      refine e_lcb2 (show am_cd 100 37 = (9, 38, 0, 0, []) by decide +kernel) (show am_cd 100 38 = (10, 41, 45, 2, []) by decide +kernel) (fun hc => ?_) (fun hc => ?_)
      · replace h := h.1 hc
        refine e_ldi (show am_cd 100 45 = (2, 46, 2, 0, []) by decide +kernel) rfl ?_
        refine e_lda (v := 58) (show am_cd 100 46 = (2, 47, 0, 2, []) by decide +kernel) rfl ?_
        refine e_getr (a := 58) (r := 2) (show am_cd 100 47 = (18, 50, 900, 2, [18]) by decide +kernel) (by decide +kernel) (by decide +kernel) rfl ?_
        refine e_getf (a := 2) (tg := 0) (show am_cd 100 50 = (18, 53, 808, 0, [70]) by decide +kernel) (by decide +kernel) (by decide +kernel) rfl ?_
        refine e_cmp1 (show am_cd 100 53 = (11, 56, 71, 1, []) by decide +kernel) (fun hc => ?_) (fun hc => ?_)
        · replace h := h.1 hc
          refine e_ic (show am_cd 100 71 = (0, 74, 2, 1000, []) by decide +kernel) ?_
          refine e_sti (la2 := [rA 58, (0, s), (0, i), (0, dp), (0, (s * 7) + i), (1, x1), (9, 0), (0, 1000), (9, 0), (9, 0), (9, 0), (9, 0)]) (show am_cd 100 74 = (3, 76, 7, 0, []) by decide +kernel) rfl ?_
          refine e_lda (v := 58) (show am_cd 100 76 = (2, 77, 0, 2, []) by decide +kernel) rfl ?_
          refine e_ldi (show am_cd 100 77 = (2, 78, 1, 0, []) by decide +kernel) rfl ?_
          refine e_ldi (show am_cd 100 78 = (2, 79, 2, 0, []) by decide +kernel) rfl ?_
          refine e_cV (z := 0) (a := 58) (as := [(0, s), (0, i)]) (rest := []) (show am_cd 100 79 = (40, 82, 94, 0, [94]) by decide +kernel) (by decide +kernel) rfl rfl (Nat.le_of_ble_eq_true rfl) rfl ?_
          obtain ⟨g2, h⟩ := h
          refine Cl.mono (Cl.up (c_vpa (m := m) (l := l) (d := d) g2 h.1) (by omega)) ?_
          rintro _ _ ⟨x3, rfl, rfl, hp⟩
          refine ⟨fun _ h9 => (by cases h9), ?_⟩
          replace h := h.2 x3 hp
          show Ev _ 100 _ 82 [rA 58, (0, s), (0, i), (0, dp), (0, (s * 7) + i), (1, x1), (9, 0), (0, 1000), (9, 0), (9, 0), (9, 0), (9, 0)] [(0, x3)] _
          refine e_sti (la2 := [rA 58, (0, s), (0, i), (0, dp), (0, (s * 7) + i), (1, x1), (9, 0), (0, 1000), (0, x3), (9, 0), (9, 0), (9, 0)]) (show am_cd 100 82 = (3, 84, 8, 0, []) by decide +kernel) rfl ?_
          refine e_ic (show am_cd 100 84 = (0, 85, 0, 0, []) by decide +kernel) ?_
          refine e_sti (la2 := [rA 58, (0, s), (0, i), (0, dp), (0, (s * 7) + i), (1, x1), (9, 0), (0, 1000), (0, x3), (0, 0), (9, 0), (9, 0)]) (show am_cd 100 85 = (3, 87, 9, 0, []) by decide +kernel) rfl ?_
          exact h
        · replace h := h.2 hc
          refine e_lda (v := 58) (show am_cd 100 56 = (2, 57, 0, 2, []) by decide +kernel) rfl ?_
          refine e_getr (a := 58) (r := 37) (show am_cd 100 57 = (18, 60, 902, 2, [26]) by decide +kernel) (by decide +kernel) (by decide +kernel) rfl ?_
          refine e_ldi (show am_cd 100 60 = (2, 61, 1, 0, []) by decide +kernel) rfl ?_
          refine e_cV (z := 0) (a := 37) (as := [(0, s)]) (rest := []) (show am_cd 100 61 = (40, 64, 40, 0, [75]) by decide +kernel) (by decide +kernel) rfl rfl (Nat.le_of_ble_eq_true rfl) rfl ?_
          obtain ⟨g4, h⟩ := h
          refine Cl.mono (Cl.up (c_meU (m := m) (d := d) g4 h.1) (by omega)) ?_
          rintro _ _ ⟨x5, rfl, rfl, hp⟩
          refine ⟨fun _ h9 => (by cases h9), ?_⟩
          replace h := h.2 x5 hp
          show Ev _ 100 _ 64 [rA 58, (0, s), (0, i), (0, dp), (0, (s * 7) + i), (1, x1), (9, 0), (9, 0), (9, 0), (9, 0), (9, 0), (9, 0)] [(0, x5)] _
          refine e_if0 (show am_cd 100 64 = (10, 67, 71, 0, []) by decide +kernel) (fun hc => ?_) (fun hc => ?_)
          · replace h := h.1 hc
            refine e_ic (show am_cd 100 71 = (0, 74, 2, 1000, []) by decide +kernel) ?_
            refine e_sti (la2 := [rA 58, (0, s), (0, i), (0, dp), (0, (s * 7) + i), (1, x1), (9, 0), (0, 1000), (9, 0), (9, 0), (9, 0), (9, 0)]) (show am_cd 100 74 = (3, 76, 7, 0, []) by decide +kernel) rfl ?_
            refine e_lda (v := 58) (show am_cd 100 76 = (2, 77, 0, 2, []) by decide +kernel) rfl ?_
            refine e_ldi (show am_cd 100 77 = (2, 78, 1, 0, []) by decide +kernel) rfl ?_
            refine e_ldi (show am_cd 100 78 = (2, 79, 2, 0, []) by decide +kernel) rfl ?_
            refine e_cV (z := 0) (a := 58) (as := [(0, s), (0, i)]) (rest := []) (show am_cd 100 79 = (40, 82, 94, 0, [94]) by decide +kernel) (by decide +kernel) rfl rfl (Nat.le_of_ble_eq_true rfl) rfl ?_
            obtain ⟨g6, h⟩ := h
            refine Cl.mono (Cl.up (c_vpa (m := m) (l := l) (d := d) g6 h.1) (by omega)) ?_
            rintro _ _ ⟨x7, rfl, rfl, hp⟩
            refine ⟨fun _ h9 => (by cases h9), ?_⟩
            replace h := h.2 x7 hp
            show Ev _ 100 _ 82 [rA 58, (0, s), (0, i), (0, dp), (0, (s * 7) + i), (1, x1), (9, 0), (0, 1000), (9, 0), (9, 0), (9, 0), (9, 0)] [(0, x7)] _
            refine e_sti (la2 := [rA 58, (0, s), (0, i), (0, dp), (0, (s * 7) + i), (1, x1), (9, 0), (0, 1000), (0, x7), (9, 0), (9, 0), (9, 0)]) (show am_cd 100 82 = (3, 84, 8, 0, []) by decide +kernel) rfl ?_
            refine e_ic (show am_cd 100 84 = (0, 85, 0, 0, []) by decide +kernel) ?_
            refine e_sti (la2 := [rA 58, (0, s), (0, i), (0, dp), (0, (s * 7) + i), (1, x1), (9, 0), (0, 1000), (0, x7), (0, 0), (9, 0), (9, 0)]) (show am_cd 100 85 = (3, 87, 9, 0, []) by decide +kernel) rfl ?_
            exact h
          · replace h := h.2 hc
            refine e_ic (show am_cd 100 67 = (0, 68, 0, 0, []) by decide +kernel) ?_
            refine e_go (show am_cd 100 68 = (12, 74, 0, 0, []) by decide +kernel) ?_
            refine e_sti (la2 := [rA 58, (0, s), (0, i), (0, dp), (0, (s * 7) + i), (1, x1), (9, 0), (0, 0), (9, 0), (9, 0), (9, 0), (9, 0)]) (show am_cd 100 74 = (3, 76, 7, 0, []) by decide +kernel) rfl ?_
            refine e_lda (v := 58) (show am_cd 100 76 = (2, 77, 0, 2, []) by decide +kernel) rfl ?_
            refine e_ldi (show am_cd 100 77 = (2, 78, 1, 0, []) by decide +kernel) rfl ?_
            refine e_ldi (show am_cd 100 78 = (2, 79, 2, 0, []) by decide +kernel) rfl ?_
            refine e_cV (z := 0) (a := 58) (as := [(0, s), (0, i)]) (rest := []) (show am_cd 100 79 = (40, 82, 94, 0, [94]) by decide +kernel) (by decide +kernel) rfl rfl (Nat.le_of_ble_eq_true rfl) rfl ?_
            obtain ⟨g8, h⟩ := h
            refine Cl.mono (Cl.up (c_vpa (m := m) (l := l) (d := d) g8 h.1) (by omega)) ?_
            rintro _ _ ⟨x9, rfl, rfl, hp⟩
            refine ⟨fun _ h9 => (by cases h9), ?_⟩
            replace h := h.2 x9 hp
            show Ev _ 100 _ 82 [rA 58, (0, s), (0, i), (0, dp), (0, (s * 7) + i), (1, x1), (9, 0), (0, 0), (9, 0), (9, 0), (9, 0), (9, 0)] [(0, x9)] _
            refine e_sti (la2 := [rA 58, (0, s), (0, i), (0, dp), (0, (s * 7) + i), (1, x1), (9, 0), (0, 0), (0, x9), (9, 0), (9, 0), (9, 0)]) (show am_cd 100 82 = (3, 84, 8, 0, []) by decide +kernel) rfl ?_
            refine e_ic (show am_cd 100 84 = (0, 85, 0, 0, []) by decide +kernel) ?_
            refine e_sti (la2 := [rA 58, (0, s), (0, i), (0, dp), (0, (s * 7) + i), (1, x1), (9, 0), (0, 0), (0, x9), (0, 0), (9, 0), (9, 0)]) (show am_cd 100 85 = (3, 87, 9, 0, []) by decide +kernel) rfl ?_
            exact h
      · replace h := h.2 hc
        refine e_ldl (show am_cd 100 41 = (2, 43, 5, 1, []) by decide +kernel) rfl ?_
        refine e_l2i (show am_cd 100 43 = (8, 44, 1, 0, []) by decide +kernel) ?_
        exact e_reti (show am_cd 100 44 = (36, 45, 0, 0, []) by decide +kernel) (by decide +kernel) h
    · replace h := h.2 hc
      refine e_ic (show am_cd 100 11 = (0, 14, 2, 1000, []) by decide +kernel) ?_
      exact e_reti (show am_cd 100 14 = (36, 15, 0, 0, []) by decide +kernel) (by decide +kernel) h

theorem g_fl1 {d : Nat} {Q : Option aV → aS → Prop} {w : eW} {t : eT} {s i dp ky kn fe ft p : Int} {m : eW} {l : List Int} {b : Nat × Nat} {P : Int → Int → Prop} {J1 J2 : aV} (h : ((w32 16 ≤ w32 p → Ev (d + 5) 100 Q 188 [rA 58, (0, s), (0, i), (0, dp), (0, ky), (1, kn), (9, 0), (0, fe), (0, ft), (0, p), J1, J2] [] (enc w t)) ∧ (¬ (w32 16 ≤ w32 p) → ((w32 (ishr ft p) = 0 → Ev (d + 5) 100 Q 188 [rA 58, (0, s), (0, i), (0, dp), (0, ky), (1, kn), (9, 0), (0, fe), (0, ft), (0, p), J1, J2] [] (enc w t)) ∧ (¬ (w32 (ishr ft p) = 0) → ((w32 (iand (ishr ft p) 1) = 0 → Ev (d + 5) 100 Q 87 [rA 58, (0, s), (0, i), (0, dp), (0, ky), (1, kn), (9, 0), (0, fe), (0, ft), (0, p + 1), J1, J2] [] (enc w t)) ∧ (¬ (w32 (iand (ishr ft p) 1) = 0) → (0 ≤ w32 p ∧ w32 p < 16) ∧ ((¬ w32 (w 10 (w32 p).toNat) = 0 → Ev (d + 5) 100 Q 132 [rA 58, (0, s), (0, i), (0, dp), (0, ky), (1, kn), (9, 0), (0, fe), (0, ft), (0, p), (0, 1), J2] [] (enc w t)) ∧ (¬ (¬ w32 (w 10 (w32 p).toNat) = 0) → Ev (d + 5) 100 Q 132 [rA 58, (0, s), (0, i), (0, dp), (0, ky), (1, kn), (9, 0), (0, fe), (0, ft), (0, p), (0, 0), J2] [] (enc w t)))))))))) : Ev (d + 5) 100 Q 87 [rA 58, (0, s), (0, i), (0, dp), (0, ky), (1, kn), (9, 0), (0, fe), (0, ft), (0, p), J1, J2] [] (enc w t) := by
  refine e_ldi (show am_cd 100 87 = (2, 89, 9, 0, []) by decide +kernel) rfl ?_
  refine e_ic (show am_cd 100 89 = (0, 91, 1, 16, []) by decide +kernel) ?_
  refine e_cmp3 (show am_cd 100 91 = (11, 94, 188, 3, []) by decide +kernel) (fun hc => ?_) (fun hc => ?_)
  · replace h := h.1 hc
    exact h
  · replace h := h.2 hc
    refine e_ldi (show am_cd 100 94 = (2, 96, 8, 0, []) by decide +kernel) rfl ?_
    refine e_ldi (show am_cd 100 96 = (2, 98, 9, 0, []) by decide +kernel) rfl ?_
    refine e_ishr (show am_cd 100 98 = (5, 99, 7, 0, []) by decide +kernel) ?_
    refine e_if0 (show am_cd 100 99 = (10, 102, 188, 0, []) by decide +kernel) (fun hc => ?_) (fun hc => ?_)
    · replace h := h.1 hc
      exact h
    · replace h := h.2 hc
      refine e_ldi (show am_cd 100 102 = (2, 104, 8, 0, []) by decide +kernel) rfl ?_
      refine e_ldi (show am_cd 100 104 = (2, 106, 9, 0, []) by decide +kernel) rfl ?_
      refine e_ishr (show am_cd 100 106 = (5, 107, 7, 0, []) by decide +kernel) ?_
      refine e_ic (show am_cd 100 107 = (0, 108, 0, 1, []) by decide +kernel) ?_
      refine e_iand (show am_cd 100 108 = (5, 109, 3, 0, []) by decide +kernel) ?_
      refine e_if0 (show am_cd 100 109 = (10, 112, 182, 0, []) by decide +kernel) (fun hc => ?_) (fun hc => ?_)
      · replace h := h.1 hc
        refine e_inc (la2 := [rA 58, (0, s), (0, i), (0, dp), (0, ky), (1, kn), (9, 0), (0, fe), (0, ft), (0, p + 1), J1, J2]) (show am_cd 100 182 = (4, 185, 9, 1, []) by decide +kernel) rfl rfl ?_
        refine e_go (show am_cd 100 185 = (12, 87, 0, 0, []) by decide +kernel) ?_
        exact h
      · replace h := h.2 hc
        refine e_lda (v := 58) (show am_cd 100 112 = (2, 113, 0, 2, []) by decide +kernel) rfl ?_
        refine e_getr (a := 58) (r := 8) (show am_cd 100 113 = (18, 116, 901, 2, [22]) by decide +kernel) (by decide +kernel) (by decide +kernel) rfl ?_
        refine e_getr (a := 8) (r := 10) (show am_cd 100 116 = (18, 119, 1, 2, [98]) by decide +kernel) (by decide +kernel) (by decide +kernel) rfl ?_
        refine e_ldi (show am_cd 100 119 = (2, 121, 9, 0, []) by decide +kernel) rfl ?_
        refine e_iald (a := 10) (n := 16) (show am_cd 100 121 = (21, 122, 0, 0, []) by decide +kernel) (by decide +kernel) (by decide +kernel) (by decide +kernel) h.1 ?_
        replace h := h.2
        refine e_if1 (show am_cd 100 122 = (10, 125, 129, 1, []) by decide +kernel) (fun hc => ?_) (fun hc => ?_)
        · replace h := h.1 hc
          refine e_ic (show am_cd 100 129 = (0, 130, 0, 1, []) by decide +kernel) ?_
          refine e_sti (la2 := [rA 58, (0, s), (0, i), (0, dp), (0, ky), (1, kn), (9, 0), (0, fe), (0, ft), (0, p), (0, 1), J2]) (show am_cd 100 130 = (3, 132, 10, 0, []) by decide +kernel) rfl ?_
          exact h
        · replace h := h.2 hc
          refine e_ic (show am_cd 100 125 = (0, 126, 0, 0, []) by decide +kernel) ?_
          refine e_go (show am_cd 100 126 = (12, 130, 0, 0, []) by decide +kernel) ?_
          refine e_sti (la2 := [rA 58, (0, s), (0, i), (0, dp), (0, ky), (1, kn), (9, 0), (0, fe), (0, ft), (0, p), (0, 0), J2]) (show am_cd 100 130 = (3, 132, 10, 0, []) by decide +kernel) rfl ?_
          exact h

theorem g_fl2 {d : Nat} {Q : Option aV → aS → Prop} {w : eW} {t : eT} {s i dp ky kn fe ft p ow : Int} {m : eW} {l : List Int} {b : Nat × Nat} {P : Int → Int → Prop} {J2 : aV} (h : (AC w m ∧ WFp m ∧ ((0 : Int) ≤ p ∧ (p : Int) < 32)) ∧ (((isI m p.toNat) = false → Ev (d + 5) 100 Q 153 [rA 58, (0, s), (0, i), (0, dp), (0, ky), (1, kn), (9, 0), (0, fe), (0, ft), (0, p), (0, ow), (0, i + 1)] [] (enc w t)) ∧ ((isI m p.toNat) = true → Ev (d + 5) 100 Q 153 [rA 58, (0, s), (0, i), (0, dp), (0, ky), (1, kn), (9, 0), (0, fe), (0, ft), (0, p), (0, ow), (0, i)] [] (enc w t)))) : Ev (d + 5) 100 Q 132 [rA 58, (0, s), (0, i), (0, dp), (0, ky), (1, kn), (9, 0), (0, fe), (0, ft), (0, p), (0, ow), J2] [] (enc w t) := by
  refine e_lda (v := 58) (show am_cd 100 132 = (2, 133, 0, 2, []) by decide +kernel) rfl ?_
  refine e_getr (a := 58) (r := 8) (show am_cd 100 133 = (18, 136, 901, 2, [22]) by decide +kernel) (by decide +kernel) (by decide +kernel) rfl ?_
  refine e_ldi (show am_cd 100 136 = (2, 138, 9, 0, []) by decide +kernel) rfl ?_
  refine e_cV (z := 0) (a := 8) (as := [(0, p)]) (rest := []) (show am_cd 100 138 = (40, 141, 3, 0, [110]) by decide +kernel) (by decide +kernel) rfl rfl (Nat.le_of_ble_eq_true rfl) rfl ?_
  refine Cl.mono (Cl.up (c_isIc (d := d) h.1) (by omega)) ?_
  rintro _ _ ⟨rfl, rfl⟩
  refine ⟨fun _ h9 => (by cases h9), ?_⟩
  replace h := h.2
  show Ev _ 100 _ 141 [rA 58, (0, s), (0, i), (0, dp), (0, ky), (1, kn), (9, 0), (0, fe), (0, ft), (0, p), (0, ow), J2] [(0, bI (isI m p.toNat))] _
  refine e_ifb0 (show am_cd 100 141 = (10, 144, 148, 0, []) by decide +kernel) (fun hc => ?_) (fun hc => ?_)
  · replace h := h.1 hc
    refine e_ldi (show am_cd 100 148 = (2, 149, 2, 0, []) by decide +kernel) rfl ?_
    refine e_ic (show am_cd 100 149 = (0, 150, 0, 1, []) by decide +kernel) ?_
    refine e_iadd (show am_cd 100 150 = (5, 151, 0, 0, []) by decide +kernel) ?_
    refine e_sti (la2 := [rA 58, (0, s), (0, i), (0, dp), (0, ky), (1, kn), (9, 0), (0, fe), (0, ft), (0, p), (0, ow), (0, i + 1)]) (show am_cd 100 151 = (3, 153, 11, 0, []) by decide +kernel) rfl ?_
    exact h
  · replace h := h.2 hc
    refine e_ldi (show am_cd 100 144 = (2, 145, 2, 0, []) by decide +kernel) rfl ?_
    refine e_go (show am_cd 100 145 = (12, 151, 0, 0, []) by decide +kernel) ?_
    refine e_sti (la2 := [rA 58, (0, s), (0, i), (0, dp), (0, ky), (1, kn), (9, 0), (0, fe), (0, ft), (0, p), (0, ow), (0, i)]) (show am_cd 100 151 = (3, 153, 11, 0, []) by decide +kernel) rfl ?_
    exact h

theorem g_fl3 {d : Nat} {Q : Option aV → aS → Prop} {w : eW} {t : eT} {s i dp ky kn fe ft p ow nx : Int} {m : eW} {l : List Int} {b : Nat × Nat} {P : Int → Int → Prop} {γV : Type} {PRV : γV → Int → Int → Int → eW → eT → Prop} {POV : γV → Int → Int → Int → eW → eT → Int → eW → eT → Prop} (hrV : ∀ (g : γV) (a1 a2 a3 : Int) (w : eW) (t : eT), PRV g a1 a2 a3 w t → Cl (d + 4) 100 [rA 58, (0, a1), (0, a2), (0, a3)] (enc w t) (fun r S2 => ∃ x w2 t2, r = some (0, x) ∧ S2 = enc w2 t2 ∧ POV g a1 a2 a3 w t x w2 t2)) (h : (RgM w t (w 37 7).toNat ∧ ((0 : Int) ≤ s ∧ (s : Int) < w 37 7) ∧ (0 : Int) ≤ p ∧ (p : Int) < 16) ∧ (∀ x1, (x1 = mA w s.toNat p.toNat) → ∃ g2, (PRV g2 x1 nx (dp + 1) w t) ∧ (∀ x3 w4 t5, (POV g2 x1 nx (dp + 1) w t x3 w4 t5) → Ev (d + 5) 100 Q 87 [rA 58, (0, s), (0, i), (0, dp), (0, ky), (1, kn), (9, 0), (0, if w32 (ow + x3) < w32 fe then (ow + x3) else fe), (0, ft), (0, p + 1), (0, ow), (0, nx)] [] (enc w4 t5)))) : Ev (d + 5) 100 Q 153 [rA 58, (0, s), (0, i), (0, dp), (0, ky), (1, kn), (9, 0), (0, fe), (0, ft), (0, p), (0, ow), (0, nx)] [] (enc w t) := by
  refine e_ldi (show am_cd 100 153 = (2, 155, 7, 0, []) by decide +kernel) rfl ?_
  refine e_ldi (show am_cd 100 155 = (2, 157, 10, 0, []) by decide +kernel) rfl ?_
  refine e_lda (v := 58) (show am_cd 100 157 = (2, 158, 0, 2, []) by decide +kernel) rfl ?_
  refine e_lda (v := 58) (show am_cd 100 158 = (2, 159, 0, 2, []) by decide +kernel) rfl ?_
  refine e_getr (a := 58) (r := 37) (show am_cd 100 159 = (18, 162, 902, 2, [26]) by decide +kernel) (by decide +kernel) (by decide +kernel) rfl ?_
  refine e_ldi (show am_cd 100 162 = (2, 163, 1, 0, []) by decide +kernel) rfl ?_
  refine e_ldi (show am_cd 100 163 = (2, 165, 9, 0, []) by decide +kernel) rfl ?_
  refine e_cV (z := 0) (a := 37) (as := [(0, s), (0, p)]) (rest := [rA 58, (0, ow), (0, fe)]) (show am_cd 100 165 = (40, 168, 41, 0, [107]) by decide +kernel) (by decide +kernel) rfl rfl (Nat.le_of_ble_eq_true rfl) rfl ?_
  refine Cl.mono (Cl.up (c_behU (d := d) h.1) (by omega)) ?_
  rintro _ _ ⟨x1, rfl, rfl, hp⟩
  refine ⟨fun _ h9 => (by cases h9), ?_⟩
  replace h := h.2 x1 hp
  show Ev _ 100 _ 168 [rA 58, (0, s), (0, i), (0, dp), (0, ky), (1, kn), (9, 0), (0, fe), (0, ft), (0, p), (0, ow), (0, nx)] [(0, x1), rA 58, (0, ow), (0, fe)] _
  refine e_ldi (show am_cd 100 168 = (2, 170, 11, 0, []) by decide +kernel) rfl ?_
  refine e_ldi (show am_cd 100 170 = (2, 171, 3, 0, []) by decide +kernel) rfl ?_
  refine e_ic (show am_cd 100 171 = (0, 172, 0, 1, []) by decide +kernel) ?_
  refine e_iadd (show am_cd 100 172 = (5, 173, 0, 0, []) by decide +kernel) ?_
  refine e_cV (z := 0) (a := 58) (as := [(0, x1), (0, nx), (0, dp + 1)]) (rest := [(0, ow), (0, fe)]) (show am_cd 100 173 = (40, 176, 100, 0, [39]) by decide +kernel) (by decide +kernel) rfl rfl (Nat.le_of_ble_eq_true rfl) rfl ?_
  obtain ⟨g2, h⟩ := h
  refine Cl.mono (Cl.up (hrV g2 _ _ _ _ _ h.1) (by omega)) ?_
  rintro _ _ ⟨x3, w4, t5, rfl, rfl, hp⟩
  refine ⟨fun _ h9 => (by cases h9), ?_⟩
  replace h := h.2 x3 w4 t5 hp
  show Ev _ 100 _ 176 [rA 58, (0, s), (0, i), (0, dp), (0, ky), (1, kn), (9, 0), (0, fe), (0, ft), (0, p), (0, ow), (0, nx)] [(0, x3), (0, ow), (0, fe)] _
  refine e_iadd (show am_cd 100 176 = (5, 177, 0, 0, []) by decide +kernel) ?_
  refine e_min (z := 0) (show am_cd 100 177 = (33, 180, 10, 0, [119]) by decide +kernel) (Nat.le_of_ble_eq_true rfl) ?_
  refine e_sti (la2 := [rA 58, (0, s), (0, i), (0, dp), (0, ky), (1, kn), (9, 0), (0, if w32 (ow + x3) < w32 fe then (ow + x3) else fe), (0, ft), (0, p), (0, ow), (0, nx)]) (show am_cd 100 180 = (3, 182, 7, 0, []) by decide +kernel) rfl ?_
  refine e_inc (la2 := [rA 58, (0, s), (0, i), (0, dp), (0, ky), (1, kn), (9, 0), (0, if w32 (ow + x3) < w32 fe then (ow + x3) else fe), (0, ft), (0, p + 1), (0, ow), (0, nx)]) (show am_cd 100 182 = (4, 185, 9, 1, []) by decide +kernel) rfl rfl ?_
  refine e_go (show am_cd 100 185 = (12, 87, 0, 0, []) by decide +kernel) ?_
  exact h

theorem g_fl4 {d : Nat} {Q : Option aV → aS → Prop} {w : eW} {t : eT} {s i dp ky kn fe ft p : Int} {m : eW} {l : List Int} {b : Nat × Nat} {P : Int → Int → Prop} {J1 J2 : aV} (h : (MC P b m w t ∧ (0 ≤ ky ∧ ky < 2147483648) ∧ P ky (w32 fe) ∧ (cfW w t : Int) ≤ w 45 3 ∧ w 45 3 ≤ 32000) ∧ (∀ w1 t2, (MR w t w1 t2 ∧ MC P b m w1 t2 ∧ BkS w t w1 t2 ky) → Q (some (0, fe)) (enc w1 t2))) : Ev (d + 5) 100 Q 188 [rA 58, (0, s), (0, i), (0, dp), (0, ky), (1, kn), (9, 0), (0, fe), (0, ft), (0, p), J1, J2] [] (enc w t) := by
  refine e_lda (v := 58) (show am_cd 100 188 = (2, 189, 0, 2, []) by decide +kernel) rfl ?_
  refine e_getr (a := 58) (r := 45) (show am_cd 100 189 = (18, 192, 903, 2, [30]) by decide +kernel) (by decide +kernel) (by decide +kernel) rfl ?_
  refine e_ldi (show am_cd 100 192 = (2, 194, 4, 0, []) by decide +kernel) rfl ?_
  refine e_ldi (show am_cd 100 194 = (2, 196, 7, 0, []) by decide +kernel) rfl ?_
  refine e_i2l (show am_cd 100 196 = (8, 197, 0, 0, []) by decide +kernel) ?_
  refine e_cV (z := 0) (a := 45) (as := [(0, ky), (1, w32 fe)]) (rest := []) (show am_cd 100 197 = (40, 200, 47, 0, [124]) by decide +kernel) (by decide +kernel) rfl rfl (Nat.le_of_ble_eq_true rfl) rfl ?_
  refine Cl.mono (Cl.up (m_putF (P := P) (m := m) (b := b) (d := d) h.1) (by omega)) ?_
  rintro _ _ ⟨w1, t2, rfl, rfl, hp⟩
  refine ⟨fun _ h9 => (by cases h9), ?_⟩
  replace h := h.2 w1 t2 hp
  show Ev _ 100 _ 200 [rA 58, (0, s), (0, i), (0, dp), (0, ky), (1, kn), (9, 0), (0, fe), (0, ft), (0, p), J1, J2] [] _
  refine e_ldi (show am_cd 100 200 = (2, 202, 7, 0, []) by decide +kernel) rfl ?_
  exact e_reti (show am_cd 100 202 = (36, 203, 0, 0, []) by decide +kernel) (by decide +kernel) h
