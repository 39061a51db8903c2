/-! The class: ways and list: regions. -/

theorem g_bare {d : Nat} {Q : Option aV → aS → Prop} {w : eW} {t : eT} {s : Int} (h : ((¬ w32 (w 53 8) = w32 4 → Q (some (0, 0)) (enc w t)) ∧ (¬ (¬ w32 (w 53 8) = w32 4) → ((w32 16 ≤ w32 (idiv s 294) → Q (some (0, 0)) (enc w t)) ∧ (¬ (w32 16 ≤ w32 (idiv s 294)) → ((¬ w32 (irem (idiv s 49) 6) = 0 → Q (some (0, 0)) (enc w t)) ∧ (¬ (¬ w32 (irem (idiv s 49) 6) = 0) → Q (some (0, 1)) (enc w t)))))))) : Cl (d + 4) 149 [rA 53, (0, s)] (enc w t) Q := by
  show Ev (d + 4) 149 Q 0 [rA 53, (0, s)] [] (enc w t)
  refine e_lda (v := 53) (show am_cd 149 0 = (2, 1, 0, 2, []) by decide +kernel) rfl ?_
  refine e_getf (a := 53) (tg := 0) (show am_cd 149 1 = (18, 4, 1008, 0, [42]) by decide +kernel) (by decide +kernel) (by decide +kernel) rfl ?_
  refine e_ic (show am_cd 149 4 = (0, 5, 0, 4, []) by decide +kernel) ?_
  refine e_cmp1 (show am_cd 149 5 = (11, 8, 28, 1, []) by decide +kernel) (fun hc => ?_) (fun hc => ?_)
  · replace h := h.1 hc
    refine e_ic (show am_cd 149 28 = (0, 29, 0, 0, []) by decide +kernel) ?_
    exact e_retz (show am_cd 149 29 = (36, 30, 0, 0, []) by decide +kernel) (by decide +kernel) (Or.inl rfl) h
  · replace h := h.2 hc
    refine e_ldi (show am_cd 149 8 = (2, 9, 1, 0, []) by decide +kernel) rfl ?_
    refine e_cS (z := 0) (as := [(0, s)]) (rest := []) (show am_cd 149 9 = (40, 12, 118, 1, [107]) by decide +kernel) (by decide) rfl rfl (Nat.le_of_ble_eq_true rfl) rfl ?_
    show Ev _ 118 _ 0 [(0, s)] [] _
    refine e_ldi (show am_cd 118 0 = (2, 1, 0, 0, []) by decide +kernel) rfl ?_
    refine e_ic (show am_cd 118 1 = (0, 4, 2, 294, []) by decide +kernel) ?_
    refine e_idiv (show am_cd 118 4 = (5, 5, 9, 0, []) by decide +kernel) (by decide) ?_
    refine e_reti (show am_cd 118 5 = (36, 6, 0, 0, []) by decide +kernel) (by decide +kernel) ⟨fun _ h9 => (by cases h9), ?_⟩
    show Ev _ 149 _ 12 [rA 53, (0, s)] [(0, idiv s 294)] _
    refine e_ic (show am_cd 149 12 = (0, 14, 1, 16, []) by decide +kernel) ?_
    refine e_cmp3 (show am_cd 149 14 = (11, 17, 28, 3, []) by decide +kernel) (fun hc => ?_) (fun hc => ?_)
    · replace h := h.1 hc
      refine e_ic (show am_cd 149 28 = (0, 29, 0, 0, []) by decide +kernel) ?_
      exact e_retz (show am_cd 149 29 = (36, 30, 0, 0, []) by decide +kernel) (by decide +kernel) (Or.inl rfl) h
    · replace h := h.2 hc
      refine e_ldi (show am_cd 149 17 = (2, 18, 1, 0, []) by decide +kernel) rfl ?_
      refine e_cS (z := 0) (as := [(0, s)]) (rest := []) (show am_cd 149 18 = (40, 21, 119, 1, [110]) by decide +kernel) (by decide) rfl rfl (Nat.le_of_ble_eq_true rfl) rfl ?_
      show Ev _ 119 _ 0 [(0, s)] [] _
      refine e_ldi (show am_cd 119 0 = (2, 1, 0, 0, []) by decide +kernel) rfl ?_
      refine e_ic (show am_cd 119 1 = (0, 3, 1, 49, []) by decide +kernel) ?_
      refine e_idiv (show am_cd 119 3 = (5, 4, 9, 0, []) by decide +kernel) (by decide) ?_
      refine e_ic (show am_cd 119 4 = (0, 6, 1, 6, []) by decide +kernel) ?_
      refine e_irem (show am_cd 119 6 = (5, 7, 10, 0, []) by decide +kernel) (by decide) ?_
      refine e_reti (show am_cd 119 7 = (36, 8, 0, 0, []) by decide +kernel) (by decide +kernel) ⟨fun _ h9 => (by cases h9), ?_⟩
      show Ev _ 149 _ 21 [rA 53, (0, s)] [(0, irem (idiv s 49) 6)] _
      refine e_if1 (show am_cd 149 21 = (10, 24, 28, 1, []) by decide +kernel) (fun hc => ?_) (fun hc => ?_)
      · replace h := h.1 hc
        refine e_ic (show am_cd 149 28 = (0, 29, 0, 0, []) by decide +kernel) ?_
        exact e_retz (show am_cd 149 29 = (36, 30, 0, 0, []) by decide +kernel) (by decide +kernel) (Or.inl rfl) h
      · replace h := h.2 hc
        refine e_ic (show am_cd 149 24 = (0, 25, 0, 1, []) by decide +kernel) ?_
        refine e_go (show am_cd 149 25 = (12, 29, 0, 0, []) by decide +kernel) ?_
        exact e_retz (show am_cd 149 29 = (36, 30, 0, 0, []) by decide +kernel) (by decide +kernel) (Or.inr rfl) h

theorem c_bare {d : Nat} {w : eW} {t : eT} {s : Int} : Cl (d + 4) 149 [rA 53, (0, s)] (enc w t) (fun r S2 => ∃ x, r = some (0, x) ∧ S2 = enc w t ∧ (x = 0 ∨ x = 1)) := by
  exact g_bare ⟨fun _ => ⟨0, rfl, rfl, Or.inl rfl⟩, fun _ => ⟨fun _ => ⟨0, rfl, rfl, Or.inl rfl⟩, fun _ => ⟨fun _ => ⟨0, rfl, rfl, Or.inl rfl⟩, fun _ => ⟨1, rfl, rfl, Or.inr rfl⟩⟩⟩⟩

theorem g_wy0 {d : Nat} {Q : Option aV → aS → Prop} {w : eW} {t : eT} {st sa dp : Int} (h : ((w32 30 < w32 dp → Q (some (1, 0)) (enc w t)) ∧ (¬ (w32 30 < w32 dp) → ((w32 st = w32 (-1) → Q (some (1, 0)) (enc w t)) ∧ (¬ (w32 st = w32 (-1)) → ((¬ w32 sa = w32 (-1) → ∀ x1, (x1 = 0 ∨ x1 = 1) → ((¬ w32 x1 = 0 → Ev (d + 10) 105 Q 33 [rA 53, (0, st), (0, sa), (0, dp), (0, 0), (9, 0), (9, 0), (9, 0), (9, 0), (9, 0), (9, 0), (9, 0), (9, 0)] [] (enc w t)) ∧ (¬ (¬ w32 x1 = 0) → Ev (d + 10) 105 Q 33 [rA 53, (0, st), (0, sa), (0, dp), (0, 1), (9, 0), (9, 0), (9, 0), (9, 0), (9, 0), (9, 0), (9, 0), (9, 0)] [] (enc w t)))) ∧ (¬ (¬ w32 sa = w32 (-1)) → Q (some (1, 0)) (enc w t)))))))) : Cl (d + 10) 105 [rA 53, (0, st), (0, sa), (0, dp)] (enc w t) Q := by
  show Ev (d + 10) 105 Q 0 [rA 53, (0, st), (0, sa), (0, dp), (9, 0), (9, 0), (9, 0), (9, 0), (9, 0), (9, 0), (9, 0), (9, 0), (9, 0)] [] (enc w t)
  refine e_ldi (show am_cd 105 0 = (2, 1, 3, 0, []) by decide +kernel) rfl ?_
  refine e_ic (show am_cd 105 1 = (0, 3, 1, 30, []) by decide +kernel) ?_
  refine e_cmp4 (show am_cd 105 3 = (11, 6, 16, 4, []) by decide +kernel) (fun hc => ?_) (fun hc => ?_)
  · replace h := h.1 hc
    refine e_lc (show am_cd 105 16 = (1, 17, 0, 0, []) by decide +kernel) ?_
    exact e_retl (show am_cd 105 17 = (36, 18, 1, 0, []) by decide +kernel) (by decide +kernel) h
  · replace h := h.2 hc
    refine e_ldi (show am_cd 105 6 = (2, 7, 1, 0, []) by decide +kernel) rfl ?_
    refine e_ic (show am_cd 105 7 = (0, 8, 0, -1, []) by decide +kernel) ?_
    refine e_cmp0 (show am_cd 105 8 = (11, 11, 16, 0, []) by decide +kernel) (fun hc => ?_) (fun hc => ?_)
    · replace h := h.1 hc
      refine e_lc (show am_cd 105 16 = (1, 17, 0, 0, []) by decide +kernel) ?_
      exact e_retl (show am_cd 105 17 = (36, 18, 1, 0, []) by decide +kernel) (by decide +kernel) h
    · replace h := h.2 hc
      refine e_ldi (show am_cd 105 11 = (2, 12, 2, 0, []) by decide +kernel) rfl ?_
      refine e_ic (show am_cd 105 12 = (0, 13, 0, -1, []) by decide +kernel) ?_
      refine e_cmp1 (show am_cd 105 13 = (11, 16, 18, 1, []) by decide +kernel) (fun hc => ?_) (fun hc => ?_)
      · replace h := h.1 hc
        refine e_lda (v := 53) (show am_cd 105 18 = (2, 19, 0, 2, []) by decide +kernel) rfl ?_
        refine e_ldi (show am_cd 105 19 = (2, 20, 1, 0, []) by decide +kernel) rfl ?_
        refine e_cV (z := 0) (a := 53) (as := [(0, st)]) (rest := []) (show am_cd 105 20 = (40, 23, 149, 0, [62]) by decide +kernel) (by decide +kernel) rfl rfl (Nat.le_of_ble_eq_true rfl) rfl ?_
        refine Cl.mono (Cl.up (c_bare (d := d)) (by omega)) ?_
        rintro _ _ ⟨x1, rfl, rfl, hp⟩
        refine ⟨fun _ h9 => (by cases h9), ?_⟩
        replace h := h x1 hp
        show Ev _ 105 _ 23 [rA 53, (0, st), (0, sa), (0, dp), (9, 0), (9, 0), (9, 0), (9, 0), (9, 0), (9, 0), (9, 0), (9, 0), (9, 0)] [(0, x1)] _
        refine e_if1 (show am_cd 105 23 = (10, 26, 30, 1, []) by decide +kernel) (fun hc => ?_) (fun hc => ?_)
        · replace h := h.1 hc
          refine e_ic (show am_cd 105 30 = (0, 31, 0, 0, []) by decide +kernel) ?_
          refine e_sti (la2 := [rA 53, (0, st), (0, sa), (0, dp), (0, 0), (9, 0), (9, 0), (9, 0), (9, 0), (9, 0), (9, 0), (9, 0), (9, 0)]) (show am_cd 105 31 = (3, 33, 4, 0, []) by decide +kernel) rfl ?_
          exact h
        · replace h := h.2 hc
          refine e_ic (show am_cd 105 26 = (0, 27, 0, 1, []) by decide +kernel) ?_
          refine e_go (show am_cd 105 27 = (12, 31, 0, 0, []) by decide +kernel) ?_
          refine e_sti (la2 := [rA 53, (0, st), (0, sa), (0, dp), (0, 1), (9, 0), (9, 0), (9, 0), (9, 0), (9, 0), (9, 0), (9, 0), (9, 0)]) (show am_cd 105 31 = (3, 33, 4, 0, []) by decide +kernel) rfl ?_
          exact h
      · replace h := h.2 hc
        refine e_lc (show am_cd 105 16 = (1, 17, 0, 0, []) by decide +kernel) ?_
        exact e_retl (show am_cd 105 17 = (36, 18, 1, 0, []) by decide +kernel) (by decide +kernel) h

theorem g_wyk {d : Nat} {Q : Option aV → aS → Prop} {w : eW} {t : eT} {st sa dp nt : Int} {m : eW} {b : Nat × Nat} {P : Int → Int → Prop} (h : ((w32 nt = 0 → Ev (d + 10) 105 Q 68 [rA 53, (0, st), (0, sa), (0, dp), (0, nt), (0, (st * (w 37 7)) + sa), (1, (-1)), (9, 0), (9, 0), (9, 0), (9, 0), (9, 0), (9, 0)] [] (enc w t)) ∧ (¬ (w32 nt = 0) → (MC P b m w t ∧ 0 ≤ (st * (w 37 7)) + sa ∧ (st * (w 37 7)) + sa < 2147483648) ∧ (∀ x1, (x1 = -1 ∨ P ((st * (w 37 7)) + sa) x1) → Ev (d + 10) 105 Q 68 [rA 53, (0, st), (0, sa), (0, dp), (0, nt), (0, (st * (w 37 7)) + sa), (1, x1), (9, 0), (9, 0), (9, 0), (9, 0), (9, 0), (9, 0)] [] (enc w t))))) : Ev (d + 10) 105 Q 33 [rA 53, (0, st), (0, sa), (0, dp), (0, nt), (9, 0), (9, 0), (9, 0), (9, 0), (9, 0), (9, 0), (9, 0), (9, 0)] [] (enc w t) := by
  refine e_ldi (show am_cd 105 33 = (2, 34, 1, 0, []) by decide +kernel) rfl ?_
  refine e_lda (v := 53) (show am_cd 105 34 = (2, 35, 0, 2, []) by decide +kernel) rfl ?_
  refine e_getr (a := 53) (r := 37) (show am_cd 105 35 = (18, 38, 1003, 2, [30]) by decide +kernel) (by decide +kernel) (by decide +kernel) rfl ?_
  refine e_getf (a := 37) (tg := 0) (show am_cd 105 38 = (18, 41, 407, 0, [66]) by decide +kernel) (by decide +kernel) (by decide +kernel) rfl ?_
  refine e_imul (show am_cd 105 41 = (5, 42, 2, 0, []) by decide +kernel) ?_
  refine e_ldi (show am_cd 105 42 = (2, 43, 2, 0, []) by decide +kernel) rfl ?_
  refine e_iadd (show am_cd 105 43 = (5, 44, 0, 0, []) by decide +kernel) ?_
  refine e_sti (la2 := [rA 53, (0, st), (0, sa), (0, dp), (0, nt), (0, (st * (w 37 7)) + sa), (9, 0), (9, 0), (9, 0), (9, 0), (9, 0), (9, 0), (9, 0)]) (show am_cd 105 44 = (3, 46, 5, 0, []) by decide +kernel) rfl ?_
  refine e_ldi (show am_cd 105 46 = (2, 48, 4, 0, []) by decide +kernel) rfl ?_
  refine e_if0 (show am_cd 105 48 = (10, 51, 63, 0, []) by decide +kernel) (fun hc => ?_) (fun hc => ?_)
  · replace h := h.1 hc
    refine e_lc (show am_cd 105 63 = (1, 66, 1, -1, [75]) by decide +kernel) ?_
    refine e_stl (la2 := [rA 53, (0, st), (0, sa), (0, dp), (0, nt), (0, (st * (w 37 7)) + sa), (1, (-1)), (9, 0), (9, 0), (9, 0), (9, 0), (9, 0), (9, 0)]) (show am_cd 105 66 = (3, 68, 6, 1, []) by decide +kernel) rfl ?_
    exact h
  · replace h := h.2 hc
    refine e_lda (v := 53) (show am_cd 105 51 = (2, 52, 0, 2, []) by decide +kernel) rfl ?_
    refine e_getr (a := 53) (r := 45) (show am_cd 105 52 = (18, 55, 1004, 2, [34]) by decide +kernel) (by decide +kernel) (by decide +kernel) rfl ?_
    refine e_ldi (show am_cd 105 55 = (2, 57, 5, 0, []) by decide +kernel) rfl ?_
    refine e_cV (z := 0) (a := 45) (as := [(0, (st * (w 37 7)) + sa)]) (rest := []) (show am_cd 105 57 = (40, 60, 46, 0, [71]) by decide +kernel) (by decide +kernel) rfl rfl (Nat.le_of_ble_eq_true rfl) rfl ?_
    refine Cl.mono (Cl.up (m_find (P := P) (m := m) (b := b) (d := d) h.1) (by omega)) ?_
    rintro _ _ ⟨x1, rfl, rfl, hp⟩
    refine ⟨fun _ h9 => (by cases h9), ?_⟩
    replace h := h.2 x1 hp
    show Ev _ 105 _ 60 [rA 53, (0, st), (0, sa), (0, dp), (0, nt), (0, (st * (w 37 7)) + sa), (9, 0), (9, 0), (9, 0), (9, 0), (9, 0), (9, 0), (9, 0)] [(1, x1)] _
    refine e_go (show am_cd 105 60 = (12, 66, 0, 0, []) by decide +kernel) ?_
    refine e_stl (la2 := [rA 53, (0, st), (0, sa), (0, dp), (0, nt), (0, (st * (w 37 7)) + sa), (1, x1), (9, 0), (9, 0), (9, 0), (9, 0), (9, 0), (9, 0)]) (show am_cd 105 66 = (3, 68, 6, 1, []) by decide +kernel) rfl ?_
    exact h

theorem g_wyn {d : Nat} {Q : Option aV → aS → Prop} {w : eW} {t : eT} {st sa dp nt ky kn : Int} (h : ((w64 kn < w64 0 → Ev (d + 10) 105 Q 78 [rA 53, (0, st), (0, sa), (0, dp), (0, nt), (0, ky), (1, kn), (9, 0), (9, 0), (9, 0), (9, 0), (9, 0), (9, 0)] [] (enc w t)) ∧ (¬ (w64 kn < w64 0) → Q (some (1, kn)) (enc w t)))) : Ev (d + 10) 105 Q 68 [rA 53, (0, st), (0, sa), (0, dp), (0, nt), (0, ky), (1, kn), (9, 0), (9, 0), (9, 0), (9, 0), (9, 0), (9, 0)] [] (enc w t) := by
  refine e_ldl (show am_cd 105 68 = (2, 70, 6, 1, []) by decide +kernel) rfl ?_
  refine e_lc (show am_cd 105 70 = (1, 71, 0, 0, []) by decide +kernel) ?_
  refine e_lcb2 (show am_cd 105 71 = (9, 72, 0, 0, []) by decide +kernel) (show am_cd 105 72 = (10, 75, 78, 2, []) by decide +kernel) (fun hc => ?_) (fun hc => ?_)
  · replace h := h.1 hc
    exact h
  · replace h := h.2 hc
    refine e_ldl (show am_cd 105 75 = (2, 77, 6, 1, []) by decide +kernel) rfl ?_
    exact e_retl (show am_cd 105 77 = (36, 78, 1, 0, []) by decide +kernel) (by decide +kernel) h

theorem g_wy1 {d : Nat} {Q : Option aV → aS → Prop} {w : eW} {t : eT} {st sa dp nt ky kn : Int} {m : eW} {b : Nat × Nat} {P : Int → Int → Prop} {FW : Int → Int} {RW : Int → eW → Prop} (hW : ∀ (a0 : Int) (w : eW) (t : eT), RW a0 w → Cl (d + 8) 107 [rA 53, (0, a0)] (enc w t) (fun r S2 => ∃ x, r = some (0, x) ∧ S2 = enc w t ∧ x = FW a0)) (h : (RW st w) ∧ (∀ x1, (x1 = FW st) → ((w32 x1 = 0 → Ev (d + 10) 105 Q 104 [rA 53, (0, st), (0, sa), (0, dp), (0, nt), (0, ky), (1, kn), (9, 0), (1, 0), (9, 0), (9, 0), (9, 0), (9, 0)] [] (enc w t)) ∧ (¬ (w32 x1 = 0) → ∃ g2, ((RgM w t (w 37 7).toNat ∧ (0 : Int) ≤ sa ∧ (sa : Int) < w 37 7) ∧ mK w sa.toNat = ((kyG m g2 : Nat) : Int)) ∧ (∀ x3, (x3 = bI (isE m (-1) g2.1 g2.2.1 g2.2.2)) → ((w32 x3 = 0 → Ev (d + 10) 105 Q 104 [rA 53, (0, st), (0, sa), (0, dp), (0, nt), (0, ky), (1, kn), (9, 0), (1, 0), (9, 0), (9, 0), (9, 0), (9, 0)] [] (enc w t)) ∧ (¬ (w32 x3 = 0) → Ev (d + 10) 105 Q 104 [rA 53, (0, st), (0, sa), (0, dp), (0, nt), (0, ky), (1, kn), (9, 0), (1, 1), (9, 0), (9, 0), (9, 0), (9, 0)] [] (enc w t)))))))) : Ev (d + 10) 105 Q 78 [rA 53, (0, st), (0, sa), (0, dp), (0, nt), (0, ky), (1, kn), (9, 0), (9, 0), (9, 0), (9, 0), (9, 0), (9, 0)] [] (enc w t) := by
  refine e_lda (v := 53) (show am_cd 105 78 = (2, 79, 0, 2, []) by decide +kernel) rfl ?_
  refine e_ldi (show am_cd 105 79 = (2, 80, 1, 0, []) by decide +kernel) rfl ?_
  refine e_cV (z := 0) (a := 53) (as := [(0, st)]) (rest := []) (show am_cd 105 80 = (40, 83, 107, 0, [77]) by decide +kernel) (by decide +kernel) rfl rfl (Nat.le_of_ble_eq_true rfl) rfl ?_
  refine Cl.mono (Cl.up (hW _ _ _ h.1) (by omega)) ?_
  rintro _ _ ⟨x1, rfl, rfl, hp⟩
  refine ⟨fun _ h9 => (by cases h9), ?_⟩
  replace h := h.2 x1 hp
  show Ev _ 105 _ 83 [rA 53, (0, st), (0, sa), (0, dp), (0, nt), (0, ky), (1, kn), (9, 0), (9, 0), (9, 0), (9, 0), (9, 0), (9, 0)] [(0, x1)] _
  refine e_if0 (show am_cd 105 83 = (10, 86, 101, 0, []) by decide +kernel) (fun hc => ?_) (fun hc => ?_)
  · replace h := h.1 hc
    refine e_lc (show am_cd 105 101 = (1, 102, 0, 0, []) by decide +kernel) ?_
    refine e_stl (la2 := [rA 53, (0, st), (0, sa), (0, dp), (0, nt), (0, ky), (1, kn), (9, 0), (1, 0), (9, 0), (9, 0), (9, 0), (9, 0)]) (show am_cd 105 102 = (3, 104, 8, 1, []) by decide +kernel) rfl ?_
    exact h
  · replace h := h.2 hc
    refine e_lda (v := 53) (show am_cd 105 86 = (2, 87, 0, 2, []) by decide +kernel) rfl ?_
    refine e_getr (a := 53) (r := 37) (show am_cd 105 87 = (18, 90, 1003, 2, [30]) by decide +kernel) (by decide +kernel) (by decide +kernel) rfl ?_
    refine e_ldi (show am_cd 105 90 = (2, 91, 2, 0, []) by decide +kernel) rfl ?_
    refine e_cV (z := 0) (a := 37) (as := [(0, sa)]) (rest := []) (show am_cd 105 91 = (40, 94, 40, 0, [80]) by decide +kernel) (by decide +kernel) rfl rfl (Nat.le_of_ble_eq_true rfl) rfl ?_
    obtain ⟨g2, h⟩ := h
    refine Cl.mono (Cl.up (c_meU (m := m) (d := d) g2 h.1) (by omega)) ?_
    rintro _ _ ⟨x3, rfl, rfl, hp⟩
    refine ⟨fun _ h9 => (by cases h9), ?_⟩
    replace h := h.2 x3 hp
    show Ev _ 105 _ 94 [rA 53, (0, st), (0, sa), (0, dp), (0, nt), (0, ky), (1, kn), (9, 0), (9, 0), (9, 0), (9, 0), (9, 0), (9, 0)] [(0, x3)] _
    refine e_if0 (show am_cd 105 94 = (10, 97, 101, 0, []) by decide +kernel) (fun hc => ?_) (fun hc => ?_)
    · replace h := h.1 hc
      refine e_lc (show am_cd 105 101 = (1, 102, 0, 0, []) by decide +kernel) ?_
      refine e_stl (la2 := [rA 53, (0, st), (0, sa), (0, dp), (0, nt), (0, ky), (1, kn), (9, 0), (1, 0), (9, 0), (9, 0), (9, 0), (9, 0)]) (show am_cd 105 102 = (3, 104, 8, 1, []) by decide +kernel) rfl ?_
      exact h
    · replace h := h.2 hc
      refine e_lc (show am_cd 105 97 = (1, 98, 0, 1, []) by decide +kernel) ?_
      refine e_go (show am_cd 105 98 = (12, 102, 0, 0, []) by decide +kernel) ?_
      refine e_stl (la2 := [rA 53, (0, st), (0, sa), (0, dp), (0, nt), (0, ky), (1, kn), (9, 0), (1, 1), (9, 0), (9, 0), (9, 0), (9, 0)]) (show am_cd 105 102 = (3, 104, 8, 1, []) by decide +kernel) rfl ?_
      exact h

theorem g_wy1b {d : Nat} {Q : Option aV → aS → Prop} {w : eW} {t : eT} {st sa dp nt ky kn su : Int} {m : eW} {b : Nat × Nat} {P : Int → Int → Prop} {FP : Int → Int} {RP : Int → eW → Prop} (hP : ∀ (a0 : Int) (w : eW) (t : eT), RP a0 w → Cl (d + 8) 108 [rA 53, (0, a0)] (enc w t) (fun r S2 => ∃ x, r = some (0, x) ∧ S2 = enc w t ∧ x = FP a0)) (h : (RP st w) ∧ (∀ x1, (x1 = FP st) → (RgM w t (w 37 7).toNat ∧ (0 : Int) ≤ sa ∧ (sa : Int) < w 37 7) ∧ (∀ x2, (x2 = iand (mK w sa.toNat) 131071) → Ev (d + 10) 105 Q 123 [rA 53, (0, st), (0, sa), (0, dp), (0, nt), (0, ky), (1, kn), (9, 0), (1, su), (9, 0), (0, iand x1 x2), (0, 0), (9, 0)] [] (enc w t)))) : Ev (d + 10) 105 Q 104 [rA 53, (0, st), (0, sa), (0, dp), (0, nt), (0, ky), (1, kn), (9, 0), (1, su), (9, 0), (9, 0), (9, 0), (9, 0)] [] (enc w t) := by
  refine e_lda (v := 53) (show am_cd 105 104 = (2, 105, 0, 2, []) by decide +kernel) rfl ?_
  refine e_ldi (show am_cd 105 105 = (2, 106, 1, 0, []) by decide +kernel) rfl ?_
  refine e_cV (z := 0) (a := 53) (as := [(0, st)]) (rest := []) (show am_cd 105 106 = (40, 109, 108, 0, [83]) by decide +kernel) (by decide +kernel) rfl rfl (Nat.le_of_ble_eq_true rfl) rfl ?_
  refine Cl.mono (Cl.up (hP _ _ _ h.1) (by omega)) ?_
  rintro _ _ ⟨x1, rfl, rfl, hp⟩
  refine ⟨fun _ h9 => (by cases h9), ?_⟩
  replace h := h.2 x1 hp
  show Ev _ 105 _ 109 [rA 53, (0, st), (0, sa), (0, dp), (0, nt), (0, ky), (1, kn), (9, 0), (1, su), (9, 0), (9, 0), (9, 0), (9, 0)] [(0, x1)] _
  refine e_lda (v := 53) (show am_cd 105 109 = (2, 110, 0, 2, []) by decide +kernel) rfl ?_
  refine e_getr (a := 53) (r := 37) (show am_cd 105 110 = (18, 113, 1003, 2, [30]) by decide +kernel) (by decide +kernel) (by decide +kernel) rfl ?_
  refine e_ldi (show am_cd 105 113 = (2, 114, 2, 0, []) by decide +kernel) rfl ?_
  refine e_cV (z := 0) (a := 37) (as := [(0, sa)]) (rest := [(0, x1)]) (show am_cd 105 114 = (40, 117, 39, 0, [87]) by decide +kernel) (by decide +kernel) rfl rfl (Nat.le_of_ble_eq_true rfl) rfl ?_
  refine Cl.mono (Cl.up (c_mfoU (d := d) h.1) (by omega)) ?_
  rintro _ _ ⟨x2, rfl, rfl, hp⟩
  refine ⟨fun _ h9 => (by cases h9), ?_⟩
  replace h := h.2 x2 hp
  show Ev _ 105 _ 117 [rA 53, (0, st), (0, sa), (0, dp), (0, nt), (0, ky), (1, kn), (9, 0), (1, su), (9, 0), (9, 0), (9, 0), (9, 0)] [(0, x2), (0, x1)] _
  refine e_iand (show am_cd 105 117 = (5, 118, 3, 0, []) by decide +kernel) ?_
  refine e_sti (la2 := [rA 53, (0, st), (0, sa), (0, dp), (0, nt), (0, ky), (1, kn), (9, 0), (1, su), (9, 0), (0, iand x1 x2), (9, 0), (9, 0)]) (show am_cd 105 118 = (3, 120, 10, 0, []) by decide +kernel) rfl ?_
  refine e_ic (show am_cd 105 120 = (0, 121, 0, 0, []) by decide +kernel) ?_
  refine e_sti (la2 := [rA 53, (0, st), (0, sa), (0, dp), (0, nt), (0, ky), (1, kn), (9, 0), (1, su), (9, 0), (0, iand x1 x2), (0, 0), (9, 0)]) (show am_cd 105 121 = (3, 123, 11, 0, []) by decide +kernel) rfl ?_
  exact h

theorem g_wy2 {d : Nat} {Q : Option aV → aS → Prop} {w : eW} {t : eT} {st sa dp nt ky kn su ft p : Int} {m : eW} {b : Nat × Nat} {P : Int → Int → Prop} {FB : Int → Int → Int} {RB : Int → Int → eW → Prop} (hB : ∀ (a0 a1 : Int) (w : eW) (t : eT), RB a0 a1 w → Cl (d + 8) 113 [rA 53, (0, a0), (0, a1)] (enc w t) (fun r S2 => ∃ x, r = some (0, x) ∧ S2 = enc w t ∧ x = FB a0 a1)) {γV : Type} {PRV : γV → Int → Int → Int → eW → eT → Prop} {POV : γV → Int → Int → Int → eW → eT → Int → eW → eT → Prop} (hrV : ∀ (g : γV) (a1 a2 a3 : Int) (w : eW) (t : eT), PRV g a1 a2 a3 w t → Cl (d + 9) 105 [rA 53, (0, a1), (0, a2), (0, a3)] (enc w t) (fun r S2 => ∃ x w2 t2, r = some (1, x) ∧ S2 = enc w2 t2 ∧ POV g a1 a2 a3 w t x w2 t2)) (h : ((w32 16 ≤ w32 p → Ev (d + 10) 105 Q 183 [rA 53, (0, st), (0, sa), (0, dp), (0, nt), (0, ky), (1, kn), (9, 0), (1, su), (9, 0), (0, ft), (0, p), (9, 0)] [] (enc w t)) ∧ (¬ (w32 16 ≤ w32 p) → ((w32 (ishr ft p) = 0 → Ev (d + 10) 105 Q 183 [rA 53, (0, st), (0, sa), (0, dp), (0, nt), (0, ky), (1, kn), (9, 0), (1, su), (9, 0), (0, ft), (0, p), (9, 0)] [] (enc w t)) ∧ (¬ (w32 (ishr ft p) = 0) → ((w32 (iand (ishr ft p) 1) = 0 → Ev (d + 10) 105 Q 123 [rA 53, (0, st), (0, sa), (0, dp), (0, nt), (0, ky), (1, kn), (9, 0), (1, su), (9, 0), (0, ft), (0, p + 1), (9, 0)] [] (enc w t)) ∧ (¬ (w32 (iand (ishr ft p) 1) = 0) → (RB st p w) ∧ (∀ x1, (x1 = FB st p) → (RgM w t (w 37 7).toNat ∧ ((0 : Int) ≤ sa ∧ (sa : Int) < w 37 7) ∧ (0 : Int) ≤ p ∧ (p : Int) < 16) ∧ (∀ x2, (x2 = mA w sa.toNat p.toNat) → ∃ g3, (PRV g3 x1 x2 (dp + 1) w t) ∧ (∀ x4 w5 t6, (POV g3 x1 x2 (dp + 1) w t x4 w5 t6) → Ev (d + 10) 105 Q 123 [rA 53, (0, st), (0, sa), (0, dp), (0, nt), (0, ky), (1, kn), (9, 0), (1, su + x4), (9, 0), (0, ft), (0, p + 1), (9, 0)] [] (enc w5 t6))))))))))) : Ev (d + 10) 105 Q 123 [rA 53, (0, st), (0, sa), (0, dp), (0, nt), (0, ky), (1, kn), (9, 0), (1, su), (9, 0), (0, ft), (0, p), (9, 0)] [] (enc w t) := by
  refine e_ldi (show am_cd 105 123 = (2, 125, 11, 0, []) by decide +kernel) rfl ?_
  refine e_ic (show am_cd 105 125 = (0, 127, 1, 16, []) by decide +kernel) ?_
  refine e_cmp3 (show am_cd 105 127 = (11, 130, 183, 3, []) by decide +kernel) (fun hc => ?_) (fun hc => ?_)
  · replace h := h.1 hc
    exact h
  · replace h := h.2 hc
    refine e_ldi (show am_cd 105 130 = (2, 132, 10, 0, []) by decide +kernel) rfl ?_
    refine e_ldi (show am_cd 105 132 = (2, 134, 11, 0, []) by decide +kernel) rfl ?_
    refine e_ishr (show am_cd 105 134 = (5, 135, 7, 0, []) by decide +kernel) ?_
    refine e_if0 (show am_cd 105 135 = (10, 138, 183, 0, []) by decide +kernel) (fun hc => ?_) (fun hc => ?_)
    · replace h := h.1 hc
      exact h
    · replace h := h.2 hc
      refine e_ldi (show am_cd 105 138 = (2, 140, 10, 0, []) by decide +kernel) rfl ?_
      refine e_ldi (show am_cd 105 140 = (2, 142, 11, 0, []) by decide +kernel) rfl ?_
      refine e_ishr (show am_cd 105 142 = (5, 143, 7, 0, []) by decide +kernel) ?_
      refine e_ic (show am_cd 105 143 = (0, 144, 0, 1, []) by decide +kernel) ?_
      refine e_iand (show am_cd 105 144 = (5, 145, 3, 0, []) by decide +kernel) ?_
      refine e_if0 (show am_cd 105 145 = (10, 148, 177, 0, []) by decide +kernel) (fun hc => ?_) (fun hc => ?_)
      · replace h := h.1 hc
        refine e_inc (la2 := [rA 53, (0, st), (0, sa), (0, dp), (0, nt), (0, ky), (1, kn), (9, 0), (1, su), (9, 0), (0, ft), (0, p + 1), (9, 0)]) (show am_cd 105 177 = (4, 180, 11, 1, []) by decide +kernel) rfl rfl ?_
        refine e_go (show am_cd 105 180 = (12, 123, 0, 0, []) by decide +kernel) ?_
        exact h
      · replace h := h.2 hc
        refine e_ldl (show am_cd 105 148 = (2, 150, 8, 1, []) by decide +kernel) rfl ?_
        refine e_lda (v := 53) (show am_cd 105 150 = (2, 151, 0, 2, []) by decide +kernel) rfl ?_
        refine e_lda (v := 53) (show am_cd 105 151 = (2, 152, 0, 2, []) by decide +kernel) rfl ?_
        refine e_ldi (show am_cd 105 152 = (2, 153, 1, 0, []) by decide +kernel) rfl ?_
        refine e_ldi (show am_cd 105 153 = (2, 155, 11, 0, []) by decide +kernel) rfl ?_
        refine e_cV (z := 0) (a := 53) (as := [(0, st), (0, p)]) (rest := [rA 53, (1, su)]) (show am_cd 105 155 = (40, 158, 113, 0, [90]) by decide +kernel) (by decide +kernel) rfl rfl (Nat.le_of_ble_eq_true rfl) rfl ?_
        refine Cl.mono (Cl.up (hB _ _ _ _ h.1) (by omega)) ?_
        rintro _ _ ⟨x1, rfl, rfl, hp⟩
        refine ⟨fun _ h9 => (by cases h9), ?_⟩
        replace h := h.2 x1 hp
        show Ev _ 105 _ 158 [rA 53, (0, st), (0, sa), (0, dp), (0, nt), (0, ky), (1, kn), (9, 0), (1, su), (9, 0), (0, ft), (0, p), (9, 0)] [(0, x1), rA 53, (1, su)] _
        refine e_lda (v := 53) (show am_cd 105 158 = (2, 159, 0, 2, []) by decide +kernel) rfl ?_
        refine e_getr (a := 53) (r := 37) (show am_cd 105 159 = (18, 162, 1003, 2, [30]) by decide +kernel) (by decide +kernel) (by decide +kernel) rfl ?_
        refine e_ldi (show am_cd 105 162 = (2, 163, 2, 0, []) by decide +kernel) rfl ?_
        refine e_ldi (show am_cd 105 163 = (2, 165, 11, 0, []) by decide +kernel) rfl ?_
        refine e_cV (z := 0) (a := 37) (as := [(0, sa), (0, p)]) (rest := [(0, x1), rA 53, (1, su)]) (show am_cd 105 165 = (40, 168, 41, 0, [94]) by decide +kernel) (by decide +kernel) rfl rfl (Nat.le_of_ble_eq_true rfl) rfl ?_
        refine Cl.mono (Cl.up (c_behU (d := d) h.1) (by omega)) ?_
        rintro _ _ ⟨x2, rfl, rfl, hp⟩
        refine ⟨fun _ h9 => (by cases h9), ?_⟩
        replace h := h.2 x2 hp
        show Ev _ 105 _ 168 [rA 53, (0, st), (0, sa), (0, dp), (0, nt), (0, ky), (1, kn), (9, 0), (1, su), (9, 0), (0, ft), (0, p), (9, 0)] [(0, x2), (0, x1), rA 53, (1, su)] _
        refine e_ldi (show am_cd 105 168 = (2, 169, 3, 0, []) by decide +kernel) rfl ?_
        refine e_ic (show am_cd 105 169 = (0, 170, 0, 1, []) by decide +kernel) ?_
        refine e_iadd (show am_cd 105 170 = (5, 171, 0, 0, []) by decide +kernel) ?_
        refine e_cV (z := 0) (a := 53) (as := [(0, x1), (0, x2), (0, dp + 1)]) (rest := [(1, su)]) (show am_cd 105 171 = (40, 174, 105, 0, [54]) by decide +kernel) (by decide +kernel) rfl rfl (Nat.le_of_ble_eq_true rfl) rfl ?_
        obtain ⟨g3, h⟩ := h
        refine Cl.mono (Cl.up (hrV g3 _ _ _ _ _ h.1) (by omega)) ?_
        rintro _ _ ⟨x4, w5, t6, rfl, rfl, hp⟩
        refine ⟨fun _ h9 => (by cases h9), ?_⟩
        replace h := h.2 x4 w5 t6 hp
        show Ev _ 105 _ 174 [rA 53, (0, st), (0, sa), (0, dp), (0, nt), (0, ky), (1, kn), (9, 0), (1, su), (9, 0), (0, ft), (0, p), (9, 0)] [(1, x4), (1, su)] _
        refine e_ladd (show am_cd 105 174 = (6, 175, 0, 0, []) by decide +kernel) ?_
        refine e_stl (la2 := [rA 53, (0, st), (0, sa), (0, dp), (0, nt), (0, ky), (1, kn), (9, 0), (1, su + x4), (9, 0), (0, ft), (0, p), (9, 0)]) (show am_cd 105 175 = (3, 177, 8, 1, []) by decide +kernel) rfl ?_
        refine e_inc (la2 := [rA 53, (0, st), (0, sa), (0, dp), (0, nt), (0, ky), (1, kn), (9, 0), (1, su + x4), (9, 0), (0, ft), (0, p + 1), (9, 0)]) (show am_cd 105 177 = (4, 180, 11, 1, []) by decide +kernel) rfl rfl ?_
        refine e_go (show am_cd 105 180 = (12, 123, 0, 0, []) by decide +kernel) ?_
        exact h

theorem g_wy3 {d : Nat} {Q : Option aV → aS → Prop} {w : eW} {t : eT} {st sa dp nt ky kn su ft p : Int} {m : eW} {b : Nat × Nat} {P : Int → Int → Prop} {FE : Int → Int} {RE : Int → eW → Prop} (hE : ∀ (a0 : Int) (w : eW) (t : eT), RE a0 w → Cl (d + 8) 115 [rA 53, (0, a0)] (enc w t) (fun r S2 => ∃ x, r = some (0, x) ∧ S2 = enc w t ∧ x = FE a0)) (h : (RE st w) ∧ (∀ x1, (x1 = FE st) → Ev (d + 10) 105 Q 193 [rA 53, (0, st), (0, sa), (0, dp), (0, nt), (0, ky), (1, kn), (9, 0), (1, su), (9, 0), (0, ft), (0, x1), (0, 0)] [] (enc w t))) : Ev (d + 10) 105 Q 183 [rA 53, (0, st), (0, sa), (0, dp), (0, nt), (0, ky), (1, kn), (9, 0), (1, su), (9, 0), (0, ft), (0, p), (9, 0)] [] (enc w t) := by
  refine e_lda (v := 53) (show am_cd 105 183 = (2, 184, 0, 2, []) by decide +kernel) rfl ?_
  refine e_ldi (show am_cd 105 184 = (2, 185, 1, 0, []) by decide +kernel) rfl ?_
  refine e_cV (z := 0) (a := 53) (as := [(0, st)]) (rest := []) (show am_cd 105 185 = (40, 188, 115, 0, [97]) by decide +kernel) (by decide +kernel) rfl rfl (Nat.le_of_ble_eq_true rfl) rfl ?_
  refine Cl.mono (Cl.up (hE _ _ _ h.1) (by omega)) ?_
  rintro _ _ ⟨x1, rfl, rfl, hp⟩
  refine ⟨fun _ h9 => (by cases h9), ?_⟩
  replace h := h.2 x1 hp
  show Ev _ 105 _ 188 [rA 53, (0, st), (0, sa), (0, dp), (0, nt), (0, ky), (1, kn), (9, 0), (1, su), (9, 0), (0, ft), (0, p), (9, 0)] [(0, x1)] _
  refine e_sti (la2 := [rA 53, (0, st), (0, sa), (0, dp), (0, nt), (0, ky), (1, kn), (9, 0), (1, su), (9, 0), (0, ft), (0, x1), (9, 0)]) (show am_cd 105 188 = (3, 190, 11, 0, []) by decide +kernel) rfl ?_
  refine e_ic (show am_cd 105 190 = (0, 191, 0, 0, []) by decide +kernel) ?_
  refine e_sti (la2 := [rA 53, (0, st), (0, sa), (0, dp), (0, nt), (0, ky), (1, kn), (9, 0), (1, su), (9, 0), (0, ft), (0, x1), (0, 0)]) (show am_cd 105 191 = (3, 193, 12, 0, []) by decide +kernel) rfl ?_
  exact h

theorem g_wy4 {d : Nat} {Q : Option aV → aS → Prop} {w : eW} {t : eT} {st sa dp nt ky kn su ft ch e : Int} {m : eW} {b : Nat × Nat} {P : Int → Int → Prop} {FI : Int → Int → Int} {RI : Int → Int → eW → Prop} (hI : ∀ (a0 a1 : Int) (w : eW) (t : eT), RI a0 a1 w → Cl (d + 8) 116 [rA 53, (0, a0), (0, a1)] (enc w t) (fun r S2 => ∃ x, r = some (0, x) ∧ S2 = enc w t ∧ x = FI a0 a1)) {γV : Type} {PRV : γV → Int → Int → Int → eW → eT → Prop} {POV : γV → Int → Int → Int → eW → eT → Int → eW → eT → Prop} (hrV : ∀ (g : γV) (a1 a2 a3 : Int) (w : eW) (t : eT), PRV g a1 a2 a3 w t → Cl (d + 9) 105 [rA 53, (0, a1), (0, a2), (0, a3)] (enc w t) (fun r S2 => ∃ x w2 t2, r = some (1, x) ∧ S2 = enc w2 t2 ∧ POV g a1 a2 a3 w t x w2 t2)) (h : ((w32 16 ≤ w32 e → Ev (d + 10) 105 Q 244 [rA 53, (0, st), (0, sa), (0, dp), (0, nt), (0, ky), (1, kn), (9, 0), (1, su), (9, 0), (0, ft), (0, ch), (0, e)] [] (enc w t)) ∧ (¬ (w32 16 ≤ w32 e) → ((w32 (ishr ch e) = 0 → Ev (d + 10) 105 Q 244 [rA 53, (0, st), (0, sa), (0, dp), (0, nt), (0, ky), (1, kn), (9, 0), (1, su), (9, 0), (0, ft), (0, ch), (0, e)] [] (enc w t)) ∧ (¬ (w32 (ishr ch e) = 0) → ((w32 (iand (ishr ch e) 1) = 0 → Ev (d + 10) 105 Q 193 [rA 53, (0, st), (0, sa), (0, dp), (0, nt), (0, ky), (1, kn), (9, 0), (1, su), (9, 0), (0, ft), (0, ch), (0, e + 1)] [] (enc w t)) ∧ (¬ (w32 (iand (ishr ch e) 1) = 0) → (RI st e w) ∧ (∀ x1, (x1 = FI st e) → ∃ g2, (PRV g2 x1 sa (dp + 1) w t) ∧ (∀ x3 w4 t5, (POV g2 x1 sa (dp + 1) w t x3 w4 t5) → Ev (d + 10) 105 Q 193 [rA 53, (0, st), (0, sa), (0, dp), (0, nt), (0, ky), (1, kn), (9, 0), (1, su + x3), (9, 0), (0, ft), (0, ch), (0, e + 1)] [] (enc w4 t5)))))))))) : Ev (d + 10) 105 Q 193 [rA 53, (0, st), (0, sa), (0, dp), (0, nt), (0, ky), (1, kn), (9, 0), (1, su), (9, 0), (0, ft), (0, ch), (0, e)] [] (enc w t) := by
  refine e_ldi (show am_cd 105 193 = (2, 195, 12, 0, []) by decide +kernel) rfl ?_
  refine e_ic (show am_cd 105 195 = (0, 197, 1, 16, []) by decide +kernel) ?_
  refine e_cmp3 (show am_cd 105 197 = (11, 200, 244, 3, []) by decide +kernel) (fun hc => ?_) (fun hc => ?_)
  · replace h := h.1 hc
    exact h
  · replace h := h.2 hc
    refine e_ldi (show am_cd 105 200 = (2, 202, 11, 0, []) by decide +kernel) rfl ?_
    refine e_ldi (show am_cd 105 202 = (2, 204, 12, 0, []) by decide +kernel) rfl ?_
    refine e_ishr (show am_cd 105 204 = (5, 205, 7, 0, []) by decide +kernel) ?_
    refine e_if0 (show am_cd 105 205 = (10, 208, 244, 0, []) by decide +kernel) (fun hc => ?_) (fun hc => ?_)
    · replace h := h.1 hc
      exact h
    · replace h := h.2 hc
      refine e_ldi (show am_cd 105 208 = (2, 210, 11, 0, []) by decide +kernel) rfl ?_
      refine e_ldi (show am_cd 105 210 = (2, 212, 12, 0, []) by decide +kernel) rfl ?_
      refine e_ishr (show am_cd 105 212 = (5, 213, 7, 0, []) by decide +kernel) ?_
      refine e_ic (show am_cd 105 213 = (0, 214, 0, 1, []) by decide +kernel) ?_
      refine e_iand (show am_cd 105 214 = (5, 215, 3, 0, []) by decide +kernel) ?_
      refine e_if0 (show am_cd 105 215 = (10, 218, 238, 0, []) by decide +kernel) (fun hc => ?_) (fun hc => ?_)
      · replace h := h.1 hc
        refine e_inc (la2 := [rA 53, (0, st), (0, sa), (0, dp), (0, nt), (0, ky), (1, kn), (9, 0), (1, su), (9, 0), (0, ft), (0, ch), (0, e + 1)]) (show am_cd 105 238 = (4, 241, 12, 1, []) by decide +kernel) rfl rfl ?_
        refine e_go (show am_cd 105 241 = (12, 193, 0, 0, []) by decide +kernel) ?_
        exact h
      · replace h := h.2 hc
        refine e_ldl (show am_cd 105 218 = (2, 220, 8, 1, []) by decide +kernel) rfl ?_
        refine e_lda (v := 53) (show am_cd 105 220 = (2, 221, 0, 2, []) by decide +kernel) rfl ?_
        refine e_lda (v := 53) (show am_cd 105 221 = (2, 222, 0, 2, []) by decide +kernel) rfl ?_
        refine e_ldi (show am_cd 105 222 = (2, 223, 1, 0, []) by decide +kernel) rfl ?_
        refine e_ldi (show am_cd 105 223 = (2, 225, 12, 0, []) by decide +kernel) rfl ?_
        refine e_cV (z := 0) (a := 53) (as := [(0, st), (0, e)]) (rest := [rA 53, (1, su)]) (show am_cd 105 225 = (40, 228, 116, 0, [100]) by decide +kernel) (by decide +kernel) rfl rfl (Nat.le_of_ble_eq_true rfl) rfl ?_
        refine Cl.mono (Cl.up (hI _ _ _ _ h.1) (by omega)) ?_
        rintro _ _ ⟨x1, rfl, rfl, hp⟩
        refine ⟨fun _ h9 => (by cases h9), ?_⟩
        replace h := h.2 x1 hp
        show Ev _ 105 _ 228 [rA 53, (0, st), (0, sa), (0, dp), (0, nt), (0, ky), (1, kn), (9, 0), (1, su), (9, 0), (0, ft), (0, ch), (0, e)] [(0, x1), rA 53, (1, su)] _
        refine e_ldi (show am_cd 105 228 = (2, 229, 2, 0, []) by decide +kernel) rfl ?_
        refine e_ldi (show am_cd 105 229 = (2, 230, 3, 0, []) by decide +kernel) rfl ?_
        refine e_ic (show am_cd 105 230 = (0, 231, 0, 1, []) by decide +kernel) ?_
        refine e_iadd (show am_cd 105 231 = (5, 232, 0, 0, []) by decide +kernel) ?_
        refine e_cV (z := 0) (a := 53) (as := [(0, x1), (0, sa), (0, dp + 1)]) (rest := [(1, su)]) (show am_cd 105 232 = (40, 235, 105, 0, [54]) by decide +kernel) (by decide +kernel) rfl rfl (Nat.le_of_ble_eq_true rfl) rfl ?_
        obtain ⟨g2, h⟩ := h
        refine Cl.mono (Cl.up (hrV g2 _ _ _ _ _ h.1) (by omega)) ?_
        rintro _ _ ⟨x3, w4, t5, rfl, rfl, hp⟩
        refine ⟨fun _ h9 => (by cases h9), ?_⟩
        replace h := h.2 x3 w4 t5 hp
        show Ev _ 105 _ 235 [rA 53, (0, st), (0, sa), (0, dp), (0, nt), (0, ky), (1, kn), (9, 0), (1, su), (9, 0), (0, ft), (0, ch), (0, e)] [(1, x3), (1, su)] _
        refine e_ladd (show am_cd 105 235 = (6, 236, 0, 0, []) by decide +kernel) ?_
        refine e_stl (la2 := [rA 53, (0, st), (0, sa), (0, dp), (0, nt), (0, ky), (1, kn), (9, 0), (1, su + x3), (9, 0), (0, ft), (0, ch), (0, e)]) (show am_cd 105 236 = (3, 238, 8, 1, []) by decide +kernel) rfl ?_
        refine e_inc (la2 := [rA 53, (0, st), (0, sa), (0, dp), (0, nt), (0, ky), (1, kn), (9, 0), (1, su + x3), (9, 0), (0, ft), (0, ch), (0, e + 1)]) (show am_cd 105 238 = (4, 241, 12, 1, []) by decide +kernel) rfl rfl ?_
        refine e_go (show am_cd 105 241 = (12, 193, 0, 0, []) by decide +kernel) ?_
        exact h

theorem g_wy5 {d : Nat} {Q : Option aV → aS → Prop} {w : eW} {t : eT} {st sa dp nt ky kn su ft ch e : Int} {m : eW} {b : Nat × Nat} {P : Int → Int → Prop} (h : ((w32 nt = 0 → Q (some (1, su)) (enc w t)) ∧ (¬ (w32 nt = 0) → (MC P b m w t ∧ (0 ≤ ky ∧ ky < 2147483648) ∧ P ky su) ∧ (∀ w1 t2, (MR w t w1 t2 ∧ MC P b m w1 t2) → Q (some (1, su)) (enc w1 t2))))) : Ev (d + 10) 105 Q 244 [rA 53, (0, st), (0, sa), (0, dp), (0, nt), (0, ky), (1, kn), (9, 0), (1, su), (9, 0), (0, ft), (0, ch), (0, e)] [] (enc w t) := by
  refine e_ldi (show am_cd 105 244 = (2, 246, 4, 0, []) by decide +kernel) rfl ?_
  refine e_if0 (show am_cd 105 246 = (10, 249, 260, 0, []) by decide +kernel) (fun hc => ?_) (fun hc => ?_)
  · replace h := h.1 hc
    refine e_ldl (show am_cd 105 260 = (2, 262, 8, 1, []) by decide +kernel) rfl ?_
    exact e_retl (show am_cd 105 262 = (36, 263, 1, 0, []) by decide +kernel) (by decide +kernel) h
  · replace h := h.2 hc
    refine e_lda (v := 53) (show am_cd 105 249 = (2, 250, 0, 2, []) by decide +kernel) rfl ?_
    refine e_getr (a := 53) (r := 45) (show am_cd 105 250 = (18, 253, 1004, 2, [34]) by decide +kernel) (by decide +kernel) (by decide +kernel) rfl ?_
    refine e_ldi (show am_cd 105 253 = (2, 255, 5, 0, []) by decide +kernel) rfl ?_
    refine e_ldl (show am_cd 105 255 = (2, 257, 8, 1, []) by decide +kernel) rfl ?_
    refine e_cV (z := 0) (a := 45) (as := [(0, ky), (1, su)]) (rest := []) (show am_cd 105 257 = (40, 260, 47, 0, [103]) by decide +kernel) (by decide +kernel) rfl rfl (Nat.le_of_ble_eq_true rfl) rfl ?_
    refine Cl.mono (Cl.up (m_put (P := P) (m := m) (b := b) (d := d) h.1) (by omega)) ?_
    rintro _ _ ⟨w1, t2, rfl, rfl, hp⟩
    refine ⟨fun _ h9 => (by cases h9), ?_⟩
    replace h := h.2 w1 t2 hp
    show Ev _ 105 _ 260 [rA 53, (0, st), (0, sa), (0, dp), (0, nt), (0, ky), (1, kn), (9, 0), (1, su), (9, 0), (0, ft), (0, ch), (0, e)] [] _
    refine e_ldl (show am_cd 105 260 = (2, 262, 8, 1, []) by decide +kernel) rfl ?_
    exact e_retl (show am_cd 105 262 = (36, 263, 1, 0, []) by decide +kernel) (by decide +kernel) h

