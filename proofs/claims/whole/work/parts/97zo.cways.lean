/-! The class: ways and list: regions. -/

theorem g_wy0 {d : Nat} {Q : Option aV → aS → Prop} {w : eW} {t : eT} {st sa dp : Int} {m : eW} {b : Nat × Nat} {P : Int → Int → Prop} (h : ((w32 30 < w32 dp → Q (some (1, 0)) (enc w t)) ∧ (¬ (w32 30 < w32 dp) → ((w32 st = w32 (-1) → Q (some (1, 0)) (enc w t)) ∧ (¬ (w32 st = w32 (-1)) → ((¬ w32 sa = w32 (-1) → (MC P b m w t ∧ 0 ≤ (st * (w 37 7)) + sa ∧ (st * (w 37 7)) + sa < 2147483648) ∧ (∀ x1, (x1 = -1 ∨ P ((st * (w 37 7)) + sa) x1) → ((w64 x1 < w64 0 → Ev (d + 10) 105 Q 52 [rA 53, (0, st), (0, sa), (0, dp), (0, (st * (w 37 7)) + sa), (1, x1), (9, 0), (9, 0), (9, 0), (9, 0), (9, 0), (9, 0)] [] (enc w t)) ∧ (¬ (w64 x1 < w64 0) → Q (some (1, x1)) (enc w t))))) ∧ (¬ (¬ w32 sa = w32 (-1)) → Q (some (1, 0)) (enc w t)))))))) : Cl (d + 10) 105 [rA 53, (0, st), (0, sa), (0, dp)] (enc w t) Q := by
  show Ev (d + 10) 105 Q 0 [rA 53, (0, st), (0, sa), (0, dp), (9, 0), (9, 0), (9, 0), (9, 0), (9, 0), (9, 0), (9, 0), (9, 0)] [] (enc w t)
  refine e_ldi (show am_cd 105 0 = (2, 1, 3, 0, []) by decide +kernel) rfl ?_
  refine e_ic (show am_cd 105 1 = (0, 3, 1, 30, []) by decide +kernel) ?_
  refine e_cmp4 (show am_cd 105 3 = (11, 6, 16, 4, []) by decide +kernel) (fun hc => ?_) (fun hc => ?_)
  · replace h := h.1 hc
    refine e_lc (show am_cd 105 16 = (1, 17, 0, 0, []) by decide +kernel) ?_
    exact e_retl (show am_cd 105 17 = (36, 18, 1, 0, []) by decide +kernel) (by decide +kernel) h
  · replace h := h.2 hc
    refine e_ldi (show am_cd 105 6 = (2, 7, 1, 0, []) by decide +kernel) rfl ?_
    refine e_ic (show am_cd 105 7 = (0, 8, 0, -1, []) by decide +kernel) ?_
    refine e_cmp0 (show am_cd 105 8 = (11, 11, 16, 0, []) by decide +kernel) (fun hc => ?_) (fun hc => ?_)
    · replace h := h.1 hc
      refine e_lc (show am_cd 105 16 = (1, 17, 0, 0, []) by decide +kernel) ?_
      exact e_retl (show am_cd 105 17 = (36, 18, 1, 0, []) by decide +kernel) (by decide +kernel) h
    · replace h := h.2 hc
      refine e_ldi (show am_cd 105 11 = (2, 12, 2, 0, []) by decide +kernel) rfl ?_
      refine e_ic (show am_cd 105 12 = (0, 13, 0, -1, []) by decide +kernel) ?_
      refine e_cmp1 (show am_cd 105 13 = (11, 16, 18, 1, []) by decide +kernel) (fun hc => ?_) (fun hc => ?_)
      · replace h := h.1 hc
        refine e_ldi (show am_cd 105 18 = (2, 19, 1, 0, []) by decide +kernel) rfl ?_
        refine e_lda (v := 53) (show am_cd 105 19 = (2, 20, 0, 2, []) by decide +kernel) rfl ?_
        refine e_getr (a := 53) (r := 37) (show am_cd 105 20 = (18, 23, 1003, 2, [30]) by decide +kernel) (by decide +kernel) (by decide +kernel) rfl ?_
        refine e_getf (a := 37) (tg := 0) (show am_cd 105 23 = (18, 26, 407, 0, [62]) by decide +kernel) (by decide +kernel) (by decide +kernel) rfl ?_
        refine e_imul (show am_cd 105 26 = (5, 27, 2, 0, []) by decide +kernel) ?_
        refine e_ldi (show am_cd 105 27 = (2, 28, 2, 0, []) by decide +kernel) rfl ?_
        refine e_iadd (show am_cd 105 28 = (5, 29, 0, 0, []) by decide +kernel) ?_
        refine e_sti (la2 := [rA 53, (0, st), (0, sa), (0, dp), (0, (st * (w 37 7)) + sa), (9, 0), (9, 0), (9, 0), (9, 0), (9, 0), (9, 0), (9, 0)]) (show am_cd 105 29 = (3, 31, 4, 0, []) by decide +kernel) rfl ?_
        refine e_lda (v := 53) (show am_cd 105 31 = (2, 32, 0, 2, []) by decide +kernel) rfl ?_
        refine e_getr (a := 53) (r := 45) (show am_cd 105 32 = (18, 35, 1004, 2, [34]) by decide +kernel) (by decide +kernel) (by decide +kernel) rfl ?_
        refine e_ldi (show am_cd 105 35 = (2, 37, 4, 0, []) by decide +kernel) rfl ?_
        refine e_cV (z := 0) (a := 45) (as := [(0, (st * (w 37 7)) + sa)]) (rest := []) (show am_cd 105 37 = (40, 40, 46, 0, [67]) by decide +kernel) (by decide +kernel) rfl rfl (Nat.le_of_ble_eq_true rfl) rfl ?_
        refine Cl.mono (Cl.up (m_find (P := P) (m := m) (b := b) (d := d) h.1) (by omega)) ?_
        rintro _ _ ⟨x1, rfl, rfl, hp⟩
        refine ⟨fun _ h9 => (by cases h9), ?_⟩
        replace h := h.2 x1 hp
        show Ev _ 105 _ 40 [rA 53, (0, st), (0, sa), (0, dp), (0, (st * (w 37 7)) + sa), (9, 0), (9, 0), (9, 0), (9, 0), (9, 0), (9, 0), (9, 0)] [(1, x1)] _
        refine e_stl (la2 := [rA 53, (0, st), (0, sa), (0, dp), (0, (st * (w 37 7)) + sa), (1, x1), (9, 0), (9, 0), (9, 0), (9, 0), (9, 0), (9, 0)]) (show am_cd 105 40 = (3, 42, 5, 1, []) by decide +kernel) rfl ?_
        refine e_ldl (show am_cd 105 42 = (2, 44, 5, 1, []) by decide +kernel) rfl ?_
        refine e_lc (show am_cd 105 44 = (1, 45, 0, 0, []) by decide +kernel) ?_
        refine e_lcb2 (show am_cd 105 45 = (9, 46, 0, 0, []) by decide +kernel) (show am_cd 105 46 = (10, 49, 52, 2, []) by decide +kernel) (fun hc => ?_) (fun hc => ?_)
        · replace h := h.1 hc
          exact h
        · replace h := h.2 hc
          refine e_ldl (show am_cd 105 49 = (2, 51, 5, 1, []) by decide +kernel) rfl ?_
          exact e_retl (show am_cd 105 51 = (36, 52, 1, 0, []) by decide +kernel) (by decide +kernel) h
      · replace h := h.2 hc
        refine e_lc (show am_cd 105 16 = (1, 17, 0, 0, []) by decide +kernel) ?_
        exact e_retl (show am_cd 105 17 = (36, 18, 1, 0, []) by decide +kernel) (by decide +kernel) h

theorem g_wy1 {d : Nat} {Q : Option aV → aS → Prop} {w : eW} {t : eT} {st sa dp ky kn : Int} {m : eW} {b : Nat × Nat} {P : Int → Int → Prop} {FW : Int → Int} {RW : Int → eW → Prop} (hW : ∀ (a0 : Int) (w : eW) (t : eT), RW a0 w → Cl (d + 8) 107 [rA 53, (0, a0)] (enc w t) (fun r S2 => ∃ x, r = some (0, x) ∧ S2 = enc w t ∧ x = FW a0)) (h : (RW st w) ∧ (∀ x1, (x1 = FW st) → ((w32 x1 = 0 → Ev (d + 10) 105 Q 78 [rA 53, (0, st), (0, sa), (0, dp), (0, ky), (1, kn), (9, 0), (1, 0), (9, 0), (9, 0), (9, 0), (9, 0)] [] (enc w t)) ∧ (¬ (w32 x1 = 0) → ∃ g2, ((RgM w t (w 37 7).toNat ∧ (0 : Int) ≤ sa ∧ (sa : Int) < w 37 7) ∧ mK w sa.toNat = ((kyG m g2 : Nat) : Int)) ∧ (∀ x3, (x3 = bI (isE m (-1) g2.1 g2.2.1 g2.2.2)) → ((w32 x3 = 0 → Ev (d + 10) 105 Q 78 [rA 53, (0, st), (0, sa), (0, dp), (0, ky), (1, kn), (9, 0), (1, 0), (9, 0), (9, 0), (9, 0), (9, 0)] [] (enc w t)) ∧ (¬ (w32 x3 = 0) → Ev (d + 10) 105 Q 78 [rA 53, (0, st), (0, sa), (0, dp), (0, ky), (1, kn), (9, 0), (1, 1), (9, 0), (9, 0), (9, 0), (9, 0)] [] (enc w t)))))))) : Ev (d + 10) 105 Q 52 [rA 53, (0, st), (0, sa), (0, dp), (0, ky), (1, kn), (9, 0), (9, 0), (9, 0), (9, 0), (9, 0), (9, 0)] [] (enc w t) := by
  refine e_lda (v := 53) (show am_cd 105 52 = (2, 53, 0, 2, []) by decide +kernel) rfl ?_
  refine e_ldi (show am_cd 105 53 = (2, 54, 1, 0, []) by decide +kernel) rfl ?_
  refine e_cV (z := 0) (a := 53) (as := [(0, st)]) (rest := []) (show am_cd 105 54 = (40, 57, 107, 0, [71]) by decide +kernel) (by decide +kernel) rfl rfl (Nat.le_of_ble_eq_true rfl) rfl ?_
  refine Cl.mono (Cl.up (hW _ _ _ h.1) (by omega)) ?_
  rintro _ _ ⟨x1, rfl, rfl, hp⟩
  refine ⟨fun _ h9 => (by cases h9), ?_⟩
  replace h := h.2 x1 hp
  show Ev _ 105 _ 57 [rA 53, (0, st), (0, sa), (0, dp), (0, ky), (1, kn), (9, 0), (9, 0), (9, 0), (9, 0), (9, 0), (9, 0)] [(0, x1)] _
  refine e_if0 (show am_cd 105 57 = (10, 60, 75, 0, []) by decide +kernel) (fun hc => ?_) (fun hc => ?_)
  · replace h := h.1 hc
    refine e_lc (show am_cd 105 75 = (1, 76, 0, 0, []) by decide +kernel) ?_
    refine e_stl (la2 := [rA 53, (0, st), (0, sa), (0, dp), (0, ky), (1, kn), (9, 0), (1, 0), (9, 0), (9, 0), (9, 0), (9, 0)]) (show am_cd 105 76 = (3, 78, 7, 1, []) by decide +kernel) rfl ?_
    exact h
  · replace h := h.2 hc
    refine e_lda (v := 53) (show am_cd 105 60 = (2, 61, 0, 2, []) by decide +kernel) rfl ?_
    refine e_getr (a := 53) (r := 37) (show am_cd 105 61 = (18, 64, 1003, 2, [30]) by decide +kernel) (by decide +kernel) (by decide +kernel) rfl ?_
    refine e_ldi (show am_cd 105 64 = (2, 65, 2, 0, []) by decide +kernel) rfl ?_
    refine e_cV (z := 0) (a := 37) (as := [(0, sa)]) (rest := []) (show am_cd 105 65 = (40, 68, 40, 0, [75]) by decide +kernel) (by decide +kernel) rfl rfl (Nat.le_of_ble_eq_true rfl) rfl ?_
    obtain ⟨g2, h⟩ := h
    refine Cl.mono (Cl.up (c_meU (m := m) (d := d) g2 h.1) (by omega)) ?_
    rintro _ _ ⟨x3, rfl, rfl, hp⟩
    refine ⟨fun _ h9 => (by cases h9), ?_⟩
    replace h := h.2 x3 hp
    show Ev _ 105 _ 68 [rA 53, (0, st), (0, sa), (0, dp), (0, ky), (1, kn), (9, 0), (9, 0), (9, 0), (9, 0), (9, 0), (9, 0)] [(0, x3)] _
    refine e_if0 (show am_cd 105 68 = (10, 71, 75, 0, []) by decide +kernel) (fun hc => ?_) (fun hc => ?_)
    · replace h := h.1 hc
      refine e_lc (show am_cd 105 75 = (1, 76, 0, 0, []) by decide +kernel) ?_
      refine e_stl (la2 := [rA 53, (0, st), (0, sa), (0, dp), (0, ky), (1, kn), (9, 0), (1, 0), (9, 0), (9, 0), (9, 0), (9, 0)]) (show am_cd 105 76 = (3, 78, 7, 1, []) by decide +kernel) rfl ?_
      exact h
    · replace h := h.2 hc
      refine e_lc (show am_cd 105 71 = (1, 72, 0, 1, []) by decide +kernel) ?_
      refine e_go (show am_cd 105 72 = (12, 76, 0, 0, []) by decide +kernel) ?_
      refine e_stl (la2 := [rA 53, (0, st), (0, sa), (0, dp), (0, ky), (1, kn), (9, 0), (1, 1), (9, 0), (9, 0), (9, 0), (9, 0)]) (show am_cd 105 76 = (3, 78, 7, 1, []) by decide +kernel) rfl ?_
      exact h

theorem g_wy1b {d : Nat} {Q : Option aV → aS → Prop} {w : eW} {t : eT} {st sa dp ky kn su : Int} {m : eW} {b : Nat × Nat} {P : Int → Int → Prop} {FP : Int → Int} {RP : Int → eW → Prop} (hP : ∀ (a0 : Int) (w : eW) (t : eT), RP a0 w → Cl (d + 8) 108 [rA 53, (0, a0)] (enc w t) (fun r S2 => ∃ x, r = some (0, x) ∧ S2 = enc w t ∧ x = FP a0)) (h : (RP st w) ∧ (∀ x1, (x1 = FP st) → (RgM w t (w 37 7).toNat ∧ (0 : Int) ≤ sa ∧ (sa : Int) < w 37 7) ∧ (∀ x2, (x2 = iand (mK w sa.toNat) 131071) → Ev (d + 10) 105 Q 97 [rA 53, (0, st), (0, sa), (0, dp), (0, ky), (1, kn), (9, 0), (1, su), (9, 0), (0, iand x1 x2), (0, 0), (9, 0)] [] (enc w t)))) : Ev (d + 10) 105 Q 78 [rA 53, (0, st), (0, sa), (0, dp), (0, ky), (1, kn), (9, 0), (1, su), (9, 0), (9, 0), (9, 0), (9, 0)] [] (enc w t) := by
  refine e_lda (v := 53) (show am_cd 105 78 = (2, 79, 0, 2, []) by decide +kernel) rfl ?_
  refine e_ldi (show am_cd 105 79 = (2, 80, 1, 0, []) by decide +kernel) rfl ?_
  refine e_cV (z := 0) (a := 53) (as := [(0, st)]) (rest := []) (show am_cd 105 80 = (40, 83, 108, 0, [78]) by decide +kernel) (by decide +kernel) rfl rfl (Nat.le_of_ble_eq_true rfl) rfl ?_
  refine Cl.mono (Cl.up (hP _ _ _ h.1) (by omega)) ?_
  rintro _ _ ⟨x1, rfl, rfl, hp⟩
  refine ⟨fun _ h9 => (by cases h9), ?_⟩
  replace h := h.2 x1 hp
  show Ev _ 105 _ 83 [rA 53, (0, st), (0, sa), (0, dp), (0, ky), (1, kn), (9, 0), (1, su), (9, 0), (9, 0), (9, 0), (9, 0)] [(0, x1)] _
  refine e_lda (v := 53) (show am_cd 105 83 = (2, 84, 0, 2, []) by decide +kernel) rfl ?_
  refine e_getr (a := 53) (r := 37) (show am_cd 105 84 = (18, 87, 1003, 2, [30]) by decide +kernel) (by decide +kernel) (by decide +kernel) rfl ?_
  refine e_ldi (show am_cd 105 87 = (2, 88, 2, 0, []) by decide +kernel) rfl ?_
  refine e_cV (z := 0) (a := 37) (as := [(0, sa)]) (rest := [(0, x1)]) (show am_cd 105 88 = (40, 91, 39, 0, [82]) by decide +kernel) (by decide +kernel) rfl rfl (Nat.le_of_ble_eq_true rfl) rfl ?_
  refine Cl.mono (Cl.up (c_mfoU (d := d) h.1) (by omega)) ?_
  rintro _ _ ⟨x2, rfl, rfl, hp⟩
  refine ⟨fun _ h9 => (by cases h9), ?_⟩
  replace h := h.2 x2 hp
  show Ev _ 105 _ 91 [rA 53, (0, st), (0, sa), (0, dp), (0, ky), (1, kn), (9, 0), (1, su), (9, 0), (9, 0), (9, 0), (9, 0)] [(0, x2), (0, x1)] _
  refine e_iand (show am_cd 105 91 = (5, 92, 3, 0, []) by decide +kernel) ?_
  refine e_sti (la2 := [rA 53, (0, st), (0, sa), (0, dp), (0, ky), (1, kn), (9, 0), (1, su), (9, 0), (0, iand x1 x2), (9, 0), (9, 0)]) (show am_cd 105 92 = (3, 94, 9, 0, []) by decide +kernel) rfl ?_
  refine e_ic (show am_cd 105 94 = (0, 95, 0, 0, []) by decide +kernel) ?_
  refine e_sti (la2 := [rA 53, (0, st), (0, sa), (0, dp), (0, ky), (1, kn), (9, 0), (1, su), (9, 0), (0, iand x1 x2), (0, 0), (9, 0)]) (show am_cd 105 95 = (3, 97, 10, 0, []) by decide +kernel) rfl ?_
  exact h

theorem g_wy2 {d : Nat} {Q : Option aV → aS → Prop} {w : eW} {t : eT} {st sa dp ky kn su ft p : Int} {m : eW} {b : Nat × Nat} {P : Int → Int → Prop} {FB : Int → Int → Int} {RB : Int → Int → eW → Prop} (hB : ∀ (a0 a1 : Int) (w : eW) (t : eT), RB a0 a1 w → Cl (d + 8) 113 [rA 53, (0, a0), (0, a1)] (enc w t) (fun r S2 => ∃ x, r = some (0, x) ∧ S2 = enc w t ∧ x = FB a0 a1)) {γV : Type} {PRV : γV → Int → Int → Int → eW → eT → Prop} {POV : γV → Int → Int → Int → eW → eT → Int → eW → eT → Prop} (hrV : ∀ (g : γV) (a1 a2 a3 : Int) (w : eW) (t : eT), PRV g a1 a2 a3 w t → Cl (d + 9) 105 [rA 53, (0, a1), (0, a2), (0, a3)] (enc w t) (fun r S2 => ∃ x w2 t2, r = some (1, x) ∧ S2 = enc w2 t2 ∧ POV g a1 a2 a3 w t x w2 t2)) (h : ((w32 16 ≤ w32 p → Ev (d + 10) 105 Q 157 [rA 53, (0, st), (0, sa), (0, dp), (0, ky), (1, kn), (9, 0), (1, su), (9, 0), (0, ft), (0, p), (9, 0)] [] (enc w t)) ∧ (¬ (w32 16 ≤ w32 p) → ((w32 (ishr ft p) = 0 → Ev (d + 10) 105 Q 157 [rA 53, (0, st), (0, sa), (0, dp), (0, ky), (1, kn), (9, 0), (1, su), (9, 0), (0, ft), (0, p), (9, 0)] [] (enc w t)) ∧ (¬ (w32 (ishr ft p) = 0) → ((w32 (iand (ishr ft p) 1) = 0 → Ev (d + 10) 105 Q 97 [rA 53, (0, st), (0, sa), (0, dp), (0, ky), (1, kn), (9, 0), (1, su), (9, 0), (0, ft), (0, p + 1), (9, 0)] [] (enc w t)) ∧ (¬ (w32 (iand (ishr ft p) 1) = 0) → (RB st p w) ∧ (∀ x1, (x1 = FB st p) → (RgM w t (w 37 7).toNat ∧ ((0 : Int) ≤ sa ∧ (sa : Int) < w 37 7) ∧ (0 : Int) ≤ p ∧ (p : Int) < 16) ∧ (∀ x2, (x2 = mA w sa.toNat p.toNat) → ∃ g3, (PRV g3 x1 x2 (dp + 1) w t) ∧ (∀ x4 w5 t6, (POV g3 x1 x2 (dp + 1) w t x4 w5 t6) → Ev (d + 10) 105 Q 97 [rA 53, (0, st), (0, sa), (0, dp), (0, ky), (1, kn), (9, 0), (1, su + x4), (9, 0), (0, ft), (0, p + 1), (9, 0)] [] (enc w5 t6))))))))))) : Ev (d + 10) 105 Q 97 [rA 53, (0, st), (0, sa), (0, dp), (0, ky), (1, kn), (9, 0), (1, su), (9, 0), (0, ft), (0, p), (9, 0)] [] (enc w t) := by
  refine e_ldi (show am_cd 105 97 = (2, 99, 10, 0, []) by decide +kernel) rfl ?_
  refine e_ic (show am_cd 105 99 = (0, 101, 1, 16, []) by decide +kernel) ?_
  refine e_cmp3 (show am_cd 105 101 = (11, 104, 157, 3, []) by decide +kernel) (fun hc => ?_) (fun hc => ?_)
  · replace h := h.1 hc
    exact h
  · replace h := h.2 hc
    refine e_ldi (show am_cd 105 104 = (2, 106, 9, 0, []) by decide +kernel) rfl ?_
    refine e_ldi (show am_cd 105 106 = (2, 108, 10, 0, []) by decide +kernel) rfl ?_
    refine e_ishr (show am_cd 105 108 = (5, 109, 7, 0, []) by decide +kernel) ?_
    refine e_if0 (show am_cd 105 109 = (10, 112, 157, 0, []) by decide +kernel) (fun hc => ?_) (fun hc => ?_)
    · replace h := h.1 hc
      exact h
    · replace h := h.2 hc
      refine e_ldi (show am_cd 105 112 = (2, 114, 9, 0, []) by decide +kernel) rfl ?_
      refine e_ldi (show am_cd 105 114 = (2, 116, 10, 0, []) by decide +kernel) rfl ?_
      refine e_ishr (show am_cd 105 116 = (5, 117, 7, 0, []) by decide +kernel) ?_
      refine e_ic (show am_cd 105 117 = (0, 118, 0, 1, []) by decide +kernel) ?_
      refine e_iand (show am_cd 105 118 = (5, 119, 3, 0, []) by decide +kernel) ?_
      refine e_if0 (show am_cd 105 119 = (10, 122, 151, 0, []) by decide +kernel) (fun hc => ?_) (fun hc => ?_)
      · replace h := h.1 hc
        refine e_inc (la2 := [rA 53, (0, st), (0, sa), (0, dp), (0, ky), (1, kn), (9, 0), (1, su), (9, 0), (0, ft), (0, p + 1), (9, 0)]) (show am_cd 105 151 = (4, 154, 10, 1, []) by decide +kernel) rfl rfl ?_
        refine e_go (show am_cd 105 154 = (12, 97, 0, 0, []) by decide +kernel) ?_
        exact h
      · replace h := h.2 hc
        refine e_ldl (show am_cd 105 122 = (2, 124, 7, 1, []) by decide +kernel) rfl ?_
        refine e_lda (v := 53) (show am_cd 105 124 = (2, 125, 0, 2, []) by decide +kernel) rfl ?_
        refine e_lda (v := 53) (show am_cd 105 125 = (2, 126, 0, 2, []) by decide +kernel) rfl ?_
        refine e_ldi (show am_cd 105 126 = (2, 127, 1, 0, []) by decide +kernel) rfl ?_
        refine e_ldi (show am_cd 105 127 = (2, 129, 10, 0, []) by decide +kernel) rfl ?_
        refine e_cV (z := 0) (a := 53) (as := [(0, st), (0, p)]) (rest := [rA 53, (1, su)]) (show am_cd 105 129 = (40, 132, 113, 0, [85]) by decide +kernel) (by decide +kernel) rfl rfl (Nat.le_of_ble_eq_true rfl) rfl ?_
        refine Cl.mono (Cl.up (hB _ _ _ _ h.1) (by omega)) ?_
        rintro _ _ ⟨x1, rfl, rfl, hp⟩
        refine ⟨fun _ h9 => (by cases h9), ?_⟩
        replace h := h.2 x1 hp
        show Ev _ 105 _ 132 [rA 53, (0, st), (0, sa), (0, dp), (0, ky), (1, kn), (9, 0), (1, su), (9, 0), (0, ft), (0, p), (9, 0)] [(0, x1), rA 53, (1, su)] _
        refine e_lda (v := 53) (show am_cd 105 132 = (2, 133, 0, 2, []) by decide +kernel) rfl ?_
        refine e_getr (a := 53) (r := 37) (show am_cd 105 133 = (18, 136, 1003, 2, [30]) by decide +kernel) (by decide +kernel) (by decide +kernel) rfl ?_
        refine e_ldi (show am_cd 105 136 = (2, 137, 2, 0, []) by decide +kernel) rfl ?_
        refine e_ldi (show am_cd 105 137 = (2, 139, 10, 0, []) by decide +kernel) rfl ?_
        refine e_cV (z := 0) (a := 37) (as := [(0, sa), (0, p)]) (rest := [(0, x1), rA 53, (1, su)]) (show am_cd 105 139 = (40, 142, 41, 0, [89]) by decide +kernel) (by decide +kernel) rfl rfl (Nat.le_of_ble_eq_true rfl) rfl ?_
        refine Cl.mono (Cl.up (c_behU (d := d) h.1) (by omega)) ?_
        rintro _ _ ⟨x2, rfl, rfl, hp⟩
        refine ⟨fun _ h9 => (by cases h9), ?_⟩
        replace h := h.2 x2 hp
        show Ev _ 105 _ 142 [rA 53, (0, st), (0, sa), (0, dp), (0, ky), (1, kn), (9, 0), (1, su), (9, 0), (0, ft), (0, p), (9, 0)] [(0, x2), (0, x1), rA 53, (1, su)] _
        refine e_ldi (show am_cd 105 142 = (2, 143, 3, 0, []) by decide +kernel) rfl ?_
        refine e_ic (show am_cd 105 143 = (0, 144, 0, 1, []) by decide +kernel) ?_
        refine e_iadd (show am_cd 105 144 = (5, 145, 0, 0, []) by decide +kernel) ?_
        refine e_cV (z := 0) (a := 53) (as := [(0, x1), (0, x2), (0, dp + 1)]) (rest := [(1, su)]) (show am_cd 105 145 = (40, 148, 105, 0, [54]) by decide +kernel) (by decide +kernel) rfl rfl (Nat.le_of_ble_eq_true rfl) rfl ?_
        obtain ⟨g3, h⟩ := h
        refine Cl.mono (Cl.up (hrV g3 _ _ _ _ _ h.1) (by omega)) ?_
        rintro _ _ ⟨x4, w5, t6, rfl, rfl, hp⟩
        refine ⟨fun _ h9 => (by cases h9), ?_⟩
        replace h := h.2 x4 w5 t6 hp
        show Ev _ 105 _ 148 [rA 53, (0, st), (0, sa), (0, dp), (0, ky), (1, kn), (9, 0), (1, su), (9, 0), (0, ft), (0, p), (9, 0)] [(1, x4), (1, su)] _
        refine e_ladd (show am_cd 105 148 = (6, 149, 0, 0, []) by decide +kernel) ?_
        refine e_stl (la2 := [rA 53, (0, st), (0, sa), (0, dp), (0, ky), (1, kn), (9, 0), (1, su + x4), (9, 0), (0, ft), (0, p), (9, 0)]) (show am_cd 105 149 = (3, 151, 7, 1, []) by decide +kernel) rfl ?_
        refine e_inc (la2 := [rA 53, (0, st), (0, sa), (0, dp), (0, ky), (1, kn), (9, 0), (1, su + x4), (9, 0), (0, ft), (0, p + 1), (9, 0)]) (show am_cd 105 151 = (4, 154, 10, 1, []) by decide +kernel) rfl rfl ?_
        refine e_go (show am_cd 105 154 = (12, 97, 0, 0, []) by decide +kernel) ?_
        exact h

theorem g_wy3 {d : Nat} {Q : Option aV → aS → Prop} {w : eW} {t : eT} {st sa dp ky kn su ft p : Int} {m : eW} {b : Nat × Nat} {P : Int → Int → Prop} {FE : Int → Int} {RE : Int → eW → Prop} (hE : ∀ (a0 : Int) (w : eW) (t : eT), RE a0 w → Cl (d + 8) 115 [rA 53, (0, a0)] (enc w t) (fun r S2 => ∃ x, r = some (0, x) ∧ S2 = enc w t ∧ x = FE a0)) (h : (RE st w) ∧ (∀ x1, (x1 = FE st) → Ev (d + 10) 105 Q 167 [rA 53, (0, st), (0, sa), (0, dp), (0, ky), (1, kn), (9, 0), (1, su), (9, 0), (0, ft), (0, x1), (0, 0)] [] (enc w t))) : Ev (d + 10) 105 Q 157 [rA 53, (0, st), (0, sa), (0, dp), (0, ky), (1, kn), (9, 0), (1, su), (9, 0), (0, ft), (0, p), (9, 0)] [] (enc w t) := by
  refine e_lda (v := 53) (show am_cd 105 157 = (2, 158, 0, 2, []) by decide +kernel) rfl ?_
  refine e_ldi (show am_cd 105 158 = (2, 159, 1, 0, []) by decide +kernel) rfl ?_
  refine e_cV (z := 0) (a := 53) (as := [(0, st)]) (rest := []) (show am_cd 105 159 = (40, 162, 115, 0, [92]) by decide +kernel) (by decide +kernel) rfl rfl (Nat.le_of_ble_eq_true rfl) rfl ?_
  refine Cl.mono (Cl.up (hE _ _ _ h.1) (by omega)) ?_
  rintro _ _ ⟨x1, rfl, rfl, hp⟩
  refine ⟨fun _ h9 => (by cases h9), ?_⟩
  replace h := h.2 x1 hp
  show Ev _ 105 _ 162 [rA 53, (0, st), (0, sa), (0, dp), (0, ky), (1, kn), (9, 0), (1, su), (9, 0), (0, ft), (0, p), (9, 0)] [(0, x1)] _
  refine e_sti (la2 := [rA 53, (0, st), (0, sa), (0, dp), (0, ky), (1, kn), (9, 0), (1, su), (9, 0), (0, ft), (0, x1), (9, 0)]) (show am_cd 105 162 = (3, 164, 10, 0, []) by decide +kernel) rfl ?_
  refine e_ic (show am_cd 105 164 = (0, 165, 0, 0, []) by decide +kernel) ?_
  refine e_sti (la2 := [rA 53, (0, st), (0, sa), (0, dp), (0, ky), (1, kn), (9, 0), (1, su), (9, 0), (0, ft), (0, x1), (0, 0)]) (show am_cd 105 165 = (3, 167, 11, 0, []) by decide +kernel) rfl ?_
  exact h

theorem g_wy4 {d : Nat} {Q : Option aV → aS → Prop} {w : eW} {t : eT} {st sa dp ky kn su ft ch e : Int} {m : eW} {b : Nat × Nat} {P : Int → Int → Prop} {FI : Int → Int → Int} {RI : Int → Int → eW → Prop} (hI : ∀ (a0 a1 : Int) (w : eW) (t : eT), RI a0 a1 w → Cl (d + 8) 116 [rA 53, (0, a0), (0, a1)] (enc w t) (fun r S2 => ∃ x, r = some (0, x) ∧ S2 = enc w t ∧ x = FI a0 a1)) {γV : Type} {PRV : γV → Int → Int → Int → eW → eT → Prop} {POV : γV → Int → Int → Int → eW → eT → Int → eW → eT → Prop} (hrV : ∀ (g : γV) (a1 a2 a3 : Int) (w : eW) (t : eT), PRV g a1 a2 a3 w t → Cl (d + 9) 105 [rA 53, (0, a1), (0, a2), (0, a3)] (enc w t) (fun r S2 => ∃ x w2 t2, r = some (1, x) ∧ S2 = enc w2 t2 ∧ POV g a1 a2 a3 w t x w2 t2)) (h : ((w32 16 ≤ w32 e → Ev (d + 10) 105 Q 218 [rA 53, (0, st), (0, sa), (0, dp), (0, ky), (1, kn), (9, 0), (1, su), (9, 0), (0, ft), (0, ch), (0, e)] [] (enc w t)) ∧ (¬ (w32 16 ≤ w32 e) → ((w32 (ishr ch e) = 0 → Ev (d + 10) 105 Q 218 [rA 53, (0, st), (0, sa), (0, dp), (0, ky), (1, kn), (9, 0), (1, su), (9, 0), (0, ft), (0, ch), (0, e)] [] (enc w t)) ∧ (¬ (w32 (ishr ch e) = 0) → ((w32 (iand (ishr ch e) 1) = 0 → Ev (d + 10) 105 Q 167 [rA 53, (0, st), (0, sa), (0, dp), (0, ky), (1, kn), (9, 0), (1, su), (9, 0), (0, ft), (0, ch), (0, e + 1)] [] (enc w t)) ∧ (¬ (w32 (iand (ishr ch e) 1) = 0) → (RI st e w) ∧ (∀ x1, (x1 = FI st e) → ∃ g2, (PRV g2 x1 sa (dp + 1) w t) ∧ (∀ x3 w4 t5, (POV g2 x1 sa (dp + 1) w t x3 w4 t5) → Ev (d + 10) 105 Q 167 [rA 53, (0, st), (0, sa), (0, dp), (0, ky), (1, kn), (9, 0), (1, su + x3), (9, 0), (0, ft), (0, ch), (0, e + 1)] [] (enc w4 t5)))))))))) : Ev (d + 10) 105 Q 167 [rA 53, (0, st), (0, sa), (0, dp), (0, ky), (1, kn), (9, 0), (1, su), (9, 0), (0, ft), (0, ch), (0, e)] [] (enc w t) := by
  refine e_ldi (show am_cd 105 167 = (2, 169, 11, 0, []) by decide +kernel) rfl ?_
  refine e_ic (show am_cd 105 169 = (0, 171, 1, 16, []) by decide +kernel) ?_
  refine e_cmp3 (show am_cd 105 171 = (11, 174, 218, 3, []) by decide +kernel) (fun hc => ?_) (fun hc => ?_)
  · replace h := h.1 hc
    exact h
  · replace h := h.2 hc
    refine e_ldi (show am_cd 105 174 = (2, 176, 10, 0, []) by decide +kernel) rfl ?_
    refine e_ldi (show am_cd 105 176 = (2, 178, 11, 0, []) by decide +kernel) rfl ?_
    refine e_ishr (show am_cd 105 178 = (5, 179, 7, 0, []) by decide +kernel) ?_
    refine e_if0 (show am_cd 105 179 = (10, 182, 218, 0, []) by decide +kernel) (fun hc => ?_) (fun hc => ?_)
    · replace h := h.1 hc
      exact h
    · replace h := h.2 hc
      refine e_ldi (show am_cd 105 182 = (2, 184, 10, 0, []) by decide +kernel) rfl ?_
      refine e_ldi (show am_cd 105 184 = (2, 186, 11, 0, []) by decide +kernel) rfl ?_
      refine e_ishr (show am_cd 105 186 = (5, 187, 7, 0, []) by decide +kernel) ?_
      refine e_ic (show am_cd 105 187 = (0, 188, 0, 1, []) by decide +kernel) ?_
      refine e_iand (show am_cd 105 188 = (5, 189, 3, 0, []) by decide +kernel) ?_
      refine e_if0 (show am_cd 105 189 = (10, 192, 212, 0, []) by decide +kernel) (fun hc => ?_) (fun hc => ?_)
      · replace h := h.1 hc
        refine e_inc (la2 := [rA 53, (0, st), (0, sa), (0, dp), (0, ky), (1, kn), (9, 0), (1, su), (9, 0), (0, ft), (0, ch), (0, e + 1)]) (show am_cd 105 212 = (4, 215, 11, 1, []) by decide +kernel) rfl rfl ?_
        refine e_go (show am_cd 105 215 = (12, 167, 0, 0, []) by decide +kernel) ?_
        exact h
      · replace h := h.2 hc
        refine e_ldl (show am_cd 105 192 = (2, 194, 7, 1, []) by decide +kernel) rfl ?_
        refine e_lda (v := 53) (show am_cd 105 194 = (2, 195, 0, 2, []) by decide +kernel) rfl ?_
        refine e_lda (v := 53) (show am_cd 105 195 = (2, 196, 0, 2, []) by decide +kernel) rfl ?_
        refine e_ldi (show am_cd 105 196 = (2, 197, 1, 0, []) by decide +kernel) rfl ?_
        refine e_ldi (show am_cd 105 197 = (2, 199, 11, 0, []) by decide +kernel) rfl ?_
        refine e_cV (z := 0) (a := 53) (as := [(0, st), (0, e)]) (rest := [rA 53, (1, su)]) (show am_cd 105 199 = (40, 202, 116, 0, [95]) by decide +kernel) (by decide +kernel) rfl rfl (Nat.le_of_ble_eq_true rfl) rfl ?_
        refine Cl.mono (Cl.up (hI _ _ _ _ h.1) (by omega)) ?_
        rintro _ _ ⟨x1, rfl, rfl, hp⟩
        refine ⟨fun _ h9 => (by cases h9), ?_⟩
        replace h := h.2 x1 hp
        show Ev _ 105 _ 202 [rA 53, (0, st), (0, sa), (0, dp), (0, ky), (1, kn), (9, 0), (1, su), (9, 0), (0, ft), (0, ch), (0, e)] [(0, x1), rA 53, (1, su)] _
        refine e_ldi (show am_cd 105 202 = (2, 203, 2, 0, []) by decide +kernel) rfl ?_
        refine e_ldi (show am_cd 105 203 = (2, 204, 3, 0, []) by decide +kernel) rfl ?_
        refine e_ic (show am_cd 105 204 = (0, 205, 0, 1, []) by decide +kernel) ?_
        refine e_iadd (show am_cd 105 205 = (5, 206, 0, 0, []) by decide +kernel) ?_
        refine e_cV (z := 0) (a := 53) (as := [(0, x1), (0, sa), (0, dp + 1)]) (rest := [(1, su)]) (show am_cd 105 206 = (40, 209, 105, 0, [54]) by decide +kernel) (by decide +kernel) rfl rfl (Nat.le_of_ble_eq_true rfl) rfl ?_
        obtain ⟨g2, h⟩ := h
        refine Cl.mono (Cl.up (hrV g2 _ _ _ _ _ h.1) (by omega)) ?_
        rintro _ _ ⟨x3, w4, t5, rfl, rfl, hp⟩
        refine ⟨fun _ h9 => (by cases h9), ?_⟩
        replace h := h.2 x3 w4 t5 hp
        show Ev _ 105 _ 209 [rA 53, (0, st), (0, sa), (0, dp), (0, ky), (1, kn), (9, 0), (1, su), (9, 0), (0, ft), (0, ch), (0, e)] [(1, x3), (1, su)] _
        refine e_ladd (show am_cd 105 209 = (6, 210, 0, 0, []) by decide +kernel) ?_
        refine e_stl (la2 := [rA 53, (0, st), (0, sa), (0, dp), (0, ky), (1, kn), (9, 0), (1, su + x3), (9, 0), (0, ft), (0, ch), (0, e)]) (show am_cd 105 210 = (3, 212, 7, 1, []) by decide +kernel) rfl ?_
        refine e_inc (la2 := [rA 53, (0, st), (0, sa), (0, dp), (0, ky), (1, kn), (9, 0), (1, su + x3), (9, 0), (0, ft), (0, ch), (0, e + 1)]) (show am_cd 105 212 = (4, 215, 11, 1, []) by decide +kernel) rfl rfl ?_
        refine e_go (show am_cd 105 215 = (12, 167, 0, 0, []) by decide +kernel) ?_
        exact h

theorem g_wy5 {d : Nat} {Q : Option aV → aS → Prop} {w : eW} {t : eT} {st sa dp ky kn su ft ch e : Int} {m : eW} {b : Nat × Nat} {P : Int → Int → Prop} (h : (MC P b m w t ∧ (0 ≤ ky ∧ ky < 2147483648) ∧ P ky su) ∧ (∀ w1 t2, (MR w t w1 t2 ∧ MC P b m w1 t2) → Q (some (1, su)) (enc w1 t2))) : Ev (d + 10) 105 Q 218 [rA 53, (0, st), (0, sa), (0, dp), (0, ky), (1, kn), (9, 0), (1, su), (9, 0), (0, ft), (0, ch), (0, e)] [] (enc w t) := by
  refine e_lda (v := 53) (show am_cd 105 218 = (2, 219, 0, 2, []) by decide +kernel) rfl ?_
  refine e_getr (a := 53) (r := 45) (show am_cd 105 219 = (18, 222, 1004, 2, [34]) by decide +kernel) (by decide +kernel) (by decide +kernel) rfl ?_
  refine e_ldi (show am_cd 105 222 = (2, 224, 4, 0, []) by decide +kernel) rfl ?_
  refine e_ldl (show am_cd 105 224 = (2, 226, 7, 1, []) by decide +kernel) rfl ?_
  refine e_cV (z := 0) (a := 45) (as := [(0, ky), (1, su)]) (rest := []) (show am_cd 105 226 = (40, 229, 47, 0, [98]) by decide +kernel) (by decide +kernel) rfl rfl (Nat.le_of_ble_eq_true rfl) rfl ?_
  refine Cl.mono (Cl.up (m_put (P := P) (m := m) (b := b) (d := d) h.1) (by omega)) ?_
  rintro _ _ ⟨w1, t2, rfl, rfl, hp⟩
  refine ⟨fun _ h9 => (by cases h9), ?_⟩
  replace h := h.2 w1 t2 hp
  show Ev _ 105 _ 229 [rA 53, (0, st), (0, sa), (0, dp), (0, ky), (1, kn), (9, 0), (1, su), (9, 0), (0, ft), (0, ch), (0, e)] [] _
  refine e_ldl (show am_cd 105 229 = (2, 231, 7, 1, []) by decide +kernel) rfl ?_
  exact e_retl (show am_cd 105 231 = (36, 232, 1, 0, []) by decide +kernel) (by decide +kernel) h

