/-! The model: the first readings (regions). -/
theorem c_keepsT {d : Nat} {w : eW} {t : eT} {ks : kT} {ml el : List Nat} (h : KM w ks ∧ MdM w ml ∧ WdM w el ∧ el ≠ []) : Cl d 212 [rA 67, (0, 1)] (enc w t) (fun r S2 => ∃ w2, r = none ∧ S2 = enc w2 t ∧ FrK w w2 ∧ KM w2 ((ks ++ [(ml, el)]).take 20)) := c_keeps (z := true) ⟨h.1, h.2.1, fun _ => h.2.2, fun h9 => (by cases h9)⟩
abbrev gT : Type := kT × List Nat × List Nat
def gOK (g : gT) (w : eW) : Prop := KM w g.1 ∧ MdM w g.2.1 ∧ WdM w g.2.2

theorem g_colEnd0 {d : Nat} {Q : Option aV → aS → Prop} {w : eW} {t : eT} {j a b c : Int} {m : eW} {ll : Nat → Int} {nl : Nat} {wo : Int} {J J2 : aV} (hw : w32 wo = wo) (h : ((¬ w32 j = w32 (w 67 48) → Ev (d + 6) 247 Q 27 [rA 67, (0, j), (0, a), (0, b), (0, c), (0, 0)] [] (enc w t)) ∧ (¬ (¬ w32 j = w32 (w 67 48)) → (MG w m ∧ w 67 35 = wo ∧ gE a ∧ gE b ∧ gC m c) ∧ (((isE m wo a.toNat b.toNat c.toNat) = false → Ev (d + 6) 247 Q 27 [rA 67, (0, j), (0, a), (0, b), (0, c), (0, 0)] [] (enc w t)) ∧ ((isE m wo a.toNat b.toNat c.toNat) = true → ∃ g1 : gT, (KM w g1.1 ∧ MdM w g1.2.1 ∧ WdM w g1.2.2 ∧ g1.2.2 ≠ []) ∧ (∀ w2, (FrK w w2 ∧ KM w2 ((g1.1 ++ [(g1.2.1, g1.2.2)]).take 20)) → Ev (d + 6) 247 Q 27 [rA 67, (0, j), (0, a), (0, b), (0, c), (0, 0)] [] (enc w2 t))))))) : Cl (d + 6) 247 [rA 67, (0, j), (0, a), (0, b), (0, c)] (enc w t) Q := by
  show Ev (d + 6) 247 Q 0 [rA 67, (0, j), (0, a), (0, b), (0, c), (9, 0)] [] (enc w t)
  refine e_ldi (show am_cd 247 0 = (2, 1, 1, 0, []) by decide +kernel) rfl ?_
  refine e_lda (v := 67) (show am_cd 247 1 = (2, 2, 0, 2, []) by decide +kernel) rfl ?_
  refine e_getf (a := 67) (tg := 0) (show am_cd 247 2 = (18, 5, 1248, 0, [348]) by decide +kernel) (by decide +kernel) (by decide +kernel) rfl ?_
  refine e_cmp1 (show am_cd 247 5 = (11, 8, 24, 1, []) by decide +kernel) (fun hc => ?_) (fun hc => ?_)
  · replace h := h.1 hc
    refine e_ic (show am_cd 247 24 = (0, 25, 0, 0, []) by decide +kernel) ?_
    refine e_sti (la2 := [rA 67, (0, j), (0, a), (0, b), (0, c), (0, 0)]) (show am_cd 247 25 = (3, 27, 5, 0, []) by decide +kernel) rfl ?_
    exact h
  · replace h := h.2 hc
    refine e_lda (v := 67) (show am_cd 247 8 = (2, 9, 0, 2, []) by decide +kernel) rfl ?_
    refine e_ldi (show am_cd 247 9 = (2, 10, 2, 0, []) by decide +kernel) rfl ?_
    refine e_ldi (show am_cd 247 10 = (2, 11, 3, 0, []) by decide +kernel) rfl ?_
    refine e_ldi (show am_cd 247 11 = (2, 13, 4, 0, []) by decide +kernel) rfl ?_
    refine e_cV (z := 0) (a := 67) (as := [(0, a), (0, b), (0, c)]) (rest := []) (show am_cd 247 13 = (40, 16, 211, 0, [285]) by decide +kernel) (by decide +kernel) rfl rfl (Nat.le_of_ble_eq_true rfl) rfl ?_
    refine Cl.mono (Cl.up (c_isEnd (hw := hw) (d := d) h.1) (by omega)) ?_
    rintro _ _ ⟨rfl, rfl⟩
    refine ⟨fun _ h9 => (by cases h9), ?_⟩
    replace h := h.2
    show Ev _ 247 _ 16 [rA 67, (0, j), (0, a), (0, b), (0, c), (9, 0)] [(0, bI (isE m wo a.toNat b.toNat c.toNat))] _
    refine e_ifb0 (show am_cd 247 16 = (10, 19, 24, 0, []) by decide +kernel) (fun hc => ?_) (fun hc => ?_)
    · replace h := h.1 hc
      refine e_ic (show am_cd 247 24 = (0, 25, 0, 0, []) by decide +kernel) ?_
      refine e_sti (la2 := [rA 67, (0, j), (0, a), (0, b), (0, c), (0, 0)]) (show am_cd 247 25 = (3, 27, 5, 0, []) by decide +kernel) rfl ?_
      exact h
    · replace h := h.2 hc
      refine e_lda (v := 67) (show am_cd 247 19 = (2, 20, 0, 2, []) by decide +kernel) rfl ?_
      refine e_ic (show am_cd 247 20 = (0, 21, 0, 1, []) by decide +kernel) ?_
      refine e_cV (z := 0) (a := 67) (as := [(0, 1)]) (rest := []) (show am_cd 247 21 = (40, 24, 212, 0, [320]) by decide +kernel) (by decide +kernel) rfl rfl (Nat.le_of_ble_eq_true rfl) rfl ?_
      obtain ⟨g1, h⟩ := h
      refine Cl.mono (Cl.up (c_keepsT (d := d) h.1) (by omega)) ?_
      rintro _ _ ⟨w2, rfl, rfl, hp⟩
      refine ⟨fun _ h9 => (by cases h9), ?_⟩
      replace h := h.2 w2 hp
      show Ev _ 247 _ 24 [rA 67, (0, j), (0, a), (0, b), (0, c), (9, 0)] [] _
      refine e_ic (show am_cd 247 24 = (0, 25, 0, 0, []) by decide +kernel) ?_
      refine e_sti (la2 := [rA 67, (0, j), (0, a), (0, b), (0, c), (0, 0)]) (show am_cd 247 25 = (3, 27, 5, 0, []) by decide +kernel) rfl ?_
      exact h

theorem g_colEnd1 {d : Nat} {Q : Option aV → aS → Prop} {w : eW} {t : eT} {j a b c i : Int} {m : eW} {ll : Nat → Int} {nl : Nat} {wo : Int} {J J2 : aV} (hw : w32 wo = wo) (h : ((w32 (w 67 0) ≤ w32 i → Q none (enc w t)) ∧ (¬ (w32 (w 67 0) ≤ w32 i) → (MX w m ∧ w 67 35 = -1 ∧ LoM w ll nl ∧ (0 ≤ j ∧ j ≤ nl) ∧ gE a ∧ gE b ∧ gC m c ∧ gP m i) ∧ (((isLs m ll nl j.toNat a.toNat b.toNat c.toNat i.toNat) = true → (0 ≤ w32 (w 67 40) ∧ w32 (w 67 40) < 16) ∧ (∃ g1 : gT, (KM (wu (wu w 94 (w32 (w 67 40)).toNat i) 67 40 ((w 67 40) + 1)) g1.1 ∧ MdM (wu (wu w 94 (w32 (w 67 40)).toNat i) 67 40 ((w 67 40) + 1)) g1.2.1 ∧ WdM (wu (wu w 94 (w32 (w 67 40)).toNat i) 67 40 ((w 67 40) + 1)) g1.2.2 ∧ g1.2.2 ≠ []) ∧ (∀ w2, (FrK (wu (wu w 94 (w32 (w 67 40)).toNat i) 67 40 ((w 67 40) + 1)) w2 ∧ KM w2 ((g1.1 ++ [(g1.2.1, g1.2.2)]).take 20)) → Ev (d + 6) 247 Q 27 [rA 67, (0, j), (0, a), (0, b), (0, c), (0, i + 1)] [] (enc (wu w2 67 40 ((w2 67 40) - 1)) t)))) ∧ ((isLs m ll nl j.toNat a.toNat b.toNat c.toNat i.toNat) = false → Ev (d + 6) 247 Q 27 [rA 67, (0, j), (0, a), (0, b), (0, c), (0, i + 1)] [] (enc w t)))))) : Ev (d + 6) 247 Q 27 [rA 67, (0, j), (0, a), (0, b), (0, c), (0, i)] [] (enc w t) := by
  refine e_ldi (show am_cd 247 27 = (2, 29, 5, 0, []) by decide +kernel) rfl ?_
  refine e_lda (v := 67) (show am_cd 247 29 = (2, 30, 0, 2, []) by decide +kernel) rfl ?_
  refine e_getf (a := 67) (tg := 0) (show am_cd 247 30 = (18, 33, 1200, 0, [168]) by decide +kernel) (by decide +kernel) (by decide +kernel) rfl ?_
  refine e_cmp3 (show am_cd 247 33 = (11, 36, 80, 3, []) by decide +kernel) (fun hc => ?_) (fun hc => ?_)
  · replace h := h.1 hc
    exact e_retv (show am_cd 247 80 = (36, 81, 3, 0, []) by decide +kernel) (by decide +kernel) h
  · replace h := h.2 hc
    refine e_lda (v := 67) (show am_cd 247 36 = (2, 37, 0, 2, []) by decide +kernel) rfl ?_
    refine e_ldi (show am_cd 247 37 = (2, 38, 1, 0, []) by decide +kernel) rfl ?_
    refine e_ldi (show am_cd 247 38 = (2, 39, 2, 0, []) by decide +kernel) rfl ?_
    refine e_ldi (show am_cd 247 39 = (2, 40, 3, 0, []) by decide +kernel) rfl ?_
    refine e_ldi (show am_cd 247 40 = (2, 42, 4, 0, []) by decide +kernel) rfl ?_
    refine e_ldi (show am_cd 247 42 = (2, 44, 5, 0, []) by decide +kernel) rfl ?_
    refine e_cV (z := 0) (a := 67) (as := [(0, j), (0, a), (0, b), (0, c), (0, i)]) (rest := []) (show am_cd 247 44 = (40, 47, 244, 0, [404]) by decide +kernel) (by decide +kernel) rfl rfl (Nat.le_of_ble_eq_true rfl) rfl ?_
    refine Cl.mono (Cl.up (c_isLast (d := d) h.1) (by omega)) ?_
    rintro _ _ ⟨rfl, rfl⟩
    refine ⟨fun _ h9 => (by cases h9), ?_⟩
    replace h := h.2
    show Ev _ 247 _ 47 [rA 67, (0, j), (0, a), (0, b), (0, c), (0, i)] [(0, bI (isLs m ll nl j.toNat a.toNat b.toNat c.toNat i.toNat))] _
    refine e_ifb1 (show am_cd 247 47 = (10, 50, 53, 1, []) by decide +kernel) (fun hc => ?_) (fun hc => ?_)
    · replace h := h.1 hc
      refine e_lda (v := 67) (show am_cd 247 53 = (2, 54, 0, 2, []) by decide +kernel) rfl ?_
      refine e_ldi (show am_cd 247 54 = (2, 56, 5, 0, []) by decide +kernel) rfl ?_
      refine e_cV (z := 0) (a := 67) (as := [(0, i)]) (rest := []) (show am_cd 247 56 = (40, 59, 213, 0, [317]) by decide +kernel) (by decide +kernel) rfl rfl (Nat.le_of_ble_eq_true rfl) rfl ?_
      show Ev _ 213 _ 0 [rA 67, (0, i)] [] _
      refine e_lda (v := 67) (show am_cd 213 0 = (2, 1, 0, 2, []) by decide +kernel) rfl ?_
      refine e_getr (a := 67) (r := 94) (show am_cd 213 1 = (18, 4, 1239, 2, [95]) by decide +kernel) (by decide +kernel) (by decide +kernel) rfl ?_
      refine e_lda (v := 67) (show am_cd 213 4 = (2, 5, 0, 2, []) by decide +kernel) rfl ?_
      refine e_getf (a := 67) (tg := 0) (show am_cd 213 5 = (18, 8, 1240, 0, [272]) by decide +kernel) (by decide +kernel) (by decide +kernel) rfl ?_
      refine e_ldi (show am_cd 213 8 = (2, 9, 1, 0, []) by decide +kernel) rfl ?_
      refine e_iast (a := 94) (n := 16) (show am_cd 213 9 = (24, 10, 0, 0, []) by decide +kernel) (by decide +kernel) (by decide +kernel) (by decide +kernel) h.1 ?_
      replace h := h.2
      refine e_lda (v := 67) (show am_cd 213 10 = (2, 11, 0, 2, []) by decide +kernel) rfl ?_
      refine e_dup (show am_cd 213 11 = (13, 12, 0, 0, []) by decide +kernel) (by decide) ?_
      refine e_getfE (a := 67) (tg := 0) (v := w 67 40) (show am_cd 213 12 = (18, 15, 1240, 0, [272]) by decide +kernel) (by decide +kernel) (by decide +kernel) rfl rfl ?_
      refine e_ic (show am_cd 213 15 = (0, 16, 0, 1, []) by decide +kernel) ?_
      refine e_iadd (show am_cd 213 16 = (5, 17, 0, 0, []) by decide +kernel) ?_
      refine e_putf (a := 67) (show am_cd 213 17 = (19, 20, 1240, 0, [272]) by decide +kernel) (by decide +kernel) (by decide +kernel) rfl (fun h9 => absurd h9 (by decide)) (fun h9 => absurd h9 (by decide +kernel)) ?_
      refine e_retv (show am_cd 213 20 = (36, 21, 3, 0, []) by decide +kernel) (by decide +kernel) ⟨fun _ h9 => (by cases h9), ?_⟩
      show Ev _ 247 _ 59 [rA 67, (0, j), (0, a), (0, b), (0, c), (0, i)] [] _
      refine e_lda (v := 67) (show am_cd 247 59 = (2, 60, 0, 2, []) by decide +kernel) rfl ?_
      refine e_ic (show am_cd 247 60 = (0, 61, 0, 1, []) by decide +kernel) ?_
      refine e_cV (z := 0) (a := 67) (as := [(0, 1)]) (rest := []) (show am_cd 247 61 = (40, 64, 212, 0, [320]) by decide +kernel) (by decide +kernel) rfl rfl (Nat.le_of_ble_eq_true rfl) rfl ?_
      obtain ⟨g1, h⟩ := h
      refine Cl.mono (Cl.up (c_keepsT (d := d) h.1) (by omega)) ?_
      rintro _ _ ⟨w2, rfl, rfl, hp⟩
      refine ⟨fun _ h9 => (by cases h9), ?_⟩
      replace h := h.2 w2 hp
      show Ev _ 247 _ 64 [rA 67, (0, j), (0, a), (0, b), (0, c), (0, i)] [] _
      refine e_lda (v := 67) (show am_cd 247 64 = (2, 65, 0, 2, []) by decide +kernel) rfl ?_
      refine e_dup (show am_cd 247 65 = (13, 66, 0, 0, []) by decide +kernel) (by decide) ?_
      refine e_getf (a := 67) (tg := 0) (show am_cd 247 66 = (18, 69, 1240, 0, [272]) by decide +kernel) (by decide +kernel) (by decide +kernel) rfl ?_
      refine e_ic (show am_cd 247 69 = (0, 70, 0, 1, []) by decide +kernel) ?_
      refine e_isub (show am_cd 247 70 = (5, 71, 1, 0, []) by decide +kernel) ?_
      refine e_putf (a := 67) (show am_cd 247 71 = (19, 74, 1240, 0, [272]) by decide +kernel) (by decide +kernel) (by decide +kernel) rfl (fun h9 => absurd h9 (by decide)) (fun h9 => absurd h9 (by decide +kernel)) ?_
      refine e_inc (la2 := [rA 67, (0, j), (0, a), (0, b), (0, c), (0, i + 1)]) (show am_cd 247 74 = (4, 77, 5, 1, []) by decide +kernel) rfl rfl ?_
      refine e_go (show am_cd 247 77 = (12, 27, 0, 0, []) by decide +kernel) ?_
      exact h
    · replace h := h.2 hc
      refine e_go (show am_cd 247 50 = (12, 74, 0, 0, []) by decide +kernel) ?_
      refine e_inc (la2 := [rA 67, (0, j), (0, a), (0, b), (0, c), (0, i + 1)]) (show am_cd 247 74 = (4, 77, 5, 1, []) by decide +kernel) rfl rfl ?_
      refine e_go (show am_cd 247 77 = (12, 27, 0, 0, []) by decide +kernel) ?_
      exact h

theorem g_colEnt0 {d : Nat} {Q : Option aV → aS → Prop} {w : eW} {t : eT} {g al j a b c : Int} (h : Ev (d + 67) 248 Q 3 [rA 67, (0, g), (0, al), (0, j), (0, a), (0, b), (0, c), (0, 0)] [] (enc w t)) : Cl (d + 67) 248 [rA 67, (0, g), (0, al), (0, j), (0, a), (0, b), (0, c)] (enc w t) Q := by
  show Ev (d + 67) 248 Q 0 [rA 67, (0, g), (0, al), (0, j), (0, a), (0, b), (0, c), (9, 0)] [] (enc w t)
  refine e_ic (show am_cd 248 0 = (0, 1, 0, 0, []) by decide +kernel) ?_
  refine e_sti (la2 := [rA 67, (0, g), (0, al), (0, j), (0, a), (0, b), (0, c), (0, 0)]) (show am_cd 248 1 = (3, 3, 7, 0, []) by decide +kernel) rfl ?_
  exact h

theorem g_colEnt1 {d : Nat} {Q : Option aV → aS → Prop} {w : eW} {t : eT} {g al j a b c i : Int} {m : eW} {ll : Nat → Int} {nl : Nat} {wo : Int} {J J2 : aV} (hw : w32 wo = wo) {γW : Type} {PRW : γW → Int → Int → Int → Int → Int → Int → Int → eW → eT → Prop} {POW : γW → Int → Int → Int → Int → Int → Int → Int → eW → eT → eW → eT → Prop} (hrW : ∀ (g : γW) (a1 a2 a3 a4 a5 a6 a7 : Int) (w : eW) (t : eT), PRW g a1 a2 a3 a4 a5 a6 a7 w t → Cl (d + 66) 246 [rA 67, (0, a1), (0, a2), (0, a3), (0, a4), (0, a5), (0, a6), (0, a7)] (enc w t) (fun r S2 => ∃ w2 t2, r = none ∧ S2 = enc w2 t2 ∧ POW g a1 a2 a3 a4 a5 a6 a7 w t w2 t2)) (h : ((w32 (w 67 12) ≤ w32 i → Q none (enc w t)) ∧ (¬ (w32 (w 67 12) ≤ w32 i) → ((w32 20 ≤ w32 (w 67 17) → Q none (enc w t)) ∧ (¬ (w32 20 ≤ w32 (w 67 17)) → (0 ≤ w32 i ∧ w32 i < 16) ∧ ((¬ w32 (w 77 (w32 i).toNat) = w32 g → Ev (d + 67) 248 Q 3 [rA 67, (0, g), (0, al), (0, j), (0, a), (0, b), (0, c), (0, i + 1)] [] (enc w t)) ∧ (¬ (¬ w32 (w 77 (w32 i).toNat) = w32 g) → (0 ≤ w32 i ∧ w32 i < 16) ∧ ((w32 6 < w32 (al + (w 79 (w32 i).toNat)) → Ev (d + 67) 248 Q 3 [rA 67, (0, g), (0, al), (0, j), (0, a), (0, b), (0, c), (0, i + 1)] [] (enc w t)) ∧ (¬ (w32 6 < w32 (al + (w 79 (w32 i).toNat))) → (0 ≤ w32 i ∧ w32 i < 16) ∧ (FWR m ll nl 19 i 0 (al + (w 79 (w32 i).toNat)) j a b c w t) ∧ (∀ x1 w2 t3, (FWO m ll nl i 0 (al + (w 79 (w32 i).toNat)) j a b c w t x1 w2 t3) → ((¬ w64 x1 = w64 0 → (0 ≤ w32 (w2 67 42) ∧ w32 (w2 67 42) < 6) ∧ (0 ≤ w32 i ∧ w32 i < 16) ∧ (∃ g4, (PRW g4 i 0 (al + (w2 79 (w32 i).toNat)) j a b c (wu (wu w2 95 (w32 (w2 67 42)).toNat i) 67 42 ((w2 67 42) + 1)) t3) ∧ (∀ w5 t6, (POW g4 i 0 (al + (w2 79 (w32 i).toNat)) j a b c (wu (wu w2 95 (w32 (w2 67 42)).toNat i) 67 42 ((w2 67 42) + 1)) t3 w5 t6) → Ev (d + 67) 248 Q 3 [rA 67, (0, g), (0, al), (0, j), (0, a), (0, b), (0, c), (0, i + 1)] [] (enc (wu w5 67 42 ((w5 67 42) - 1)) t6)))) ∧ (¬ (¬ w64 x1 = w64 0) → Ev (d + 67) 248 Q 3 [rA 67, (0, g), (0, al), (0, j), (0, a), (0, b), (0, c), (0, i + 1)] [] (enc w2 t3))))))))))))) : Ev (d + 67) 248 Q 3 [rA 67, (0, g), (0, al), (0, j), (0, a), (0, b), (0, c), (0, i)] [] (enc w t) := by
  refine e_ldi (show am_cd 248 3 = (2, 5, 7, 0, []) by decide +kernel) rfl ?_
  refine e_lda (v := 67) (show am_cd 248 5 = (2, 6, 0, 2, []) by decide +kernel) rfl ?_
  refine e_getf (a := 67) (tg := 0) (show am_cd 248 6 = (18, 9, 1212, 0, [186]) by decide +kernel) (by decide +kernel) (by decide +kernel) rfl ?_
  refine e_cmp3 (show am_cd 248 9 = (11, 12, 137, 3, []) by decide +kernel) (fun hc => ?_) (fun hc => ?_)
  · replace h := h.1 hc
    exact e_retv (show am_cd 248 137 = (36, 138, 3, 0, []) by decide +kernel) (by decide +kernel) h
  · replace h := h.2 hc
    refine e_lda (v := 67) (show am_cd 248 12 = (2, 13, 0, 2, []) by decide +kernel) rfl ?_
    refine e_getf (a := 67) (tg := 0) (show am_cd 248 13 = (18, 16, 1217, 0, [189]) by decide +kernel) (by decide +kernel) (by decide +kernel) rfl ?_
    refine e_ic (show am_cd 248 16 = (0, 18, 1, 20, []) by decide +kernel) ?_
    refine e_cmp3 (show am_cd 248 18 = (11, 21, 137, 3, []) by decide +kernel) (fun hc => ?_) (fun hc => ?_)
    · replace h := h.1 hc
      exact e_retv (show am_cd 248 137 = (36, 138, 3, 0, []) by decide +kernel) (by decide +kernel) h
    · replace h := h.2 hc
      refine e_lda (v := 67) (show am_cd 248 21 = (2, 22, 0, 2, []) by decide +kernel) rfl ?_
      refine e_getr (a := 67) (r := 77) (show am_cd 248 22 = (18, 25, 1213, 2, [37]) by decide +kernel) (by decide +kernel) (by decide +kernel) rfl ?_
      refine e_ldi (show am_cd 248 25 = (2, 27, 7, 0, []) by decide +kernel) rfl ?_
      refine e_iald (a := 77) (n := 16) (show am_cd 248 27 = (21, 28, 0, 0, []) by decide +kernel) (by decide +kernel) (by decide +kernel) (by decide +kernel) h.1 ?_
      replace h := h.2
      refine e_ldi (show am_cd 248 28 = (2, 29, 1, 0, []) by decide +kernel) rfl ?_
      refine e_cmp1 (show am_cd 248 29 = (11, 32, 131, 1, []) by decide +kernel) (fun hc => ?_) (fun hc => ?_)
      · replace h := h.1 hc
        refine e_inc (la2 := [rA 67, (0, g), (0, al), (0, j), (0, a), (0, b), (0, c), (0, i + 1)]) (show am_cd 248 131 = (4, 134, 7, 1, []) by decide +kernel) rfl rfl ?_
        refine e_go (show am_cd 248 134 = (12, 3, 0, 0, []) by decide +kernel) ?_
        exact h
      · replace h := h.2 hc
        refine e_ldi (show am_cd 248 32 = (2, 33, 2, 0, []) by decide +kernel) rfl ?_
        refine e_lda (v := 67) (show am_cd 248 33 = (2, 34, 0, 2, []) by decide +kernel) rfl ?_
        refine e_getr (a := 67) (r := 79) (show am_cd 248 34 = (18, 37, 1215, 2, [43]) by decide +kernel) (by decide +kernel) (by decide +kernel) rfl ?_
        refine e_ldi (show am_cd 248 37 = (2, 39, 7, 0, []) by decide +kernel) rfl ?_
        refine e_iald (a := 79) (n := 16) (show am_cd 248 39 = (21, 40, 0, 0, []) by decide +kernel) (by decide +kernel) (by decide +kernel) (by decide +kernel) h.1 ?_
        replace h := h.2
        refine e_iadd (show am_cd 248 40 = (5, 41, 0, 0, []) by decide +kernel) ?_
        refine e_ic (show am_cd 248 41 = (0, 43, 1, 6, []) by decide +kernel) ?_
        refine e_cmp4 (show am_cd 248 43 = (11, 46, 131, 4, []) by decide +kernel) (fun hc => ?_) (fun hc => ?_)
        · replace h := h.1 hc
          refine e_inc (la2 := [rA 67, (0, g), (0, al), (0, j), (0, a), (0, b), (0, c), (0, i + 1)]) (show am_cd 248 131 = (4, 134, 7, 1, []) by decide +kernel) rfl rfl ?_
          refine e_go (show am_cd 248 134 = (12, 3, 0, 0, []) by decide +kernel) ?_
          exact h
        · replace h := h.2 hc
          refine e_lda (v := 67) (show am_cd 248 46 = (2, 47, 0, 2, []) by decide +kernel) rfl ?_
          refine e_ldi (show am_cd 248 47 = (2, 49, 7, 0, []) by decide +kernel) rfl ?_
          refine e_ic (show am_cd 248 49 = (0, 50, 0, 0, []) by decide +kernel) ?_
          refine e_ldi (show am_cd 248 50 = (2, 51, 2, 0, []) by decide +kernel) rfl ?_
          refine e_lda (v := 67) (show am_cd 248 51 = (2, 52, 0, 2, []) by decide +kernel) rfl ?_
          refine e_getr (a := 67) (r := 79) (show am_cd 248 52 = (18, 55, 1215, 2, [43]) by decide +kernel) (by decide +kernel) (by decide +kernel) rfl ?_
          refine e_ldi (show am_cd 248 55 = (2, 57, 7, 0, []) by decide +kernel) rfl ?_
          refine e_iald (a := 79) (n := 16) (show am_cd 248 57 = (21, 58, 0, 0, []) by decide +kernel) (by decide +kernel) (by decide +kernel) (by decide +kernel) h.1 ?_
          replace h := h.2
          refine e_iadd (show am_cd 248 58 = (5, 59, 0, 0, []) by decide +kernel) ?_
          refine e_ldi (show am_cd 248 59 = (2, 60, 3, 0, []) by decide +kernel) rfl ?_
          refine e_ldi (show am_cd 248 60 = (2, 62, 4, 0, []) by decide +kernel) rfl ?_
          refine e_ldi (show am_cd 248 62 = (2, 64, 5, 0, []) by decide +kernel) rfl ?_
          refine e_ldi (show am_cd 248 64 = (2, 66, 6, 0, []) by decide +kernel) rfl ?_
          refine e_cV (z := 0) (a := 67) (as := [(0, i), (0, 0), (0, al + (w 79 (w32 i).toNat)), (0, j), (0, a), (0, b), (0, c)]) (rest := []) (show am_cd 248 66 = (40, 69, 241, 0, [397]) by decide +kernel) (by decide +kernel) rfl rfl (Nat.le_of_ble_eq_true rfl) rfl ?_
          refine Cl.mono (Cl.up (c_withinB (d := d) 19 _ _ _ _ _ _ _ _ _ h.1) (by omega)) ?_
          rintro _ _ ⟨x1, w2, t3, rfl, rfl, hp⟩
          refine ⟨fun _ h9 => (by cases h9), ?_⟩
          replace h := h.2 x1 w2 t3 hp
          show Ev _ 248 _ 69 [rA 67, (0, g), (0, al), (0, j), (0, a), (0, b), (0, c), (0, i)] [(1, x1)] _
          refine e_lc (show am_cd 248 69 = (1, 70, 0, 0, []) by decide +kernel) ?_
          refine e_lcb1 (show am_cd 248 70 = (9, 71, 0, 0, []) by decide +kernel) (show am_cd 248 71 = (10, 74, 77, 1, []) by decide +kernel) (fun hc => ?_) (fun hc => ?_)
          · replace h := h.1 hc
            refine e_lda (v := 67) (show am_cd 248 77 = (2, 78, 0, 2, []) by decide +kernel) rfl ?_
            refine e_getr (a := 67) (r := 95) (show am_cd 248 78 = (18, 81, 1241, 2, [98]) by decide +kernel) (by decide +kernel) (by decide +kernel) rfl ?_
            refine e_lda (v := 67) (show am_cd 248 81 = (2, 82, 0, 2, []) by decide +kernel) rfl ?_
            refine e_getf (a := 67) (tg := 0) (show am_cd 248 82 = (18, 85, 1242, 0, [275]) by decide +kernel) (by decide +kernel) (by decide +kernel) rfl ?_
            refine e_ldi (show am_cd 248 85 = (2, 87, 7, 0, []) by decide +kernel) rfl ?_
            refine e_iast (a := 95) (n := 6) (show am_cd 248 87 = (24, 88, 0, 0, []) by decide +kernel) (by decide +kernel) (by decide +kernel) (by decide +kernel) h.1 ?_
            replace h := h.2
            refine e_lda (v := 67) (show am_cd 248 88 = (2, 89, 0, 2, []) by decide +kernel) rfl ?_
            refine e_dup (show am_cd 248 89 = (13, 90, 0, 0, []) by decide +kernel) (by decide) ?_
            refine e_getfE (a := 67) (tg := 0) (v := w2 67 42) (show am_cd 248 90 = (18, 93, 1242, 0, [275]) by decide +kernel) (by decide +kernel) (by decide +kernel) rfl rfl ?_
            refine e_ic (show am_cd 248 93 = (0, 94, 0, 1, []) by decide +kernel) ?_
            refine e_iadd (show am_cd 248 94 = (5, 95, 0, 0, []) by decide +kernel) ?_
            refine e_putf (a := 67) (show am_cd 248 95 = (19, 98, 1242, 0, [275]) by decide +kernel) (by decide +kernel) (by decide +kernel) rfl (fun h9 => absurd h9 (by decide)) (fun h9 => absurd h9 (by decide +kernel)) ?_
            refine e_lda (v := 67) (show am_cd 248 98 = (2, 99, 0, 2, []) by decide +kernel) rfl ?_
            refine e_ldi (show am_cd 248 99 = (2, 101, 7, 0, []) by decide +kernel) rfl ?_
            refine e_ic (show am_cd 248 101 = (0, 102, 0, 0, []) by decide +kernel) ?_
            refine e_ldi (show am_cd 248 102 = (2, 103, 2, 0, []) by decide +kernel) rfl ?_
            refine e_lda (v := 67) (show am_cd 248 103 = (2, 104, 0, 2, []) by decide +kernel) rfl ?_
            refine e_getr (a := 67) (r := 79) (show am_cd 248 104 = (18, 107, 1215, 2, [43]) by decide +kernel) (by decide +kernel) (by decide +kernel) rfl ?_
            refine e_ldi (show am_cd 248 107 = (2, 109, 7, 0, []) by decide +kernel) rfl ?_
            refine e_ialdE (a := 79) (n := 16) (v := w2 79 (w32 i).toNat) (show am_cd 248 109 = (21, 110, 0, 0, []) by decide +kernel) (by decide +kernel) (by decide +kernel) (by decide +kernel) h.1 rfl ?_
            replace h := h.2
            refine e_iadd (show am_cd 248 110 = (5, 111, 0, 0, []) by decide +kernel) ?_
            refine e_ldi (show am_cd 248 111 = (2, 112, 3, 0, []) by decide +kernel) rfl ?_
            refine e_ldi (show am_cd 248 112 = (2, 114, 4, 0, []) by decide +kernel) rfl ?_
            refine e_ldi (show am_cd 248 114 = (2, 116, 5, 0, []) by decide +kernel) rfl ?_
            refine e_ldi (show am_cd 248 116 = (2, 118, 6, 0, []) by decide +kernel) rfl ?_
            refine e_cV (z := 0) (a := 67) (as := [(0, i), (0, 0), (0, al + (w2 79 (w32 i).toNat)), (0, j), (0, a), (0, b), (0, c)]) (rest := []) (show am_cd 248 118 = (40, 121, 246, 0, [407]) by decide +kernel) (by decide +kernel) rfl rfl (Nat.le_of_ble_eq_true rfl) rfl ?_
            obtain ⟨g4, h⟩ := h
            refine Cl.mono (Cl.up (hrW g4 _ _ _ _ _ _ _ _ _ h.1) (by omega)) ?_
            rintro _ _ ⟨w5, t6, rfl, rfl, hp⟩
            refine ⟨fun _ h9 => (by cases h9), ?_⟩
            replace h := h.2 w5 t6 hp
            show Ev _ 248 _ 121 [rA 67, (0, g), (0, al), (0, j), (0, a), (0, b), (0, c), (0, i)] [] _
            refine e_lda (v := 67) (show am_cd 248 121 = (2, 122, 0, 2, []) by decide +kernel) rfl ?_
            refine e_dup (show am_cd 248 122 = (13, 123, 0, 0, []) by decide +kernel) (by decide) ?_
            refine e_getf (a := 67) (tg := 0) (show am_cd 248 123 = (18, 126, 1242, 0, [275]) by decide +kernel) (by decide +kernel) (by decide +kernel) rfl ?_
            refine e_ic (show am_cd 248 126 = (0, 127, 0, 1, []) by decide +kernel) ?_
            refine e_isub (show am_cd 248 127 = (5, 128, 1, 0, []) by decide +kernel) ?_
            refine e_putf (a := 67) (show am_cd 248 128 = (19, 131, 1242, 0, [275]) by decide +kernel) (by decide +kernel) (by decide +kernel) rfl (fun h9 => absurd h9 (by decide)) (fun h9 => absurd h9 (by decide +kernel)) ?_
            refine e_inc (la2 := [rA 67, (0, g), (0, al), (0, j), (0, a), (0, b), (0, c), (0, i + 1)]) (show am_cd 248 131 = (4, 134, 7, 1, []) by decide +kernel) rfl rfl ?_
            refine e_go (show am_cd 248 134 = (12, 3, 0, 0, []) by decide +kernel) ?_
            exact h
          · replace h := h.2 hc
            refine e_go (show am_cd 248 74 = (12, 131, 0, 0, []) by decide +kernel) ?_
            refine e_inc (la2 := [rA 67, (0, g), (0, al), (0, j), (0, a), (0, b), (0, c), (0, i + 1)]) (show am_cd 248 131 = (4, 134, 7, 1, []) by decide +kernel) rfl rfl ?_
            refine e_go (show am_cd 248 134 = (12, 3, 0, 0, []) by decide +kernel) ?_
            exact h

theorem g_colWit0 {d : Nat} {Q : Option aV → aS → Prop} {w : eW} {t : eT} {e dn al j a b c : Int} (h : Ev (d + 68) 246 Q 3 [rA 67, (0, e), (0, dn), (0, al), (0, j), (0, a), (0, b), (0, c), (0, 0), (9, 0), (9, 0)] [] (enc w t)) : Cl (d + 68) 246 [rA 67, (0, e), (0, dn), (0, al), (0, j), (0, a), (0, b), (0, c)] (enc w t) Q := by
  show Ev (d + 68) 246 Q 0 [rA 67, (0, e), (0, dn), (0, al), (0, j), (0, a), (0, b), (0, c), (9, 0), (9, 0), (9, 0)] [] (enc w t)
  refine e_ic (show am_cd 246 0 = (0, 1, 0, 0, []) by decide +kernel) ?_
  refine e_sti (la2 := [rA 67, (0, e), (0, dn), (0, al), (0, j), (0, a), (0, b), (0, c), (0, 0), (9, 0), (9, 0)]) (show am_cd 246 1 = (3, 3, 8, 0, []) by decide +kernel) rfl ?_
  exact h

theorem g_colWit1 {d : Nat} {Q : Option aV → aS → Prop} {w : eW} {t : eT} {e dn al j a b c i : Int} {m : eW} {ll : Nat → Int} {nl : Nat} {wo : Int} {J J2 : aV} (hw : w32 wo = wo) (h : ((w32 (w 67 0) ≤ w32 i → Q none (enc w t)) ∧ (¬ (w32 (w 67 0) ≤ w32 i) → ((w32 20 ≤ w32 (w 67 17) → Q none (enc w t)) ∧ (¬ (w32 20 ≤ w32 (w 67 17)) → (MG w m ∧ LoM w ll nl ∧ (0 ≤ j ∧ j ≤ nl) ∧ gP m i) ∧ ((w32 (oI (loT m ll nl j.toNat i.toNat)) = w32 (-1) → Ev (d + 68) 246 Q 3 [rA 67, (0, e), (0, dn), (0, al), (0, j), (0, a), (0, b), (0, c), (0, i + 1), (0, oI (loT m ll nl j.toNat i.toNat)), J2] [] (enc w t)) ∧ (¬ (w32 (oI (loT m ll nl j.toNat i.toNat)) = w32 (-1)) → (MX w m ∧ (0 ≤ e ∧ e < nE m) ∧ (0 ≤ dn ∧ dn < fmN m e.toNat) ∧ gP m i) ∧ (((isFm m e.toNat dn.toNat i.toNat) = false → Ev (d + 68) 246 Q 3 [rA 67, (0, e), (0, dn), (0, al), (0, j), (0, a), (0, b), (0, c), (0, i + 1), (0, oI (loT m ll nl j.toNat i.toNat)), J2] [] (enc w t)) ∧ ((isFm m e.toNat dn.toNat i.toNat) = true → (MG w m ∧ w 67 35 = wo ∧ gE a ∧ gE b ∧ gC m c ∧ gC m i) ∧ (((goes m wo a.toNat b.toNat c.toNat i.toNat) = true → (0 ≤ w32 i ∧ w32 i < 16) ∧ ((¬ w32 (w 68 (w32 i).toNat) = w32 27 → Ev (d + 68) 246 Q 87 [rA 67, (0, e), (0, dn), (0, al), (0, j), (0, a), (0, b), (0, c), (0, i), (0, oI (loT m ll nl j.toNat i.toNat)), (0, dn + 1)] [] (enc w t)) ∧ (¬ (¬ w32 (w 68 (w32 i).toNat) = w32 27) → Ev (d + 68) 246 Q 87 [rA 67, (0, e), (0, dn), (0, al), (0, j), (0, a), (0, b), (0, c), (0, i), (0, oI (loT m ll nl j.toNat i.toNat)), (0, dn)] [] (enc w t)))) ∧ ((goes m wo a.toNat b.toNat c.toNat i.toNat) = false → Ev (d + 68) 246 Q 3 [rA 67, (0, e), (0, dn), (0, al), (0, j), (0, a), (0, b), (0, c), (0, i + 1), (0, oI (loT m ll nl j.toNat i.toNat)), J2] [] (enc w t)))))))))))) : Ev (d + 68) 246 Q 3 [rA 67, (0, e), (0, dn), (0, al), (0, j), (0, a), (0, b), (0, c), (0, i), J, J2] [] (enc w t) := by
  refine e_ldi (show am_cd 246 3 = (2, 5, 8, 0, []) by decide +kernel) rfl ?_
  refine e_lda (v := 67) (show am_cd 246 5 = (2, 6, 0, 2, []) by decide +kernel) rfl ?_
  refine e_getf (a := 67) (tg := 0) (show am_cd 246 6 = (18, 9, 1200, 0, [168]) by decide +kernel) (by decide +kernel) (by decide +kernel) rfl ?_
  refine e_cmp3 (show am_cd 246 9 = (11, 12, 207, 3, []) by decide +kernel) (fun hc => ?_) (fun hc => ?_)
  · replace h := h.1 hc
    exact e_retv (show am_cd 246 207 = (36, 208, 3, 0, []) by decide +kernel) (by decide +kernel) h
  · replace h := h.2 hc
    refine e_lda (v := 67) (show am_cd 246 12 = (2, 13, 0, 2, []) by decide +kernel) rfl ?_
    refine e_getf (a := 67) (tg := 0) (show am_cd 246 13 = (18, 16, 1217, 0, [189]) by decide +kernel) (by decide +kernel) (by decide +kernel) rfl ?_
    refine e_ic (show am_cd 246 16 = (0, 18, 1, 20, []) by decide +kernel) ?_
    refine e_cmp3 (show am_cd 246 18 = (11, 21, 207, 3, []) by decide +kernel) (fun hc => ?_) (fun hc => ?_)
    · replace h := h.1 hc
      exact e_retv (show am_cd 246 207 = (36, 208, 3, 0, []) by decide +kernel) (by decide +kernel) h
    · replace h := h.2 hc
      refine e_lda (v := 67) (show am_cd 246 21 = (2, 22, 0, 2, []) by decide +kernel) rfl ?_
      refine e_ldi (show am_cd 246 22 = (2, 24, 4, 0, []) by decide +kernel) rfl ?_
      refine e_ldi (show am_cd 246 24 = (2, 26, 8, 0, []) by decide +kernel) rfl ?_
      refine e_cV (z := 0) (a := 67) (as := [(0, j), (0, i)]) (rest := []) (show am_cd 246 26 = (40, 29, 229, 0, [354]) by decide +kernel) (by decide +kernel) rfl rfl (Nat.le_of_ble_eq_true rfl) rfl ?_
      refine Cl.mono (Cl.up (c_lowerThen (d := d) h.1) (by omega)) ?_
      rintro _ _ ⟨rfl, rfl⟩
      refine ⟨fun _ h9 => (by cases h9), ?_⟩
      replace h := h.2
      show Ev _ 246 _ 29 [rA 67, (0, e), (0, dn), (0, al), (0, j), (0, a), (0, b), (0, c), (0, i), J, J2] [(0, oI (loT m ll nl j.toNat i.toNat))] _
      refine e_sti (la2 := [rA 67, (0, e), (0, dn), (0, al), (0, j), (0, a), (0, b), (0, c), (0, i), (0, oI (loT m ll nl j.toNat i.toNat)), J2]) (show am_cd 246 29 = (3, 31, 9, 0, []) by decide +kernel) rfl ?_
      refine e_ldi (show am_cd 246 31 = (2, 33, 9, 0, []) by decide +kernel) rfl ?_
      refine e_ic (show am_cd 246 33 = (0, 34, 0, -1, []) by decide +kernel) ?_
      refine e_cmp0 (show am_cd 246 34 = (11, 37, 201, 0, []) by decide +kernel) (fun hc => ?_) (fun hc => ?_)
      · replace h := h.1 hc
        refine e_inc (la2 := [rA 67, (0, e), (0, dn), (0, al), (0, j), (0, a), (0, b), (0, c), (0, i + 1), (0, oI (loT m ll nl j.toNat i.toNat)), J2]) (show am_cd 246 201 = (4, 204, 8, 1, []) by decide +kernel) rfl rfl ?_
        refine e_go (show am_cd 246 204 = (12, 3, 0, 0, []) by decide +kernel) ?_
        exact h
      · replace h := h.2 hc
        refine e_lda (v := 67) (show am_cd 246 37 = (2, 38, 0, 2, []) by decide +kernel) rfl ?_
        refine e_ldi (show am_cd 246 38 = (2, 39, 1, 0, []) by decide +kernel) rfl ?_
        refine e_ldi (show am_cd 246 39 = (2, 40, 2, 0, []) by decide +kernel) rfl ?_
        refine e_ldi (show am_cd 246 40 = (2, 42, 8, 0, []) by decide +kernel) rfl ?_
        refine e_cV (z := 0) (a := 67) (as := [(0, e), (0, dn), (0, i)]) (rest := []) (show am_cd 246 42 = (40, 45, 242, 0, [390]) by decide +kernel) (by decide +kernel) rfl rfl (Nat.le_of_ble_eq_true rfl) rfl ?_
        refine Cl.mono (Cl.up (c_isForm (d := d) h.1) (by omega)) ?_
        rintro _ _ ⟨rfl, rfl⟩
        refine ⟨fun _ h9 => (by cases h9), ?_⟩
        replace h := h.2
        show Ev _ 246 _ 45 [rA 67, (0, e), (0, dn), (0, al), (0, j), (0, a), (0, b), (0, c), (0, i), (0, oI (loT m ll nl j.toNat i.toNat)), J2] [(0, bI (isFm m e.toNat dn.toNat i.toNat))] _
        refine e_ifb0 (show am_cd 246 45 = (10, 48, 201, 0, []) by decide +kernel) (fun hc => ?_) (fun hc => ?_)
        · replace h := h.1 hc
          refine e_inc (la2 := [rA 67, (0, e), (0, dn), (0, al), (0, j), (0, a), (0, b), (0, c), (0, i + 1), (0, oI (loT m ll nl j.toNat i.toNat)), J2]) (show am_cd 246 201 = (4, 204, 8, 1, []) by decide +kernel) rfl rfl ?_
          refine e_go (show am_cd 246 204 = (12, 3, 0, 0, []) by decide +kernel) ?_
          exact h
        · replace h := h.2 hc
          refine e_lda (v := 67) (show am_cd 246 48 = (2, 49, 0, 2, []) by decide +kernel) rfl ?_
          refine e_ldi (show am_cd 246 49 = (2, 51, 5, 0, []) by decide +kernel) rfl ?_
          refine e_ldi (show am_cd 246 51 = (2, 53, 6, 0, []) by decide +kernel) rfl ?_
          refine e_ldi (show am_cd 246 53 = (2, 55, 7, 0, []) by decide +kernel) rfl ?_
          refine e_ldi (show am_cd 246 55 = (2, 57, 8, 0, []) by decide +kernel) rfl ?_
          refine e_cV (z := 0) (a := 67) (as := [(0, a), (0, b), (0, c), (0, i)]) (rest := []) (show am_cd 246 57 = (40, 60, 210, 0, [282]) by decide +kernel) (by decide +kernel) rfl rfl (Nat.le_of_ble_eq_true rfl) rfl ?_
          refine Cl.mono (Cl.up (c_goes (hw := hw) (d := d) h.1) (by omega)) ?_
          rintro _ _ ⟨rfl, rfl⟩
          refine ⟨fun _ h9 => (by cases h9), ?_⟩
          replace h := h.2
          show Ev _ 246 _ 60 [rA 67, (0, e), (0, dn), (0, al), (0, j), (0, a), (0, b), (0, c), (0, i), (0, oI (loT m ll nl j.toNat i.toNat)), J2] [(0, bI (goes m wo a.toNat b.toNat c.toNat i.toNat))] _
          refine e_ifb1 (show am_cd 246 60 = (10, 63, 66, 1, []) by decide +kernel) (fun hc => ?_) (fun hc => ?_)
          · replace h := h.1 hc
            refine e_lda (v := 67) (show am_cd 246 66 = (2, 67, 0, 2, []) by decide +kernel) rfl ?_
            refine e_getr (a := 67) (r := 68) (show am_cd 246 67 = (18, 70, 1201, 2, [9]) by decide +kernel) (by decide +kernel) (by decide +kernel) rfl ?_
            refine e_ldi (show am_cd 246 70 = (2, 72, 8, 0, []) by decide +kernel) rfl ?_
            refine e_iald (a := 68) (n := 16) (show am_cd 246 72 = (21, 73, 0, 0, []) by decide +kernel) (by decide +kernel) (by decide +kernel) (by decide +kernel) h.1 ?_
            replace h := h.2
            refine e_ic (show am_cd 246 73 = (0, 75, 1, 27, []) by decide +kernel) ?_
            refine e_cmp1 (show am_cd 246 75 = (11, 78, 82, 1, []) by decide +kernel) (fun hc => ?_) (fun hc => ?_)
            · replace h := h.1 hc
              refine e_ldi (show am_cd 246 82 = (2, 83, 2, 0, []) by decide +kernel) rfl ?_
              refine e_ic (show am_cd 246 83 = (0, 84, 0, 1, []) by decide +kernel) ?_
              refine e_iadd (show am_cd 246 84 = (5, 85, 0, 0, []) by decide +kernel) ?_
              refine e_sti (la2 := [rA 67, (0, e), (0, dn), (0, al), (0, j), (0, a), (0, b), (0, c), (0, i), (0, oI (loT m ll nl j.toNat i.toNat)), (0, dn + 1)]) (show am_cd 246 85 = (3, 87, 10, 0, []) by decide +kernel) rfl ?_
              exact h
            · replace h := h.2 hc
              refine e_ldi (show am_cd 246 78 = (2, 79, 2, 0, []) by decide +kernel) rfl ?_
              refine e_go (show am_cd 246 79 = (12, 85, 0, 0, []) by decide +kernel) ?_
              refine e_sti (la2 := [rA 67, (0, e), (0, dn), (0, al), (0, j), (0, a), (0, b), (0, c), (0, i), (0, oI (loT m ll nl j.toNat i.toNat)), (0, dn)]) (show am_cd 246 85 = (3, 87, 10, 0, []) by decide +kernel) rfl ?_
              exact h
          · replace h := h.2 hc
            refine e_go (show am_cd 246 63 = (12, 201, 0, 0, []) by decide +kernel) ?_
            refine e_inc (la2 := [rA 67, (0, e), (0, dn), (0, al), (0, j), (0, a), (0, b), (0, c), (0, i + 1), (0, oI (loT m ll nl j.toNat i.toNat)), J2]) (show am_cd 246 201 = (4, 204, 8, 1, []) by decide +kernel) rfl rfl ?_
            refine e_go (show am_cd 246 204 = (12, 3, 0, 0, []) by decide +kernel) ?_
            exact h

theorem g_colWit2 {d : Nat} {Q : Option aV → aS → Prop} {w : eW} {t : eT} {e dn al j a b c i th so : Int} {m : eW} {ll : Nat → Int} {nl : Nat} {wo : Int} {J J2 : aV} (hw : w32 wo = wo) {γW : Type} {PRW : γW → Int → Int → Int → Int → Int → Int → Int → eW → eT → Prop} {POW : γW → Int → Int → Int → Int → Int → Int → Int → eW → eT → eW → eT → Prop} (hrW : ∀ (g : γW) (a1 a2 a3 a4 a5 a6 a7 : Int) (w : eW) (t : eT), PRW g a1 a2 a3 a4 a5 a6 a7 w t → Cl (d + 66) 246 [rA 67, (0, a1), (0, a2), (0, a3), (0, a4), (0, a5), (0, a6), (0, a7)] (enc w t) (fun r S2 => ∃ w2 t2, r = none ∧ S2 = enc w2 t2 ∧ POW g a1 a2 a3 a4 a5 a6 a7 w t w2 t2)) {γE : Type} {PRE : γE → Int → Int → Int → Int → Int → Int → eW → eT → Prop} {POE : γE → Int → Int → Int → Int → Int → Int → eW → eT → eW → eT → Prop} (hrE : ∀ (g : γE) (a1 a2 a3 a4 a5 a6 : Int) (w : eW) (t : eT), PRE g a1 a2 a3 a4 a5 a6 w t → Cl (d + 67) 248 [rA 67, (0, a1), (0, a2), (0, a3), (0, a4), (0, a5), (0, a6)] (enc w t) (fun r S2 => ∃ w2 t2, r = none ∧ S2 = enc w2 t2 ∧ POE g a1 a2 a3 a4 a5 a6 w t w2 t2)) {γN : Type} {PRN : γN → Int → Int → Int → Int → eW → eT → Prop} {PON : γN → Int → Int → Int → Int → eW → eT → eW → eT → Prop} (hrN : ∀ (g : γN) (a1 a2 a3 a4 : Int) (w : eW) (t : eT), PRN g a1 a2 a3 a4 w t → Cl (d + 6) 247 [rA 67, (0, a1), (0, a2), (0, a3), (0, a4)] (enc w t) (fun r S2 => ∃ w2 t2, r = none ∧ S2 = enc w2 t2 ∧ PON g a1 a2 a3 a4 w t w2 t2)) (h : (FBR m ll nl 19 e so al th b c i w t) ∧ (∀ x1 w2 t3, (FBO m ll nl e so al th b c i w t x1 w2 t3) → ((¬ w64 x1 = w64 0 → (0 ≤ w32 (w2 67 40) ∧ w32 (w2 67 40) < 16) ∧ (0 ≤ w32 e ∧ w32 e < 16) ∧ ((w32 (w2 79 (w32 e).toNat) ≤ w32 so → (0 ≤ w32 e ∧ w32 e < 16) ∧ ((w32 (w2 78 (w32 e).toNat) = w32 (-1) → ∃ g4, (PRN g4 th b c i (wu (wu w2 94 (w32 (w2 67 40)).toNat i) 67 40 ((w2 67 40) + 1)) t3) ∧ (∀ w5 t6, (PON g4 th b c i (wu (wu w2 94 (w32 (w2 67 40)).toNat i) 67 40 ((w2 67 40) + 1)) t3 w5 t6) → Ev (d + 68) 246 Q 3 [rA 67, (0, e), (0, dn), (0, al), (0, j), (0, a), (0, b), (0, c), (0, i + 1), (0, th), (0, so)] [] (enc (wu w5 67 40 ((w5 67 40) - 1)) t6))) ∧ (¬ (w32 (w2 78 (w32 e).toNat) = w32 (-1)) → (0 ≤ w32 e ∧ w32 e < 16) ∧ (∃ g7, (PRE g7 (w2 78 (w32 e).toNat) al th b c i (wu (wu w2 94 (w32 (w2 67 40)).toNat i) 67 40 ((w2 67 40) + 1)) t3) ∧ (∀ w8 t9, (POE g7 (w2 78 (w32 e).toNat) al th b c i (wu (wu w2 94 (w32 (w2 67 40)).toNat i) 67 40 ((w2 67 40) + 1)) t3 w8 t9) → Ev (d + 68) 246 Q 3 [rA 67, (0, e), (0, dn), (0, al), (0, j), (0, a), (0, b), (0, c), (0, i + 1), (0, th), (0, so)] [] (enc (wu w8 67 40 ((w8 67 40) - 1)) t9)))))) ∧ (¬ (w32 (w2 79 (w32 e).toNat) ≤ w32 so) → ∃ g10, (PRW g10 e so al th b c i (wu (wu w2 94 (w32 (w2 67 40)).toNat i) 67 40 ((w2 67 40) + 1)) t3) ∧ (∀ w11 t12, (POW g10 e so al th b c i (wu (wu w2 94 (w32 (w2 67 40)).toNat i) 67 40 ((w2 67 40) + 1)) t3 w11 t12) → Ev (d + 68) 246 Q 3 [rA 67, (0, e), (0, dn), (0, al), (0, j), (0, a), (0, b), (0, c), (0, i + 1), (0, th), (0, so)] [] (enc (wu w11 67 40 ((w11 67 40) - 1)) t12))))) ∧ (¬ (¬ w64 x1 = w64 0) → Ev (d + 68) 246 Q 3 [rA 67, (0, e), (0, dn), (0, al), (0, j), (0, a), (0, b), (0, c), (0, i + 1), (0, th), (0, so)] [] (enc w2 t3))))) : Ev (d + 68) 246 Q 87 [rA 67, (0, e), (0, dn), (0, al), (0, j), (0, a), (0, b), (0, c), (0, i), (0, th), (0, so)] [] (enc w t) := by
  refine e_lda (v := 67) (show am_cd 246 87 = (2, 88, 0, 2, []) by decide +kernel) rfl ?_
  refine e_ldi (show am_cd 246 88 = (2, 89, 1, 0, []) by decide +kernel) rfl ?_
  refine e_ldi (show am_cd 246 89 = (2, 91, 10, 0, []) by decide +kernel) rfl ?_
  refine e_ldi (show am_cd 246 91 = (2, 92, 3, 0, []) by decide +kernel) rfl ?_
  refine e_ldi (show am_cd 246 92 = (2, 94, 9, 0, []) by decide +kernel) rfl ?_
  refine e_ldi (show am_cd 246 94 = (2, 96, 6, 0, []) by decide +kernel) rfl ?_
  refine e_ldi (show am_cd 246 96 = (2, 98, 7, 0, []) by decide +kernel) rfl ?_
  refine e_ldi (show am_cd 246 98 = (2, 100, 8, 0, []) by decide +kernel) rfl ?_
  refine e_cV (z := 0) (a := 67) (as := [(0, e), (0, so), (0, al), (0, th), (0, b), (0, c), (0, i)]) (rest := []) (show am_cd 246 100 = (40, 103, 243, 0, [393]) by decide +kernel) (by decide +kernel) rfl rfl (Nat.le_of_ble_eq_true rfl) rfl ?_
  refine Cl.mono (Cl.up (c_behindB (d := d) _ _ _ _ _ _ _ _ _ h.1) (by omega)) ?_
  rintro _ _ ⟨x1, w2, t3, rfl, rfl, hp⟩
  refine ⟨fun _ h9 => (by cases h9), ?_⟩
  replace h := h.2 x1 w2 t3 hp
  show Ev _ 246 _ 103 [rA 67, (0, e), (0, dn), (0, al), (0, j), (0, a), (0, b), (0, c), (0, i), (0, th), (0, so)] [(1, x1)] _
  refine e_lc (show am_cd 246 103 = (1, 104, 0, 0, []) by decide +kernel) ?_
  refine e_lcb1 (show am_cd 246 104 = (9, 105, 0, 0, []) by decide +kernel) (show am_cd 246 105 = (10, 108, 111, 1, []) by decide +kernel) (fun hc => ?_) (fun hc => ?_)
  · replace h := h.1 hc
    refine e_lda (v := 67) (show am_cd 246 111 = (2, 112, 0, 2, []) by decide +kernel) rfl ?_
    refine e_ldi (show am_cd 246 112 = (2, 114, 8, 0, []) by decide +kernel) rfl ?_
    refine e_cV (z := 0) (a := 67) (as := [(0, i)]) (rest := []) (show am_cd 246 114 = (40, 117, 213, 0, [317]) by decide +kernel) (by decide +kernel) rfl rfl (Nat.le_of_ble_eq_true rfl) rfl ?_
    show Ev _ 213 _ 0 [rA 67, (0, i)] [] _
    refine e_lda (v := 67) (show am_cd 213 0 = (2, 1, 0, 2, []) by decide +kernel) rfl ?_
    refine e_getr (a := 67) (r := 94) (show am_cd 213 1 = (18, 4, 1239, 2, [95]) by decide +kernel) (by decide +kernel) (by decide +kernel) rfl ?_
    refine e_lda (v := 67) (show am_cd 213 4 = (2, 5, 0, 2, []) by decide +kernel) rfl ?_
    refine e_getf (a := 67) (tg := 0) (show am_cd 213 5 = (18, 8, 1240, 0, [272]) by decide +kernel) (by decide +kernel) (by decide +kernel) rfl ?_
    refine e_ldi (show am_cd 213 8 = (2, 9, 1, 0, []) by decide +kernel) rfl ?_
    refine e_iast (a := 94) (n := 16) (show am_cd 213 9 = (24, 10, 0, 0, []) by decide +kernel) (by decide +kernel) (by decide +kernel) (by decide +kernel) h.1 ?_
    replace h := h.2
    refine e_lda (v := 67) (show am_cd 213 10 = (2, 11, 0, 2, []) by decide +kernel) rfl ?_
    refine e_dup (show am_cd 213 11 = (13, 12, 0, 0, []) by decide +kernel) (by decide) ?_
    refine e_getfE (a := 67) (tg := 0) (v := w2 67 40) (show am_cd 213 12 = (18, 15, 1240, 0, [272]) by decide +kernel) (by decide +kernel) (by decide +kernel) rfl rfl ?_
    refine e_ic (show am_cd 213 15 = (0, 16, 0, 1, []) by decide +kernel) ?_
    refine e_iadd (show am_cd 213 16 = (5, 17, 0, 0, []) by decide +kernel) ?_
    refine e_putf (a := 67) (show am_cd 213 17 = (19, 20, 1240, 0, [272]) by decide +kernel) (by decide +kernel) (by decide +kernel) rfl (fun h9 => absurd h9 (by decide)) (fun h9 => absurd h9 (by decide +kernel)) ?_
    refine e_retv (show am_cd 213 20 = (36, 21, 3, 0, []) by decide +kernel) (by decide +kernel) ⟨fun _ h9 => (by cases h9), ?_⟩
    show Ev _ 246 _ 117 [rA 67, (0, e), (0, dn), (0, al), (0, j), (0, a), (0, b), (0, c), (0, i), (0, th), (0, so)] [] _
    refine e_ldi (show am_cd 246 117 = (2, 119, 10, 0, []) by decide +kernel) rfl ?_
    refine e_lda (v := 67) (show am_cd 246 119 = (2, 120, 0, 2, []) by decide +kernel) rfl ?_
    refine e_getr (a := 67) (r := 79) (show am_cd 246 120 = (18, 123, 1215, 2, [43]) by decide +kernel) (by decide +kernel) (by decide +kernel) rfl ?_
    refine e_ldi (show am_cd 246 123 = (2, 124, 1, 0, []) by decide +kernel) rfl ?_
    refine e_ialdE (a := 79) (n := 16) (v := w2 79 (w32 e).toNat) (show am_cd 246 124 = (21, 125, 0, 0, []) by decide +kernel) (by decide +kernel) (by decide +kernel) (by decide +kernel) h.1 rfl ?_
    replace h := h.2
    refine e_cmp3 (show am_cd 246 125 = (11, 128, 147, 3, []) by decide +kernel) (fun hc => ?_) (fun hc => ?_)
    · replace h := h.1 hc
      refine e_lda (v := 67) (show am_cd 246 147 = (2, 148, 0, 2, []) by decide +kernel) rfl ?_
      refine e_getr (a := 67) (r := 78) (show am_cd 246 148 = (18, 151, 1214, 2, [40]) by decide +kernel) (by decide +kernel) (by decide +kernel) rfl ?_
      refine e_ldi (show am_cd 246 151 = (2, 152, 1, 0, []) by decide +kernel) rfl ?_
      refine e_ialdE (a := 78) (n := 16) (v := w2 78 (w32 e).toNat) (show am_cd 246 152 = (21, 153, 0, 0, []) by decide +kernel) (by decide +kernel) (by decide +kernel) (by decide +kernel) h.1 rfl ?_
      replace h := h.2
      refine e_ic (show am_cd 246 153 = (0, 154, 0, -1, []) by decide +kernel) ?_
      refine e_cmp0 (show am_cd 246 154 = (11, 157, 179, 0, []) by decide +kernel) (fun hc => ?_) (fun hc => ?_)
      · replace h := h.1 hc
        refine e_lda (v := 67) (show am_cd 246 179 = (2, 180, 0, 2, []) by decide +kernel) rfl ?_
        refine e_ldi (show am_cd 246 180 = (2, 182, 9, 0, []) by decide +kernel) rfl ?_
        refine e_ldi (show am_cd 246 182 = (2, 184, 6, 0, []) by decide +kernel) rfl ?_
        refine e_ldi (show am_cd 246 184 = (2, 186, 7, 0, []) by decide +kernel) rfl ?_
        refine e_ldi (show am_cd 246 186 = (2, 188, 8, 0, []) by decide +kernel) rfl ?_
        refine e_cV (z := 0) (a := 67) (as := [(0, th), (0, b), (0, c), (0, i)]) (rest := []) (show am_cd 246 188 = (40, 191, 247, 0, [415]) by decide +kernel) (by decide +kernel) rfl rfl (Nat.le_of_ble_eq_true rfl) rfl ?_
        obtain ⟨g4, h⟩ := h
        refine Cl.mono (Cl.up (hrN g4 _ _ _ _ _ _ h.1) (by omega)) ?_
        rintro _ _ ⟨w5, t6, rfl, rfl, hp⟩
        refine ⟨fun _ h9 => (by cases h9), ?_⟩
        replace h := h.2 w5 t6 hp
        show Ev _ 246 _ 191 [rA 67, (0, e), (0, dn), (0, al), (0, j), (0, a), (0, b), (0, c), (0, i), (0, th), (0, so)] [] _
        refine e_lda (v := 67) (show am_cd 246 191 = (2, 192, 0, 2, []) by decide +kernel) rfl ?_
        refine e_dup (show am_cd 246 192 = (13, 193, 0, 0, []) by decide +kernel) (by decide) ?_
        refine e_getf (a := 67) (tg := 0) (show am_cd 246 193 = (18, 196, 1240, 0, [272]) by decide +kernel) (by decide +kernel) (by decide +kernel) rfl ?_
        refine e_ic (show am_cd 246 196 = (0, 197, 0, 1, []) by decide +kernel) ?_
        refine e_isub (show am_cd 246 197 = (5, 198, 1, 0, []) by decide +kernel) ?_
        refine e_putf (a := 67) (show am_cd 246 198 = (19, 201, 1240, 0, [272]) by decide +kernel) (by decide +kernel) (by decide +kernel) rfl (fun h9 => absurd h9 (by decide)) (fun h9 => absurd h9 (by decide +kernel)) ?_
        refine e_inc (la2 := [rA 67, (0, e), (0, dn), (0, al), (0, j), (0, a), (0, b), (0, c), (0, i + 1), (0, th), (0, so)]) (show am_cd 246 201 = (4, 204, 8, 1, []) by decide +kernel) rfl rfl ?_
        refine e_go (show am_cd 246 204 = (12, 3, 0, 0, []) by decide +kernel) ?_
        exact h
      · replace h := h.2 hc
        refine e_lda (v := 67) (show am_cd 246 157 = (2, 158, 0, 2, []) by decide +kernel) rfl ?_
        refine e_lda (v := 67) (show am_cd 246 158 = (2, 159, 0, 2, []) by decide +kernel) rfl ?_
        refine e_getr (a := 67) (r := 78) (show am_cd 246 159 = (18, 162, 1214, 2, [40]) by decide +kernel) (by decide +kernel) (by decide +kernel) rfl ?_
        refine e_ldi (show am_cd 246 162 = (2, 163, 1, 0, []) by decide +kernel) rfl ?_
        refine e_ialdE (a := 78) (n := 16) (v := w2 78 (w32 e).toNat) (show am_cd 246 163 = (21, 164, 0, 0, []) by decide +kernel) (by decide +kernel) (by decide +kernel) (by decide +kernel) h.1 rfl ?_
        replace h := h.2
        refine e_ldi (show am_cd 246 164 = (2, 165, 3, 0, []) by decide +kernel) rfl ?_
        refine e_ldi (show am_cd 246 165 = (2, 167, 9, 0, []) by decide +kernel) rfl ?_
        refine e_ldi (show am_cd 246 167 = (2, 169, 6, 0, []) by decide +kernel) rfl ?_
        refine e_ldi (show am_cd 246 169 = (2, 171, 7, 0, []) by decide +kernel) rfl ?_
        refine e_ldi (show am_cd 246 171 = (2, 173, 8, 0, []) by decide +kernel) rfl ?_
        refine e_cV (z := 0) (a := 67) (as := [(0, w2 78 (w32 e).toNat), (0, al), (0, th), (0, b), (0, c), (0, i)]) (rest := []) (show am_cd 246 173 = (40, 176, 248, 0, [411]) by decide +kernel) (by decide +kernel) rfl rfl (Nat.le_of_ble_eq_true rfl) rfl ?_
        obtain ⟨g7, h⟩ := h
        refine Cl.mono (Cl.up (hrE g7 _ _ _ _ _ _ _ _ h.1) (by omega)) ?_
        rintro _ _ ⟨w8, t9, rfl, rfl, hp⟩
        refine ⟨fun _ h9 => (by cases h9), ?_⟩
        replace h := h.2 w8 t9 hp
        show Ev _ 246 _ 176 [rA 67, (0, e), (0, dn), (0, al), (0, j), (0, a), (0, b), (0, c), (0, i), (0, th), (0, so)] [] _
        refine e_go (show am_cd 246 176 = (12, 191, 0, 0, []) by decide +kernel) ?_
        refine e_lda (v := 67) (show am_cd 246 191 = (2, 192, 0, 2, []) by decide +kernel) rfl ?_
        refine e_dup (show am_cd 246 192 = (13, 193, 0, 0, []) by decide +kernel) (by decide) ?_
        refine e_getf (a := 67) (tg := 0) (show am_cd 246 193 = (18, 196, 1240, 0, [272]) by decide +kernel) (by decide +kernel) (by decide +kernel) rfl ?_
        refine e_ic (show am_cd 246 196 = (0, 197, 0, 1, []) by decide +kernel) ?_
        refine e_isub (show am_cd 246 197 = (5, 198, 1, 0, []) by decide +kernel) ?_
        refine e_putf (a := 67) (show am_cd 246 198 = (19, 201, 1240, 0, [272]) by decide +kernel) (by decide +kernel) (by decide +kernel) rfl (fun h9 => absurd h9 (by decide)) (fun h9 => absurd h9 (by decide +kernel)) ?_
        refine e_inc (la2 := [rA 67, (0, e), (0, dn), (0, al), (0, j), (0, a), (0, b), (0, c), (0, i + 1), (0, th), (0, so)]) (show am_cd 246 201 = (4, 204, 8, 1, []) by decide +kernel) rfl rfl ?_
        refine e_go (show am_cd 246 204 = (12, 3, 0, 0, []) by decide +kernel) ?_
        exact h
    · replace h := h.2 hc
      refine e_lda (v := 67) (show am_cd 246 128 = (2, 129, 0, 2, []) by decide +kernel) rfl ?_
      refine e_ldi (show am_cd 246 129 = (2, 130, 1, 0, []) by decide +kernel) rfl ?_
      refine e_ldi (show am_cd 246 130 = (2, 132, 10, 0, []) by decide +kernel) rfl ?_
      refine e_ldi (show am_cd 246 132 = (2, 133, 3, 0, []) by decide +kernel) rfl ?_
      refine e_ldi (show am_cd 246 133 = (2, 135, 9, 0, []) by decide +kernel) rfl ?_
      refine e_ldi (show am_cd 246 135 = (2, 137, 6, 0, []) by decide +kernel) rfl ?_
      refine e_ldi (show am_cd 246 137 = (2, 139, 7, 0, []) by decide +kernel) rfl ?_
      refine e_ldi (show am_cd 246 139 = (2, 141, 8, 0, []) by decide +kernel) rfl ?_
      refine e_cV (z := 0) (a := 67) (as := [(0, e), (0, so), (0, al), (0, th), (0, b), (0, c), (0, i)]) (rest := []) (show am_cd 246 141 = (40, 144, 246, 0, [407]) by decide +kernel) (by decide +kernel) rfl rfl (Nat.le_of_ble_eq_true rfl) rfl ?_
      obtain ⟨g10, h⟩ := h
      refine Cl.mono (Cl.up (hrW g10 _ _ _ _ _ _ _ _ _ h.1) (by omega)) ?_
      rintro _ _ ⟨w11, t12, rfl, rfl, hp⟩
      refine ⟨fun _ h9 => (by cases h9), ?_⟩
      replace h := h.2 w11 t12 hp
      show Ev _ 246 _ 144 [rA 67, (0, e), (0, dn), (0, al), (0, j), (0, a), (0, b), (0, c), (0, i), (0, th), (0, so)] [] _
      refine e_go (show am_cd 246 144 = (12, 191, 0, 0, []) by decide +kernel) ?_
      refine e_lda (v := 67) (show am_cd 246 191 = (2, 192, 0, 2, []) by decide +kernel) rfl ?_
      refine e_dup (show am_cd 246 192 = (13, 193, 0, 0, []) by decide +kernel) (by decide) ?_
      refine e_getf (a := 67) (tg := 0) (show am_cd 246 193 = (18, 196, 1240, 0, [272]) by decide +kernel) (by decide +kernel) (by decide +kernel) rfl ?_
      refine e_ic (show am_cd 246 196 = (0, 197, 0, 1, []) by decide +kernel) ?_
      refine e_isub (show am_cd 246 197 = (5, 198, 1, 0, []) by decide +kernel) ?_
      refine e_putf (a := 67) (show am_cd 246 198 = (19, 201, 1240, 0, [272]) by decide +kernel) (by decide +kernel) (by decide +kernel) rfl (fun h9 => absurd h9 (by decide)) (fun h9 => absurd h9 (by decide +kernel)) ?_
      refine e_inc (la2 := [rA 67, (0, e), (0, dn), (0, al), (0, j), (0, a), (0, b), (0, c), (0, i + 1), (0, th), (0, so)]) (show am_cd 246 201 = (4, 204, 8, 1, []) by decide +kernel) rfl rfl ?_
      refine e_go (show am_cd 246 204 = (12, 3, 0, 0, []) by decide +kernel) ?_
      exact h
  · replace h := h.2 hc
    refine e_go (show am_cd 246 108 = (12, 201, 0, 0, []) by decide +kernel) ?_
    refine e_inc (la2 := [rA 67, (0, e), (0, dn), (0, al), (0, j), (0, a), (0, b), (0, c), (0, i + 1), (0, th), (0, so)]) (show am_cd 246 201 = (4, 204, 8, 1, []) by decide +kernel) rfl rfl ?_
    refine e_go (show am_cd 246 204 = (12, 3, 0, 0, []) by decide +kernel) ?_
    exact h

