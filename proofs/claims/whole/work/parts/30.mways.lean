/-! The model: in how many ways. -/
theorem c_knownD {d : Nat} {w : eW} {t : eT} {D : Int → Option Int} {key : Int} (h : DV w D ∧ (0 ≤ key ∧ key ≤ 2147483647) ∧ (D key).isSome = true) : Cl (d + 1) 206 [rA 67, (0, key)] (enc w t) (fun z S2 => z = some (1, (D key).getD 0) ∧ S2 = enc w t) := by
  obtain ⟨h1, h2, h3⟩ := h
  cases hD : D key with
  | none => rw [hD] at h3; cases h3
  | some v => exact c_known ⟨h1, h2, hD⟩
theorem FrT.rf (w : eW) : FrT w w := ⟨fun _ _ _ _ => rfl, fun _ _ => rfl⟩
theorem FrT.tr {w a b : eW} (h : FrT w a) (h2 : FrT a b) : FrT w b := ⟨fun q h3 h4 h5 => by rw [h2.1 q h3 h4 h5, h.1 q h3 h4 h5], fun k hk => by rw [h2.2 k hk, h.2 k hk]⟩
theorem MG.fr {w w2 m : eW} (h : MG w m) (h0 : w2 67 0 = w 67 0) (h6 : w2 67 6 = w 67 6) (hr : ∀ a, 68 ≤ a → a ≤ 76 → w2 a = w a) : MG w2 m := by
  obtain ⟨h1, h2, h3, h4⟩ := h
  refine ⟨h1, h2, ⟨by rw [h0]; exact h3.1, fun p hp => ?_⟩, ⟨by rw [h6]; exact h4.1, fun r hr2 => ?_⟩⟩
  · rw [hr 68 (by decide) (by decide), hr 69 (by decide) (by decide)]; exact h3.2 p hp
  · rw [hr 72 (by decide) (by decide), hr 73 (by decide) (by decide), hr 74 (by decide) (by decide), hr 75 (by decide) (by decide), hr 76 (by decide) (by decide)]; exact h4.2 r hr2
theorem MG.frT {w w2 m : eW} (h : MG w m) (hf : FrT w w2) : MG w2 m := h.fr (hf.2 0 (by decide)) (hf.2 6 (by decide)) (fun a h1 h2 => hf.1 a (by omega) (by omega) (by omega))
theorem TkM.frT {w w2 : eW} {q n : Nat} {lt : Nat → Int} (h : TkM w q lt n) (hf : FrT w w2) : TkM w2 q lt n := by
  obtain ⟨h1, h2, h3, h4⟩ := h
  refine ⟨by rw [hf.2 49 (by decide)]; exact h1, h2, fun hq => ?_, fun hq => ?_⟩
  · obtain ⟨a1, a2, a3⟩ := h3 hq
    exact ⟨by rw [hf.2 48 (by decide)]; exact a1, a2, by rw [hf.1 91 (by decide) (by decide) (by decide)]; exact a3⟩
  · obtain ⟨a1, a2, a3⟩ := h4 hq
    exact ⟨by rw [hf.2 47 (by decide)]; exact a1, a2, by rw [hf.1 90 (by decide) (by decide) (by decide)]; exact a3⟩
/-- what is known is right -/
def KnW (P : Int → Int → Prop) (w : eW) : Prop := ∃ D, DV w D ∧ ∀ key v, 0 ≤ key → D key = some v → P key v
theorem KnW.learn {P : Int → Int → Prop} {w w2 : eW} {D : Int → Option Int} {key v : Int} (hP : ∀ key v, 0 ≤ key → D key = some v → P key v) (hv : P key v) (h : DV w2 (uD D key v) ∨ (500000 ≤ w 67 38 ∧ DV w2 D)) : KnW P w2 := by
  rcases h with h | h
  · refine ⟨_, h, fun k u hk hu => ?_⟩
    unfold uD at hu
    split at hu
    · next he => cases hu; rw [he]; exact hv
    · exact hP k u hk hu
  · exact ⟨_, h.2, hP⟩
def PmW (m : eW) (q : Nat) (lt : Nat → Int) (n : Nat) (key v : Int) : Prop := ∀ s a b c : Nat, a ≤ 16 → b ≤ 16 → c ≤ 16 → key = (s : Int) * 4913 + (((a : Int) * 17 + b) * 17 + c) → v = (cw m q lt n s a b c : Int)
def WPR (m : eW) (q : Nat) (lt : Nat → Int) (n B : Nat) (s a b c : Int) (w : eW) (_ : eT) : Prop := MG w m ∧ w 67 35 = -1 ∧ TkM w q lt n ∧ (0 ≤ s ∧ s.toNat / 16 ≤ n ∧ s.toNat % 16 ≤ 8) ∧ gE a ∧ gE b ∧ gC m c ∧ mW m q n s.toNat c.toNat < B ∧ KnW (PmW m q lt n) w
def WPO (m : eW) (q : Nat) (lt : Nat → Int) (n : Nat) (s a b c : Int) (w : eW) (t : eT) (x : Int) (w2 : eW) (t2 : eT) : Prop := x = (cw m q lt n s.toNat a.toNat b.toNat c.toNat : Int) ∧ t2 = t ∧ FrT w w2 ∧ KnW (PmW m q lt n) w2

theorem g_waysFrom0 {d : Nat} {Q : Option aV → aS → Prop} {w : eW} {t : eT} {s a b c : Int} {m : eW} {q n : Nat} {lt : Nat → Int} {D : Int → Option Int} {wo : Int} {J : aV} (hw : w32 wo = wo) (h : (DV w D ∧ 0 ≤ (s * 4913) + ((((a * 17) + b) * 17) + c) ∧ (s * 4913) + ((((a * 17) + b) * 17) + c) ≤ 2147483647) ∧ ((((D ((s * 4913) + ((((a * 17) + b) * 17) + c))).isSome) = false → (TkM w q lt n ∧ (0 ≤ s ∧ s.toNat / 16 ≤ n)) ∧ (((decide (s.toNat / 16 = n)) = false → Ev (d + 6) 232 Q 60 [rA 67, (0, s), (0, a), (0, b), (0, c), (0, (s * 4913) + ((((a * 17) + b) * 17) + c)), (1, 0), (9, 0), (0, 0), (9, 0)] [] (enc w t)) ∧ ((decide (s.toNat / 16 = n)) = true → (MG w m ∧ w 67 35 = wo ∧ gE a ∧ gE b ∧ gC m c) ∧ (((isE m wo a.toNat b.toNat c.toNat) = false → Ev (d + 6) 232 Q 60 [rA 67, (0, s), (0, a), (0, b), (0, c), (0, (s * 4913) + ((((a * 17) + b) * 17) + c)), (1, 0), (9, 0), (0, 0), (9, 0)] [] (enc w t)) ∧ ((isE m wo a.toNat b.toNat c.toNat) = true → Ev (d + 6) 232 Q 60 [rA 67, (0, s), (0, a), (0, b), (0, c), (0, (s * 4913) + ((((a * 17) + b) * 17) + c)), (1, 1), (9, 0), (0, 0), (9, 0)] [] (enc w t)))))) ∧ (((D ((s * 4913) + ((((a * 17) + b) * 17) + c))).isSome) = true → (DV w D ∧ (0 ≤ (s * 4913) + ((((a * 17) + b) * 17) + c) ∧ (s * 4913) + ((((a * 17) + b) * 17) + c) ≤ 2147483647) ∧ (D ((s * 4913) + ((((a * 17) + b) * 17) + c))).isSome = true) ∧ (Q (some (1, (D ((s * 4913) + ((((a * 17) + b) * 17) + c))).getD 0)) (enc w t))))) : Cl (d + 6) 232 [rA 67, (0, s), (0, a), (0, b), (0, c)] (enc w t) Q := by
  show Ev (d + 6) 232 Q 0 [rA 67, (0, s), (0, a), (0, b), (0, c), (9, 0), (9, 0), (9, 0), (9, 0), (9, 0)] [] (enc w t)
  refine e_ldi (show am_cd 232 0 = (2, 1, 1, 0, []) by decide +kernel) rfl ?_
  refine e_ic (show am_cd 232 1 = (0, 4, 2, 4913, []) by decide +kernel) ?_
  refine e_imul (show am_cd 232 4 = (5, 5, 2, 0, []) by decide +kernel) ?_
  refine e_ldi (show am_cd 232 5 = (2, 6, 2, 0, []) by decide +kernel) rfl ?_
  refine e_ldi (show am_cd 232 6 = (2, 7, 3, 0, []) by decide +kernel) rfl ?_
  refine e_ldi (show am_cd 232 7 = (2, 9, 4, 0, []) by decide +kernel) rfl ?_
  refine e_cS (z := 0) (as := [(0, a), (0, b), (0, c)]) (rest := [(0, s * 4913)]) (show am_cd 232 9 = (40, 12, 209, 1, [278]) by decide +kernel) (by decide) rfl rfl (Nat.le_of_ble_eq_true rfl) rfl ?_
  show Ev _ 209 _ 0 [(0, a), (0, b), (0, c)] [] _
  refine e_ldi (show am_cd 209 0 = (2, 1, 0, 0, []) by decide +kernel) rfl ?_
  refine e_ic (show am_cd 209 1 = (0, 3, 1, 17, []) by decide +kernel) ?_
  refine e_imul (show am_cd 209 3 = (5, 4, 2, 0, []) by decide +kernel) ?_
  refine e_ldi (show am_cd 209 4 = (2, 5, 1, 0, []) by decide +kernel) rfl ?_
  refine e_iadd (show am_cd 209 5 = (5, 6, 0, 0, []) by decide +kernel) ?_
  refine e_ic (show am_cd 209 6 = (0, 8, 1, 17, []) by decide +kernel) ?_
  refine e_imul (show am_cd 209 8 = (5, 9, 2, 0, []) by decide +kernel) ?_
  refine e_ldi (show am_cd 209 9 = (2, 10, 2, 0, []) by decide +kernel) rfl ?_
  refine e_iadd (show am_cd 209 10 = (5, 11, 0, 0, []) by decide +kernel) ?_
  refine e_reti (show am_cd 209 11 = (36, 12, 0, 0, []) by decide +kernel) (by decide +kernel) ⟨fun _ h9 => (by cases h9), ?_⟩
  show Ev _ 232 _ 12 [rA 67, (0, s), (0, a), (0, b), (0, c), (9, 0), (9, 0), (9, 0), (9, 0), (9, 0)] [(0, (((a * 17) + b) * 17) + c), (0, s * 4913)] _
  refine e_iadd (show am_cd 232 12 = (5, 13, 0, 0, []) by decide +kernel) ?_
  refine e_sti (la2 := [rA 67, (0, s), (0, a), (0, b), (0, c), (0, (s * 4913) + ((((a * 17) + b) * 17) + c)), (9, 0), (9, 0), (9, 0), (9, 0)]) (show am_cd 232 13 = (3, 15, 5, 0, []) by decide +kernel) rfl ?_
  refine e_lda (v := 67) (show am_cd 232 15 = (2, 16, 0, 2, []) by decide +kernel) rfl ?_
  refine e_ldi (show am_cd 232 16 = (2, 18, 5, 0, []) by decide +kernel) rfl ?_
  refine e_cV (z := 0) (a := 67) (as := [(0, (s * 4913) + ((((a * 17) + b) * 17) + c))]) (rest := []) (show am_cd 232 18 = (40, 21, 205, 0, [295]) by decide +kernel) (by decide +kernel) rfl rfl (Nat.le_of_ble_eq_true rfl) rfl ?_
  refine Cl.mono (Cl.up (c_isKnown (d := d) h.1) (by omega)) ?_
  rintro _ _ ⟨rfl, rfl⟩
  refine ⟨fun _ h9 => (by cases h9), ?_⟩
  replace h := h.2
  show Ev _ 232 _ 21 [rA 67, (0, s), (0, a), (0, b), (0, c), (0, (s * 4913) + ((((a * 17) + b) * 17) + c)), (9, 0), (9, 0), (9, 0), (9, 0)] [(0, bI ((D ((s * 4913) + ((((a * 17) + b) * 17) + c))).isSome))] _
  refine e_ifb0 (show am_cd 232 21 = (10, 24, 31, 0, []) by decide +kernel) (fun hc => ?_) (fun hc => ?_)
  · replace h := h.1 hc
    refine e_lda (v := 67) (show am_cd 232 31 = (2, 32, 0, 2, []) by decide +kernel) rfl ?_
    refine e_ldi (show am_cd 232 32 = (2, 33, 1, 0, []) by decide +kernel) rfl ?_
    refine e_cV (z := 0) (a := 67) (as := [(0, s)]) (rest := []) (show am_cd 232 33 = (40, 36, 231, 0, [360]) by decide +kernel) (by decide +kernel) rfl rfl (Nat.le_of_ble_eq_true rfl) rfl ?_
    refine Cl.mono (Cl.up (c_isThrough (d := d) h.1) (by omega)) ?_
    rintro _ _ ⟨rfl, rfl⟩
    refine ⟨fun _ h9 => (by cases h9), ?_⟩
    replace h := h.2
    show Ev _ 232 _ 36 [rA 67, (0, s), (0, a), (0, b), (0, c), (0, (s * 4913) + ((((a * 17) + b) * 17) + c)), (9, 0), (9, 0), (9, 0), (9, 0)] [(0, bI (decide (s.toNat / 16 = n)))] _
    refine e_ifb0 (show am_cd 232 36 = (10, 39, 54, 0, []) by decide +kernel) (fun hc => ?_) (fun hc => ?_)
    · replace h := h.1 hc
      refine e_lc (show am_cd 232 54 = (1, 55, 0, 0, []) by decide +kernel) ?_
      refine e_stl (la2 := [rA 67, (0, s), (0, a), (0, b), (0, c), (0, (s * 4913) + ((((a * 17) + b) * 17) + c)), (1, 0), (9, 0), (9, 0), (9, 0)]) (show am_cd 232 55 = (3, 57, 6, 1, []) by decide +kernel) rfl ?_
      refine e_ic (show am_cd 232 57 = (0, 58, 0, 0, []) by decide +kernel) ?_
      refine e_sti (la2 := [rA 67, (0, s), (0, a), (0, b), (0, c), (0, (s * 4913) + ((((a * 17) + b) * 17) + c)), (1, 0), (9, 0), (0, 0), (9, 0)]) (show am_cd 232 58 = (3, 60, 8, 0, []) by decide +kernel) rfl ?_
      exact h
    · replace h := h.2 hc
      refine e_lda (v := 67) (show am_cd 232 39 = (2, 40, 0, 2, []) by decide +kernel) rfl ?_
      refine e_ldi (show am_cd 232 40 = (2, 41, 2, 0, []) by decide +kernel) rfl ?_
      refine e_ldi (show am_cd 232 41 = (2, 42, 3, 0, []) by decide +kernel) rfl ?_
      refine e_ldi (show am_cd 232 42 = (2, 44, 4, 0, []) by decide +kernel) rfl ?_
      refine e_cV (z := 0) (a := 67) (as := [(0, a), (0, b), (0, c)]) (rest := []) (show am_cd 232 44 = (40, 47, 211, 0, [285]) by decide +kernel) (by decide +kernel) rfl rfl (Nat.le_of_ble_eq_true rfl) rfl ?_
      refine Cl.mono (Cl.up (c_isEnd (hw := hw) (d := d) h.1) (by omega)) ?_
      rintro _ _ ⟨rfl, rfl⟩
      refine ⟨fun _ h9 => (by cases h9), ?_⟩
      replace h := h.2
      show Ev _ 232 _ 47 [rA 67, (0, s), (0, a), (0, b), (0, c), (0, (s * 4913) + ((((a * 17) + b) * 17) + c)), (9, 0), (9, 0), (9, 0), (9, 0)] [(0, bI (isE m wo a.toNat b.toNat c.toNat))] _
      refine e_ifb0 (show am_cd 232 47 = (10, 50, 54, 0, []) by decide +kernel) (fun hc => ?_) (fun hc => ?_)
      · replace h := h.1 hc
        refine e_lc (show am_cd 232 54 = (1, 55, 0, 0, []) by decide +kernel) ?_
        refine e_stl (la2 := [rA 67, (0, s), (0, a), (0, b), (0, c), (0, (s * 4913) + ((((a * 17) + b) * 17) + c)), (1, 0), (9, 0), (9, 0), (9, 0)]) (show am_cd 232 55 = (3, 57, 6, 1, []) by decide +kernel) rfl ?_
        refine e_ic (show am_cd 232 57 = (0, 58, 0, 0, []) by decide +kernel) ?_
        refine e_sti (la2 := [rA 67, (0, s), (0, a), (0, b), (0, c), (0, (s * 4913) + ((((a * 17) + b) * 17) + c)), (1, 0), (9, 0), (0, 0), (9, 0)]) (show am_cd 232 58 = (3, 60, 8, 0, []) by decide +kernel) rfl ?_
        exact h
      · replace h := h.2 hc
        refine e_lc (show am_cd 232 50 = (1, 51, 0, 1, []) by decide +kernel) ?_
        refine e_go (show am_cd 232 51 = (12, 55, 0, 0, []) by decide +kernel) ?_
        refine e_stl (la2 := [rA 67, (0, s), (0, a), (0, b), (0, c), (0, (s * 4913) + ((((a * 17) + b) * 17) + c)), (1, 1), (9, 0), (9, 0), (9, 0)]) (show am_cd 232 55 = (3, 57, 6, 1, []) by decide +kernel) rfl ?_
        refine e_ic (show am_cd 232 57 = (0, 58, 0, 0, []) by decide +kernel) ?_
        refine e_sti (la2 := [rA 67, (0, s), (0, a), (0, b), (0, c), (0, (s * 4913) + ((((a * 17) + b) * 17) + c)), (1, 1), (9, 0), (0, 0), (9, 0)]) (show am_cd 232 58 = (3, 60, 8, 0, []) by decide +kernel) rfl ?_
        exact h
  · replace h := h.2 hc
    refine e_lda (v := 67) (show am_cd 232 24 = (2, 25, 0, 2, []) by decide +kernel) rfl ?_
    refine e_ldi (show am_cd 232 25 = (2, 27, 5, 0, []) by decide +kernel) rfl ?_
    refine e_cV (z := 0) (a := 67) (as := [(0, (s * 4913) + ((((a * 17) + b) * 17) + c))]) (rest := []) (show am_cd 232 27 = (40, 30, 206, 0, [298]) by decide +kernel) (by decide +kernel) rfl rfl (Nat.le_of_ble_eq_true rfl) rfl ?_
    refine Cl.mono (Cl.up (c_knownD (d := d) h.1) (by omega)) ?_
    rintro _ _ ⟨rfl, rfl⟩
    refine ⟨fun _ h9 => (by cases h9), ?_⟩
    replace h := h.2
    show Ev _ 232 _ 30 [rA 67, (0, s), (0, a), (0, b), (0, c), (0, (s * 4913) + ((((a * 17) + b) * 17) + c)), (9, 0), (9, 0), (9, 0), (9, 0)] [(1, (D ((s * 4913) + ((((a * 17) + b) * 17) + c))).getD 0)] _
    exact e_retl (show am_cd 232 30 = (36, 31, 1, 0, []) by decide +kernel) (by decide +kernel) h

theorem g_waysFrom1 {d : Nat} {Q : Option aV → aS → Prop} {w : eW} {t : eT} {s a b c key sum i : Int} {m : eW} {q n : Nat} {lt : Nat → Int} {D : Int → Option Int} {wo : Int} {J : aV} (hw : w32 wo = wo) {PRW : Int → Int → Int → Int → eW → eT → Prop} {POW : Int → Int → Int → Int → eW → eT → Int → eW → eT → Prop} (hrW : ∀ (a1 a2 a3 a4 : Int) (w : eW) (t : eT), PRW a1 a2 a3 a4 w t → Cl (d + 5) 232 [rA 67, (0, a1), (0, a2), (0, a3), (0, a4)] (enc w t) (fun r S2 => ∃ x w2 t2, r = some (1, x) ∧ S2 = enc w2 t2 ∧ POW a1 a2 a3 a4 w t x w2 t2)) (h : ((w32 (w 67 0) ≤ w32 i → (DV w D ∧ 0 ≤ key ∧ key ≤ 2147483647) ∧ (∀ w1, (FrT w w1 ∧ w1 67 38 ≤ w 67 38 + 1 ∧ (DV w1 (uD D key sum) ∨ (500000 ≤ w 67 38 ∧ DV w1 D))) → Q (some (1, sum)) (enc w1 t))) ∧ (¬ (w32 (w 67 0) ≤ w32 i) → (MG w m ∧ TkM w q lt n ∧ (0 ≤ s ∧ s.toNat / 16 ≤ n ∧ s.toNat % 16 ≤ 8) ∧ gP m i) ∧ ((w32 (oI (stT m q lt n s.toNat i.toNat)) = w32 (-1) → Ev (d + 6) 232 Q 60 [rA 67, (0, s), (0, a), (0, b), (0, c), (0, key), (1, sum), (9, 0), (0, i + 1), (0, oI (stT m q lt n s.toNat i.toNat))] [] (enc w t)) ∧ (¬ (w32 (oI (stT m q lt n s.toNat i.toNat)) = w32 (-1)) → (MG w m ∧ w 67 35 = wo ∧ gE a ∧ gE b ∧ gC m c ∧ gC m i) ∧ (((goes m wo a.toNat b.toNat c.toNat i.toNat) = false → Ev (d + 6) 232 Q 60 [rA 67, (0, s), (0, a), (0, b), (0, c), (0, key), (1, sum), (9, 0), (0, i + 1), (0, oI (stT m q lt n s.toNat i.toNat))] [] (enc w t)) ∧ ((goes m wo a.toNat b.toNat c.toNat i.toNat) = true → (PRW (oI (stT m q lt n s.toNat i.toNat)) b c i w t) ∧ (∀ x2 w3 t4, (POW (oI (stT m q lt n s.toNat i.toNat)) b c i w t x2 w3 t4) → Ev (d + 6) 232 Q 60 [rA 67, (0, s), (0, a), (0, b), (0, c), (0, key), (1, sum + x2), (9, 0), (0, i + 1), (0, oI (stT m q lt n s.toNat i.toNat))] [] (enc w3 t4))))))))) : Ev (d + 6) 232 Q 60 [rA 67, (0, s), (0, a), (0, b), (0, c), (0, key), (1, sum), (9, 0), (0, i), J] [] (enc w t) := by
  refine e_ldi (show am_cd 232 60 = (2, 62, 8, 0, []) by decide +kernel) rfl ?_
  refine e_lda (v := 67) (show am_cd 232 62 = (2, 63, 0, 2, []) by decide +kernel) rfl ?_
  refine e_getf (a := 67) (tg := 0) (show am_cd 232 63 = (18, 66, 1200, 0, [168]) by decide +kernel) (by decide +kernel) (by decide +kernel) rfl ?_
  refine e_cmp3 (show am_cd 232 66 = (11, 69, 119, 3, []) by decide +kernel) (fun hc => ?_) (fun hc => ?_)
  · replace h := h.1 hc
    refine e_lda (v := 67) (show am_cd 232 119 = (2, 120, 0, 2, []) by decide +kernel) rfl ?_
    refine e_ldi (show am_cd 232 120 = (2, 122, 5, 0, []) by decide +kernel) rfl ?_
    refine e_ldl (show am_cd 232 122 = (2, 124, 6, 1, []) by decide +kernel) rfl ?_
    refine e_cV (z := 0) (a := 67) (as := [(0, key), (1, sum)]) (rest := []) (show am_cd 232 124 = (40, 127, 207, 0, [307]) by decide +kernel) (by decide +kernel) rfl rfl (Nat.le_of_ble_eq_true rfl) rfl ?_
    refine Cl.mono (Cl.up (c_learns (d := d) h.1) (by omega)) ?_
    rintro _ _ ⟨w1, rfl, rfl, hp⟩
    refine ⟨fun _ h9 => (by cases h9), ?_⟩
    replace h := h.2 w1 hp
    show Ev _ 232 _ 127 [rA 67, (0, s), (0, a), (0, b), (0, c), (0, key), (1, sum), (9, 0), (0, i), J] [(1, sum)] _
    exact e_retl (show am_cd 232 127 = (36, 128, 1, 0, []) by decide +kernel) (by decide +kernel) h
  · replace h := h.2 hc
    refine e_lda (v := 67) (show am_cd 232 69 = (2, 70, 0, 2, []) by decide +kernel) rfl ?_
    refine e_ldi (show am_cd 232 70 = (2, 71, 1, 0, []) by decide +kernel) rfl ?_
    refine e_ldi (show am_cd 232 71 = (2, 73, 8, 0, []) by decide +kernel) rfl ?_
    refine e_cV (z := 0) (a := 67) (as := [(0, s), (0, i)]) (rest := []) (show am_cd 232 73 = (40, 76, 230, 0, [363]) by decide +kernel) (by decide +kernel) rfl rfl (Nat.le_of_ble_eq_true rfl) rfl ?_
    refine Cl.mono (Cl.up (c_standsThen (d := d) h.1) (by omega)) ?_
    rintro _ _ ⟨rfl, rfl⟩
    refine ⟨fun _ h9 => (by cases h9), ?_⟩
    replace h := h.2
    show Ev _ 232 _ 76 [rA 67, (0, s), (0, a), (0, b), (0, c), (0, key), (1, sum), (9, 0), (0, i), J] [(0, oI (stT m q lt n s.toNat i.toNat))] _
    refine e_sti (la2 := [rA 67, (0, s), (0, a), (0, b), (0, c), (0, key), (1, sum), (9, 0), (0, i), (0, oI (stT m q lt n s.toNat i.toNat))]) (show am_cd 232 76 = (3, 78, 9, 0, []) by decide +kernel) rfl ?_
    refine e_ldi (show am_cd 232 78 = (2, 80, 9, 0, []) by decide +kernel) rfl ?_
    refine e_ic (show am_cd 232 80 = (0, 81, 0, -1, []) by decide +kernel) ?_
    refine e_cmp0 (show am_cd 232 81 = (11, 84, 113, 0, []) by decide +kernel) (fun hc => ?_) (fun hc => ?_)
    · replace h := h.1 hc
      refine e_inc (la2 := [rA 67, (0, s), (0, a), (0, b), (0, c), (0, key), (1, sum), (9, 0), (0, i + 1), (0, oI (stT m q lt n s.toNat i.toNat))]) (show am_cd 232 113 = (4, 116, 8, 1, []) by decide +kernel) rfl rfl ?_
      refine e_go (show am_cd 232 116 = (12, 60, 0, 0, []) by decide +kernel) ?_
      exact h
    · replace h := h.2 hc
      refine e_lda (v := 67) (show am_cd 232 84 = (2, 85, 0, 2, []) by decide +kernel) rfl ?_
      refine e_ldi (show am_cd 232 85 = (2, 86, 2, 0, []) by decide +kernel) rfl ?_
      refine e_ldi (show am_cd 232 86 = (2, 87, 3, 0, []) by decide +kernel) rfl ?_
      refine e_ldi (show am_cd 232 87 = (2, 89, 4, 0, []) by decide +kernel) rfl ?_
      refine e_ldi (show am_cd 232 89 = (2, 91, 8, 0, []) by decide +kernel) rfl ?_
      refine e_cV (z := 0) (a := 67) (as := [(0, a), (0, b), (0, c), (0, i)]) (rest := []) (show am_cd 232 91 = (40, 94, 210, 0, [282]) by decide +kernel) (by decide +kernel) rfl rfl (Nat.le_of_ble_eq_true rfl) rfl ?_
      refine Cl.mono (Cl.up (c_goes (hw := hw) (d := d) h.1) (by omega)) ?_
      rintro _ _ ⟨rfl, rfl⟩
      refine ⟨fun _ h9 => (by cases h9), ?_⟩
      replace h := h.2
      show Ev _ 232 _ 94 [rA 67, (0, s), (0, a), (0, b), (0, c), (0, key), (1, sum), (9, 0), (0, i), (0, oI (stT m q lt n s.toNat i.toNat))] [(0, bI (goes m wo a.toNat b.toNat c.toNat i.toNat))] _
      refine e_ifb0 (show am_cd 232 94 = (10, 97, 113, 0, []) by decide +kernel) (fun hc => ?_) (fun hc => ?_)
      · replace h := h.1 hc
        refine e_inc (la2 := [rA 67, (0, s), (0, a), (0, b), (0, c), (0, key), (1, sum), (9, 0), (0, i + 1), (0, oI (stT m q lt n s.toNat i.toNat))]) (show am_cd 232 113 = (4, 116, 8, 1, []) by decide +kernel) rfl rfl ?_
        refine e_go (show am_cd 232 116 = (12, 60, 0, 0, []) by decide +kernel) ?_
        exact h
      · replace h := h.2 hc
        refine e_ldl (show am_cd 232 97 = (2, 99, 6, 1, []) by decide +kernel) rfl ?_
        refine e_lda (v := 67) (show am_cd 232 99 = (2, 100, 0, 2, []) by decide +kernel) rfl ?_
        refine e_ldi (show am_cd 232 100 = (2, 102, 9, 0, []) by decide +kernel) rfl ?_
        refine e_ldi (show am_cd 232 102 = (2, 103, 3, 0, []) by decide +kernel) rfl ?_
        refine e_ldi (show am_cd 232 103 = (2, 105, 4, 0, []) by decide +kernel) rfl ?_
        refine e_ldi (show am_cd 232 105 = (2, 107, 8, 0, []) by decide +kernel) rfl ?_
        refine e_cV (z := 0) (a := 67) (as := [(0, oI (stT m q lt n s.toNat i.toNat)), (0, b), (0, c), (0, i)]) (rest := [(1, sum)]) (show am_cd 232 107 = (40, 110, 232, 0, [366]) by decide +kernel) (by decide +kernel) rfl rfl (Nat.le_of_ble_eq_true rfl) rfl ?_
        refine Cl.mono (Cl.up (hrW _ _ _ _ _ _ h.1) (by omega)) ?_
        rintro _ _ ⟨x2, w3, t4, rfl, rfl, hp⟩
        refine ⟨fun _ h9 => (by cases h9), ?_⟩
        replace h := h.2 x2 w3 t4 hp
        show Ev _ 232 _ 110 [rA 67, (0, s), (0, a), (0, b), (0, c), (0, key), (1, sum), (9, 0), (0, i), (0, oI (stT m q lt n s.toNat i.toNat))] [(1, x2), (1, sum)] _
        refine e_ladd (show am_cd 232 110 = (6, 111, 0, 0, []) by decide +kernel) ?_
        refine e_stl (la2 := [rA 67, (0, s), (0, a), (0, b), (0, c), (0, key), (1, sum + x2), (9, 0), (0, i), (0, oI (stT m q lt n s.toNat i.toNat))]) (show am_cd 232 111 = (3, 113, 6, 1, []) by decide +kernel) rfl ?_
        refine e_inc (la2 := [rA 67, (0, s), (0, a), (0, b), (0, c), (0, key), (1, sum + x2), (9, 0), (0, i + 1), (0, oI (stT m q lt n s.toNat i.toNat))]) (show am_cd 232 113 = (4, 116, 8, 1, []) by decide +kernel) rfl rfl ?_
        refine e_go (show am_cd 232 116 = (12, 60, 0, 0, []) by decide +kernel) ?_
        exact h

theorem key_inj {s a b c s2 a2 b2 c2 : Nat} (h1 : a ≤ 16) (h2 : b ≤ 16) (h3 : c ≤ 16) (h4 : a2 ≤ 16) (h5 : b2 ≤ 16) (h6 : c2 ≤ 16) (h : (s : Int) * 4913 + (((a : Int) * 17 + b) * 17 + c) = (s2 : Int) * 4913 + (((a2 : Int) * 17 + b2) * 17 + c2)) : s = s2 ∧ a = a2 ∧ b = b2 ∧ c = c2 := by omega
theorem c_waysFromB {d : Nat} {m : eW} {q n : Nat} {lt : Nat → Int} : ∀ (B : Nat) (s a b c : Int) (w : eW) (t : eT), WPR m q lt n B s a b c w t → Cl (d + B + 5) 232 [rA 67, (0, s), (0, a), (0, b), (0, c)] (enc w t) (fun r S2 => ∃ x w2 t2, r = some (1, x) ∧ S2 = enc w2 t2 ∧ WPO m q lt n s a b c w t x w2 t2) := by
  intro B
  induction B with
  | zero => intro s a b c w t h; exact absurd h.2.2.2.2.2.2.2.1 (Nat.not_lt_zero _)
  | succ B ih =>
    intro s a b c w t h
    obtain ⟨hm, hwo, hk, hs, ha, hb, hc, hB, D, hD, hP⟩ := h
    have hn := hk.n
    have hpn := hm.1.n
    have hcE : gE c := by unfold gC at hc; unfold gE; omega
    have ha' := ha
    have hb' := hb
    have hc' := hcE
    unfold gE at ha' hb' hc'
    have hw1 : w32 (-1) = -1 := by decide +kernel
    have hkey : s * 4913 + ((a * 17 + b) * 17 + c) = (s.toNat : Int) * 4913 + (((a.toNat : Int) * 17 + b.toNat) * 17 + c.toNat) := by omega
    have hkr : 0 ≤ s * 4913 + ((a * 17 + b) * 17 + c) ∧ s * 4913 + ((a * 17 + b) * 17 + c) ≤ 2147483647 := by omega
    have hce := cw_eq (m := m) (q := q) (lt := lt) (n := n) (s := s.toNat) (a := a.toNat) (b := b.toNat) (c := c.toNat) hn hs.2.2
    have hlt := cw_lt (m := m) hpn.2 (q := q) (lt := lt) (n := n) (s := s.toNat) (a := a.toNat) (b := b.toNat) (c := c.toNat)
    generalize hF : (fun d => match stT m q lt n s.toNat d with
      | none => 0
      | some s2 => if goes m (-1) a.toNat b.toNat c.toNat d then cw m q lt n s2 b.toNat c.toNat d else 0) = F at hce
    have loop : ∀ (b0 : Nat), b0 = (if s.toNat / 16 = n ∧ isE m (-1) a.toNat b.toNat c.toNat = true then 1 else 0) → Ev (d + B + 6) 232 (fun r S2 => ∃ x w2 t2, r = some (1, x) ∧ S2 = enc w2 t2 ∧ WPO m q lt n s a b c w t x w2 t2) 60 [rA 67, (0, s), (0, a), (0, b), (0, c), (0, s * 4913 + ((a * 17 + b) * 17 + c)), (1, (b0 : Int)), (9, 0), (0, 0), (9, 0)] [] (enc w t) := by
      intro b0 hb0
      refine lq1 (fun i (σ : eW × aV) => Ev (d + B + 6) 232 (fun r S2 => ∃ x w2 t2, r = some (1, x) ∧ S2 = enc w2 t2 ∧ WPO m q lt n s a b c w t x w2 t2) 60 [rA 67, (0, s), (0, a), (0, b), (0, c), (0, s * 4913 + ((a * 17 + b) * 17 + c)), (1, (b0 : Int) + (sm F i : Int)), (9, 0), (0, (i : Int)), σ.2] [] (enc σ.1 t)) (fun i σ => FrT w σ.1 ∧ KnW (PmW m q lt n) σ.1) (nP m) ?_ ?_ 0 (w, (9, 0)) (Nat.zero_le _) ⟨FrT.rf w, D, hD, hP⟩
      · intro i σ hi hI hE
        have hm2 := hm.frT hI.1
        have hk2 := hk.frT hI.1
        refine g_waysFrom1 (m := m) (q := q) (n := n) (lt := lt) (D := D) hw1 ih ?_
        have hFi : F i = (match stT m q lt n s.toNat i with
          | none => 0
          | some s2 => if goes m (-1) a.toNat b.toNat c.toNat i then cw m q lt n s2 b.toNat c.toNat i else 0) := by rw [← hF]
        rw [show sm F (i + 1) = sm F i + F i from rfl] at hE
        rw [hm2.2.2.1.1]
        simp (disch := omega) only [w32_id, Int.toNat_natCast]
        refine ⟨fun h9 => (by omega), fun _ => ⟨⟨hm2, hk2, hs, ⟨by omega, by omega⟩⟩, ?_⟩⟩
        cases hst : stT m q lt n s.toNat i with
        | none =>
          rw [hst] at hFi
          dsimp only at hFi
          refine ⟨fun _ => ?_, fun h9 => absurd rfl h9⟩
          have := hE (σ.1, (0, oI none)) hI
          rw [hFi] at this
          exact this
        | some s2 =>
          rw [hst] at hFi
          dsimp only at hFi
          have hin := stT_in hs.2.1 hs.2.2 hst
          simp (disch := omega) only [oI_s, w32_id]
          refine ⟨fun h9 => (by omega), fun _ => ⟨⟨hm2, by rw [hI.1.2 35 (by decide)]; exact hwo, ha, hb, hc, ⟨by omega, by omega⟩⟩, fun hg => ?_, fun hg => ?_⟩⟩
          · rw [if_neg (by rw [hg]; decide)] at hFi
            have := hE (σ.1, (0, (s2 : Int))) hI
            rw [hFi] at this
            exact this
          · rw [if_pos hg] at hFi
            have hdn := mW_down hi hs.2.2 hst hg
            refine ⟨⟨hm2, by rw [hI.1.2 35 (by decide)]; exact hwo, hk2, ⟨by omega, by rw [Int.toNat_natCast]; exact hin.1, by rw [Int.toNat_natCast]; exact hin.2⟩, hb, hcE, ⟨by omega, by omega⟩, by rw [Int.toNat_natCast, Int.toNat_natCast]; omega, hI.2⟩, fun x w2 t2 hp => ?_⟩
            obtain ⟨p1, p2, p3, p4⟩ := hp
            subst p2
            have := hE (w2, (0, (s2 : Int))) ⟨hI.1.tr p3, p4⟩
            rw [hFi] at this
            rw [p1, Int.toNat_natCast, Int.toNat_natCast, Int.add_assoc, ← Int.natCast_add]
            exact this
      · intro σ hI
        obtain ⟨D2, hD2, hP2⟩ := hI.2
        refine g_waysFrom1 (m := m) (q := q) (n := n) (lt := lt) (D := D2) hw1 ih ?_
        rw [(hm.frT hI.1).2.2.1.1]
        simp (disch := omega) only [w32_id]
        refine ⟨fun _ => ⟨⟨hD2, hkr⟩, fun w1 h1 => ?_⟩, fun h9 => (by omega)⟩
        have hval : (b0 : Int) + (sm F (nP m) : Int) = (cw m q lt n s.toNat a.toNat b.toNat c.toNat : Int) := by rw [hce, hb0]; omega
        refine ⟨_, w1, t, rfl, rfl, hval, rfl, hI.1.tr h1.1, ?_⟩
        refine KnW.learn hP2 ?_ h1.2.2
        intro s2 a2 b2 c2 h3 h4 h5 h6
        rw [hkey] at h6
        obtain ⟨rfl, rfl, rfl, rfl⟩ := key_inj (by omega) (by omega) (by omega) h3 h4 h5 h6
        exact hval
    refine g_waysFrom0 (m := m) (q := q) (n := n) (lt := lt) (D := D) (J := (9, 0)) hw1 ?_
    refine ⟨⟨hD, hkr⟩, fun h1 => ⟨⟨hk, hs.1, hs.2.1⟩, fun h2 => ?_, fun h2 => ⟨⟨hm, hwo, ha, hb, hc⟩, fun h3 => ?_, fun h3 => ?_⟩⟩, fun h1 => ⟨⟨hD, hkr, h1⟩, ?_⟩⟩
    · refine loop 0 ?_
      rw [if_neg (fun h9 => of_decide_eq_false h2 h9.1)]
    · refine loop 0 ?_
      rw [if_neg (fun h9 => by rw [h3] at h9; cases h9.2)]
    · refine loop 1 ?_
      rw [if_pos ⟨of_decide_eq_true h2, h3⟩]
    · cases hDk : D (s * 4913 + ((a * 17 + b) * 17 + c)) with
      | none => rw [hDk] at h1; cases h1
      | some v =>
        have := hP _ v hkr.1 hDk s.toNat a.toNat b.toNat c.toNat (by omega) (by omega) (by omega) hkey
        exact ⟨_, w, t, rfl, rfl, this, rfl, FrT.rf w, D, hD, hP⟩

