/-! The model: the first rows by order. -/
theorem DV.fr {w w2 : eW} {D : Int → Option Int} (h : DV w D) (h1 : w2 92 = w 92) (h2 : w2 93 = w 93) (h3 : w2 67 38 = w 67 38) : DV w2 D := by
  unfold DV Tb at *
  rw [h1, h2, h3]
  exact h
theorem KnW.fr {P : Int → Int → Prop} {w w2 : eW} (h : KnW P w) (h1 : w2 92 = w 92) (h2 : w2 93 = w 93) (h3 : w2 67 38 = w 67 38) : KnW P w2 := by
  obtain ⟨D, hD, hP⟩ := h
  exact ⟨D, hD.fr h1 h2 h3, hP⟩
theorem KM.fr {w w2 : eW} {ks : kT} (h : KM w ks) (h0 : w2 67 17 = w 67 17) (hr : ∀ a, 81 ≤ a → a ≤ 84 → w2 a = w a) : KM w2 ks := by
  unfold KM at *
  rw [h0, hr 81 (by decide) (by decide), hr 82 (by decide) (by decide), hr 83 (by decide) (by decide), hr 84 (by decide) (by decide)]
  exact h
theorem MdM.fr {w w2 : eW} {ml : List Nat} (h : MdM w ml) (h0 : w2 67 40 = w 67 40) (h1 : w2 94 = w 94) : MdM w2 ml := by
  unfold MdM at *
  rw [h0, h1]
  exact h
def FrC (w w2 : eW) : Prop := (∀ a, a ≠ 67 → (a < 81 ∨ 84 < a) → a ≠ 92 → a ≠ 93 → a ≠ 94 → a ≠ 95 → w2 a = w a) ∧ ∀ k, k ≠ 17 → k ≠ 38 → k ≠ 40 → k ≠ 42 → w2 67 k = w 67 k
theorem FrC.rf (w : eW) : FrC w w := ⟨fun _ _ _ _ _ _ _ => rfl, fun _ _ _ _ _ => rfl⟩
theorem FrC.tr {w a b : eW} (h : FrC w a) (h2 : FrC a b) : FrC w b := ⟨fun q h3 h4 h5 h6 h7 h8 => by rw [h2.1 q h3 h4 h5 h6 h7 h8, h.1 q h3 h4 h5 h6 h7 h8], fun k a1 a2 a3 a4 => by rw [h2.2 k a1 a2 a3 a4, h.2 k a1 a2 a3 a4]⟩
theorem FrT.c {w w2 : eW} (h : FrT w w2) : FrC w w2 := ⟨fun a h1 _ h3 h4 _ _ => h.1 a h1 h3 h4, fun k _ h2 _ _ => h.2 k h2⟩
theorem FrK.c {w w2 : eW} (h : FrK w w2) : FrC w w2 := ⟨fun a h1 h2 _ _ _ _ => h.1 a h1 h2, fun k h1 _ _ _ => h.2 k h1⟩
theorem FrC.lay {w : eW} {k : Nat} {v u : Int} : FrC w (wu (wu w 94 k v) 67 40 u) := ⟨fun a h1 _ _ _ h5 _ => by rw [wu_row h1, wu_row h5], fun j _ _ h3 _ => by rw [wu_nk _ _ h3, wu_row (by decide)]⟩
theorem FrC.dec {w : eW} {u : Int} : FrC w (wu w 67 40 u) := ⟨fun a h1 _ _ _ _ _ => by rw [wu_row h1], fun j _ _ h3 _ => by rw [wu_nk _ _ h3]⟩
theorem MG.frC {w w2 m : eW} (h : MG w m) (hf : FrC w w2) : MG w2 m := h.fr (hf.2 0 (by decide) (by decide) (by decide) (by decide)) (hf.2 6 (by decide) (by decide) (by decide) (by decide)) (fun a h1 h2 => hf.1 a (by omega) (by omega) (by omega) (by omega) (by omega) (by omega))
theorem TkM.frC {w w2 : eW} {q n : Nat} {lt : Nat → Int} (h : TkM w q lt n) (hf : FrC w w2) : TkM w2 q lt n := by
  obtain ⟨h1, h2, h3, h4⟩ := h
  refine ⟨by rw [hf.2 49 (by decide) (by decide) (by decide) (by decide)]; exact h1, h2, fun hq => ?_, fun hq => ?_⟩
  · obtain ⟨a1, a2, a3⟩ := h3 hq
    exact ⟨by rw [hf.2 48 (by decide) (by decide) (by decide) (by decide)]; exact a1, a2, by rw [hf.1 91 (by decide) (by decide) (by decide) (by decide) (by decide) (by decide)]; exact a3⟩
  · obtain ⟨a1, a2, a3⟩ := h4 hq
    exact ⟨by rw [hf.2 47 (by decide) (by decide) (by decide) (by decide)]; exact a1, a2, by rw [hf.1 90 (by decide) (by decide) (by decide) (by decide) (by decide) (by decide)]; exact a3⟩
theorem tk20 {α : Type} (A B : List α) : (A.take 20 ++ B).take 20 = (A ++ B).take 20 := by
  by_cases h : A.length ≤ 20
  · rw [List.take_of_length_le h]
  · rw [List.take_append_of_le_length (by rw [List.length_take]; omega), List.take_take, List.take_append_of_le_length (by omega)]
    simp
theorem tk_full {α : Type} (A B : List α) (h : A.length = 20) : (A ++ B).take 20 = A := by
  rw [List.take_append_of_le_length (by omega), List.take_of_length_le (by omega)]
def CPR (m : eW) (q : Nat) (lt : Nat → Int) (n B : Nat) (g : kT × List Nat) (s a b c : Int) (w : eW) (t : eT) : Prop := WPR m q lt n B s a b c w t ∧ KM w g.1 ∧ MdM w g.2 ∧ g.2.length + mW m q n s.toNat c.toNat ≤ 13
def CPO (m : eW) (q : Nat) (lt : Nat → Int) (n : Nat) (g : kT × List Nat) (s a b c : Int) (w : eW) (t : eT) (w2 : eW) (t2 : eT) : Prop := t2 = t ∧ FrC w w2 ∧ KnW (PmW m q lt n) w2 ∧ KM w2 ((g.1 ++ (lw m q lt n s.toNat a.toNat b.toNat c.toNat).map (fun l => (g.2 ++ l, []))).take 20) ∧ MdM w2 g.2

theorem c_keepsF {d : Nat} {w : eW} {t : eT} {ks : kT} {ml : List Nat} (h : KM w ks ∧ MdM w ml) : Cl d 212 [rA 67, (0, 0)] (enc w t) (fun r S2 => ∃ w2, r = none ∧ S2 = enc w2 t ∧ FrK w w2 ∧ KM w2 ((ks ++ [(ml, [])]).take 20)) := c_keeps (z := false) ⟨h.1, h.2, fun h9 => (by cases h9), fun _ => rfl⟩

theorem g_collects0 {d : Nat} {Q : Option aV → aS → Prop} {w : eW} {t : eT} {s a b c : Int} {m : eW} {q n : Nat} {lt : Nat → Int} {D : Int → Option Int} {wo : Int} {J : aV} {ks : kT} {ml : List Nat} (hw : w32 wo = wo) (h : ((¬ w32 (w 67 17) = w32 20 → (TkM w q lt n ∧ (0 ≤ s ∧ s.toNat / 16 ≤ n)) ∧ (((decide (s.toNat / 16 = n)) = false → Ev (d + 21) 233 Q 37 [rA 67, (0, s), (0, a), (0, b), (0, c), (0, 0), (9, 0)] [] (enc w t)) ∧ ((decide (s.toNat / 16 = n)) = true → (MG w m ∧ w 67 35 = wo ∧ gE a ∧ gE b ∧ gC m c) ∧ (((isE m wo a.toNat b.toNat c.toNat) = false → Ev (d + 21) 233 Q 37 [rA 67, (0, s), (0, a), (0, b), (0, c), (0, 0), (9, 0)] [] (enc w t)) ∧ ((isE m wo a.toNat b.toNat c.toNat) = true → (KM w ks ∧ MdM w ml) ∧ (∀ w1, (FrK w w1 ∧ KM w1 ((ks ++ [(ml, [])]).take 20)) → Ev (d + 21) 233 Q 37 [rA 67, (0, s), (0, a), (0, b), (0, c), (0, 0), (9, 0)] [] (enc w1 t))))))) ∧ (¬ (¬ w32 (w 67 17) = w32 20) → Q none (enc w t)))) : Cl (d + 21) 233 [rA 67, (0, s), (0, a), (0, b), (0, c)] (enc w t) Q := by
  show Ev (d + 21) 233 Q 0 [rA 67, (0, s), (0, a), (0, b), (0, c), (9, 0), (9, 0)] [] (enc w t)
  refine e_lda (v := 67) (show am_cd 233 0 = (2, 1, 0, 2, []) by decide +kernel) rfl ?_
  refine e_getf (a := 67) (tg := 0) (show am_cd 233 1 = (18, 4, 1217, 0, [189]) by decide +kernel) (by decide +kernel) (by decide +kernel) rfl ?_
  refine e_ic (show am_cd 233 4 = (0, 6, 1, 20, []) by decide +kernel) ?_
  refine e_cmp1 (show am_cd 233 6 = (11, 9, 10, 1, []) by decide +kernel) (fun hc => ?_) (fun hc => ?_)
  · replace h := h.1 hc
    refine e_lda (v := 67) (show am_cd 233 10 = (2, 11, 0, 2, []) by decide +kernel) rfl ?_
    refine e_ldi (show am_cd 233 11 = (2, 12, 1, 0, []) by decide +kernel) rfl ?_
    refine e_cV (z := 0) (a := 67) (as := [(0, s)]) (rest := []) (show am_cd 233 12 = (40, 15, 231, 0, [360]) by decide +kernel) (by decide +kernel) rfl rfl (Nat.le_of_ble_eq_true rfl) rfl ?_
    refine Cl.mono (Cl.up (c_isThrough (d := d) h.1) (by omega)) ?_
    rintro _ _ ⟨rfl, rfl⟩
    refine ⟨fun _ h9 => (by cases h9), ?_⟩
    replace h := h.2
    show Ev _ 233 _ 15 [rA 67, (0, s), (0, a), (0, b), (0, c), (9, 0), (9, 0)] [(0, bI (decide (s.toNat / 16 = n)))] _
    refine e_ifb0 (show am_cd 233 15 = (10, 18, 34, 0, []) by decide +kernel) (fun hc => ?_) (fun hc => ?_)
    · replace h := h.1 hc
      refine e_ic (show am_cd 233 34 = (0, 35, 0, 0, []) by decide +kernel) ?_
      refine e_sti (la2 := [rA 67, (0, s), (0, a), (0, b), (0, c), (0, 0), (9, 0)]) (show am_cd 233 35 = (3, 37, 5, 0, []) by decide +kernel) rfl ?_
      exact h
    · replace h := h.2 hc
      refine e_lda (v := 67) (show am_cd 233 18 = (2, 19, 0, 2, []) by decide +kernel) rfl ?_
      refine e_ldi (show am_cd 233 19 = (2, 20, 2, 0, []) by decide +kernel) rfl ?_
      refine e_ldi (show am_cd 233 20 = (2, 21, 3, 0, []) by decide +kernel) rfl ?_
      refine e_ldi (show am_cd 233 21 = (2, 23, 4, 0, []) by decide +kernel) rfl ?_
      refine e_cV (z := 0) (a := 67) (as := [(0, a), (0, b), (0, c)]) (rest := []) (show am_cd 233 23 = (40, 26, 211, 0, [285]) by decide +kernel) (by decide +kernel) rfl rfl (Nat.le_of_ble_eq_true rfl) rfl ?_
      refine Cl.mono (Cl.up (c_isEnd (hw := hw) (d := d) h.1) (by omega)) ?_
      rintro _ _ ⟨rfl, rfl⟩
      refine ⟨fun _ h9 => (by cases h9), ?_⟩
      replace h := h.2
      show Ev _ 233 _ 26 [rA 67, (0, s), (0, a), (0, b), (0, c), (9, 0), (9, 0)] [(0, bI (isE m wo a.toNat b.toNat c.toNat))] _
      refine e_ifb0 (show am_cd 233 26 = (10, 29, 34, 0, []) by decide +kernel) (fun hc => ?_) (fun hc => ?_)
      · replace h := h.1 hc
        refine e_ic (show am_cd 233 34 = (0, 35, 0, 0, []) by decide +kernel) ?_
        refine e_sti (la2 := [rA 67, (0, s), (0, a), (0, b), (0, c), (0, 0), (9, 0)]) (show am_cd 233 35 = (3, 37, 5, 0, []) by decide +kernel) rfl ?_
        exact h
      · replace h := h.2 hc
        refine e_lda (v := 67) (show am_cd 233 29 = (2, 30, 0, 2, []) by decide +kernel) rfl ?_
        refine e_ic (show am_cd 233 30 = (0, 31, 0, 0, []) by decide +kernel) ?_
        refine e_cV (z := 0) (a := 67) (as := [(0, 0)]) (rest := []) (show am_cd 233 31 = (40, 34, 212, 0, [320]) by decide +kernel) (by decide +kernel) rfl rfl (Nat.le_of_ble_eq_true rfl) rfl ?_
        refine Cl.mono (Cl.up (c_keepsF (d := d) h.1) (by omega)) ?_
        rintro _ _ ⟨w1, rfl, rfl, hp⟩
        refine ⟨fun _ h9 => (by cases h9), ?_⟩
        replace h := h.2 w1 hp
        show Ev _ 233 _ 34 [rA 67, (0, s), (0, a), (0, b), (0, c), (9, 0), (9, 0)] [] _
        refine e_ic (show am_cd 233 34 = (0, 35, 0, 0, []) by decide +kernel) ?_
        refine e_sti (la2 := [rA 67, (0, s), (0, a), (0, b), (0, c), (0, 0), (9, 0)]) (show am_cd 233 35 = (3, 37, 5, 0, []) by decide +kernel) rfl ?_
        exact h
  · replace h := h.2 hc
    exact e_retv (show am_cd 233 9 = (36, 10, 3, 0, []) by decide +kernel) (by decide +kernel) h

theorem g_collects1 {d : Nat} {Q : Option aV → aS → Prop} {w : eW} {t : eT} {s a b c i : Int} {m : eW} {q n : Nat} {lt : Nat → Int} {D : Int → Option Int} {wo : Int} {J : aV} {ks : kT} {ml : List Nat} (hw : w32 wo = wo) {γC : Type} {PRC : γC → Int → Int → Int → Int → eW → eT → Prop} {POC : γC → Int → Int → Int → Int → eW → eT → eW → eT → Prop} (hrC : ∀ (g : γC) (a1 a2 a3 a4 : Int) (w : eW) (t : eT), PRC g a1 a2 a3 a4 w t → Cl (d + 20) 233 [rA 67, (0, a1), (0, a2), (0, a3), (0, a4)] (enc w t) (fun r S2 => ∃ w2 t2, r = none ∧ S2 = enc w2 t2 ∧ POC g a1 a2 a3 a4 w t w2 t2)) (h : ((w32 (w 67 0) ≤ w32 i → Q none (enc w t)) ∧ (¬ (w32 (w 67 0) ≤ w32 i) → (MG w m ∧ TkM w q lt n ∧ (0 ≤ s ∧ s.toNat / 16 ≤ n ∧ s.toNat % 16 ≤ 8) ∧ gP m i) ∧ ((w32 (oI (stT m q lt n s.toNat i.toNat)) = w32 (-1) → Ev (d + 21) 233 Q 37 [rA 67, (0, s), (0, a), (0, b), (0, c), (0, i + 1), (0, oI (stT m q lt n s.toNat i.toNat))] [] (enc w t)) ∧ (¬ (w32 (oI (stT m q lt n s.toNat i.toNat)) = w32 (-1)) → (MG w m ∧ w 67 35 = wo ∧ gE a ∧ gE b ∧ gC m c ∧ gC m i) ∧ (((goes m wo a.toNat b.toNat c.toNat i.toNat) = false → Ev (d + 21) 233 Q 37 [rA 67, (0, s), (0, a), (0, b), (0, c), (0, i + 1), (0, oI (stT m q lt n s.toNat i.toNat))] [] (enc w t)) ∧ ((goes m wo a.toNat b.toNat c.toNat i.toNat) = true → (WPR m q lt n 14 (oI (stT m q lt n s.toNat i.toNat)) b c i w t) ∧ (∀ x1 w2 t3, (WPO m q lt n (oI (stT m q lt n s.toNat i.toNat)) b c i w t x1 w2 t3) → ((¬ w64 x1 = w64 0 → (0 ≤ w32 (w2 67 40) ∧ w32 (w2 67 40) < 16) ∧ (∃ g4, (PRC g4 (oI (stT m q lt n s.toNat i.toNat)) b c i (wu (wu w2 94 (w32 (w2 67 40)).toNat i) 67 40 ((w2 67 40) + 1)) t3) ∧ (∀ w5 t6, (POC g4 (oI (stT m q lt n s.toNat i.toNat)) b c i (wu (wu w2 94 (w32 (w2 67 40)).toNat i) 67 40 ((w2 67 40) + 1)) t3 w5 t6) → Ev (d + 21) 233 Q 37 [rA 67, (0, s), (0, a), (0, b), (0, c), (0, i + 1), (0, oI (stT m q lt n s.toNat i.toNat))] [] (enc (wu w5 67 40 ((w5 67 40) - 1)) t6)))) ∧ (¬ (¬ w64 x1 = w64 0) → Ev (d + 21) 233 Q 37 [rA 67, (0, s), (0, a), (0, b), (0, c), (0, i + 1), (0, oI (stT m q lt n s.toNat i.toNat))] [] (enc w2 t3))))))))))) : Ev (d + 21) 233 Q 37 [rA 67, (0, s), (0, a), (0, b), (0, c), (0, i), J] [] (enc w t) := by
  refine e_ldi (show am_cd 233 37 = (2, 39, 5, 0, []) by decide +kernel) rfl ?_
  refine e_lda (v := 67) (show am_cd 233 39 = (2, 40, 0, 2, []) by decide +kernel) rfl ?_
  refine e_getf (a := 67) (tg := 0) (show am_cd 233 40 = (18, 43, 1200, 0, [168]) by decide +kernel) (by decide +kernel) (by decide +kernel) rfl ?_
  refine e_cmp3 (show am_cd 233 43 = (11, 46, 126, 3, []) by decide +kernel) (fun hc => ?_) (fun hc => ?_)
  · replace h := h.1 hc
    exact e_retv (show am_cd 233 126 = (36, 127, 3, 0, []) by decide +kernel) (by decide +kernel) h
  · replace h := h.2 hc
    refine e_lda (v := 67) (show am_cd 233 46 = (2, 47, 0, 2, []) by decide +kernel) rfl ?_
    refine e_ldi (show am_cd 233 47 = (2, 48, 1, 0, []) by decide +kernel) rfl ?_
    refine e_ldi (show am_cd 233 48 = (2, 50, 5, 0, []) by decide +kernel) rfl ?_
    refine e_cV (z := 0) (a := 67) (as := [(0, s), (0, i)]) (rest := []) (show am_cd 233 50 = (40, 53, 230, 0, [363]) by decide +kernel) (by decide +kernel) rfl rfl (Nat.le_of_ble_eq_true rfl) rfl ?_
    refine Cl.mono (Cl.up (c_standsThen (d := d) h.1) (by omega)) ?_
    rintro _ _ ⟨rfl, rfl⟩
    refine ⟨fun _ h9 => (by cases h9), ?_⟩
    replace h := h.2
    show Ev _ 233 _ 53 [rA 67, (0, s), (0, a), (0, b), (0, c), (0, i), J] [(0, oI (stT m q lt n s.toNat i.toNat))] _
    refine e_sti (la2 := [rA 67, (0, s), (0, a), (0, b), (0, c), (0, i), (0, oI (stT m q lt n s.toNat i.toNat))]) (show am_cd 233 53 = (3, 55, 6, 0, []) by decide +kernel) rfl ?_
    refine e_ldi (show am_cd 233 55 = (2, 57, 6, 0, []) by decide +kernel) rfl ?_
    refine e_ic (show am_cd 233 57 = (0, 58, 0, -1, []) by decide +kernel) ?_
    refine e_cmp0 (show am_cd 233 58 = (11, 61, 120, 0, []) by decide +kernel) (fun hc => ?_) (fun hc => ?_)
    · replace h := h.1 hc
      refine e_inc (la2 := [rA 67, (0, s), (0, a), (0, b), (0, c), (0, i + 1), (0, oI (stT m q lt n s.toNat i.toNat))]) (show am_cd 233 120 = (4, 123, 5, 1, []) by decide +kernel) rfl rfl ?_
      refine e_go (show am_cd 233 123 = (12, 37, 0, 0, []) by decide +kernel) ?_
      exact h
    · replace h := h.2 hc
      refine e_lda (v := 67) (show am_cd 233 61 = (2, 62, 0, 2, []) by decide +kernel) rfl ?_
      refine e_ldi (show am_cd 233 62 = (2, 63, 2, 0, []) by decide +kernel) rfl ?_
      refine e_ldi (show am_cd 233 63 = (2, 64, 3, 0, []) by decide +kernel) rfl ?_
      refine e_ldi (show am_cd 233 64 = (2, 66, 4, 0, []) by decide +kernel) rfl ?_
      refine e_ldi (show am_cd 233 66 = (2, 68, 5, 0, []) by decide +kernel) rfl ?_
      refine e_cV (z := 0) (a := 67) (as := [(0, a), (0, b), (0, c), (0, i)]) (rest := []) (show am_cd 233 68 = (40, 71, 210, 0, [282]) by decide +kernel) (by decide +kernel) rfl rfl (Nat.le_of_ble_eq_true rfl) rfl ?_
      refine Cl.mono (Cl.up (c_goes (hw := hw) (d := d) h.1) (by omega)) ?_
      rintro _ _ ⟨rfl, rfl⟩
      refine ⟨fun _ h9 => (by cases h9), ?_⟩
      replace h := h.2
      show Ev _ 233 _ 71 [rA 67, (0, s), (0, a), (0, b), (0, c), (0, i), (0, oI (stT m q lt n s.toNat i.toNat))] [(0, bI (goes m wo a.toNat b.toNat c.toNat i.toNat))] _
      refine e_ifb0 (show am_cd 233 71 = (10, 74, 120, 0, []) by decide +kernel) (fun hc => ?_) (fun hc => ?_)
      · replace h := h.1 hc
        refine e_inc (la2 := [rA 67, (0, s), (0, a), (0, b), (0, c), (0, i + 1), (0, oI (stT m q lt n s.toNat i.toNat))]) (show am_cd 233 120 = (4, 123, 5, 1, []) by decide +kernel) rfl rfl ?_
        refine e_go (show am_cd 233 123 = (12, 37, 0, 0, []) by decide +kernel) ?_
        exact h
      · replace h := h.2 hc
        refine e_lda (v := 67) (show am_cd 233 74 = (2, 75, 0, 2, []) by decide +kernel) rfl ?_
        refine e_ldi (show am_cd 233 75 = (2, 77, 6, 0, []) by decide +kernel) rfl ?_
        refine e_ldi (show am_cd 233 77 = (2, 78, 3, 0, []) by decide +kernel) rfl ?_
        refine e_ldi (show am_cd 233 78 = (2, 80, 4, 0, []) by decide +kernel) rfl ?_
        refine e_ldi (show am_cd 233 80 = (2, 82, 5, 0, []) by decide +kernel) rfl ?_
        refine e_cV (z := 0) (a := 67) (as := [(0, oI (stT m q lt n s.toNat i.toNat)), (0, b), (0, c), (0, i)]) (rest := []) (show am_cd 233 82 = (40, 85, 232, 0, [366]) by decide +kernel) (by decide +kernel) rfl rfl (Nat.le_of_ble_eq_true rfl) rfl ?_
        refine Cl.mono (Cl.up (c_waysFromB (d := d) 14 _ _ _ _ _ _ h.1) (by omega)) ?_
        rintro _ _ ⟨x1, w2, t3, rfl, rfl, hp⟩
        refine ⟨fun _ h9 => (by cases h9), ?_⟩
        replace h := h.2 x1 w2 t3 hp
        show Ev _ 233 _ 85 [rA 67, (0, s), (0, a), (0, b), (0, c), (0, i), (0, oI (stT m q lt n s.toNat i.toNat))] [(1, x1)] _
        refine e_lc (show am_cd 233 85 = (1, 86, 0, 0, []) by decide +kernel) ?_
        refine e_lcb1 (show am_cd 233 86 = (9, 87, 0, 0, []) by decide +kernel) (show am_cd 233 87 = (10, 90, 93, 1, []) by decide +kernel) (fun hc => ?_) (fun hc => ?_)
        · replace h := h.1 hc
          refine e_lda (v := 67) (show am_cd 233 93 = (2, 94, 0, 2, []) by decide +kernel) rfl ?_
          refine e_ldi (show am_cd 233 94 = (2, 96, 5, 0, []) by decide +kernel) rfl ?_
          refine e_cV (z := 0) (a := 67) (as := [(0, i)]) (rest := []) (show am_cd 233 96 = (40, 99, 213, 0, [317]) by decide +kernel) (by decide +kernel) rfl rfl (Nat.le_of_ble_eq_true rfl) rfl ?_
          show Ev _ 213 _ 0 [rA 67, (0, i)] [] _
          refine e_lda (v := 67) (show am_cd 213 0 = (2, 1, 0, 2, []) by decide +kernel) rfl ?_
          refine e_getr (a := 67) (r := 94) (show am_cd 213 1 = (18, 4, 1239, 2, [95]) by decide +kernel) (by decide +kernel) (by decide +kernel) rfl ?_
          refine e_lda (v := 67) (show am_cd 213 4 = (2, 5, 0, 2, []) by decide +kernel) rfl ?_
          refine e_getf (a := 67) (tg := 0) (show am_cd 213 5 = (18, 8, 1240, 0, [272]) by decide +kernel) (by decide +kernel) (by decide +kernel) rfl ?_
          refine e_ldi (show am_cd 213 8 = (2, 9, 1, 0, []) by decide +kernel) rfl ?_
          refine e_iast (a := 94) (n := 16) (show am_cd 213 9 = (24, 10, 0, 0, []) by decide +kernel) (by decide +kernel) (by decide +kernel) (by decide +kernel) h.1 ?_
          replace h := h.2
          refine e_lda (v := 67) (show am_cd 213 10 = (2, 11, 0, 2, []) by decide +kernel) rfl ?_
          refine e_dup (show am_cd 213 11 = (13, 12, 0, 0, []) by decide +kernel) (by decide) ?_
          refine e_getfE (a := 67) (tg := 0) (v := w2 67 40) (show am_cd 213 12 = (18, 15, 1240, 0, [272]) by decide +kernel) (by decide +kernel) (by decide +kernel) rfl rfl ?_
          refine e_ic (show am_cd 213 15 = (0, 16, 0, 1, []) by decide +kernel) ?_
          refine e_iadd (show am_cd 213 16 = (5, 17, 0, 0, []) by decide +kernel) ?_
          refine e_putf (a := 67) (show am_cd 213 17 = (19, 20, 1240, 0, [272]) by decide +kernel) (by decide +kernel) (by decide +kernel) rfl (fun h9 => absurd h9 (by decide)) (fun h9 => absurd h9 (by decide +kernel)) ?_
          refine e_retv (show am_cd 213 20 = (36, 21, 3, 0, []) by decide +kernel) (by decide +kernel) ⟨fun _ h9 => (by cases h9), ?_⟩
          show Ev _ 233 _ 99 [rA 67, (0, s), (0, a), (0, b), (0, c), (0, i), (0, oI (stT m q lt n s.toNat i.toNat))] [] _
          refine e_lda (v := 67) (show am_cd 233 99 = (2, 100, 0, 2, []) by decide +kernel) rfl ?_
          refine e_ldi (show am_cd 233 100 = (2, 102, 6, 0, []) by decide +kernel) rfl ?_
          refine e_ldi (show am_cd 233 102 = (2, 103, 3, 0, []) by decide +kernel) rfl ?_
          refine e_ldi (show am_cd 233 103 = (2, 105, 4, 0, []) by decide +kernel) rfl ?_
          refine e_ldi (show am_cd 233 105 = (2, 107, 5, 0, []) by decide +kernel) rfl ?_
          refine e_cV (z := 0) (a := 67) (as := [(0, oI (stT m q lt n s.toNat i.toNat)), (0, b), (0, c), (0, i)]) (rest := []) (show am_cd 233 107 = (40, 110, 233, 0, [370]) by decide +kernel) (by decide +kernel) rfl rfl (Nat.le_of_ble_eq_true rfl) rfl ?_
          obtain ⟨g4, h⟩ := h
          refine Cl.mono (Cl.up (hrC g4 _ _ _ _ _ _ h.1) (by omega)) ?_
          rintro _ _ ⟨w5, t6, rfl, rfl, hp⟩
          refine ⟨fun _ h9 => (by cases h9), ?_⟩
          replace h := h.2 w5 t6 hp
          show Ev _ 233 _ 110 [rA 67, (0, s), (0, a), (0, b), (0, c), (0, i), (0, oI (stT m q lt n s.toNat i.toNat))] [] _
          refine e_lda (v := 67) (show am_cd 233 110 = (2, 111, 0, 2, []) by decide +kernel) rfl ?_
          refine e_dup (show am_cd 233 111 = (13, 112, 0, 0, []) by decide +kernel) (by decide) ?_
          refine e_getf (a := 67) (tg := 0) (show am_cd 233 112 = (18, 115, 1240, 0, [272]) by decide +kernel) (by decide +kernel) (by decide +kernel) rfl ?_
          refine e_ic (show am_cd 233 115 = (0, 116, 0, 1, []) by decide +kernel) ?_
          refine e_isub (show am_cd 233 116 = (5, 117, 1, 0, []) by decide +kernel) ?_
          refine e_putf (a := 67) (show am_cd 233 117 = (19, 120, 1240, 0, [272]) by decide +kernel) (by decide +kernel) (by decide +kernel) rfl (fun h9 => absurd h9 (by decide)) (fun h9 => absurd h9 (by decide +kernel)) ?_
          refine e_inc (la2 := [rA 67, (0, s), (0, a), (0, b), (0, c), (0, i + 1), (0, oI (stT m q lt n s.toNat i.toNat))]) (show am_cd 233 120 = (4, 123, 5, 1, []) by decide +kernel) rfl rfl ?_
          refine e_go (show am_cd 233 123 = (12, 37, 0, 0, []) by decide +kernel) ?_
          exact h
        · replace h := h.2 hc
          refine e_go (show am_cd 233 90 = (12, 120, 0, 0, []) by decide +kernel) ?_
          refine e_inc (la2 := [rA 67, (0, s), (0, a), (0, b), (0, c), (0, i + 1), (0, oI (stT m q lt n s.toNat i.toNat))]) (show am_cd 233 120 = (4, 123, 5, 1, []) by decide +kernel) rfl rfl ?_
          refine e_go (show am_cd 233 123 = (12, 37, 0, 0, []) by decide +kernel) ?_
          exact h

theorem lw_nil_of {m : eW} {q : Nat} {lt : Nat → Int} {n s a b c : Nat} (h : cw m q lt n s a b c = 0) : lw m q lt n s a b c = [] := lw_0.mp h
theorem c_collectsB {d : Nat} {m : eW} {q n : Nat} {lt : Nat → Int} : ∀ (B : Nat) (g : kT × List Nat) (s a b c : Int) (w : eW) (t : eT), CPR m q lt n B g s a b c w t → Cl (d + B + 20) 233 [rA 67, (0, s), (0, a), (0, b), (0, c)] (enc w t) (fun r S2 => ∃ w2 t2, r = none ∧ S2 = enc w2 t2 ∧ CPO m q lt n g s a b c w t w2 t2) := by
  intro B
  induction B with
  | zero => intro g s a b c w t h; exact absurd h.1.2.2.2.2.2.2.2.1 (Nat.not_lt_zero _)
  | succ B ih =>
    intro g s a b c w t h
    obtain ⟨ks, ml⟩ := g
    obtain ⟨⟨hm, hwo, hk, hs, ha, hb, hc, hB, hKn⟩, hK, hM, hlen⟩ := h
    dsimp only at hK hM hlen
    have hn := hk.n
    have hpn := hm.1.n
    have hcE : gE c := by unfold gC at hc; unfold gE; omega
    have hw1 : w32 (-1) = -1 := by decide +kernel
    have hle := lw_eq (m := m) (q := q) (lt := lt) (n := n) (s := s.toNat) (a := a.toNat) (b := b.toNat) (c := c.toNat) hn hs.2.2
    generalize hF : (fun d => match stT m q lt n s.toNat d with
      | none => []
      | some s2 => if goes m (-1) a.toNat b.toNat c.toNat d then (lw m q lt n s2 b.toNat c.toNat d).map (fun l => d :: l) else []) = F at hle
    have loop : ∀ (b0 : List (List Nat)) (w0 : eW), b0 = (if s.toNat / 16 = n ∧ isE m (-1) a.toNat b.toNat c.toNat = true then [[]] else []) → FrC w w0 → KnW (PmW m q lt n) w0 → KM w0 ((ks ++ b0.map (fun l => (ml ++ l, []))).take 20) → MdM w0 ml → Ev (d + B + 21) 233 (fun r S2 => ∃ w2 t2, r = none ∧ S2 = enc w2 t2 ∧ CPO m q lt n (ks, ml) s a b c w t w2 t2) 37 [rA 67, (0, s), (0, a), (0, b), (0, c), (0, 0), (9, 0)] [] (enc w0 t) := by
      intro b0 w0 hb0 q1 q2 q3 q4
      refine lq1 (fun i (σ : eW × aV) => Ev (d + B + 21) 233 (fun r S2 => ∃ w2 t2, r = none ∧ S2 = enc w2 t2 ∧ CPO m q lt n (ks, ml) s a b c w t w2 t2) 37 [rA 67, (0, s), (0, a), (0, b), (0, c), (0, (i : Int)), σ.2] [] (enc σ.1 t)) (fun i σ => FrC w σ.1 ∧ KnW (PmW m q lt n) σ.1 ∧ KM σ.1 ((ks ++ (b0 ++ lsD F i).map (fun l => (ml ++ l, []))).take 20) ∧ MdM σ.1 ml) (nP m) ?_ ?_ 0 (w0, (9, 0)) (Nat.zero_le _) ⟨q1, q2, by rw [show lsD F 0 = [] from rfl, List.append_nil]; exact q3, q4⟩
      · intro i σ hi hI hE
        obtain ⟨i1, i2, i3, i4⟩ := hI
        have hm2 := hm.frC i1
        have hk2 := hk.frC i1
        have hwo2 : σ.1 67 35 = -1 := by rw [i1.2 35 (by decide) (by decide) (by decide) (by decide)]; exact hwo
        refine g_collects1 (m := m) (q := q) (n := n) (lt := lt) (D := fun _ => none) (ks := ks) (ml := ml) hw1 ih ?_
        have hFi : F i = (match stT m q lt n s.toNat i with
          | none => []
          | some s2 => if goes m (-1) a.toNat b.toNat c.toNat i then (lw m q lt n s2 b.toNat c.toNat i).map (fun l => i :: l) else []) := by rw [← hF]
        rw [show lsD F (i + 1) = lsD F i ++ F i from rfl] at hE
        rw [hm2.2.2.1.1]
        simp (disch := omega) only [w32_id, Int.toNat_natCast]
        refine ⟨fun h9 => (by omega), fun _ => ⟨⟨hm2, hk2, hs, ⟨by omega, by omega⟩⟩, ?_⟩⟩
        cases hst : stT m q lt n s.toNat i with
        | none =>
          rw [hst] at hFi
          dsimp only at hFi
          refine ⟨fun _ => ?_, fun h9 => absurd rfl h9⟩
          exact hE (σ.1, (0, oI none)) ⟨i1, i2, by rw [hFi, List.append_nil]; exact i3, i4⟩
        | some s2 =>
          rw [hst] at hFi
          dsimp only at hFi
          have hin := stT_in hs.2.1 hs.2.2 hst
          simp (disch := omega) only [oI_s, w32_id]
          refine ⟨fun h9 => (by omega), fun _ => ⟨⟨hm2, hwo2, ha, hb, hc, ⟨by omega, by omega⟩⟩, fun hg => ?_, fun hg => ?_⟩⟩
          · rw [if_neg (by rw [hg]; decide)] at hFi
            exact hE (σ.1, (0, (s2 : Int))) ⟨i1, i2, by rw [hFi, List.append_nil]; exact i3, i4⟩
          · rw [if_pos hg] at hFi
            have hdn := mW_down hi hs.2.2 hst hg
            have h13 := mW_le (m := m) (q := q) (n := n) (s := s2) (c := i) hn
            refine ⟨⟨hm2, hwo2, hk2, ⟨by omega, by rw [Int.toNat_natCast]; exact hin.1, by rw [Int.toNat_natCast]; exact hin.2⟩, hb, hcE, ⟨by omega, by omega⟩, by rw [Int.toNat_natCast, Int.toNat_natCast]; omega, i2⟩, fun x w2 t2 hp => ?_⟩
            obtain ⟨p1, p2, p3, p4⟩ := hp
            subst p2
            rw [Int.toNat_natCast, Int.toNat_natCast] at p1
            have hlt := cw_lt (m := m) hpn.2 (q := q) (lt := lt) (n := n) (s := s2) (a := b.toNat) (b := c.toNat) (c := i)
            have iC := i1.tr p3.c
            have iM : MdM w2 ml := i4.fr (p3.2 40 (by decide)) (p3.1 94 (by decide) (by decide) (by decide))
            have iK : KM w2 ((ks ++ (b0 ++ lsD F i).map (fun l => (ml ++ l, []))).take 20) := i3.fr (p3.2 17 (by decide)) (fun a a1 a2 => p3.1 a (by omega) (by omega) (by omega))
            rw [p1, iM.1]
            simp (disch := omega) only [w32_id, w64_id, Int.toNat_natCast]
            refine ⟨fun h3 => ⟨by omega, ((ks ++ (b0 ++ lsD F i).map (fun l => (ml ++ l, []))).take 20, ml ++ [i]), ⟨⟨hm2.frC (p3.c.tr FrC.lay), ?_, hk2.frC (p3.c.tr FrC.lay), ⟨by omega, by rw [Int.toNat_natCast]; exact hin.1, by rw [Int.toNat_natCast]; exact hin.2⟩, hb, hcE, ⟨by omega, by omega⟩, by rw [Int.toNat_natCast, Int.toNat_natCast]; omega, p4.fr ?_ ?_ ?_⟩, iK.fr ?_ ?_, iM.lay (by omega), ?_⟩, fun w4 t5 hp4 => ?_⟩, fun h3 => ?_⟩
            · rw [FrC.lay.2 35 (by decide) (by decide) (by decide) (by decide), p3.2 35 (by decide)]; exact hwo2
            · rw [wu_row (by decide), wu_row (by decide)]
            · rw [wu_row (by decide), wu_row (by decide)]
            · rw [wu_nk _ _ (by decide), wu_row (by decide)]
            · rw [wu_nk _ _ (by decide), wu_row (by decide)]
            · intro a a1 a2
              rw [wu_row (by omega), wu_row (by omega)]
            · dsimp only
              rw [Int.toNat_natCast, Int.toNat_natCast, List.length_append, List.length_singleton]
              omega
            · obtain ⟨e1, e2, e3, e4, e5⟩ := hp4
              dsimp only at e4 e5
              subst e1
              rw [Int.toNat_natCast, Int.toNat_natCast] at e4
              have e5a := e5.1
              rw [List.length_append, List.length_singleton] at e5a
              have hmm : w4 67 40 - 1 = (ml.length : Int) := by rw [e5a]; omega
              rw [hmm]
              refine hE (wu w4 67 40 (ml.length : Int), (0, (s2 : Int))) ⟨(iC.tr FrC.lay).tr (e2.tr FrC.dec), KnW.fr (w2 := wu w4 67 40 (ml.length : Int)) e3 (wu_row (by decide)) (wu_row (by decide)) (wu_nk _ _ (by decide)), ?_, wu_eq w4 67 40 (ml.length : Int), i4.2.1, fun k hk => ?_⟩
              · refine KM.fr (w := w4) (w2 := wu w4 67 40 (ml.length : Int)) ?_ (wu_nk _ _ (by decide)) (fun a a1 a2 => wu_row (by omega))
                rw [tk20] at e4
                rw [hFi]
                rw [List.map_append, List.map_append]
                rw [List.map_append] at e4
                simp only [List.map_map, List.append_assoc] at e4 ⊢
                exact e4
              · show wu w4 67 40 (ml.length : Int) 94 k = _
                rw [wu_row (by decide), e5.2.2 k (by rw [List.length_append]; omega)]
                simp [List.getD_eq_getElem?_getD, List.getElem?_append_left hk]
            · have hz : lw m q lt n s2 b.toNat c.toNat i = [] := lw_nil_of (by omega)
              rw [hz, List.map_nil] at hFi
              exact hE (w2, (0, (s2 : Int))) ⟨iC, p4, by rw [hFi, List.append_nil]; exact iK, iM⟩
      · intro σ hI
        obtain ⟨i1, i2, i3, i4⟩ := hI
        refine g_collects1 (m := m) (q := q) (n := n) (lt := lt) (D := fun _ => none) (ks := ks) (ml := ml) hw1 ih ?_
        rw [(hm.frC i1).2.2.1.1]
        simp (disch := omega) only [w32_id]
        refine ⟨fun _ => ⟨_, _, by trivial, rfl, rfl, i1, i2, ?_, i4⟩, fun h9 => (by omega)⟩
        dsimp only
        rw [hle, ← hb0]
        exact i3
    refine g_collects0 (m := m) (q := q) (n := n) (lt := lt) (D := fun _ => none) (J := (9, 0)) (ks := ks) (ml := ml) hw1 ?_
    rw [hK.1]
    have hKl := hK.2.1
    simp (disch := omega) only [w32_id]
    have hks : (ks.take 20) = ks := List.take_of_length_le hKl
    refine ⟨fun h0 => ⟨⟨hk, hs.1, hs.2.1⟩, fun h2 => ?_, fun h2 => ⟨⟨hm, hwo, ha, hb, hc⟩, fun h3 => ?_, fun h3 => ⟨⟨hK, hM⟩, fun w1 hw1 => ?_⟩⟩⟩, fun h0 => ?_⟩
    · refine loop [] w ?_ (FrC.rf w) hKn (by rw [List.map_nil, List.append_nil, hks]; exact hK) hM
      rw [if_neg (fun h9 => of_decide_eq_false h2 h9.1)]
    · refine loop [] w ?_ (FrC.rf w) hKn (by rw [List.map_nil, List.append_nil, hks]; exact hK) hM
      rw [if_neg (fun h9 => by rw [h3] at h9; cases h9.2)]
    · refine loop [[]] w1 ?_ hw1.1.c (hKn.fr (hw1.1.1 92 (by decide) (by decide)) (hw1.1.1 93 (by decide) (by decide)) (hw1.1.2 38 (by decide))) ?_ (hM.fr (hw1.1.2 40 (by decide)) (hw1.1.1 94 (by decide) (by decide)))
      · rw [if_pos ⟨of_decide_eq_true h2, h3⟩]
      · have := hw1.2
        simp only [List.map_cons, List.map_nil, List.append_nil]
        exact this
    · refine ⟨w, t, by trivial, rfl, rfl, FrC.rf w, hKn, ?_, hM⟩
      dsimp only
      rw [tk_full _ _ (by omega)]
      exact hK

