/-! The model: all ways. -/
/-- only rows R, and fields F of the model, have changed -/
def Fm (R F : List Nat) (w w2 : eW) : Prop := (∀ a, a ≠ 67 → a ∉ R → w2 a = w a) ∧ ∀ k, k ∉ F → w2 67 k = w 67 k
theorem Fm.rf (R F : List Nat) (w : eW) : Fm R F w w := ⟨fun _ _ _ => rfl, fun _ _ => rfl⟩
theorem Fm.tr {R F : List Nat} {w a b : eW} (h : Fm R F w a) (h2 : Fm R F a b) : Fm R F w b := ⟨fun q h3 h4 => by rw [h2.1 q h3 h4, h.1 q h3 h4], fun k hk => by rw [h2.2 k hk, h.2 k hk]⟩
theorem Fm.mo {R F R2 F2 : List Nat} {w w2 : eW} (h : Fm R F w w2) (hR : ∀ a ∈ R, a ∈ R2) (hF : ∀ a ∈ F, a ∈ F2) : Fm R2 F2 w w2 := ⟨fun a h1 h2 => h.1 a h1 (fun h9 => h2 (hR a h9)), fun k hk => h.2 k (fun h9 => hk (hF k h9))⟩
theorem Fm.pf {R F : List Nat} {w : eW} {k : Nat} {v : Int} (hk : k ∈ F) : Fm R F w (wu w 67 k v) := ⟨fun a h1 _ => wu_row h1, fun j hj => wu_nk _ _ (fun h9 => hj (by rw [h9]; exact hk))⟩
theorem Fm.pr {R F : List Nat} {w : eW} {a k : Nat} {v : Int} (ha : a ∈ R) (h67 : a ≠ 67) : Fm R F w (wu w a k v) := ⟨fun q h1 h2 => wu_row (fun h9 => h2 (by rw [h9]; exact ha)), fun j _ => wu_na _ _ (fun h9 => h67 h9.symm)⟩
theorem FrT.m {w w2 : eW} (h : FrT w w2) : Fm [92, 93] [38] w w2 := ⟨fun a h1 h2 => h.1 a h1 (fun h9 => h2 (by simp [h9])) (fun h9 => h2 (by simp [h9])), fun k hk => h.2 k (fun h9 => hk (by simp [h9]))⟩
theorem FrC.m {w w2 : eW} (h : FrC w w2) : Fm [81, 82, 83, 84, 92, 93, 94, 95] [17, 38, 40, 42] w w2 := ⟨fun a h1 h2 => by
    simp at h2
    exact h.1 a h1 (by omega) (by omega) (by omega) (by omega) (by omega), fun k hk => by
    simp at hk
    exact h.2 k (by omega) (by omega) (by omega) (by omega)⟩
theorem MG.m {R F : List Nat} {w w2 m : eW} (h : MG w m) (hf : Fm R F w w2) (hR : ∀ a ∈ R, a < 68 ∨ 76 < a) (hF : ∀ k ∈ F, k ≠ 0 ∧ k ≠ 6) : MG w2 m := h.fr (hf.2 0 (fun h9 => (hF 0 h9).1 rfl)) (hf.2 6 (fun h9 => (hF 6 h9).2 rfl)) (fun a h1 h2 => hf.1 a (by omega) (fun h9 => by have := hR a h9; omega))
theorem gE16 : gE 16 := ⟨by decide, by decide⟩
theorem KM.nil {w : eW} (h : w 67 17 = 0) : KM w [] := ⟨h, by decide, fun i hi => absurd hi (Nat.not_lt_zero i)⟩
theorem MdM.nil {w : eW} (h : w 67 40 = 0) : MdM w [] := ⟨h, by decide, fun i hi => absurd hi (Nat.not_lt_zero i)⟩
theorem KnW.nil {P : Int → Int → Prop} {w : eW} (h : DV w (fun _ => none)) : KnW P w := ⟨_, h, fun _ _ _ h9 => by cases h9⟩

theorem g_allWays {d : Nat} {Q : Option aV → aS → Prop} {w : eW} {t : eT} {x : Int} {m : eW} {q n : Nat} {lt : Nat → Int} (h : ∀ w1, (FrT (wu w 67 49 x) w1 ∧ w1 67 38 = 0 ∧ DV w1 (fun _ => none)) → (WPR m q lt n 14 0 16 16 16 w1 t) ∧ (∀ x2 w3 t4, (WPO m q lt n 0 16 16 16 w1 t x2 w3 t4) → Q (some (1, x2)) (enc w3 t4))) : Cl (d + 20) 234 [rA 67, (0, x)] (enc w t) Q := by
  show Ev (d + 20) 234 Q 0 [rA 67, (0, x)] [] (enc w t)
  refine e_lda (v := 67) (show am_cd 234 0 = (2, 1, 0, 2, []) by decide +kernel) rfl ?_
  refine e_ldi (show am_cd 234 1 = (2, 2, 1, 0, []) by decide +kernel) rfl ?_
  refine e_putf (a := 67) (show am_cd 234 2 = (19, 5, 1249, 0, [351]) by decide +kernel) (by decide +kernel) (by decide +kernel) rfl (fun h9 => absurd h9 (by decide)) (fun h9 => absurd h9 (by decide +kernel)) ?_
  refine e_lda (v := 67) (show am_cd 234 5 = (2, 6, 0, 2, []) by decide +kernel) rfl ?_
  refine e_cV (z := 0) (a := 67) (as := []) (rest := []) (show am_cd 234 6 = (40, 9, 208, 0, [311]) by decide +kernel) (by decide +kernel) rfl rfl (Nat.le_of_ble_eq_true rfl) rfl ?_
  refine Cl.mono (Cl.up (c_forget (d := d)) (by omega)) ?_
  rintro _ _ ⟨w1, rfl, rfl, hp⟩
  refine ⟨fun _ h9 => (by cases h9), ?_⟩
  replace h := h w1 hp
  show Ev _ 234 _ 9 [rA 67, (0, x)] [] _
  refine e_lda (v := 67) (show am_cd 234 9 = (2, 10, 0, 2, []) by decide +kernel) rfl ?_
  refine e_ic (show am_cd 234 10 = (0, 11, 0, 0, []) by decide +kernel) ?_
  refine e_ic (show am_cd 234 11 = (0, 13, 1, 16, []) by decide +kernel) ?_
  refine e_ic (show am_cd 234 13 = (0, 15, 1, 16, []) by decide +kernel) ?_
  refine e_ic (show am_cd 234 15 = (0, 17, 1, 16, []) by decide +kernel) ?_
  refine e_cV (z := 0) (a := 67) (as := [(0, 0), (0, 16), (0, 16), (0, 16)]) (rest := []) (show am_cd 234 17 = (40, 20, 232, 0, [366]) by decide +kernel) (by decide +kernel) rfl rfl (Nat.le_of_ble_eq_true rfl) rfl ?_
  refine Cl.mono (Cl.up (c_waysFromB (d := d) 14 _ _ _ _ _ _ h.1) (by omega)) ?_
  rintro _ _ ⟨x2, w3, t4, rfl, rfl, hp⟩
  refine ⟨fun _ h9 => (by cases h9), ?_⟩
  replace h := h.2 x2 w3 t4 hp
  show Ev _ 234 _ 20 [rA 67, (0, x)] [(1, x2)] _
  exact e_retl (show am_cd 234 20 = (36, 21, 1, 0, []) by decide +kernel) (by decide +kernel) h

theorem c_allWays {d : Nat} {m w : eW} {t : eT} {q n : Nat} {lt : Nat → Int} (h : MG w m ∧ w 67 35 = -1 ∧ q ≤ 2 ∧ (q = 1 → LoM w lt n) ∧ (q ≠ 1 → UpM w lt n)) : Cl (d + 20) 234 [rA 67, (0, (q : Int))] (enc w t) (fun r S2 => ∃ w2, r = some (1, (cw m q lt n 0 16 16 16 : Int)) ∧ S2 = enc w2 t ∧ Fm [92, 93] [38, 49] w w2 ∧ TkM w2 q lt n ∧ KnW (PmW m q lt n) w2) := by
  obtain ⟨hm, hwo, hq, hL, hU⟩ := h
  refine g_allWays (m := m) (q := q) (n := n) (lt := lt) (fun w1 h1 => ?_)
  obtain ⟨f1, f2, f3⟩ := h1
  have hfr : Fm [92, 93] [38, 49] w w1 := (Fm.pf (R := [92, 93]) (F := [38, 49]) (k := 49) (by decide)).tr (f1.m.mo (by decide) (by decide))
  have hk : TkM w1 q lt n := by
    refine ⟨by rw [f1.2 49 (by decide)]; exact wu_eq _ _ _ _, hq, fun hq => ?_, fun hq => ?_⟩
    · obtain ⟨a1, a2, a3⟩ := hL hq
      exact ⟨by rw [hfr.2 48 (by decide)]; exact a1, a2, by rw [hfr.1 91 (by decide) (by decide)]; exact a3⟩
    · obtain ⟨a1, a2, a3⟩ := hU hq
      exact ⟨by rw [hfr.2 47 (by decide)]; exact a1, a2, by rw [hfr.1 90 (by decide) (by decide)]; exact a3⟩
  have hn := hk.n
  refine ⟨⟨hm.m hfr (by decide) (by decide), by rw [hfr.2 35 (by decide)]; exact hwo, hk, ⟨by decide, by simp, by decide⟩, gE16, gE16, ⟨by decide, Or.inr rfl⟩, ?_, KnW.nil f3⟩, fun x w2 t2 hp => ?_⟩
  · have := mW_le (m := m) (q := q) (n := n) (s := (0 : Int).toNat) (c := (16 : Int).toNat) hn
    omega
  · obtain ⟨p1, p2, p3, p4⟩ := hp
    subst p2
    refine ⟨w2, by rw [p1]; rfl, rfl, hfr.tr (p3.m.mo (by decide) (by decide)), hk.frT p3, p4⟩

theorem g_keepsAll {d : Nat} {Q : Option aV → aS → Prop} {w : eW} {t : eT} {m : eW} {q n : Nat} {lt : Nat → Int} (h : (MG w m ∧ w 67 35 = -1 ∧ q ≤ 2 ∧ (q = 1 → LoM w lt n) ∧ (q ≠ 1 → UpM w lt n)) ∧ (∀ w1, (Fm [92, 93] [38, 49] w w1 ∧ TkM w1 q lt n ∧ KnW (PmW m q lt n) w1) → ((w64 ((cw m q lt n 0 16 16 16 : Nat) : Int) ≤ w64 0 → Q (some (1, ((cw m q lt n 0 16 16 16 : Nat) : Int))) (enc (wu (wu w1 67 17 0) 67 40 0) t)) ∧ (¬ (w64 ((cw m q lt n 0 16 16 16 : Nat) : Int) ≤ w64 0) → ∃ g2, (CPR m q lt n 14 g2 0 16 16 16 (wu (wu w1 67 17 0) 67 40 0) t) ∧ (∀ w3 t4, (CPO m q lt n g2 0 16 16 16 (wu (wu w1 67 17 0) 67 40 0) t w3 t4) → Q (some (1, ((cw m q lt n 0 16 16 16 : Nat) : Int))) (enc w3 t4)))))) : Cl (d + 35) 235 [rA 67, (0, (q : Int))] (enc w t) Q := by
  show Ev (d + 35) 235 Q 0 [rA 67, (0, (q : Int)), (9, 0), (9, 0)] [] (enc w t)
  refine e_lda (v := 67) (show am_cd 235 0 = (2, 1, 0, 2, []) by decide +kernel) rfl ?_
  refine e_ldi (show am_cd 235 1 = (2, 2, 1, 0, []) by decide +kernel) rfl ?_
  refine e_cV (z := 0) (a := 67) (as := [(0, (q : Int))]) (rest := []) (show am_cd 235 2 = (40, 5, 234, 0, [374]) by decide +kernel) (by decide +kernel) rfl rfl (Nat.le_of_ble_eq_true rfl) rfl ?_
  refine Cl.mono (Cl.up (c_allWays (d := d) h.1) (by omega)) ?_
  rintro _ _ ⟨w1, rfl, rfl, hp⟩
  refine ⟨fun _ h9 => (by cases h9), ?_⟩
  replace h := h.2 w1 hp
  show Ev _ 235 _ 5 [rA 67, (0, (q : Int)), (9, 0), (9, 0)] [(1, ((cw m q lt n 0 16 16 16 : Nat) : Int))] _
  refine e_stl (la2 := [rA 67, (0, (q : Int)), (1, ((cw m q lt n 0 16 16 16 : Nat) : Int)), (9, 0)]) (show am_cd 235 5 = (3, 6, 2, 1, []) by decide +kernel) rfl ?_
  refine e_lda (v := 67) (show am_cd 235 6 = (2, 7, 0, 2, []) by decide +kernel) rfl ?_
  refine e_ic (show am_cd 235 7 = (0, 8, 0, 0, []) by decide +kernel) ?_
  refine e_putf (a := 67) (show am_cd 235 8 = (19, 11, 1217, 0, [189]) by decide +kernel) (by decide +kernel) (by decide +kernel) rfl (fun h9 => absurd h9 (by decide)) (fun h9 => absurd h9 (by decide +kernel)) ?_
  refine e_lda (v := 67) (show am_cd 235 11 = (2, 12, 0, 2, []) by decide +kernel) rfl ?_
  refine e_ic (show am_cd 235 12 = (0, 13, 0, 0, []) by decide +kernel) ?_
  refine e_putf (a := 67) (show am_cd 235 13 = (19, 16, 1240, 0, [272]) by decide +kernel) (by decide +kernel) (by decide +kernel) rfl (fun h9 => absurd h9 (by decide)) (fun h9 => absurd h9 (by decide +kernel)) ?_
  refine e_ldl (show am_cd 235 16 = (2, 17, 2, 1, []) by decide +kernel) rfl ?_
  refine e_lc (show am_cd 235 17 = (1, 18, 0, 0, []) by decide +kernel) ?_
  refine e_lcb5 (show am_cd 235 18 = (9, 19, 0, 0, []) by decide +kernel) (show am_cd 235 19 = (10, 22, 33, 5, []) by decide +kernel) (fun hc => ?_) (fun hc => ?_)
  · replace h := h.1 hc
    refine e_ldl (show am_cd 235 33 = (2, 34, 2, 1, []) by decide +kernel) rfl ?_
    exact e_retl (show am_cd 235 34 = (36, 35, 1, 0, []) by decide +kernel) (by decide +kernel) h
  · replace h := h.2 hc
    refine e_lda (v := 67) (show am_cd 235 22 = (2, 23, 0, 2, []) by decide +kernel) rfl ?_
    refine e_ic (show am_cd 235 23 = (0, 24, 0, 0, []) by decide +kernel) ?_
    refine e_ic (show am_cd 235 24 = (0, 26, 1, 16, []) by decide +kernel) ?_
    refine e_ic (show am_cd 235 26 = (0, 28, 1, 16, []) by decide +kernel) ?_
    refine e_ic (show am_cd 235 28 = (0, 30, 1, 16, []) by decide +kernel) ?_
    refine e_cV (z := 0) (a := 67) (as := [(0, 0), (0, 16), (0, 16), (0, 16)]) (rest := []) (show am_cd 235 30 = (40, 33, 233, 0, [370]) by decide +kernel) (by decide +kernel) rfl rfl (Nat.le_of_ble_eq_true rfl) rfl ?_
    obtain ⟨g2, h⟩ := h
    refine Cl.mono (Cl.up (c_collectsB (d := d) 14 g2 _ _ _ _ _ _ h.1) (by omega)) ?_
    rintro _ _ ⟨w3, t4, rfl, rfl, hp⟩
    refine ⟨fun _ h9 => (by cases h9), ?_⟩
    replace h := h.2 w3 t4 hp
    show Ev _ 235 _ 33 [rA 67, (0, (q : Int)), (1, ((cw m q lt n 0 16 16 16 : Nat) : Int)), (9, 0)] [] _
    refine e_ldl (show am_cd 235 33 = (2, 34, 2, 1, []) by decide +kernel) rfl ?_
    exact e_retl (show am_cd 235 34 = (36, 35, 1, 0, []) by decide +kernel) (by decide +kernel) h

theorem c_keepsAll {d : Nat} {m w : eW} {t : eT} {q n : Nat} {lt : Nat → Int} (h : MG w m ∧ w 67 35 = -1 ∧ q ≤ 2 ∧ (q = 1 → LoM w lt n) ∧ (q ≠ 1 → UpM w lt n)) : Cl (d + 35) 235 [rA 67, (0, (q : Int))] (enc w t) (fun r S2 => ∃ w2, r = some (1, (cw m q lt n 0 16 16 16 : Int)) ∧ S2 = enc w2 t ∧ Fm [81, 82, 83, 84, 92, 93, 94, 95] [17, 38, 40, 42, 49] w w2 ∧ KM w2 (((lw m q lt n 0 16 16 16).map (fun l => (l, []))).take 20)) := by
  have hm := h.1
  refine g_keepsAll (m := m) (q := q) (n := n) (lt := lt) ⟨h, fun w1 h1 => ?_⟩
  obtain ⟨f1, f2, f3⟩ := h1
  have hlt := cw_lt (m := m) hm.1.n.2 (q := q) (lt := lt) (n := n) (s := 0) (a := 16) (b := 16) (c := 16)
  have hfr : Fm [81, 82, 83, 84, 92, 93, 94, 95] [17, 38, 40, 42, 49] w (wu (wu w1 67 17 0) 67 40 0) := (f1.mo (by decide) (by decide)).tr ((Fm.pf (k := 17) (by decide)).tr (Fm.pf (k := 40) (by decide)))
  simp (disch := omega) only [w64_id]
  refine ⟨fun h2 => ?_, fun h2 => ⟨([], []), ⟨⟨hm.m hfr (by decide) (by decide), by rw [hfr.2 35 (by decide)]; exact h.2.1, ⟨f2.1, f2.2.1, f2.2.2.1, f2.2.2.2⟩, ⟨by decide, by simp, by decide⟩, gE16, gE16, ⟨by decide, Or.inr rfl⟩, ?_, f3.fr ?_ ?_ ?_⟩, KM.nil rfl, MdM.nil (wu_eq _ _ _ _), ?_⟩, fun w4 t5 hp => ?_⟩⟩
  · refine ⟨_, by trivial, rfl, hfr, ?_⟩
    rw [lw_nil_of (by omega)]
    exact KM.nil rfl
  · have := mW_le (m := m) (q := q) (n := n) (s := (0 : Int).toNat) (c := (16 : Int).toNat) f2.n
    omega
  · rw [wu_row (by decide), wu_row (by decide)]
  · rw [wu_row (by decide), wu_row (by decide)]
  · rw [wu_nk _ _ (by decide), wu_nk _ _ (by decide)]
  · have := mW_le (m := m) (q := q) (n := n) (s := (0 : Int).toNat) (c := (16 : Int).toNat) f2.n
    simp only [List.length_nil]
    omega
  · obtain ⟨e1, e2, e3, e4, e5⟩ := hp
    subst e1
    exact ⟨w4, by trivial, rfl, hfr.tr (e2.m.mo (by decide) (by decide)), e4⟩

