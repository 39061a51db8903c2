/-! The model: how many readings. -/
def MGe (w m : eW) : Prop := w 67 12 = m 67 12 ∧ ∀ e, e < nE m → w 77 e = m 77 e ∧ w 78 e = m 78 e ∧ w 79 e = m 79 e ∧ ∀ k : Nat, (k : Int) < m 79 e → w 80 (5 * e + k) = m 80 (5 * e + k)
def MX (w m : eW) : Prop := MG w m ∧ WFe m ∧ MGe w m
theorem MX.m {R F : List Nat} {w w2 m : eW} (h : MX w m) (hf : Fm R F w w2) (hR : ∀ a ∈ R, a < 68 ∨ 80 < a) (hF : ∀ k ∈ F, k ≠ 0 ∧ k ≠ 6 ∧ k ≠ 12) : MX w2 m := by
  obtain ⟨h1, h2, h3, h4⟩ := h
  have nR : ∀ a, 68 ≤ a → a ≤ 80 → w2 a = w a := fun a a1 a2 => hf.1 a (by omega) (fun h9 => by have := hR a h9; omega)
  refine ⟨h1.m hf (fun a ha => by have := hR a ha; omega) (fun k hk => ⟨(hF k hk).1, (hF k hk).2.1⟩), h2, by rw [hf.2 12 (fun h9 => (hF 12 h9).2.2 rfl)]; exact h3, fun e he => ?_⟩
  rw [nR 77 (by decide) (by decide), nR 78 (by decide) (by decide), nR 79 (by decide) (by decide), nR 80 (by decide) (by decide)]
  exact h4 e he
theorem LoM.m {R F : List Nat} {w w2 : eW} {n : Nat} {lt : Nat → Int} (h : LoM w lt n) (hf : Fm R F w w2) (hR : 91 ∉ R) (hF : 48 ∉ F) : LoM w2 lt n := by
  obtain ⟨a1, a2, a3⟩ := h
  exact ⟨by rw [hf.2 48 hF]; exact a1, a2, by rw [hf.1 91 (by decide) hR]; exact a3⟩
theorem UpM.m {R F : List Nat} {w w2 : eW} {n : Nat} {lt : Nat → Int} (h : UpM w lt n) (hf : Fm R F w w2) (hR : 90 ∉ R) (hF : 47 ∉ F) : UpM w2 lt n := by
  obtain ⟨a1, a2, a3⟩ := h
  exact ⟨by rw [hf.2 47 hF]; exact a1, a2, by rw [hf.1 90 (by decide) hR]; exact a3⟩

theorem g_isForm {d : Nat} {Q : Option aV → aS → Prop} {w : eW} {t : eT} {e x p : Int} (h : (0 ≤ w32 p ∧ w32 p < 16) ∧ ((w32 (w 68 (w32 p).toNat) = w32 27 → Q (some (0, 1)) (enc w t)) ∧ (¬ (w32 (w 68 (w32 p).toNat) = w32 27) → (0 ≤ w32 p ∧ w32 p < 16) ∧ (0 ≤ w32 ((5 * e) + x) ∧ w32 ((5 * e) + x) < 80) ∧ ((¬ w32 (w 68 (w32 p).toNat) = w32 (w 80 (w32 ((5 * e) + x)).toNat) → Q (some (0, 0)) (enc w t)) ∧ (¬ (¬ w32 (w 68 (w32 p).toNat) = w32 (w 80 (w32 ((5 * e) + x)).toNat)) → Q (some (0, 1)) (enc w t)))))) : Cl (d) 242 [rA 67, (0, e), (0, x), (0, p)] (enc w t) Q := by
  show Ev (d) 242 Q 0 [rA 67, (0, e), (0, x), (0, p)] [] (enc w t)
  refine e_lda (v := 67) (show am_cd 242 0 = (2, 1, 0, 2, []) by decide +kernel) rfl ?_
  refine e_getr (a := 67) (r := 68) (show am_cd 242 1 = (18, 4, 1201, 2, [9]) by decide +kernel) (by decide +kernel) (by decide +kernel) rfl ?_
  refine e_ldi (show am_cd 242 4 = (2, 5, 3, 0, []) by decide +kernel) rfl ?_
  refine e_iald (a := 68) (n := 16) (show am_cd 242 5 = (21, 6, 0, 0, []) by decide +kernel) (by decide +kernel) (by decide +kernel) (by decide +kernel) h.1 ?_
  replace h := h.2
  refine e_ic (show am_cd 242 6 = (0, 8, 1, 27, []) by decide +kernel) ?_
  refine e_cmp0 (show am_cd 242 8 = (11, 11, 30, 0, []) by decide +kernel) (fun hc => ?_) (fun hc => ?_)
  · replace h := h.1 hc
    refine e_ic (show am_cd 242 30 = (0, 31, 0, 1, []) by decide +kernel) ?_
    refine e_go (show am_cd 242 31 = (12, 35, 0, 0, []) by decide +kernel) ?_
    exact e_retz (show am_cd 242 35 = (36, 36, 0, 0, []) by decide +kernel) (by decide +kernel) (Or.inr rfl) h
  · replace h := h.2 hc
    refine e_lda (v := 67) (show am_cd 242 11 = (2, 12, 0, 2, []) by decide +kernel) rfl ?_
    refine e_getr (a := 67) (r := 68) (show am_cd 242 12 = (18, 15, 1201, 2, [9]) by decide +kernel) (by decide +kernel) (by decide +kernel) rfl ?_
    refine e_ldi (show am_cd 242 15 = (2, 16, 3, 0, []) by decide +kernel) rfl ?_
    refine e_iald (a := 68) (n := 16) (show am_cd 242 16 = (21, 17, 0, 0, []) by decide +kernel) (by decide +kernel) (by decide +kernel) (by decide +kernel) h.1 ?_
    replace h := h.2
    refine e_lda (v := 67) (show am_cd 242 17 = (2, 18, 0, 2, []) by decide +kernel) rfl ?_
    refine e_getr (a := 67) (r := 80) (show am_cd 242 18 = (18, 21, 1216, 2, [46]) by decide +kernel) (by decide +kernel) (by decide +kernel) rfl ?_
    refine e_ic (show am_cd 242 21 = (0, 22, 0, 5, []) by decide +kernel) ?_
    refine e_ldi (show am_cd 242 22 = (2, 23, 1, 0, []) by decide +kernel) rfl ?_
    refine e_imul (show am_cd 242 23 = (5, 24, 2, 0, []) by decide +kernel) ?_
    refine e_ldi (show am_cd 242 24 = (2, 25, 2, 0, []) by decide +kernel) rfl ?_
    refine e_iadd (show am_cd 242 25 = (5, 26, 0, 0, []) by decide +kernel) ?_
    refine e_iald (a := 80) (n := 80) (show am_cd 242 26 = (21, 27, 0, 0, []) by decide +kernel) (by decide +kernel) (by decide +kernel) (by decide +kernel) h.1 ?_
    replace h := h.2
    refine e_cmp1 (show am_cd 242 27 = (11, 30, 34, 1, []) by decide +kernel) (fun hc => ?_) (fun hc => ?_)
    · replace h := h.1 hc
      refine e_ic (show am_cd 242 34 = (0, 35, 0, 0, []) by decide +kernel) ?_
      exact e_retz (show am_cd 242 35 = (36, 36, 0, 0, []) by decide +kernel) (by decide +kernel) (Or.inl rfl) h
    · replace h := h.2 hc
      refine e_ic (show am_cd 242 30 = (0, 31, 0, 1, []) by decide +kernel) ?_
      refine e_go (show am_cd 242 31 = (12, 35, 0, 0, []) by decide +kernel) ?_
      exact e_retz (show am_cd 242 35 = (36, 36, 0, 0, []) by decide +kernel) (by decide +kernel) (Or.inr rfl) h

theorem g_isLast {d : Nat} {Q : Option aV → aS → Prop} {w : eW} {t : eT} {j a b c p : Int} {m : eW} {ll : Nat → Int} {nl : Nat} {wo : Int} (hw : w32 wo = wo) (h : (0 ≤ w32 p ∧ w32 p < 16) ∧ ((¬ w32 (w 68 (w32 p).toNat) = w32 27 → Q (some (0, 0)) (enc w t)) ∧ (¬ (¬ w32 (w 68 (w32 p).toNat) = w32 27) → (MG w m ∧ LoM w ll nl ∧ (0 ≤ j ∧ j ≤ nl) ∧ gP m p) ∧ ((¬ w32 (oI (loT m ll nl j.toNat p.toNat)) = w32 (w 67 48) → Q (some (0, 0)) (enc w t)) ∧ (¬ (¬ w32 (oI (loT m ll nl j.toNat p.toNat)) = w32 (w 67 48)) → (MG w m ∧ w 67 35 = wo ∧ gE a ∧ gE b ∧ gC m c ∧ gC m p) ∧ (((goes m wo a.toNat b.toNat c.toNat p.toNat) = false → Q (some (0, 0)) (enc w t)) ∧ ((goes m wo a.toNat b.toNat c.toNat p.toNat) = true → (MG w m ∧ w 67 35 = wo ∧ gE b ∧ gE c ∧ gC m p) ∧ (((isE m wo b.toNat c.toNat p.toNat) = false → Q (some (0, 0)) (enc w t)) ∧ ((isE m wo b.toNat c.toNat p.toNat) = true → Q (some (0, 1)) (enc w t)))))))))) : Cl (d + 5) 244 [rA 67, (0, j), (0, a), (0, b), (0, c), (0, p)] (enc w t) Q := by
  show Ev (d + 5) 244 Q 0 [rA 67, (0, j), (0, a), (0, b), (0, c), (0, p)] [] (enc w t)
  refine e_lda (v := 67) (show am_cd 244 0 = (2, 1, 0, 2, []) by decide +kernel) rfl ?_
  refine e_getr (a := 67) (r := 68) (show am_cd 244 1 = (18, 4, 1201, 2, [9]) by decide +kernel) (by decide +kernel) (by decide +kernel) rfl ?_
  refine e_ldi (show am_cd 244 4 = (2, 6, 5, 0, []) by decide +kernel) rfl ?_
  refine e_iald (a := 68) (n := 16) (show am_cd 244 6 = (21, 7, 0, 0, []) by decide +kernel) (by decide +kernel) (by decide +kernel) (by decide +kernel) h.1 ?_
  replace h := h.2
  refine e_ic (show am_cd 244 7 = (0, 9, 1, 27, []) by decide +kernel) ?_
  refine e_cmp1 (show am_cd 244 9 = (11, 12, 55, 1, []) by decide +kernel) (fun hc => ?_) (fun hc => ?_)
  · replace h := h.1 hc
    refine e_ic (show am_cd 244 55 = (0, 56, 0, 0, []) by decide +kernel) ?_
    exact e_retz (show am_cd 244 56 = (36, 57, 0, 0, []) by decide +kernel) (by decide +kernel) (Or.inl rfl) h
  · replace h := h.2 hc
    refine e_lda (v := 67) (show am_cd 244 12 = (2, 13, 0, 2, []) by decide +kernel) rfl ?_
    refine e_ldi (show am_cd 244 13 = (2, 14, 1, 0, []) by decide +kernel) rfl ?_
    refine e_ldi (show am_cd 244 14 = (2, 16, 5, 0, []) by decide +kernel) rfl ?_
    refine e_cV (z := 0) (a := 67) (as := [(0, j), (0, p)]) (rest := []) (show am_cd 244 16 = (40, 19, 229, 0, [354]) by decide +kernel) (by decide +kernel) rfl rfl (Nat.le_of_ble_eq_true rfl) rfl ?_
    refine Cl.mono (Cl.up (c_lowerThen (d := d) h.1) (by omega)) ?_
    rintro _ _ ⟨rfl, rfl⟩
    refine ⟨fun _ h9 => (by cases h9), ?_⟩
    replace h := h.2
    show Ev _ 244 _ 19 [rA 67, (0, j), (0, a), (0, b), (0, c), (0, p)] [(0, oI (loT m ll nl j.toNat p.toNat))] _
    refine e_lda (v := 67) (show am_cd 244 19 = (2, 20, 0, 2, []) by decide +kernel) rfl ?_
    refine e_getf (a := 67) (tg := 0) (show am_cd 244 20 = (18, 23, 1248, 0, [348]) by decide +kernel) (by decide +kernel) (by decide +kernel) rfl ?_
    refine e_cmp1 (show am_cd 244 23 = (11, 26, 55, 1, []) by decide +kernel) (fun hc => ?_) (fun hc => ?_)
    · replace h := h.1 hc
      refine e_ic (show am_cd 244 55 = (0, 56, 0, 0, []) by decide +kernel) ?_
      exact e_retz (show am_cd 244 56 = (36, 57, 0, 0, []) by decide +kernel) (by decide +kernel) (Or.inl rfl) h
    · replace h := h.2 hc
      refine e_lda (v := 67) (show am_cd 244 26 = (2, 27, 0, 2, []) by decide +kernel) rfl ?_
      refine e_ldi (show am_cd 244 27 = (2, 28, 2, 0, []) by decide +kernel) rfl ?_
      refine e_ldi (show am_cd 244 28 = (2, 29, 3, 0, []) by decide +kernel) rfl ?_
      refine e_ldi (show am_cd 244 29 = (2, 31, 4, 0, []) by decide +kernel) rfl ?_
      refine e_ldi (show am_cd 244 31 = (2, 33, 5, 0, []) by decide +kernel) rfl ?_
      refine e_cV (z := 0) (a := 67) (as := [(0, a), (0, b), (0, c), (0, p)]) (rest := []) (show am_cd 244 33 = (40, 36, 210, 0, [282]) by decide +kernel) (by decide +kernel) rfl rfl (Nat.le_of_ble_eq_true rfl) rfl ?_
      refine Cl.mono (Cl.up (c_goes (hw := hw) (d := d) h.1) (by omega)) ?_
      rintro _ _ ⟨rfl, rfl⟩
      refine ⟨fun _ h9 => (by cases h9), ?_⟩
      replace h := h.2
      show Ev _ 244 _ 36 [rA 67, (0, j), (0, a), (0, b), (0, c), (0, p)] [(0, bI (goes m wo a.toNat b.toNat c.toNat p.toNat))] _
      refine e_ifb0 (show am_cd 244 36 = (10, 39, 55, 0, []) by decide +kernel) (fun hc => ?_) (fun hc => ?_)
      · replace h := h.1 hc
        refine e_ic (show am_cd 244 55 = (0, 56, 0, 0, []) by decide +kernel) ?_
        exact e_retz (show am_cd 244 56 = (36, 57, 0, 0, []) by decide +kernel) (by decide +kernel) (Or.inl rfl) h
      · replace h := h.2 hc
        refine e_lda (v := 67) (show am_cd 244 39 = (2, 40, 0, 2, []) by decide +kernel) rfl ?_
        refine e_ldi (show am_cd 244 40 = (2, 41, 3, 0, []) by decide +kernel) rfl ?_
        refine e_ldi (show am_cd 244 41 = (2, 43, 4, 0, []) by decide +kernel) rfl ?_
        refine e_ldi (show am_cd 244 43 = (2, 45, 5, 0, []) by decide +kernel) rfl ?_
        refine e_cV (z := 0) (a := 67) (as := [(0, b), (0, c), (0, p)]) (rest := []) (show am_cd 244 45 = (40, 48, 211, 0, [285]) by decide +kernel) (by decide +kernel) rfl rfl (Nat.le_of_ble_eq_true rfl) rfl ?_
        refine Cl.mono (Cl.up (c_isEnd (hw := hw) (d := d) h.1) (by omega)) ?_
        rintro _ _ ⟨rfl, rfl⟩
        refine ⟨fun _ h9 => (by cases h9), ?_⟩
        replace h := h.2
        show Ev _ 244 _ 48 [rA 67, (0, j), (0, a), (0, b), (0, c), (0, p)] [(0, bI (isE m wo b.toNat c.toNat p.toNat))] _
        refine e_ifb0 (show am_cd 244 48 = (10, 51, 55, 0, []) by decide +kernel) (fun hc => ?_) (fun hc => ?_)
        · replace h := h.1 hc
          refine e_ic (show am_cd 244 55 = (0, 56, 0, 0, []) by decide +kernel) ?_
          exact e_retz (show am_cd 244 56 = (36, 57, 0, 0, []) by decide +kernel) (by decide +kernel) (Or.inl rfl) h
        · replace h := h.2 hc
          refine e_ic (show am_cd 244 51 = (0, 52, 0, 1, []) by decide +kernel) ?_
          refine e_go (show am_cd 244 52 = (12, 56, 0, 0, []) by decide +kernel) ?_
          exact e_retz (show am_cd 244 56 = (36, 57, 0, 0, []) by decide +kernel) (by decide +kernel) (Or.inr rfl) h

theorem c_isForm {d : Nat} {m w : eW} {t : eT} {e x p : Int} (h : MX w m ∧ (0 ≤ e ∧ e < nE m) ∧ (0 ≤ x ∧ x < fmN m e.toNat) ∧ gP m p) : Cl d 242 [rA 67, (0, e), (0, x), (0, p)] (enc w t) (fun z S2 => z = some (0, bI (isFm m e.toNat x.toNat p.toNat)) ∧ S2 = enc w t) := by
  obtain ⟨⟨hm, he, hx⟩, h1, h2, hp⟩ := h
  have hn := hm.1.n
  have hne := he.n
  unfold gP at hp
  have g1 := (hm.2.2.1.2 p.toNat (by omega)).1
  have b1 := (hm.1.2.1 p.toNat (by omega)).1
  have hfm := he.fm (e := e.toNat) (by omega)
  have g2 := (hx.2 e.toNat (by omega)).2.2.2 x.toNat (by omega)
  have b2 := (he.2 e.toNat (by omega)).2.2.2 x.toNat (by omega)
  have ei : (5 * e + x).toNat = 5 * e.toNat + x.toNat := by omega
  refine g_isForm ?_
  simp (disch := omega) only [w32_id, g1, ei, g2]
  unfold isFm
  refine ⟨by omega, fun h3 => ⟨?_, by trivial⟩, fun h3 => ⟨by omega, by omega, fun h4 => ⟨?_, by trivial⟩, fun h4 => ⟨?_, by trivial⟩⟩⟩
  · rw [decide_eq_true h3]; rfl
  · rw [decide_eq_false h3, decide_eq_false h4]; rfl
  · rw [decide_eq_true (show m 68 p.toNat = m 80 (5 * e.toNat + x.toNat) by omega), Bool.or_true]; rfl
theorem c_isLast {d : Nat} {m w : eW} {t : eT} {ll : Nat → Int} {nl : Nat} {j a b c p : Int} (h : MX w m ∧ w 67 35 = -1 ∧ LoM w ll nl ∧ (0 ≤ j ∧ j ≤ nl) ∧ gE a ∧ gE b ∧ gC m c ∧ gP m p) : Cl (d + 5) 244 [rA 67, (0, j), (0, a), (0, b), (0, c), (0, p)] (enc w t) (fun z S2 => z = some (0, bI (isLs m ll nl j.toNat a.toNat b.toNat c.toNat p.toNat)) ∧ S2 = enc w t) := by
  obtain ⟨⟨hm, he, hx⟩, hwo, hL, hj, ha, hb, hc, hp⟩ := h
  have hn := hm.1.n
  have hw1 : w32 (-1) = -1 := by decide +kernel
  have hcE : gE c := by unfold gC at hc; unfold gE; omega
  have hp' := hp
  unfold gP at hp'
  have hpC : gC m p := ⟨by omega, by omega⟩
  have g1 := (hm.2.2.1.2 p.toNat (by omega)).1
  have b1 := (hm.1.2.1 p.toNat (by omega)).1
  refine g_isLast (m := m) (ll := ll) (nl := nl) hw1 ?_
  have hl6 := hL.2.1
  rw [hL.1]
  simp (disch := omega) only [w32_id, g1]
  unfold isLs
  refine ⟨by omega, fun h3 => ⟨?_, by trivial⟩, fun h3 => ⟨⟨hm, hL, hj, hp⟩, ?_⟩⟩
  · rw [decide_eq_false h3]; rfl
  · have h3' : m 68 p.toNat = 27 := by omega
    rw [decide_eq_true h3']
    have hgoes : goes m (-1) a.toNat b.toNat c.toNat p.toNat = false ∨ goes m (-1) a.toNat b.toNat c.toNat p.toNat = true := by cases goes m (-1) a.toNat b.toNat c.toNat p.toNat <;> simp
    have hE : isE m (-1) b.toNat c.toNat p.toNat = false ∨ isE m (-1) b.toNat c.toNat p.toNat = true := by cases isE m (-1) b.toNat c.toNat p.toNat <;> simp
    cases hT : loT m ll nl j.toNat p.toNat with
    | none =>
      refine ⟨fun _ => ⟨rfl, by trivial⟩, fun h9 => ?_⟩
      rw [oI_n, hw1] at h9
      omega
    | some i =>
      have hi := loT_le (by omega) hT
      simp (disch := omega) only [oI_s, w32_id]
      refine ⟨fun h4 => ⟨?_, by trivial⟩, fun h4 => ⟨⟨hm, hwo, ha, hb, hc, hpC⟩, fun h5 => ⟨?_, by trivial⟩, fun h5 => ⟨⟨hm, hwo, hb, hcE, hpC⟩, fun h6 => ⟨?_, by trivial⟩, fun h6 => ⟨?_, by trivial⟩⟩⟩⟩
      · rw [decide_eq_false (fun h9 => h4 (by injection h9 with h9; omega))]; rfl
      · rw [h5, Bool.and_false]; rfl
      · rw [h6, Bool.and_false]; rfl
      · rw [h5, h6, decide_eq_true (show some i = some nl by congr 1; omega)]; rfl
def PmF (m : eW) (ll : Nat → Int) (nl : Nat) (key v : Int) : Prop := ∀ e dn al j a b c : Nat, dn ≤ 7 → al ≤ 7 → j ≤ 7 → a ≤ 16 → b ≤ 16 → c ≤ 16 → key = ((((e : Int) * 8 + dn) * 8 + al) * 8 + j) * 8192 + (((a : Int) * 17 + b) * 17 + c) → v = ((fl m ll nl 0 e dn al j a b c).length : Int)
theorem kF_inj {e dn al j a b c e2 dn2 al2 j2 a2 b2 c2 : Nat} (h1 : dn ≤ 7) (h2 : al ≤ 7) (h3 : j ≤ 7) (h4 : a ≤ 16) (h5 : b ≤ 16) (h6 : c ≤ 16) (h7 : dn2 ≤ 7) (h8 : al2 ≤ 7) (h9 : j2 ≤ 7) (h10 : a2 ≤ 16) (h11 : b2 ≤ 16) (h12 : c2 ≤ 16) (h : ((((e : Int) * 8 + dn) * 8 + al) * 8 + j) * 8192 + (((a : Int) * 17 + b) * 17 + c) = ((((e2 : Int) * 8 + dn2) * 8 + al2) * 8 + j2) * 8192 + (((a2 : Int) * 17 + b2) * 17 + c2)) : e = e2 ∧ dn = dn2 ∧ al = al2 ∧ j = j2 ∧ a = a2 ∧ b = b2 ∧ c = c2 := by
  have bb1 : (0 : Int) ≤ ((a : Int) * 17 + b) * 17 + c ∧ ((a : Int) * 17 + b) * 17 + c < 8192 := by omega
  have bb2 : (0 : Int) ≤ ((a2 : Int) * 17 + b2) * 17 + c2 ∧ ((a2 : Int) * 17 + b2) * 17 + c2 < 8192 := by omega
  have q1 : (((e : Int) * 8 + dn) * 8 + al) * 8 + j = (((e2 : Int) * 8 + dn2) * 8 + al2) * 8 + j2 ∧ ((a : Int) * 17 + b) * 17 + c = ((a2 : Int) * 17 + b2) * 17 + c2 := by
    generalize ((a : Int) * 17 + b) * 17 + c = Y at *
    generalize ((a2 : Int) * 17 + b2) * 17 + c2 = Y2 at *
    generalize (((e : Int) * 8 + dn) * 8 + al) * 8 + j = X at *
    generalize (((e2 : Int) * 8 + dn2) * 8 + al2) * 8 + j2 = X2 at *
    omega
  clear h bb1 bb2
  have q2 : ((e : Int) * 8 + dn) * 8 + al = ((e2 : Int) * 8 + dn2) * 8 + al2 ∧ j = j2 := by
    have := q1.1
    generalize ((e : Int) * 8 + dn) * 8 + al = X at *
    generalize ((e2 : Int) * 8 + dn2) * 8 + al2 = X2 at *
    omega
  have q3 : (e : Int) * 8 + dn = (e2 : Int) * 8 + dn2 ∧ al = al2 := by
    have := q2.1
    generalize (e : Int) * 8 + dn = X at *
    generalize (e2 : Int) * 8 + dn2 = X2 at *
    omega
  refine ⟨by omega, by omega, q3.2, q2.2, ?_, ?_, ?_⟩ <;> omega
def FCx (m : eW) (ll : Nat → Int) (nl : Nat) (w : eW) : Prop := MX w m ∧ w 67 35 = -1 ∧ LoM w ll nl
theorem FCx.t {m : eW} {ll : Nat → Int} {nl : Nat} {w w2 : eW} (h : FCx m ll nl w) (hf : FrT w w2) : FCx m ll nl w2 := ⟨h.1.m hf.m (by decide) (by decide), by rw [hf.2 35 (by decide)]; exact h.2.1, h.2.2.m hf.m (by decide) (by decide)⟩
def gABC (m : eW) (a b c : Int) : Prop := gE a ∧ gE b ∧ gC m c
def FWR (m : eW) (ll : Nat → Int) (nl B : Nat) (e dn al j a b c : Int) (w : eW) (_ : eT) : Prop := FCx m ll nl w ∧ KnW (PmF m ll nl) w ∧ (0 ≤ e ∧ e < nE m) ∧ (0 ≤ dn ∧ dn < fmN m e.toNat) ∧ ((fmN m e.toNat : Int) ≤ al ∧ al ≤ 6) ∧ (0 ≤ j ∧ j ≤ nl) ∧ gABC m a b c ∧ mF m nl 0 e.toNat dn.toNat al.toNat j.toNat < B
def FWO (m : eW) (ll : Nat → Int) (nl : Nat) (e dn al j a b c : Int) (w : eW) (t : eT) (x : Int) (w2 : eW) (t2 : eT) : Prop := x = ((fl m ll nl 0 e.toNat dn.toNat al.toNat j.toNat a.toNat b.toNat c.toNat).length : Int) ∧ t2 = t ∧ FrT w w2 ∧ KnW (PmF m ll nl) w2
def FBR (m : eW) (ll : Nat → Int) (nl B : Nat) (e dn al j a b c : Int) (w : eW) (_ : eT) : Prop := FCx m ll nl w ∧ KnW (PmF m ll nl) w ∧ (0 ≤ e ∧ e < nE m) ∧ (0 ≤ dn ∧ dn ≤ fmN m e.toNat) ∧ ((fmN m e.toNat : Int) ≤ al ∧ al ≤ 6) ∧ (0 ≤ j ∧ j ≤ nl) ∧ gABC m a b c ∧ (dn < fmN m e.toNat → mF m nl 0 e.toNat dn.toNat al.toNat j.toNat < B) ∧ (¬ dn < fmN m e.toNat → mF m nl 1 0 0 al.toNat j.toNat < B)
def FBO (m : eW) (ll : Nat → Int) (nl : Nat) (e dn al j a b c : Int) (w : eW) (t : eT) (x : Int) (w2 : eW) (t2 : eT) : Prop := x = ((beL m ll nl (fl m ll nl) e.toNat dn.toNat al.toNat j.toNat a.toNat b.toNat c.toNat).length : Int) ∧ t2 = t ∧ FrT w w2 ∧ KnW (PmF m ll nl) w2
def FNR (m : eW) (ll : Nat → Int) (nl B : Nat) (g al j a b c : Int) (w : eW) (_ : eT) : Prop := FCx m ll nl w ∧ KnW (PmF m ll nl) w ∧ (0 ≤ g ∧ g ≤ 3) ∧ (0 ≤ al ∧ al ≤ 6) ∧ (0 ≤ j ∧ j ≤ nl) ∧ gABC m a b c ∧ mF m nl 1 0 0 al.toNat j.toNat < B
def FNO (m : eW) (ll : Nat → Int) (nl : Nat) (g al j a b c : Int) (w : eW) (t : eT) (x : Int) (w2 : eW) (t2 : eT) : Prop := x = ((fl m ll nl 1 g.toNat 0 al.toNat j.toNat a.toNat b.toNat c.toNat).length : Int) ∧ t2 = t ∧ FrT w w2 ∧ KnW (PmF m ll nl) w2

theorem g_next0 {d : Nat} {Q : Option aV → aS → Prop} {w : eW} {t : eT} {g al j a b c : Int} (h : Ev (d + 6) 245 Q 6 [rA 67, (0, g), (0, al), (0, j), (0, a), (0, b), (0, c), (1, 0), (9, 0), (0, 0)] [] (enc w t)) : Cl (d + 6) 245 [rA 67, (0, g), (0, al), (0, j), (0, a), (0, b), (0, c)] (enc w t) Q := by
  show Ev (d + 6) 245 Q 0 [rA 67, (0, g), (0, al), (0, j), (0, a), (0, b), (0, c), (9, 0), (9, 0), (9, 0)] [] (enc w t)
  refine e_lc (show am_cd 245 0 = (1, 1, 0, 0, []) by decide +kernel) ?_
  refine e_stl (la2 := [rA 67, (0, g), (0, al), (0, j), (0, a), (0, b), (0, c), (1, 0), (9, 0), (9, 0)]) (show am_cd 245 1 = (3, 3, 7, 1, []) by decide +kernel) rfl ?_
  refine e_ic (show am_cd 245 3 = (0, 4, 0, 0, []) by decide +kernel) ?_
  refine e_sti (la2 := [rA 67, (0, g), (0, al), (0, j), (0, a), (0, b), (0, c), (1, 0), (9, 0), (0, 0)]) (show am_cd 245 4 = (3, 6, 9, 0, []) by decide +kernel) rfl ?_
  exact h

theorem g_next1 {d : Nat} {Q : Option aV → aS → Prop} {w : eW} {t : eT} {g al j a b c sum i : Int} {m : eW} {ll : Nat → Int} {nl : Nat} {D : Int → Option Int} {wo : Int} {J : aV} (hw : w32 wo = wo) {PRW : Int → Int → Int → Int → Int → Int → Int → eW → eT → Prop} {POW : Int → Int → Int → Int → Int → Int → Int → eW → eT → Int → eW → eT → Prop} (hrW : ∀ (a1 a2 a3 a4 a5 a6 a7 : Int) (w : eW) (t : eT), PRW a1 a2 a3 a4 a5 a6 a7 w t → Cl (d + 5) 241 [rA 67, (0, a1), (0, a2), (0, a3), (0, a4), (0, a5), (0, a6), (0, a7)] (enc w t) (fun r S2 => ∃ x w2 t2, r = some (1, x) ∧ S2 = enc w2 t2 ∧ POW a1 a2 a3 a4 a5 a6 a7 w t x w2 t2)) (h : ((w32 (w 67 12) ≤ w32 i → Q (some (1, sum)) (enc w t)) ∧ (¬ (w32 (w 67 12) ≤ w32 i) → (0 ≤ w32 i ∧ w32 i < 16) ∧ ((¬ w32 (w 77 (w32 i).toNat) = w32 g → Ev (d + 6) 245 Q 6 [rA 67, (0, g), (0, al), (0, j), (0, a), (0, b), (0, c), (1, sum), (9, 0), (0, i + 1)] [] (enc w t)) ∧ (¬ (¬ w32 (w 77 (w32 i).toNat) = w32 g) → (0 ≤ w32 i ∧ w32 i < 16) ∧ ((w32 6 < w32 (al + (w 79 (w32 i).toNat)) → Ev (d + 6) 245 Q 6 [rA 67, (0, g), (0, al), (0, j), (0, a), (0, b), (0, c), (1, sum), (9, 0), (0, i + 1)] [] (enc w t)) ∧ (¬ (w32 6 < w32 (al + (w 79 (w32 i).toNat))) → (0 ≤ w32 i ∧ w32 i < 16) ∧ (PRW i 0 (al + (w 79 (w32 i).toNat)) j a b c w t) ∧ (∀ x1 w2 t3, (POW i 0 (al + (w 79 (w32 i).toNat)) j a b c w t x1 w2 t3) → Ev (d + 6) 245 Q 6 [rA 67, (0, g), (0, al), (0, j), (0, a), (0, b), (0, c), (1, sum + x1), (9, 0), (0, i + 1)] [] (enc w2 t3))))))))) : Ev (d + 6) 245 Q 6 [rA 67, (0, g), (0, al), (0, j), (0, a), (0, b), (0, c), (1, sum), (9, 0), (0, i)] [] (enc w t) := by
  refine e_ldi (show am_cd 245 6 = (2, 8, 9, 0, []) by decide +kernel) rfl ?_
  refine e_lda (v := 67) (show am_cd 245 8 = (2, 9, 0, 2, []) by decide +kernel) rfl ?_
  refine e_getf (a := 67) (tg := 0) (show am_cd 245 9 = (18, 12, 1212, 0, [186]) by decide +kernel) (by decide +kernel) (by decide +kernel) rfl ?_
  refine e_cmp3 (show am_cd 245 12 = (11, 15, 74, 3, []) by decide +kernel) (fun hc => ?_) (fun hc => ?_)
  · replace h := h.1 hc
    refine e_ldl (show am_cd 245 74 = (2, 76, 7, 1, []) by decide +kernel) rfl ?_
    exact e_retl (show am_cd 245 76 = (36, 77, 1, 0, []) by decide +kernel) (by decide +kernel) h
  · replace h := h.2 hc
    refine e_lda (v := 67) (show am_cd 245 15 = (2, 16, 0, 2, []) by decide +kernel) rfl ?_
    refine e_getr (a := 67) (r := 77) (show am_cd 245 16 = (18, 19, 1213, 2, [37]) by decide +kernel) (by decide +kernel) (by decide +kernel) rfl ?_
    refine e_ldi (show am_cd 245 19 = (2, 21, 9, 0, []) by decide +kernel) rfl ?_
    refine e_iald (a := 77) (n := 16) (show am_cd 245 21 = (21, 22, 0, 0, []) by decide +kernel) (by decide +kernel) (by decide +kernel) (by decide +kernel) h.1 ?_
    replace h := h.2
    refine e_ldi (show am_cd 245 22 = (2, 23, 1, 0, []) by decide +kernel) rfl ?_
    refine e_cmp1 (show am_cd 245 23 = (11, 26, 68, 1, []) by decide +kernel) (fun hc => ?_) (fun hc => ?_)
    · replace h := h.1 hc
      refine e_inc (la2 := [rA 67, (0, g), (0, al), (0, j), (0, a), (0, b), (0, c), (1, sum), (9, 0), (0, i + 1)]) (show am_cd 245 68 = (4, 71, 9, 1, []) by decide +kernel) rfl rfl ?_
      refine e_go (show am_cd 245 71 = (12, 6, 0, 0, []) by decide +kernel) ?_
      exact h
    · replace h := h.2 hc
      refine e_ldi (show am_cd 245 26 = (2, 27, 2, 0, []) by decide +kernel) rfl ?_
      refine e_lda (v := 67) (show am_cd 245 27 = (2, 28, 0, 2, []) by decide +kernel) rfl ?_
      refine e_getr (a := 67) (r := 79) (show am_cd 245 28 = (18, 31, 1215, 2, [43]) by decide +kernel) (by decide +kernel) (by decide +kernel) rfl ?_
      refine e_ldi (show am_cd 245 31 = (2, 33, 9, 0, []) by decide +kernel) rfl ?_
      refine e_iald (a := 79) (n := 16) (show am_cd 245 33 = (21, 34, 0, 0, []) by decide +kernel) (by decide +kernel) (by decide +kernel) (by decide +kernel) h.1 ?_
      replace h := h.2
      refine e_iadd (show am_cd 245 34 = (5, 35, 0, 0, []) by decide +kernel) ?_
      refine e_ic (show am_cd 245 35 = (0, 37, 1, 6, []) by decide +kernel) ?_
      refine e_cmp4 (show am_cd 245 37 = (11, 40, 68, 4, []) by decide +kernel) (fun hc => ?_) (fun hc => ?_)
      · replace h := h.1 hc
        refine e_inc (la2 := [rA 67, (0, g), (0, al), (0, j), (0, a), (0, b), (0, c), (1, sum), (9, 0), (0, i + 1)]) (show am_cd 245 68 = (4, 71, 9, 1, []) by decide +kernel) rfl rfl ?_
        refine e_go (show am_cd 245 71 = (12, 6, 0, 0, []) by decide +kernel) ?_
        exact h
      · replace h := h.2 hc
        refine e_ldl (show am_cd 245 40 = (2, 42, 7, 1, []) by decide +kernel) rfl ?_
        refine e_lda (v := 67) (show am_cd 245 42 = (2, 43, 0, 2, []) by decide +kernel) rfl ?_
        refine e_ldi (show am_cd 245 43 = (2, 45, 9, 0, []) by decide +kernel) rfl ?_
        refine e_ic (show am_cd 245 45 = (0, 46, 0, 0, []) by decide +kernel) ?_
        refine e_ldi (show am_cd 245 46 = (2, 47, 2, 0, []) by decide +kernel) rfl ?_
        refine e_lda (v := 67) (show am_cd 245 47 = (2, 48, 0, 2, []) by decide +kernel) rfl ?_
        refine e_getr (a := 67) (r := 79) (show am_cd 245 48 = (18, 51, 1215, 2, [43]) by decide +kernel) (by decide +kernel) (by decide +kernel) rfl ?_
        refine e_ldi (show am_cd 245 51 = (2, 53, 9, 0, []) by decide +kernel) rfl ?_
        refine e_iald (a := 79) (n := 16) (show am_cd 245 53 = (21, 54, 0, 0, []) by decide +kernel) (by decide +kernel) (by decide +kernel) (by decide +kernel) h.1 ?_
        replace h := h.2
        refine e_iadd (show am_cd 245 54 = (5, 55, 0, 0, []) by decide +kernel) ?_
        refine e_ldi (show am_cd 245 55 = (2, 56, 3, 0, []) by decide +kernel) rfl ?_
        refine e_ldi (show am_cd 245 56 = (2, 58, 4, 0, []) by decide +kernel) rfl ?_
        refine e_ldi (show am_cd 245 58 = (2, 60, 5, 0, []) by decide +kernel) rfl ?_
        refine e_ldi (show am_cd 245 60 = (2, 62, 6, 0, []) by decide +kernel) rfl ?_
        refine e_cV (z := 0) (a := 67) (as := [(0, i), (0, 0), (0, al + (w 79 (w32 i).toNat)), (0, j), (0, a), (0, b), (0, c)]) (rest := [(1, sum)]) (show am_cd 245 62 = (40, 65, 241, 0, [397]) by decide +kernel) (by decide +kernel) rfl rfl (Nat.le_of_ble_eq_true rfl) rfl ?_
        refine Cl.mono (Cl.up (hrW _ _ _ _ _ _ _ _ _ h.1) (by omega)) ?_
        rintro _ _ ⟨x1, w2, t3, rfl, rfl, hp⟩
        refine ⟨fun _ h9 => (by cases h9), ?_⟩
        replace h := h.2 x1 w2 t3 hp
        show Ev _ 245 _ 65 [rA 67, (0, g), (0, al), (0, j), (0, a), (0, b), (0, c), (1, sum), (9, 0), (0, i)] [(1, x1), (1, sum)] _
        refine e_ladd (show am_cd 245 65 = (6, 66, 0, 0, []) by decide +kernel) ?_
        refine e_stl (la2 := [rA 67, (0, g), (0, al), (0, j), (0, a), (0, b), (0, c), (1, sum + x1), (9, 0), (0, i)]) (show am_cd 245 66 = (3, 68, 7, 1, []) by decide +kernel) rfl ?_
        refine e_inc (la2 := [rA 67, (0, g), (0, al), (0, j), (0, a), (0, b), (0, c), (1, sum + x1), (9, 0), (0, i + 1)]) (show am_cd 245 68 = (4, 71, 9, 1, []) by decide +kernel) rfl rfl ?_
        refine e_go (show am_cd 245 71 = (12, 6, 0, 0, []) by decide +kernel) ?_
        exact h

theorem g_behind0 {d : Nat} {Q : Option aV → aS → Prop} {w : eW} {t : eT} {e dn al j a b c : Int} {m : eW} {ll : Nat → Int} {nl : Nat} {D : Int → Option Int} {wo : Int} {J : aV} (hw : w32 wo = wo) {PRW : Int → Int → Int → Int → Int → Int → Int → eW → eT → Prop} {POW : Int → Int → Int → Int → Int → Int → Int → eW → eT → Int → eW → eT → Prop} (hrW : ∀ (a1 a2 a3 a4 a5 a6 a7 : Int) (w : eW) (t : eT), PRW a1 a2 a3 a4 a5 a6 a7 w t → Cl (d + 5) 241 [rA 67, (0, a1), (0, a2), (0, a3), (0, a4), (0, a5), (0, a6), (0, a7)] (enc w t) (fun r S2 => ∃ x w2 t2, r = some (1, x) ∧ S2 = enc w2 t2 ∧ POW a1 a2 a3 a4 a5 a6 a7 w t x w2 t2)) {PRN : Int → Int → Int → Int → Int → Int → eW → eT → Prop} {PON : Int → Int → Int → Int → Int → Int → eW → eT → Int → eW → eT → Prop} (hrN : ∀ (a1 a2 a3 a4 a5 a6 : Int) (w : eW) (t : eT), PRN a1 a2 a3 a4 a5 a6 w t → Cl (d + 6) 245 [rA 67, (0, a1), (0, a2), (0, a3), (0, a4), (0, a5), (0, a6)] (enc w t) (fun r S2 => ∃ x w2 t2, r = some (1, x) ∧ S2 = enc w2 t2 ∧ PON a1 a2 a3 a4 a5 a6 w t x w2 t2)) (h : (0 ≤ w32 e ∧ w32 e < 16) ∧ ((w32 (w 79 (w32 e).toNat) ≤ w32 dn → (0 ≤ w32 e ∧ w32 e < 16) ∧ ((w32 (w 78 (w32 e).toNat) = w32 (-1) → ((¬ w32 j = w32 (w 67 48) → Ev (d + 7) 243 Q 88 [rA 67, (0, e), (0, dn), (0, al), (0, j), (0, a), (0, b), (0, c), (1, 0), (9, 0), (0, 0)] [] (enc w t)) ∧ (¬ (¬ w32 j = w32 (w 67 48)) → (MG w m ∧ w 67 35 = wo ∧ gE a ∧ gE b ∧ gC m c) ∧ (((isE m wo a.toNat b.toNat c.toNat) = false → Ev (d + 7) 243 Q 88 [rA 67, (0, e), (0, dn), (0, al), (0, j), (0, a), (0, b), (0, c), (1, 0), (9, 0), (0, 0)] [] (enc w t)) ∧ ((isE m wo a.toNat b.toNat c.toNat) = true → Ev (d + 7) 243 Q 88 [rA 67, (0, e), (0, dn), (0, al), (0, j), (0, a), (0, b), (0, c), (1, 1), (9, 0), (0, 0)] [] (enc w t)))))) ∧ (¬ (w32 (w 78 (w32 e).toNat) = w32 (-1)) → (0 ≤ w32 e ∧ w32 e < 16) ∧ (PRN (w 78 (w32 e).toNat) al j a b c w t) ∧ (∀ x1 w2 t3, (PON (w 78 (w32 e).toNat) al j a b c w t x1 w2 t3) → Q (some (1, x1)) (enc w2 t3))))) ∧ (¬ (w32 (w 79 (w32 e).toNat) ≤ w32 dn) → (PRW e dn al j a b c w t) ∧ (∀ x4 w5 t6, (POW e dn al j a b c w t x4 w5 t6) → Q (some (1, x4)) (enc w5 t6))))) : Cl (d + 7) 243 [rA 67, (0, e), (0, dn), (0, al), (0, j), (0, a), (0, b), (0, c)] (enc w t) Q := by
  show Ev (d + 7) 243 Q 0 [rA 67, (0, e), (0, dn), (0, al), (0, j), (0, a), (0, b), (0, c), (9, 0), (9, 0), (9, 0)] [] (enc w t)
  refine e_ldi (show am_cd 243 0 = (2, 1, 2, 0, []) by decide +kernel) rfl ?_
  refine e_lda (v := 67) (show am_cd 243 1 = (2, 2, 0, 2, []) by decide +kernel) rfl ?_
  refine e_getr (a := 67) (r := 79) (show am_cd 243 2 = (18, 5, 1215, 2, [43]) by decide +kernel) (by decide +kernel) (by decide +kernel) rfl ?_
  refine e_ldi (show am_cd 243 5 = (2, 6, 1, 0, []) by decide +kernel) rfl ?_
  refine e_iald (a := 79) (n := 16) (show am_cd 243 6 = (21, 7, 0, 0, []) by decide +kernel) (by decide +kernel) (by decide +kernel) (by decide +kernel) h.1 ?_
  replace h := h.2
  refine e_cmp3 (show am_cd 243 7 = (11, 10, 26, 3, []) by decide +kernel) (fun hc => ?_) (fun hc => ?_)
  · replace h := h.1 hc
    refine e_lda (v := 67) (show am_cd 243 26 = (2, 27, 0, 2, []) by decide +kernel) rfl ?_
    refine e_getr (a := 67) (r := 78) (show am_cd 243 27 = (18, 30, 1214, 2, [40]) by decide +kernel) (by decide +kernel) (by decide +kernel) rfl ?_
    refine e_ldi (show am_cd 243 30 = (2, 31, 1, 0, []) by decide +kernel) rfl ?_
    refine e_iald (a := 78) (n := 16) (show am_cd 243 31 = (21, 32, 0, 0, []) by decide +kernel) (by decide +kernel) (by decide +kernel) (by decide +kernel) h.1 ?_
    replace h := h.2
    refine e_ic (show am_cd 243 32 = (0, 33, 0, -1, []) by decide +kernel) ?_
    refine e_cmp0 (show am_cd 243 33 = (11, 36, 56, 0, []) by decide +kernel) (fun hc => ?_) (fun hc => ?_)
    · replace h := h.1 hc
      refine e_ldi (show am_cd 243 56 = (2, 58, 4, 0, []) by decide +kernel) rfl ?_
      refine e_lda (v := 67) (show am_cd 243 58 = (2, 59, 0, 2, []) by decide +kernel) rfl ?_
      refine e_getf (a := 67) (tg := 0) (show am_cd 243 59 = (18, 62, 1248, 0, [348]) by decide +kernel) (by decide +kernel) (by decide +kernel) rfl ?_
      refine e_cmp1 (show am_cd 243 62 = (11, 65, 82, 1, []) by decide +kernel) (fun hc => ?_) (fun hc => ?_)
      · replace h := h.1 hc
        refine e_lc (show am_cd 243 82 = (1, 83, 0, 0, []) by decide +kernel) ?_
        refine e_stl (la2 := [rA 67, (0, e), (0, dn), (0, al), (0, j), (0, a), (0, b), (0, c), (1, 0), (9, 0), (9, 0)]) (show am_cd 243 83 = (3, 85, 8, 1, []) by decide +kernel) rfl ?_
        refine e_ic (show am_cd 243 85 = (0, 86, 0, 0, []) by decide +kernel) ?_
        refine e_sti (la2 := [rA 67, (0, e), (0, dn), (0, al), (0, j), (0, a), (0, b), (0, c), (1, 0), (9, 0), (0, 0)]) (show am_cd 243 86 = (3, 88, 10, 0, []) by decide +kernel) rfl ?_
        exact h
      · replace h := h.2 hc
        refine e_lda (v := 67) (show am_cd 243 65 = (2, 66, 0, 2, []) by decide +kernel) rfl ?_
        refine e_ldi (show am_cd 243 66 = (2, 68, 5, 0, []) by decide +kernel) rfl ?_
        refine e_ldi (show am_cd 243 68 = (2, 70, 6, 0, []) by decide +kernel) rfl ?_
        refine e_ldi (show am_cd 243 70 = (2, 72, 7, 0, []) by decide +kernel) rfl ?_
        refine e_cV (z := 0) (a := 67) (as := [(0, a), (0, b), (0, c)]) (rest := []) (show am_cd 243 72 = (40, 75, 211, 0, [285]) by decide +kernel) (by decide +kernel) rfl rfl (Nat.le_of_ble_eq_true rfl) rfl ?_
        refine Cl.mono (Cl.up (c_isEnd (hw := hw) (d := d) h.1) (by omega)) ?_
        rintro _ _ ⟨rfl, rfl⟩
        refine ⟨fun _ h9 => (by cases h9), ?_⟩
        replace h := h.2
        show Ev _ 243 _ 75 [rA 67, (0, e), (0, dn), (0, al), (0, j), (0, a), (0, b), (0, c), (9, 0), (9, 0), (9, 0)] [(0, bI (isE m wo a.toNat b.toNat c.toNat))] _
        refine e_ifb0 (show am_cd 243 75 = (10, 78, 82, 0, []) by decide +kernel) (fun hc => ?_) (fun hc => ?_)
        · replace h := h.1 hc
          refine e_lc (show am_cd 243 82 = (1, 83, 0, 0, []) by decide +kernel) ?_
          refine e_stl (la2 := [rA 67, (0, e), (0, dn), (0, al), (0, j), (0, a), (0, b), (0, c), (1, 0), (9, 0), (9, 0)]) (show am_cd 243 83 = (3, 85, 8, 1, []) by decide +kernel) rfl ?_
          refine e_ic (show am_cd 243 85 = (0, 86, 0, 0, []) by decide +kernel) ?_
          refine e_sti (la2 := [rA 67, (0, e), (0, dn), (0, al), (0, j), (0, a), (0, b), (0, c), (1, 0), (9, 0), (0, 0)]) (show am_cd 243 86 = (3, 88, 10, 0, []) by decide +kernel) rfl ?_
          exact h
        · replace h := h.2 hc
          refine e_lc (show am_cd 243 78 = (1, 79, 0, 1, []) by decide +kernel) ?_
          refine e_go (show am_cd 243 79 = (12, 83, 0, 0, []) by decide +kernel) ?_
          refine e_stl (la2 := [rA 67, (0, e), (0, dn), (0, al), (0, j), (0, a), (0, b), (0, c), (1, 1), (9, 0), (9, 0)]) (show am_cd 243 83 = (3, 85, 8, 1, []) by decide +kernel) rfl ?_
          refine e_ic (show am_cd 243 85 = (0, 86, 0, 0, []) by decide +kernel) ?_
          refine e_sti (la2 := [rA 67, (0, e), (0, dn), (0, al), (0, j), (0, a), (0, b), (0, c), (1, 1), (9, 0), (0, 0)]) (show am_cd 243 86 = (3, 88, 10, 0, []) by decide +kernel) rfl ?_
          exact h
    · replace h := h.2 hc
      refine e_lda (v := 67) (show am_cd 243 36 = (2, 37, 0, 2, []) by decide +kernel) rfl ?_
      refine e_lda (v := 67) (show am_cd 243 37 = (2, 38, 0, 2, []) by decide +kernel) rfl ?_
      refine e_getr (a := 67) (r := 78) (show am_cd 243 38 = (18, 41, 1214, 2, [40]) by decide +kernel) (by decide +kernel) (by decide +kernel) rfl ?_
      refine e_ldi (show am_cd 243 41 = (2, 42, 1, 0, []) by decide +kernel) rfl ?_
      refine e_iald (a := 78) (n := 16) (show am_cd 243 42 = (21, 43, 0, 0, []) by decide +kernel) (by decide +kernel) (by decide +kernel) (by decide +kernel) h.1 ?_
      replace h := h.2
      refine e_ldi (show am_cd 243 43 = (2, 44, 3, 0, []) by decide +kernel) rfl ?_
      refine e_ldi (show am_cd 243 44 = (2, 46, 4, 0, []) by decide +kernel) rfl ?_
      refine e_ldi (show am_cd 243 46 = (2, 48, 5, 0, []) by decide +kernel) rfl ?_
      refine e_ldi (show am_cd 243 48 = (2, 50, 6, 0, []) by decide +kernel) rfl ?_
      refine e_ldi (show am_cd 243 50 = (2, 52, 7, 0, []) by decide +kernel) rfl ?_
      refine e_cV (z := 0) (a := 67) (as := [(0, w 78 (w32 e).toNat), (0, al), (0, j), (0, a), (0, b), (0, c)]) (rest := []) (show am_cd 243 52 = (40, 55, 245, 0, [400]) by decide +kernel) (by decide +kernel) rfl rfl (Nat.le_of_ble_eq_true rfl) rfl ?_
      refine Cl.mono (Cl.up (hrN _ _ _ _ _ _ _ _ h.1) (by omega)) ?_
      rintro _ _ ⟨x1, w2, t3, rfl, rfl, hp⟩
      refine ⟨fun _ h9 => (by cases h9), ?_⟩
      replace h := h.2 x1 w2 t3 hp
      show Ev _ 243 _ 55 [rA 67, (0, e), (0, dn), (0, al), (0, j), (0, a), (0, b), (0, c), (9, 0), (9, 0), (9, 0)] [(1, x1)] _
      exact e_retl (show am_cd 243 55 = (36, 56, 1, 0, []) by decide +kernel) (by decide +kernel) h
  · replace h := h.2 hc
    refine e_lda (v := 67) (show am_cd 243 10 = (2, 11, 0, 2, []) by decide +kernel) rfl ?_
    refine e_ldi (show am_cd 243 11 = (2, 12, 1, 0, []) by decide +kernel) rfl ?_
    refine e_ldi (show am_cd 243 12 = (2, 13, 2, 0, []) by decide +kernel) rfl ?_
    refine e_ldi (show am_cd 243 13 = (2, 14, 3, 0, []) by decide +kernel) rfl ?_
    refine e_ldi (show am_cd 243 14 = (2, 16, 4, 0, []) by decide +kernel) rfl ?_
    refine e_ldi (show am_cd 243 16 = (2, 18, 5, 0, []) by decide +kernel) rfl ?_
    refine e_ldi (show am_cd 243 18 = (2, 20, 6, 0, []) by decide +kernel) rfl ?_
    refine e_ldi (show am_cd 243 20 = (2, 22, 7, 0, []) by decide +kernel) rfl ?_
    refine e_cV (z := 0) (a := 67) (as := [(0, e), (0, dn), (0, al), (0, j), (0, a), (0, b), (0, c)]) (rest := []) (show am_cd 243 22 = (40, 25, 241, 0, [397]) by decide +kernel) (by decide +kernel) rfl rfl (Nat.le_of_ble_eq_true rfl) rfl ?_
    refine Cl.mono (Cl.up (hrW _ _ _ _ _ _ _ _ _ h.1) (by omega)) ?_
    rintro _ _ ⟨x4, w5, t6, rfl, rfl, hp⟩
    refine ⟨fun _ h9 => (by cases h9), ?_⟩
    replace h := h.2 x4 w5 t6 hp
    show Ev _ 243 _ 25 [rA 67, (0, e), (0, dn), (0, al), (0, j), (0, a), (0, b), (0, c), (9, 0), (9, 0), (9, 0)] [(1, x4)] _
    exact e_retl (show am_cd 243 25 = (36, 26, 1, 0, []) by decide +kernel) (by decide +kernel) h

theorem g_behind1 {d : Nat} {Q : Option aV → aS → Prop} {w : eW} {t : eT} {e dn al j a b c sum i : Int} {m : eW} {ll : Nat → Int} {nl : Nat} {D : Int → Option Int} {wo : Int} {J : aV} (hw : w32 wo = wo) (h : ((w32 (w 67 0) ≤ w32 i → Q (some (1, sum)) (enc w t)) ∧ (¬ (w32 (w 67 0) ≤ w32 i) → (MX w m ∧ w 67 35 = -1 ∧ LoM w ll nl ∧ (0 ≤ j ∧ j ≤ nl) ∧ gE a ∧ gE b ∧ gC m c ∧ gP m i) ∧ (((isLs m ll nl j.toNat a.toNat b.toNat c.toNat i.toNat) = false → Ev (d + 7) 243 Q 88 [rA 67, (0, e), (0, dn), (0, al), (0, j), (0, a), (0, b), (0, c), (1, sum + 0), (9, 0), (0, i + 1)] [] (enc w t)) ∧ ((isLs m ll nl j.toNat a.toNat b.toNat c.toNat i.toNat) = true → Ev (d + 7) 243 Q 88 [rA 67, (0, e), (0, dn), (0, al), (0, j), (0, a), (0, b), (0, c), (1, sum + 1), (9, 0), (0, i + 1)] [] (enc w t)))))) : Ev (d + 7) 243 Q 88 [rA 67, (0, e), (0, dn), (0, al), (0, j), (0, a), (0, b), (0, c), (1, sum), (9, 0), (0, i)] [] (enc w t) := by
  refine e_ldi (show am_cd 243 88 = (2, 90, 10, 0, []) by decide +kernel) rfl ?_
  refine e_lda (v := 67) (show am_cd 243 90 = (2, 91, 0, 2, []) by decide +kernel) rfl ?_
  refine e_getf (a := 67) (tg := 0) (show am_cd 243 91 = (18, 94, 1200, 0, [168]) by decide +kernel) (by decide +kernel) (by decide +kernel) rfl ?_
  refine e_cmp3 (show am_cd 243 94 = (11, 97, 130, 3, []) by decide +kernel) (fun hc => ?_) (fun hc => ?_)
  · replace h := h.1 hc
    refine e_ldl (show am_cd 243 130 = (2, 132, 8, 1, []) by decide +kernel) rfl ?_
    exact e_retl (show am_cd 243 132 = (36, 133, 1, 0, []) by decide +kernel) (by decide +kernel) h
  · replace h := h.2 hc
    refine e_ldl (show am_cd 243 97 = (2, 99, 8, 1, []) by decide +kernel) rfl ?_
    refine e_lda (v := 67) (show am_cd 243 99 = (2, 100, 0, 2, []) by decide +kernel) rfl ?_
    refine e_ldi (show am_cd 243 100 = (2, 102, 4, 0, []) by decide +kernel) rfl ?_
    refine e_ldi (show am_cd 243 102 = (2, 104, 5, 0, []) by decide +kernel) rfl ?_
    refine e_ldi (show am_cd 243 104 = (2, 106, 6, 0, []) by decide +kernel) rfl ?_
    refine e_ldi (show am_cd 243 106 = (2, 108, 7, 0, []) by decide +kernel) rfl ?_
    refine e_ldi (show am_cd 243 108 = (2, 110, 10, 0, []) by decide +kernel) rfl ?_
    refine e_cV (z := 0) (a := 67) (as := [(0, j), (0, a), (0, b), (0, c), (0, i)]) (rest := [(1, sum)]) (show am_cd 243 110 = (40, 113, 244, 0, [404]) by decide +kernel) (by decide +kernel) rfl rfl (Nat.le_of_ble_eq_true rfl) rfl ?_
    refine Cl.mono (Cl.up (c_isLast (d := d) h.1) (by omega)) ?_
    rintro _ _ ⟨rfl, rfl⟩
    refine ⟨fun _ h9 => (by cases h9), ?_⟩
    replace h := h.2
    show Ev _ 243 _ 113 [rA 67, (0, e), (0, dn), (0, al), (0, j), (0, a), (0, b), (0, c), (1, sum), (9, 0), (0, i)] [(0, bI (isLs m ll nl j.toNat a.toNat b.toNat c.toNat i.toNat)), (1, sum)] _
    refine e_ifb0 (show am_cd 243 113 = (10, 116, 120, 0, []) by decide +kernel) (fun hc => ?_) (fun hc => ?_)
    · replace h := h.1 hc
      refine e_lc (show am_cd 243 120 = (1, 121, 0, 0, []) by decide +kernel) ?_
      refine e_ladd (show am_cd 243 121 = (6, 122, 0, 0, []) by decide +kernel) ?_
      refine e_stl (la2 := [rA 67, (0, e), (0, dn), (0, al), (0, j), (0, a), (0, b), (0, c), (1, sum + 0), (9, 0), (0, i)]) (show am_cd 243 122 = (3, 124, 8, 1, []) by decide +kernel) rfl ?_
      refine e_inc (la2 := [rA 67, (0, e), (0, dn), (0, al), (0, j), (0, a), (0, b), (0, c), (1, sum + 0), (9, 0), (0, i + 1)]) (show am_cd 243 124 = (4, 127, 10, 1, []) by decide +kernel) rfl rfl ?_
      refine e_go (show am_cd 243 127 = (12, 88, 0, 0, []) by decide +kernel) ?_
      exact h
    · replace h := h.2 hc
      refine e_lc (show am_cd 243 116 = (1, 117, 0, 1, []) by decide +kernel) ?_
      refine e_go (show am_cd 243 117 = (12, 121, 0, 0, []) by decide +kernel) ?_
      refine e_ladd (show am_cd 243 121 = (6, 122, 0, 0, []) by decide +kernel) ?_
      refine e_stl (la2 := [rA 67, (0, e), (0, dn), (0, al), (0, j), (0, a), (0, b), (0, c), (1, sum + 1), (9, 0), (0, i)]) (show am_cd 243 122 = (3, 124, 8, 1, []) by decide +kernel) rfl ?_
      refine e_inc (la2 := [rA 67, (0, e), (0, dn), (0, al), (0, j), (0, a), (0, b), (0, c), (1, sum + 1), (9, 0), (0, i + 1)]) (show am_cd 243 124 = (4, 127, 10, 1, []) by decide +kernel) rfl rfl ?_
      refine e_go (show am_cd 243 127 = (12, 88, 0, 0, []) by decide +kernel) ?_
      exact h

theorem g_within0 {d : Nat} {Q : Option aV → aS → Prop} {w : eW} {t : eT} {e dn al j a b c : Int} {m : eW} {ll : Nat → Int} {nl : Nat} {D : Int → Option Int} {wo : Int} {J : aV} (hw : w32 wo = wo) (h : (DV w D ∧ 0 ≤ (((((((e * 8) + dn) * 8) + al) * 8) + j) * 8192) + ((((a * 17) + b) * 17) + c) ∧ (((((((e * 8) + dn) * 8) + al) * 8) + j) * 8192) + ((((a * 17) + b) * 17) + c) ≤ 2147483647) ∧ ((((D ((((((((e * 8) + dn) * 8) + al) * 8) + j) * 8192) + ((((a * 17) + b) * 17) + c))).isSome) = false → Ev (d + 8) 241 Q 55 [rA 67, (0, e), (0, dn), (0, al), (0, j), (0, a), (0, b), (0, c), (0, (((((((e * 8) + dn) * 8) + al) * 8) + j) * 8192) + ((((a * 17) + b) * 17) + c)), (1, 0), (9, 0), (0, 0), (9, 0)] [] (enc w t)) ∧ (((D ((((((((e * 8) + dn) * 8) + al) * 8) + j) * 8192) + ((((a * 17) + b) * 17) + c))).isSome) = true → (DV w D ∧ (0 ≤ (((((((e * 8) + dn) * 8) + al) * 8) + j) * 8192) + ((((a * 17) + b) * 17) + c) ∧ (((((((e * 8) + dn) * 8) + al) * 8) + j) * 8192) + ((((a * 17) + b) * 17) + c) ≤ 2147483647) ∧ (D ((((((((e * 8) + dn) * 8) + al) * 8) + j) * 8192) + ((((a * 17) + b) * 17) + c))).isSome = true) ∧ (Q (some (1, (D ((((((((e * 8) + dn) * 8) + al) * 8) + j) * 8192) + ((((a * 17) + b) * 17) + c))).getD 0)) (enc w t))))) : Cl (d + 8) 241 [rA 67, (0, e), (0, dn), (0, al), (0, j), (0, a), (0, b), (0, c)] (enc w t) Q := by
  show Ev (d + 8) 241 Q 0 [rA 67, (0, e), (0, dn), (0, al), (0, j), (0, a), (0, b), (0, c), (9, 0), (9, 0), (9, 0), (9, 0), (9, 0)] [] (enc w t)
  refine e_ldi (show am_cd 241 0 = (2, 1, 1, 0, []) by decide +kernel) rfl ?_
  refine e_ic (show am_cd 241 1 = (0, 3, 1, 8, []) by decide +kernel) ?_
  refine e_imul (show am_cd 241 3 = (5, 4, 2, 0, []) by decide +kernel) ?_
  refine e_ldi (show am_cd 241 4 = (2, 5, 2, 0, []) by decide +kernel) rfl ?_
  refine e_iadd (show am_cd 241 5 = (5, 6, 0, 0, []) by decide +kernel) ?_
  refine e_ic (show am_cd 241 6 = (0, 8, 1, 8, []) by decide +kernel) ?_
  refine e_imul (show am_cd 241 8 = (5, 9, 2, 0, []) by decide +kernel) ?_
  refine e_ldi (show am_cd 241 9 = (2, 10, 3, 0, []) by decide +kernel) rfl ?_
  refine e_iadd (show am_cd 241 10 = (5, 11, 0, 0, []) by decide +kernel) ?_
  refine e_ic (show am_cd 241 11 = (0, 13, 1, 8, []) by decide +kernel) ?_
  refine e_imul (show am_cd 241 13 = (5, 14, 2, 0, []) by decide +kernel) ?_
  refine e_ldi (show am_cd 241 14 = (2, 16, 4, 0, []) by decide +kernel) rfl ?_
  refine e_iadd (show am_cd 241 16 = (5, 17, 0, 0, []) by decide +kernel) ?_
  refine e_ic (show am_cd 241 17 = (0, 20, 2, 8192, []) by decide +kernel) ?_
  refine e_imul (show am_cd 241 20 = (5, 21, 2, 0, []) by decide +kernel) ?_
  refine e_ldi (show am_cd 241 21 = (2, 23, 5, 0, []) by decide +kernel) rfl ?_
  refine e_ldi (show am_cd 241 23 = (2, 25, 6, 0, []) by decide +kernel) rfl ?_
  refine e_ldi (show am_cd 241 25 = (2, 27, 7, 0, []) by decide +kernel) rfl ?_
  refine e_cS (z := 0) (as := [(0, a), (0, b), (0, c)]) (rest := [(0, ((((((e * 8) + dn) * 8) + al) * 8) + j) * 8192)]) (show am_cd 241 27 = (40, 30, 209, 1, [278]) by decide +kernel) (by decide) rfl rfl (Nat.le_of_ble_eq_true rfl) rfl ?_
  show Ev _ 209 _ 0 [(0, a), (0, b), (0, c)] [] _
  refine e_ldi (show am_cd 209 0 = (2, 1, 0, 0, []) by decide +kernel) rfl ?_
  refine e_ic (show am_cd 209 1 = (0, 3, 1, 17, []) by decide +kernel) ?_
  refine e_imul (show am_cd 209 3 = (5, 4, 2, 0, []) by decide +kernel) ?_
  refine e_ldi (show am_cd 209 4 = (2, 5, 1, 0, []) by decide +kernel) rfl ?_
  refine e_iadd (show am_cd 209 5 = (5, 6, 0, 0, []) by decide +kernel) ?_
  refine e_ic (show am_cd 209 6 = (0, 8, 1, 17, []) by decide +kernel) ?_
  refine e_imul (show am_cd 209 8 = (5, 9, 2, 0, []) by decide +kernel) ?_
  refine e_ldi (show am_cd 209 9 = (2, 10, 2, 0, []) by decide +kernel) rfl ?_
  refine e_iadd (show am_cd 209 10 = (5, 11, 0, 0, []) by decide +kernel) ?_
  refine e_reti (show am_cd 209 11 = (36, 12, 0, 0, []) by decide +kernel) (by decide +kernel) ⟨fun _ h9 => (by cases h9), ?_⟩
  show Ev _ 241 _ 30 [rA 67, (0, e), (0, dn), (0, al), (0, j), (0, a), (0, b), (0, c), (9, 0), (9, 0), (9, 0), (9, 0), (9, 0)] [(0, (((a * 17) + b) * 17) + c), (0, ((((((e * 8) + dn) * 8) + al) * 8) + j) * 8192)] _
  refine e_iadd (show am_cd 241 30 = (5, 31, 0, 0, []) by decide +kernel) ?_
  refine e_sti (la2 := [rA 67, (0, e), (0, dn), (0, al), (0, j), (0, a), (0, b), (0, c), (0, (((((((e * 8) + dn) * 8) + al) * 8) + j) * 8192) + ((((a * 17) + b) * 17) + c)), (9, 0), (9, 0), (9, 0), (9, 0)]) (show am_cd 241 31 = (3, 33, 8, 0, []) by decide +kernel) rfl ?_
  refine e_lda (v := 67) (show am_cd 241 33 = (2, 34, 0, 2, []) by decide +kernel) rfl ?_
  refine e_ldi (show am_cd 241 34 = (2, 36, 8, 0, []) by decide +kernel) rfl ?_
  refine e_cV (z := 0) (a := 67) (as := [(0, (((((((e * 8) + dn) * 8) + al) * 8) + j) * 8192) + ((((a * 17) + b) * 17) + c))]) (rest := []) (show am_cd 241 36 = (40, 39, 205, 0, [295]) by decide +kernel) (by decide +kernel) rfl rfl (Nat.le_of_ble_eq_true rfl) rfl ?_
  refine Cl.mono (Cl.up (c_isKnown (d := d) h.1) (by omega)) ?_
  rintro _ _ ⟨rfl, rfl⟩
  refine ⟨fun _ h9 => (by cases h9), ?_⟩
  replace h := h.2
  show Ev _ 241 _ 39 [rA 67, (0, e), (0, dn), (0, al), (0, j), (0, a), (0, b), (0, c), (0, (((((((e * 8) + dn) * 8) + al) * 8) + j) * 8192) + ((((a * 17) + b) * 17) + c)), (9, 0), (9, 0), (9, 0), (9, 0)] [(0, bI ((D ((((((((e * 8) + dn) * 8) + al) * 8) + j) * 8192) + ((((a * 17) + b) * 17) + c))).isSome))] _
  refine e_ifb0 (show am_cd 241 39 = (10, 42, 49, 0, []) by decide +kernel) (fun hc => ?_) (fun hc => ?_)
  · replace h := h.1 hc
    refine e_lc (show am_cd 241 49 = (1, 50, 0, 0, []) by decide +kernel) ?_
    refine e_stl (la2 := [rA 67, (0, e), (0, dn), (0, al), (0, j), (0, a), (0, b), (0, c), (0, (((((((e * 8) + dn) * 8) + al) * 8) + j) * 8192) + ((((a * 17) + b) * 17) + c)), (1, 0), (9, 0), (9, 0), (9, 0)]) (show am_cd 241 50 = (3, 52, 9, 1, []) by decide +kernel) rfl ?_
    refine e_ic (show am_cd 241 52 = (0, 53, 0, 0, []) by decide +kernel) ?_
    refine e_sti (la2 := [rA 67, (0, e), (0, dn), (0, al), (0, j), (0, a), (0, b), (0, c), (0, (((((((e * 8) + dn) * 8) + al) * 8) + j) * 8192) + ((((a * 17) + b) * 17) + c)), (1, 0), (9, 0), (0, 0), (9, 0)]) (show am_cd 241 53 = (3, 55, 11, 0, []) by decide +kernel) rfl ?_
    exact h
  · replace h := h.2 hc
    refine e_lda (v := 67) (show am_cd 241 42 = (2, 43, 0, 2, []) by decide +kernel) rfl ?_
    refine e_ldi (show am_cd 241 43 = (2, 45, 8, 0, []) by decide +kernel) rfl ?_
    refine e_cV (z := 0) (a := 67) (as := [(0, (((((((e * 8) + dn) * 8) + al) * 8) + j) * 8192) + ((((a * 17) + b) * 17) + c))]) (rest := []) (show am_cd 241 45 = (40, 48, 206, 0, [298]) by decide +kernel) (by decide +kernel) rfl rfl (Nat.le_of_ble_eq_true rfl) rfl ?_
    refine Cl.mono (Cl.up (c_knownD (d := d) h.1) (by omega)) ?_
    rintro _ _ ⟨rfl, rfl⟩
    refine ⟨fun _ h9 => (by cases h9), ?_⟩
    replace h := h.2
    show Ev _ 241 _ 48 [rA 67, (0, e), (0, dn), (0, al), (0, j), (0, a), (0, b), (0, c), (0, (((((((e * 8) + dn) * 8) + al) * 8) + j) * 8192) + ((((a * 17) + b) * 17) + c)), (9, 0), (9, 0), (9, 0), (9, 0)] [(1, (D ((((((((e * 8) + dn) * 8) + al) * 8) + j) * 8192) + ((((a * 17) + b) * 17) + c))).getD 0)] _
    exact e_retl (show am_cd 241 48 = (36, 49, 1, 0, []) by decide +kernel) (by decide +kernel) h

theorem g_within1 {d : Nat} {Q : Option aV → aS → Prop} {w : eW} {t : eT} {e dn al j a b c key sum i : Int} {m : eW} {ll : Nat → Int} {nl : Nat} {D : Int → Option Int} {wo : Int} {J : aV} (hw : w32 wo = wo) {PRB : Int → Int → Int → Int → Int → Int → Int → eW → eT → Prop} {POB : Int → Int → Int → Int → Int → Int → Int → eW → eT → Int → eW → eT → Prop} (hrB : ∀ (a1 a2 a3 a4 a5 a6 a7 : Int) (w : eW) (t : eT), PRB a1 a2 a3 a4 a5 a6 a7 w t → Cl (d + 7) 243 [rA 67, (0, a1), (0, a2), (0, a3), (0, a4), (0, a5), (0, a6), (0, a7)] (enc w t) (fun r S2 => ∃ x w2 t2, r = some (1, x) ∧ S2 = enc w2 t2 ∧ POB a1 a2 a3 a4 a5 a6 a7 w t x w2 t2)) (h : ((w32 (w 67 0) ≤ w32 i → (DV w D ∧ 0 ≤ key ∧ key ≤ 2147483647) ∧ (∀ w1, (FrT w w1 ∧ w1 67 38 ≤ w 67 38 + 1 ∧ (DV w1 (uD D key sum) ∨ (500000 ≤ w 67 38 ∧ DV w1 D))) → Q (some (1, sum)) (enc w1 t))) ∧ (¬ (w32 (w 67 0) ≤ w32 i) → (MG w m ∧ LoM w ll nl ∧ (0 ≤ j ∧ j ≤ nl) ∧ gP m i) ∧ ((w32 (oI (loT m ll nl j.toNat i.toNat)) = w32 (-1) → Ev (d + 8) 241 Q 55 [rA 67, (0, e), (0, dn), (0, al), (0, j), (0, a), (0, b), (0, c), (0, key), (1, sum), (9, 0), (0, i + 1), (0, oI (loT m ll nl j.toNat i.toNat))] [] (enc w t)) ∧ (¬ (w32 (oI (loT m ll nl j.toNat i.toNat)) = w32 (-1)) → (MX w m ∧ (0 ≤ e ∧ e < nE m) ∧ (0 ≤ dn ∧ dn < fmN m e.toNat) ∧ gP m i) ∧ (((isFm m e.toNat dn.toNat i.toNat) = false → Ev (d + 8) 241 Q 55 [rA 67, (0, e), (0, dn), (0, al), (0, j), (0, a), (0, b), (0, c), (0, key), (1, sum), (9, 0), (0, i + 1), (0, oI (loT m ll nl j.toNat i.toNat))] [] (enc w t)) ∧ ((isFm m e.toNat dn.toNat i.toNat) = true → (MG w m ∧ w 67 35 = wo ∧ gE a ∧ gE b ∧ gC m c ∧ gC m i) ∧ (((goes m wo a.toNat b.toNat c.toNat i.toNat) = true → (0 ≤ w32 i ∧ w32 i < 16) ∧ ((¬ w32 (w 68 (w32 i).toNat) = w32 27 → (PRB e (dn + 1) al (oI (loT m ll nl j.toNat i.toNat)) b c i w t) ∧ (∀ x2 w3 t4, (POB e (dn + 1) al (oI (loT m ll nl j.toNat i.toNat)) b c i w t x2 w3 t4) → Ev (d + 8) 241 Q 55 [rA 67, (0, e), (0, dn), (0, al), (0, j), (0, a), (0, b), (0, c), (0, key), (1, sum + x2), (9, 0), (0, i + 1), (0, oI (loT m ll nl j.toNat i.toNat))] [] (enc w3 t4))) ∧ (¬ (¬ w32 (w 68 (w32 i).toNat) = w32 27) → (PRB e dn al (oI (loT m ll nl j.toNat i.toNat)) b c i w t) ∧ (∀ x5 w6 t7, (POB e dn al (oI (loT m ll nl j.toNat i.toNat)) b c i w t x5 w6 t7) → Ev (d + 8) 241 Q 55 [rA 67, (0, e), (0, dn), (0, al), (0, j), (0, a), (0, b), (0, c), (0, key), (1, sum + x5), (9, 0), (0, i + 1), (0, oI (loT m ll nl j.toNat i.toNat))] [] (enc w6 t7))))) ∧ ((goes m wo a.toNat b.toNat c.toNat i.toNat) = false → Ev (d + 8) 241 Q 55 [rA 67, (0, e), (0, dn), (0, al), (0, j), (0, a), (0, b), (0, c), (0, key), (1, sum), (9, 0), (0, i + 1), (0, oI (loT m ll nl j.toNat i.toNat))] [] (enc w t)))))))))) : Ev (d + 8) 241 Q 55 [rA 67, (0, e), (0, dn), (0, al), (0, j), (0, a), (0, b), (0, c), (0, key), (1, sum), (9, 0), (0, i), J] [] (enc w t) := by
  refine e_ldi (show am_cd 241 55 = (2, 57, 11, 0, []) by decide +kernel) rfl ?_
  refine e_lda (v := 67) (show am_cd 241 57 = (2, 58, 0, 2, []) by decide +kernel) rfl ?_
  refine e_getf (a := 67) (tg := 0) (show am_cd 241 58 = (18, 61, 1200, 0, [168]) by decide +kernel) (by decide +kernel) (by decide +kernel) rfl ?_
  refine e_cmp3 (show am_cd 241 61 = (11, 64, 153, 3, []) by decide +kernel) (fun hc => ?_) (fun hc => ?_)
  · replace h := h.1 hc
    refine e_lda (v := 67) (show am_cd 241 153 = (2, 154, 0, 2, []) by decide +kernel) rfl ?_
    refine e_ldi (show am_cd 241 154 = (2, 156, 8, 0, []) by decide +kernel) rfl ?_
    refine e_ldl (show am_cd 241 156 = (2, 158, 9, 1, []) by decide +kernel) rfl ?_
    refine e_cV (z := 0) (a := 67) (as := [(0, key), (1, sum)]) (rest := []) (show am_cd 241 158 = (40, 161, 207, 0, [307]) by decide +kernel) (by decide +kernel) rfl rfl (Nat.le_of_ble_eq_true rfl) rfl ?_
    refine Cl.mono (Cl.up (c_learns (d := d) h.1) (by omega)) ?_
    rintro _ _ ⟨w1, rfl, rfl, hp⟩
    refine ⟨fun _ h9 => (by cases h9), ?_⟩
    replace h := h.2 w1 hp
    show Ev _ 241 _ 161 [rA 67, (0, e), (0, dn), (0, al), (0, j), (0, a), (0, b), (0, c), (0, key), (1, sum), (9, 0), (0, i), J] [(1, sum)] _
    exact e_retl (show am_cd 241 161 = (36, 162, 1, 0, []) by decide +kernel) (by decide +kernel) h
  · replace h := h.2 hc
    refine e_lda (v := 67) (show am_cd 241 64 = (2, 65, 0, 2, []) by decide +kernel) rfl ?_
    refine e_ldi (show am_cd 241 65 = (2, 67, 4, 0, []) by decide +kernel) rfl ?_
    refine e_ldi (show am_cd 241 67 = (2, 69, 11, 0, []) by decide +kernel) rfl ?_
    refine e_cV (z := 0) (a := 67) (as := [(0, j), (0, i)]) (rest := []) (show am_cd 241 69 = (40, 72, 229, 0, [354]) by decide +kernel) (by decide +kernel) rfl rfl (Nat.le_of_ble_eq_true rfl) rfl ?_
    refine Cl.mono (Cl.up (c_lowerThen (d := d) h.1) (by omega)) ?_
    rintro _ _ ⟨rfl, rfl⟩
    refine ⟨fun _ h9 => (by cases h9), ?_⟩
    replace h := h.2
    show Ev _ 241 _ 72 [rA 67, (0, e), (0, dn), (0, al), (0, j), (0, a), (0, b), (0, c), (0, key), (1, sum), (9, 0), (0, i), J] [(0, oI (loT m ll nl j.toNat i.toNat))] _
    refine e_sti (la2 := [rA 67, (0, e), (0, dn), (0, al), (0, j), (0, a), (0, b), (0, c), (0, key), (1, sum), (9, 0), (0, i), (0, oI (loT m ll nl j.toNat i.toNat))]) (show am_cd 241 72 = (3, 74, 12, 0, []) by decide +kernel) rfl ?_
    refine e_ldi (show am_cd 241 74 = (2, 76, 12, 0, []) by decide +kernel) rfl ?_
    refine e_ic (show am_cd 241 76 = (0, 77, 0, -1, []) by decide +kernel) ?_
    refine e_cmp0 (show am_cd 241 77 = (11, 80, 147, 0, []) by decide +kernel) (fun hc => ?_) (fun hc => ?_)
    · replace h := h.1 hc
      refine e_inc (la2 := [rA 67, (0, e), (0, dn), (0, al), (0, j), (0, a), (0, b), (0, c), (0, key), (1, sum), (9, 0), (0, i + 1), (0, oI (loT m ll nl j.toNat i.toNat))]) (show am_cd 241 147 = (4, 150, 11, 1, []) by decide +kernel) rfl rfl ?_
      refine e_go (show am_cd 241 150 = (12, 55, 0, 0, []) by decide +kernel) ?_
      exact h
    · replace h := h.2 hc
      refine e_lda (v := 67) (show am_cd 241 80 = (2, 81, 0, 2, []) by decide +kernel) rfl ?_
      refine e_ldi (show am_cd 241 81 = (2, 82, 1, 0, []) by decide +kernel) rfl ?_
      refine e_ldi (show am_cd 241 82 = (2, 83, 2, 0, []) by decide +kernel) rfl ?_
      refine e_ldi (show am_cd 241 83 = (2, 85, 11, 0, []) by decide +kernel) rfl ?_
      refine e_cV (z := 0) (a := 67) (as := [(0, e), (0, dn), (0, i)]) (rest := []) (show am_cd 241 85 = (40, 88, 242, 0, [390]) by decide +kernel) (by decide +kernel) rfl rfl (Nat.le_of_ble_eq_true rfl) rfl ?_
      refine Cl.mono (Cl.up (c_isForm (d := d) h.1) (by omega)) ?_
      rintro _ _ ⟨rfl, rfl⟩
      refine ⟨fun _ h9 => (by cases h9), ?_⟩
      replace h := h.2
      show Ev _ 241 _ 88 [rA 67, (0, e), (0, dn), (0, al), (0, j), (0, a), (0, b), (0, c), (0, key), (1, sum), (9, 0), (0, i), (0, oI (loT m ll nl j.toNat i.toNat))] [(0, bI (isFm m e.toNat dn.toNat i.toNat))] _
      refine e_ifb0 (show am_cd 241 88 = (10, 91, 147, 0, []) by decide +kernel) (fun hc => ?_) (fun hc => ?_)
      · replace h := h.1 hc
        refine e_inc (la2 := [rA 67, (0, e), (0, dn), (0, al), (0, j), (0, a), (0, b), (0, c), (0, key), (1, sum), (9, 0), (0, i + 1), (0, oI (loT m ll nl j.toNat i.toNat))]) (show am_cd 241 147 = (4, 150, 11, 1, []) by decide +kernel) rfl rfl ?_
        refine e_go (show am_cd 241 150 = (12, 55, 0, 0, []) by decide +kernel) ?_
        exact h
      · replace h := h.2 hc
        refine e_lda (v := 67) (show am_cd 241 91 = (2, 92, 0, 2, []) by decide +kernel) rfl ?_
        refine e_ldi (show am_cd 241 92 = (2, 94, 5, 0, []) by decide +kernel) rfl ?_
        refine e_ldi (show am_cd 241 94 = (2, 96, 6, 0, []) by decide +kernel) rfl ?_
        refine e_ldi (show am_cd 241 96 = (2, 98, 7, 0, []) by decide +kernel) rfl ?_
        refine e_ldi (show am_cd 241 98 = (2, 100, 11, 0, []) by decide +kernel) rfl ?_
        refine e_cV (z := 0) (a := 67) (as := [(0, a), (0, b), (0, c), (0, i)]) (rest := []) (show am_cd 241 100 = (40, 103, 210, 0, [282]) by decide +kernel) (by decide +kernel) rfl rfl (Nat.le_of_ble_eq_true rfl) rfl ?_
        refine Cl.mono (Cl.up (c_goes (hw := hw) (d := d) h.1) (by omega)) ?_
        rintro _ _ ⟨rfl, rfl⟩
        refine ⟨fun _ h9 => (by cases h9), ?_⟩
        replace h := h.2
        show Ev _ 241 _ 103 [rA 67, (0, e), (0, dn), (0, al), (0, j), (0, a), (0, b), (0, c), (0, key), (1, sum), (9, 0), (0, i), (0, oI (loT m ll nl j.toNat i.toNat))] [(0, bI (goes m wo a.toNat b.toNat c.toNat i.toNat))] _
        refine e_ifb1 (show am_cd 241 103 = (10, 106, 109, 1, []) by decide +kernel) (fun hc => ?_) (fun hc => ?_)
        · replace h := h.1 hc
          refine e_ldl (show am_cd 241 109 = (2, 111, 9, 1, []) by decide +kernel) rfl ?_
          refine e_lda (v := 67) (show am_cd 241 111 = (2, 112, 0, 2, []) by decide +kernel) rfl ?_
          refine e_ldi (show am_cd 241 112 = (2, 113, 1, 0, []) by decide +kernel) rfl ?_
          refine e_lda (v := 67) (show am_cd 241 113 = (2, 114, 0, 2, []) by decide +kernel) rfl ?_
          refine e_getr (a := 67) (r := 68) (show am_cd 241 114 = (18, 117, 1201, 2, [9]) by decide +kernel) (by decide +kernel) (by decide +kernel) rfl ?_
          refine e_ldi (show am_cd 241 117 = (2, 119, 11, 0, []) by decide +kernel) rfl ?_
          refine e_iald (a := 68) (n := 16) (show am_cd 241 119 = (21, 120, 0, 0, []) by decide +kernel) (by decide +kernel) (by decide +kernel) (by decide +kernel) h.1 ?_
          replace h := h.2
          refine e_ic (show am_cd 241 120 = (0, 122, 1, 27, []) by decide +kernel) ?_
          refine e_cmp1 (show am_cd 241 122 = (11, 125, 129, 1, []) by decide +kernel) (fun hc => ?_) (fun hc => ?_)
          · replace h := h.1 hc
            refine e_ldi (show am_cd 241 129 = (2, 130, 2, 0, []) by decide +kernel) rfl ?_
            refine e_ic (show am_cd 241 130 = (0, 131, 0, 1, []) by decide +kernel) ?_
            refine e_iadd (show am_cd 241 131 = (5, 132, 0, 0, []) by decide +kernel) ?_
            refine e_ldi (show am_cd 241 132 = (2, 133, 3, 0, []) by decide +kernel) rfl ?_
            refine e_ldi (show am_cd 241 133 = (2, 135, 12, 0, []) by decide +kernel) rfl ?_
            refine e_ldi (show am_cd 241 135 = (2, 137, 6, 0, []) by decide +kernel) rfl ?_
            refine e_ldi (show am_cd 241 137 = (2, 139, 7, 0, []) by decide +kernel) rfl ?_
            refine e_ldi (show am_cd 241 139 = (2, 141, 11, 0, []) by decide +kernel) rfl ?_
            refine e_cV (z := 0) (a := 67) (as := [(0, e), (0, dn + 1), (0, al), (0, oI (loT m ll nl j.toNat i.toNat)), (0, b), (0, c), (0, i)]) (rest := [(1, sum)]) (show am_cd 241 141 = (40, 144, 243, 0, [393]) by decide +kernel) (by decide +kernel) rfl rfl (Nat.le_of_ble_eq_true rfl) rfl ?_
            refine Cl.mono (Cl.up (hrB _ _ _ _ _ _ _ _ _ h.1) (by omega)) ?_
            rintro _ _ ⟨x2, w3, t4, rfl, rfl, hp⟩
            refine ⟨fun _ h9 => (by cases h9), ?_⟩
            replace h := h.2 x2 w3 t4 hp
            show Ev _ 241 _ 144 [rA 67, (0, e), (0, dn), (0, al), (0, j), (0, a), (0, b), (0, c), (0, key), (1, sum), (9, 0), (0, i), (0, oI (loT m ll nl j.toNat i.toNat))] [(1, x2), (1, sum)] _
            refine e_ladd (show am_cd 241 144 = (6, 145, 0, 0, []) by decide +kernel) ?_
            refine e_stl (la2 := [rA 67, (0, e), (0, dn), (0, al), (0, j), (0, a), (0, b), (0, c), (0, key), (1, sum + x2), (9, 0), (0, i), (0, oI (loT m ll nl j.toNat i.toNat))]) (show am_cd 241 145 = (3, 147, 9, 1, []) by decide +kernel) rfl ?_
            refine e_inc (la2 := [rA 67, (0, e), (0, dn), (0, al), (0, j), (0, a), (0, b), (0, c), (0, key), (1, sum + x2), (9, 0), (0, i + 1), (0, oI (loT m ll nl j.toNat i.toNat))]) (show am_cd 241 147 = (4, 150, 11, 1, []) by decide +kernel) rfl rfl ?_
            refine e_go (show am_cd 241 150 = (12, 55, 0, 0, []) by decide +kernel) ?_
            exact h
          · replace h := h.2 hc
            refine e_ldi (show am_cd 241 125 = (2, 126, 2, 0, []) by decide +kernel) rfl ?_
            refine e_go (show am_cd 241 126 = (12, 132, 0, 0, []) by decide +kernel) ?_
            refine e_ldi (show am_cd 241 132 = (2, 133, 3, 0, []) by decide +kernel) rfl ?_
            refine e_ldi (show am_cd 241 133 = (2, 135, 12, 0, []) by decide +kernel) rfl ?_
            refine e_ldi (show am_cd 241 135 = (2, 137, 6, 0, []) by decide +kernel) rfl ?_
            refine e_ldi (show am_cd 241 137 = (2, 139, 7, 0, []) by decide +kernel) rfl ?_
            refine e_ldi (show am_cd 241 139 = (2, 141, 11, 0, []) by decide +kernel) rfl ?_
            refine e_cV (z := 0) (a := 67) (as := [(0, e), (0, dn), (0, al), (0, oI (loT m ll nl j.toNat i.toNat)), (0, b), (0, c), (0, i)]) (rest := [(1, sum)]) (show am_cd 241 141 = (40, 144, 243, 0, [393]) by decide +kernel) (by decide +kernel) rfl rfl (Nat.le_of_ble_eq_true rfl) rfl ?_
            refine Cl.mono (Cl.up (hrB _ _ _ _ _ _ _ _ _ h.1) (by omega)) ?_
            rintro _ _ ⟨x5, w6, t7, rfl, rfl, hp⟩
            refine ⟨fun _ h9 => (by cases h9), ?_⟩
            replace h := h.2 x5 w6 t7 hp
            show Ev _ 241 _ 144 [rA 67, (0, e), (0, dn), (0, al), (0, j), (0, a), (0, b), (0, c), (0, key), (1, sum), (9, 0), (0, i), (0, oI (loT m ll nl j.toNat i.toNat))] [(1, x5), (1, sum)] _
            refine e_ladd (show am_cd 241 144 = (6, 145, 0, 0, []) by decide +kernel) ?_
            refine e_stl (la2 := [rA 67, (0, e), (0, dn), (0, al), (0, j), (0, a), (0, b), (0, c), (0, key), (1, sum + x5), (9, 0), (0, i), (0, oI (loT m ll nl j.toNat i.toNat))]) (show am_cd 241 145 = (3, 147, 9, 1, []) by decide +kernel) rfl ?_
            refine e_inc (la2 := [rA 67, (0, e), (0, dn), (0, al), (0, j), (0, a), (0, b), (0, c), (0, key), (1, sum + x5), (9, 0), (0, i + 1), (0, oI (loT m ll nl j.toNat i.toNat))]) (show am_cd 241 147 = (4, 150, 11, 1, []) by decide +kernel) rfl rfl ?_
            refine e_go (show am_cd 241 150 = (12, 55, 0, 0, []) by decide +kernel) ?_
            exact h
        · replace h := h.2 hc
          refine e_go (show am_cd 241 106 = (12, 147, 0, 0, []) by decide +kernel) ?_
          refine e_inc (la2 := [rA 67, (0, e), (0, dn), (0, al), (0, j), (0, a), (0, b), (0, c), (0, key), (1, sum), (9, 0), (0, i + 1), (0, oI (loT m ll nl j.toNat i.toNat))]) (show am_cd 241 147 = (4, 150, 11, 1, []) by decide +kernel) rfl rfl ?_
          refine e_go (show am_cd 241 150 = (12, 55, 0, 0, []) by decide +kernel) ?_
          exact h

