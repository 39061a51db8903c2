/-! The class: other cells and the machine; the first row with the least faults. -/

/-- the cells of the machine and of the book -/
def Hi (w w2 : eW) : Prop := ∀ a, (37 ≤ a ∧ a ≤ 47) ∨ 102 ≤ a → w2 a = w a
theorem DynQ.hi {w w2 : eW} {t : eT} {b : Nat × Nat} {m : eW} (h : DynQ w t b m) (e : Hi w w2) : DynQ w2 t b m := by
  obtain ⟨hD, rm, s, hq⟩ := h
  have e37 := e 37 (by omega)
  have e45 := e 45 (by omega)
  have er : ∀ a ∈ dyRef w, w2 a.toNat = w a.toNat := fun a ha => e _ (by have := hD.2.1 a ha; omega)
  obtain ⟨i1, i2, i3, i4, i5, i6, i7, i8⟩ := @dyRef_i w
  have eR : dyRef w2 = dyRef w := by unfold dyRef; rw [e37, e45]
  refine ⟨?_, ?_, ?_, ?_⟩
  · unfold DyI at *
    rw [eR, e37, e45]
    exact hD
  · unfold RmI at *
    rw [e37, e45]
    exact rm
  · unfold MmT at *
    rw [e45, er _ i7]
    exact s
  · rw [e37]
    rcases hq with h1 | ⟨h1, h2, h3⟩
    · exact Or.inl h1
    · refine Or.inr ⟨h1, h2.ext ?_ ?_ ?_ ?_ (by rw [e37]), h3.ext (by funext s; unfold mK; rw [e37, er _ i1]) e37 rfl⟩
      · unfold mK; rw [e37, er _ i1]
      · unfold mA; rw [e37, er _ i6]
      · unfold mD; rw [e37, er _ i4]
      · unfold mTl; rw [e37, er _ i5]
theorem MC.hi {P : Int → Int → Prop} {w w2 : eW} {t : eT} {b : Nat × Nat} {m : eW} (h : MC P b m w t) (e : Hi w w2) : MC P b m w2 t := by
  obtain ⟨h1, h2, h3⟩ := h
  have e45 := e 45 (by omega)
  obtain ⟨i1, i2, i3, i4, i5, i6, i7, i8⟩ := @dyRef_i w
  have er : ∀ a ∈ dyRef w, w2 a.toNat = w a.toNat := fun a ha => e _ (by have := h1.1.2.1 a ha; omega)
  refine ⟨h1.hi e, ?_, h3⟩
  unfold MeP mM mTag mVal at *
  rw [e45, er _ i7, er _ i8]
  exact h2
theorem hi_pj (w : eW) : Hi w (pj w) := fun a ha => by funext k; unfold pj; rw [if_pos ha]
theorem hi_pj2 (w : eW) : Hi (pj w) w := fun a ha => (hi_pj w a ha).symm
theorem pm_in {m : eW} {a k : Nat} (h : (a = 67 ∧ (k = 0 ∨ k = 6)) ∨ a = 68 ∨ a = 69 ∨ (72 ≤ a ∧ a ≤ 76)) : pm m a k = m a k := by unfold pm; rw [if_pos h]
theorem pm_n (m : eW) : nP (pm m) = nP m ∧ nR (pm m) = nR m := ⟨by unfold nP; rw [pm_in (by omega)], by unfold nR; rw [pm_in (by omega)]⟩
theorem pm_ff (m : eW) : ff (pm m) = ff m ∧ nf (pm m) = nf m ∧ bf (pm m) = bf m ∧ mu (pm m) = mu m ∧ ba (pm m) = ba m ∧ isI (pm m) = isI m := by
  refine ⟨?_, ?_, ?_, ?_, ?_, ?_⟩
  · funext r a; unfold ff; rw [pm_in (by omega), pm_in (by omega)]
  · funext r a; unfold nf; rw [pm_in (by omega), pm_in (by omega), pm_in (by omega)]
  · funext r a; unfold bf; rw [pm_in (by omega), pm_in (by omega)]
  · funext r a; unfold mu; rw [pm_in (by omega), pm_in (by omega)]
  · funext r a; unfold ba; rw [pm_in (a := 72) (by omega), pm_in (a := 73) (by omega), pm_in (a := 68) (by omega), pm_in (a := 68) (by omega), (pm_n m).1]
  · funext a; unfold isI; rw [pm_in (by omega), (pm_n m).1]
theorem pm_brk (m : eW) : brk (pm m) = brk m := by
  obtain ⟨e1, e2, e3, e4, e5, _⟩ := pm_ff m
  funext r a b c d
  unfold brk inR
  rw [e1, e2, e3, e4, e5]
theorem pm_goes (m : eW) (wo : Int) : goes (pm m) wo = goes m wo ∧ isE (pm m) wo = isE m wo := by
  obtain ⟨_, _, _, _, _, e6⟩ := pm_ff m
  have e7 : okP (pm m) wo = okP m wo := by funext a b c d; unfold okP; rw [pm_brk, (pm_n m).2]
  exact ⟨by funext a b c d; unfold goes; rw [e6, e7], by funext a b c; unfold isE; rw [e7]⟩
theorem pm_ky (m : eW) : mfB (pm m) = mfB m ∧ kyT (pm m) = kyT m ∧ eR (pm m) = eR m ∧ tri (pm m) = tri m := by
  obtain ⟨e1, e2, e3, e4, e5, _⟩ := pm_ff m
  obtain ⟨n1, n2⟩ := pm_n m
  obtain ⟨g1, g2⟩ := pm_goes m (-1)
  have m1 : mfB (pm m) = mfB m := by funext a b c; unfold mfB; rw [g1, g2, n1]
  refine ⟨m1, ?_, ?_, ?_⟩
  · funext a b c
    unfold kyT nxB frB
    rw [m1, e1, e2, n2]
  · funext n
    induction n with
    | zero => funext a b c; unfold eR; rw [g2]
    | succ n ih => funext a b c; unfold eR; rw [g1, ih, n1]
  · funext a b c
    unfold tri
    rw [n1]
theorem MaC_pm {w m : eW} : MaC w (pm m) ↔ MaC w m := by
  obtain ⟨e1, e2, e3, e4⟩ := pm_ky m
  unfold MaC
  rw [e1, e2, e3, e4]
theorem DynP_Q {w : eW} {t : eT} {b : Nat × Nat} {m : eW} : DynP w t b m ↔ DynQ w t b m := by
  unfold DynP
  constructor
  · intro h
    have h2 := h.hi (hi_pj2 w)
    exact ⟨h2.1, h2.2.1, h2.2.2.1, by rcases h2.2.2.2 with h3 | ⟨h3, h4, h5⟩; exact Or.inl h3; exact Or.inr ⟨h3, MaC_pm.mp h4, h5⟩⟩
  · intro h
    have h1 : DynQ w t b (pm m) := ⟨h.1, h.2.1, h.2.2.1, by rcases h.2.2.2 with h3 | ⟨h3, h4, h5⟩; exact Or.inl h3; exact Or.inr ⟨h3, MaC_pm.mpr h4, h5⟩⟩
    exact h1.hi (hi_pj w)

theorem g_fw {d : Nat} {Q : Option aV → aS → Prop} {w : eW} {t : eT} {i j x rs q : Int} {m : eW} {b : Nat × Nat} {P : Int → Int → Prop} {l1 l2 : List Int} (h : ∃ g1, (NX l1 l2 m w ∧ x = ((trG m g1 : Nat) : Int) ∧ gL g1 ≤ 16 ∧ (0 : Int) ≤ i ∧ (0 : Int) ≤ j ∧ (i : Int) ≤ 2147483647 ∧ (j : Int) ≤ 2147483647) ∧ (∀ x2, (x2 = ((nfB m l1 l2 i.toNat j.toNat (gL g1) : Nat) : Int)) → Ev (d + 30) 57 Q 12 [rA 56, (0, i), (0, j), (0, x), (0, rs), (0, q), (0, x2), (0, 0)] [] (enc w t))) : Cl (d + 30) 57 [rA 56, (0, i), (0, j), (0, x), (0, rs), (0, q)] (enc w t) Q := by
  show Ev (d + 30) 57 Q 0 [rA 56, (0, i), (0, j), (0, x), (0, rs), (0, q), (9, 0), (9, 0)] [] (enc w t)
  refine e_lda (v := 56) (show am_cd 57 0 = (2, 1, 0, 2, []) by decide +kernel) rfl ?_
  refine e_ldi (show am_cd 57 1 = (2, 2, 1, 0, []) by decide +kernel) rfl ?_
  refine e_ldi (show am_cd 57 2 = (2, 3, 2, 0, []) by decide +kernel) rfl ?_
  refine e_ldi (show am_cd 57 3 = (2, 4, 3, 0, []) by decide +kernel) rfl ?_
  refine e_cV (z := 0) (a := 56) (as := [(0, i), (0, j), (0, x)]) (rest := []) (show am_cd 57 4 = (40, 7, 55, 0, [58]) by decide +kernel) (by decide +kernel) rfl rfl (Nat.le_of_ble_eq_true rfl) rfl ?_
  obtain ⟨g1, h⟩ := h
  refine Cl.mono (Cl.up (c_np (l1 := l1) (l2 := l2) (d := d) g1 h.1) (by omega)) ?_
  rintro _ _ ⟨x2, rfl, rfl, hp⟩
  refine ⟨fun _ h9 => (by cases h9), ?_⟩
  replace h := h.2 x2 hp
  show Ev _ 57 _ 7 [rA 56, (0, i), (0, j), (0, x), (0, rs), (0, q), (9, 0), (9, 0)] [(0, x2)] _
  refine e_sti (la2 := [rA 56, (0, i), (0, j), (0, x), (0, rs), (0, q), (0, x2), (9, 0)]) (show am_cd 57 7 = (3, 9, 6, 0, []) by decide +kernel) rfl ?_
  refine e_ic (show am_cd 57 9 = (0, 10, 0, 0, []) by decide +kernel) ?_
  refine e_sti (la2 := [rA 56, (0, i), (0, j), (0, x), (0, rs), (0, q), (0, x2), (0, 0)]) (show am_cd 57 10 = (3, 12, 7, 0, []) by decide +kernel) rfl ?_
  exact h

theorem g_fw1 {d : Nat} {Q : Option aV → aS → Prop} {w : eW} {t : eT} {i j x rs q f p : Int} {m : eW} {b : Nat × Nat} {P : Int → Int → Prop} {l1 l2 : List Int} {γW : Type} {PRW : γW → Int → Int → Int → Int → Int → eW → eT → Prop} {POW : γW → Int → Int → Int → Int → Int → eW → eT → Int → eW → eT → Prop} (hrW : ∀ (g : γW) (a1 a2 a3 a4 a5 : Int) (w : eW) (t : eT), PRW g a1 a2 a3 a4 a5 w t → Cl (d + 29) 52 [rA 56, (0, a1), (0, a2), (0, a3), (0, a4), (0, a5)] (enc w t) (fun r S2 => ∃ x w2 t2, r = some (0, x) ∧ S2 = enc w2 t2 ∧ POW g a1 a2 a3 a4 a5 w t x w2 t2)) (h : ((w32 16 ≤ w32 p → Q (some (0, (-1))) (enc w t)) ∧ (¬ (w32 16 ≤ w32 p) → ((w32 (iand (ishr f p) 1) = 0 → Ev (d + 30) 57 Q 12 [rA 56, (0, i), (0, j), (0, x), (0, rs), (0, q), (0, f), (0, p + 1)] [] (enc w t)) ∧ (¬ (w32 (iand (ishr f p) 1) = 0) → ∃ g1, (PRW g1 i j x p q w t) ∧ (∀ x2 w3 t4, (POW g1 i j x p q w t x2 w3 t4) → ((¬ w32 x2 = w32 rs → Ev (d + 30) 57 Q 12 [rA 56, (0, i), (0, j), (0, x), (0, rs), (0, q), (0, f), (0, p + 1)] [] (enc w3 t4)) ∧ (¬ (¬ w32 x2 = w32 rs) → Q (some (0, p)) (enc w3 t4))))))))) : Ev (d + 30) 57 Q 12 [rA 56, (0, i), (0, j), (0, x), (0, rs), (0, q), (0, f), (0, p)] [] (enc w t) := by
  refine e_ldi (show am_cd 57 12 = (2, 14, 7, 0, []) by decide +kernel) rfl ?_
  refine e_ic (show am_cd 57 14 = (0, 16, 1, 16, []) by decide +kernel) ?_
  refine e_cmp3 (show am_cd 57 16 = (11, 19, 54, 3, []) by decide +kernel) (fun hc => ?_) (fun hc => ?_)
  · replace h := h.1 hc
    refine e_ic (show am_cd 57 54 = (0, 55, 0, -1, []) by decide +kernel) ?_
    exact e_reti (show am_cd 57 55 = (36, 56, 0, 0, []) by decide +kernel) (by decide +kernel) h
  · replace h := h.2 hc
    refine e_ldi (show am_cd 57 19 = (2, 21, 6, 0, []) by decide +kernel) rfl ?_
    refine e_ldi (show am_cd 57 21 = (2, 23, 7, 0, []) by decide +kernel) rfl ?_
    refine e_ishr (show am_cd 57 23 = (5, 24, 7, 0, []) by decide +kernel) ?_
    refine e_ic (show am_cd 57 24 = (0, 25, 0, 1, []) by decide +kernel) ?_
    refine e_iand (show am_cd 57 25 = (5, 26, 3, 0, []) by decide +kernel) ?_
    refine e_if0 (show am_cd 57 26 = (10, 29, 48, 0, []) by decide +kernel) (fun hc => ?_) (fun hc => ?_)
    · replace h := h.1 hc
      refine e_inc (la2 := [rA 56, (0, i), (0, j), (0, x), (0, rs), (0, q), (0, f), (0, p + 1)]) (show am_cd 57 48 = (4, 51, 7, 1, []) by decide +kernel) rfl rfl ?_
      refine e_go (show am_cd 57 51 = (12, 12, 0, 0, []) by decide +kernel) ?_
      exact h
    · replace h := h.2 hc
      refine e_lda (v := 56) (show am_cd 57 29 = (2, 30, 0, 2, []) by decide +kernel) rfl ?_
      refine e_ldi (show am_cd 57 30 = (2, 31, 1, 0, []) by decide +kernel) rfl ?_
      refine e_ldi (show am_cd 57 31 = (2, 32, 2, 0, []) by decide +kernel) rfl ?_
      refine e_ldi (show am_cd 57 32 = (2, 33, 3, 0, []) by decide +kernel) rfl ?_
      refine e_ldi (show am_cd 57 33 = (2, 35, 7, 0, []) by decide +kernel) rfl ?_
      refine e_ldi (show am_cd 57 35 = (2, 37, 5, 0, []) by decide +kernel) rfl ?_
      refine e_cV (z := 0) (a := 56) (as := [(0, i), (0, j), (0, x), (0, p), (0, q)]) (rest := []) (show am_cd 57 37 = (40, 40, 52, 0, [62]) by decide +kernel) (by decide +kernel) rfl rfl (Nat.le_of_ble_eq_true rfl) rfl ?_
      obtain ⟨g1, h⟩ := h
      refine Cl.mono (Cl.up (hrW g1 _ _ _ _ _ _ _ h.1) (by omega)) ?_
      rintro _ _ ⟨x2, w3, t4, rfl, rfl, hp⟩
      refine ⟨fun _ h9 => (by cases h9), ?_⟩
      replace h := h.2 x2 w3 t4 hp
      show Ev _ 57 _ 40 [rA 56, (0, i), (0, j), (0, x), (0, rs), (0, q), (0, f), (0, p)] [(0, x2)] _
      refine e_ldi (show am_cd 57 40 = (2, 42, 4, 0, []) by decide +kernel) rfl ?_
      refine e_cmp1 (show am_cd 57 42 = (11, 45, 48, 1, []) by decide +kernel) (fun hc => ?_) (fun hc => ?_)
      · replace h := h.1 hc
        refine e_inc (la2 := [rA 56, (0, i), (0, j), (0, x), (0, rs), (0, q), (0, f), (0, p + 1)]) (show am_cd 57 48 = (4, 51, 7, 1, []) by decide +kernel) rfl rfl ?_
        refine e_go (show am_cd 57 51 = (12, 12, 0, 0, []) by decide +kernel) ?_
        exact h
      · replace h := h.2 hc
        refine e_ldi (show am_cd 57 45 = (2, 47, 7, 0, []) by decide +kernel) rfl ?_
        exact e_reti (show am_cd 57 47 = (36, 48, 0, 0, []) by decide +kernel) (by decide +kernel) h

abbrev nCl (m : eW) (l1 l2 : List Int) (i j : Nat) (g : t3) : Nat := cl m (ltF l1) l1.length (ltF l2) l2.length i j g.1 g.2.1 g.2.2
abbrev nFr (m : eW) (l1 l2 : List Int) (i j : Nat) (g : t3) : Nat := frs m (ltF l1) l1.length (ltF l2) l2.length i j g.1 g.2.1 g.2.2
def FwR (l1 l2 : List Int) (m : eW) (b : Nat × Nat) (g : t3) (i j x rs q : Int) (w : eW) (t : eT) : Prop := NX l1 l2 m w ∧ MC (PmN m l1 l2) b m w t ∧ (0 ≤ i ∧ i ≤ (l1.length : Int)) ∧ (0 ≤ j ∧ j ≤ (l2.length : Int)) ∧ x = ((trG m g : Nat) : Int) ∧ gL g ≤ 16 ∧ (0 ≤ q ∧ q + ((l1.length : Int) - i) + ((l2.length : Int) - j) ≤ 13) ∧ rs = ((nCl m l1 l2 i.toNat j.toNat g : Nat) : Int) ∧ nCl m l1 l2 i.toNat j.toNat g < 1000
def FwO (l1 l2 : List Int) (m : eW) (b : Nat × Nat) (g : t3) (i j x rs q : Int) (w : eW) (t : eT) (y : Int) (w2 : eW) (t2 : eT) : Prop := ((i = (l1.length : Int) ∧ j = (l2.length : Int) ∧ y = -1) ∨ (¬ (i = (l1.length : Int) ∧ j = (l2.length : Int)) ∧ nFr m l1 l2 i.toNat j.toNat g < nP m ∧ (nfB m l1 l2 i.toNat j.toNat (gL g)).testBit (nFr m l1 l2 i.toNat j.toNat g) = true ∧ nG m l1 l2 i.toNat j.toNat g (nFr m l1 l2 i.toNat j.toNat g) = nCl m l1 l2 i.toNat j.toNat g ∧ y = ((nFr m l1 l2 i.toNat j.toNat g : Nat) : Int))) ∧ MR w t w2 t2 ∧ MC (PmN m l1 l2) b m w2 t2
theorem c_fw {d : Nat} {l1 l2 : List Int} {m : eW} {b : Nat × Nat} (g : t3) (i j x rs q : Int) (w : eW) (t : eT) (h : FwR l1 l2 m b g i j x rs q w t) : Cl (d + 30) 57 [rA 56, (0, i), (0, j), (0, x), (0, rs), (0, q)] (enc w t) (fun r S2 => ∃ y w2 t2, r = some (0, y) ∧ S2 = enc w2 t2 ∧ FwO l1 l2 m b g i j x rs q w t y w2 t2) := by
  obtain ⟨hN, hM, hi, hj, hx, hg, hq, hrs, hfin⟩ := h
  have hN0 := hN
  obtain ⟨⟨hA, hLN, hC, hWp, hWr⟩, ⟨b1, b2, b3, b4⟩, c1, c2, c3, c4⟩ := hN
  have hpn := hWp.n
  have nfl : nfB m l1 l2 i.toNat j.toNat (gL g) < 65536 := bts_le (k := 16) hWp.n.2
  refine g_fw (m := m) (b := b) (P := PmN m l1 l2) (l1 := l1) (l2 := l2) ⟨g, ⟨hN0, hx, hg, hi.1, hj.1, by omega, by omega⟩, fun x2 hx2 => ?_⟩
  rw [hx2]
  have clE := cl_eq (m := m) hWp (lu := ltF l1) (ll := ltF l2) (a := g.1) (b := g.2.1) (c := g.2.2) b3 c3 (show i.toNat ≤ l1.length by omega) (show j.toNat ≤ l2.length by omega)
  -- pairs that do it
  have hit : ∀ p, (nG m l1 l2 i.toNat j.toNat g p = nCl m l1 l2 i.toNat j.toNat g) → p < nP m ∧ (nfB m l1 l2 i.toNat j.toNat (gL g)).testBit p = true := fun p h9 => by
    have hb : (nfB m l1 l2 i.toNat j.toNat (gL g)).testBit p = true := by
      cases hbt : (nfB m l1 l2 i.toNat j.toNat (gL g)).testBit p with
      | true => rfl
      | false => rw [nG_no hbt] at h9; omega
    refine ⟨?_, hb⟩
    unfold nfB at hb
    rw [bts_tb] at hb
    simp only [Bool.and_eq_true, decide_eq_true_eq] at hb
    exact hb.1
  have frE : nFr m l1 l2 i.toNat j.toNat g = fsN (fun d => decide (nG m l1 l2 i.toNat j.toNat g d = nCl m l1 l2 i.toNat j.toNat g)) (nP m) 0 := by
    unfold nFr frs
    refine fsN_congr (fun p hp => ?_)
    unfold nG
    rw [if_pos hp]
  have loop := lq1 (σ := eW × eT) (fun p s => Ev (d + 30) 57 (fun r S2 => ∃ y w2 t2, r = some (0, y) ∧ S2 = enc w2 t2 ∧ FwO l1 l2 m b g i j x rs q w t y w2 t2) 12 [rA 56, (0, i), (0, j), (0, x), (0, rs), (0, q), (0, ((nfB m l1 l2 i.toNat j.toNat (gL g) : Nat) : Int)), (0, (p : Int))] [] (enc s.1 s.2)) (fun p s => (∀ e, e < p → ¬ nG m l1 l2 i.toNat j.toNat g e = nCl m l1 l2 i.toNat j.toNat g) ∧ MR w t s.1 s.2 ∧ MC (PmN m l1 l2) b m s.1 s.2) 16 ?_ ?_ 0 (w, t) (by decide) ⟨fun e he => absurd he (Nat.not_lt_zero e), MR.rf _ _, hM⟩
  · exact loop
  · rintro p ⟨w1, t1⟩ hp ⟨hno, mr, mc⟩ hE
    dsimp only at hno mr mc ⊢
    refine g_fw1 (m := m) (b := b) (P := PmN m l1 l2) (l1 := l1) (l2 := l2) (hrW := c_lwB (d := d) (l1 := l1) (l2 := l2) (m := m) (b := b)) ?_
    rw [bb_i (by omega) (by omega)]
    refine ⟨fun h9 => absurd h9 (by rw [w32_id (by omega), w32_id (by omega)]; omega), fun _ => ?_⟩
    cases hbt : (nfB m l1 l2 i.toNat j.toNat (gL g)).testBit p with
    | false =>
      refine ⟨fun _ => hE (w1, t1) ⟨fun e he h9 => ?_, mr, mc⟩, fun h9 => absurd rfl h9⟩
      by_cases h8 : e = p
      · rw [h8, nG_no hbt] at h9; omega
      · exact hno e (by omega) h9
    | true =>
      refine ⟨fun h9 => absurd h9 (by decide), fun _ => ⟨g, ⟨⟨hN0.lo mr.2.1, mc, hi, hj, hx, hg, hq, by omega⟩, by omega, by rw [Int.toNat_natCast]; exact hbt⟩, fun y w2 t2 hz => ?_⟩⟩
      obtain ⟨⟨u, l, hu, hl, hy⟩, mr2, mc2⟩ := hz
      rw [Int.toNat_natCast] at hu hl hy
      have hgn := nG_yes hbt hu hl
      have hb8 := brs_le m (-1) g.1 g.2.1 g.2.2 p
      have hn8 := hWr.n.2
      have eC : nC m l1 l2 u l (gN g p) = min (cl m (ltF l1) l1.length (ltF l2) l2.length u l g.2.1 g.2.2 p) 1000 := rfl
      have eq : y = rs ↔ nG m l1 l2 i.toNat j.toNat g p = nCl m l1 l2 i.toNat j.toNat g := by
        rw [hy, hrs, hgn, eC]
        omega
      rw [w32_id (x := y) (by rw [hy]; omega), w32_id (x := rs) (by omega), eq]
      refine ⟨fun h9 => hE (w2, t2) ⟨fun e he h8 => ?_, mr.tr mr2, mc2⟩, fun h9 => ?_⟩
      · by_cases h7 : e = p
        · rw [h7] at h8; exact h9 h8
        · exact hno e (by omega) h8
      · have h9 := Classical.not_not.mp h9
        have hpp := hit p h9
        have hfr : nFr m l1 l2 i.toNat j.toNat g = p := by
          rw [frE]
          obtain ⟨q1, q2, q3, q4⟩ := fsN_spec (P := fun d => decide (nG m l1 l2 i.toNat j.toNat g d = nCl m l1 l2 i.toNat j.toNat g)) (nP m) 0 ⟨p, Nat.zero_le _, by omega, decide_eq_true h9⟩
          rcases Nat.lt_trichotomy (fsN (fun d => decide (nG m l1 l2 i.toNat j.toNat g d = nCl m l1 l2 i.toNat j.toNat g)) (nP m) 0) p with h8 | h8 | h8
          · exact absurd (of_decide_eq_true q1) (hno _ h8)
          · exact h8
          · have := of_decide_eq_false (q4 p (Nat.zero_le _) h8)
            exact absurd h9 this
        have nd : ¬ (i = (l1.length : Int) ∧ j = (l2.length : Int)) := fun h8 => by
          have hb := hpp.2
          unfold nfB at hb
          rw [bts_tb, hu, hl] at hb
          have hbd := both_down hWp hpp.1 (show i.toNat ≤ l1.length by omega) (show j.toNat ≤ l2.length by omega) hu hl
          omega
        exact ⟨_, w2, t2, rfl, rfl, Or.inr ⟨nd, by rw [hfr]; exact hpp.1, by rw [hfr]; exact hpp.2, by rw [hfr]; exact h9, by rw [hfr]⟩, mr.tr mr2, mc2⟩
  · rintro ⟨w1, t1⟩ ⟨hno, mr, mc⟩
    dsimp only at hno mr mc ⊢
    refine g_fw1 (m := m) (b := b) (P := PmN m l1 l2) (l1 := l1) (l2 := l2) (hrW := c_lwB (d := d) (l1 := l1) (l2 := l2) (m := m) (b := b)) ⟨fun _ => ⟨-1, w1, t1, rfl, rfl, Or.inl ?_, mr, mc⟩, fun h9 => absurd (Int.le_refl _) h9⟩
    -- no pair does it: both sides are done
    have hd : i.toNat = l1.length ∧ j.toNat = l2.length := by
      apply Classical.byContradiction
      intro h9
      rw [if_neg h9] at clE
      rcases mn_is (x := 1000000) (g := clG m (ltF l1) l1.length (ltF l2) l2.length i.toNat j.toNat g.1 g.2.1 g.2.2) (n := nP m) with h8 | ⟨e, he, h8⟩
      · have : nCl m l1 l2 i.toNat j.toNat g = 1000000 := by unfold nCl; rw [clE, h8]
        omega
      · refine hno e (by omega) ?_
        unfold nG
        rw [if_pos he, ← h8]
        unfold nCl
        rw [clE]
    exact ⟨by omega, by omega, rfl⟩

