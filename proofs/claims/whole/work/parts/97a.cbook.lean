/-! The class: the book of answers between calls. -/

/-- cells that the book of answers and the machine never touch -/
def Lo (w w2 : eW) : Prop := ∀ a, a < 37 ∨ (47 < a ∧ a < 102) → w2 a = w a
theorem Lo.rf (w : eW) : Lo w w := fun _ _ => rfl
theorem Lo.tr {w a b : eW} (h : Lo w a) (h2 : Lo a b) : Lo w b := fun q hq => by rw [h2 q hq, h q hq]
theorem AC.lo {w w2 m : eW} (h : AC w m) (l : Lo w w2) : AC w2 m := by
  unfold AC at *
  rw [l 8 (by omega), l 9 (by omega), l 10 (by omega), l 11 (by omega), l 12 (by omega)]
  exact h
theorem SC.lo {w w2 m : eW} (h : SC w m) (l : Lo w w2) : SC w2 m := by
  unfold SC at *
  rw [l 8 (by omega), l 13 (by omega), l 14 (by omega)]
  exact h
theorem RC.lo {w w2 m : eW} (h : RC w m) (l : Lo w w2) : RC w2 m := by
  unfold RC at *
  rw [l 15 (by omega), l 16 (by omega), l 17 (by omega), l 18 (by omega), l 19 (by omega), l 20 (by omega), l 21 (by omega), l 22 (by omega)]
  exact h
theorem LN.lo {w w2 m : eW} (h : LN w m) (l : Lo w w2) : LN w2 m := by
  unfold LN at *
  rw [l 15 (by omega), l 23 (by omega), l 24 (by omega), l 25 (by omega), l 26 (by omega), l 27 (by omega)]
  exact h
theorem XC.lo {w w2 m : eW} (h : XC w m) (l : Lo w w2) : XC w2 m := by
  unfold XC at *
  rw [l 28 (by omega), l 29 (by omega), l 30 (by omega), l 31 (by omega), l 32 (by omega)]
  exact h
theorem ShC.lo {w w2 m : eW} (h : ShC w m) (l : Lo w w2) : ShC w2 m := by
  unfold ShC ZC at *
  rw [l 34 (by omega), l 35 (by omega), l 36 (by omega)]
  exact h
theorem KC.lo {w w2 : eW} {ks : kT} (h : KC w ks) (l : Lo w w2) : KC w2 ks := by
  unfold KC at *
  rw [l 48 (by omega), l 49 (by omega), l 50 (by omega), l 51 (by omega), l 52 (by omega)]
  exact h
theorem TlC.lo {w w2 : eW} {rl : List Int} (h : TlC w rl) (l : Lo w w2) : TlC w2 rl := by
  unfold TlC at *
  rw [l 1 (by omega), l 66 (by omega)]
  exact h
theorem TC.lo {w w2 : eW} {tl : List Int} (h : TC w tl) (l : Lo w w2) : TC w2 tl := by
  unfold TC TI at *
  rw [l 2 (by omega), l 3 (by omega)]
  exact h
theorem DynQ.mmd {w : eW} {t : eT} {b : Nat × Nat} {m : eW} (h : DynQ w t b m) (hb : b.2 < 1000000000) : MmD w t ∧ (0 ≤ w 45 3 ∧ 2 * w 45 3 ≤ (mM w t : Int) + 1) ∧ (mM w t < 262144 → 4 * mM w t ≤ 262144) := by
  obtain ⟨⟨hn, _, _, M, hM, ⟨e, he⟩, a7, a8⟩, _, ⟨s1, s2, s3⟩, _⟩ := h
  have eM : mM w t = M := a7.2
  refine ⟨⟨⟨a7.1, a8.1, by rw [eM]; exact a8.2⟩, by rw [eM]; exact hM, by omega, s3, fun h9 => ?_⟩, s2, fun h9 => ?_⟩
  · unfold dyRef at hn
    simp only [List.nodup_cons, List.mem_cons, not_or] at hn
    have := hn.2.2.2.2.2.2.1
    exact this.1 h9
  · rw [eM] at *
    have : e < 9 := by
      apply Classical.byContradiction
      intro h8
      have : 4 ^ 9 ≤ 4 ^ e := Nat.pow_le_pow_right (by decide) (by omega)
      omega
    have h7 : 4 ^ (e + 1) ≤ 4 ^ 9 := Nat.pow_le_pow_right (by decide) (by omega)
    rw [Nat.pow_succ] at h7
    omega
theorem dyRef_n {w : eW} (hn : (dyRef w).Nodup) : ([w 37 1, w 37 2, w 37 3, w 37 4, w 37 5, w 37 6].Nodup ∧ ∀ a ∈ [w 37 1, w 37 2, w 37 3, w 37 4, w 37 5, w 37 6], a ≠ w 45 0 ∧ a ≠ w 45 1) := by
  have e : dyRef w = [w 37 1, w 37 2, w 37 3, w 37 4, w 37 5, w 37 6] ++ [w 45 0, w 45 1] := rfl
  rw [e, List.nodup_append] at hn
  exact ⟨hn.1, fun a ha => ⟨hn.2.2 a ha _ (by simp), hn.2.2 a ha _ (by simp)⟩⟩
theorem dyRef_m {w : eW} {a : Int} (h : a ∈ [w 37 1, w 37 2, w 37 3, w 37 4, w 37 5, w 37 6]) : a ∈ dyRef w := by
  have e : dyRef w = [w 37 1, w 37 2, w 37 3, w 37 4, w 37 5, w 37 6] ++ [w 45 0, w 45 1] := rfl
  rw [e]
  exact List.mem_append_left _ h
theorem MF.lo {w w2 : eW} {t t2 : eT} (h : MF w t w2 t2) (hD : DyI w t) : Lo w w2 ∧ w2 37 = w 37 ∧ ∀ a ∈ [w 37 1, w 37 2, w 37 3, w 37 4, w 37 5, w 37 6], w2 a.toNat = w a.toNat := by
  obtain ⟨i1, i2, i3, i4, i5, i6, i7, i8⟩ := @dyRef_i w
  have r0 := hD.2.1 _ i7
  have r1 := hD.2.1 _ i8
  have hm := (hD.more (t2 := t) (Nat.le_refl _) (fun _ _ => rfl)).2
  refine ⟨fun a ha => h.2.1 a (by omega) (by omega) (by omega) (by omega), h.2.1 37 (by omega) (by omega) (by omega) (by decide), fun a ha => ?_⟩
  have hne := (dyRef_n hD.1).2 a ha
  have ra := hD.2.1 a (dyRef_m ha)
  have rl := (hm a (dyRef_m ha)).2
  exact h.2.1 a.toNat rl (by omega) (by omega) (by omega)
theorem DynQ.mf {w w2 : eW} {t t2 : eT} {b : Nat × Nat} {m : eW} (h : DynQ w t b m) (mf : MF w t w2 t2) (gr : GrQ w t w2 t2) (d2 : MmD w2 t2) (hu : 0 ≤ w2 45 3 ∧ 2 * w2 45 3 ≤ (mM w2 t2 : Int) + 1) : DynQ w2 t2 b m := by
  obtain ⟨hD, ⟨rm1, rm2⟩, ⟨s1, s2, s3⟩, hq⟩ := h
  obtain ⟨_, e37, er⟩ := mf.lo hD
  have hm := hD.more mf.1.1 mf.1.2
  obtain ⟨n1, n2⟩ := dyRef_n hD.1
  obtain ⟨d1, dlo, dR, M, hM, ⟨e, he⟩, a7, a8⟩ := hm.1
  have eM : mM w t = M := by rw [← a7.2]; exact ((hm.2 _ (@dyRef_i w).2.2.2.2.2.2.1).1).symm
  have hz : MaC w m → MaC w2 m := fun hz => by
    refine hz.ext ?_ ?_ ?_ ?_ (by rw [e37])
    · unfold mK; rw [e37, er _ (by simp)]
    · unfold mA; rw [e37, er _ (by simp)]
    · unfold mD; rw [e37, er _ (by simp)]
    · unfold mTl; rw [e37, er _ (by simp)]
  have eL : dyL t2 (w 37 1) = dyL t (w 37 1) := (hm.2 _ (@dyRef_i w).1).1
  have hq2 : w2 37 8 = 1 ∨ (w2 37 8 = 0 ∧ MaC w2 m ∧ KyN w2 t2) := by
    rw [e37]
    rcases hq with h1 | ⟨h1, h2, h3⟩
    · exact Or.inl h1
    · exact Or.inr ⟨h1, hz h2, h3.ext (by funext s; unfold mK; rw [e37, er _ (by simp)]) e37 eL⟩
  have hst : (1 ≤ w2 45 2 ∧ w2 45 2 ≤ (b.2 : Int) + 1) ∧ (0 ≤ w2 45 3 ∧ 2 * w2 45 3 ≤ (dyL t2 (w2 45 0) : Int) + 1) ∧ MmT w2 t2 := ⟨by rw [mf.2.2.1]; exact s1, hu, d2.2.2.2.1⟩
  rcases gr with ⟨g1, g2, g3⟩ | ⟨g1, g2, g3, g4, g5, g6⟩
  · subst g1
    refine ⟨?_, ⟨rm1, by rw [e37, g2]; exact rm2⟩, hst, hq2⟩
    have eR : dyRef w2 = dyRef w := by unfold dyRef; rw [e37, g2, g3]
    have := hD
    unfold DyI at *
    rw [eR, e37, g2, g3]
    exact this
  · refine ⟨?_, ⟨?_, ?_⟩, hst, hq2⟩
    · have e1 : dyRef w2 = [w 37 1, w 37 2, w 37 3, w 37 4, w 37 5, w 37 6] ++ [w2 45 0, w2 45 1] := by unfold dyRef; rw [e37]; rfl
      refine ⟨?_, ?_, ?_, 4 * M, ?_, ⟨e + 1, by rw [Nat.pow_succ, ← he]; omega⟩, ⟨d2.1.1, ?_⟩, d2.1.2.1, ?_⟩
      · rw [e1, List.nodup_append]
        refine ⟨n1, ?_, fun a ha x hx => ?_⟩
        · simp only [List.nodup_cons, List.mem_cons, List.not_mem_nil, or_false, not_false_eq_true, and_true, List.nodup_nil]
          rw [g5, g6]
          omega
        · have rl := (hm.2 a (dyRef_m ha)).2
          have rr := hD.2.1 a (dyRef_m ha)
          simp only [List.mem_cons, List.not_mem_nil, or_false] at hx
          rcases hx with hx | hx
          · rw [hx, g5]; omega
          · rw [hx, g6]; omega
      · intro a ha
        rw [e1] at ha
        rcases List.mem_append.mp ha with ha | ha
        · exact hD.2.1 a (dyRef_m ha)
        · simp only [List.mem_cons, List.not_mem_nil, or_false] at ha
          rcases ha with ha | ha
          · rw [ha, g5]; omega
          · rw [ha, g6]; omega
      · rw [e37]; exact dR
      · have := d2.2.1; rw [g4, eM] at this; omega
      · show mM w2 t2 = _; rw [g4, eM]
      · rw [d2.1.2.2, g4, eM]
    · rw [g2, g3, eM]; omega
    · rw [e37, eL, show dyL t2 (w2 45 0) = 4 * mM w t from g4, g3]
      have : dyL t (w 45 0) = mM w t := rfl
      rw [this] at rm2
      omega
/-- the book and the machine, with what is noted -/
def MC (P : Int → Int → Prop) (b : Nat × Nat) (m w : eW) (t : eT) : Prop := DynQ w t b m ∧ MeP P w t ∧ b.2 < 1000000000
/-- only the book has changed -/
def MR (w : eW) (t : eT) (w2 : eW) (t2 : eT) : Prop := MF w t w2 t2 ∧ Lo w w2 ∧ w2 37 = w 37 ∧ ∀ a ∈ [w 37 1, w 37 2, w 37 3, w 37 4, w 37 5, w 37 6], w2 a.toNat = w a.toNat
theorem MR.rf (w : eW) (t : eT) : MR w t w t := ⟨MF.rf _ _, Lo.rf _, rfl, fun _ _ => rfl⟩
theorem MR.tr {w w1 w2 : eW} {t t1 t2 : eT} (h : MR w t w1 t1) (h2 : MR w1 t1 w2 t2) : MR w t w2 t2 := by
  obtain ⟨a1, a2, a3, a4⟩ := h
  obtain ⟨b1, b2, b3, b4⟩ := h2
  refine ⟨a1.tr b1, a2.tr b2, by rw [b3, a3], fun a ha => ?_⟩
  rw [b4 a (by rw [a3]; exact ha), a4 a ha]
theorem m_find {d : Nat} {w m : eW} {t : eT} {b : Nat × Nat} {k : Int} {P : Int → Int → Prop} (h : MC P b m w t ∧ 0 ≤ k ∧ k < 2147483648) : Cl (d + 2) 46 [rA 45, (0, k)] (enc w t) (fun r S2 => ∃ x, r = some (1, x) ∧ S2 = enc w t ∧ (x = -1 ∨ P k x)) := c_find ⟨(h.1.1.mmd h.1.2.2).1, h.1.2.1, h.2⟩
theorem m_put {d : Nat} {w m : eW} {t : eT} {b : Nat × Nat} {k v : Int} {P : Int → Int → Prop} (h : MC P b m w t ∧ (0 ≤ k ∧ k < 2147483648) ∧ P k v) : Cl (d + 3) 47 [rA 45, (0, k), (1, v)] (enc w t) (fun r S2 => ∃ w2 t2, r = none ∧ S2 = enc w2 t2 ∧ MR w t w2 t2 ∧ MC P b m w2 t2) := by
  obtain ⟨⟨hD, hP, hb⟩, hk, hv⟩ := h
  obtain ⟨m1, m2, m3⟩ := hD.mmd hb
  refine (c_put (P := P) ⟨m1, hP, hk, hv, m2, m3⟩).mono (fun r S2 ⟨w2, t2, e1, e2, mf, d2, p2, gr, u⟩ => ⟨w2, t2, e1, e2, ⟨mf, mf.lo hD.1⟩, hD.mf mf gr d2 u, p2, hb⟩)
/-- a call begins: nothing is noted -/
def clW (w : eW) : eW := wu (wu w 45 2 (w 45 2 + 1)) 45 3 0
theorem m_clear {w m : eW} {t : eT} {b : Nat × Nat} {P : Int → Int → Prop} (h : DynQ w t b m) (hb : b.2 + 1 < 1000000000) : MC P (b.1, b.2 + 1) m (clW w) t ∧ Lo w (clW w) ∧ clW w 37 = w 37 ∧ ∀ a ∈ [w 37 1, w 37 2, w 37 3, w 37 4, w 37 5, w 37 6], clW w a.toNat = w a.toNat := by
  have hmm := (h.mmd (by omega)).1
  obtain ⟨hD, ⟨rm1, rm2⟩, ⟨s1, s2, s3⟩, hq⟩ := h
  have ro : ∀ a, a ≠ 45 → clW w a = w a := fun a ha => by unfold clW; rw [wu_row ha, wu_row ha]
  have e0 : clW w 45 0 = w 45 0 := rfl
  have e1 : clW w 45 1 = w 45 1 := rfl
  have e2 : clW w 45 2 = w 45 2 + 1 := rfl
  have e3 : clW w 45 3 = 0 := rfl
  have e37 : clW w 37 = w 37 := ro 37 (by decide)
  have a0 := dyK_45 hmm.1.1
  have rt : clW w (w 45 0).toNat = w (w 45 0).toNat := ro _ a0.1
  have lo : Lo w (clW w) := fun a ha => ro a (by omega)
  have er : ∀ a ∈ [w 37 1, w 37 2, w 37 3, w 37 4, w 37 5, w 37 6], clW w a.toNat = w a.toNat := fun a ha => by
    have ra := hD.2.1 a (dyRef_m ha)
    exact ro _ (by omega)
  refine ⟨⟨⟨?_, ⟨rm1, ?_⟩, ⟨?_, ?_, ?_⟩, ?_⟩, ?_, hb⟩, lo, e37, er⟩
  · have eR : dyRef (clW w) = dyRef w := by unfold dyRef; rw [e37, e0, e1]
    have := hD
    unfold DyI at *
    rw [eR, e37, e0, e1]
    exact this
  · rw [e37, e0]; show _ ≤ _ + 6 * (b.2 + 1); omega
  · rw [e2]; show _ ∧ _ ≤ ((b.2 + 1 : Nat) : Int) + 1; omega
  · rw [e3, e0]; omega
  · unfold MmT
    rw [e0, e2, rt]
    intro j hj
    have := s3 j hj
    omega
  · rw [e37]
    rcases hq with h1 | ⟨h1, h2, h3⟩
    · exact Or.inl h1
    · refine Or.inr ⟨h1, h2.ext ?_ ?_ ?_ ?_ (by rw [e37]), h3.ext (by funext s; unfold mK; rw [e37, er _ (by simp)]) e37 rfl⟩
      · unfold mK; rw [e37, er _ (by simp)]
      · unfold mA; rw [e37, er _ (by simp)]
      · unfold mD; rw [e37, er _ (by simp)]
      · unfold mTl; rw [e37, er _ (by simp)]
  · intro j hj h9
    exfalso
    unfold mTag at h9
    rw [e0, e2, rt] at h9
    have hj2 : j < dyL t (w 45 0) := hj
    have := s3 j hj2
    omega

