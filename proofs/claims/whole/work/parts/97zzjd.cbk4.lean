/-! The class: noting and finding, between the calls of one count. -/

theorem c_putF {d e : Nat} {w : eW} {t : eT} {k v : Int} {P : Int → Int → Prop} (hD : MmD w t) (hP : MeP P w t) (hk : 0 ≤ k ∧ k < 2147483648) (hv : P k v) (hu : 0 ≤ w 45 3 ∧ 2 * w 45 3 ≤ (mM w t : Int) + 1) (h4 : mM w t < 262144 → 4 * mM w t ≤ 262144) (he : mM w t = 2 ^ e) (hcf : (cfW w t : Int) ≤ w 45 3) (hlt : w 45 3 ≤ 32000) : Cl (d + 3) 47 [rA 45, (0, k), (1, v)] (enc w t) (fun r S2 => ∃ w2 t2, r = none ∧ S2 = enc w2 t2 ∧ MF w t w2 t2 ∧ MmD w2 t2 ∧ MeP P w2 t2 ∧ GrQ w t w2 t2 ∧ BkS w t w2 t2 k) := by
  have hD0 := hD
  obtain ⟨⟨k0, k1, l1⟩, hM, hs, hT, hne⟩ := hD
  have eM : dyL t (w 45 0) = mM w t := rfl
  refine g_put ⟨Or.inr k0, ?_⟩
  rw [eM, w32_id (x := 2 * w 45 3) (by omega), w32_id (x := (mM w t : Int)) (by omega), w32_id (x := 262144) (by decide)]
  refine ⟨fun h1 => c_put1F hD0 hP hk hv (by omega) he hcf (fun w2 g1 g2 g3 g4 g5 g6 => ⟨w2, t, rfl, rfl, g1, g2, g3, Or.inl ⟨rfl, g4, g5⟩, g6⟩), fun h1 => ⟨Or.inr k0, fun h2 => ?_, fun h2 => by exfalso; omega⟩⟩
  refine (c_growF hD0 hP (h4 (by omega)) he).mono (fun r S2 ⟨w2, t2, e1, e2, mf, d2, p2, ⟨q1, q2, q3, q4, q5⟩, e3, b1, b2, b3⟩ => ?_)
  subst e1 e2
  refine ⟨fun _ h9 => (by cases h9), c_put1F (e := e + 2) d2 p2 hk hv ⟨by rw [e3]; exact hu.1, by rw [e3, q3]; omega⟩ (by rw [q3, Nat.pow_add, ← he]; omega) (by rw [e3]; omega) (fun w3 g1 g2 g3 g4 g5 g6 => ⟨w3, t2, rfl, rfl, mf.tr g1, g2, g3, Or.inr ⟨by omega, q1, q2, by unfold mM; rw [g4]; exact q3, by rw [g4, q4], by rw [g5, q5]⟩, ?_⟩)⟩
  obtain ⟨u1, u2, ⟨u3, u4⟩, u5, u6, u7⟩ := g6
  refine ⟨u1, u2, ⟨by rw [← e3]; exact u3, fun hf => by rw [← e3]; exact u4 (b2 _ hf)⟩, fun q hq => u5 q (b2 q hq), u6, fun j hj hf => ?_⟩
  rcases u7 j hj hf with h8 | ⟨i, i1, i2, i3⟩
  · exact Or.inl h8
  · obtain ⟨i', c1, c2, c3⟩ := b3 i i1 i2
    exact Or.inr ⟨i', c1, c2, by rw [c3]; exact i3⟩
theorem m_findF {d : Nat} {w m : eW} {t : eT} {b : Nat × Nat} {k : Int} {P : Int → Int → Prop} (h : MC P b m w t ∧ 0 ≤ k ∧ k < 2147483648) : Cl (d + 2) 46 [rA 45, (0, k)] (enc w t) (fun r S2 => ∃ x, r = some (1, x) ∧ S2 = enc w t ∧ ((x = -1 ∧ ¬ Fnd w t k) ∨ (P k x ∧ ∃ j, j < mM w t ∧ tF (w 45 2) (mTag w) j ∧ tK (mTag w) j = k))) := c_findF ⟨(h.1.1.mmd h.1.2.2).1, h.1.2.1, h.2⟩
theorem m_putF {d : Nat} {w m : eW} {t : eT} {b : Nat × Nat} {k v : Int} {P : Int → Int → Prop} (h : MC P b m w t ∧ (0 ≤ k ∧ k < 2147483648) ∧ P k v ∧ (cfW w t : Int) ≤ w 45 3 ∧ w 45 3 ≤ 32000) : Cl (d + 3) 47 [rA 45, (0, k), (1, v)] (enc w t) (fun r S2 => ∃ w2 t2, r = none ∧ S2 = enc w2 t2 ∧ MR w t w2 t2 ∧ MC P b m w2 t2 ∧ BkS w t w2 t2 k) := by
  obtain ⟨⟨hD, hP, hb⟩, hk, hv, hcf, hlt⟩ := h
  obtain ⟨m1, m2, m3⟩ := hD.mmd hb
  obtain ⟨e, he⟩ : ∃ e, mM w t = 2 ^ e := by
    obtain ⟨⟨_, _, _, M, _, ⟨e, he⟩, a7, _⟩, _⟩ := hD
    refine ⟨2 * e, ?_⟩
    rw [Nat.pow_mul]
    exact a7.2.trans he
  exact (c_putF m1 hP hk hv m2 m3 he hcf hlt).mono (fun r S2 ⟨w2, t2, e1, e2, mf, d2, p2, gr, bk⟩ => ⟨w2, t2, e1, e2, ⟨mf, mf.lo hD.1⟩, ⟨hD.mf mf gr d2 bk.1, p2, hb⟩, bk⟩)
/-- the keys that are noted -/
def Bk (N : Nat) (w : eW) (t : eT) (S : List Nat) : Prop := (S.Nodup ∧ ∀ c ∈ S, c < 7 * N) ∧ (cfW w t : Int) ≤ w 45 3 ∧ (0 ≤ w 45 3 ∧ w 45 3 ≤ (S.length : Int)) ∧ (∀ c ∈ S, Fnd w t ((c : Nat) : Int)) ∧ ∀ j, j < mM w t → tF (w 45 2) (mTag w) j → ∃ c ∈ S, tK (mTag w) j = ((c : Nat) : Int)
theorem bk_gm {L : List Nat} {k : Nat} (h : k < L.length) : L.getD k 0 ∈ L := by
  rw [List.getD_eq_getElem?_getD, List.getElem?_eq_getElem h]
  exact List.getElem_mem h
theorem bk_len {N : Nat} {w : eW} {t : eT} {S : List Nat} (h : Bk N w t S) : S.length ≤ 7 * N := by
  refine pgn (7 * N) S.length (fun k => S.getD k 0) (fun k hk => h.1.2 _ (bk_gm hk)) (fun k j hk hj e => ?_)
  have ec : S.getD k 0 = S.getD j 0 := e
  rw [List.getD_eq_getElem?_getD, List.getD_eq_getElem?_getD, List.getElem?_eq_getElem hk, List.getElem?_eq_getElem hj] at ec
  have ec : S[k] = S[j] := ec
  have hpw := List.pairwise_iff_getElem.mp h.1.1
  rcases Nat.lt_trichotomy k j with h9 | h9 | h9
  · exact absurd ec (hpw k j hk hj h9)
  · exact h9
  · exact absurd ec.symm (hpw j k hj hk h9)
theorem bk_put {N c : Nat} {w w2 : eW} {t t2 : eT} {S : List Nat} (h : Bk N w t S) (hc : c < 7 * N) (hb : BkS w t w2 t2 ((c : Nat) : Int)) : ∃ S2, Bk N w2 t2 S2 ∧ (∀ a ∈ S, a ∈ S2) ∧ c ∈ S2 ∧ ∀ a ∈ S2, a ∈ S ∨ a = c := by
  obtain ⟨⟨h1, h2⟩, h3, h4, h5, h6⟩ := h
  obtain ⟨u1, u2, ⟨u3, u4⟩, u5, u6, u7⟩ := hb
  by_cases h9 : c ∈ S
  · have e3 := u4 (h5 c h9)
    refine ⟨S, ⟨⟨h1, h2⟩, u2, by rw [e3]; exact h4, fun a ha => u5 _ (h5 a ha), fun j hj hf => ?_⟩, fun a ha => ha, h9, fun a ha => Or.inl ha⟩
    rcases u7 j hj hf with h8 | ⟨i, i1, i2, i3⟩
    · exact ⟨c, h9, h8⟩
    · obtain ⟨a, a1, a2⟩ := h6 i i1 i2
      exact ⟨a, a1, by rw [← i3]; exact a2⟩
  · refine ⟨S ++ [c], ⟨⟨?_, fun a ha => ?_⟩, u2, ⟨u1.1, by rw [List.length_append, List.length_cons, List.length_nil]; omega⟩, fun a ha => ?_, fun j hj hf => ?_⟩, fun a ha => List.mem_append_left _ ha, List.mem_append_right _ (List.mem_singleton.mpr rfl), fun a ha => ?_⟩
    · refine List.nodup_append.mpr ⟨h1, List.nodup_cons.mpr ⟨List.not_mem_nil, List.nodup_nil⟩, fun a ha x hx => ?_⟩
      rw [List.mem_singleton] at hx
      intro h8
      rw [h8, hx] at ha
      exact h9 ha
    · rcases List.mem_append.mp ha with h8 | h8
      · exact h2 a h8
      · rw [List.mem_singleton.mp h8]; exact hc
    · rcases List.mem_append.mp ha with h8 | h8
      · exact u5 _ (h5 a h8)
      · rw [List.mem_singleton.mp h8]; exact u6
    · rcases u7 j hj hf with h8 | ⟨i, i1, i2, i3⟩
      · exact ⟨c, List.mem_append_right _ (List.mem_singleton.mpr rfl), h8⟩
      · obtain ⟨a, a1, a2⟩ := h6 i i1 i2
        exact ⟨a, List.mem_append_left _ a1, by rw [← i3]; exact a2⟩
    · rcases List.mem_append.mp ha with h8 | h8
      · exact Or.inl h8
      · exact Or.inr (List.mem_singleton.mp h8)
theorem bk_clr {N : Nat} {w m : eW} {t : eT} {b : Nat × Nat} (h : DynQ w t b m) : Bk N (clW w) t [] := by
  have hmt := h.2.2.1.2.2
  obtain ⟨s1, s2⟩ := h.2.2.1.1
  have nf : ∀ j, j < mM (clW w) t → ¬ tF (clW w 45 2) (mTag (clW w)) j := fun j hj h9 => by
    have h9 : mTag (clW w) j / 4294967296 = w 45 2 + 1 := h9
    have hj2 : j < dyL t (w 45 0) := hj
    have h8 := hmt j hj2
    have hne : (w 45 0).toNat ≠ 45 := by
      have := h.1.2.1 _ (@dyRef_i w).2.2.2.2.2.2.1
      omega
    have e : mTag (clW w) j = w (w 45 0).toNat j := by
      show clW w (w 45 0).toNat j = _
      unfold clW
      rw [wu_row hne, wu_row hne]
    rw [e] at h9
    omega
  have hz : cfW (clW w) t = 0 := by
    unfold cfW tCf
    rw [sm_zero]
    intro i hi
    exact if_neg (nf i hi)
  refine ⟨⟨List.nodup_nil, fun c hc => by cases hc⟩, ?_, ?_, fun c hc => (by cases hc), fun j hj h9 => absurd h9 (nf j hj)⟩
  · rw [hz]; show ((0 : Nat) : Int) ≤ 0; decide
  · show (0 : Int) ≤ 0 ∧ (0 : Int) ≤ ((0 : Nat) : Int); decide
/-- nothing of the book has changed -/
theorem bk_cg {N : Nat} {w w2 : eW} {t : eT} {S : List Nat} (h : Bk N w t S) (e : w2 45 = w 45) (er : w2 (w 45 0).toNat = w (w 45 0).toNat) : Bk N w2 t S := by
  obtain ⟨c1, c2, c3, c4⟩ := bk_cong (t := t) (show w2 45 2 = w 45 2 by rw [e]) (by rw [e]) er
  obtain ⟨h1, h3, h4, h5, h6⟩ := h
  exact ⟨h1, by rw [c4, e]; exact h3, by rw [e]; exact h4, fun c hc => by rw [c3]; exact h5 c hc, by rw [c1, c2, e]; exact h6⟩
