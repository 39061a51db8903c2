/-! The class: what is noted stays so, and is found. -/

def BkS (w : eW) (t : eT) (w2 : eW) (t2 : eT) (k : Int) : Prop := (0 ≤ w2 45 3 ∧ 2 * w2 45 3 ≤ (mM w2 t2 : Int) + 1) ∧ (cfW w2 t2 : Int) ≤ w2 45 3 ∧ (w2 45 3 ≤ w 45 3 + 1 ∧ (Fnd w t k → w2 45 3 = w 45 3)) ∧ (∀ q, Fnd w t q → Fnd w2 t2 q) ∧ Fnd w2 t2 k ∧ ∀ j, j < mM w2 t2 → tF (w2 45 2) (mTag w2) j → tK (mTag w2) j = k ∨ ∃ i, i < mM w t ∧ tF (w 45 2) (mTag w) i ∧ tK (mTag w) i = tK (mTag w2) j
theorem mTag_set {w : eW} {t : eT} {x : Nat} {T V : Int} (hD : MmD w t) : mTag (wu (wu w (w 45 0).toNat x T) (w 45 1).toNat x V) = tSt (mTag w) x T ∧ wu (wu w (w 45 0).toNat x T) (w 45 1).toNat x V 45 = w 45 := by
  obtain ⟨⟨k0, k1, l1⟩, hM, hs, hT2, hne⟩ := hD
  have a0 := dyK_45 k0
  have a1 := dyK_45 k1
  have nn : (w 45 0).toNat ≠ (w 45 1).toNat := by omega
  have r45 : wu (wu w (w 45 0).toNat x T) (w 45 1).toNat x V 45 = w 45 := by rw [wu_row (fun h9 => a1.1 h9.symm), wu_row (fun h9 => a0.1 h9.symm)]
  refine ⟨?_, r45⟩
  funext j
  unfold mTag tSt
  rw [r45, wu_na _ _ nn]
  by_cases h9 : j = x
  · rw [if_pos h9, h9, wu_eq]
  · rw [if_neg h9, wu_nk _ _ h9]
theorem mM_45 {w w2 : eW} {t : eT} (e : w2 45 = w 45) : mM w2 t = mM w t := by unfold mM; rw [e]
/-- one key more, at the place where looking for it ends -/
theorem bk_set {w : eW} {t : eT} {n : Nat} {T V k : Int} (hD : MmD w t) (hn : n < mM w t) (hT : T / 4294967296 = w 45 2) (hk : T % 4294967296 = k) (h : tEn (w 45 2) (mTag w) (mM w t) k n) : (∀ q, Fnd w t q → Fnd (wu (wu w (w 45 0).toNat (tpl (mM w t) k n) T) (w 45 1).toNat (tpl (mM w t) k n) V) t q) ∧ Fnd (wu (wu w (w 45 0).toNat (tpl (mM w t) k n) T) (w 45 1).toNat (tpl (mM w t) k n) V) t k ∧ cfW (wu (wu w (w 45 0).toNat (tpl (mM w t) k n) T) (w 45 1).toNat (tpl (mM w t) k n) V) t = cfW w t + (if tF (w 45 2) (mTag w) (tpl (mM w t) k n) then 0 else 1) ∧ ∀ j, tF (w 45 2) (mTag (wu (wu w (w 45 0).toNat (tpl (mM w t) k n) T) (w 45 1).toNat (tpl (mM w t) k n) V)) j → tK (mTag (wu (wu w (w 45 0).toNat (tpl (mM w t) k n) T) (w 45 1).toNat (tpl (mM w t) k n) V)) j = k ∨ (tF (w 45 2) (mTag w) j ∧ tK (mTag (wu (wu w (w 45 0).toNat (tpl (mM w t) k n) T) (w 45 1).toNat (tpl (mM w t) k n) V)) j = tK (mTag w) j) := by
  obtain ⟨e1, e2⟩ := mTag_set (x := tpl (mM w t) k n) (T := T) (V := V) hD
  have hM := hD.2.1
  unfold Fnd cfW
  rw [mM_45 e2, e1, e2]
  exact t_put (M := mM w t) (by omega) hT hk hn h
theorem bk_cong {w w2 : eW} {t : eT} (e2 : w2 45 2 = w 45 2) (e0 : w2 45 0 = w 45 0) (er : w2 (w 45 0).toNat = w (w 45 0).toNat) : mTag w2 = mTag w ∧ mM w2 t = mM w t ∧ (∀ q, Fnd w2 t q = Fnd w t q) ∧ cfW w2 t = cfW w t := by
  have e1 : mTag w2 = mTag w := by funext j; unfold mTag; rw [e0, er]
  have e3 : mM w2 t = mM w t := by unfold mM; rw [e0]
  refine ⟨e1, e3, fun q => ?_, ?_⟩
  · unfold Fnd; rw [e1, e2, e3]
  · unfold cfW; rw [e1, e2, e3]
set_option maxHeartbeats 1000000 in
theorem c_growF {d e : Nat} {w : eW} {t : eT} {P : Int → Int → Prop} (hD : MmD w t) (hP : MeP P w t) (hM2 : 4 * mM w t ≤ 262144) (he : mM w t = 2 ^ e) : Cl (d + 2) 48 [rA 45] (enc w t) (fun r S2 => ∃ w2 t2, r = none ∧ S2 = enc w2 t2 ∧ MF w t w2 t2 ∧ MmD w2 t2 ∧ MeP P w2 t2 ∧ (t2.2.1 = t.2.1 + 2 ∧ t2.2.2 = t.2.2 + 8 * mM w t ∧ mM w2 t2 = 4 * mM w t ∧ w2 45 0 = ((102 + t.2.1 : Nat) : Int) ∧ w2 45 1 = ((102 + t.2.1 + 1 : Nat) : Int)) ∧ w2 45 3 = w 45 3 ∧ cfW w2 t2 ≤ cfW w t ∧ (∀ q, Fnd w t q → Fnd w2 t2 q) ∧ ∀ j, j < mM w2 t2 → tF (w2 45 2) (mTag w2) j → ∃ i, i < mM w t ∧ tF (w 45 2) (mTag w) i ∧ tK (mTag w) i = tK (mTag w2) j) := by
  have hD0 := hD
  obtain ⟨⟨k0, k1, l1⟩, hM, hs, hT, hne⟩ := hD
  have a0 := dyK_45 k0
  have a1 := dyK_45 k1
  have eM : dyL t (w 45 0) = mM w t := rfl
  have q1 := tn_more (t := t) (kd := 21) (n := 4 * mM w t)
  obtain ⟨m1, m2⟩ := dyK_more k0 q1.1 q1.2
  rw [eM] at m2
  refine g_growA ?_
  rw [eM, w32_id (x := 4 * (mM w t : Int)) (by omega), show (4 * (mM w t : Int)).toNat = 4 * mM w t by omega, m2, w32_id (x := 4 * (mM w t : Int)) (by omega), show (4 * (mM w t : Int)).toNat = 4 * mM w t by omega]
  refine ⟨by omega, by omega, by omega, Or.inr k0, by omega, by omega, by omega, Or.inr m1, by omega, by omega, ?_⟩
  have ec2 : 102 + (tn t 21 (4 * mM w t)).2.1 = 102 + t.2.1 + 1 := rfl
  rw [ec2]
  have q2 := tn_more (t := tn t 21 (4 * mM w t)) (kd := 21) (n := 4 * mM w t)
  have d1 := dyK_tn (t := t) (kd := 21) (n := 4 * mM w t)
  have d2 := dyK_tn (t := tn t 21 (4 * mM w t)) (kd := 21) (n := 4 * mM w t)
  obtain ⟨d3, d4⟩ := dyK_more d1.1 q2.1 q2.2
  rw [d1.2] at d4
  rw [ec2] at d2
  obtain ⟨A1, A2⟩ := dyK_more m1 q2.1 q2.2
  rw [m2] at A2
  have q12 : ∀ x, x < 102 + t.2.1 → (tn (tn t 21 (4 * mM w t)) 21 (4 * mM w t)).1 x = t.1 x := fun x hx => by rw [q2.2 x (by show x < 102 + (t.2.1 + 1); omega), q1.2 x hx]
  obtain ⟨B1, B2⟩ := dyK_more k1 (t2 := tn (tn t 21 (4 * mM w t)) 21 (4 * mM w t)) (by show t.2.1 ≤ t.2.1 + 1 + 1; omega) q12
  rw [l1] at B2
  generalize ht2 : tn (tn t 21 (4 * mM w t)) 21 (4 * mM w t) = t2 at *
  have tt1 : t2.2.1 = t.2.1 + 2 := by rw [← ht2]; rfl
  have tt2 : t2.2.2 = t.2.2 + 8 * mM w t := by rw [← ht2]; show t.2.2 + 4 * mM w t + 4 * mM w t = _; omega
  generalize hw1 : wu (wz (wu (wz w (102 + t.2.1)) 45 0 ((102 + t.2.1 : Nat) : Int)) (102 + t.2.1 + 1)) 45 1 ((102 + t.2.1 + 1 : Nat) : Int) = w1
  have z : ∀ a k, w1 a k = if a = 45 ∧ k = 1 then ((102 + t.2.1 + 1 : Nat) : Int) else if a = 102 + t.2.1 + 1 then 0 else if a = 45 ∧ k = 0 then ((102 + t.2.1 : Nat) : Int) else if a = 102 + t.2.1 then 0 else w a k := fun a k => by
    rw [← hw1]
    rfl
  have r0 : w1 45 0 = ((102 + t.2.1 : Nat) : Int) := by rw [z, if_neg (by omega), if_neg (by omega), if_pos (by omega)]
  have r1 : w1 45 1 = ((102 + t.2.1 + 1 : Nat) : Int) := by rw [z, if_pos (by omega)]
  have rk : ∀ k, 2 ≤ k → w1 45 k = w 45 k := fun k hk => by rw [z, if_neg (by omega), if_neg (by omega), if_neg (by omega), if_neg (by omega)]
  have ro : ∀ a, a ≠ 45 → a ≠ 102 + t.2.1 → a ≠ 102 + t.2.1 + 1 → w1 a = w a := fun a h1 h2 h3 => by funext k; rw [z, if_neg (by omega), if_neg h3, if_neg (by omega), if_neg h2]
  have zc : ∀ j, w1 (102 + t.2.1) j = 0 := fun j => by rw [z, if_neg (by omega), if_neg (by omega), if_neg (by omega), if_pos rfl]
  have mM1 : mM w1 t2 = 4 * mM w t := by unfold mM; rw [r0]; exact d4
  have zt : ∀ j, mTag w1 j = 0 := fun j => by unfold mTag; rw [r0, Int.toNat_natCast, zc]
  have mD1 : MmD w1 t2 := by
    refine ⟨⟨by rw [r0]; exact d3, by rw [r1]; exact d2.1, by rw [r1, mM1]; exact d2.2⟩, by rw [mM1]; omega, by rw [rk 2 (by decide)]; exact hs, fun j _ => ?_, by rw [r0, r1]; omega⟩
    rw [zt, rk 2 (by decide)]
    omega
  have mP1 : MeP P w1 t2 := fun j _ h9 => by
    rw [zt, rk 2 (by decide)] at h9
    omega
  have nf1 : ∀ j, ¬ tF (w1 45 2) (mTag w1) j := fun j h9 => by
    have h9 : mTag w1 j / 4294967296 = w1 45 2 := h9
    rw [zt, rk 2 (by decide)] at h9
    omega
  have fin : ∀ w2, (∀ a, a ≠ 102 + t.2.1 → a ≠ 102 + t.2.1 + 1 → w2 a = w1 a) → MmD w2 t2 → MeP P w2 t2 → MF w t w2 t2 ∧ MmD w2 t2 ∧ MeP P w2 t2 ∧ (t2.2.1 = t.2.1 + 2 ∧ t2.2.2 = t.2.2 + 8 * mM w t ∧ mM w2 t2 = 4 * mM w t ∧ w2 45 0 = ((102 + t.2.1 : Nat) : Int) ∧ w2 45 1 = ((102 + t.2.1 + 1 : Nat) : Int)) ∧ w2 45 3 = w 45 3 := fun w2 h1 h2 h3 => by
    have e45 : w2 45 = w1 45 := h1 45 (by omega) (by omega)
    refine ⟨⟨⟨by omega, q12⟩, fun a g1 g2 g3 g4 => ?_, by rw [e45, rk 2 (by decide)], Or.inr ⟨by rw [e45, r0, Int.toNat_natCast]; omega, by rw [e45, r1, Int.toNat_natCast]; omega⟩⟩, h2, h3, ⟨tt1, tt2, by unfold mM; rw [e45]; exact mM1, by rw [e45, r0], by rw [e45, r1]⟩, by rw [e45, rk 3 (by decide)]⟩
    rw [h1 a (by omega) (by omega), ro a g4 (by omega) (by omega)]
  generalize hQ : (fun (r : Option aV) (S2 : aS) => ∃ w2 t2, r = none ∧ S2 = enc w2 t2 ∧ MF w t w2 t2 ∧ MmD w2 t2 ∧ MeP P w2 t2 ∧ (t2.2.1 = t.2.1 + 2 ∧ t2.2.2 = t.2.2 + 8 * mM w t ∧ mM w2 t2 = 4 * mM w t ∧ w2 45 0 = ((102 + t.2.1 : Nat) : Int) ∧ w2 45 1 = ((102 + t.2.1 + 1 : Nat) : Int)) ∧ w2 45 3 = w 45 3 ∧ cfW w2 t2 ≤ cfW w t ∧ (∀ q, Fnd w t q → Fnd w2 t2 q) ∧ ∀ j, j < mM w2 t2 → tF (w2 45 2) (mTag w2) j → ∃ i, i < mM w t ∧ tF (w 45 2) (mTag w) i ∧ tK (mTag w) i = tK (mTag w2) j) = Q
  refine lq2 (σ := eW) (τ := aV) (fun i w2 J => Ev (d + 2) 48 Q 32 [rA 45, (2, w 45 0), (2, w 45 1), (0, (i : Int)), J] [] (enc w2 t2)) (fun i w2 => ((∀ a, a ≠ 102 + t.2.1 → a ≠ 102 + t.2.1 + 1 → w2 a = w1 a) ∧ MmD w2 t2 ∧ MeP P w2 t2) ∧ cfW w2 t2 ≤ tCf (w 45 2) (mTag w) i ∧ (∀ j, j < i → tF (w 45 2) (mTag w) j → Fnd w2 t2 (tK (mTag w) j)) ∧ ∀ j, j < mM w2 t2 → tF (w2 45 2) (mTag w2) j → ∃ i, i < mM w t ∧ tF (w 45 2) (mTag w) i ∧ tK (mTag w) i = tK (mTag w2) j) (mM w t) ?_ ?_ 0 w1 (9, 0) (Nat.zero_le _) ⟨⟨fun _ _ _ => rfl, mD1, mP1⟩, ?_, fun j hj => absurd hj (Nat.not_lt_zero j), fun j _ h9 => absurd h9 (nf1 j)⟩
  · rintro i w2 J hi ⟨⟨h1, h2, h3⟩, hcf, hfn, hky⟩ hE
    have e45 : w2 45 = w1 45 := h1 45 (by omega) (by omega)
    have eA : w2 (w 45 0).toNat = w (w 45 0).toNat := by rw [h1 _ (by omega) (by omega), ro _ a0.1 (by omega) (by omega)]
    have eB : w2 (w 45 1).toNat = w (w 45 1).toNat := by rw [h1 _ (by omega) (by omega), ro _ a1.1 (by omega) (by omega)]
    have hti := hT i hi
    have e0 : w2 45 0 = ((102 + t.2.1 : Nat) : Int) := by rw [e45, r0]
    have e1 : w2 45 1 = ((102 + t.2.1 + 1 : Nat) : Int) := by rw [e45, r1]
    have e2 : w2 45 2 = w 45 2 := by rw [e45, rk 2 (by decide)]
    have emM : dyL t2 (w2 45 0) = 4 * mM w t := by rw [e0]; exact d4
    have em2 : mM w2 t2 = 4 * mM w t := emM
    have h2d := h2
    obtain ⟨⟨z0, z1, z2⟩, _⟩ := h2d
    have hcs : tCf (w 45 2) (mTag w) (i + 1) = tCf (w 45 2) (mTag w) i + (if mTag w i / 4294967296 = w 45 2 then 1 else 0) := rfl
    refine g_growF ⟨by omega, Or.inr A1, ?_⟩
    rw [A2, w32_id (x := (i : Int)) (by omega), w32_id (x := (mM w t : Int)) (by omega), Int.toNat_natCast, eA, show w (w 45 0).toNat i = mTag w i from rfl, lushr32 (by omega), w32_id (x := mTag w i / 4294967296) (by omega), e2, w32_id (x := w 45 2) (by omega)]
    have hi2 : (0 : Int) ≤ (i : Int) ∧ (i : Int) < (mM w t : Int) := by omega
    refine ⟨fun h9 => by omega, fun _ => ⟨by omega, ⟨A1, by omega, by omega⟩, fun h9 => hE w2 _ ⟨⟨h1, h2, h3⟩, by rw [hcs]; omega, fun j hj hf => ?_, hky⟩, fun h9 => ⟨by omega, ⟨A1, by omega, by omega⟩, ⟨⟨h2, fun j g1 g2 => (h3 j g1 (by rw [e2]; exact g2)).1⟩, ?_⟩, fun x hx => ?_⟩⟩⟩
    · by_cases h8 : j = i
      · rw [h8] at hf
        exact absurd hf h9
      · exact hfn j (by omega) hf
    · have h9' := Classical.not_not.mp h9
      rw [w32_low (hP i hi h9').1]
      omega
    have h9' := Classical.not_not.mp h9
    have hlow := (hP i hi h9').1
    have ekk : w32 (mTag w i) = tK (mTag w) i := w32_low hlow
    have hx2 := PlS_w hx
    rw [ekk] at hx2
    unfold PlS at hx2
    have ek2 : w32 (tK (mTag w) i) = tK (mTag w) i := by rw [← ekk, w32_tw]
    rw [ek2, em2, e2] at hx2
    have hfree : cfW w2 t2 < 4 * mM w t := by have := tCf_le (w 45 2) (mTag w) i; omega
    rcases hx2 with ⟨_, hn⟩ | ⟨n, hn, hxe, hq, hl⟩
    · exfalso
      have hf2 := t_free (s := w2 45 2) (tg := mTag w2) (M := 4 * mM w t) (e := e + 2) (by omega) (by rw [Nat.pow_add, ← he]; omega) (tK (mTag w) i) (by have h7 := hfree; unfold cfW at h7; rw [em2] at h7; exact h7)
      rw [e2] at hf2
      exact hf2 hn
    · have hb := tps_b (M := 4 * mM w t) (by omega) (tK (mTag w) i) n
      rw [← hxe] at hb
      have ex : x.toNat = tpl (4 * mM w t) (tK (mTag w) i) n := by rw [hxe]; rfl
      rw [w32_id (x := x) (by omega), w32_id (x := -1) (by decide)]
      refine ⟨fun h8 => by omega, fun _ => ?_⟩
      have s45 : wu w2 (w2 45 0).toNat x.toNat (mTag w i) 45 1 = w2 45 1 := wu_na _ _ (by rw [e0, Int.toNat_natCast]; omega)
      have sB : wu w2 (w2 45 0).toNat x.toNat (mTag w i) (w 45 1).toNat i = mVal w i := by
        rw [wu_na _ _ (by rw [e0, Int.toNat_natCast]; omega), eB]
        rfl
      rw [s45, sB, z2, em2, emM]
      have hslot := setSlot (P := P) (x := x.toNat) (T := mTag w i) (V := mVal w i) h2 h3 (by rw [em2]; omega) ⟨by rw [e2]; exact h9', hP i hi h9'⟩
      have hst := mTag_set (x := x.toNat) (T := mTag w i) (V := mVal w i) h2
      have hbk := bk_set (n := n) (T := mTag w i) (V := mVal w i) (k := tK (mTag w) i) h2 (by rw [em2]; exact hn) (by rw [e2]; exact h9') rfl (by rw [em2, e2]; exact ⟨hq, hl⟩)
      rw [em2, ← ex] at hbk
      obtain ⟨b1, b2, b3, b4⟩ := hbk
      refine ⟨by omega, ⟨A1, by omega, by omega⟩, ⟨z0, by omega, by omega⟩, by omega, ⟨B1, by omega, by rw [B2]; omega⟩, ⟨z1, by omega, by omega⟩, hE _ _ ⟨⟨fun a g1 g2 => ?_, hslot.1, hslot.2.1⟩, ?_, fun j hj hf => ?_, fun j hj hf => ?_⟩⟩
      · rw [hslot.2.2 a (by rw [e0, Int.toNat_natCast]; exact g1) (by rw [e1, Int.toNat_natCast]; exact g2)]
        exact h1 a g1 g2
      · rw [b3, hcs, if_pos h9']
        split <;> omega
      · by_cases h8 : j = i
        · rw [h8]; exact b2
        · exact b1 _ (hfn j (by omega) hf)
      · rw [hst.2, e2] at hf
        rw [e2] at b4
        rcases b4 j hf with h8 | ⟨h8, h7⟩
        · exact ⟨i, hi, h9', h8.symm⟩
        · obtain ⟨i2, c1, c2, c3⟩ := hky j (by rw [mM_45 hst.2] at hj; exact hj) (by rw [e2]; exact h8)
          exact ⟨i2, c1, c2, by rw [h7]; exact c3⟩
  · rintro w2 J ⟨⟨h1, h2, h3⟩, hcf, hfn, hky⟩
    refine g_growF ⟨by omega, Or.inr A1, fun _ => ?_, fun h9 => absurd (by rw [A2]; exact Int.le_refl _) h9⟩
    obtain ⟨f1, f2, f3, f4, f5⟩ := fin w2 h1 h2 h3
    rw [← hQ]
    refine ⟨w2, t2, rfl, rfl, f1, f2, f3, f4, f5, hcf, fun q hq => ?_, hky⟩
    obtain ⟨n, n1, n2, n3, n4⟩ := hq
    have := hfn (tpl (mM w t) q n) (tpl_lt (by omega) q n) n3
    rw [n4] at this
    exact this
  · have : cfW w1 t2 = 0 := by
      unfold cfW tCf
      rw [sm_zero]
      intro i _
      exact if_neg (nf1 i)
    rw [this]
    exact Nat.zero_le _
theorem c_put1F {d e : Nat} {w : eW} {t : eT} {k v : Int} {P : Int → Int → Prop} {Q : Option aV → aS → Prop} (hD : MmD w t) (hP : MeP P w t) (hk : 0 ≤ k ∧ k < 2147483648) (hv : P k v) (hu : 0 ≤ w 45 3 ∧ 2 * w 45 3 < (mM w t : Int)) (he : mM w t = 2 ^ e) (hcf : (cfW w t : Int) ≤ w 45 3)
    (hQ : ∀ w2, MF w t w2 t → MmD w2 t → MeP P w2 t → w2 45 0 = w 45 0 → w2 45 1 = w 45 1 → BkS w t w2 t k → Q none (enc w2 t)) : Ev (d + 3) 47 Q 29 [rA 45, (0, k), (1, v), (9, 0), (9, 0)] [] (enc w t) := by
  have hD0 := hD
  obtain ⟨⟨k0, k1, l1⟩, hM, hs, hT, hne⟩ := hD
  have a0 := dyK_45 k0
  have a1 := dyK_45 k1
  have eM : dyL t (w 45 0) = mM w t := rfl
  have ek : w32 k = k := w32_id (by omega)
  refine g_putF ⟨⟨⟨hD0, fun j h1 h2 => (hP j h1 h2).1⟩, by omega⟩, fun x hx => ?_⟩
  unfold PlS at hx
  rw [ek] at hx
  rcases hx with ⟨rfl, hn⟩ | ⟨n, hn, hxe, hq, hl⟩
  · exact absurd hn (t_free (e := e) (by omega) he k (by have h7 : (cfW w t : Int) ≤ w 45 3 := hcf; unfold cfW at h7; omega))
  · have hb := tps_b (M := mM w t) (by omega) k n
    rw [← hxe] at hb
    have ex : x.toNat = tpl (mM w t) k n := by rw [hxe]; rfl
    have ht := hT x.toNat (by omega)
    have tg := tagE (s := w 45 2) (k := k) (by omega) hk
    rw [tg, eM, w32_id (x := x) (by omega), w32_id (x := -1) (by decide), show w (w 45 0).toNat x.toNat = mTag w x.toNat from rfl, lushr32 (by omega), w32_id (x := mTag w x.toNat / 4294967296) (by omega), w32_id (x := w 45 2) (by omega)]
    have T1 : (w 45 2 * 4294967296 + k) / 4294967296 = w 45 2 := by omega
    have T2 : (w 45 2 * 4294967296 + k) % 4294967296 = k := by omega
    have s1 : wu w (w 45 0).toNat x.toNat (w 45 2 * 4294967296 + k) 45 1 = w 45 1 := wu_na _ _ (fun h9 => a0.1 h9.symm)
    have s3 : wu (wu w 45 3 (w 45 3 + 1)) (w 45 0).toNat x.toNat (w 45 2 * 4294967296 + k) 45 1 = w 45 1 := by rw [wu_na _ _ (fun h9 => a0.1 h9.symm)]; rfl
    rw [s1, s3, l1]
    refine ⟨fun _ => ⟨⟨k0, hb⟩, fun h1 => ⟨⟨k0, hb⟩, ⟨k1, hb⟩, ?_⟩, fun h1 => ⟨⟨k0, hb⟩, ⟨k1, hb⟩, ?_⟩⟩, fun h9 => absurd (by omega) h9⟩
    · have hz := setSlot (P := P) (x := x.toNat) (T := w 45 2 * 4294967296 + k) (V := v) hD0 hP (by omega) ⟨T1, by omega, by rw [T2]; exact hv⟩
      have hbk := bk_set (n := n) (T := w 45 2 * 4294967296 + k) (V := v) (k := k) hD0 hn T1 T2 ⟨hq, hl⟩
      rw [← ex] at hbk
      obtain ⟨b1, b2, b3, b4⟩ := hbk
      rw [if_pos h1] at b3
      have e45 := (mTag_set (x := x.toNat) (T := w 45 2 * 4294967296 + k) (V := v) hD0).2
      have eMM := mM_45 (t := t) e45
      refine hQ _ ⟨⟨Nat.le_refl _, fun _ _ => rfl⟩, fun a _ g2 g3 _ => hz.2.2 a g2 g3, by rw [e45], Or.inl ⟨by rw [e45], by rw [e45], rfl⟩⟩ hz.1 hz.2.1 (by rw [e45]) (by rw [e45]) ⟨?_, ?_, ?_, b1, b2, fun j hj hf => ?_⟩
      · rw [e45, eMM]; omega
      · rw [e45, b3]; omega
      · rw [e45]; exact ⟨by omega, fun _ => rfl⟩
      · rw [e45] at hf
        rw [eMM] at hj
        rcases b4 j hf with h8 | ⟨h8, h7⟩
        · exact Or.inl h8
        · exact Or.inr ⟨j, hj, h8, h7.symm⟩
    · have r45 : wu w 45 3 (w 45 3 + 1) 45 0 = w 45 0 ∧ wu w 45 3 (w 45 3 + 1) 45 1 = w 45 1 ∧ wu w 45 3 (w 45 3 + 1) 45 2 = w 45 2 := ⟨rfl, rfl, rfl⟩
      have er0 : wu w 45 3 (w 45 3 + 1) (w 45 0).toNat = w (w 45 0).toNat := wu_row a0.1
      have er1 : wu w 45 3 (w 45 3 + 1) (w 45 1).toNat = w (w 45 1).toNat := wu_row a1.1
      obtain ⟨c1, c2, c3, c4⟩ := bk_cong (t := t) r45.2.2 r45.1 er0
      have hD1 : MmD (wu w 45 3 (w 45 3 + 1)) t := ⟨⟨k0, k1, l1⟩, hM, hs, fun j hj => by rw [c1]; exact hT j hj, hne⟩
      have ev : ∀ j, mVal (wu w 45 3 (w 45 3 + 1)) j = mVal w j := fun j => congrFun er1 j
      have hP1 : MeP P (wu w 45 3 (w 45 3 + 1)) t := by
        intro j hj
        rw [c1, ev]
        exact hP j hj
      have hz := setSlot (P := P) (x := x.toNat) (T := w 45 2 * 4294967296 + k) (V := v) hD1 hP1 (by show x.toNat < mM w t; omega) ⟨T1, by omega, by rw [T2]; exact hv⟩
      have hbk := bk_set (w := wu w 45 3 (w 45 3 + 1)) (n := n) (T := w 45 2 * 4294967296 + k) (V := v) (k := k) hD1 (by rw [c2]; exact hn) T1 T2 (by rw [c1, c2, r45.2.2]; exact ⟨hq, hl⟩)
      rw [c2, c4, c1, ← ex, r45.2.2] at hbk
      obtain ⟨b1, b2, b3, b4⟩ := hbk
      rw [if_neg h1] at b3
      have e45 := (mTag_set (x := x.toNat) (T := w 45 2 * 4294967296 + k) (V := v) hD1).2
      have eMM := mM_45 (t := t) e45
      rw [c2] at eMM
      have h33 : wu (wu (wu w 45 3 (w 45 3 + 1)) (w 45 0).toNat x.toNat (w 45 2 * 4294967296 + k)) (w 45 1).toNat x.toNat v 45 3 = w 45 3 + 1 := congrFun e45 3
      have h32 : wu (wu (wu w 45 3 (w 45 3 + 1)) (w 45 0).toNat x.toNat (w 45 2 * 4294967296 + k)) (w 45 1).toNat x.toNat v 45 2 = w 45 2 := congrFun e45 2
      have h30 : wu (wu (wu w 45 3 (w 45 3 + 1)) (w 45 0).toNat x.toNat (w 45 2 * 4294967296 + k)) (w 45 1).toNat x.toNat v 45 0 = w 45 0 := congrFun e45 0
      have h31 : wu (wu (wu w 45 3 (w 45 3 + 1)) (w 45 0).toNat x.toNat (w 45 2 * 4294967296 + k)) (w 45 1).toNat x.toNat v 45 1 = w 45 1 := congrFun e45 1
      refine hQ _ ⟨⟨Nat.le_refl _, fun _ _ => rfl⟩, fun a _ g2 g3 g4 => (hz.2.2 a g2 g3).trans (wu_row g4), h32, Or.inl ⟨h30, h31, rfl⟩⟩ hz.1 hz.2.1 h30 h31 ⟨?_, ?_, ?_, fun q hq2 => b1 q (by rw [c3]; exact hq2), b2, fun j hj hf => ?_⟩
      · rw [h33]
        have : mM (wu (wu (wu w 45 3 (w 45 3 + 1)) (w 45 0).toNat x.toNat (w 45 2 * 4294967296 + k)) (w 45 1).toNat x.toNat v) t = mM w t := eMM
        rw [this]; omega
      · rw [h33]
        have : cfW (wu (wu (wu w 45 3 (w 45 3 + 1)) (w 45 0).toNat x.toNat (w 45 2 * 4294967296 + k)) (w 45 1).toNat x.toNat v) t = cfW w t + 1 := b3
        rw [this]; omega
      · rw [h33]
        refine ⟨by omega, fun h9 => ?_⟩
        have := tEn_fn (n := n) ⟨hq, hl⟩ h9
        rw [← ex] at this
        exact absurd this h1
      · rw [h32] at hf
        have hj2 : j < mM w t := by rw [← eMM]; exact hj
        rcases b4 j hf with h8 | ⟨h8, h7⟩
        · exact Or.inl h8
        · exact Or.inr ⟨j, hj2, h8, h7.symm⟩
