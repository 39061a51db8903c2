/-! The class: what has been noted is found. -/

def PlS (w : eW) (t : eT) (k x : Int) : Prop := (x = -1 ∧ ∀ q, q < mM w t → tF (w 45 2) (mTag w) (tpl (mM w t) k q) ∧ ¬ tK (mTag w) (tpl (mM w t) k q) = w32 k) ∨ ∃ n, n < mM w t ∧ x = tps (mM w t) k n ∧ (∀ q, q < n → tF (w 45 2) (mTag w) (tpl (mM w t) k q) ∧ ¬ tK (mTag w) (tpl (mM w t) k q) = w32 k) ∧ (tF (w 45 2) (mTag w) (tpl (mM w t) k n) → tK (mTag w) (tpl (mM w t) k n) = w32 k)
theorem iushr_w (k y : Int) : iushr (w32 k) y = iushr k y := by
  show ((Int32.ofInt ((Int32.ofInt k).toInt)).toUInt32 >>> _).toInt32.toInt = _
  rw [Int32.ofInt_toInt]
  rfl
theorem ixor_w (k y : Int) : ixor (w32 k) y = ixor k y := by
  show (Int32.ofInt ((Int32.ofInt k).toInt) ^^^ _).toInt = _
  rw [Int32.ofInt_toInt]
  rfl
theorem tps_w (M : Nat) (k : Int) : ∀ q, tps M (w32 k) q = tps M k q := by
  intro q
  induction q with
  | zero =>
    show iand (ixor (ixor (w32 k) (iushr (w32 k) 7)) (iushr (w32 k) 15)) _ = _
    rw [iushr_w, iushr_w, ixor_w]
    rfl
  | succ q ih => show iand (tps M (w32 k) q + 1) _ = _; rw [ih]; rfl
theorem w32_tw (k : Int) : w32 (w32 k) = w32 k := w32_id (w32_w32 k)
theorem PlS_w {w : eW} {t : eT} {k x : Int} (h : PlS w t k x) : PlS w t (w32 k) x := by
  unfold PlS tpl at *
  rw [w32_tw]
  have e : tps (mM w t) (w32 k) = tps (mM w t) k := funext (tps_w _ k)
  rw [e]
  exact h
theorem c_plF {d : Nat} {w : eW} {t : eT} {k : Int} (h : (MmD w t ∧ (∀ j, j < mM w t → mTag w j / 4294967296 = w 45 2 → mTag w j % 4294967296 < 2147483648)) ∧ 0 ≤ w32 k) : Cl (d + 1) 45 [rA 45, (0, k)] (enc w t) (fun r S2 => ∃ x, r = some (0, x) ∧ S2 = enc w t ∧ PlS w t k x) := by
  obtain ⟨⟨⟨⟨k0, k1, l1⟩, hM, hs, hT, _⟩, hF⟩, hk⟩ := h
  have eM : dyL t (w 45 0) = mM w t := rfl
  have hb := tps_b (M := mM w t) (by omega) k
  refine g_pl ⟨Or.inr k0, ?_⟩
  rw [eM]
  refine lq1 (σ := Int) (fun i p => Ev (d + 1) 45 (fun r S2 => ∃ x, r = some (0, x) ∧ S2 = enc w t ∧ PlS w t k x) 25 [rA 45, (0, k), (0, (mM w t : Int) - 1), (0, p), (0, (i : Int))] [] (enc w t)) (fun i p => p = tps (mM w t) k i ∧ ∀ q, q < i → tF (w 45 2) (mTag w) (tpl (mM w t) k q) ∧ ¬ tK (mTag w) (tpl (mM w t) k q) = w32 k) (mM w t) ?_ ?_ 0 _ (Nat.zero_le _) ⟨rfl, fun q hq => absurd hq (Nat.not_lt_zero q)⟩
  · rintro i p hi ⟨hp, hq⟩ hE
    have hpb := hb i
    rw [← hp] at hpb
    have ep : p.toNat = tpl (mM w t) k i := by rw [hp]; rfl
    have ht := hT p.toNat (by omega)
    have hf := hF p.toNat (by omega)
    refine g_pl1 ⟨Or.inr k0, ?_⟩
    rw [eM, w32_id (x := p) (by omega), w32_id (x := (i : Int)) (by omega), w32_id (x := (mM w t : Int)) (by omega), show w (w 45 0).toNat p.toNat = mTag w p.toNat from rfl, lushr32 (by omega), w32_id (x := mTag w p.toNat / 4294967296) (by omega), w32_id (x := w 45 2) (by omega)]
    refine ⟨fun h9 => by omega, fun _ => ⟨⟨k0, hpb⟩, fun h1 => ?_, fun h1 => ⟨⟨k0, hpb⟩, fun h2 => ?_, fun h2 => ?_⟩⟩⟩
    · exact ⟨p, rfl, rfl, Or.inr ⟨i, hi, hp, hq, fun h9 => absurd (by rw [ep]; exact h9) h1⟩⟩
    · rw [w32_low (hf (Classical.not_not.mp h1))] at h2
      refine hE _ ⟨by rw [hp]; rfl, fun q hq2 => ?_⟩
      by_cases h9 : q = i
      · rw [h9, ← ep]
        exact ⟨Classical.not_not.mp h1, h2⟩
      · exact hq q (by omega)
    · rw [w32_low (hf (Classical.not_not.mp h1))] at h2
      exact ⟨p, rfl, rfl, Or.inr ⟨i, hi, hp, hq, fun _ => by rw [← ep]; exact Classical.not_not.mp h2⟩⟩
  · rintro p ⟨hp, hq⟩
    exact g_pl1 ⟨Or.inr k0, fun _ => ⟨-1, rfl, rfl, Or.inl ⟨rfl, hq⟩⟩, fun h9 => absurd (Int.le_refl _) h9⟩

theorem g_findF {d : Nat} {Q : Option aV → aS → Prop} {w : eW} {t : eT} {k : Int} (h : ((MmD w t ∧ (∀ j, j < mM w t → mTag w j / 4294967296 = w 45 2 → mTag w j % 4294967296 < 2147483648)) ∧ 0 ≤ w32 k) ∧ (∀ x1, (PlS w t k x1) → ((w32 x1 = w32 (-1) → Q (some (1, (-1))) (enc w t)) ∧ (¬ (w32 x1 = w32 (-1)) → (dyK t (w 45 0) 21 ∧ 0 ≤ w32 x1 ∧ w32 x1 < dyL t (w 45 0)) ∧ ((w32 (lushr (w (w 45 0).toNat (w32 x1).toNat) 32) = w32 (w 45 2) → (dyK t (w 45 1) 21 ∧ 0 ≤ w32 x1 ∧ w32 x1 < dyL t (w 45 1)) ∧ (Q (some (1, w (w 45 1).toNat (w32 x1).toNat)) (enc w t))) ∧ (¬ (w32 (lushr (w (w 45 0).toNat (w32 x1).toNat) 32) = w32 (w 45 2)) → Q (some (1, (-1))) (enc w t))))))) : Cl (d + 2) 46 [rA 45, (0, k)] (enc w t) Q := by
  show Ev (d + 2) 46 Q 0 [rA 45, (0, k), (9, 0)] [] (enc w t)
  refine e_lda (v := 45) (show am_cd 46 0 = (2, 1, 0, 2, []) by decide +kernel) rfl ?_
  refine e_ldi (show am_cd 46 1 = (2, 2, 1, 0, []) by decide +kernel) rfl ?_
  refine e_cV (z := 0) (a := 45) (as := [(0, k)]) (rest := []) (show am_cd 46 2 = (40, 5, 45, 0, [25]) by decide +kernel) (by decide +kernel) rfl rfl (Nat.le_of_ble_eq_true rfl) rfl ?_
  refine Cl.mono (Cl.up (c_plF (d := d) h.1) (by omega)) ?_
  rintro _ _ ⟨x1, rfl, rfl, hp⟩
  refine ⟨fun _ h9 => (by cases h9), ?_⟩
  replace h := h.2 x1 hp
  show Ev _ 46 _ 5 [rA 45, (0, k), (9, 0)] [(0, x1)] _
  refine e_sti (la2 := [rA 45, (0, k), (0, x1)]) (show am_cd 46 5 = (3, 6, 2, 0, []) by decide +kernel) rfl ?_
  refine e_ldi (show am_cd 46 6 = (2, 7, 2, 0, []) by decide +kernel) rfl ?_
  refine e_ic (show am_cd 46 7 = (0, 8, 0, -1, []) by decide +kernel) ?_
  refine e_cmp0 (show am_cd 46 8 = (11, 11, 28, 0, []) by decide +kernel) (fun hc => ?_) (fun hc => ?_)
  · replace h := h.1 hc
    refine e_lc (show am_cd 46 28 = (1, 31, 1, -1, [29]) by decide +kernel) ?_
    refine e_go (show am_cd 46 31 = (12, 40, 0, 0, []) by decide +kernel) ?_
    exact e_retl (show am_cd 46 40 = (36, 41, 1, 0, []) by decide +kernel) (by decide +kernel) h
  · replace h := h.2 hc
    refine e_lda (v := 45) (show am_cd 46 11 = (2, 12, 0, 2, []) by decide +kernel) rfl ?_
    refine e_getf (a := 45) (tg := 2) (show am_cd 46 12 = (18, 15, 500, 2, [9]) by decide +kernel) (by decide +kernel) (by decide +kernel) rfl ?_
    refine e_ldi (show am_cd 46 15 = (2, 16, 2, 0, []) by decide +kernel) rfl ?_
    refine e_laldD (show am_cd 46 16 = (22, 17, 0, 0, []) by decide +kernel) h.1 ?_
    replace h := h.2
    refine e_ic (show am_cd 46 17 = (0, 19, 1, 32, []) by decide +kernel) ?_
    refine e_lushr (show am_cd 46 19 = (7, 20, 2, 0, []) by decide +kernel) ?_
    refine e_l2i (show am_cd 46 20 = (8, 21, 1, 0, []) by decide +kernel) ?_
    refine e_lda (v := 45) (show am_cd 46 21 = (2, 22, 0, 2, []) by decide +kernel) rfl ?_
    refine e_getf (a := 45) (tg := 0) (show am_cd 46 22 = (18, 25, 502, 0, [18]) by decide +kernel) (by decide +kernel) (by decide +kernel) rfl ?_
    refine e_cmp0 (show am_cd 46 25 = (11, 28, 34, 0, []) by decide +kernel) (fun hc => ?_) (fun hc => ?_)
    · replace h := h.1 hc
      refine e_lda (v := 45) (show am_cd 46 34 = (2, 35, 0, 2, []) by decide +kernel) rfl ?_
      refine e_getf (a := 45) (tg := 2) (show am_cd 46 35 = (18, 38, 501, 2, [15]) by decide +kernel) (by decide +kernel) (by decide +kernel) rfl ?_
      refine e_ldi (show am_cd 46 38 = (2, 39, 2, 0, []) by decide +kernel) rfl ?_
      refine e_laldD (show am_cd 46 39 = (22, 40, 0, 0, []) by decide +kernel) h.1 ?_
      replace h := h.2
      exact e_retl (show am_cd 46 40 = (36, 41, 1, 0, []) by decide +kernel) (by decide +kernel) h
    · replace h := h.2 hc
      refine e_lc (show am_cd 46 28 = (1, 31, 1, -1, [29]) by decide +kernel) ?_
      refine e_go (show am_cd 46 31 = (12, 40, 0, 0, []) by decide +kernel) ?_
      exact e_retl (show am_cd 46 40 = (36, 41, 1, 0, []) by decide +kernel) (by decide +kernel) h

/-- a key is found; how many places are in use -/
def Fnd (w : eW) (t : eT) (k : Int) : Prop := tFn (w 45 2) (mTag w) (mM w t) k
def cfW (w : eW) (t : eT) : Nat := tCf (w 45 2) (mTag w) (mM w t)
theorem c_findF {d : Nat} {w : eW} {t : eT} {k : Int} {P : Int → Int → Prop} (h : MmD w t ∧ MeP P w t ∧ 0 ≤ k ∧ k < 2147483648) : Cl (d + 2) 46 [rA 45, (0, k)] (enc w t) (fun r S2 => ∃ x, r = some (1, x) ∧ S2 = enc w t ∧ ((x = -1 ∧ ¬ Fnd w t k) ∨ (P k x ∧ ∃ j, j < mM w t ∧ tF (w 45 2) (mTag w) j ∧ tK (mTag w) j = k))) := by
  obtain ⟨hD, hP, hk⟩ := h
  have hD0 := hD
  obtain ⟨⟨k0, k1, l1⟩, hM, hs, hT, _⟩ := hD
  have ek : w32 k = k := w32_id (by omega)
  refine g_findF ⟨⟨⟨hD0, fun j h1 h2 => (hP j h1 h2).1⟩, by omega⟩, fun x hx => ?_⟩
  unfold PlS at hx
  rw [ek] at hx
  have eM : dyL t (w 45 0) = mM w t := rfl
  rcases hx with ⟨rfl, hn⟩ | ⟨n, hn, hxe, hq, hl⟩
  · refine ⟨fun _ => ⟨-1, rfl, rfl, Or.inl ⟨rfl, fun hf => ?_⟩⟩, fun h9 => absurd rfl h9⟩
    obtain ⟨n, n1, _, _, n4⟩ := hf
    exact (hn n n1).2 n4
  · have hb := tps_b (M := mM w t) (by omega) k n
    rw [← hxe] at hb
    have ex : x.toNat = tpl (mM w t) k n := by rw [hxe]; rfl
    have ht := hT x.toNat (by omega)
    rw [eM, l1, w32_id (x := x) (by omega), w32_id (x := -1) (by decide), show w (w 45 0).toNat x.toNat = mTag w x.toNat from rfl, lushr32 (by omega), w32_id (x := mTag w x.toNat / 4294967296) (by omega), w32_id (x := w 45 2) (by omega)]
    refine ⟨fun h9 => by omega, fun _ => ⟨⟨k0, hb⟩, fun h1 => ⟨⟨k1, hb⟩, _, rfl, rfl, Or.inr ⟨?_, x.toNat, by omega, h1, ?_⟩⟩, fun h1 => ⟨-1, rfl, rfl, Or.inl ⟨rfl, fun hf => ?_⟩⟩⟩⟩
    · have h2 := (hP x.toNat (by omega) h1).2
      have h3 := hl (by rw [← ex]; exact h1)
      rw [← ex] at h3
      have h3 : mTag w x.toNat % 4294967296 = k := h3
      rw [h3] at h2
      exact h2
    · rw [ex]; exact hl (by rw [← ex]; exact h1)
    · have := tEn_fn (n := n) ⟨hq, hl⟩ hf
      rw [← ex] at this
      exact h1 this

theorem g_growF {d : Nat} {Q : Option aV → aS → Prop} {w : eW} {t : eT} {A B i : Int} {J4 : aV} (h : (0 ≤ A) ∧ (dyK t A 20 ∨ dyK t A 21) ∧ ((w32 (dyL t A : Int) ≤ w32 i → Q none (enc w t)) ∧ (¬ (w32 (dyL t A : Int) ≤ w32 i) → (0 ≤ A) ∧ (dyK t A 21 ∧ 0 ≤ w32 i ∧ w32 i < dyL t A) ∧ ((¬ w32 (lushr (w A.toNat (w32 i).toNat) 32) = w32 (w 45 2) → Ev (d + 2) 48 Q 32 [rA 45, (2, A), (2, B), (0, i + 1), (0, (-1))] [] (enc w t)) ∧ (¬ (¬ w32 (lushr (w A.toNat (w32 i).toNat) 32) = w32 (w 45 2)) → (0 ≤ A) ∧ (dyK t A 21 ∧ 0 ≤ w32 i ∧ w32 i < dyL t A) ∧ ((MmD w t ∧ (∀ j, j < mM w t → mTag w j / 4294967296 = w 45 2 → mTag w j % 4294967296 < 2147483648)) ∧ 0 ≤ w32 (w A.toNat (w32 i).toNat)) ∧ (∀ x1, (PlS w t (w A.toNat (w32 i).toNat) x1) → ((w32 x1 = w32 (-1) → Ev (d + 2) 48 Q 32 [rA 45, (2, A), (2, B), (0, i + 1), (0, x1)] [] (enc w t)) ∧ (¬ (w32 x1 = w32 (-1)) → (0 ≤ A) ∧ (dyK t A 21 ∧ 0 ≤ w32 i ∧ w32 i < dyL t A) ∧ (dyK t (w 45 0) 21 ∧ 0 ≤ w32 x1 ∧ w32 x1 < dyL t (w 45 0)) ∧ (0 ≤ B) ∧ (dyK t B 21 ∧ 0 ≤ w32 i ∧ w32 i < dyL t B) ∧ (dyK t ((wu w (w 45 0).toNat (w32 x1).toNat (w A.toNat (w32 i).toNat)) 45 1) 21 ∧ 0 ≤ w32 x1 ∧ w32 x1 < dyL t ((wu w (w 45 0).toNat (w32 x1).toNat (w A.toNat (w32 i).toNat)) 45 1)) ∧ (Ev (d + 2) 48 Q 32 [rA 45, (2, A), (2, B), (0, i + 1), (0, x1)] [] (enc (wu (wu w (w 45 0).toNat (w32 x1).toNat (w A.toNat (w32 i).toNat)) ((wu w (w 45 0).toNat (w32 x1).toNat (w A.toNat (w32 i).toNat)) 45 1).toNat (w32 x1).toNat ((wu w (w 45 0).toNat (w32 x1).toNat (w A.toNat (w32 i).toNat)) B.toNat (w32 i).toNat)) t)))))))))) : Ev (d + 2) 48 Q 32 [rA 45, (2, A), (2, B), (0, i), J4] [] (enc w t) := by
  refine e_ldi (show am_cd 48 32 = (2, 33, 3, 0, []) by decide +kernel) rfl ?_
  refine e_ldaD (v := A) (show am_cd 48 33 = (2, 34, 1, 2, []) by decide +kernel) rfl h.1 ?_
  replace h := h.2
  refine e_alenD (show am_cd 48 34 = (27, 35, 0, 0, []) by decide +kernel) h.1 ?_
  replace h := h.2
  refine e_cmp3 (show am_cd 48 35 = (11, 38, 98, 3, []) by decide +kernel) (fun hc => ?_) (fun hc => ?_)
  · replace h := h.1 hc
    exact e_retv (show am_cd 48 98 = (36, 99, 3, 0, []) by decide +kernel) (by decide +kernel) h
  · replace h := h.2 hc
    refine e_ldaD (v := A) (show am_cd 48 38 = (2, 39, 1, 2, []) by decide +kernel) rfl h.1 ?_
    replace h := h.2
    refine e_ldi (show am_cd 48 39 = (2, 40, 3, 0, []) by decide +kernel) rfl ?_
    refine e_laldD (show am_cd 48 40 = (22, 41, 0, 0, []) by decide +kernel) h.1 ?_
    replace h := h.2
    refine e_ic (show am_cd 48 41 = (0, 43, 1, 32, []) by decide +kernel) ?_
    refine e_lushr (show am_cd 48 43 = (7, 44, 2, 0, []) by decide +kernel) ?_
    refine e_l2i (show am_cd 48 44 = (8, 45, 1, 0, []) by decide +kernel) ?_
    refine e_lda (v := 45) (show am_cd 48 45 = (2, 46, 0, 2, []) by decide +kernel) rfl ?_
    refine e_getf (a := 45) (tg := 0) (show am_cd 48 46 = (18, 49, 502, 0, [18]) by decide +kernel) (by decide +kernel) (by decide +kernel) rfl ?_
    refine e_cmp1 (show am_cd 48 49 = (11, 52, 63, 1, []) by decide +kernel) (fun hc => ?_) (fun hc => ?_)
    · replace h := h.1 hc
      refine e_ic (show am_cd 48 63 = (0, 64, 0, -1, []) by decide +kernel) ?_
      refine e_sti (la2 := [rA 45, (2, A), (2, B), (0, i), (0, (-1))]) (show am_cd 48 64 = (3, 66, 4, 0, []) by decide +kernel) rfl ?_
      refine e_ldi (show am_cd 48 66 = (2, 68, 4, 0, []) by decide +kernel) rfl ?_
      refine e_ic (show am_cd 48 68 = (0, 69, 0, -1, []) by decide +kernel) ?_
      refine e_cmpT (show am_cd 48 69 = (11, 72, 92, 0, []) by decide +kernel) (by decide +kernel) ?_
      refine e_inc (la2 := [rA 45, (2, A), (2, B), (0, i + 1), (0, (-1))]) (show am_cd 48 92 = (4, 95, 3, 1, []) by decide +kernel) rfl rfl ?_
      refine e_go (show am_cd 48 95 = (12, 32, 0, 0, []) by decide +kernel) ?_
      exact h
    · replace h := h.2 hc
      refine e_lda (v := 45) (show am_cd 48 52 = (2, 53, 0, 2, []) by decide +kernel) rfl ?_
      refine e_ldaD (v := A) (show am_cd 48 53 = (2, 54, 1, 2, []) by decide +kernel) rfl h.1 ?_
      replace h := h.2
      refine e_ldi (show am_cd 48 54 = (2, 55, 3, 0, []) by decide +kernel) rfl ?_
      refine e_laldD (show am_cd 48 55 = (22, 56, 0, 0, []) by decide +kernel) h.1 ?_
      replace h := h.2
      refine e_l2i (show am_cd 48 56 = (8, 57, 1, 0, []) by decide +kernel) ?_
      refine e_cV (z := 0) (a := 45) (as := [(0, w A.toNat (w32 i).toNat)]) (rest := []) (show am_cd 48 57 = (40, 60, 45, 0, [25]) by decide +kernel) (by decide +kernel) rfl rfl (Nat.le_of_ble_eq_true rfl) rfl ?_
      refine Cl.mono (Cl.up (c_plF (d := d) h.1) (by omega)) ?_
      rintro _ _ ⟨x1, rfl, rfl, hp⟩
      refine ⟨fun _ h9 => (by cases h9), ?_⟩
      replace h := h.2 x1 hp
      show Ev _ 48 _ 60 [rA 45, (2, A), (2, B), (0, i), J4] [(0, x1)] _
      refine e_go (show am_cd 48 60 = (12, 64, 0, 0, []) by decide +kernel) ?_
      refine e_sti (la2 := [rA 45, (2, A), (2, B), (0, i), (0, x1)]) (show am_cd 48 64 = (3, 66, 4, 0, []) by decide +kernel) rfl ?_
      refine e_ldi (show am_cd 48 66 = (2, 68, 4, 0, []) by decide +kernel) rfl ?_
      refine e_ic (show am_cd 48 68 = (0, 69, 0, -1, []) by decide +kernel) ?_
      refine e_cmp0 (show am_cd 48 69 = (11, 72, 92, 0, []) by decide +kernel) (fun hc => ?_) (fun hc => ?_)
      · replace h := h.1 hc
        refine e_inc (la2 := [rA 45, (2, A), (2, B), (0, i + 1), (0, x1)]) (show am_cd 48 92 = (4, 95, 3, 1, []) by decide +kernel) rfl rfl ?_
        refine e_go (show am_cd 48 95 = (12, 32, 0, 0, []) by decide +kernel) ?_
        exact h
      · replace h := h.2 hc
        refine e_lda (v := 45) (show am_cd 48 72 = (2, 73, 0, 2, []) by decide +kernel) rfl ?_
        refine e_getf (a := 45) (tg := 2) (show am_cd 48 73 = (18, 76, 500, 2, [9]) by decide +kernel) (by decide +kernel) (by decide +kernel) rfl ?_
        refine e_ldi (show am_cd 48 76 = (2, 78, 4, 0, []) by decide +kernel) rfl ?_
        refine e_ldaD (v := A) (show am_cd 48 78 = (2, 79, 1, 2, []) by decide +kernel) rfl h.1 ?_
        replace h := h.2
        refine e_ldi (show am_cd 48 79 = (2, 80, 3, 0, []) by decide +kernel) rfl ?_
        refine e_laldD (show am_cd 48 80 = (22, 81, 0, 0, []) by decide +kernel) h.1 ?_
        replace h := h.2
        refine e_lastD (show am_cd 48 81 = (25, 82, 0, 0, []) by decide +kernel) h.1 ?_
        replace h := h.2
        refine e_lda (v := 45) (show am_cd 48 82 = (2, 83, 0, 2, []) by decide +kernel) rfl ?_
        refine e_getf (a := 45) (tg := 2) (show am_cd 48 83 = (18, 86, 501, 2, [15]) by decide +kernel) (by decide +kernel) (by decide +kernel) rfl ?_
        refine e_ldi (show am_cd 48 86 = (2, 88, 4, 0, []) by decide +kernel) rfl ?_
        refine e_ldaD (v := B) (show am_cd 48 88 = (2, 89, 2, 2, []) by decide +kernel) rfl h.1 ?_
        replace h := h.2
        refine e_ldi (show am_cd 48 89 = (2, 90, 3, 0, []) by decide +kernel) rfl ?_
        refine e_laldD (show am_cd 48 90 = (22, 91, 0, 0, []) by decide +kernel) h.1 ?_
        replace h := h.2
        refine e_lastD (show am_cd 48 91 = (25, 92, 0, 0, []) by decide +kernel) h.1 ?_
        replace h := h.2
        refine e_inc (la2 := [rA 45, (2, A), (2, B), (0, i + 1), (0, x1)]) (show am_cd 48 92 = (4, 95, 3, 1, []) by decide +kernel) rfl rfl ?_
        refine e_go (show am_cd 48 95 = (12, 32, 0, 0, []) by decide +kernel) ?_
        exact h

theorem g_putF {d : Nat} {Q : Option aV → aS → Prop} {w : eW} {t : eT} {k v : Int} (h : ((MmD w t ∧ (∀ j, j < mM w t → mTag w j / 4294967296 = w 45 2 → mTag w j % 4294967296 < 2147483648)) ∧ 0 ≤ w32 k) ∧ (∀ x1, (PlS w t k x1) → ((¬ w32 x1 = w32 (-1) → (dyK t (w 45 0) 21 ∧ 0 ≤ w32 x1 ∧ w32 x1 < dyL t (w 45 0)) ∧ ((w32 (lushr (w (w 45 0).toNat (w32 x1).toNat) 32) = w32 (w 45 2) → (dyK t (w 45 0) 21 ∧ 0 ≤ w32 x1 ∧ w32 x1 < dyL t (w 45 0)) ∧ (dyK t ((wu w (w 45 0).toNat (w32 x1).toNat (lor (lshl (w32 (w 45 2)) 32) (w32 k))) 45 1) 21 ∧ 0 ≤ w32 x1 ∧ w32 x1 < dyL t ((wu w (w 45 0).toNat (w32 x1).toNat (lor (lshl (w32 (w 45 2)) 32) (w32 k))) 45 1)) ∧ (Q none (enc (wu (wu w (w 45 0).toNat (w32 x1).toNat (lor (lshl (w32 (w 45 2)) 32) (w32 k))) ((wu w (w 45 0).toNat (w32 x1).toNat (lor (lshl (w32 (w 45 2)) 32) (w32 k))) 45 1).toNat (w32 x1).toNat v) t))) ∧ (¬ (w32 (lushr (w (w 45 0).toNat (w32 x1).toNat) 32) = w32 (w 45 2)) → (dyK t (w 45 0) 21 ∧ 0 ≤ w32 x1 ∧ w32 x1 < dyL t (w 45 0)) ∧ (dyK t ((wu (wu w 45 3 ((w 45 3) + 1)) (w 45 0).toNat (w32 x1).toNat (lor (lshl (w32 (w 45 2)) 32) (w32 k))) 45 1) 21 ∧ 0 ≤ w32 x1 ∧ w32 x1 < dyL t ((wu (wu w 45 3 ((w 45 3) + 1)) (w 45 0).toNat (w32 x1).toNat (lor (lshl (w32 (w 45 2)) 32) (w32 k))) 45 1)) ∧ (Q none (enc (wu (wu (wu w 45 3 ((w 45 3) + 1)) (w 45 0).toNat (w32 x1).toNat (lor (lshl (w32 (w 45 2)) 32) (w32 k))) ((wu (wu w 45 3 ((w 45 3) + 1)) (w 45 0).toNat (w32 x1).toNat (lor (lshl (w32 (w 45 2)) 32) (w32 k))) 45 1).toNat (w32 x1).toNat v) t))))) ∧ (¬ (¬ w32 x1 = w32 (-1)) → Q none (enc w t))))) : Ev (d + 3) 47 Q 29 [rA 45, (0, k), (1, v), (9, 0), (9, 0)] [] (enc w t) := by
  refine e_lda (v := 45) (show am_cd 47 29 = (2, 30, 0, 2, []) by decide +kernel) rfl ?_
  refine e_ldi (show am_cd 47 30 = (2, 31, 1, 0, []) by decide +kernel) rfl ?_
  refine e_cV (z := 0) (a := 45) (as := [(0, k)]) (rest := []) (show am_cd 47 31 = (40, 34, 45, 0, [25]) by decide +kernel) (by decide +kernel) rfl rfl (Nat.le_of_ble_eq_true rfl) rfl ?_
  refine Cl.mono (Cl.up (c_plF (d := d) h.1) (by omega)) ?_
  rintro _ _ ⟨x1, rfl, rfl, hp⟩
  refine ⟨fun _ h9 => (by cases h9), ?_⟩
  replace h := h.2 x1 hp
  show Ev _ 47 _ 34 [rA 45, (0, k), (1, v), (9, 0), (9, 0)] [(0, x1)] _
  refine e_sti (la2 := [rA 45, (0, k), (1, v), (9, 0), (0, x1)]) (show am_cd 47 34 = (3, 36, 4, 0, []) by decide +kernel) rfl ?_
  refine e_ldi (show am_cd 47 36 = (2, 38, 4, 0, []) by decide +kernel) rfl ?_
  refine e_ic (show am_cd 47 38 = (0, 39, 0, -1, []) by decide +kernel) ?_
  refine e_cmp1 (show am_cd 47 39 = (11, 42, 43, 1, []) by decide +kernel) (fun hc => ?_) (fun hc => ?_)
  · replace h := h.1 hc
    refine e_lda (v := 45) (show am_cd 47 43 = (2, 44, 0, 2, []) by decide +kernel) rfl ?_
    refine e_getf (a := 45) (tg := 2) (show am_cd 47 44 = (18, 47, 500, 2, [9]) by decide +kernel) (by decide +kernel) (by decide +kernel) rfl ?_
    refine e_ldi (show am_cd 47 47 = (2, 49, 4, 0, []) by decide +kernel) rfl ?_
    refine e_laldD (show am_cd 47 49 = (22, 50, 0, 0, []) by decide +kernel) h.1 ?_
    replace h := h.2
    refine e_ic (show am_cd 47 50 = (0, 52, 1, 32, []) by decide +kernel) ?_
    refine e_lushr (show am_cd 47 52 = (7, 53, 2, 0, []) by decide +kernel) ?_
    refine e_l2i (show am_cd 47 53 = (8, 54, 1, 0, []) by decide +kernel) ?_
    refine e_lda (v := 45) (show am_cd 47 54 = (2, 55, 0, 2, []) by decide +kernel) rfl ?_
    refine e_getf (a := 45) (tg := 0) (show am_cd 47 55 = (18, 58, 502, 0, [18]) by decide +kernel) (by decide +kernel) (by decide +kernel) rfl ?_
    refine e_cmp0 (show am_cd 47 58 = (11, 61, 71, 0, []) by decide +kernel) (fun hc => ?_) (fun hc => ?_)
    · replace h := h.1 hc
      refine e_lda (v := 45) (show am_cd 47 71 = (2, 72, 0, 2, []) by decide +kernel) rfl ?_
      refine e_getf (a := 45) (tg := 2) (show am_cd 47 72 = (18, 75, 500, 2, [9]) by decide +kernel) (by decide +kernel) (by decide +kernel) rfl ?_
      refine e_ldi (show am_cd 47 75 = (2, 77, 4, 0, []) by decide +kernel) rfl ?_
      refine e_lda (v := 45) (show am_cd 47 77 = (2, 78, 0, 2, []) by decide +kernel) rfl ?_
      refine e_getf (a := 45) (tg := 0) (show am_cd 47 78 = (18, 81, 502, 0, [18]) by decide +kernel) (by decide +kernel) (by decide +kernel) rfl ?_
      refine e_i2l (show am_cd 47 81 = (8, 82, 0, 0, []) by decide +kernel) ?_
      refine e_ic (show am_cd 47 82 = (0, 84, 1, 32, []) by decide +kernel) ?_
      refine e_lshl (show am_cd 47 84 = (7, 85, 0, 0, []) by decide +kernel) ?_
      refine e_ldi (show am_cd 47 85 = (2, 86, 1, 0, []) by decide +kernel) rfl ?_
      refine e_i2l (show am_cd 47 86 = (8, 87, 0, 0, []) by decide +kernel) ?_
      refine e_lor (show am_cd 47 87 = (6, 88, 2, 0, []) by decide +kernel) ?_
      refine e_lastD (show am_cd 47 88 = (25, 89, 0, 0, []) by decide +kernel) h.1 ?_
      replace h := h.2
      refine e_lda (v := 45) (show am_cd 47 89 = (2, 90, 0, 2, []) by decide +kernel) rfl ?_
      refine e_getf (a := 45) (tg := 2) (show am_cd 47 90 = (18, 93, 501, 2, [15]) by decide +kernel) (by decide +kernel) (by decide +kernel) rfl ?_
      refine e_ldi (show am_cd 47 93 = (2, 95, 4, 0, []) by decide +kernel) rfl ?_
      refine e_ldl (show am_cd 47 95 = (2, 96, 2, 1, []) by decide +kernel) rfl ?_
      refine e_lastD (show am_cd 47 96 = (25, 97, 0, 0, []) by decide +kernel) h.1 ?_
      replace h := h.2
      exact e_retv (show am_cd 47 97 = (36, 98, 3, 0, []) by decide +kernel) (by decide +kernel) h
    · replace h := h.2 hc
      refine e_lda (v := 45) (show am_cd 47 61 = (2, 62, 0, 2, []) by decide +kernel) rfl ?_
      refine e_dup (show am_cd 47 62 = (13, 63, 0, 0, []) by decide +kernel) (by decide) ?_
      refine e_getf (a := 45) (tg := 0) (show am_cd 47 63 = (18, 66, 503, 0, [22]) by decide +kernel) (by decide +kernel) (by decide +kernel) rfl ?_
      refine e_ic (show am_cd 47 66 = (0, 67, 0, 1, []) by decide +kernel) ?_
      refine e_iadd (show am_cd 47 67 = (5, 68, 0, 0, []) by decide +kernel) ?_
      refine e_putf (a := 45) (show am_cd 47 68 = (19, 71, 503, 0, [22]) by decide +kernel) (by decide +kernel) (by decide +kernel) rfl (fun h9 => absurd h9 (by decide)) (fun h9 => absurd h9 (by decide +kernel)) ?_
      refine e_lda (v := 45) (show am_cd 47 71 = (2, 72, 0, 2, []) by decide +kernel) rfl ?_
      refine e_getfE (a := 45) (tg := 2) (v := w 45 0) (show am_cd 47 72 = (18, 75, 500, 2, [9]) by decide +kernel) (by decide +kernel) (by decide +kernel) rfl rfl ?_
      refine e_ldi (show am_cd 47 75 = (2, 77, 4, 0, []) by decide +kernel) rfl ?_
      refine e_lda (v := 45) (show am_cd 47 77 = (2, 78, 0, 2, []) by decide +kernel) rfl ?_
      refine e_getfE (a := 45) (tg := 0) (v := w 45 2) (show am_cd 47 78 = (18, 81, 502, 0, [18]) by decide +kernel) (by decide +kernel) (by decide +kernel) rfl rfl ?_
      refine e_i2l (show am_cd 47 81 = (8, 82, 0, 0, []) by decide +kernel) ?_
      refine e_ic (show am_cd 47 82 = (0, 84, 1, 32, []) by decide +kernel) ?_
      refine e_lshl (show am_cd 47 84 = (7, 85, 0, 0, []) by decide +kernel) ?_
      refine e_ldi (show am_cd 47 85 = (2, 86, 1, 0, []) by decide +kernel) rfl ?_
      refine e_i2l (show am_cd 47 86 = (8, 87, 0, 0, []) by decide +kernel) ?_
      refine e_lor (show am_cd 47 87 = (6, 88, 2, 0, []) by decide +kernel) ?_
      refine e_lastD (show am_cd 47 88 = (25, 89, 0, 0, []) by decide +kernel) h.1 ?_
      replace h := h.2
      refine e_lda (v := 45) (show am_cd 47 89 = (2, 90, 0, 2, []) by decide +kernel) rfl ?_
      refine e_getf (a := 45) (tg := 2) (show am_cd 47 90 = (18, 93, 501, 2, [15]) by decide +kernel) (by decide +kernel) (by decide +kernel) rfl ?_
      refine e_ldi (show am_cd 47 93 = (2, 95, 4, 0, []) by decide +kernel) rfl ?_
      refine e_ldl (show am_cd 47 95 = (2, 96, 2, 1, []) by decide +kernel) rfl ?_
      refine e_lastD (show am_cd 47 96 = (25, 97, 0, 0, []) by decide +kernel) h.1 ?_
      replace h := h.2
      exact e_retv (show am_cd 47 97 = (36, 98, 3, 0, []) by decide +kernel) (by decide +kernel) h
  · replace h := h.2 hc
    exact e_retv (show am_cd 47 42 = (36, 43, 3, 0, []) by decide +kernel) (by decide +kernel) h

