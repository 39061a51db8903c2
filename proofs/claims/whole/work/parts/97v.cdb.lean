/-! The class: seekDoubles (leaves). -/

def TwD (w m : eW) (D : Nat) (s : (Nat → Nat) × (Nat → Nat → Nat)) : Prop := (∀ g, g < 4 → w 35 (4 * D + g) = (s.1 g : Int)) ∧ ∀ e k, e < nE m → k < fmN m e → w 34 (80 * D + (5 * e + k)) = (s.2 e k : Int)
def TwB (s : (Nat → Nat) × (Nat → Nat → Nat)) (B : Nat) : Prop := (∀ g, s.1 g ≤ B) ∧ ∀ e k, s.2 e k ≤ B
theorem TwB.nxt {m : eW} (he : WFe m) {s : (Nat → Nat) × (Nat → Nat → Nat)} {B c : Nat} (h : TwB s B) : TwB (nxs m s c) (16 * B) := by
  have h1 : ∀ e k, nsp m s c e k ≤ B := by
    intro e k
    unfold nsp
    split
    · split
      · exact h.1 _
      · exact h.2 _ _
    · exact Nat.zero_le _
  refine ⟨fun g => ?_, fun e k => Nat.le_trans (h1 e k) (by omega)⟩
  show nst m s c g ≤ 16 * B
  unfold nst
  refine Nat.le_trans (sm_bound (c := B) (fun i _ => ?_)) (Nat.mul_le_mul_right B (by have := he.1; unfold nE; omega))
  split
  · exact h1 _ _
  · exact Nat.zero_le _
theorem WFe.nE16 {m : eW} (he : WFe m) : nE m ≤ 16 ∧ (nE m : Int) = m 67 12 := by
  have := he.1
  unfold nE
  omega
/-- in how many ways letter k of an entry may come there -/
def lbW (m : eW) (s : (Nat → Nat) × (Nat → Nat → Nat)) (e k : Nat) : Nat := if k = 0 then s.1 (m 77 e).toNat else s.2 e (k - 1)
theorem lbW_le {m : eW} {s : (Nat → Nat) × (Nat → Nat → Nat)} {B : Nat} (h : TwB s B) (e k : Nat) : lbW m s e k ≤ B := by
  unfold lbW
  split
  · exact h.1 _
  · exact h.2 _ _
theorem nsp_lb (m : eW) (s : (Nat → Nat) × (Nat → Nat → Nat)) (c e k : Nat) : nsp m s c e k = if fo m e k = c then lbW m s e k else 0 := rfl

theorem g_wt {d : Nat} {Q : Option aV → aS → Prop} {w : eW} {t : eT} {n e k : Int} {m : eW} (h : ((¬ w32 k = 0 → (0 ≤ w32 ((((n * 80) + (e * 5)) + k) - 1) ∧ w32 ((((n * 80) + (e * 5)) + k) - 1) < 320) ∧ (Q (some (0, w 34 (w32 ((((n * 80) + (e * 5)) + k) - 1)).toNat)) (enc w t))) ∧ (¬ (¬ w32 k = 0) → (0 ≤ w32 e ∧ w32 e < 16) ∧ (0 ≤ w32 ((n * 4) + (w 29 (w32 e).toNat)) ∧ w32 ((n * 4) + (w 29 (w32 e).toNat)) < 16) ∧ (Q (some (0, w 35 (w32 ((n * 4) + (w 29 (w32 e).toNat))).toNat)) (enc w t))))) : Cl (d) 44 [rA 28, (0, n), (0, e), (0, k)] (enc w t) Q := by
  show Ev (d) 44 Q 0 [rA 28, (0, n), (0, e), (0, k)] [] (enc w t)
  refine e_ldi (show am_cd 44 0 = (2, 1, 3, 0, []) by decide +kernel) rfl ?_
  refine e_if1 (show am_cd 44 1 = (10, 4, 22, 1, []) by decide +kernel) (fun hc => ?_) (fun hc => ?_)
  · replace h := h.1 hc
    refine e_lda (v := 28) (show am_cd 44 22 = (2, 23, 0, 2, []) by decide +kernel) rfl ?_
    refine e_getr (a := 28) (r := 34) (show am_cd 44 23 = (18, 26, 305, 2, [28]) by decide +kernel) (by decide +kernel) (by decide +kernel) rfl ?_
    refine e_ldi (show am_cd 44 26 = (2, 27, 1, 0, []) by decide +kernel) rfl ?_
    refine e_ic (show am_cd 44 27 = (0, 29, 1, 80, []) by decide +kernel) ?_
    refine e_imul (show am_cd 44 29 = (5, 30, 2, 0, []) by decide +kernel) ?_
    refine e_ldi (show am_cd 44 30 = (2, 31, 2, 0, []) by decide +kernel) rfl ?_
    refine e_ic (show am_cd 44 31 = (0, 32, 0, 5, []) by decide +kernel) ?_
    refine e_imul (show am_cd 44 32 = (5, 33, 2, 0, []) by decide +kernel) ?_
    refine e_iadd (show am_cd 44 33 = (5, 34, 0, 0, []) by decide +kernel) ?_
    refine e_ldi (show am_cd 44 34 = (2, 35, 3, 0, []) by decide +kernel) rfl ?_
    refine e_iadd (show am_cd 44 35 = (5, 36, 0, 0, []) by decide +kernel) ?_
    refine e_ic (show am_cd 44 36 = (0, 37, 0, 1, []) by decide +kernel) ?_
    refine e_isub (show am_cd 44 37 = (5, 38, 1, 0, []) by decide +kernel) ?_
    refine e_iald (a := 34) (n := 320) (show am_cd 44 38 = (21, 39, 0, 0, []) by decide +kernel) (by decide +kernel) (by decide +kernel) (by decide +kernel) h.1 ?_
    replace h := h.2
    exact e_reti (show am_cd 44 39 = (36, 40, 0, 0, []) by decide +kernel) (by decide +kernel) h
  · replace h := h.2 hc
    refine e_lda (v := 28) (show am_cd 44 4 = (2, 5, 0, 2, []) by decide +kernel) rfl ?_
    refine e_getr (a := 28) (r := 35) (show am_cd 44 5 = (18, 8, 306, 2, [31]) by decide +kernel) (by decide +kernel) (by decide +kernel) rfl ?_
    refine e_ldi (show am_cd 44 8 = (2, 9, 1, 0, []) by decide +kernel) rfl ?_
    refine e_ic (show am_cd 44 9 = (0, 10, 0, 4, []) by decide +kernel) ?_
    refine e_imul (show am_cd 44 10 = (5, 11, 2, 0, []) by decide +kernel) ?_
    refine e_lda (v := 28) (show am_cd 44 11 = (2, 12, 0, 2, []) by decide +kernel) rfl ?_
    refine e_getr (a := 28) (r := 29) (show am_cd 44 12 = (18, 15, 300, 2, [9]) by decide +kernel) (by decide +kernel) (by decide +kernel) rfl ?_
    refine e_ldi (show am_cd 44 15 = (2, 16, 2, 0, []) by decide +kernel) rfl ?_
    refine e_iald (a := 29) (n := 16) (show am_cd 44 16 = (21, 17, 0, 0, []) by decide +kernel) (by decide +kernel) (by decide +kernel) (by decide +kernel) h.1 ?_
    replace h := h.2
    refine e_iadd (show am_cd 44 17 = (5, 18, 0, 0, []) by decide +kernel) ?_
    refine e_iald (a := 35) (n := 16) (show am_cd 44 18 = (21, 19, 0, 0, []) by decide +kernel) (by decide +kernel) (by decide +kernel) (by decide +kernel) h.1 ?_
    replace h := h.2
    refine e_go (show am_cd 44 19 = (12, 39, 0, 0, []) by decide +kernel) ?_
    exact e_reti (show am_cd 44 39 = (36, 40, 0, 0, []) by decide +kernel) (by decide +kernel) h

theorem c_wt {d D : Nat} {w m : eW} {t : eT} {s : (Nat → Nat) × (Nat → Nat → Nat)} {n e k : Int} (h : (XC w m ∧ WFe m ∧ TwD w m D s ∧ D ≤ 3) ∧ n = (D : Int) ∧ (0 ≤ e ∧ e < (nE m : Int)) ∧ (0 ≤ k ∧ k < (fmN m e.toNat : Int))) : Cl d 44 [rA 28, (0, n), (0, e), (0, k)] (enc w t) (fun r S2 => r = some (0, ((lbW m s e.toNat k.toNat : Nat) : Int)) ∧ S2 = enc w t) := by
  obtain ⟨⟨hX, he, hT, hD⟩, rfl, he0, hk0⟩ := h
  obtain ⟨e, rfl⟩ := Int.eq_ofNat_of_zero_le he0.1
  obtain ⟨k, rfl⟩ := Int.eq_ofNat_of_zero_le hk0.1
  rw [Int.toNat_natCast] at hk0 ⊢
  rw [Int.toNat_natCast]
  have hx : e < nE m := by omega
  have hk : k < fmN m e := by omega
  have hn := he.nE16
  have hfm := he.fm hx
  obtain ⟨x1, x2, x3, x4⟩ := hX.2 e hx
  have hw := he.2 e hx
  refine g_wt (m := m) ?_
  rw [w32_id (x := (k : Int)) (by omega), w32_id (x := (e : Int)) (by omega), Int.toNat_natCast, x1]
  refine ⟨fun h1 => ?_, fun h1 => ?_⟩
  · have e1 : w 34 (w32 ((((D : Int) * 80) + ((e : Int) * 5)) + (k : Int) - 1)).toNat = (lbW m s e k : Int) := by
      unfold lbW
      rw [if_neg (by omega), w32_id (by omega), ← hT.2 e (k - 1) hx (by omega)]
      congr 1
      omega
    exact ⟨by rw [w32_id (by omega)]; omega, by rw [e1], rfl⟩
  · have e1 : w 35 (w32 ((D : Int) * 4 + m 77 e)).toNat = (lbW m s e k : Int) := by
      unfold lbW
      rw [if_pos (by omega), w32_id (by omega), ← hT.1 (m 77 e).toNat (by omega)]
      congr 1
      omega
    exact ⟨by omega, by rw [w32_id (by omega)]; omega, by rw [e1], rfl⟩

theorem g_whw1 {d : Nat} {Q : Option aV → aS → Prop} {w : eW} {t : eT} {n : Int} {m : eW} {s : (Nat → Nat) × (Nat → Nat → Nat)} {D : Nat} (h : (fxA 101 20 28) ∧ (Ev (d + 1) 29 Q 10 [rA 28, (0, n), (0, 0), (9, 0)] [] (enc (wfl w 101 28 0) t))) : Cl (d + 1) 29 [rA 28, (0, n)] (enc w t) Q := by
  show Ev (d + 1) 29 Q 0 [rA 28, (0, n), (9, 0), (9, 0)] [] (enc w t)
  refine e_lda (v := 28) (show am_cd 29 0 = (2, 1, 0, 2, []) by decide +kernel) rfl ?_
  refine e_getr (a := 28) (r := 101) (show am_cd 29 1 = (18, 4, 311, 2, [34]) by decide +kernel) (by decide +kernel) (by decide +kernel) rfl ?_
  refine e_ic (show am_cd 29 4 = (0, 5, 0, 0, []) by decide +kernel) ?_
  refine e_cS (z := 0) (as := [rA 101, (0, 0)]) (rest := []) (show am_cd 29 5 = (40, 8, 269, 1, [44]) by decide +kernel) (by decide) rfl rfl (Nat.le_of_ble_eq_true rfl) rfl ?_
  refine Cl.mono (Cl.up (c_fillI (d := d) h.1) (by omega)) ?_
  rintro _ _ ⟨rfl, rfl⟩
  refine ⟨fun _ h9 => (by cases h9), ?_⟩
  replace h := h.2
  show Ev _ 29 _ 8 [rA 28, (0, n), (9, 0), (9, 0)] [] _
  refine e_ic (show am_cd 29 8 = (0, 9, 0, 0, []) by decide +kernel) ?_
  refine e_sti (la2 := [rA 28, (0, n), (0, 0), (9, 0)]) (show am_cd 29 9 = (3, 10, 2, 0, []) by decide +kernel) rfl ?_
  exact h

theorem g_whw2 {d : Nat} {Q : Option aV → aS → Prop} {w : eW} {t : eT} {n e : Int} {m : eW} {s : (Nat → Nat) × (Nat → Nat → Nat)} {D : Nat} {J3 : aV} (h : ((w32 (w 28 8) ≤ w32 e → Ev (d + 1) 29 Q 70 [rA 28, (0, n), (0, 1), J3] [] (enc w t)) ∧ (¬ (w32 (w 28 8) ≤ w32 e) → (0 ≤ w32 e ∧ w32 e < 16) ∧ ((¬ w32 (w 30 (w32 e).toNat) = w32 (-1) → Ev (d + 1) 29 Q 10 [rA 28, (0, n), (0, e + 1), J3] [] (enc w t)) ∧ (¬ (¬ w32 (w 30 (w32 e).toNat) = w32 (-1)) → (0 ≤ w32 e ∧ w32 e < 16) ∧ (0 ≤ w32 ((e * 5) + ((w 31 (w32 e).toNat) - 1)) ∧ w32 ((e * 5) + ((w 31 (w32 e).toNat) - 1)) < 80) ∧ (0 ≤ w32 (w 32 (w32 ((e * 5) + ((w 31 (w32 e).toNat) - 1))).toNat) ∧ w32 (w 32 (w32 ((e * 5) + ((w 31 (w32 e).toNat) - 1))).toNat) < 28) ∧ ((XC w m ∧ WFe m ∧ TwD w m D s ∧ D ≤ 3) ∧ n = (D : Int) ∧ (0 ≤ e ∧ e < (nE m : Int)) ∧ (0 ≤ (w 31 (w32 e).toNat) - 1 ∧ (w 31 (w32 e).toNat) - 1 < (fmN m e.toNat : Int))) ∧ (0 ≤ w32 (w 32 (w32 ((e * 5) + ((w 31 (w32 e).toNat) - 1))).toNat) ∧ w32 (w 32 (w32 ((e * 5) + ((w 31 (w32 e).toNat) - 1))).toNat) < 28) ∧ (Ev (d + 1) 29 Q 10 [rA 28, (0, n), (0, e + 1), (0, (w 31 (w32 e).toNat) - 1)] [] (enc (wu w 101 (w32 (w 32 (w32 ((e * 5) + ((w 31 (w32 e).toNat) - 1))).toNat)).toNat ((w 101 (w32 (w 32 (w32 ((e * 5) + ((w 31 (w32 e).toNat) - 1))).toNat)).toNat) + ((lbW m s e.toNat ((w 31 (w32 e).toNat) - 1).toNat : Nat) : Int))) t))))))) : Ev (d + 1) 29 Q 10 [rA 28, (0, n), (0, e), J3] [] (enc w t) := by
  refine e_ldi (show am_cd 29 10 = (2, 11, 2, 0, []) by decide +kernel) rfl ?_
  refine e_lda (v := 28) (show am_cd 29 11 = (2, 12, 0, 2, []) by decide +kernel) rfl ?_
  refine e_getf (a := 28) (tg := 0) (show am_cd 29 12 = (18, 15, 308, 0, [40]) by decide +kernel) (by decide +kernel) (by decide +kernel) rfl ?_
  refine e_cmp3 (show am_cd 29 15 = (11, 18, 68, 3, []) by decide +kernel) (fun hc => ?_) (fun hc => ?_)
  · replace h := h.1 hc
    refine e_ic (show am_cd 29 68 = (0, 69, 0, 1, []) by decide +kernel) ?_
    refine e_sti (la2 := [rA 28, (0, n), (0, 1), J3]) (show am_cd 29 69 = (3, 70, 2, 0, []) by decide +kernel) rfl ?_
    exact h
  · replace h := h.2 hc
    refine e_lda (v := 28) (show am_cd 29 18 = (2, 19, 0, 2, []) by decide +kernel) rfl ?_
    refine e_getr (a := 28) (r := 30) (show am_cd 29 19 = (18, 22, 301, 2, [15]) by decide +kernel) (by decide +kernel) (by decide +kernel) rfl ?_
    refine e_ldi (show am_cd 29 22 = (2, 23, 2, 0, []) by decide +kernel) rfl ?_
    refine e_iald (a := 30) (n := 16) (show am_cd 29 23 = (21, 24, 0, 0, []) by decide +kernel) (by decide +kernel) (by decide +kernel) (by decide +kernel) h.1 ?_
    replace h := h.2
    refine e_ic (show am_cd 29 24 = (0, 25, 0, -1, []) by decide +kernel) ?_
    refine e_cmp1 (show am_cd 29 25 = (11, 28, 62, 1, []) by decide +kernel) (fun hc => ?_) (fun hc => ?_)
    · replace h := h.1 hc
      refine e_inc (la2 := [rA 28, (0, n), (0, e + 1), J3]) (show am_cd 29 62 = (4, 65, 2, 1, []) by decide +kernel) rfl rfl ?_
      refine e_go (show am_cd 29 65 = (12, 10, 0, 0, []) by decide +kernel) ?_
      exact h
    · replace h := h.2 hc
      refine e_lda (v := 28) (show am_cd 29 28 = (2, 29, 0, 2, []) by decide +kernel) rfl ?_
      refine e_getr (a := 28) (r := 31) (show am_cd 29 29 = (18, 32, 302, 2, [18]) by decide +kernel) (by decide +kernel) (by decide +kernel) rfl ?_
      refine e_ldi (show am_cd 29 32 = (2, 33, 2, 0, []) by decide +kernel) rfl ?_
      refine e_iald (a := 31) (n := 16) (show am_cd 29 33 = (21, 34, 0, 0, []) by decide +kernel) (by decide +kernel) (by decide +kernel) (by decide +kernel) h.1 ?_
      replace h := h.2
      refine e_ic (show am_cd 29 34 = (0, 35, 0, 1, []) by decide +kernel) ?_
      refine e_isub (show am_cd 29 35 = (5, 36, 1, 0, []) by decide +kernel) ?_
      refine e_sti (la2 := [rA 28, (0, n), (0, e), (0, (w 31 (w32 e).toNat) - 1)]) (show am_cd 29 36 = (3, 37, 3, 0, []) by decide +kernel) rfl ?_
      refine e_lda (v := 28) (show am_cd 29 37 = (2, 38, 0, 2, []) by decide +kernel) rfl ?_
      refine e_getr (a := 28) (r := 101) (show am_cd 29 38 = (18, 41, 311, 2, [34]) by decide +kernel) (by decide +kernel) (by decide +kernel) rfl ?_
      refine e_lda (v := 28) (show am_cd 29 41 = (2, 42, 0, 2, []) by decide +kernel) rfl ?_
      refine e_getr (a := 28) (r := 32) (show am_cd 29 42 = (18, 45, 303, 2, [21]) by decide +kernel) (by decide +kernel) (by decide +kernel) rfl ?_
      refine e_ldi (show am_cd 29 45 = (2, 46, 2, 0, []) by decide +kernel) rfl ?_
      refine e_ic (show am_cd 29 46 = (0, 47, 0, 5, []) by decide +kernel) ?_
      refine e_imul (show am_cd 29 47 = (5, 48, 2, 0, []) by decide +kernel) ?_
      refine e_ldi (show am_cd 29 48 = (2, 49, 3, 0, []) by decide +kernel) rfl ?_
      refine e_iadd (show am_cd 29 49 = (5, 50, 0, 0, []) by decide +kernel) ?_
      refine e_iald (a := 32) (n := 80) (show am_cd 29 50 = (21, 51, 0, 0, []) by decide +kernel) (by decide +kernel) (by decide +kernel) (by decide +kernel) h.1 ?_
      replace h := h.2
      refine e_dup2 (show am_cd 29 51 = (14, 52, 0, 0, []) by decide +kernel) (by decide) ?_
      refine e_iald (a := 101) (n := 28) (show am_cd 29 52 = (21, 53, 0, 0, []) by decide +kernel) (by decide +kernel) (by decide +kernel) (by decide +kernel) h.1 ?_
      replace h := h.2
      refine e_lda (v := 28) (show am_cd 29 53 = (2, 54, 0, 2, []) by decide +kernel) rfl ?_
      refine e_ldi (show am_cd 29 54 = (2, 55, 1, 0, []) by decide +kernel) rfl ?_
      refine e_ldi (show am_cd 29 55 = (2, 56, 2, 0, []) by decide +kernel) rfl ?_
      refine e_ldi (show am_cd 29 56 = (2, 57, 3, 0, []) by decide +kernel) rfl ?_
      refine e_cV (z := 0) (a := 28) (as := [(0, n), (0, e), (0, (w 31 (w32 e).toNat) - 1)]) (rest := [(0, w 101 (w32 (w 32 (w32 ((e * 5) + ((w 31 (w32 e).toNat) - 1))).toNat)).toNat), (0, w 32 (w32 ((e * 5) + ((w 31 (w32 e).toNat) - 1))).toNat), rA 101]) (show am_cd 29 57 = (40, 60, 44, 0, [98]) by decide +kernel) (by decide +kernel) rfl rfl (Nat.le_of_ble_eq_true rfl) rfl ?_
      refine Cl.mono (Cl.up (c_wt (m := m) (s := s) (D := D) (d := d) h.1) (by omega)) ?_
      rintro _ _ ⟨rfl, rfl⟩
      refine ⟨fun _ h9 => (by cases h9), ?_⟩
      replace h := h.2
      show Ev _ 29 _ 60 [rA 28, (0, n), (0, e), (0, (w 31 (w32 e).toNat) - 1)] [(0, ((lbW m s e.toNat ((w 31 (w32 e).toNat) - 1).toNat : Nat) : Int)), (0, w 101 (w32 (w 32 (w32 ((e * 5) + ((w 31 (w32 e).toNat) - 1))).toNat)).toNat), (0, w 32 (w32 ((e * 5) + ((w 31 (w32 e).toNat) - 1))).toNat), rA 101] _
      refine e_iadd (show am_cd 29 60 = (5, 61, 0, 0, []) by decide +kernel) ?_
      refine e_iast (a := 101) (n := 28) (show am_cd 29 61 = (24, 62, 0, 0, []) by decide +kernel) (by decide +kernel) (by decide +kernel) (by decide +kernel) h.1 ?_
      replace h := h.2
      refine e_inc (la2 := [rA 28, (0, n), (0, e + 1), (0, (w 31 (w32 e).toNat) - 1)]) (show am_cd 29 62 = (4, 65, 2, 1, []) by decide +kernel) rfl rfl ?_
      refine e_go (show am_cd 29 65 = (12, 10, 0, 0, []) by decide +kernel) ?_
      exact h

theorem g_whw3 {d : Nat} {Q : Option aV → aS → Prop} {w : eW} {t : eT} {n c : Int} {m : eW} {s : (Nat → Nat) × (Nat → Nat → Nat)} {D : Nat} {J3 : aV} (h : ((w32 28 ≤ w32 c → Q none (enc w t)) ∧ (¬ (w32 28 ≤ w32 c) → (0 ≤ w32 c ∧ w32 c < 28) ∧ ((w32 (w 101 (w32 c).toNat) < w32 2 → Ev (d + 1) 29 Q 70 [rA 28, (0, n), (0, c + 1), J3] [] (enc w t)) ∧ (¬ (w32 (w 101 (w32 c).toNat) < w32 2) → ((¬ w32 (w 28 9) = 0 → Ev (d + 1) 29 Q 70 [rA 28, (0, n), (0, c + 1), J3] [] (enc (wu (wu w 28 10 (w 28 10)) 28 9 ((w 28 9) + 1)) t)) ∧ (¬ (¬ w32 (w 28 9) = 0) → (0 ≤ w32 c ∧ w32 c < 28) ∧ (Ev (d + 1) 29 Q 70 [rA 28, (0, n), (0, c + 1), J3] [] (enc (wu (wu w 28 10 (w 101 (w32 c).toNat)) 28 9 ((w 28 9) + 1)) t))))))))) : Ev (d + 1) 29 Q 70 [rA 28, (0, n), (0, c), J3] [] (enc w t) := by
  refine e_ldi (show am_cd 29 70 = (2, 71, 2, 0, []) by decide +kernel) rfl ?_
  refine e_ic (show am_cd 29 71 = (0, 73, 1, 28, []) by decide +kernel) ?_
  refine e_cmp3 (show am_cd 29 73 = (11, 76, 126, 3, []) by decide +kernel) (fun hc => ?_) (fun hc => ?_)
  · replace h := h.1 hc
    exact e_retv (show am_cd 29 126 = (36, 127, 3, 0, []) by decide +kernel) (by decide +kernel) h
  · replace h := h.2 hc
    refine e_lda (v := 28) (show am_cd 29 76 = (2, 77, 0, 2, []) by decide +kernel) rfl ?_
    refine e_getr (a := 28) (r := 101) (show am_cd 29 77 = (18, 80, 311, 2, [34]) by decide +kernel) (by decide +kernel) (by decide +kernel) rfl ?_
    refine e_ldi (show am_cd 29 80 = (2, 81, 2, 0, []) by decide +kernel) rfl ?_
    refine e_iald (a := 101) (n := 28) (show am_cd 29 81 = (21, 82, 0, 0, []) by decide +kernel) (by decide +kernel) (by decide +kernel) (by decide +kernel) h.1 ?_
    replace h := h.2
    refine e_ic (show am_cd 29 82 = (0, 83, 0, 2, []) by decide +kernel) ?_
    refine e_cmp2 (show am_cd 29 83 = (11, 86, 120, 2, []) by decide +kernel) (fun hc => ?_) (fun hc => ?_)
    · replace h := h.1 hc
      refine e_inc (la2 := [rA 28, (0, n), (0, c + 1), J3]) (show am_cd 29 120 = (4, 123, 2, 1, []) by decide +kernel) rfl rfl ?_
      refine e_go (show am_cd 29 123 = (12, 70, 0, 0, []) by decide +kernel) ?_
      exact h
    · replace h := h.2 hc
      refine e_lda (v := 28) (show am_cd 29 86 = (2, 87, 0, 2, []) by decide +kernel) rfl ?_
      refine e_lda (v := 28) (show am_cd 29 87 = (2, 88, 0, 2, []) by decide +kernel) rfl ?_
      refine e_getf (a := 28) (tg := 0) (show am_cd 29 88 = (18, 91, 309, 0, [78]) by decide +kernel) (by decide +kernel) (by decide +kernel) rfl ?_
      refine e_if1 (show am_cd 29 91 = (10, 94, 103, 1, []) by decide +kernel) (fun hc => ?_) (fun hc => ?_)
      · replace h := h.1 hc
        refine e_lda (v := 28) (show am_cd 29 103 = (2, 104, 0, 2, []) by decide +kernel) rfl ?_
        refine e_getf (a := 28) (tg := 0) (show am_cd 29 104 = (18, 107, 310, 0, [81]) by decide +kernel) (by decide +kernel) (by decide +kernel) rfl ?_
        refine e_putf (a := 28) (show am_cd 29 107 = (19, 110, 310, 0, [81]) by decide +kernel) (by decide +kernel) (by decide +kernel) rfl (fun h9 => absurd h9 (by decide)) (fun h9 => absurd h9 (by decide +kernel)) ?_
        refine e_lda (v := 28) (show am_cd 29 110 = (2, 111, 0, 2, []) by decide +kernel) rfl ?_
        refine e_dup (show am_cd 29 111 = (13, 112, 0, 0, []) by decide +kernel) (by decide) ?_
        refine e_getfE (a := 28) (tg := 0) (v := w 28 9) (show am_cd 29 112 = (18, 115, 309, 0, [78]) by decide +kernel) (by decide +kernel) (by decide +kernel) rfl rfl ?_
        refine e_ic (show am_cd 29 115 = (0, 116, 0, 1, []) by decide +kernel) ?_
        refine e_iadd (show am_cd 29 116 = (5, 117, 0, 0, []) by decide +kernel) ?_
        refine e_putf (a := 28) (show am_cd 29 117 = (19, 120, 309, 0, [78]) by decide +kernel) (by decide +kernel) (by decide +kernel) rfl (fun h9 => absurd h9 (by decide)) (fun h9 => absurd h9 (by decide +kernel)) ?_
        refine e_inc (la2 := [rA 28, (0, n), (0, c + 1), J3]) (show am_cd 29 120 = (4, 123, 2, 1, []) by decide +kernel) rfl rfl ?_
        refine e_go (show am_cd 29 123 = (12, 70, 0, 0, []) by decide +kernel) ?_
        exact h
      · replace h := h.2 hc
        refine e_lda (v := 28) (show am_cd 29 94 = (2, 95, 0, 2, []) by decide +kernel) rfl ?_
        refine e_getr (a := 28) (r := 101) (show am_cd 29 95 = (18, 98, 311, 2, [34]) by decide +kernel) (by decide +kernel) (by decide +kernel) rfl ?_
        refine e_ldi (show am_cd 29 98 = (2, 99, 2, 0, []) by decide +kernel) rfl ?_
        refine e_iald (a := 101) (n := 28) (show am_cd 29 99 = (21, 100, 0, 0, []) by decide +kernel) (by decide +kernel) (by decide +kernel) (by decide +kernel) h.1 ?_
        replace h := h.2
        refine e_go (show am_cd 29 100 = (12, 107, 0, 0, []) by decide +kernel) ?_
        refine e_putf (a := 28) (show am_cd 29 107 = (19, 110, 310, 0, [81]) by decide +kernel) (by decide +kernel) (by decide +kernel) rfl (fun h9 => absurd h9 (by decide)) (fun h9 => absurd h9 (by decide +kernel)) ?_
        refine e_lda (v := 28) (show am_cd 29 110 = (2, 111, 0, 2, []) by decide +kernel) rfl ?_
        refine e_dup (show am_cd 29 111 = (13, 112, 0, 0, []) by decide +kernel) (by decide) ?_
        refine e_getfE (a := 28) (tg := 0) (v := w 28 9) (show am_cd 29 112 = (18, 115, 309, 0, [78]) by decide +kernel) (by decide +kernel) (by decide +kernel) rfl rfl ?_
        refine e_ic (show am_cd 29 115 = (0, 116, 0, 1, []) by decide +kernel) ?_
        refine e_iadd (show am_cd 29 116 = (5, 117, 0, 0, []) by decide +kernel) ?_
        refine e_putf (a := 28) (show am_cd 29 117 = (19, 120, 309, 0, [78]) by decide +kernel) (by decide +kernel) (by decide +kernel) rfl (fun h9 => absurd h9 (by decide)) (fun h9 => absurd h9 (by decide +kernel)) ?_
        refine e_inc (la2 := [rA 28, (0, n), (0, c + 1), J3]) (show am_cd 29 120 = (4, 123, 2, 1, []) by decide +kernel) rfl rfl ?_
        refine e_go (show am_cd 29 123 = (12, 70, 0, 0, []) by decide +kernel) ?_
        exact h

theorem g_lb1 {d : Nat} {Q : Option aV → aS → Prop} {w : eW} {t : eT} {n : Int} {m : eW} {s : (Nat → Nat) × (Nat → Nat → Nat)} {D : Nat} (h : Ev (d + 1) 30 Q 4 [rA 28, (0, n), (0, 0), (0, 0), (9, 0)] [] (enc w t)) : Cl (d + 1) 30 [rA 28, (0, n)] (enc w t) Q := by
  show Ev (d + 1) 30 Q 0 [rA 28, (0, n), (9, 0), (9, 0), (9, 0)] [] (enc w t)
  refine e_ic (show am_cd 30 0 = (0, 1, 0, 0, []) by decide +kernel) ?_
  refine e_sti (la2 := [rA 28, (0, n), (0, 0), (9, 0), (9, 0)]) (show am_cd 30 1 = (3, 2, 2, 0, []) by decide +kernel) rfl ?_
  refine e_ic (show am_cd 30 2 = (0, 3, 0, 0, []) by decide +kernel) ?_
  refine e_sti (la2 := [rA 28, (0, n), (0, 0), (0, 0), (9, 0)]) (show am_cd 30 3 = (3, 4, 3, 0, []) by decide +kernel) rfl ?_
  exact h

theorem g_lb2 {d : Nat} {Q : Option aV → aS → Prop} {w : eW} {t : eT} {n y e : Int} {m : eW} {s : (Nat → Nat) × (Nat → Nat → Nat)} {D : Nat} {Jn : aV} (h : ((w32 (w 28 8) ≤ w32 e → Q (some (0, y)) (enc w t)) ∧ (¬ (w32 (w 28 8) ≤ w32 e) → Ev (d + 1) 30 Q 15 [rA 28, (0, n), (0, y), (0, e), (0, 0)] [] (enc w t)))) : Ev (d + 1) 30 Q 4 [rA 28, (0, n), (0, y), (0, e), Jn] [] (enc w t) := by
  refine e_ldi (show am_cd 30 4 = (2, 5, 3, 0, []) by decide +kernel) rfl ?_
  refine e_lda (v := 28) (show am_cd 30 5 = (2, 6, 0, 2, []) by decide +kernel) rfl ?_
  refine e_getf (a := 28) (tg := 0) (show am_cd 30 6 = (18, 9, 308, 0, [40]) by decide +kernel) (by decide +kernel) (by decide +kernel) rfl ?_
  refine e_cmp3 (show am_cd 30 9 = (11, 12, 65, 3, []) by decide +kernel) (fun hc => ?_) (fun hc => ?_)
  · replace h := h.1 hc
    refine e_ldi (show am_cd 30 65 = (2, 66, 2, 0, []) by decide +kernel) rfl ?_
    exact e_reti (show am_cd 30 66 = (36, 67, 0, 0, []) by decide +kernel) (by decide +kernel) h
  · replace h := h.2 hc
    refine e_ic (show am_cd 30 12 = (0, 13, 0, 0, []) by decide +kernel) ?_
    refine e_sti (la2 := [rA 28, (0, n), (0, y), (0, e), (0, 0)]) (show am_cd 30 13 = (3, 15, 4, 0, []) by decide +kernel) rfl ?_
    exact h

theorem g_lb3 {d : Nat} {Q : Option aV → aS → Prop} {w : eW} {t : eT} {n y e k : Int} {m : eW} {s : (Nat → Nat) × (Nat → Nat → Nat)} {D : Nat} (h : (0 ≤ w32 e ∧ w32 e < 16) ∧ ((w32 (w 31 (w32 e).toNat) ≤ w32 k → Ev (d + 1) 30 Q 4 [rA 28, (0, n), (0, y), (0, e + 1), (0, k)] [] (enc w t)) ∧ (¬ (w32 (w 31 (w32 e).toNat) ≤ w32 k) → ((XC w m ∧ WFe m ∧ TwD w m D s ∧ D ≤ 3) ∧ n = (D : Int) ∧ (0 ≤ e ∧ e < (nE m : Int)) ∧ (0 ≤ k ∧ k < (fmN m e.toNat : Int))) ∧ ((w32 ((lbW m s e.toNat k.toNat : Nat) : Int) ≤ 0 → Ev (d + 1) 30 Q 15 [rA 28, (0, n), (0, y), (0, e), (0, k + 1)] [] (enc w t)) ∧ (¬ (w32 ((lbW m s e.toNat k.toNat : Nat) : Int) ≤ 0) → (0 ≤ w32 ((e * 5) + k) ∧ w32 ((e * 5) + k) < 80) ∧ (Ev (d + 1) 30 Q 15 [rA 28, (0, n), (0, ior y (ishl 1 (w 32 (w32 ((e * 5) + k)).toNat))), (0, e), (0, k + 1)] [] (enc w t))))))) : Ev (d + 1) 30 Q 15 [rA 28, (0, n), (0, y), (0, e), (0, k)] [] (enc w t) := by
  refine e_ldi (show am_cd 30 15 = (2, 17, 4, 0, []) by decide +kernel) rfl ?_
  refine e_lda (v := 28) (show am_cd 30 17 = (2, 18, 0, 2, []) by decide +kernel) rfl ?_
  refine e_getr (a := 28) (r := 31) (show am_cd 30 18 = (18, 21, 302, 2, [18]) by decide +kernel) (by decide +kernel) (by decide +kernel) rfl ?_
  refine e_ldi (show am_cd 30 21 = (2, 22, 3, 0, []) by decide +kernel) rfl ?_
  refine e_iald (a := 31) (n := 16) (show am_cd 30 22 = (21, 23, 0, 0, []) by decide +kernel) (by decide +kernel) (by decide +kernel) (by decide +kernel) h.1 ?_
  replace h := h.2
  refine e_cmp3 (show am_cd 30 23 = (11, 26, 59, 3, []) by decide +kernel) (fun hc => ?_) (fun hc => ?_)
  · replace h := h.1 hc
    refine e_inc (la2 := [rA 28, (0, n), (0, y), (0, e + 1), (0, k)]) (show am_cd 30 59 = (4, 62, 3, 1, []) by decide +kernel) rfl rfl ?_
    refine e_go (show am_cd 30 62 = (12, 4, 0, 0, []) by decide +kernel) ?_
    exact h
  · replace h := h.2 hc
    refine e_lda (v := 28) (show am_cd 30 26 = (2, 27, 0, 2, []) by decide +kernel) rfl ?_
    refine e_ldi (show am_cd 30 27 = (2, 28, 1, 0, []) by decide +kernel) rfl ?_
    refine e_ldi (show am_cd 30 28 = (2, 29, 3, 0, []) by decide +kernel) rfl ?_
    refine e_ldi (show am_cd 30 29 = (2, 31, 4, 0, []) by decide +kernel) rfl ?_
    refine e_cV (z := 0) (a := 28) (as := [(0, n), (0, e), (0, k)]) (rest := []) (show am_cd 30 31 = (40, 34, 44, 0, [98]) by decide +kernel) (by decide +kernel) rfl rfl (Nat.le_of_ble_eq_true rfl) rfl ?_
    refine Cl.mono (Cl.up (c_wt (m := m) (s := s) (D := D) (d := d) h.1) (by omega)) ?_
    rintro _ _ ⟨rfl, rfl⟩
    refine ⟨fun _ h9 => (by cases h9), ?_⟩
    replace h := h.2
    show Ev _ 30 _ 34 [rA 28, (0, n), (0, y), (0, e), (0, k)] [(0, ((lbW m s e.toNat k.toNat : Nat) : Int))] _
    refine e_if5 (show am_cd 30 34 = (10, 37, 53, 5, []) by decide +kernel) (fun hc => ?_) (fun hc => ?_)
    · replace h := h.1 hc
      refine e_inc (la2 := [rA 28, (0, n), (0, y), (0, e), (0, k + 1)]) (show am_cd 30 53 = (4, 56, 4, 1, []) by decide +kernel) rfl rfl ?_
      refine e_go (show am_cd 30 56 = (12, 15, 0, 0, []) by decide +kernel) ?_
      exact h
    · replace h := h.2 hc
      refine e_ldi (show am_cd 30 37 = (2, 38, 2, 0, []) by decide +kernel) rfl ?_
      refine e_ic (show am_cd 30 38 = (0, 39, 0, 1, []) by decide +kernel) ?_
      refine e_lda (v := 28) (show am_cd 30 39 = (2, 40, 0, 2, []) by decide +kernel) rfl ?_
      refine e_getr (a := 28) (r := 32) (show am_cd 30 40 = (18, 43, 303, 2, [21]) by decide +kernel) (by decide +kernel) (by decide +kernel) rfl ?_
      refine e_ldi (show am_cd 30 43 = (2, 44, 3, 0, []) by decide +kernel) rfl ?_
      refine e_ic (show am_cd 30 44 = (0, 45, 0, 5, []) by decide +kernel) ?_
      refine e_imul (show am_cd 30 45 = (5, 46, 2, 0, []) by decide +kernel) ?_
      refine e_ldi (show am_cd 30 46 = (2, 48, 4, 0, []) by decide +kernel) rfl ?_
      refine e_iadd (show am_cd 30 48 = (5, 49, 0, 0, []) by decide +kernel) ?_
      refine e_iald (a := 32) (n := 80) (show am_cd 30 49 = (21, 50, 0, 0, []) by decide +kernel) (by decide +kernel) (by decide +kernel) (by decide +kernel) h.1 ?_
      replace h := h.2
      refine e_ishl (show am_cd 30 50 = (5, 51, 6, 0, []) by decide +kernel) ?_
      refine e_ior (show am_cd 30 51 = (5, 52, 4, 0, []) by decide +kernel) ?_
      refine e_sti (la2 := [rA 28, (0, n), (0, ior y (ishl 1 (w 32 (w32 ((e * 5) + k)).toNat))), (0, e), (0, k)]) (show am_cd 30 52 = (3, 53, 2, 0, []) by decide +kernel) rfl ?_
      refine e_inc (la2 := [rA 28, (0, n), (0, ior y (ishl 1 (w 32 (w32 ((e * 5) + k)).toNat))), (0, e), (0, k + 1)]) (show am_cd 30 53 = (4, 56, 4, 1, []) by decide +kernel) rfl rfl ?_
      refine e_go (show am_cd 30 56 = (12, 15, 0, 0, []) by decide +kernel) ?_
      exact h

