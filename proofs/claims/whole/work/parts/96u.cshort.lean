/-! The class: an entry more. -/
def torP (tx : List Int) (w : eW) (R : Except Nat (List Int)) (x : Int) (w2 : eW) : Prop := Fc [6] [(2, 6), (2, 8)] w w2 ∧ TC w2 tx ∧ match R with
  | .error q => x = 0 ∧ w2 2 6 = (q : Int)
  | .ok l => x = 1 ∧ w2 2 8 = (l.length : Int) ∧ LtC w2 6 l ∧ (1 ≤ l.length ∧ l.length ≤ 6) ∧ ∀ v ∈ l, 0 ≤ v ∧ v ≤ 26
theorem c_torU {d : Nat} {w : eW} {t : eT} {tx : List Int} {k : Int} (h : TC w tx ∧ w 2 6 = 0 ∧ (0 : Int) ≤ k ∧ (k : Int) ≤ 6) : Cl (d + 3) 87 [rA 2, (0, k)] (enc w t) (fun r S2 => ∃ x w2, r = some (0, x) ∧ S2 = enc w2 t ∧ torP tx w (lsR tx k.toNat) x w2) := by
  have := c_takesOneRow (d := d) (t := t) (k := k.toNat) ⟨h.1, h.2.1, by omega⟩
  rw [show ((k.toNat : Nat) : Int) = k by omega] at this
  refine this.mono (fun r S2 ⟨w2, e, f, T, q⟩ => ?_)
  unfold torP
  cases hp : lsR tx k.toNat with
  | error z => rw [hp] at q; exact ⟨0, w2, q.1, e, f, T, rfl, q.2⟩
  | ok l => rw [hp] at q; exact ⟨1, w2, q.1, e, f, T, rfl, q.2⟩
def shR (m w w2 : eW) : Prop := Fc [36] [] w w2 ∧ (∀ c, c < 4 → 0 ≤ w2 36 c ∧ w2 36 c ≤ w 36 c) ∧ ∀ e, e < nE m → w2 36 (m 77 e).toNat ≤ m 79 e + (if m 78 e = -1 then 0 else w 36 (m 78 e).toNat)

theorem g_sh {d : Nat} {Q : Option aV → aS → Prop} {w : eW} {t : eT} {tx : List Int} {m : eW} (h : Ev (d + 1) 23 Q 2 [rA 28, (0, 0)] [] (enc w t)) : Cl (d + 1) 23 [rA 28] (enc w t) Q := by
  show Ev (d + 1) 23 Q 0 [rA 28, (9, 0)] [] (enc w t)
  refine e_ic (show am_cd 23 0 = (0, 1, 0, 0, []) by decide +kernel) ?_
  refine e_sti (la2 := [rA 28, (0, 0)]) (show am_cd 23 1 = (3, 2, 1, 0, []) by decide +kernel) rfl ?_
  exact h

theorem g_sh1 {d : Nat} {Q : Option aV → aS → Prop} {w : eW} {t : eT} {e : Int} {tx : List Int} {m : eW} (h : ((w32 (w 28 8) ≤ w32 e → Q none (enc w t)) ∧ (¬ (w32 (w 28 8) ≤ w32 e) → (0 ≤ w32 e ∧ w32 e < 16) ∧ (0 ≤ w32 e ∧ w32 e < 16) ∧ (0 ≤ w32 (w 29 (w32 e).toNat) ∧ w32 (w 29 (w32 e).toNat) < 4) ∧ (0 ≤ w32 e ∧ w32 e < 16) ∧ (0 ≤ w32 e ∧ w32 e < 16) ∧ ((¬ w32 (w 30 (w32 e).toNat) = w32 (-1) → (0 ≤ w32 e ∧ w32 e < 16) ∧ (0 ≤ w32 (w 30 (w32 e).toNat) ∧ w32 (w 30 (w32 e).toNat) < 4) ∧ (0 ≤ w32 (w 29 (w32 e).toNat) ∧ w32 (w 29 (w32 e).toNat) < 4) ∧ (Ev (d + 1) 23 Q 2 [rA 28, (0, e + 1)] [] (enc (wu w 36 (w32 (w 29 (w32 e).toNat)).toNat (if w32 ((w 31 (w32 e).toNat) + (w 36 (w32 (w 30 (w32 e).toNat)).toNat)) < w32 (w 36 (w32 (w 29 (w32 e).toNat)).toNat) then ((w 31 (w32 e).toNat) + (w 36 (w32 (w 30 (w32 e).toNat)).toNat)) else (w 36 (w32 (w 29 (w32 e).toNat)).toNat))) t))) ∧ (¬ (¬ w32 (w 30 (w32 e).toNat) = w32 (-1)) → (0 ≤ w32 (w 29 (w32 e).toNat) ∧ w32 (w 29 (w32 e).toNat) < 4) ∧ (Ev (d + 1) 23 Q 2 [rA 28, (0, e + 1)] [] (enc (wu w 36 (w32 (w 29 (w32 e).toNat)).toNat (if w32 ((w 31 (w32 e).toNat) + 0) < w32 (w 36 (w32 (w 29 (w32 e).toNat)).toNat) then ((w 31 (w32 e).toNat) + 0) else (w 36 (w32 (w 29 (w32 e).toNat)).toNat))) t))))))) : Ev (d + 1) 23 Q 2 [rA 28, (0, e)] [] (enc w t) := by
  refine e_ldi (show am_cd 23 2 = (2, 3, 1, 0, []) by decide +kernel) rfl ?_
  refine e_lda (v := 28) (show am_cd 23 3 = (2, 4, 0, 2, []) by decide +kernel) rfl ?_
  refine e_getf (a := 28) (tg := 0) (show am_cd 23 4 = (18, 7, 308, 0, [40]) by decide +kernel) (by decide +kernel) (by decide +kernel) rfl ?_
  refine e_cmp3 (show am_cd 23 7 = (11, 10, 46, 3, []) by decide +kernel) (fun hc => ?_) (fun hc => ?_)
  · replace h := h.1 hc
    exact e_retv (show am_cd 23 46 = (36, 47, 3, 0, []) by decide +kernel) (by decide +kernel) h
  · replace h := h.2 hc
    refine e_lda (v := 28) (show am_cd 23 10 = (2, 11, 0, 2, []) by decide +kernel) rfl ?_
    refine e_getr (a := 28) (r := 36) (show am_cd 23 11 = (18, 14, 307, 2, [37]) by decide +kernel) (by decide +kernel) (by decide +kernel) rfl ?_
    refine e_lda (v := 28) (show am_cd 23 14 = (2, 15, 0, 2, []) by decide +kernel) rfl ?_
    refine e_getr (a := 28) (r := 29) (show am_cd 23 15 = (18, 18, 300, 2, [9]) by decide +kernel) (by decide +kernel) (by decide +kernel) rfl ?_
    refine e_ldi (show am_cd 23 18 = (2, 19, 1, 0, []) by decide +kernel) rfl ?_
    refine e_iald (a := 29) (n := 16) (show am_cd 23 19 = (21, 20, 0, 0, []) by decide +kernel) (by decide +kernel) (by decide +kernel) (by decide +kernel) h.1 ?_
    replace h := h.2
    refine e_lda (v := 28) (show am_cd 23 20 = (2, 21, 0, 2, []) by decide +kernel) rfl ?_
    refine e_getr (a := 28) (r := 36) (show am_cd 23 21 = (18, 24, 307, 2, [37]) by decide +kernel) (by decide +kernel) (by decide +kernel) rfl ?_
    refine e_lda (v := 28) (show am_cd 23 24 = (2, 25, 0, 2, []) by decide +kernel) rfl ?_
    refine e_getr (a := 28) (r := 29) (show am_cd 23 25 = (18, 28, 300, 2, [9]) by decide +kernel) (by decide +kernel) (by decide +kernel) rfl ?_
    refine e_ldi (show am_cd 23 28 = (2, 29, 1, 0, []) by decide +kernel) rfl ?_
    refine e_iald (a := 29) (n := 16) (show am_cd 23 29 = (21, 30, 0, 0, []) by decide +kernel) (by decide +kernel) (by decide +kernel) (by decide +kernel) h.1 ?_
    replace h := h.2
    refine e_iald (a := 36) (n := 4) (show am_cd 23 30 = (21, 31, 0, 0, []) by decide +kernel) (by decide +kernel) (by decide +kernel) (by decide +kernel) h.1 ?_
    replace h := h.2
    refine e_lda (v := 28) (show am_cd 23 31 = (2, 32, 0, 2, []) by decide +kernel) rfl ?_
    refine e_ldi (show am_cd 23 32 = (2, 33, 1, 0, []) by decide +kernel) rfl ?_
    refine e_cV (z := 0) (a := 28) (as := [(0, e)]) (rest := [(0, w 36 (w32 (w 29 (w32 e).toNat)).toNat), (0, w 29 (w32 e).toNat), rA 36]) (show am_cd 23 33 = (40, 36, 24, 0, [67]) by decide +kernel) (by decide +kernel) rfl rfl (Nat.le_of_ble_eq_true rfl) rfl ?_
    show Ev _ 24 _ 0 [rA 28, (0, e)] [] _
    refine e_lda (v := 28) (show am_cd 24 0 = (2, 1, 0, 2, []) by decide +kernel) rfl ?_
    refine e_getr (a := 28) (r := 31) (show am_cd 24 1 = (18, 4, 302, 2, [18]) by decide +kernel) (by decide +kernel) (by decide +kernel) rfl ?_
    refine e_ldi (show am_cd 24 4 = (2, 5, 1, 0, []) by decide +kernel) rfl ?_
    refine e_iald (a := 31) (n := 16) (show am_cd 24 5 = (21, 6, 0, 0, []) by decide +kernel) (by decide +kernel) (by decide +kernel) (by decide +kernel) h.1 ?_
    replace h := h.2
    refine e_lda (v := 28) (show am_cd 24 6 = (2, 7, 0, 2, []) by decide +kernel) rfl ?_
    refine e_getr (a := 28) (r := 30) (show am_cd 24 7 = (18, 10, 301, 2, [15]) by decide +kernel) (by decide +kernel) (by decide +kernel) rfl ?_
    refine e_ldi (show am_cd 24 10 = (2, 11, 1, 0, []) by decide +kernel) rfl ?_
    refine e_iald (a := 30) (n := 16) (show am_cd 24 11 = (21, 12, 0, 0, []) by decide +kernel) (by decide +kernel) (by decide +kernel) (by decide +kernel) h.1 ?_
    replace h := h.2
    refine e_ic (show am_cd 24 12 = (0, 13, 0, -1, []) by decide +kernel) ?_
    refine e_cmp1 (show am_cd 24 13 = (11, 16, 20, 1, []) by decide +kernel) (fun hc => ?_) (fun hc => ?_)
    · replace h := h.1 hc
      refine e_lda (v := 28) (show am_cd 24 20 = (2, 21, 0, 2, []) by decide +kernel) rfl ?_
      refine e_getr (a := 28) (r := 36) (show am_cd 24 21 = (18, 24, 307, 2, [37]) by decide +kernel) (by decide +kernel) (by decide +kernel) rfl ?_
      refine e_lda (v := 28) (show am_cd 24 24 = (2, 25, 0, 2, []) by decide +kernel) rfl ?_
      refine e_getr (a := 28) (r := 30) (show am_cd 24 25 = (18, 28, 301, 2, [15]) by decide +kernel) (by decide +kernel) (by decide +kernel) rfl ?_
      refine e_ldi (show am_cd 24 28 = (2, 29, 1, 0, []) by decide +kernel) rfl ?_
      refine e_iald (a := 30) (n := 16) (show am_cd 24 29 = (21, 30, 0, 0, []) by decide +kernel) (by decide +kernel) (by decide +kernel) (by decide +kernel) h.1 ?_
      replace h := h.2
      refine e_iald (a := 36) (n := 4) (show am_cd 24 30 = (21, 31, 0, 0, []) by decide +kernel) (by decide +kernel) (by decide +kernel) (by decide +kernel) h.1 ?_
      replace h := h.2
      refine e_iadd (show am_cd 24 31 = (5, 32, 0, 0, []) by decide +kernel) ?_
      refine e_reti (show am_cd 24 32 = (36, 33, 0, 0, []) by decide +kernel) (by decide +kernel) ⟨fun _ h9 => (by cases h9), ?_⟩
      show Ev _ 23 _ 36 [rA 28, (0, e)] [(0, (w 31 (w32 e).toNat) + (w 36 (w32 (w 30 (w32 e).toNat)).toNat)), (0, w 36 (w32 (w 29 (w32 e).toNat)).toNat), (0, w 29 (w32 e).toNat), rA 36] _
      refine e_min (z := 0) (show am_cd 23 36 = (33, 39, 10, 0, [55]) by decide +kernel) (Nat.le_of_ble_eq_true rfl) ?_
      refine e_iast (a := 36) (n := 4) (show am_cd 23 39 = (24, 40, 0, 0, []) by decide +kernel) (by decide +kernel) (by decide +kernel) (by decide +kernel) h.1 ?_
      replace h := h.2
      refine e_inc (la2 := [rA 28, (0, e + 1)]) (show am_cd 23 40 = (4, 43, 1, 1, []) by decide +kernel) rfl rfl ?_
      refine e_go (show am_cd 23 43 = (12, 2, 0, 0, []) by decide +kernel) ?_
      exact h
    · replace h := h.2 hc
      refine e_ic (show am_cd 24 16 = (0, 17, 0, 0, []) by decide +kernel) ?_
      refine e_go (show am_cd 24 17 = (12, 31, 0, 0, []) by decide +kernel) ?_
      refine e_iadd (show am_cd 24 31 = (5, 32, 0, 0, []) by decide +kernel) ?_
      refine e_reti (show am_cd 24 32 = (36, 33, 0, 0, []) by decide +kernel) (by decide +kernel) ⟨fun _ h9 => (by cases h9), ?_⟩
      show Ev _ 23 _ 36 [rA 28, (0, e)] [(0, (w 31 (w32 e).toNat) + 0), (0, w 36 (w32 (w 29 (w32 e).toNat)).toNat), (0, w 29 (w32 e).toNat), rA 36] _
      refine e_min (z := 0) (show am_cd 23 36 = (33, 39, 10, 0, [55]) by decide +kernel) (Nat.le_of_ble_eq_true rfl) ?_
      refine e_iast (a := 36) (n := 4) (show am_cd 23 39 = (24, 40, 0, 0, []) by decide +kernel) (by decide +kernel) (by decide +kernel) (by decide +kernel) h.1 ?_
      replace h := h.2
      refine e_inc (la2 := [rA 28, (0, e + 1)]) (show am_cd 23 40 = (4, 43, 1, 1, []) by decide +kernel) rfl rfl ?_
      refine e_go (show am_cd 23 43 = (12, 2, 0, 0, []) by decide +kernel) ?_
      exact h

theorem c_sh {d : Nat} {w m : eW} {t : eT} (hX : XC w m) (he : WFe m) (hs : ∀ c, c < 4 → 0 ≤ w 36 c ∧ w 36 c ≤ 1000) : Cl (d + 1) 23 [rA 28] (enc w t) (fun r S2 => ∃ w2, r = none ∧ S2 = enc w2 t ∧ shR m w w2) := by
  have hn := he.n
  refine g_sh (tx := []) (m := m) ?_
  refine lq1 (σ := eW) (fun e w1 => Ev (d + 1) 23 (fun r S2 => ∃ w2, r = none ∧ S2 = enc w2 t ∧ shR m w w2) 2 [rA 28, (0, (e : Int))] [] (enc w1 t)) (fun e w1 => Fc [36] [] w w1 ∧ (∀ c, c < 4 → 0 ≤ w1 36 c ∧ w1 36 c ≤ w 36 c) ∧ ∀ q, q < e → w1 36 (m 77 q).toNat ≤ m 79 q + (if m 78 q = -1 then 0 else w 36 (m 78 q).toNat)) (nE m) ?_ ?_ 0 w (Nat.zero_le _) ⟨Fc.rf _ _ _, fun c hc => ⟨(hs c hc).1, Int.le_refl _⟩, fun q hq => absurd hq (Nat.not_lt_zero q)⟩
  · rintro e w1 hel ⟨f1, f2, f3⟩ hE
    have hX1 : XC w1 m := hX.fc f1 (by decide) (by decide)
    obtain ⟨x1, x2, x3, _⟩ := hX1.2 e hel
    obtain ⟨b1, b2, b3, _⟩ := he.2 e hel
    obtain ⟨g, hg⟩ : ∃ g : Nat, m 77 e = (g : Int) := ⟨(m 77 e).toNat, by omega⟩
    have hg4 : g < 4 := by omega
    have sg := f2 g hg4
    have s0 := hs g hg4
    refine g_sh1 (tx := []) (m := m) ⟨fun h9 => absurd h9 (by rw [hX1.1, ← hn.1, w32_id (by omega), w32_id (by omega)]; omega), fun _ => ?_⟩
    rw [w32_id (x := (e : Int)) (by omega), Int.toNat_natCast, x1, x2, x3, hg, w32_id (x := (g : Int)) (by omega), Int.toNat_natCast, w32_id (x := m 78 e) (by omega), w32_id (x := -1) (by decide)]
    have ee : (0 : Int) ≤ (e : Int) ∧ (e : Int) < 16 := by omega
    have gg : (0 : Int) ≤ (g : Int) ∧ (g : Int) < 4 := by omega
    have step : ∀ z : Int, 1 ≤ z → z ≤ 2000 → z ≤ m 79 e + (if m 78 e = -1 then 0 else w 36 (m 78 e).toNat) → Ev (d + 1) 23 (fun r S2 => ∃ w2, r = none ∧ S2 = enc w2 t ∧ shR m w w2) 2 [rA 28, (0, (e : Int) + 1)] [] (enc (wu w1 36 g (if w32 z < w32 (w1 36 g) then z else w1 36 g)) t) := fun z z1 z2 z3 => by
      rw [w32_id (x := z) (by omega), w32_id (x := w1 36 g) (by omega)]
      have hmin : (if z < w1 36 g then z else w1 36 g) ≤ w1 36 g ∧ (if z < w1 36 g then z else w1 36 g) ≤ z ∧ 0 ≤ (if z < w1 36 g then z else w1 36 g) := by split <;> omega
      generalize (if z < w1 36 g then z else w1 36 g) = v at hmin
      refine hE _ ⟨f1.tr (Fc.pr (by decide)), fun c hc => ?_, fun q hq => ?_⟩
      · by_cases h9 : c = g
        · rw [h9, wu_eq]; omega
        · rw [wu_nk _ _ h9]; exact f2 c hc
      · by_cases h9 : q = e
        · rw [h9, hg, Int.toNat_natCast, wu_eq]; omega
        · have hz := f3 q (by omega)
          by_cases h8 : (m 77 q).toNat = g
          · rw [h8] at hz; rw [h8, wu_eq]; omega
          · rw [wu_nk _ _ h8]; exact hz
    refine ⟨ee, ee, gg, ee, ee, fun h9 => ?_, fun h9 => ?_⟩
    · obtain ⟨x, hx⟩ : ∃ x : Nat, m 78 e = (x : Int) := ⟨(m 78 e).toNat, by omega⟩
      have hx4 : x < 4 := by omega
      have sx := f2 x hx4
      have sx0 := hs x hx4
      rw [if_neg h9, hx, Int.toNat_natCast] at step
      rw [hx, Int.toNat_natCast]
      exact ⟨ee, by omega, gg, step _ (by omega) (by omega) (by omega)⟩
    · rw [if_pos (Classical.not_not.mp h9)] at step
      exact ⟨gg, step _ (by omega) (by omega) (by omega)⟩
  · rintro w1 ⟨f1, f2, f3⟩
    have hX1 : XC w1 m := hX.fc f1 (by decide) (by decide)
    exact g_sh1 (tx := []) (m := m) ⟨fun _ => ⟨w1, rfl, rfl, f1, f2, f3⟩, fun h9 => absurd (by rw [hX1.1, hn.1]; exact Int.le_refl _) h9⟩
theorem pig5 {a b c d e : Int} (ha : 0 ≤ a ∧ a ≤ 3) (hb : 0 ≤ b ∧ b ≤ 3) (hc : 0 ≤ c ∧ c ≤ 3) (hd : 0 ≤ d ∧ d ≤ 3) (he : 0 ≤ e ∧ e ≤ 3) : a = b ∨ a = c ∨ a = d ∨ a = e ∨ b = c ∨ b = d ∨ b = e ∨ c = d ∨ c = e ∨ d = e := by
  rcases (by omega : a = 0 ∨ a = 1 ∨ a = 2 ∨ a = 3) with h | h | h | h <;> rcases (by omega : b = 0 ∨ b = 1 ∨ b = 2 ∨ b = 3) with h2 | h2 | h2 | h2 <;> subst h <;> subst h2 <;> (try (left; rfl)) <;> omega
theorem Ch.short {m : eW} (he : WFe m) : ∀ (n : Nat) (c : Int) (l : List Nat), l.length ≤ n → Ch m c l → ∃ l2, Ch m c l2 ∧ totL m l2 ≤ totL m l ∧ l2.length ≤ 4 := by
  intro n
  induction n with
  | zero =>
    intro c l hl h
    cases l with
    | nil => exact h.elim
    | cons a b => rw [List.length_cons] at hl; omega
  | succ n ih =>
    intro c l hl h
    by_cases h4 : l.length ≤ 4
    · exact ⟨l, h, Nat.le_refl _, h4⟩
    match l, hl, h, h4 with
    | [], _, h, h4 => exact h.elim
    | [_], _, _, h4 => exact absurd (by simp) h4
    | [_, _], _, _, h4 => exact absurd (by simp) h4
    | [_, _, _], _, _, h4 => exact absurd (by simp) h4
    | [_, _, _, _], _, _, h4 => exact absurd (by simp) h4
    | e0 :: e1 :: e2 :: e3 :: e4 :: r, hl, h, h4 =>
      obtain ⟨a0, c0, n0, h1⟩ := h
      obtain ⟨a1, c1, n1, h2⟩ := h1
      obtain ⟨a2, c2, n2, h3⟩ := h2
      obtain ⟨a3, c3, n3, h5⟩ := h3
      obtain ⟨a4, c4⟩ := h5.head
      have k3 : Ch m (m 78 e2) (e3 :: e4 :: r) := ⟨a3, c3, n3, h5⟩
      have k2 : Ch m (m 78 e1) (e2 :: e3 :: e4 :: r) := ⟨a2, c2, n2, k3⟩
      have k1 : Ch m (m 78 e0) (e1 :: e2 :: e3 :: e4 :: r) := ⟨a1, c1, n1, k2⟩
      simp only [List.length_cons] at hl
      have use : ∀ l2, Ch m c l2 → l2.length ≤ n → totL m l2 ≤ totL m (e0 :: e1 :: e2 :: e3 :: e4 :: r) → ∃ l3, Ch m c l3 ∧ totL m l3 ≤ totL m (e0 :: e1 :: e2 :: e3 :: e4 :: r) ∧ l3.length ≤ 4 := fun l2 hc hlen ht => by
        obtain ⟨l3, q1, q2, q3⟩ := ih c l2 hlen hc
        exact ⟨l3, q1, by omega, q3⟩
      have tt : ∀ a b, totL m (a :: b) = fmN m a + totL m b := fun a b => by unfold totL; simp
      have b0 := (he.2 e0 a0).1
      have b1 := (he.2 e1 a1).1
      have b2 := (he.2 e2 a2).1
      have b3 := (he.2 e3 a3).1
      have b4 := (he.2 e4 a4).1
      rcases pig5 b0 b1 b2 b3 b4 with g | g | g | g | g | g | g | g | g | g
      · exact use _ (by rw [← c0, g, c1]; exact k1) (by simp only [List.length_cons]; omega) (by simp only [tt]; omega)
      · exact use _ (by rw [← c0, g, c2]; exact k2) (by simp only [List.length_cons]; omega) (by simp only [tt]; omega)
      · exact use _ (by rw [← c0, g, c3]; exact k3) (by simp only [List.length_cons]; omega) (by simp only [tt]; omega)
      · exact use _ (by rw [← c0, g, c4]; exact h5) (by simp only [List.length_cons]; omega) (by simp only [tt]; omega)
      · exact use (e0 :: e2 :: e3 :: e4 :: r) ⟨a0, c0, n0, by rw [← c1, g, c2]; exact k2⟩ (by simp only [List.length_cons]; omega) (by simp only [tt]; omega)
      · exact use (e0 :: e3 :: e4 :: r) ⟨a0, c0, n0, by rw [← c1, g, c3]; exact k3⟩ (by simp only [List.length_cons]; omega) (by simp only [tt]; omega)
      · exact use (e0 :: e4 :: r) ⟨a0, c0, n0, by rw [← c1, g, c4]; exact h5⟩ (by simp only [List.length_cons]; omega) (by simp only [tt]; omega)
      · exact use (e0 :: e1 :: e3 :: e4 :: r) ⟨a0, c0, n0, a1, c1, n1, by rw [← c2, g, c3]; exact k3⟩ (by simp only [List.length_cons]; omega) (by simp only [tt]; omega)
      · exact use (e0 :: e1 :: e4 :: r) ⟨a0, c0, n0, a1, c1, n1, by rw [← c2, g, c4]; exact h5⟩ (by simp only [List.length_cons]; omega) (by simp only [tt]; omega)
      · exact use (e0 :: e1 :: e2 :: e4 :: r) ⟨a0, c0, n0, a1, c1, n1, a2, c2, n2, by rw [← c3, g, c4]; exact h5⟩ (by simp only [List.length_cons]; omega) (by simp only [tt]; omega)
/-- after k rounds: chains of k entries -/
def ShK (m w : eW) (k : Nat) : Prop := (∀ c, c < 4 → 0 ≤ w 36 c ∧ w 36 c ≤ 1000) ∧ ∀ (c : Nat) l, c < 4 → l.length ≤ k → Ch m (c : Int) l → w 36 c ≤ (totL m l : Int)
theorem ShK.step {m w w2 : eW} {k : Nat} (he : WFe m) (h : ShK m w k) (hs : shR m w w2) : ShK m w2 (k + 1) := by
  obtain ⟨h1, h2⟩ := h
  obtain ⟨_, s2, s3⟩ := hs
  refine ⟨fun c hc => by have := s2 c hc; have := h1 c hc; omega, fun c l hc hl hC => ?_⟩
  cases l with
  | nil => exact hC.elim
  | cons e r =>
    obtain ⟨a, b⟩ := hC.head
    have hf := he.fm a
    have hz := s3 e a
    rw [b, Int.toNat_natCast] at hz
    have tt : totL m (e :: r) = fmN m e + totL m r := by unfold totL; simp
    cases r with
    | nil =>
      rw [if_pos hC.2.2] at hz
      rw [tt]
      have : totL m [] = 0 := rfl
      omega
    | cons e2 r2 =>
      obtain ⟨_, _, n0, h3⟩ := hC
      rw [if_neg n0] at hz
      obtain ⟨_, b2, _⟩ := he.2 e a
      obtain ⟨x, hx⟩ : ∃ x : Nat, m 78 e = (x : Int) := ⟨(m 78 e).toNat, by omega⟩
      rw [hx] at h3
      rw [hx, Int.toNat_natCast] at hz
      have := h2 x (e2 :: r2) (by omega) (by simp only [List.length_cons] at hl ⊢; omega) h3
      rw [tt]
      omega
theorem ShK.shc {m w : eW} (he : WFe m) (h : ShK m w 4) (hz : ZC w) : ShC w m := by
  refine ⟨h.1, fun c n hc hn => ?_, hz⟩
  obtain ⟨l, hl, ht⟩ := hn
  obtain ⟨l2, q1, q2, q3⟩ := Ch.short he l.length _ l (Nat.le_refl _) hl
  have := h.2 c l2 hc q3 q1
  omega

