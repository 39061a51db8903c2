/-! The model: what is known already, a table. -/
theorem iushr_13 (x : Int) : 0 ≤ iushr x 13 ∧ iushr x 13 < 524288 := by
  show 0 ≤ (((Int32.ofInt x).toUInt32 >>> ((Int32.ofInt 13).toUInt32 &&& Int32.toUInt32 31)).toInt32.toInt) ∧ (((Int32.ofInt x).toUInt32 >>> ((Int32.ofInt 13).toUInt32 &&& Int32.toUInt32 31)).toInt32.toInt) < 524288
  have e : ((Int32.ofInt 13).toUInt32 &&& Int32.toUInt32 31) = 13 := by decide +kernel
  rw [e]
  generalize (Int32.ofInt x).toUInt32 = u
  have h1 : (u >>> 13).toNat < 524288 := by
    rw [UInt32.toNat_shiftRight]
    have : u.toNat < 4294967296 := u.toNat_lt
    have e2 : (13 : UInt32).toNat % 32 = 13 := by decide
    rw [e2, Nat.shiftRight_eq_div_pow]
    omega
  have h2 : (u >>> 13).toInt32.toInt = ((u >>> 13).toNat : Int) := by
    show (u >>> 13).toBitVec.toInt = _
    rw [BitVec.toInt_eq_toNat_of_lt]
    · rfl
    · show 2 * (u >>> 13).toNat < _
      omega
  rw [h2]
  omega
def hS (key : Int) : Nat := (iushr (key * (-1640531527)) 13).toNat
theorem hS_lt (key : Int) : hS key < 524288 := by
  have := iushr_13 (key * (-1640531527))
  unfold hS
  omega
def prb (key : Int) (j : Nat) : Nat := (hS key + j) % 524288
theorem prb_lt (key : Int) (j : Nat) : prb key j < 524288 := Nat.mod_lt _ (by decide)
theorem prb_next (key : Int) (j : Nat) : iand ((prb key j : Int) + 1) 524287 = (prb key (j + 1) : Int) := by
  have h := prb_lt key j
  have h1 : ((prb key j : Int) + 1) = ((prb key j + 1 : Nat) : Int) := by omega
  rw [h1, show (524287 : Int) = ((524287 : Nat) : Int) from rfl, b_and (by omega), show 524287 = 2 ^ 19 - 1 from rfl, Nat.and_two_pow_sub_one_eq_mod]
  congr 1
  unfold prb
  omega
/-- the place of a key: the first one along its way that is free or has it -/
def Sl (f : Nat → Int) (key : Int) (x : Nat) : Prop := ∃ j, x = prb key j ∧ (f x = -1 ∨ f x = key) ∧ ∀ i, i < j → f (prb key i) ≠ -1 ∧ f (prb key i) ≠ key
theorem Sl.uniq {f : Nat → Int} {key : Int} {x y : Nat} (hx : Sl f key x) (hy : Sl f key y) : x = y := by
  obtain ⟨i, rfl, h1, h2⟩ := hx
  obtain ⟨j, rfl, h3, h4⟩ := hy
  by_cases h : i < j
  · have := h4 i h; omega
  · by_cases h' : j < i
    · have := h2 j h'; omega
    · have : i = j := by omega
      rw [this]
def Tb (w : eW) : Prop := (0 ≤ w 67 38 ∧ w 67 38 ≤ 500000) ∧ ((cb (fun k => !decide (w 92 k = -1)) 524288 : Nat) : Int) = w 67 38 ∧ (∀ k, k < 524288 → -1 ≤ w 92 k ∧ w 92 k ≤ 2147483647) ∧ (∀ k, k < 524288 → w 92 k ≠ -1 → Sl (w 92) (w 92 k) k)
theorem cb_all {f : Nat → Bool} {n : Nat} (h : ∀ i, i < n → f i = true) : cb f n = n := by
  unfold cb
  rw [sm_congr (g := fun _ => 1) (fun i hi => by rw [h i hi]; rfl), sm_const]
  omega
theorem cb_upd {f g : Nat → Bool} {k : Nat} : ∀ {n : Nat}, k < n → f k = false → g k = true → (∀ i, i ≠ k → g i = f i) → cb g n = cb f n + 1 := by
  intro n
  induction n with
  | zero => intro h; omega
  | succ n ih =>
    intro h h1 h2 h3
    show sm _ n + _ = sm _ n + _ + 1
    dsimp only
    by_cases hk : k = n
    · subst hk
      rw [h1, h2, sm_congr (fun i hi => by rw [h3 i (by omega)])]
      simp
    · have := ih (by omega) h1 h2 h3
      unfold cb at this
      rw [this, h3 n (by omega)]
      omega
theorem Tb.gap {w : eW} (h : Tb w) : ∃ k, k < 524288 ∧ w 92 k = -1 := by
  apply Classical.byContradiction
  intro hn
  have : cb (fun k => !decide (w 92 k = -1)) 524288 = 524288 := cb_all (fun i hi => by
    have : ¬ w 92 i = -1 := fun h9 => hn ⟨i, hi, h9⟩
    simp [this])
  have h2 := h.2.1
  rw [this] at h2
  have := h.1
  omega

theorem g_slotOf0 {d : Nat} {Q : Option aV → aS → Prop} {w : eW} {t : eT} {key : Int} (h : Ev (d) 204 Q 9 [rA 67, (0, key), (0, iushr (key * (-1640531527)) 13)] [] (enc w t)) : Cl (d) 204 [rA 67, (0, key)] (enc w t) Q := by
  show Ev (d) 204 Q 0 [rA 67, (0, key), (9, 0)] [] (enc w t)
  refine e_ldi (show am_cd 204 0 = (2, 1, 1, 0, []) by decide +kernel) rfl ?_
  refine e_ic (show am_cd 204 1 = (0, 4, 4, -1640531527, [256]) by decide +kernel) ?_
  refine e_imul (show am_cd 204 4 = (5, 5, 2, 0, []) by decide +kernel) ?_
  refine e_ic (show am_cd 204 5 = (0, 7, 1, 13, []) by decide +kernel) ?_
  refine e_iushr (show am_cd 204 7 = (5, 8, 8, 0, []) by decide +kernel) ?_
  refine e_sti (la2 := [rA 67, (0, key), (0, iushr (key * (-1640531527)) 13)]) (show am_cd 204 8 = (3, 9, 2, 0, []) by decide +kernel) rfl ?_
  exact h

theorem g_slotOf1 {d : Nat} {Q : Option aV → aS → Prop} {w : eW} {t : eT} {key x : Int} (h : (0 ≤ w32 x ∧ w32 x < 524288) ∧ ((w32 (w 92 (w32 x).toNat) = w32 (-1) → Q (some (0, x)) (enc w t)) ∧ (¬ (w32 (w 92 (w32 x).toNat) = w32 (-1)) → (0 ≤ w32 x ∧ w32 x < 524288) ∧ ((w32 (w 92 (w32 x).toNat) = w32 key → Q (some (0, x)) (enc w t)) ∧ (¬ (w32 (w 92 (w32 x).toNat) = w32 key) → Ev (d) 204 Q 9 [rA 67, (0, key), (0, iand (x + 1) 524287)] [] (enc w t)))))) : Ev (d) 204 Q 9 [rA 67, (0, key), (0, x)] [] (enc w t) := by
  refine e_lda (v := 67) (show am_cd 204 9 = (2, 10, 0, 2, []) by decide +kernel) rfl ?_
  refine e_getr (a := 67) (r := 92) (show am_cd 204 10 = (18, 13, 1236, 2, [89]) by decide +kernel) (by decide +kernel) (by decide +kernel) rfl ?_
  refine e_ldi (show am_cd 204 13 = (2, 14, 2, 0, []) by decide +kernel) rfl ?_
  refine e_iald (a := 92) (n := 524288) (show am_cd 204 14 = (21, 15, 0, 0, []) by decide +kernel) (by decide +kernel) (by decide +kernel) (by decide +kernel) h.1 ?_
  replace h := h.2
  refine e_ic (show am_cd 204 15 = (0, 16, 0, -1, []) by decide +kernel) ?_
  refine e_cmp0 (show am_cd 204 16 = (11, 19, 40, 0, []) by decide +kernel) (fun hc => ?_) (fun hc => ?_)
  · replace h := h.1 hc
    refine e_ldi (show am_cd 204 40 = (2, 41, 2, 0, []) by decide +kernel) rfl ?_
    exact e_reti (show am_cd 204 41 = (36, 42, 0, 0, []) by decide +kernel) (by decide +kernel) h
  · replace h := h.2 hc
    refine e_lda (v := 67) (show am_cd 204 19 = (2, 20, 0, 2, []) by decide +kernel) rfl ?_
    refine e_getr (a := 67) (r := 92) (show am_cd 204 20 = (18, 23, 1236, 2, [89]) by decide +kernel) (by decide +kernel) (by decide +kernel) rfl ?_
    refine e_ldi (show am_cd 204 23 = (2, 24, 2, 0, []) by decide +kernel) rfl ?_
    refine e_iald (a := 92) (n := 524288) (show am_cd 204 24 = (21, 25, 0, 0, []) by decide +kernel) (by decide +kernel) (by decide +kernel) (by decide +kernel) h.1 ?_
    replace h := h.2
    refine e_ldi (show am_cd 204 25 = (2, 26, 1, 0, []) by decide +kernel) rfl ?_
    refine e_cmp0 (show am_cd 204 26 = (11, 29, 40, 0, []) by decide +kernel) (fun hc => ?_) (fun hc => ?_)
    · replace h := h.1 hc
      refine e_ldi (show am_cd 204 40 = (2, 41, 2, 0, []) by decide +kernel) rfl ?_
      exact e_reti (show am_cd 204 41 = (36, 42, 0, 0, []) by decide +kernel) (by decide +kernel) h
    · replace h := h.2 hc
      refine e_ldi (show am_cd 204 29 = (2, 30, 2, 0, []) by decide +kernel) rfl ?_
      refine e_ic (show am_cd 204 30 = (0, 31, 0, 1, []) by decide +kernel) ?_
      refine e_iadd (show am_cd 204 31 = (5, 32, 0, 0, []) by decide +kernel) ?_
      refine e_ic (show am_cd 204 32 = (0, 35, 4, 524287, [257]) by decide +kernel) ?_
      refine e_iand (show am_cd 204 35 = (5, 36, 3, 0, []) by decide +kernel) ?_
      refine e_sti (la2 := [rA 67, (0, key), (0, iand (x + 1) 524287)]) (show am_cd 204 36 = (3, 37, 2, 0, []) by decide +kernel) rfl ?_
      refine e_go (show am_cd 204 37 = (12, 9, 0, 0, []) by decide +kernel) ?_
      exact h

theorem c_slotOf {d : Nat} {w : eW} {t : eT} {key : Int} (h : Tb w ∧ 0 ≤ key ∧ key ≤ 2147483647) : Cl d 204 [rA 67, (0, key)] (enc w t) (fun z S2 => ∃ x, z = some (0, x) ∧ S2 = enc w t ∧ 0 ≤ x ∧ x < 524288 ∧ Sl (w 92) key x.toNat) := by
  obtain ⟨ht, h0, h1⟩ := h
  obtain ⟨e, he, hopen⟩ := ht.gap
  have hh := hS_lt key
  have hj : prb key ((e + 524288 - hS key) % 524288) = e := by unfold prb; omega
  generalize (e + 524288 - hS key) % 524288 = J at hj
  refine g_slotOf0 ?_
  have hst : (iushr (key * (-1640531527)) 13) = (prb key 0 : Int) := by
    have := iushr_13 (key * (-1640531527))
    unfold prb hS at *
    omega
  rw [hst]
  have main : ∀ (n i : Nat), i + n = J → (∀ i2, i2 < i → w 92 (prb key i2) ≠ -1 ∧ w 92 (prb key i2) ≠ key) → Ev d 204 (fun z S2 => ∃ x, z = some (0, x) ∧ S2 = enc w t ∧ 0 ≤ x ∧ x < 524288 ∧ Sl (w 92) key x.toNat) 9 [rA 67, (0, key), (0, (prb key i : Int))] [] (enc w t) := by
    intro n
    induction n with
    | zero =>
      intro i hi hno
      have hp := prb_lt key i
      have hi : i = J := by omega
      subst hi
      refine g_slotOf1 ?_
      simp (disch := omega) only [w32_id, Int.toNat_natCast]
      rw [hj, hopen]
      refine ⟨by omega, fun _ => ⟨(e : Int), rfl, by trivial, by omega, by omega, ?_⟩, fun h9 => absurd (by decide +kernel) h9⟩
      rw [Int.toNat_natCast]
      exact ⟨i, hj.symm, Or.inl hopen, hno⟩
    | succ n ih =>
      intro i hi hno
      have hp := prb_lt key i
      have hb := ht.2.2.1 _ hp
      refine g_slotOf1 ?_
      simp (disch := omega) only [w32_id, Int.toNat_natCast]
      refine ⟨by omega, fun h2 => ⟨_, rfl, by trivial, by omega, by omega, ?_⟩, fun h2 => ⟨by omega, fun h3 => ⟨_, rfl, by trivial, by omega, by omega, ?_⟩, fun h3 => ?_⟩⟩
      · rw [Int.toNat_natCast]; exact ⟨i, rfl, Or.inl h2, hno⟩
      · rw [Int.toNat_natCast]; exact ⟨i, rfl, Or.inr h3, hno⟩
      · rw [prb_next]
        refine ih (i + 1) (by omega) (fun i2 h5 => ?_)
        by_cases h6 : i2 = i
        · subst h6; exact ⟨h2, h3⟩
        · exact hno i2 (by omega)
  exact main J 0 (by omega) (fun i hi => absurd hi (Nat.not_lt_zero i))
/-- the table as a book of keys and values -/
def DV (w : eW) (D : Int → Option Int) : Prop := Tb w ∧ ∀ key v, 0 ≤ key → (D key = some v ↔ ∃ k, k < 524288 ∧ w 92 k = key ∧ w 93 k = v)
theorem DV.hit {w : eW} {D : Int → Option Int} (h : DV w D) {key : Int} (hk : 0 ≤ key) {x : Nat} (hx : x < 524288) (hs : Sl (w 92) key x) : (w 92 x = key ∧ D key = some (w 93 x)) ∨ (w 92 x = -1 ∧ D key = none) := by
  by_cases hq : w 92 x = key
  · exact Or.inl ⟨hq, (h.2 key _ hk).mpr ⟨x, hx, hq, rfl⟩⟩
  · have h1 : w 92 x = -1 := by
      obtain ⟨j, h1, h2, h3⟩ := hs
      rcases h2 with h2 | h2
      · exact h2
      · exact absurd h2 hq
    refine Or.inr ⟨h1, ?_⟩
    cases hD : D key with
    | none => rfl
    | some v =>
      obtain ⟨k, k1, k2, k3⟩ := (h.2 key v hk).mp hD
      have h4 := h.1.2.2.2 k k1 (by omega)
      rw [k2] at h4
      have := hs.uniq h4
      subst this
      exact absurd k2 hq

theorem g_isKnown {d : Nat} {Q : Option aV → aS → Prop} {w : eW} {t : eT} {key : Int} (h : (Tb w ∧ 0 ≤ key ∧ key ≤ 2147483647) ∧ (∀ x1, (0 ≤ x1 ∧ x1 < 524288 ∧ Sl (w 92) key x1.toNat) → (0 ≤ w32 x1 ∧ w32 x1 < 524288) ∧ ((¬ w32 (w 92 (w32 x1).toNat) = w32 key → Q (some (0, 0)) (enc w t)) ∧ (¬ (¬ w32 (w 92 (w32 x1).toNat) = w32 key) → Q (some (0, 1)) (enc w t))))) : Cl (d + 1) 205 [rA 67, (0, key)] (enc w t) Q := by
  show Ev (d + 1) 205 Q 0 [rA 67, (0, key)] [] (enc w t)
  refine e_lda (v := 67) (show am_cd 205 0 = (2, 1, 0, 2, []) by decide +kernel) rfl ?_
  refine e_getr (a := 67) (r := 92) (show am_cd 205 1 = (18, 4, 1236, 2, [89]) by decide +kernel) (by decide +kernel) (by decide +kernel) rfl ?_
  refine e_lda (v := 67) (show am_cd 205 4 = (2, 5, 0, 2, []) by decide +kernel) rfl ?_
  refine e_ldi (show am_cd 205 5 = (2, 6, 1, 0, []) by decide +kernel) rfl ?_
  refine e_cV (z := 0) (a := 67) (as := [(0, key)]) (rest := [rA 92]) (show am_cd 205 6 = (40, 9, 204, 0, [258]) by decide +kernel) (by decide +kernel) rfl rfl (Nat.le_of_ble_eq_true rfl) rfl ?_
  refine Cl.mono (Cl.up (c_slotOf (d := d) h.1) (by omega)) ?_
  rintro _ _ ⟨x1, rfl, rfl, hp⟩
  refine ⟨fun _ h9 => (by cases h9), ?_⟩
  replace h := h.2 x1 hp
  show Ev _ 205 _ 9 [rA 67, (0, key)] [(0, x1), rA 92] _
  refine e_iald (a := 92) (n := 524288) (show am_cd 205 9 = (21, 10, 0, 0, []) by decide +kernel) (by decide +kernel) (by decide +kernel) (by decide +kernel) h.1 ?_
  replace h := h.2
  refine e_ldi (show am_cd 205 10 = (2, 11, 1, 0, []) by decide +kernel) rfl ?_
  refine e_cmp1 (show am_cd 205 11 = (11, 14, 18, 1, []) by decide +kernel) (fun hc => ?_) (fun hc => ?_)
  · replace h := h.1 hc
    refine e_ic (show am_cd 205 18 = (0, 19, 0, 0, []) by decide +kernel) ?_
    exact e_retz (show am_cd 205 19 = (36, 20, 0, 0, []) by decide +kernel) (by decide +kernel) (Or.inl rfl) h
  · replace h := h.2 hc
    refine e_ic (show am_cd 205 14 = (0, 15, 0, 1, []) by decide +kernel) ?_
    refine e_go (show am_cd 205 15 = (12, 19, 0, 0, []) by decide +kernel) ?_
    exact e_retz (show am_cd 205 19 = (36, 20, 0, 0, []) by decide +kernel) (by decide +kernel) (Or.inr rfl) h

theorem g_known {d : Nat} {Q : Option aV → aS → Prop} {w : eW} {t : eT} {key : Int} (h : (Tb w ∧ 0 ≤ key ∧ key ≤ 2147483647) ∧ (∀ x1, (0 ≤ x1 ∧ x1 < 524288 ∧ Sl (w 92) key x1.toNat) → (0 ≤ w32 x1 ∧ w32 x1 < 524288) ∧ (Q (some (1, w 93 (w32 x1).toNat)) (enc w t)))) : Cl (d + 1) 206 [rA 67, (0, key)] (enc w t) Q := by
  show Ev (d + 1) 206 Q 0 [rA 67, (0, key)] [] (enc w t)
  refine e_lda (v := 67) (show am_cd 206 0 = (2, 1, 0, 2, []) by decide +kernel) rfl ?_
  refine e_getr (a := 67) (r := 93) (show am_cd 206 1 = (18, 4, 1237, 2, [92]) by decide +kernel) (by decide +kernel) (by decide +kernel) rfl ?_
  refine e_lda (v := 67) (show am_cd 206 4 = (2, 5, 0, 2, []) by decide +kernel) rfl ?_
  refine e_ldi (show am_cd 206 5 = (2, 6, 1, 0, []) by decide +kernel) rfl ?_
  refine e_cV (z := 0) (a := 67) (as := [(0, key)]) (rest := [rA 93]) (show am_cd 206 6 = (40, 9, 204, 0, [258]) by decide +kernel) (by decide +kernel) rfl rfl (Nat.le_of_ble_eq_true rfl) rfl ?_
  refine Cl.mono (Cl.up (c_slotOf (d := d) h.1) (by omega)) ?_
  rintro _ _ ⟨x1, rfl, rfl, hp⟩
  refine ⟨fun _ h9 => (by cases h9), ?_⟩
  replace h := h.2 x1 hp
  show Ev _ 206 _ 9 [rA 67, (0, key)] [(0, x1), rA 93] _
  refine e_lald (a := 93) (n := 524288) (show am_cd 206 9 = (22, 10, 0, 0, []) by decide +kernel) (by decide +kernel) (by decide +kernel) (by decide +kernel) h.1 ?_
  replace h := h.2
  exact e_retl (show am_cd 206 10 = (36, 11, 1, 0, []) by decide +kernel) (by decide +kernel) h

theorem g_learns {d : Nat} {Q : Option aV → aS → Prop} {w : eW} {t : eT} {key v : Int} (h : (Tb w ∧ 0 ≤ key ∧ key ≤ 2147483647) ∧ (∀ x1, (0 ≤ x1 ∧ x1 < 524288 ∧ Sl (w 92) key x1.toNat) → (0 ≤ w32 x1 ∧ w32 x1 < 524288) ∧ ((¬ w32 (w 92 (w32 x1).toNat) = w32 (-1) → (0 ≤ w32 x1 ∧ w32 x1 < 524288) ∧ (Q (some (1, v)) (enc (wu w 93 (w32 x1).toNat v) t))) ∧ (¬ (¬ w32 (w 92 (w32 x1).toNat) = w32 (-1)) → ((¬ w32 (w 67 38) = w32 500000 → (0 ≤ w32 x1 ∧ w32 x1 < 524288) ∧ (0 ≤ w32 x1 ∧ w32 x1 < 524288) ∧ (Q (some (1, v)) (enc (wu (wu (wu w 92 (w32 x1).toNat key) 67 38 ((w 67 38) + 1)) 93 (w32 x1).toNat v) t))) ∧ (¬ (¬ w32 (w 67 38) = w32 500000) → Q (some (1, v)) (enc w t))))))) : Cl (d + 1) 207 [rA 67, (0, key), (1, v)] (enc w t) Q := by
  show Ev (d + 1) 207 Q 0 [rA 67, (0, key), (1, v), (9, 0), (9, 0)] [] (enc w t)
  refine e_lda (v := 67) (show am_cd 207 0 = (2, 1, 0, 2, []) by decide +kernel) rfl ?_
  refine e_ldi (show am_cd 207 1 = (2, 2, 1, 0, []) by decide +kernel) rfl ?_
  refine e_cV (z := 0) (a := 67) (as := [(0, key)]) (rest := []) (show am_cd 207 2 = (40, 5, 204, 0, [258]) by decide +kernel) (by decide +kernel) rfl rfl (Nat.le_of_ble_eq_true rfl) rfl ?_
  refine Cl.mono (Cl.up (c_slotOf (d := d) h.1) (by omega)) ?_
  rintro _ _ ⟨x1, rfl, rfl, hp⟩
  refine ⟨fun _ h9 => (by cases h9), ?_⟩
  replace h := h.2 x1 hp
  show Ev _ 207 _ 5 [rA 67, (0, key), (1, v), (9, 0), (9, 0)] [(0, x1)] _
  refine e_sti (la2 := [rA 67, (0, key), (1, v), (9, 0), (0, x1)]) (show am_cd 207 5 = (3, 7, 4, 0, []) by decide +kernel) rfl ?_
  refine e_lda (v := 67) (show am_cd 207 7 = (2, 8, 0, 2, []) by decide +kernel) rfl ?_
  refine e_getr (a := 67) (r := 92) (show am_cd 207 8 = (18, 11, 1236, 2, [89]) by decide +kernel) (by decide +kernel) (by decide +kernel) rfl ?_
  refine e_ldi (show am_cd 207 11 = (2, 13, 4, 0, []) by decide +kernel) rfl ?_
  refine e_iald (a := 92) (n := 524288) (show am_cd 207 13 = (21, 14, 0, 0, []) by decide +kernel) (by decide +kernel) (by decide +kernel) (by decide +kernel) h.1 ?_
  replace h := h.2
  refine e_ic (show am_cd 207 14 = (0, 15, 0, -1, []) by decide +kernel) ?_
  refine e_cmp1 (show am_cd 207 15 = (11, 18, 48, 1, []) by decide +kernel) (fun hc => ?_) (fun hc => ?_)
  · replace h := h.1 hc
    refine e_lda (v := 67) (show am_cd 207 48 = (2, 49, 0, 2, []) by decide +kernel) rfl ?_
    refine e_getr (a := 67) (r := 93) (show am_cd 207 49 = (18, 52, 1237, 2, [92]) by decide +kernel) (by decide +kernel) (by decide +kernel) rfl ?_
    refine e_ldi (show am_cd 207 52 = (2, 54, 4, 0, []) by decide +kernel) rfl ?_
    refine e_ldl (show am_cd 207 54 = (2, 55, 2, 1, []) by decide +kernel) rfl ?_
    refine e_last (a := 93) (n := 524288) (show am_cd 207 55 = (25, 56, 0, 0, []) by decide +kernel) (by decide +kernel) (by decide +kernel) (by decide +kernel) h.1 ?_
    replace h := h.2
    refine e_ldl (show am_cd 207 56 = (2, 57, 2, 1, []) by decide +kernel) rfl ?_
    exact e_retl (show am_cd 207 57 = (36, 58, 1, 0, []) by decide +kernel) (by decide +kernel) h
  · replace h := h.2 hc
    refine e_lda (v := 67) (show am_cd 207 18 = (2, 19, 0, 2, []) by decide +kernel) rfl ?_
    refine e_getf (a := 67) (tg := 0) (show am_cd 207 19 = (18, 22, 1238, 0, [261]) by decide +kernel) (by decide +kernel) (by decide +kernel) rfl ?_
    refine e_ic (show am_cd 207 22 = (0, 25, 4, 500000, [264]) by decide +kernel) ?_
    refine e_cmp1 (show am_cd 207 25 = (11, 28, 30, 1, []) by decide +kernel) (fun hc => ?_) (fun hc => ?_)
    · replace h := h.1 hc
      refine e_lda (v := 67) (show am_cd 207 30 = (2, 31, 0, 2, []) by decide +kernel) rfl ?_
      refine e_getr (a := 67) (r := 92) (show am_cd 207 31 = (18, 34, 1236, 2, [89]) by decide +kernel) (by decide +kernel) (by decide +kernel) rfl ?_
      refine e_ldi (show am_cd 207 34 = (2, 36, 4, 0, []) by decide +kernel) rfl ?_
      refine e_ldi (show am_cd 207 36 = (2, 37, 1, 0, []) by decide +kernel) rfl ?_
      refine e_iast (a := 92) (n := 524288) (show am_cd 207 37 = (24, 38, 0, 0, []) by decide +kernel) (by decide +kernel) (by decide +kernel) (by decide +kernel) h.1 ?_
      replace h := h.2
      refine e_lda (v := 67) (show am_cd 207 38 = (2, 39, 0, 2, []) by decide +kernel) rfl ?_
      refine e_dup (show am_cd 207 39 = (13, 40, 0, 0, []) by decide +kernel) (by decide) ?_
      refine e_getfE (a := 67) (tg := 0) (v := w 67 38) (show am_cd 207 40 = (18, 43, 1238, 0, [261]) by decide +kernel) (by decide +kernel) (by decide +kernel) rfl rfl ?_
      refine e_ic (show am_cd 207 43 = (0, 44, 0, 1, []) by decide +kernel) ?_
      refine e_iadd (show am_cd 207 44 = (5, 45, 0, 0, []) by decide +kernel) ?_
      refine e_putf (a := 67) (show am_cd 207 45 = (19, 48, 1238, 0, [261]) by decide +kernel) (by decide +kernel) (by decide +kernel) rfl (fun h9 => absurd h9 (by decide)) (fun h9 => absurd h9 (by decide +kernel)) ?_
      refine e_lda (v := 67) (show am_cd 207 48 = (2, 49, 0, 2, []) by decide +kernel) rfl ?_
      refine e_getr (a := 67) (r := 93) (show am_cd 207 49 = (18, 52, 1237, 2, [92]) by decide +kernel) (by decide +kernel) (by decide +kernel) rfl ?_
      refine e_ldi (show am_cd 207 52 = (2, 54, 4, 0, []) by decide +kernel) rfl ?_
      refine e_ldl (show am_cd 207 54 = (2, 55, 2, 1, []) by decide +kernel) rfl ?_
      refine e_last (a := 93) (n := 524288) (show am_cd 207 55 = (25, 56, 0, 0, []) by decide +kernel) (by decide +kernel) (by decide +kernel) (by decide +kernel) h.1 ?_
      replace h := h.2
      refine e_ldl (show am_cd 207 56 = (2, 57, 2, 1, []) by decide +kernel) rfl ?_
      exact e_retl (show am_cd 207 57 = (36, 58, 1, 0, []) by decide +kernel) (by decide +kernel) h
    · replace h := h.2 hc
      refine e_ldl (show am_cd 207 28 = (2, 29, 2, 1, []) by decide +kernel) rfl ?_
      exact e_retl (show am_cd 207 29 = (36, 30, 1, 0, []) by decide +kernel) (by decide +kernel) h

theorem g_forget0 {d : Nat} {Q : Option aV → aS → Prop} {w : eW} {t : eT} (h : Ev (d) 208 Q 2 [rA 67, (0, 0)] [] (enc w t)) : Cl (d) 208 [rA 67] (enc w t) Q := by
  show Ev (d) 208 Q 0 [rA 67, (9, 0)] [] (enc w t)
  refine e_ic (show am_cd 208 0 = (0, 1, 0, 0, []) by decide +kernel) ?_
  refine e_sti (la2 := [rA 67, (0, 0)]) (show am_cd 208 1 = (3, 2, 1, 0, []) by decide +kernel) rfl ?_
  exact h

theorem g_forget1 {d : Nat} {Q : Option aV → aS → Prop} {w : eW} {t : eT} {x : Int} (h : ((w32 524288 ≤ w32 x → Q none (enc (wu w 67 38 0) t)) ∧ (¬ (w32 524288 ≤ w32 x) → (0 ≤ w32 x ∧ w32 x < 524288) ∧ (Ev (d) 208 Q 2 [rA 67, (0, x + 1)] [] (enc (wu w 92 (w32 x).toNat (-1)) t))))) : Ev (d) 208 Q 2 [rA 67, (0, x)] [] (enc w t) := by
  refine e_ldi (show am_cd 208 2 = (2, 3, 1, 0, []) by decide +kernel) rfl ?_
  refine e_ic (show am_cd 208 3 = (0, 5, 3, 524288, [88]) by decide +kernel) ?_
  refine e_cmp3 (show am_cd 208 5 = (11, 8, 21, 3, []) by decide +kernel) (fun hc => ?_) (fun hc => ?_)
  · replace h := h.1 hc
    refine e_lda (v := 67) (show am_cd 208 21 = (2, 22, 0, 2, []) by decide +kernel) rfl ?_
    refine e_ic (show am_cd 208 22 = (0, 23, 0, 0, []) by decide +kernel) ?_
    refine e_putf (a := 67) (show am_cd 208 23 = (19, 26, 1238, 0, [261]) by decide +kernel) (by decide +kernel) (by decide +kernel) rfl (fun h9 => absurd h9 (by decide)) (fun h9 => absurd h9 (by decide +kernel)) ?_
    exact e_retv (show am_cd 208 26 = (36, 27, 3, 0, []) by decide +kernel) (by decide +kernel) h
  · replace h := h.2 hc
    refine e_lda (v := 67) (show am_cd 208 8 = (2, 9, 0, 2, []) by decide +kernel) rfl ?_
    refine e_getr (a := 67) (r := 92) (show am_cd 208 9 = (18, 12, 1236, 2, [89]) by decide +kernel) (by decide +kernel) (by decide +kernel) rfl ?_
    refine e_ldi (show am_cd 208 12 = (2, 13, 1, 0, []) by decide +kernel) rfl ?_
    refine e_ic (show am_cd 208 13 = (0, 14, 0, -1, []) by decide +kernel) ?_
    refine e_iast (a := 92) (n := 524288) (show am_cd 208 14 = (24, 15, 0, 0, []) by decide +kernel) (by decide +kernel) (by decide +kernel) (by decide +kernel) h.1 ?_
    replace h := h.2
    refine e_inc (la2 := [rA 67, (0, x + 1)]) (show am_cd 208 15 = (4, 18, 1, 1, []) by decide +kernel) rfl rfl ?_
    refine e_go (show am_cd 208 18 = (12, 2, 0, 0, []) by decide +kernel) ?_
    exact h

theorem c_isKnown {d : Nat} {w : eW} {t : eT} {D : Int → Option Int} {key : Int} (h : DV w D ∧ 0 ≤ key ∧ key ≤ 2147483647) : Cl (d + 1) 205 [rA 67, (0, key)] (enc w t) (fun z S2 => z = some (0, bI (D key).isSome) ∧ S2 = enc w t) := by
  obtain ⟨hD, h0, h1⟩ := h
  refine g_isKnown ⟨⟨hD.1, h0, h1⟩, fun x hx => ?_⟩
  obtain ⟨hx0, hx1, hs⟩ := hx
  have hb := hD.1.2.2.1 x.toNat (by omega)
  simp (disch := omega) only [w32_id]
  rcases hD.hit h0 (by omega) hs with ⟨h2, h3⟩ | ⟨h2, h3⟩
  · rw [h2, h3]
    refine ⟨by omega, fun h9 => absurd rfl h9, fun _ => ⟨rfl, by trivial⟩⟩
  · rw [h2, h3]
    refine ⟨by omega, fun _ => ⟨rfl, by trivial⟩, fun h9 => absurd (by omega) h9⟩
theorem c_known {d : Nat} {w : eW} {t : eT} {D : Int → Option Int} {key v : Int} (h : DV w D ∧ (0 ≤ key ∧ key ≤ 2147483647) ∧ D key = some v) : Cl (d + 1) 206 [rA 67, (0, key)] (enc w t) (fun z S2 => z = some (1, v) ∧ S2 = enc w t) := by
  obtain ⟨hD, ⟨h0, h1⟩, hv⟩ := h
  refine g_known ⟨⟨hD.1, h0, h1⟩, fun x hx => ?_⟩
  obtain ⟨hx0, hx1, hs⟩ := hx
  simp (disch := omega) only [w32_id]
  refine ⟨by omega, ?_, by trivial⟩
  rcases hD.hit h0 (by omega) hs with ⟨h2, h3⟩ | ⟨h2, h3⟩
  · rw [hv] at h3
    cases h3
    rfl
  · rw [hv] at h3
    cases h3
def uD (D : Int → Option Int) (key v : Int) : Int → Option Int := fun k => if k = key then some v else D k
/-- behind learns: only the table's cells have changed -/
def FrT (w w2 : eW) : Prop := (∀ a, a ≠ 67 → a ≠ 92 → a ≠ 93 → w2 a = w a) ∧ ∀ k, k ≠ 38 → w2 67 k = w 67 k
theorem DV.putv {w : eW} {D : Int → Option Int} (h : DV w D) {key v : Int} (hk : 0 ≤ key) {x : Nat} (hx : x < 524288) (hs : Sl (w 92) key x) (hq : w 92 x = key) : DV (wu w 93 x v) (uD D key v) := by
  obtain ⟨⟨t1, t2, t3, t4⟩, h2⟩ := h
  have e92 : wu w 93 x v 92 = w 92 := wu_row (by decide)
  have e67 : wu w 93 x v 67 = w 67 := wu_row (by decide)
  refine ⟨⟨by rw [e67]; exact t1, by rw [e67, e92]; exact t2, by rw [e92]; exact t3, by rw [e92]; exact t4⟩, fun k u hk0 => ?_⟩
  rw [e92]
  unfold uD
  by_cases hkk : k = key
  · subst hkk
    rw [if_pos rfl]
    constructor
    · intro h5
      cases h5
      exact ⟨x, hx, hq, wu_eq _ _ _ _⟩
    · rintro ⟨y, y1, y2, y3⟩
      have h4 := t4 y y1 (by omega)
      rw [y2] at h4
      have := hs.uniq h4
      subst this
      rw [wu_eq] at y3
      rw [y3]
  · rw [if_neg hkk, h2 k u hk0]
    constructor
    · rintro ⟨y, y1, y2, y3⟩
      refine ⟨y, y1, y2, ?_⟩
      rw [wu_nk _ _ (fun h9 => hkk (by rw [← y2, h9, hq]))]
      exact y3
    · rintro ⟨y, y1, y2, y3⟩
      rw [wu_nk _ _ (fun h9 => hkk (by rw [← y2, h9, hq]))] at y3
      exact ⟨y, y1, y2, y3⟩
theorem DV.putn {w : eW} {D : Int → Option Int} (h : DV w D) {key v : Int} (hk : 0 ≤ key ∧ key ≤ 2147483647) {x : Nat} (hx : x < 524288) (hs : Sl (w 92) key x) (hq : w 92 x = -1) (hr : w 67 38 < 500000) : DV (wu (wu (wu w 92 x key) 67 38 (w 67 38 + 1)) 93 x v) (uD D key v) := by
  have hno : ∀ y, y < 524288 → w 92 y ≠ key := fun y y1 y2 => by
    have h4 := h.1.2.2.2 y y1 (by omega)
    rw [y2] at h4
    have := hs.uniq h4
    subst this
    omega
  have hD : D key = none := by
    rcases h.hit hk.1 hx hs with ⟨h2, h3⟩ | ⟨h2, h3⟩
    · omega
    · exact h3
  obtain ⟨⟨t1, t2, t3, t4⟩, h2⟩ := h
  have e92 : (wu (wu (wu w 92 x key) 67 38 (w 67 38 + 1)) 93 x v) 92 = fun k => if k = x then key else w 92 k := by
    funext k
    rw [wu_na _ _ (by decide), wu_na _ _ (by decide)]
    simp only [wu, true_and]
  have e38 : (wu (wu (wu w 92 x key) 67 38 (w 67 38 + 1)) 93 x v) 67 38 = w 67 38 + 1 := rfl
  have e93 : (wu (wu (wu w 92 x key) 67 38 (w 67 38 + 1)) 93 x v) 93 = fun k => if k = x then v else w 93 k := by
    funext k
    simp [wu]
  refine ⟨⟨by rw [e38]; omega, ?_, ?_, ?_⟩, fun k u hk0 => ?_⟩
  · rw [e38, e92]
    rw [cb_upd (f := fun k => !decide (w 92 k = -1)) (k := x) hx (by simp [hq]) (by simp; omega) (fun i hi => by simp [hi])]
    omega
  · rw [e92]
    intro k hk1
    dsimp only
    split
    · omega
    · exact t3 k hk1
  · rw [e92]
    intro k hk1
    dsimp only
    by_cases hkx : k = x
    · rw [if_pos hkx]
      intro _
      obtain ⟨j, j1, j2, j3⟩ := hs
      refine ⟨j, by rw [hkx]; exact j1, Or.inr (if_pos hkx), fun i hi => ?_⟩
      have := j3 i hi
      dsimp only
      rw [if_neg (fun (h9 : prb key i = x) => this.1 (by rw [h9]; exact hq))]
      exact this
    · rw [if_neg hkx]
      intro hne
      obtain ⟨j, j1, j2, j3⟩ := t4 k hk1 hne
      refine ⟨j, j1, Or.inr (if_neg hkx), fun i hi => ?_⟩
      have := j3 i hi
      dsimp only
      by_cases hix : prb (w 92 k) i = x
      · rw [hix, if_pos rfl]
        exact ⟨by omega, fun h9 => hno k hk1 h9.symm⟩
      · rw [if_neg hix]; exact this
  · rw [e92, e93]
    unfold uD
    dsimp only
    by_cases hkk : k = key
    · subst hkk
      rw [if_pos rfl]
      constructor
      · intro h5
        cases h5
        exact ⟨x, hx, if_pos rfl, if_pos rfl⟩
      · rintro ⟨y, y1, y2, y3⟩
        by_cases hyx : y = x
        · rw [if_pos hyx] at y3; rw [y3]
        · rw [if_neg hyx] at y2; exact absurd y2 (hno y y1)
    · rw [if_neg hkk, h2 k u hk0]
      constructor
      · rintro ⟨y, y1, y2, y3⟩
        have hyx : y ≠ x := fun h9 => by subst h9; omega
        exact ⟨y, y1, by rw [if_neg hyx]; exact y2, by rw [if_neg hyx]; exact y3⟩
      · rintro ⟨y, y1, y2, y3⟩
        by_cases hyx : y = x
        · rw [if_pos hyx] at y2; exact absurd y2.symm hkk
        · rw [if_neg hyx] at y2 y3; exact ⟨y, y1, y2, y3⟩
theorem c_learns {d : Nat} {w : eW} {t : eT} {D : Int → Option Int} {key v : Int} (h : DV w D ∧ 0 ≤ key ∧ key ≤ 2147483647) : Cl (d + 1) 207 [rA 67, (0, key), (1, v)] (enc w t) (fun z S2 => ∃ w2, z = some (1, v) ∧ S2 = enc w2 t ∧ FrT w w2 ∧ w2 67 38 ≤ w 67 38 + 1 ∧ (DV w2 (uD D key v) ∨ (500000 ≤ w 67 38 ∧ DV w2 D))) := by
  obtain ⟨hD, h0, h1⟩ := h
  refine g_learns ⟨⟨hD.1, h0, h1⟩, fun x hx => ?_⟩
  obtain ⟨hx0, hx1, hs⟩ := hx
  have hb := hD.1.2.2.1 x.toNat (by omega)
  have hc := hD.1.1
  simp (disch := omega) only [w32_id]
  refine ⟨by omega, fun h2 => ⟨by omega, _, by trivial, rfl, ⟨fun a a1 a2 a3 => wu_row a3, fun k k1 => rfl⟩, ?_, Or.inl (hD.putv h0 (by omega) hs ?_)⟩, fun h2 => ⟨fun h3 => ⟨by omega, by omega, _, by trivial, rfl, ⟨fun a a1 a2 a3 => ?_, fun k k1 => ?_⟩, ?_, Or.inl (hD.putn ⟨h0, h1⟩ (by omega) hs (by omega) (by omega))⟩, fun h3 => ⟨w, by trivial, rfl, ⟨fun _ _ _ _ => rfl, fun _ _ => rfl⟩, by omega, Or.inr ⟨by omega, hD⟩⟩⟩⟩
  · show w 67 38 ≤ _; omega
  · rcases hD.hit h0 (by omega) hs with ⟨h4, h5⟩ | ⟨h4, h5⟩
    · exact h4
    · exact absurd h4 h2
  · rw [wu_row a3, wu_row a1, wu_row a2]
  · simp [wu, k1]
  · exact Int.le_refl _
theorem c_forget {d : Nat} {w : eW} {t : eT} : Cl d 208 [rA 67] (enc w t) (fun z S2 => ∃ w2, z = none ∧ S2 = enc w2 t ∧ FrT w w2 ∧ w2 67 38 = 0 ∧ DV w2 (fun _ => none)) := by
  refine g_forget0 ?_
  refine lq1 (fun i (s : eW) => Ev d 208 _ 2 [rA 67, (0, (i : Int))] [] (enc s t)) (fun i s => (∀ k, k < i → s 92 k = -1) ∧ ∀ a, a ≠ 92 → s a = w a) 524288 ?_ ?_ 0 w (Nat.zero_le _) ⟨fun k hk => absurd hk (Nat.not_lt_zero k), fun _ _ => rfl⟩
  · intro i s hi hI hE
    refine g_forget1 ?_
    simp (disch := omega) only [w32_id, Int.toNat_natCast]
    refine ⟨fun h9 => (by omega), fun _ => ⟨by omega, hE _ ⟨fun k hk => ?_, fun a ha => ?_⟩⟩⟩
    · by_cases hki : k = i
      · subst hki; exact wu_eq _ _ _ _
      · rw [wu_nk _ _ hki]; exact hI.1 k (by omega)
    · rw [wu_row ha]; exact hI.2 a ha
  · intro s hI
    refine g_forget1 ?_
    simp (disch := omega) only [w32_id]
    refine ⟨fun _ => ⟨_, by trivial, rfl, ⟨fun a a1 a2 a3 => ?_, fun k hk => ?_⟩, rfl, ⟨⟨?_, ?_, ?_, ?_⟩, fun key v hk => ?_⟩⟩, fun h9 => (by omega)⟩
    · rw [wu_row a1]; exact hI.2 a a2
    · rw [wu_nk _ _ hk, hI.2 67 (by decide)]
    · rw [wu_eq]; decide
    · rw [wu_eq]
      have : cb (fun k => !decide (wu s 67 38 0 92 k = -1)) 524288 = 0 := cb_zero.mpr (fun k hk => by
        have : wu s 67 38 0 92 k = -1 := by rw [wu_na _ _ (by decide)]; exact hI.1 k hk
        simp [this])
      rw [this]; rfl
    · intro k hk
      rw [wu_na _ _ (by decide), hI.1 k hk]
      decide
    · intro k hk h9
      rw [wu_na _ _ (by decide), hI.1 k hk] at h9
      exact absurd rfl h9
    · constructor
      · intro h9; cases h9
      · rintro ⟨k, k1, k2, k3⟩
        rw [wu_na _ _ (by decide), hI.1 k k1] at k2
        omega

