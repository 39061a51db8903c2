/-! Leaves: numbers, letters, the text. -/
theorem w32_id {x : Int} (h : -2147483648 ≤ x ∧ x ≤ 2147483647) : w32 x = x := by
  unfold w32
  rw [Int32.toInt_ofInt, am_b32 h]
theorem w64_id {x : Int} (h : -9223372036854775808 ≤ x ∧ x ≤ 9223372036854775807) : w64 x = x := by
  unfold w64
  rw [Int64.toInt_ofInt, show Int64.size = 18446744073709551616 from rfl]
  exact Int.bmod_eq_of_le (by omega) (by omega)
theorem w32_w32 (x : Int) : -2147483648 ≤ w32 x ∧ w32 x ≤ 2147483647 := by
  have h1 := Int32.le_toInt (Int32.ofInt x)
  have h2 := Int32.toInt_lt (Int32.ofInt x)
  unfold w32
  omega
theorem e_tsw {d M pc dfl ln : Nat} {Q : Option aV → aS → Prop} {la st : List aV} {S : aS} {x lo : Int} {tb : List Nat} (hc : am_cd M pc = (30, dfl, ln, lo, tb)) (h : ∀ (i tg : Nat), tb[i]? = some tg → w32 x = lo + i → Ev d M Q tg la st S) (hd : (w32 x < lo ∨ lo + tb.length ≤ w32 x) → Ev d M Q dfl la st S) : Ev d M Q pc la ((0, x) :: st) S := by
  by_cases h1 : w32 x < lo
  · exact ev_s hc (Nat.le_of_ble_eq_true rfl) (by simp only [am_s1]; rw [if_pos h1]) (hd (Or.inl h1))
  · cases h2 : tb[(w32 x - lo).toNat]? with
    | none =>
      have := List.getElem?_eq_none_iff.mp h2
      exact ev_s hc (Nat.le_of_ble_eq_true rfl) (by simp only [am_s1]; rw [if_neg h1, h2]) (hd (Or.inr (by omega)))
    | some tg => exact ev_s hc (Nat.le_of_ble_eq_true rfl) (by simp only [am_s1]; rw [if_neg h1, h2]) (h _ tg h2 (by omega))

theorem g_codeOf {d : Nat} {Q : Option aV → aS → Prop} {w : eW} {t : eT} {x : Int} (h : ((w32 x < w32 97 → ((¬ w32 x = w32 43 → Q (some (0, 0)) (enc w t)) ∧ (¬ (¬ w32 x = w32 43) → Q (some (0, 27)) (enc w t)))) ∧ (¬ (w32 x < w32 97) → ((w32 122 < w32 x → ((¬ w32 x = w32 43 → Q (some (0, 0)) (enc w t)) ∧ (¬ (¬ w32 x = w32 43) → Q (some (0, 27)) (enc w t)))) ∧ (¬ (w32 122 < w32 x) → Q (some (0, (x - 97) + 1)) (enc w t)))))) : Cl (d) 161 [(0, x)] (enc w t) Q := by
  show Ev (d) 161 Q 0 [(0, x)] [] (enc w t)
  refine e_ldi (show am_cd 161 0 = (2, 1, 0, 0, []) by decide +kernel) rfl ?_
  refine e_ic (show am_cd 161 1 = (0, 3, 1, 97, []) by decide +kernel) ?_
  refine e_cmp2 (show am_cd 161 3 = (11, 6, 19, 2, []) by decide +kernel) (fun hc => ?_) (fun hc => ?_)
  · replace h := h.1 hc
    refine e_ldi (show am_cd 161 19 = (2, 20, 0, 0, []) by decide +kernel) rfl ?_
    refine e_ic (show am_cd 161 20 = (0, 22, 1, 43, []) by decide +kernel) ?_
    refine e_cmp1 (show am_cd 161 22 = (11, 25, 30, 1, []) by decide +kernel) (fun hc => ?_) (fun hc => ?_)
    · replace h := h.1 hc
      refine e_ic (show am_cd 161 30 = (0, 31, 0, 0, []) by decide +kernel) ?_
      exact e_reti (show am_cd 161 31 = (36, 32, 0, 0, []) by decide +kernel) (by decide +kernel) h
    · replace h := h.2 hc
      refine e_ic (show am_cd 161 25 = (0, 27, 1, 27, []) by decide +kernel) ?_
      refine e_go (show am_cd 161 27 = (12, 31, 0, 0, []) by decide +kernel) ?_
      exact e_reti (show am_cd 161 31 = (36, 32, 0, 0, []) by decide +kernel) (by decide +kernel) h
  · replace h := h.2 hc
    refine e_ldi (show am_cd 161 6 = (2, 7, 0, 0, []) by decide +kernel) rfl ?_
    refine e_ic (show am_cd 161 7 = (0, 9, 1, 122, []) by decide +kernel) ?_
    refine e_cmp4 (show am_cd 161 9 = (11, 12, 19, 4, []) by decide +kernel) (fun hc => ?_) (fun hc => ?_)
    · replace h := h.1 hc
      refine e_ldi (show am_cd 161 19 = (2, 20, 0, 0, []) by decide +kernel) rfl ?_
      refine e_ic (show am_cd 161 20 = (0, 22, 1, 43, []) by decide +kernel) ?_
      refine e_cmp1 (show am_cd 161 22 = (11, 25, 30, 1, []) by decide +kernel) (fun hc => ?_) (fun hc => ?_)
      · replace h := h.1 hc
        refine e_ic (show am_cd 161 30 = (0, 31, 0, 0, []) by decide +kernel) ?_
        exact e_reti (show am_cd 161 31 = (36, 32, 0, 0, []) by decide +kernel) (by decide +kernel) h
      · replace h := h.2 hc
        refine e_ic (show am_cd 161 25 = (0, 27, 1, 27, []) by decide +kernel) ?_
        refine e_go (show am_cd 161 27 = (12, 31, 0, 0, []) by decide +kernel) ?_
        exact e_reti (show am_cd 161 31 = (36, 32, 0, 0, []) by decide +kernel) (by decide +kernel) h
    · replace h := h.2 hc
      refine e_ldi (show am_cd 161 12 = (2, 13, 0, 0, []) by decide +kernel) rfl ?_
      refine e_ic (show am_cd 161 13 = (0, 15, 1, 97, []) by decide +kernel) ?_
      refine e_isub (show am_cd 161 15 = (5, 16, 1, 0, []) by decide +kernel) ?_
      refine e_ic (show am_cd 161 16 = (0, 17, 0, 1, []) by decide +kernel) ?_
      refine e_iadd (show am_cd 161 17 = (5, 18, 0, 0, []) by decide +kernel) ?_
      exact e_reti (show am_cd 161 18 = (36, 19, 0, 0, []) by decide +kernel) (by decide +kernel) h

theorem g_signOf {d : Nat} {Q : Option aV → aS → Prop} {w : eW} {t : eT} {x : Int} (h : ((¬ w32 x = w32 27 → Q (some (0, 96 + x)) (enc w t)) ∧ (¬ (¬ w32 x = w32 27) → Q (some (0, 43)) (enc w t)))) : Cl (d) 162 [(0, x)] (enc w t) Q := by
  show Ev (d) 162 Q 0 [(0, x)] [] (enc w t)
  refine e_ldi (show am_cd 162 0 = (2, 1, 0, 0, []) by decide +kernel) rfl ?_
  refine e_ic (show am_cd 162 1 = (0, 3, 1, 27, []) by decide +kernel) ?_
  refine e_cmp1 (show am_cd 162 3 = (11, 6, 11, 1, []) by decide +kernel) (fun hc => ?_) (fun hc => ?_)
  · replace h := h.1 hc
    refine e_ic (show am_cd 162 11 = (0, 13, 1, 96, []) by decide +kernel) ?_
    refine e_ldi (show am_cd 162 13 = (2, 14, 0, 0, []) by decide +kernel) rfl ?_
    refine e_iadd (show am_cd 162 14 = (5, 15, 0, 0, []) by decide +kernel) ?_
    exact e_reti (show am_cd 162 15 = (36, 16, 0, 0, []) by decide +kernel) (by decide +kernel) h
  · replace h := h.2 hc
    refine e_ic (show am_cd 162 6 = (0, 8, 1, 43, []) by decide +kernel) ?_
    refine e_go (show am_cd 162 8 = (12, 15, 0, 0, []) by decide +kernel) ?_
    exact e_reti (show am_cd 162 15 = (36, 16, 0, 0, []) by decide +kernel) (by decide +kernel) h

theorem g_ahead {d : Nat} {Q : Option aV → aS → Prop} {w : eW} {t : eT} (h : ((w32 (w 2 5) ≤ w32 (w 2 6) → Q (some (0, (-1))) (enc w t)) ∧ (¬ (w32 (w 2 5) ≤ w32 (w 2 6)) → (0 ≤ w32 (w 2 6) ∧ w32 (w 2 6) < 80) ∧ (Q (some (0, w 3 (w32 (w 2 6)).toNat)) (enc w t))))) : Cl (d) 80 [rA 2] (enc w t) Q := by
  show Ev (d) 80 Q 0 [rA 2] [] (enc w t)
  refine e_lda (v := 2) (show am_cd 80 0 = (2, 1, 0, 2, []) by decide +kernel) rfl ?_
  refine e_getf (a := 2) (tg := 0) (show am_cd 80 1 = (18, 4, 806, 0, [31]) by decide +kernel) (by decide +kernel) (by decide +kernel) rfl ?_
  refine e_lda (v := 2) (show am_cd 80 4 = (2, 5, 0, 2, []) by decide +kernel) rfl ?_
  refine e_getf (a := 2) (tg := 0) (show am_cd 80 5 = (18, 8, 805, 0, [27]) by decide +kernel) (by decide +kernel) (by decide +kernel) rfl ?_
  refine e_cmp3 (show am_cd 80 8 = (11, 11, 23, 3, []) by decide +kernel) (fun hc => ?_) (fun hc => ?_)
  · replace h := h.1 hc
    refine e_ic (show am_cd 80 23 = (0, 24, 0, -1, []) by decide +kernel) ?_
    exact e_reti (show am_cd 80 24 = (36, 25, 0, 0, []) by decide +kernel) (by decide +kernel) h
  · replace h := h.2 hc
    refine e_lda (v := 2) (show am_cd 80 11 = (2, 12, 0, 2, []) by decide +kernel) rfl ?_
    refine e_getr (a := 2) (r := 3) (show am_cd 80 12 = (18, 15, 800, 2, [9]) by decide +kernel) (by decide +kernel) (by decide +kernel) rfl ?_
    refine e_lda (v := 2) (show am_cd 80 15 = (2, 16, 0, 2, []) by decide +kernel) rfl ?_
    refine e_getf (a := 2) (tg := 0) (show am_cd 80 16 = (18, 19, 806, 0, [31]) by decide +kernel) (by decide +kernel) (by decide +kernel) rfl ?_
    refine e_iald (a := 3) (n := 80) (show am_cd 80 19 = (21, 20, 0, 0, []) by decide +kernel) (by decide +kernel) (by decide +kernel) (by decide +kernel) h.1 ?_
    replace h := h.2
    refine e_go (show am_cd 80 20 = (12, 24, 0, 0, []) by decide +kernel) ?_
    exact e_reti (show am_cd 80 24 = (36, 25, 0, 0, []) by decide +kernel) (by decide +kernel) h

def codeOf (x : Int) : Int := if 97 ≤ x ∧ x ≤ 122 then x - 96 else if x = 43 then 27 else 0
theorem c_codeOf {d : Nat} {w : eW} {t : eT} {x : Int} (hx : -1 ≤ x ∧ x ≤ 255) : Cl d 161 [(0, x)] (enc w t) (fun r S2 => r = some (0, codeOf x) ∧ S2 = enc w t) := by
  refine g_codeOf ?_
  simp (disch := omega) only [w32_id]
  unfold codeOf
  (repeat' (first | constructor | intro hc)) <;> first | rfl | (congr 2; (repeat' split) <;> omega) | skip
/-- the text: its signs, how many, and the cursor -/
def TI (w : eW) : Prop := 0 ≤ w 2 6 ∧ w 2 6 ≤ w 2 5 ∧ w 2 5 ≤ 80 ∧ ∀ j, j < 80 → 0 ≤ w 3 j ∧ w 3 j ≤ 255
def ahead (w : eW) : Int := if w 2 5 ≤ w 2 6 then -1 else w 3 (w 2 6).toNat
theorem ahead_in {w : eW} (h : TI w) : -1 ≤ ahead w ∧ ahead w ≤ 255 := by
  obtain ⟨h1, h2, h3, h4⟩ := h
  unfold ahead
  split
  · omega
  · have := h4 (w 2 6).toNat (by omega)
    omega
theorem c_ahead {d : Nat} {w : eW} {t : eT} (h : TI w) : Cl d 80 [rA 2] (enc w t) (fun r S2 => r = some (0, ahead w) ∧ S2 = enc w t) := by
  obtain ⟨h1, h2, h3, h4⟩ := h
  refine g_ahead ?_
  simp (disch := omega) only [w32_id]
  unfold ahead
  refine ⟨fun hc => ⟨by rw [if_pos hc], trivial⟩, fun hc => ⟨by omega, by rw [if_neg hc], trivial⟩⟩

theorem g_takes {d : Nat} {Q : Option aV → aS → Prop} {w : eW} {t : eT} {x : Int} (h : (TI w) ∧ ((w32 (ahead w) = w32 x → Q (some (0, 1)) (enc (wu w 2 6 ((w 2 6) + 1)) t)) ∧ (¬ (w32 (ahead w) = w32 x) → Q (some (0, 0)) (enc w t)))) : Cl (d + 1) 81 [rA 2, (0, x)] (enc w t) Q := by
  show Ev (d + 1) 81 Q 0 [rA 2, (0, x)] [] (enc w t)
  refine e_lda (v := 2) (show am_cd 81 0 = (2, 1, 0, 2, []) by decide +kernel) rfl ?_
  refine e_cV (z := 0) (a := 2) (as := []) (rest := []) (show am_cd 81 1 = (40, 4, 80, 0, [34]) by decide +kernel) (by decide +kernel) rfl rfl (Nat.le_of_ble_eq_true rfl) rfl ?_
  refine Cl.mono (Cl.up (c_ahead (d := d) h.1) (by omega)) ?_
  rintro _ _ ⟨rfl, rfl⟩
  refine ⟨fun _ h9 => (by cases h9), ?_⟩
  replace h := h.2
  refine e_ldi (show am_cd 81 4 = (2, 5, 1, 0, []) by decide +kernel) rfl ?_
  refine e_cmp0 (show am_cd 81 5 = (11, 8, 10, 0, []) by decide +kernel) (fun hc => ?_) (fun hc => ?_)
  · replace h := h.1 hc
    refine e_lda (v := 2) (show am_cd 81 10 = (2, 11, 0, 2, []) by decide +kernel) rfl ?_
    refine e_dup (show am_cd 81 11 = (13, 12, 0, 0, []) by decide +kernel) (by decide) ?_
    refine e_getf (a := 2) (tg := 0) (show am_cd 81 12 = (18, 15, 806, 0, [31]) by decide +kernel) (by decide +kernel) (by decide +kernel) rfl ?_
    refine e_ic (show am_cd 81 15 = (0, 16, 0, 1, []) by decide +kernel) ?_
    refine e_iadd (show am_cd 81 16 = (5, 17, 0, 0, []) by decide +kernel) ?_
    refine e_putf (a := 2) (show am_cd 81 17 = (19, 20, 806, 0, [31]) by decide +kernel) (by decide +kernel) (by decide +kernel) rfl (fun h9 => absurd h9 (by decide)) (fun h9 => absurd h9 (by decide +kernel)) ?_
    refine e_ic (show am_cd 81 20 = (0, 21, 0, 1, []) by decide +kernel) ?_
    exact e_retz (show am_cd 81 21 = (36, 22, 0, 0, []) by decide +kernel) (by decide +kernel) (Or.inr rfl) h
  · replace h := h.2 hc
    refine e_ic (show am_cd 81 8 = (0, 9, 0, 0, []) by decide +kernel) ?_
    exact e_retz (show am_cd 81 9 = (36, 10, 0, 0, []) by decide +kernel) (by decide +kernel) (Or.inl rfl) h

theorem g_codeAhead {d : Nat} {Q : Option aV → aS → Prop} {w : eW} {t : eT} (h : (TI w) ∧ (-1 ≤ ahead w ∧ ahead w ≤ 255) ∧ ((0 < w32 (codeOf (ahead w)) → Q (some (0, codeOf (ahead w))) (enc w t)) ∧ (¬ (0 < w32 (codeOf (ahead w))) → (TI w) ∧ ((¬ w32 (ahead w) = w32 48 → Q (some (0, (-1))) (enc w t)) ∧ (¬ (¬ w32 (ahead w) = w32 48) → Q (some (0, codeOf (ahead w))) (enc w t)))))) : Cl (d + 1) 82 [rA 2] (enc w t) Q := by
  show Ev (d + 1) 82 Q 0 [rA 2, (9, 0)] [] (enc w t)
  refine e_lda (v := 2) (show am_cd 82 0 = (2, 1, 0, 2, []) by decide +kernel) rfl ?_
  refine e_cV (z := 0) (a := 2) (as := []) (rest := []) (show am_cd 82 1 = (40, 4, 80, 0, [34]) by decide +kernel) (by decide +kernel) rfl rfl (Nat.le_of_ble_eq_true rfl) rfl ?_
  refine Cl.mono (Cl.up (c_ahead (d := d) h.1) (by omega)) ?_
  rintro _ _ ⟨rfl, rfl⟩
  refine ⟨fun _ h9 => (by cases h9), ?_⟩
  replace h := h.2
  refine e_cS (z := 0) (as := [(0, ahead w)]) (rest := []) (show am_cd 82 4 = (40, 7, 161, 4, [38]) by decide +kernel) (by decide) rfl rfl (Nat.le_of_ble_eq_true rfl) rfl ?_
  refine Cl.mono (Cl.up (c_codeOf (d := d) h.1) (by omega)) ?_
  rintro _ _ ⟨rfl, rfl⟩
  refine ⟨fun _ h9 => (by cases h9), ?_⟩
  replace h := h.2
  refine e_sti (la2 := [rA 2, (0, codeOf (ahead w))]) (show am_cd 82 7 = (3, 8, 1, 0, []) by decide +kernel) rfl ?_
  refine e_ldi (show am_cd 82 8 = (2, 9, 1, 0, []) by decide +kernel) rfl ?_
  refine e_if4 (show am_cd 82 9 = (10, 12, 21, 4, []) by decide +kernel) (fun hc => ?_) (fun hc => ?_)
  · replace h := h.1 hc
    refine e_ldi (show am_cd 82 21 = (2, 22, 1, 0, []) by decide +kernel) rfl ?_
    refine e_go (show am_cd 82 22 = (12, 26, 0, 0, []) by decide +kernel) ?_
    exact e_reti (show am_cd 82 26 = (36, 27, 0, 0, []) by decide +kernel) (by decide +kernel) h
  · replace h := h.2 hc
    refine e_lda (v := 2) (show am_cd 82 12 = (2, 13, 0, 2, []) by decide +kernel) rfl ?_
    refine e_cV (z := 0) (a := 2) (as := []) (rest := []) (show am_cd 82 13 = (40, 16, 80, 0, [34]) by decide +kernel) (by decide +kernel) rfl rfl (Nat.le_of_ble_eq_true rfl) rfl ?_
    refine Cl.mono (Cl.up (c_ahead (d := d) h.1) (by omega)) ?_
    rintro _ _ ⟨rfl, rfl⟩
    refine ⟨fun _ h9 => (by cases h9), ?_⟩
    replace h := h.2
    refine e_ic (show am_cd 82 16 = (0, 18, 1, 48, []) by decide +kernel) ?_
    refine e_cmp1 (show am_cd 82 18 = (11, 21, 25, 1, []) by decide +kernel) (fun hc => ?_) (fun hc => ?_)
    · replace h := h.1 hc
      refine e_ic (show am_cd 82 25 = (0, 26, 0, -1, []) by decide +kernel) ?_
      exact e_reti (show am_cd 82 26 = (36, 27, 0, 0, []) by decide +kernel) (by decide +kernel) h
    · replace h := h.2 hc
      refine e_ldi (show am_cd 82 21 = (2, 22, 1, 0, []) by decide +kernel) rfl ?_
      refine e_go (show am_cd 82 22 = (12, 26, 0, 0, []) by decide +kernel) ?_
      exact e_reti (show am_cd 82 26 = (36, 27, 0, 0, []) by decide +kernel) (by decide +kernel) h

theorem wu_TI {w : eW} {v : Int} (h : TI w) (hv : 0 ≤ v ∧ v ≤ w 2 5) : TI (wu w 2 6 v) := by
  obtain ⟨h1, h2, h3, h4⟩ := h
  simp only [TI, wu]
  simp
  exact ⟨hv.1, hv.2, h3, h4⟩
def takesV (w : eW) (x : Int) : Int := if ahead w = x then 1 else 0
def takesW (w : eW) (x : Int) : eW := if ahead w = x then wu w 2 6 (w 2 6 + 1) else w
theorem c_takes {d : Nat} {w : eW} {t : eT} {x : Int} (h : TI w ∧ 0 ≤ x ∧ x ≤ 255) : Cl (d + 1) 81 [rA 2, (0, x)] (enc w t) (fun r S2 => r = some (0, takesV w x) ∧ S2 = enc (takesW w x) t) := by
  obtain ⟨h0, hx⟩ := h
  have ha := ahead_in h0
  refine g_takes ⟨h0, ?_⟩
  simp (disch := omega) only [w32_id]
  unfold takesV takesW
  refine ⟨fun hc => ⟨by rw [if_pos hc], by rw [if_pos hc]⟩, fun hc => ⟨by rw [if_neg hc], by rw [if_neg hc]⟩⟩
theorem codeOf_in (x : Int) (h : -1 ≤ x ∧ x ≤ 255) : 0 ≤ codeOf x ∧ codeOf x ≤ 27 := by
  unfold codeOf
  (repeat' split) <;> omega
def codeAhead (w : eW) : Int := if 0 < codeOf (ahead w) ∨ ahead w = 48 then codeOf (ahead w) else -1
theorem c_codeAhead {d : Nat} {w : eW} {t : eT} (h0 : TI w) : Cl (d + 1) 82 [rA 2] (enc w t) (fun r S2 => r = some (0, codeAhead w) ∧ S2 = enc w t) := by
  have ha := ahead_in h0
  have hb := codeOf_in _ ha
  refine g_codeAhead ⟨h0, ha, ?_⟩
  simp (disch := omega) only [w32_id]
  unfold codeAhead
  refine ⟨fun hc => ⟨by rw [if_pos (Or.inl hc)], trivial⟩, fun hc => ⟨h0, fun hd => ⟨by rw [if_neg (by omega)], trivial⟩, fun hd => ⟨by rw [if_pos (by omega)], trivial⟩⟩⟩

