/-! The model: reading the text. -/
abbrev pT : Type := Except Nat Nat
/-- the sign at a place, -1 behind the end -/
def hr (tx : List Int) (p : Nat) : Int := if p < tx.length then tx.getD p 0 else -1
def hrI (tx : List Int) (p : Int) : Int := hr tx p.toNat
def ltO (c : Int) : Option Int := if 97 ≤ c ∧ c ≤ 122 then some (c - 97) else if c = 43 then some 26 else none
def sgO (c : Int) : Option Int := if c = 48 then some 27 else ltO c
def bnd {α : Type} (s : pT) (f : Nat → Except Nat (α × Nat)) : Except Nat (α × Nat) := match s with
  | .ok p => f p
  | .error q => .error q
def stE {α : Type} (r : Except Nat (α × Nat)) : pT := match r with
  | .ok x => .ok x.2
  | .error q => .error q
def rvO (r : Except Nat (Int × Nat)) (x : Int) : Prop := match r with
  | .ok y => x = y.1
  | .error _ => True
def rdL (tx : List Int) (p : Nat) : Except Nat (Int × Nat) := match ltO (hr tx p) with
  | some l => .ok (l, p + 1)
  | none => .error p
def rdS (tx : List Int) (p : Nat) : Except Nat (Int × Nat) := match sgO (hr tx p) with
  | some l => .ok (l, p + 1)
  | none => .error p
def psB (tx : List Int) (s : pT) (c : Int) : Bool := match s with
  | .ok p => decide (hr tx p = c)
  | .error _ => false
def psS (tx : List Int) (s : pT) (c : Int) : pT := match s with
  | .ok p => if hr tx p = c then .ok (p + 1) else .ok p
  | .error q => .error q
def exS (tx : List Int) (s : pT) (c : Int) : pT := match s with
  | .ok p => if hr tx p = c then .ok (p + 1) else .error p
  | .error q => .error q
def enS (tx : List Int) (s : pT) : pT := match s with
  | .ok p => if p < tx.length then .error p else .ok p
  | .error q => .error q
def ilB (tx : List Int) (s : pT) : Bool := match s with
  | .ok p => (ltO (hr tx p)).isSome
  | .error _ => false
def stW (w : eW) : pT := if w 67 29 = -1 then .ok (w 67 28).toNat else .error (w 67 29).toNat
def Px (w : eW) (tx : List Int) : Prop := w 67 27 = (tx.length : Int) ∧ tx.length ≤ 80 ∧ (∀ b ∈ tx, 0 ≤ b ∧ b < 256) ∧ (∀ i, i < tx.length → w 85 i = sb (tx.getD i 0)) ∧ 0 ≤ w 67 28 ∧ ((w 67 29 = -1 ∧ w 67 28 ≤ tx.length) ∨ (0 ≤ w 67 29 ∧ w 67 29 ≤ 81 ∧ w 67 28 ≤ tx.length + 1))
theorem Px.b {w : eW} {tx : List Int} (h : Px w tx) : (0 ≤ w 67 28 ∧ w 67 28 ≤ 81) ∧ (-1 ≤ w 67 29 ∧ w 67 29 ≤ 81) := by
  obtain ⟨h1, h2, h3, h4, h5, h6⟩ := h
  omega
theorem Px.hrb {w : eW} {tx : List Int} (h : Px w tx) (p : Nat) : -1 ≤ hr tx p ∧ hr tx p ≤ 255 := by
  unfold hr
  split
  · next hp =>
    rw [List.getD_eq_getElem?_getD, List.getElem?_eq_getElem hp]
    have := h.2.2.1 _ (List.getElem_mem hp)
    simp only [Option.getD_some]
    omega
  · omega
theorem Px.fr {w w2 : eW} {tx : List Int} (h : Px w tx) {R F : List Nat} (hf : Fm R F w w2) (hR : 85 ∉ R) (hF : 27 ∉ F) (ha : 0 ≤ w2 67 28) (hb : (w2 67 29 = -1 ∧ w2 67 28 ≤ tx.length) ∨ (0 ≤ w2 67 29 ∧ w2 67 29 ≤ 81 ∧ w2 67 28 ≤ tx.length + 1)) : Px w2 tx := ⟨by rw [hf.2 27 hF]; exact h.1, h.2.1, h.2.2.1, by rw [hf.1 85 (by decide) hR]; exact h.2.2.2.1, ha, hb⟩
theorem Px.m {w w2 : eW} {tx : List Int} (h : Px w tx) {R F : List Nat} (hf : Fm R F w w2) (hR : 85 ∉ R) (hF : 27 ∉ F ∧ 28 ∉ F ∧ 29 ∉ F) : Px w2 tx := h.fr hf hR hF.1 (by rw [hf.2 28 hF.2.1]; exact h.2.2.2.2.1) (by rw [hf.2 28 hF.2.1, hf.2 29 hF.2.2]; exact h.2.2.2.2.2)
theorem stW_m {w w2 : eW} {R F : List Nat} (hf : Fm R F w w2) (hF : 28 ∉ F ∧ 29 ∉ F) : stW w2 = stW w := by
  unfold stW
  rw [hf.2 28 hF.1, hf.2 29 hF.2]
theorem sb_and {b : Int} (h : 0 ≤ b ∧ b < 256) : iand (sb b) 255 = b := by
  have hall : (List.range 256).all (fun b => decide (iand (sb (b : Int)) 255 = (b : Int))) = true := by decide +kernel
  have := of_decide_eq_true (List.all_eq_true.mp hall b.toNat (List.mem_range.mpr (by omega)))
  rw [Int.toNat_of_nonneg h.1] at this
  exact this
theorem ltO_b {c l : Int} (h : ltO c = some l) : 0 ≤ l ∧ l ≤ 26 ∧ -1 < c := by
  unfold ltO at h
  split at h
  · cases h; omega
  · split at h
    · cases h; omega
    · cases h

theorem g_here {d : Nat} {Q : Option aV → aS → Prop} {w : eW} {t : eT} (h : ((w32 (w 67 27) ≤ w32 (w 67 28) → Q (some (0, (-1))) (enc w t)) ∧ (¬ (w32 (w 67 27) ≤ w32 (w 67 28)) → (0 ≤ w32 (w 67 28) ∧ w32 (w 67 28) < 80) ∧ (Q (some (0, iand (w 85 (w32 (w 67 28)).toNat) 255)) (enc w t))))) : Cl (d) 171 [rA 67] (enc w t) Q := by
  show Ev (d) 171 Q 0 [rA 67] [] (enc w t)
  refine e_lda (v := 67) (show am_cd 171 0 = (2, 1, 0, 2, []) by decide +kernel) rfl ?_
  refine e_getf (a := 67) (tg := 0) (show am_cd 171 1 = (18, 4, 1228, 0, [129]) by decide +kernel) (by decide +kernel) (by decide +kernel) rfl ?_
  refine e_lda (v := 67) (show am_cd 171 4 = (2, 5, 0, 2, []) by decide +kernel) rfl ?_
  refine e_getf (a := 67) (tg := 0) (show am_cd 171 5 = (18, 8, 1227, 0, [126]) by decide +kernel) (by decide +kernel) (by decide +kernel) rfl ?_
  refine e_cmp3 (show am_cd 171 8 = (11, 11, 27, 3, []) by decide +kernel) (fun hc => ?_) (fun hc => ?_)
  · replace h := h.1 hc
    refine e_ic (show am_cd 171 27 = (0, 28, 0, -1, []) by decide +kernel) ?_
    exact e_reti (show am_cd 171 28 = (36, 29, 0, 0, []) by decide +kernel) (by decide +kernel) h
  · replace h := h.2 hc
    refine e_lda (v := 67) (show am_cd 171 11 = (2, 12, 0, 2, []) by decide +kernel) rfl ?_
    refine e_getr (a := 67) (r := 85) (show am_cd 171 12 = (18, 15, 1222, 2, [61]) by decide +kernel) (by decide +kernel) (by decide +kernel) rfl ?_
    refine e_lda (v := 67) (show am_cd 171 15 = (2, 16, 0, 2, []) by decide +kernel) rfl ?_
    refine e_getf (a := 67) (tg := 0) (show am_cd 171 16 = (18, 19, 1228, 0, [129]) by decide +kernel) (by decide +kernel) (by decide +kernel) rfl ?_
    refine e_bald (a := 85) (n := 80) (show am_cd 171 19 = (23, 20, 0, 0, []) by decide +kernel) (by decide +kernel) (by decide +kernel) (by decide +kernel) h.1 ?_
    replace h := h.2
    refine e_ic (show am_cd 171 20 = (0, 23, 2, 255, []) by decide +kernel) ?_
    refine e_iand (show am_cd 171 23 = (5, 24, 3, 0, []) by decide +kernel) ?_
    refine e_go (show am_cd 171 24 = (12, 28, 0, 0, []) by decide +kernel) ?_
    exact e_reti (show am_cd 171 28 = (36, 29, 0, 0, []) by decide +kernel) (by decide +kernel) h

theorem g_letterOf {d : Nat} {Q : Option aV → aS → Prop} {w : eW} {t : eT} {c : Int} (h : (((decide (w64 97 ≤ w64 (w32 c) ∧ w64 (w32 c) ≤ w64 122)) = false → ((¬ w32 c = w32 43 → Q (some (0, (-1))) (enc w t)) ∧ (¬ (¬ w32 c = w32 43) → Q (some (0, 26)) (enc w t)))) ∧ ((decide (w64 97 ≤ w64 (w32 c) ∧ w64 (w32 c) ≤ w64 122)) = true → Q (some (0, c - 97)) (enc w t)))) : Cl (d + 1) 177 [(0, c)] (enc w t) Q := by
  show Ev (d + 1) 177 Q 0 [(0, c)] [] (enc w t)
  refine e_ldi (show am_cd 177 0 = (2, 1, 0, 0, []) by decide +kernel) rfl ?_
  refine e_i2l (show am_cd 177 1 = (8, 2, 0, 0, []) by decide +kernel) ?_
  refine e_lc (show am_cd 177 2 = (1, 5, 1, 97, [147]) by decide +kernel) ?_
  refine e_lc (show am_cd 177 5 = (1, 8, 1, 122, [149]) by decide +kernel) ?_
  refine e_cS (z := 0) (as := [(1, w32 c), (1, 97), (1, 122)]) (rest := []) (show am_cd 177 8 = (40, 11, 165, 1, [122]) by decide +kernel) (by decide) rfl rfl (Nat.le_of_ble_eq_true rfl) rfl ?_
  refine Cl.mono (Cl.up (c_in (d := d)) (by omega)) ?_
  rintro _ _ ⟨rfl, rfl⟩
  refine ⟨fun _ h9 => (by cases h9), ?_⟩
  show Ev _ 177 _ 11 [(0, c)] [(0, bI (decide (w64 97 ≤ w64 (w32 c) ∧ w64 (w32 c) ≤ w64 122)))] _
  refine e_ifb0 (show am_cd 177 11 = (10, 14, 21, 0, []) by decide +kernel) (fun hc => ?_) (fun hc => ?_)
  · replace h := h.1 hc
    refine e_ldi (show am_cd 177 21 = (2, 22, 0, 0, []) by decide +kernel) rfl ?_
    refine e_ic (show am_cd 177 22 = (0, 24, 1, 43, []) by decide +kernel) ?_
    refine e_cmp1 (show am_cd 177 24 = (11, 27, 32, 1, []) by decide +kernel) (fun hc => ?_) (fun hc => ?_)
    · replace h := h.1 hc
      refine e_ic (show am_cd 177 32 = (0, 33, 0, -1, []) by decide +kernel) ?_
      exact e_reti (show am_cd 177 33 = (36, 34, 0, 0, []) by decide +kernel) (by decide +kernel) h
    · replace h := h.2 hc
      refine e_ic (show am_cd 177 27 = (0, 29, 1, 26, []) by decide +kernel) ?_
      refine e_go (show am_cd 177 29 = (12, 33, 0, 0, []) by decide +kernel) ?_
      exact e_reti (show am_cd 177 33 = (36, 34, 0, 0, []) by decide +kernel) (by decide +kernel) h
  · replace h := h.2 hc
    refine e_ldi (show am_cd 177 14 = (2, 15, 0, 0, []) by decide +kernel) rfl ?_
    refine e_ic (show am_cd 177 15 = (0, 17, 1, 97, []) by decide +kernel) ?_
    refine e_isub (show am_cd 177 17 = (5, 18, 1, 0, []) by decide +kernel) ?_
    refine e_go (show am_cd 177 18 = (12, 33, 0, 0, []) by decide +kernel) ?_
    exact e_reti (show am_cd 177 33 = (36, 34, 0, 0, []) by decide +kernel) (by decide +kernel) h

theorem g_fault {d : Nat} {Q : Option aV → aS → Prop} {w : eW} {t : eT} {p : Int} (h : ((¬ w32 (w 67 29) = w32 (-1) → Q none (enc w t)) ∧ (¬ (¬ w32 (w 67 29) = w32 (-1)) → Q none (enc (wu w 67 29 p) t)))) : Cl (d) 172 [rA 67, (0, p)] (enc w t) Q := by
  show Ev (d) 172 Q 0 [rA 67, (0, p)] [] (enc w t)
  refine e_lda (v := 67) (show am_cd 172 0 = (2, 1, 0, 2, []) by decide +kernel) rfl ?_
  refine e_getf (a := 67) (tg := 0) (show am_cd 172 1 = (18, 4, 1229, 0, [132]) by decide +kernel) (by decide +kernel) (by decide +kernel) rfl ?_
  refine e_ic (show am_cd 172 4 = (0, 5, 0, -1, []) by decide +kernel) ?_
  refine e_cmp1 (show am_cd 172 5 = (11, 8, 13, 1, []) by decide +kernel) (fun hc => ?_) (fun hc => ?_)
  · replace h := h.1 hc
    exact e_retv (show am_cd 172 13 = (36, 14, 3, 0, []) by decide +kernel) (by decide +kernel) h
  · replace h := h.2 hc
    refine e_lda (v := 67) (show am_cd 172 8 = (2, 9, 0, 2, []) by decide +kernel) rfl ?_
    refine e_ldi (show am_cd 172 9 = (2, 10, 1, 0, []) by decide +kernel) rfl ?_
    refine e_putf (a := 67) (show am_cd 172 10 = (19, 13, 1229, 0, [132]) by decide +kernel) (by decide +kernel) (by decide +kernel) rfl (fun h9 => absurd h9 (by decide)) (fun h9 => absurd h9 (by decide +kernel)) ?_
    exact e_retv (show am_cd 172 13 = (36, 14, 3, 0, []) by decide +kernel) (by decide +kernel) h

theorem c_here {d : Nat} {w : eW} {t : eT} {tx : List Int} (h : Px w tx) : Cl d 171 [rA 67] (enc w t) (fun r S2 => r = some (0, hrI tx (w 67 28)) ∧ S2 = enc w t) := by
  have hb := h.b
  have hl := h.2.1
  refine g_here ?_
  rw [h.1]
  simp (disch := omega) only [w32_id]
  unfold hrI hr
  refine ⟨fun h1 => ⟨?_, by trivial⟩, fun h1 => ?_⟩
  · rw [if_neg (by omega)]
  · have h3 := h.2.2.2.1 (w 67 28).toNat (by omega)
    have h4 := h.2.2.1 (tx.getD (w 67 28).toNat 0) (by rw [List.getD_eq_getElem?_getD, List.getElem?_eq_getElem (show (w 67 28).toNat < tx.length by omega)]; exact List.getElem_mem _)
    rw [if_pos (by omega), h3, sb_and h4]
    exact ⟨by omega, rfl, by trivial⟩
theorem c_letterOf {d : Nat} {w : eW} {t : eT} {c : Int} (h : -1 ≤ c ∧ c ≤ 255) : Cl (d + 1) 177 [(0, c)] (enc w t) (fun r S2 => r = some (0, (ltO c).getD (-1)) ∧ S2 = enc w t) := by
  refine g_letterOf ?_
  simp (disch := omega) only [w32_id, w64_id]
  unfold ltO
  refine ⟨fun h1 => ⟨fun h2 => ⟨?_, by trivial⟩, fun h2 => ⟨?_, by trivial⟩⟩, fun h1 => ⟨?_, by trivial⟩⟩
  · rw [if_neg (of_decide_eq_false h1), if_neg h2]; rfl
  · rw [if_neg (of_decide_eq_false h1), if_pos (by omega)]; rfl
  · rw [if_pos (of_decide_eq_true h1)]; rfl
def ftW (w : eW) (p : Int) : eW := if w 67 29 = -1 then wu w 67 29 p else w
theorem c_fault {d : Nat} {w : eW} {t : eT} {tx : List Int} {p : Int} (h : Px w tx ∧ 0 ≤ p ∧ p ≤ 81) : Cl d 172 [rA 67, (0, p)] (enc w t) (fun r S2 => r = none ∧ S2 = enc (ftW w p) t) := by
  have hb := h.1.b
  refine g_fault ?_
  simp (disch := omega) only [w32_id]
  unfold ftW
  refine ⟨fun h1 => ⟨by trivial, by rw [if_neg h1]⟩, fun h1 => ⟨by trivial, by rw [if_pos (by omega)]⟩⟩
theorem Px.ft {w : eW} {tx : List Int} {p : Int} (h : Px w tx) (hp : 0 ≤ p ∧ p ≤ 81) : Px (ftW w p) tx ∧ Fm [] [28, 29] w (ftW w p) := by
  have hb := h.b
  have h6 := h.2.2.2.2.2
  unfold ftW
  split
  · next h1 =>
    have q : Fm [] [28, 29] w (wu w 67 29 p) := Fm.pf (by decide)
    refine ⟨h.fr q (by decide) (by decide) (by rw [wu_nk _ _ (by decide)]; exact h.2.2.2.2.1) (Or.inr ⟨by rw [wu_eq]; exact hp.1, by rw [wu_eq]; exact hp.2, by rw [wu_nk _ _ (by decide)]; omega⟩), q⟩
  · exact ⟨h, Fm.rf _ _ _⟩
theorem stW_ft {w : eW} {tx : List Int} {p : Int} (h : Px w tx) (hp : 0 ≤ p ∧ p ≤ 81) : stW (ftW w p) = match stW w with
    | .ok _ => .error p.toNat
    | .error q => .error q := by
  unfold stW ftW
  by_cases h1 : w 67 29 = -1
  · rw [if_pos h1, wu_eq, if_neg (by omega), if_pos h1]
  · rw [if_neg h1, if_neg h1]

theorem g_passes {d : Nat} {Q : Option aV → aS → Prop} {w : eW} {t : eT} {c : Int} {tx : List Int} (h : ((¬ w32 (w 67 29) = w32 (-1) → Q (some (0, 0)) (enc w t)) ∧ (¬ (¬ w32 (w 67 29) = w32 (-1)) → (Px w tx) ∧ ((w32 (hrI tx (w 67 28)) = w32 c → Q (some (0, 1)) (enc (wu w 67 28 ((w 67 28) + 1)) t)) ∧ (¬ (w32 (hrI tx (w 67 28)) = w32 c) → Q (some (0, 0)) (enc w t)))))) : Cl (d + 1) 174 [rA 67, (0, c)] (enc w t) Q := by
  show Ev (d + 1) 174 Q 0 [rA 67, (0, c)] [] (enc w t)
  refine e_lda (v := 67) (show am_cd 174 0 = (2, 1, 0, 2, []) by decide +kernel) rfl ?_
  refine e_getf (a := 67) (tg := 0) (show am_cd 174 1 = (18, 4, 1229, 0, [132]) by decide +kernel) (by decide +kernel) (by decide +kernel) rfl ?_
  refine e_ic (show am_cd 174 4 = (0, 5, 0, -1, []) by decide +kernel) ?_
  refine e_cmp1 (show am_cd 174 5 = (11, 8, 16, 1, []) by decide +kernel) (fun hc => ?_) (fun hc => ?_)
  · replace h := h.1 hc
    refine e_ic (show am_cd 174 16 = (0, 17, 0, 0, []) by decide +kernel) ?_
    exact e_retz (show am_cd 174 17 = (36, 18, 0, 0, []) by decide +kernel) (by decide +kernel) (Or.inl rfl) h
  · replace h := h.2 hc
    refine e_lda (v := 67) (show am_cd 174 8 = (2, 9, 0, 2, []) by decide +kernel) rfl ?_
    refine e_cV (z := 0) (a := 67) (as := []) (rest := []) (show am_cd 174 9 = (40, 12, 171, 0, [135]) by decide +kernel) (by decide +kernel) rfl rfl (Nat.le_of_ble_eq_true rfl) rfl ?_
    refine Cl.mono (Cl.up (c_here (d := d) h.1) (by omega)) ?_
    rintro _ _ ⟨rfl, rfl⟩
    refine ⟨fun _ h9 => (by cases h9), ?_⟩
    replace h := h.2
    show Ev _ 174 _ 12 [rA 67, (0, c)] [(0, hrI tx (w 67 28))] _
    refine e_ldi (show am_cd 174 12 = (2, 13, 1, 0, []) by decide +kernel) rfl ?_
    refine e_cmp0 (show am_cd 174 13 = (11, 16, 18, 0, []) by decide +kernel) (fun hc => ?_) (fun hc => ?_)
    · replace h := h.1 hc
      refine e_lda (v := 67) (show am_cd 174 18 = (2, 19, 0, 2, []) by decide +kernel) rfl ?_
      refine e_dup (show am_cd 174 19 = (13, 20, 0, 0, []) by decide +kernel) (by decide) ?_
      refine e_getf (a := 67) (tg := 0) (show am_cd 174 20 = (18, 23, 1228, 0, [129]) by decide +kernel) (by decide +kernel) (by decide +kernel) rfl ?_
      refine e_ic (show am_cd 174 23 = (0, 24, 0, 1, []) by decide +kernel) ?_
      refine e_iadd (show am_cd 174 24 = (5, 25, 0, 0, []) by decide +kernel) ?_
      refine e_putf (a := 67) (show am_cd 174 25 = (19, 28, 1228, 0, [129]) by decide +kernel) (by decide +kernel) (by decide +kernel) rfl (fun h9 => absurd h9 (by decide)) (fun h9 => absurd h9 (by decide +kernel)) ?_
      refine e_ic (show am_cd 174 28 = (0, 29, 0, 1, []) by decide +kernel) ?_
      exact e_retz (show am_cd 174 29 = (36, 30, 0, 0, []) by decide +kernel) (by decide +kernel) (Or.inr rfl) h
    · replace h := h.2 hc
      refine e_ic (show am_cd 174 16 = (0, 17, 0, 0, []) by decide +kernel) ?_
      exact e_retz (show am_cd 174 17 = (36, 18, 0, 0, []) by decide +kernel) (by decide +kernel) (Or.inl rfl) h

theorem c_passes {d : Nat} {w : eW} {t : eT} {tx : List Int} {c : Int} (h : Px w tx ∧ (0 : Int) ≤ c ∧ (c : Int) ≤ 255) : Cl (d + 1) 174 [rA 67, (0, c)] (enc w t) (fun r S2 => ∃ w2, r = some (0, bI (psB tx (stW w) c)) ∧ S2 = enc w2 t ∧ Px w2 tx ∧ Fm [] [28, 29] w w2 ∧ stW w2 = psS tx (stW w) c) := by
  obtain ⟨hP, hc⟩ := h
  have hb := hP.b
  have hh := hP.hrb (w 67 28).toNat
  have h6 := hP.2.2.2.2.2
  refine g_passes (tx := tx) ?_
  unfold hrI
  simp (disch := omega) only [w32_id]
  unfold psB psS stW
  refine ⟨fun h1 => ?_, fun h1 => ⟨hP, fun h2 => ?_, fun h2 => ?_⟩⟩
  · rw [if_neg h1]
    exact ⟨w, by trivial, rfl, hP, Fm.rf _ _ _, if_neg h1⟩
  · have h1' : w 67 29 = -1 := by omega
    have h2' : hr tx (w 67 28).toNat = c := by omega
    have hlt : (w 67 28).toNat < tx.length := by
      by_cases h9 : (w 67 28).toNat < tx.length
      · exact h9
      · unfold hr at h2'
        rw [if_neg h9] at h2'
        omega
    have q : Fm [] [28, 29] w (wu w 67 28 (w 67 28 + 1)) := Fm.pf (by decide)
    rw [if_pos h1']
    dsimp only
    rw [decide_eq_true h2', if_pos h2']
    refine ⟨_, rfl, rfl, hP.fr q (by decide) (by decide) (by rw [wu_eq]; omega) (Or.inl ⟨by rw [wu_nk _ _ (by decide)]; exact h1', by rw [wu_eq]; omega⟩), q, ?_⟩
    rw [wu_nk _ _ (by decide), if_pos h1', wu_eq]
    congr 1
    omega
  · have h1' : w 67 29 = -1 := by omega
    rw [if_pos h1']
    dsimp only
    rw [decide_eq_false h2, if_neg h2]
    exact ⟨w, rfl, rfl, hP, Fm.rf _ _ _, if_pos h1'⟩

