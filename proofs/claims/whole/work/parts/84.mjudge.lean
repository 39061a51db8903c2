/-! The model: the call judges. -/
def JrM (w m : eW) (ps : List Nat) : Prop := MG w m ∧ ps.length ≤ 16 ∧ ∀ i, i < ps.length → (0 ≤ w 87 i ∧ w 87 i ≤ 27) ∧ (0 ≤ w 88 i ∧ w 88 i ≤ 27) ∧ poI m (w 87 i) (w 88 i) = ((ps.getD i 0 : Nat) : Int)
def ct (f : Nat → Bool) : Nat → Nat → Nat
  | 0, _ => 0
  | j + 1, p => (if f p = true then 1 else 0) + ct f j (p + 1)
theorem ct_le (f : Nat → Bool) : ∀ j p, ct f j p ≤ j := by
  intro j
  induction j with
  | zero => intro p; exact Nat.le_refl _
  | succ j ih =>
    intro p
    rw [ct]
    have := ih (p + 1)
    split <;> omega
def jR (tx : List Int) : Except Nat (List (Int × Int)) := if tx = [] then .ok [] else prsA tx
def jPs (m : eW) (l : List (Int × Int)) : List Nat := l.map (fun x => poN m x.1 x.2)
def jUn (m : eW) (l : List (Int × Int)) : Bool := an (fun k => decide (poN m (l.getD k (0, 0)).1 (l.getD k (0, 0)).2 = nP m)) l.length
def jIn (l : List (Int × Int)) : Bool := an (fun k => decide (k ≠ 0) && (decide ((l.getD k (0, 0)).1 = 27) && decide ((l.getD (k - 1) (0, 0)).1 = 27))) l.length
/-- a rule is broken at a place -/
def jb (m : eW) (ps : List Nat) (r p : Nat) : Bool := brk m r (rAt ps ((p : Int) - 2)) (rAt ps ((p : Int) - 1)) (rAt ps (p : Int)) (rAt ps ((p : Int) + 1))
def jMn (m : eW) (ps : List Nat) (r : Nat) : Nat := ct (jb m ps r) ps.length 0
def jrw (m : eW) (ps : List Nat) (r : Nat) : List Int := if jMn m ps r = 0 then [] else [(r : Int), (fsN (jb m ps r) ps.length 0 : Int), (jMn m ps r : Int)]
def jrs (m : eW) (ps : List Nat) : Nat → List Int
  | 0 => []
  | r + 1 => jrs m ps r ++ jrw m ps r
def jal (m : eW) (ps : List Nat) : Nat → Nat
  | 0 => 0
  | r + 1 => jal m ps r + jMn m ps r
theorem jrs_le (m : eW) (ps : List Nat) : ∀ r, (jrs m ps r).length ≤ 3 * r := by
  intro r
  induction r with
  | zero => exact Nat.le_refl _
  | succ r ih =>
    rw [jrs, List.length_append]
    have : (jrw m ps r).length ≤ 3 := by
      unfold jrw
      split
      · exact Nat.zero_le _
      · exact Nat.le_refl _
    omega
theorem jal_le (m : eW) (ps : List Nat) : ∀ r, jal m ps r ≤ r * ps.length := by
  intro r
  induction r with
  | zero => exact Nat.zero_le _
  | succ r ih =>
    rw [jal, Nat.succ_mul]
    have : jMn m ps r ≤ ps.length := ct_le _ _ _
    omega
def judgesV (tx : List Int) (m : eW) : Int := match jR tx with
  | .error q => -21 - (q : Int)
  | .ok l => if jUn m l = true then -2 else if jIn l = true then -3 else (jal m (jPs m l) (nR m) : Int)
def judgesR (tx : List Int) (m : eW) (rl : List Int) : List Int := match jR tx with
  | .error _ => rl
  | .ok l => if jUn m l = true then rl else if jIn l = true then rl else jrs m (jPs m l) (nR m)
theorem RowM.ap1 {w : eW} {rl : List Int} {v n : Int} (h : RowM w rl) (hn : n = (rl.length : Int) + 1) (hl : rl.length < 24) : RowM (wu (wu w 86 rl.length v) 67 25 n) (rl ++ [v]) := by
  obtain ⟨h1, h2, h3⟩ := h
  refine ⟨by rw [wu_eq, List.length_append, List.length_singleton]; omega, by rw [List.length_append, List.length_singleton]; omega, fun i hi => ?_⟩
  rw [List.length_append, List.length_singleton] at hi
  rw [wu_na _ _ (by decide)]
  by_cases h9 : i = rl.length
  · subst h9
    rw [wu_eq]
    simp [List.getD_eq_getElem?_getD]
  · rw [wu_nk _ _ h9]
    have := h3 i (by omega)
    simp only [List.getD_eq_getElem?_getD, List.getElem?_append_left (show i < rl.length by omega)]
    simp only [List.getD_eq_getElem?_getD] at this
    exact this

theorem g_mread {d : Nat} {Q : Option aV → aS → Prop} {w : eW} {t : eT} {p n : Int} {m : eW} (h : (((decide (w64 0 ≤ w64 (w32 p) ∧ w64 (w32 p) ≤ w64 (w32 (n - 1)))) = false → Q (some (0, 16)) (enc w t)) ∧ ((decide (w64 0 ≤ w64 (w32 p) ∧ w64 (w32 p) ≤ w64 (w32 (n - 1)))) = true → (0 ≤ w32 p ∧ w32 p < 16) ∧ (0 ≤ w32 p ∧ w32 p < 16) ∧ (MG w m ∧ (-1 ≤ w 87 (w32 p).toNat ∧ w 87 (w32 p).toNat ≤ 27) ∧ (-1 ≤ w 88 (w32 p).toNat ∧ w 88 (w32 p).toNat ≤ 27)) ∧ (Q (some (0, poI m (w 87 (w32 p).toNat) (w 88 (w32 p).toNat))) (enc w t))))) : Cl (d + 1) 203 [rA 67, (0, p), (0, n)] (enc w t) Q := by
  show Ev (d + 1) 203 Q 0 [rA 67, (0, p), (0, n)] [] (enc w t)
  refine e_ldi (show am_cd 203 0 = (2, 1, 1, 0, []) by decide +kernel) rfl ?_
  refine e_i2l (show am_cd 203 1 = (8, 2, 0, 0, []) by decide +kernel) ?_
  refine e_lc (show am_cd 203 2 = (1, 3, 0, 0, []) by decide +kernel) ?_
  refine e_ldi (show am_cd 203 3 = (2, 4, 2, 0, []) by decide +kernel) rfl ?_
  refine e_ic (show am_cd 203 4 = (0, 5, 0, 1, []) by decide +kernel) ?_
  refine e_isub (show am_cd 203 5 = (5, 6, 1, 0, []) by decide +kernel) ?_
  refine e_i2l (show am_cd 203 6 = (8, 7, 0, 0, []) by decide +kernel) ?_
  refine e_cS (z := 0) (as := [(1, w32 p), (1, 0), (1, w32 (n - 1))]) (rest := []) (show am_cd 203 7 = (40, 10, 165, 1, [122]) by decide +kernel) (by decide) rfl rfl (Nat.le_of_ble_eq_true rfl) rfl ?_
  refine Cl.mono (Cl.up (c_in (d := d)) (by omega)) ?_
  rintro _ _ ⟨rfl, rfl⟩
  refine ⟨fun _ h9 => (by cases h9), ?_⟩
  show Ev _ 203 _ 10 [rA 67, (0, p), (0, n)] [(0, bI (decide (w64 0 ≤ w64 (w32 p) ∧ w64 (w32 p) ≤ w64 (w32 (n - 1)))))] _
  refine e_ifb0 (show am_cd 203 10 = (10, 13, 32, 0, []) by decide +kernel) (fun hc => ?_) (fun hc => ?_)
  · replace h := h.1 hc
    refine e_ic (show am_cd 203 32 = (0, 34, 1, 16, []) by decide +kernel) ?_
    exact e_reti (show am_cd 203 34 = (36, 35, 0, 0, []) by decide +kernel) (by decide +kernel) h
  · replace h := h.2 hc
    refine e_lda (v := 67) (show am_cd 203 13 = (2, 14, 0, 2, []) by decide +kernel) rfl ?_
    refine e_lda (v := 67) (show am_cd 203 14 = (2, 15, 0, 2, []) by decide +kernel) rfl ?_
    refine e_getr (a := 67) (r := 87) (show am_cd 203 15 = (18, 18, 1230, 2, [69]) by decide +kernel) (by decide +kernel) (by decide +kernel) rfl ?_
    refine e_ldi (show am_cd 203 18 = (2, 19, 1, 0, []) by decide +kernel) rfl ?_
    refine e_iald (a := 87) (n := 16) (show am_cd 203 19 = (21, 20, 0, 0, []) by decide +kernel) (by decide +kernel) (by decide +kernel) (by decide +kernel) h.1 ?_
    replace h := h.2
    refine e_lda (v := 67) (show am_cd 203 20 = (2, 21, 0, 2, []) by decide +kernel) rfl ?_
    refine e_getr (a := 67) (r := 88) (show am_cd 203 21 = (18, 24, 1231, 2, [72]) by decide +kernel) (by decide +kernel) (by decide +kernel) rfl ?_
    refine e_ldi (show am_cd 203 24 = (2, 25, 1, 0, []) by decide +kernel) rfl ?_
    refine e_iald (a := 88) (n := 16) (show am_cd 203 25 = (21, 26, 0, 0, []) by decide +kernel) (by decide +kernel) (by decide +kernel) (by decide +kernel) h.1 ?_
    replace h := h.2
    refine e_cV (z := 0) (a := 67) (as := [(0, w 87 (w32 p).toNat), (0, w 88 (w32 p).toNat)]) (rest := []) (show am_cd 203 26 = (40, 29, 183, 0, [215]) by decide +kernel) (by decide +kernel) rfl rfl (Nat.le_of_ble_eq_true rfl) rfl ?_
    refine Cl.mono (Cl.up (c_pairOf (d := d) h.1) (by omega)) ?_
    rintro _ _ ⟨rfl, rfl⟩
    refine ⟨fun _ h9 => (by cases h9), ?_⟩
    replace h := h.2
    show Ev _ 203 _ 29 [rA 67, (0, p), (0, n)] [(0, poI m (w 87 (w32 p).toNat) (w 88 (w32 p).toNat))] _
    refine e_go (show am_cd 203 29 = (12, 34, 0, 0, []) by decide +kernel) ?_
    exact e_reti (show am_cd 203 34 = (36, 35, 0, 0, []) by decide +kernel) (by decide +kernel) h

theorem c_mread {d : Nat} {m w : eW} {t : eT} {ps : List Nat} {p n : Int} (h : JrM w m ps ∧ (-3 ≤ p ∧ p ≤ 20) ∧ n = (ps.length : Int)) : Cl (d + 1) 203 [rA 67, (0, p), (0, n)] (enc w t) (fun r S2 => r = some (0, ((rAt ps p : Nat) : Int)) ∧ S2 = enc w t) := by
  obtain ⟨⟨h1, h2, h3⟩, hp, rfl⟩ := h
  refine g_mread (m := m) ?_
  simp (disch := omega) only [w32_id, w64_id]
  refine ⟨fun h9 => ?_, fun h9 => ?_⟩
  · have h9 := of_decide_eq_false h9
    unfold rAt
    rw [if_neg (by omega)]
    exact ⟨by trivial, by trivial⟩
  · have h9 := of_decide_eq_true h9
    have q := h3 p.toNat (by omega)
    refine ⟨by omega, by omega, ⟨h1, by omega, by omega⟩, ?_⟩
    rw [q.2.2]
    unfold rAt
    rw [if_pos (by omega)]
    exact ⟨rfl, by trivial⟩

theorem g_mjud0 {d : Nat} {Q : Option aV → aS → Prop} {w : eW} {t : eT} {tx : List Int} (h : ((¬ w32 (w 67 23) = 0 → (Px (wu (wu (wu (wu (wu w 67 26 0) 67 27 (w 67 23)) 67 23 0) 67 28 0) 67 29 (-1)) tx ∧ stW (wu (wu (wu (wu (wu w 67 26 0) 67 27 (w 67 23)) 67 23 0) 67 28 0) 67 29 (-1)) = .ok 0) ∧ (∀ x1 w2, (RdQ tx (wu (wu (wu (wu (wu w 67 26 0) 67 27 (w 67 23)) 67 23 0) 67 28 0) 67 29 (-1)) (prsA tx) x1 w2) → Ev (d + 5) 202 Q 25 [rA 67, (0, x1), (9, 0), (9, 0), (9, 0), (9, 0), (9, 0)] [] (enc w2 t))) ∧ (¬ (¬ w32 (w 67 23) = 0) → Ev (d + 5) 202 Q 25 [rA 67, (0, 0), (9, 0), (9, 0), (9, 0), (9, 0), (9, 0)] [] (enc (wu (wu (wu (wu (wu w 67 26 0) 67 27 (w 67 23)) 67 23 0) 67 28 0) 67 29 (-1)) t)))) : Cl (d + 5) 202 [rA 67] (enc w t) Q := by
  show Ev (d + 5) 202 Q 0 [rA 67, (9, 0), (9, 0), (9, 0), (9, 0), (9, 0), (9, 0)] [] (enc w t)
  refine e_lda (v := 67) (show am_cd 202 0 = (2, 1, 0, 2, []) by decide +kernel) rfl ?_
  refine e_ic (show am_cd 202 1 = (0, 2, 0, 0, []) by decide +kernel) ?_
  refine e_putf (a := 67) (show am_cd 202 2 = (19, 5, 1226, 0, [113]) by decide +kernel) (by decide +kernel) (by decide +kernel) rfl (fun h9 => absurd h9 (by decide)) (fun h9 => absurd h9 (by decide +kernel)) ?_
  refine e_lda (v := 67) (show am_cd 202 5 = (2, 6, 0, 2, []) by decide +kernel) rfl ?_
  refine e_cV (z := 0) (a := 67) (as := []) (rest := []) (show am_cd 202 6 = (40, 9, 170, 0, [171]) by decide +kernel) (by decide +kernel) rfl rfl (Nat.le_of_ble_eq_true rfl) rfl ?_
  show Ev _ 170 _ 0 [rA 67] [] _
  refine e_lda (v := 67) (show am_cd 170 0 = (2, 1, 0, 2, []) by decide +kernel) rfl ?_
  refine e_lda (v := 67) (show am_cd 170 1 = (2, 2, 0, 2, []) by decide +kernel) rfl ?_
  refine e_getfE (a := 67) (tg := 0) (v := w 67 23) (show am_cd 170 2 = (18, 5, 1223, 0, [119]) by decide +kernel) (by decide +kernel) (by decide +kernel) rfl rfl ?_
  refine e_putf (a := 67) (show am_cd 170 5 = (19, 8, 1227, 0, [126]) by decide +kernel) (by decide +kernel) (by decide +kernel) rfl (fun h9 => absurd h9 (by decide)) (fun h9 => absurd h9 (by decide +kernel)) ?_
  refine e_lda (v := 67) (show am_cd 170 8 = (2, 9, 0, 2, []) by decide +kernel) rfl ?_
  refine e_ic (show am_cd 170 9 = (0, 10, 0, 0, []) by decide +kernel) ?_
  refine e_putf (a := 67) (show am_cd 170 10 = (19, 13, 1223, 0, [119]) by decide +kernel) (by decide +kernel) (by decide +kernel) rfl (fun h9 => absurd h9 (by decide)) (fun h9 => absurd h9 (by decide +kernel)) ?_
  refine e_lda (v := 67) (show am_cd 170 13 = (2, 14, 0, 2, []) by decide +kernel) rfl ?_
  refine e_ic (show am_cd 170 14 = (0, 15, 0, 0, []) by decide +kernel) ?_
  refine e_putf (a := 67) (show am_cd 170 15 = (19, 18, 1228, 0, [129]) by decide +kernel) (by decide +kernel) (by decide +kernel) rfl (fun h9 => absurd h9 (by decide)) (fun h9 => absurd h9 (by decide +kernel)) ?_
  refine e_lda (v := 67) (show am_cd 170 18 = (2, 19, 0, 2, []) by decide +kernel) rfl ?_
  refine e_ic (show am_cd 170 19 = (0, 20, 0, -1, []) by decide +kernel) ?_
  refine e_putf (a := 67) (show am_cd 170 20 = (19, 23, 1229, 0, [132]) by decide +kernel) (by decide +kernel) (by decide +kernel) rfl (fun h9 => absurd h9 (by decide)) (fun h9 => absurd h9 (by decide +kernel)) ?_
  refine e_retv (show am_cd 170 23 = (36, 24, 3, 0, []) by decide +kernel) (by decide +kernel) ⟨fun _ h9 => (by cases h9), ?_⟩
  show Ev _ 202 _ 9 [rA 67, (9, 0), (9, 0), (9, 0), (9, 0), (9, 0), (9, 0)] [] _
  refine e_lda (v := 67) (show am_cd 202 9 = (2, 10, 0, 2, []) by decide +kernel) rfl ?_
  refine e_getfE (a := 67) (tg := 0) (v := w 67 23) (show am_cd 202 10 = (18, 13, 1227, 0, [126]) by decide +kernel) (by decide +kernel) (by decide +kernel) rfl rfl ?_
  refine e_if1 (show am_cd 202 13 = (10, 16, 20, 1, []) by decide +kernel) (fun hc => ?_) (fun hc => ?_)
  · replace h := h.1 hc
    refine e_lda (v := 67) (show am_cd 202 20 = (2, 21, 0, 2, []) by decide +kernel) rfl ?_
    refine e_cV (z := 0) (a := 67) (as := []) (rest := []) (show am_cd 202 21 = (40, 24, 182, 0, [174]) by decide +kernel) (by decide +kernel) rfl rfl (Nat.le_of_ble_eq_true rfl) rfl ?_
    refine Cl.mono (Cl.up (c_readPairs (d := d) h.1) (by omega)) ?_
    rintro _ _ ⟨x1, w2, rfl, rfl, hp⟩
    refine ⟨fun _ h9 => (by cases h9), ?_⟩
    replace h := h.2 x1 w2 hp
    show Ev _ 202 _ 24 [rA 67, (9, 0), (9, 0), (9, 0), (9, 0), (9, 0), (9, 0)] [(0, x1)] _
    refine e_sti (la2 := [rA 67, (0, x1), (9, 0), (9, 0), (9, 0), (9, 0), (9, 0)]) (show am_cd 202 24 = (3, 25, 1, 0, []) by decide +kernel) rfl ?_
    exact h
  · replace h := h.2 hc
    refine e_ic (show am_cd 202 16 = (0, 17, 0, 0, []) by decide +kernel) ?_
    refine e_go (show am_cd 202 17 = (12, 24, 0, 0, []) by decide +kernel) ?_
    refine e_sti (la2 := [rA 67, (0, 0), (9, 0), (9, 0), (9, 0), (9, 0), (9, 0)]) (show am_cd 202 24 = (3, 25, 1, 0, []) by decide +kernel) rfl ?_
    exact h

theorem g_mjud1 {d : Nat} {Q : Option aV → aS → Prop} {w : eW} {t : eT} {n : Int} {J2 J3 J4 J5 J6 : aV} (h : ((w32 (w 67 29) = w32 (-1) → Ev (d + 5) 202 Q 40 [rA 67, (0, n), (0, 0), J3, J4, J5, J6] [] (enc w t)) ∧ (¬ (w32 (w 67 29) = w32 (-1)) → Q (some (0, (-21) - (w 67 29))) (enc w t)))) : Ev (d + 5) 202 Q 25 [rA 67, (0, n), J2, J3, J4, J5, J6] [] (enc w t) := by
  refine e_lda (v := 67) (show am_cd 202 25 = (2, 26, 0, 2, []) by decide +kernel) rfl ?_
  refine e_getf (a := 67) (tg := 0) (show am_cd 202 26 = (18, 29, 1229, 0, [132]) by decide +kernel) (by decide +kernel) (by decide +kernel) rfl ?_
  refine e_ic (show am_cd 202 29 = (0, 30, 0, -1, []) by decide +kernel) ?_
  refine e_cmp0 (show am_cd 202 30 = (11, 33, 38, 0, []) by decide +kernel) (fun hc => ?_) (fun hc => ?_)
  · replace h := h.1 hc
    refine e_ic (show am_cd 202 38 = (0, 39, 0, 0, []) by decide +kernel) ?_
    refine e_sti (la2 := [rA 67, (0, n), (0, 0), J3, J4, J5, J6]) (show am_cd 202 39 = (3, 40, 2, 0, []) by decide +kernel) rfl ?_
    exact h
  · replace h := h.2 hc
    refine e_lda (v := 67) (show am_cd 202 33 = (2, 34, 0, 2, []) by decide +kernel) rfl ?_
    refine e_cV (z := 0) (a := 67) (as := []) (rest := []) (show am_cd 202 34 = (40, 37, 173, 0, [177]) by decide +kernel) (by decide +kernel) rfl rfl (Nat.le_of_ble_eq_true rfl) rfl ?_
    show Ev _ 173 _ 0 [rA 67] [] _
    refine e_ic (show am_cd 173 0 = (0, 2, 1, -21, []) by decide +kernel) ?_
    refine e_lda (v := 67) (show am_cd 173 2 = (2, 3, 0, 2, []) by decide +kernel) rfl ?_
    refine e_getf (a := 67) (tg := 0) (show am_cd 173 3 = (18, 6, 1229, 0, [132]) by decide +kernel) (by decide +kernel) (by decide +kernel) rfl ?_
    refine e_isub (show am_cd 173 6 = (5, 7, 1, 0, []) by decide +kernel) ?_
    refine e_reti (show am_cd 173 7 = (36, 8, 0, 0, []) by decide +kernel) (by decide +kernel) ⟨fun _ h9 => (by cases h9), ?_⟩
    show Ev _ 202 _ 37 [rA 67, (0, n), J2, J3, J4, J5, J6] [(0, (-21) - (w 67 29))] _
    exact e_reti (show am_cd 202 37 = (36, 38, 0, 0, []) by decide +kernel) (by decide +kernel) h

theorem g_mjud2 {d : Nat} {Q : Option aV → aS → Prop} {w : eW} {t : eT} {n k : Int} {J3 J4 J5 J6 : aV} {m : eW} (h : ((w32 n ≤ w32 k → Ev (d + 5) 202 Q 76 [rA 67, (0, n), (0, 1), J3, J4, J5, J6] [] (enc w t)) ∧ (¬ (w32 n ≤ w32 k) → (0 ≤ w32 k ∧ w32 k < 16) ∧ (0 ≤ w32 k ∧ w32 k < 16) ∧ (MG w m ∧ (-1 ≤ w 87 (w32 k).toNat ∧ w 87 (w32 k).toNat ≤ 27) ∧ (-1 ≤ w 88 (w32 k).toNat ∧ w 88 (w32 k).toNat ≤ 27)) ∧ ((¬ w32 (poI m (w 87 (w32 k).toNat) (w 88 (w32 k).toNat)) = w32 (-1) → Ev (d + 5) 202 Q 40 [rA 67, (0, n), (0, k + 1), J3, J4, J5, J6] [] (enc w t)) ∧ (¬ (¬ w32 (poI m (w 87 (w32 k).toNat) (w 88 (w32 k).toNat)) = w32 (-1)) → Q (some (0, (-2))) (enc w t)))))) : Ev (d + 5) 202 Q 40 [rA 67, (0, n), (0, k), J3, J4, J5, J6] [] (enc w t) := by
  refine e_ldi (show am_cd 202 40 = (2, 41, 2, 0, []) by decide +kernel) rfl ?_
  refine e_ldi (show am_cd 202 41 = (2, 42, 1, 0, []) by decide +kernel) rfl ?_
  refine e_cmp3 (show am_cd 202 42 = (11, 45, 74, 3, []) by decide +kernel) (fun hc => ?_) (fun hc => ?_)
  · replace h := h.1 hc
    refine e_ic (show am_cd 202 74 = (0, 75, 0, 1, []) by decide +kernel) ?_
    refine e_sti (la2 := [rA 67, (0, n), (0, 1), J3, J4, J5, J6]) (show am_cd 202 75 = (3, 76, 2, 0, []) by decide +kernel) rfl ?_
    exact h
  · replace h := h.2 hc
    refine e_lda (v := 67) (show am_cd 202 45 = (2, 46, 0, 2, []) by decide +kernel) rfl ?_
    refine e_lda (v := 67) (show am_cd 202 46 = (2, 47, 0, 2, []) by decide +kernel) rfl ?_
    refine e_getr (a := 67) (r := 87) (show am_cd 202 47 = (18, 50, 1230, 2, [69]) by decide +kernel) (by decide +kernel) (by decide +kernel) rfl ?_
    refine e_ldi (show am_cd 202 50 = (2, 51, 2, 0, []) by decide +kernel) rfl ?_
    refine e_iald (a := 87) (n := 16) (show am_cd 202 51 = (21, 52, 0, 0, []) by decide +kernel) (by decide +kernel) (by decide +kernel) (by decide +kernel) h.1 ?_
    replace h := h.2
    refine e_lda (v := 67) (show am_cd 202 52 = (2, 53, 0, 2, []) by decide +kernel) rfl ?_
    refine e_getr (a := 67) (r := 88) (show am_cd 202 53 = (18, 56, 1231, 2, [72]) by decide +kernel) (by decide +kernel) (by decide +kernel) rfl ?_
    refine e_ldi (show am_cd 202 56 = (2, 57, 2, 0, []) by decide +kernel) rfl ?_
    refine e_iald (a := 88) (n := 16) (show am_cd 202 57 = (21, 58, 0, 0, []) by decide +kernel) (by decide +kernel) (by decide +kernel) (by decide +kernel) h.1 ?_
    replace h := h.2
    refine e_cV (z := 0) (a := 67) (as := [(0, w 87 (w32 k).toNat), (0, w 88 (w32 k).toNat)]) (rest := []) (show am_cd 202 58 = (40, 61, 183, 0, [215]) by decide +kernel) (by decide +kernel) rfl rfl (Nat.le_of_ble_eq_true rfl) rfl ?_
    refine Cl.mono (Cl.up (c_pairOf (d := d) h.1) (by omega)) ?_
    rintro _ _ ⟨rfl, rfl⟩
    refine ⟨fun _ h9 => (by cases h9), ?_⟩
    replace h := h.2
    show Ev _ 202 _ 61 [rA 67, (0, n), (0, k), J3, J4, J5, J6] [(0, poI m (w 87 (w32 k).toNat) (w 88 (w32 k).toNat))] _
    refine e_ic (show am_cd 202 61 = (0, 62, 0, -1, []) by decide +kernel) ?_
    refine e_cmp1 (show am_cd 202 62 = (11, 65, 68, 1, []) by decide +kernel) (fun hc => ?_) (fun hc => ?_)
    · replace h := h.1 hc
      refine e_inc (la2 := [rA 67, (0, n), (0, k + 1), J3, J4, J5, J6]) (show am_cd 202 68 = (4, 71, 2, 1, []) by decide +kernel) rfl rfl ?_
      refine e_go (show am_cd 202 71 = (12, 40, 0, 0, []) by decide +kernel) ?_
      exact h
    · replace h := h.2 hc
      refine e_ic (show am_cd 202 65 = (0, 67, 1, -2, []) by decide +kernel) ?_
      exact e_reti (show am_cd 202 67 = (36, 68, 0, 0, []) by decide +kernel) (by decide +kernel) h

theorem g_mjud3 {d : Nat} {Q : Option aV → aS → Prop} {w : eW} {t : eT} {n k : Int} {J3 J4 J5 J6 : aV} (h : ((w32 n ≤ w32 k → Ev (d + 5) 202 Q 123 [rA 67, (0, n), (0, 0), (0, 0), J4, J5, J6] [] (enc (wu w 67 25 0) t)) ∧ (¬ (w32 n ≤ w32 k) → (0 ≤ w32 k ∧ w32 k < 16) ∧ ((¬ w32 (w 87 (w32 k).toNat) = w32 27 → Ev (d + 5) 202 Q 76 [rA 67, (0, n), (0, k + 1), J3, J4, J5, J6] [] (enc w t)) ∧ (¬ (¬ w32 (w 87 (w32 k).toNat) = w32 27) → (0 ≤ w32 (k - 1) ∧ w32 (k - 1) < 16) ∧ ((¬ w32 (w 87 (w32 (k - 1)).toNat) = w32 27 → Ev (d + 5) 202 Q 76 [rA 67, (0, n), (0, k + 1), J3, J4, J5, J6] [] (enc w t)) ∧ (¬ (¬ w32 (w 87 (w32 (k - 1)).toNat) = w32 27) → Q (some (0, (-3))) (enc w t)))))))) : Ev (d + 5) 202 Q 76 [rA 67, (0, n), (0, k), J3, J4, J5, J6] [] (enc w t) := by
  refine e_ldi (show am_cd 202 76 = (2, 77, 2, 0, []) by decide +kernel) rfl ?_
  refine e_ldi (show am_cd 202 77 = (2, 78, 1, 0, []) by decide +kernel) rfl ?_
  refine e_cmp3 (show am_cd 202 78 = (11, 81, 114, 3, []) by decide +kernel) (fun hc => ?_) (fun hc => ?_)
  · replace h := h.1 hc
    refine e_ic (show am_cd 202 114 = (0, 115, 0, 0, []) by decide +kernel) ?_
    refine e_sti (la2 := [rA 67, (0, n), (0, 0), J3, J4, J5, J6]) (show am_cd 202 115 = (3, 116, 2, 0, []) by decide +kernel) rfl ?_
    refine e_lda (v := 67) (show am_cd 202 116 = (2, 117, 0, 2, []) by decide +kernel) rfl ?_
    refine e_ic (show am_cd 202 117 = (0, 118, 0, 0, []) by decide +kernel) ?_
    refine e_putf (a := 67) (show am_cd 202 118 = (19, 121, 1225, 0, [116]) by decide +kernel) (by decide +kernel) (by decide +kernel) rfl (fun h9 => absurd h9 (by decide)) (fun h9 => absurd h9 (by decide +kernel)) ?_
    refine e_ic (show am_cd 202 121 = (0, 122, 0, 0, []) by decide +kernel) ?_
    refine e_sti (la2 := [rA 67, (0, n), (0, 0), (0, 0), J4, J5, J6]) (show am_cd 202 122 = (3, 123, 3, 0, []) by decide +kernel) rfl ?_
    exact h
  · replace h := h.2 hc
    refine e_lda (v := 67) (show am_cd 202 81 = (2, 82, 0, 2, []) by decide +kernel) rfl ?_
    refine e_getr (a := 67) (r := 87) (show am_cd 202 82 = (18, 85, 1230, 2, [69]) by decide +kernel) (by decide +kernel) (by decide +kernel) rfl ?_
    refine e_ldi (show am_cd 202 85 = (2, 86, 2, 0, []) by decide +kernel) rfl ?_
    refine e_iald (a := 87) (n := 16) (show am_cd 202 86 = (21, 87, 0, 0, []) by decide +kernel) (by decide +kernel) (by decide +kernel) (by decide +kernel) h.1 ?_
    replace h := h.2
    refine e_ic (show am_cd 202 87 = (0, 89, 1, 27, []) by decide +kernel) ?_
    refine e_cmp1 (show am_cd 202 89 = (11, 92, 108, 1, []) by decide +kernel) (fun hc => ?_) (fun hc => ?_)
    · replace h := h.1 hc
      refine e_inc (la2 := [rA 67, (0, n), (0, k + 1), J3, J4, J5, J6]) (show am_cd 202 108 = (4, 111, 2, 1, []) by decide +kernel) rfl rfl ?_
      refine e_go (show am_cd 202 111 = (12, 76, 0, 0, []) by decide +kernel) ?_
      exact h
    · replace h := h.2 hc
      refine e_lda (v := 67) (show am_cd 202 92 = (2, 93, 0, 2, []) by decide +kernel) rfl ?_
      refine e_getr (a := 67) (r := 87) (show am_cd 202 93 = (18, 96, 1230, 2, [69]) by decide +kernel) (by decide +kernel) (by decide +kernel) rfl ?_
      refine e_ldi (show am_cd 202 96 = (2, 97, 2, 0, []) by decide +kernel) rfl ?_
      refine e_ic (show am_cd 202 97 = (0, 98, 0, 1, []) by decide +kernel) ?_
      refine e_isub (show am_cd 202 98 = (5, 99, 1, 0, []) by decide +kernel) ?_
      refine e_iald (a := 87) (n := 16) (show am_cd 202 99 = (21, 100, 0, 0, []) by decide +kernel) (by decide +kernel) (by decide +kernel) (by decide +kernel) h.1 ?_
      replace h := h.2
      refine e_ic (show am_cd 202 100 = (0, 102, 1, 27, []) by decide +kernel) ?_
      refine e_cmp1 (show am_cd 202 102 = (11, 105, 108, 1, []) by decide +kernel) (fun hc => ?_) (fun hc => ?_)
      · replace h := h.1 hc
        refine e_inc (la2 := [rA 67, (0, n), (0, k + 1), J3, J4, J5, J6]) (show am_cd 202 108 = (4, 111, 2, 1, []) by decide +kernel) rfl rfl ?_
        refine e_go (show am_cd 202 111 = (12, 76, 0, 0, []) by decide +kernel) ?_
        exact h
      · replace h := h.2 hc
        refine e_ic (show am_cd 202 105 = (0, 107, 1, -3, []) by decide +kernel) ?_
        exact e_reti (show am_cd 202 107 = (36, 108, 0, 0, []) by decide +kernel) (by decide +kernel) h

theorem g_mjud4 {d : Nat} {Q : Option aV → aS → Prop} {w : eW} {t : eT} {n al rr : Int} {J4 J5 J6 : aV} (h : ((w32 (w 67 6) ≤ w32 rr → Q (some (0, al)) (enc w t)) ∧ (¬ (w32 (w 67 6) ≤ w32 rr) → Ev (d + 5) 202 Q 142 [rA 67, (0, n), (0, al), (0, rr), (0, 0), (0, 0), (0, n - 1)] [] (enc w t)))) : Ev (d + 5) 202 Q 123 [rA 67, (0, n), (0, al), (0, rr), J4, J5, J6] [] (enc w t) := by
  refine e_ldi (show am_cd 202 123 = (2, 124, 3, 0, []) by decide +kernel) rfl ?_
  refine e_lda (v := 67) (show am_cd 202 124 = (2, 125, 0, 2, []) by decide +kernel) rfl ?_
  refine e_getf (a := 67) (tg := 0) (show am_cd 202 125 = (18, 128, 1206, 0, [183]) by decide +kernel) (by decide +kernel) (by decide +kernel) rfl ?_
  refine e_cmp3 (show am_cd 202 128 = (11, 131, 244, 3, []) by decide +kernel) (fun hc => ?_) (fun hc => ?_)
  · replace h := h.1 hc
    refine e_ldi (show am_cd 202 244 = (2, 245, 2, 0, []) by decide +kernel) rfl ?_
    exact e_reti (show am_cd 202 245 = (36, 246, 0, 0, []) by decide +kernel) (by decide +kernel) h
  · replace h := h.2 hc
    refine e_ic (show am_cd 202 131 = (0, 132, 0, 0, []) by decide +kernel) ?_
    refine e_sti (la2 := [rA 67, (0, n), (0, al), (0, rr), (0, 0), J5, J6]) (show am_cd 202 132 = (3, 134, 4, 0, []) by decide +kernel) rfl ?_
    refine e_ic (show am_cd 202 134 = (0, 135, 0, 0, []) by decide +kernel) ?_
    refine e_sti (la2 := [rA 67, (0, n), (0, al), (0, rr), (0, 0), (0, 0), J6]) (show am_cd 202 135 = (3, 137, 5, 0, []) by decide +kernel) rfl ?_
    refine e_ldi (show am_cd 202 137 = (2, 138, 1, 0, []) by decide +kernel) rfl ?_
    refine e_ic (show am_cd 202 138 = (0, 139, 0, 1, []) by decide +kernel) ?_
    refine e_isub (show am_cd 202 139 = (5, 140, 1, 0, []) by decide +kernel) ?_
    refine e_sti (la2 := [rA 67, (0, n), (0, al), (0, rr), (0, 0), (0, 0), (0, n - 1)]) (show am_cd 202 140 = (3, 142, 6, 0, []) by decide +kernel) rfl ?_
    exact h

theorem g_mjud5 {d : Nat} {Q : Option aV → aS → Prop} {w : eW} {t : eT} {n al rr mn fs p : Int} {m : eW} {ps : List Nat} (h : ((w32 p < 0 → Ev (d + 5) 202 Q 205 [rA 67, (0, n), (0, al), (0, rr), (0, mn), (0, fs), (0, p)] [] (enc w t)) ∧ (¬ (w32 p < 0) → (JrM w m ps ∧ (-3 ≤ p - 2 ∧ p - 2 ≤ 20) ∧ n = (ps.length : Int)) ∧ (JrM w m ps ∧ (-3 ≤ p - 1 ∧ p - 1 ≤ 20) ∧ n = (ps.length : Int)) ∧ (JrM w m ps ∧ (-3 ≤ p ∧ p ≤ 20) ∧ n = (ps.length : Int)) ∧ (JrM w m ps ∧ (-3 ≤ p + 1 ∧ p + 1 ≤ 20) ∧ n = (ps.length : Int)) ∧ (MG w m ∧ gR m rr ∧ gE ((rAt ps (p - 2) : Nat) : Int) ∧ gE ((rAt ps (p - 1) : Nat) : Int) ∧ gP m ((rAt ps p : Nat) : Int) ∧ gE ((rAt ps (p + 1) : Nat) : Int)) ∧ (((brk m rr.toNat ((rAt ps (p - 2) : Nat) : Int).toNat ((rAt ps (p - 1) : Nat) : Int).toNat ((rAt ps p : Nat) : Int).toNat ((rAt ps (p + 1) : Nat) : Int).toNat) = true → Ev (d + 5) 202 Q 142 [rA 67, (0, n), (0, al), (0, rr), (0, mn + 1), (0, p), (0, p + (-1))] [] (enc w t)) ∧ ((brk m rr.toNat ((rAt ps (p - 2) : Nat) : Int).toNat ((rAt ps (p - 1) : Nat) : Int).toNat ((rAt ps p : Nat) : Int).toNat ((rAt ps (p + 1) : Nat) : Int).toNat) = false → Ev (d + 5) 202 Q 142 [rA 67, (0, n), (0, al), (0, rr), (0, mn), (0, fs), (0, p + (-1))] [] (enc w t)))))) : Ev (d + 5) 202 Q 142 [rA 67, (0, n), (0, al), (0, rr), (0, mn), (0, fs), (0, p)] [] (enc w t) := by
  refine e_ldi (show am_cd 202 142 = (2, 144, 6, 0, []) by decide +kernel) rfl ?_
  refine e_if2 (show am_cd 202 144 = (10, 147, 205, 2, []) by decide +kernel) (fun hc => ?_) (fun hc => ?_)
  · replace h := h.1 hc
    exact h
  · replace h := h.2 hc
    refine e_lda (v := 67) (show am_cd 202 147 = (2, 148, 0, 2, []) by decide +kernel) rfl ?_
    refine e_ldi (show am_cd 202 148 = (2, 149, 3, 0, []) by decide +kernel) rfl ?_
    refine e_lda (v := 67) (show am_cd 202 149 = (2, 150, 0, 2, []) by decide +kernel) rfl ?_
    refine e_ldi (show am_cd 202 150 = (2, 152, 6, 0, []) by decide +kernel) rfl ?_
    refine e_ic (show am_cd 202 152 = (0, 153, 0, 2, []) by decide +kernel) ?_
    refine e_isub (show am_cd 202 153 = (5, 154, 1, 0, []) by decide +kernel) ?_
    refine e_ldi (show am_cd 202 154 = (2, 155, 1, 0, []) by decide +kernel) rfl ?_
    refine e_cV (z := 0) (a := 67) (as := [(0, p - 2), (0, n)]) (rest := [(0, rr), rA 67]) (show am_cd 202 155 = (40, 158, 203, 0, [249]) by decide +kernel) (by decide +kernel) rfl rfl (Nat.le_of_ble_eq_true rfl) rfl ?_
    refine Cl.mono (Cl.up (c_mread (m := m) (ps := ps) (d := d) h.1) (by omega)) ?_
    rintro _ _ ⟨rfl, rfl⟩
    refine ⟨fun _ h9 => (by cases h9), ?_⟩
    replace h := h.2
    show Ev _ 202 _ 158 [rA 67, (0, n), (0, al), (0, rr), (0, mn), (0, fs), (0, p)] [(0, ((rAt ps (p - 2) : Nat) : Int)), (0, rr), rA 67] _
    refine e_lda (v := 67) (show am_cd 202 158 = (2, 159, 0, 2, []) by decide +kernel) rfl ?_
    refine e_ldi (show am_cd 202 159 = (2, 161, 6, 0, []) by decide +kernel) rfl ?_
    refine e_ic (show am_cd 202 161 = (0, 162, 0, 1, []) by decide +kernel) ?_
    refine e_isub (show am_cd 202 162 = (5, 163, 1, 0, []) by decide +kernel) ?_
    refine e_ldi (show am_cd 202 163 = (2, 164, 1, 0, []) by decide +kernel) rfl ?_
    refine e_cV (z := 0) (a := 67) (as := [(0, p - 1), (0, n)]) (rest := [(0, ((rAt ps (p - 2) : Nat) : Int)), (0, rr), rA 67]) (show am_cd 202 164 = (40, 167, 203, 0, [249]) by decide +kernel) (by decide +kernel) rfl rfl (Nat.le_of_ble_eq_true rfl) rfl ?_
    refine Cl.mono (Cl.up (c_mread (m := m) (ps := ps) (d := d) h.1) (by omega)) ?_
    rintro _ _ ⟨rfl, rfl⟩
    refine ⟨fun _ h9 => (by cases h9), ?_⟩
    replace h := h.2
    show Ev _ 202 _ 167 [rA 67, (0, n), (0, al), (0, rr), (0, mn), (0, fs), (0, p)] [(0, ((rAt ps (p - 1) : Nat) : Int)), (0, ((rAt ps (p - 2) : Nat) : Int)), (0, rr), rA 67] _
    refine e_lda (v := 67) (show am_cd 202 167 = (2, 168, 0, 2, []) by decide +kernel) rfl ?_
    refine e_ldi (show am_cd 202 168 = (2, 170, 6, 0, []) by decide +kernel) rfl ?_
    refine e_ldi (show am_cd 202 170 = (2, 171, 1, 0, []) by decide +kernel) rfl ?_
    refine e_cV (z := 0) (a := 67) (as := [(0, p), (0, n)]) (rest := [(0, ((rAt ps (p - 1) : Nat) : Int)), (0, ((rAt ps (p - 2) : Nat) : Int)), (0, rr), rA 67]) (show am_cd 202 171 = (40, 174, 203, 0, [249]) by decide +kernel) (by decide +kernel) rfl rfl (Nat.le_of_ble_eq_true rfl) rfl ?_
    refine Cl.mono (Cl.up (c_mread (m := m) (ps := ps) (d := d) h.1) (by omega)) ?_
    rintro _ _ ⟨rfl, rfl⟩
    refine ⟨fun _ h9 => (by cases h9), ?_⟩
    replace h := h.2
    show Ev _ 202 _ 174 [rA 67, (0, n), (0, al), (0, rr), (0, mn), (0, fs), (0, p)] [(0, ((rAt ps p : Nat) : Int)), (0, ((rAt ps (p - 1) : Nat) : Int)), (0, ((rAt ps (p - 2) : Nat) : Int)), (0, rr), rA 67] _
    refine e_lda (v := 67) (show am_cd 202 174 = (2, 175, 0, 2, []) by decide +kernel) rfl ?_
    refine e_ldi (show am_cd 202 175 = (2, 177, 6, 0, []) by decide +kernel) rfl ?_
    refine e_ic (show am_cd 202 177 = (0, 178, 0, 1, []) by decide +kernel) ?_
    refine e_iadd (show am_cd 202 178 = (5, 179, 0, 0, []) by decide +kernel) ?_
    refine e_ldi (show am_cd 202 179 = (2, 180, 1, 0, []) by decide +kernel) rfl ?_
    refine e_cV (z := 0) (a := 67) (as := [(0, p + 1), (0, n)]) (rest := [(0, ((rAt ps p : Nat) : Int)), (0, ((rAt ps (p - 1) : Nat) : Int)), (0, ((rAt ps (p - 2) : Nat) : Int)), (0, rr), rA 67]) (show am_cd 202 180 = (40, 183, 203, 0, [249]) by decide +kernel) (by decide +kernel) rfl rfl (Nat.le_of_ble_eq_true rfl) rfl ?_
    refine Cl.mono (Cl.up (c_mread (m := m) (ps := ps) (d := d) h.1) (by omega)) ?_
    rintro _ _ ⟨rfl, rfl⟩
    refine ⟨fun _ h9 => (by cases h9), ?_⟩
    replace h := h.2
    show Ev _ 202 _ 183 [rA 67, (0, n), (0, al), (0, rr), (0, mn), (0, fs), (0, p)] [(0, ((rAt ps (p + 1) : Nat) : Int)), (0, ((rAt ps p : Nat) : Int)), (0, ((rAt ps (p - 1) : Nat) : Int)), (0, ((rAt ps (p - 2) : Nat) : Int)), (0, rr), rA 67] _
    refine e_cV (z := 0) (a := 67) (as := [(0, rr), (0, ((rAt ps (p - 2) : Nat) : Int)), (0, ((rAt ps (p - 1) : Nat) : Int)), (0, ((rAt ps p : Nat) : Int)), (0, ((rAt ps (p + 1) : Nat) : Int))]) (rest := []) (show am_cd 202 183 = (40, 186, 198, 0, [242]) by decide +kernel) (by decide +kernel) rfl rfl (Nat.le_of_ble_eq_true rfl) rfl ?_
    refine Cl.mono (Cl.up (c_breaks (d := d) h.1) (by omega)) ?_
    rintro _ _ ⟨rfl, rfl⟩
    refine ⟨fun _ h9 => (by cases h9), ?_⟩
    replace h := h.2
    show Ev _ 202 _ 186 [rA 67, (0, n), (0, al), (0, rr), (0, mn), (0, fs), (0, p)] [(0, bI (brk m rr.toNat ((rAt ps (p - 2) : Nat) : Int).toNat ((rAt ps (p - 1) : Nat) : Int).toNat ((rAt ps p : Nat) : Int).toNat ((rAt ps (p + 1) : Nat) : Int).toNat))] _
    refine e_ifb1 (show am_cd 202 186 = (10, 189, 192, 1, []) by decide +kernel) (fun hc => ?_) (fun hc => ?_)
    · replace h := h.1 hc
      refine e_ldi (show am_cd 202 192 = (2, 194, 6, 0, []) by decide +kernel) rfl ?_
      refine e_sti (la2 := [rA 67, (0, n), (0, al), (0, rr), (0, mn), (0, p), (0, p)]) (show am_cd 202 194 = (3, 196, 5, 0, []) by decide +kernel) rfl ?_
      refine e_inc (la2 := [rA 67, (0, n), (0, al), (0, rr), (0, mn + 1), (0, p), (0, p)]) (show am_cd 202 196 = (4, 199, 4, 1, []) by decide +kernel) rfl rfl ?_
      refine e_inc (la2 := [rA 67, (0, n), (0, al), (0, rr), (0, mn + 1), (0, p), (0, p + (-1))]) (show am_cd 202 199 = (4, 202, 6, -1, []) by decide +kernel) rfl rfl ?_
      refine e_go (show am_cd 202 202 = (12, 142, 0, 0, []) by decide +kernel) ?_
      exact h
    · replace h := h.2 hc
      refine e_go (show am_cd 202 189 = (12, 199, 0, 0, []) by decide +kernel) ?_
      refine e_inc (la2 := [rA 67, (0, n), (0, al), (0, rr), (0, mn), (0, fs), (0, p + (-1))]) (show am_cd 202 199 = (4, 202, 6, -1, []) by decide +kernel) rfl rfl ?_
      refine e_go (show am_cd 202 202 = (12, 142, 0, 0, []) by decide +kernel) ?_
      exact h

theorem g_mjud6 {d : Nat} {Q : Option aV → aS → Prop} {w : eW} {t : eT} {n al rr mn fs p : Int} (h : ((¬ w32 mn = 0 → (0 ≤ w32 (w 67 25) ∧ w32 (w 67 25) < 32) ∧ (0 ≤ w32 ((w 67 25) + 1) ∧ w32 ((w 67 25) + 1) < 32) ∧ (0 ≤ w32 (((w 67 25) + 1) + 1) ∧ w32 (((w 67 25) + 1) + 1) < 32) ∧ (Ev (d + 5) 202 Q 123 [rA 67, (0, n), (0, al + mn), (0, rr + 1), (0, mn), (0, fs), (0, p)] [] (enc (wu (wu (wu (wu (wu (wu w 86 (w32 (w 67 25)).toNat (w32 rr)) 67 25 ((w 67 25) + 1)) 86 (w32 ((w 67 25) + 1)).toNat (w32 fs)) 67 25 (((w 67 25) + 1) + 1)) 86 (w32 (((w 67 25) + 1) + 1)).toNat (w32 mn)) 67 25 ((((w 67 25) + 1) + 1) + 1)) t))) ∧ (¬ (¬ w32 mn = 0) → Ev (d + 5) 202 Q 123 [rA 67, (0, n), (0, al + mn), (0, rr + 1), (0, mn), (0, fs), (0, p)] [] (enc w t)))) : Ev (d + 5) 202 Q 205 [rA 67, (0, n), (0, al), (0, rr), (0, mn), (0, fs), (0, p)] [] (enc w t) := by
  refine e_ldi (show am_cd 202 205 = (2, 206, 2, 0, []) by decide +kernel) rfl ?_
  refine e_ldi (show am_cd 202 206 = (2, 208, 4, 0, []) by decide +kernel) rfl ?_
  refine e_iadd (show am_cd 202 208 = (5, 209, 0, 0, []) by decide +kernel) ?_
  refine e_sti (la2 := [rA 67, (0, n), (0, al + mn), (0, rr), (0, mn), (0, fs), (0, p)]) (show am_cd 202 209 = (3, 210, 2, 0, []) by decide +kernel) rfl ?_
  refine e_ldi (show am_cd 202 210 = (2, 212, 4, 0, []) by decide +kernel) rfl ?_
  refine e_if1 (show am_cd 202 212 = (10, 215, 218, 1, []) by decide +kernel) (fun hc => ?_) (fun hc => ?_)
  · replace h := h.1 hc
    refine e_lda (v := 67) (show am_cd 202 218 = (2, 219, 0, 2, []) by decide +kernel) rfl ?_
    refine e_ldi (show am_cd 202 219 = (2, 220, 3, 0, []) by decide +kernel) rfl ?_
    refine e_i2l (show am_cd 202 220 = (8, 221, 0, 0, []) by decide +kernel) ?_
    refine e_cV (z := 0) (a := 67) (as := [(1, w32 rr)]) (rest := []) (show am_cd 202 221 = (40, 224, 167, 0, [252]) by decide +kernel) (by decide +kernel) rfl rfl (Nat.le_of_ble_eq_true rfl) rfl ?_
    show Ev _ 167 _ 0 [rA 67, (1, w32 rr), (9, 0)] [] _
    refine e_lda (v := 67) (show am_cd 167 0 = (2, 1, 0, 2, []) by decide +kernel) rfl ?_
    refine e_getr (a := 67) (r := 86) (show am_cd 167 1 = (18, 4, 1224, 2, [65]) by decide +kernel) (by decide +kernel) (by decide +kernel) rfl ?_
    refine e_lda (v := 67) (show am_cd 167 4 = (2, 5, 0, 2, []) by decide +kernel) rfl ?_
    refine e_getf (a := 67) (tg := 0) (show am_cd 167 5 = (18, 8, 1225, 0, [116]) by decide +kernel) (by decide +kernel) (by decide +kernel) rfl ?_
    refine e_ldl (show am_cd 167 8 = (2, 9, 1, 1, []) by decide +kernel) rfl ?_
    refine e_last (a := 86) (n := 32) (show am_cd 167 9 = (25, 10, 0, 0, []) by decide +kernel) (by decide +kernel) (by decide +kernel) (by decide +kernel) h.1 ?_
    replace h := h.2
    refine e_lda (v := 67) (show am_cd 167 10 = (2, 11, 0, 2, []) by decide +kernel) rfl ?_
    refine e_dup (show am_cd 167 11 = (13, 12, 0, 0, []) by decide +kernel) (by decide) ?_
    refine e_getfE (a := 67) (tg := 0) (v := w 67 25) (show am_cd 167 12 = (18, 15, 1225, 0, [116]) by decide +kernel) (by decide +kernel) (by decide +kernel) rfl rfl ?_
    refine e_ic (show am_cd 167 15 = (0, 16, 0, 1, []) by decide +kernel) ?_
    refine e_iadd (show am_cd 167 16 = (5, 17, 0, 0, []) by decide +kernel) ?_
    refine e_putf (a := 67) (show am_cd 167 17 = (19, 20, 1225, 0, [116]) by decide +kernel) (by decide +kernel) (by decide +kernel) rfl (fun h9 => absurd h9 (by decide)) (fun h9 => absurd h9 (by decide +kernel)) ?_
    refine e_retv (show am_cd 167 20 = (36, 21, 3, 0, []) by decide +kernel) (by decide +kernel) ⟨fun _ h9 => (by cases h9), ?_⟩
    show Ev _ 202 _ 224 [rA 67, (0, n), (0, al + mn), (0, rr), (0, mn), (0, fs), (0, p)] [] _
    refine e_lda (v := 67) (show am_cd 202 224 = (2, 225, 0, 2, []) by decide +kernel) rfl ?_
    refine e_ldi (show am_cd 202 225 = (2, 227, 5, 0, []) by decide +kernel) rfl ?_
    refine e_i2l (show am_cd 202 227 = (8, 228, 0, 0, []) by decide +kernel) ?_
    refine e_cV (z := 0) (a := 67) (as := [(1, w32 fs)]) (rest := []) (show am_cd 202 228 = (40, 231, 167, 0, [252]) by decide +kernel) (by decide +kernel) rfl rfl (Nat.le_of_ble_eq_true rfl) rfl ?_
    show Ev _ 167 _ 0 [rA 67, (1, w32 fs), (9, 0)] [] _
    refine e_lda (v := 67) (show am_cd 167 0 = (2, 1, 0, 2, []) by decide +kernel) rfl ?_
    refine e_getr (a := 67) (r := 86) (show am_cd 167 1 = (18, 4, 1224, 2, [65]) by decide +kernel) (by decide +kernel) (by decide +kernel) rfl ?_
    refine e_lda (v := 67) (show am_cd 167 4 = (2, 5, 0, 2, []) by decide +kernel) rfl ?_
    refine e_getfE (a := 67) (tg := 0) (v := (w 67 25) + 1) (show am_cd 167 5 = (18, 8, 1225, 0, [116]) by decide +kernel) (by decide +kernel) (by decide +kernel) rfl rfl ?_
    refine e_ldl (show am_cd 167 8 = (2, 9, 1, 1, []) by decide +kernel) rfl ?_
    refine e_last (a := 86) (n := 32) (show am_cd 167 9 = (25, 10, 0, 0, []) by decide +kernel) (by decide +kernel) (by decide +kernel) (by decide +kernel) h.1 ?_
    replace h := h.2
    refine e_lda (v := 67) (show am_cd 167 10 = (2, 11, 0, 2, []) by decide +kernel) rfl ?_
    refine e_dup (show am_cd 167 11 = (13, 12, 0, 0, []) by decide +kernel) (by decide) ?_
    refine e_getfE (a := 67) (tg := 0) (v := (w 67 25) + 1) (show am_cd 167 12 = (18, 15, 1225, 0, [116]) by decide +kernel) (by decide +kernel) (by decide +kernel) rfl rfl ?_
    refine e_ic (show am_cd 167 15 = (0, 16, 0, 1, []) by decide +kernel) ?_
    refine e_iadd (show am_cd 167 16 = (5, 17, 0, 0, []) by decide +kernel) ?_
    refine e_putf (a := 67) (show am_cd 167 17 = (19, 20, 1225, 0, [116]) by decide +kernel) (by decide +kernel) (by decide +kernel) rfl (fun h9 => absurd h9 (by decide)) (fun h9 => absurd h9 (by decide +kernel)) ?_
    refine e_retv (show am_cd 167 20 = (36, 21, 3, 0, []) by decide +kernel) (by decide +kernel) ⟨fun _ h9 => (by cases h9), ?_⟩
    show Ev _ 202 _ 231 [rA 67, (0, n), (0, al + mn), (0, rr), (0, mn), (0, fs), (0, p)] [] _
    refine e_lda (v := 67) (show am_cd 202 231 = (2, 232, 0, 2, []) by decide +kernel) rfl ?_
    refine e_ldi (show am_cd 202 232 = (2, 234, 4, 0, []) by decide +kernel) rfl ?_
    refine e_i2l (show am_cd 202 234 = (8, 235, 0, 0, []) by decide +kernel) ?_
    refine e_cV (z := 0) (a := 67) (as := [(1, w32 mn)]) (rest := []) (show am_cd 202 235 = (40, 238, 167, 0, [252]) by decide +kernel) (by decide +kernel) rfl rfl (Nat.le_of_ble_eq_true rfl) rfl ?_
    show Ev _ 167 _ 0 [rA 67, (1, w32 mn), (9, 0)] [] _
    refine e_lda (v := 67) (show am_cd 167 0 = (2, 1, 0, 2, []) by decide +kernel) rfl ?_
    refine e_getr (a := 67) (r := 86) (show am_cd 167 1 = (18, 4, 1224, 2, [65]) by decide +kernel) (by decide +kernel) (by decide +kernel) rfl ?_
    refine e_lda (v := 67) (show am_cd 167 4 = (2, 5, 0, 2, []) by decide +kernel) rfl ?_
    refine e_getfE (a := 67) (tg := 0) (v := ((w 67 25) + 1) + 1) (show am_cd 167 5 = (18, 8, 1225, 0, [116]) by decide +kernel) (by decide +kernel) (by decide +kernel) rfl rfl ?_
    refine e_ldl (show am_cd 167 8 = (2, 9, 1, 1, []) by decide +kernel) rfl ?_
    refine e_last (a := 86) (n := 32) (show am_cd 167 9 = (25, 10, 0, 0, []) by decide +kernel) (by decide +kernel) (by decide +kernel) (by decide +kernel) h.1 ?_
    replace h := h.2
    refine e_lda (v := 67) (show am_cd 167 10 = (2, 11, 0, 2, []) by decide +kernel) rfl ?_
    refine e_dup (show am_cd 167 11 = (13, 12, 0, 0, []) by decide +kernel) (by decide) ?_
    refine e_getfE (a := 67) (tg := 0) (v := ((w 67 25) + 1) + 1) (show am_cd 167 12 = (18, 15, 1225, 0, [116]) by decide +kernel) (by decide +kernel) (by decide +kernel) rfl rfl ?_
    refine e_ic (show am_cd 167 15 = (0, 16, 0, 1, []) by decide +kernel) ?_
    refine e_iadd (show am_cd 167 16 = (5, 17, 0, 0, []) by decide +kernel) ?_
    refine e_putf (a := 67) (show am_cd 167 17 = (19, 20, 1225, 0, [116]) by decide +kernel) (by decide +kernel) (by decide +kernel) rfl (fun h9 => absurd h9 (by decide)) (fun h9 => absurd h9 (by decide +kernel)) ?_
    refine e_retv (show am_cd 167 20 = (36, 21, 3, 0, []) by decide +kernel) (by decide +kernel) ⟨fun _ h9 => (by cases h9), ?_⟩
    show Ev _ 202 _ 238 [rA 67, (0, n), (0, al + mn), (0, rr), (0, mn), (0, fs), (0, p)] [] _
    refine e_inc (la2 := [rA 67, (0, n), (0, al + mn), (0, rr + 1), (0, mn), (0, fs), (0, p)]) (show am_cd 202 238 = (4, 241, 3, 1, []) by decide +kernel) rfl rfl ?_
    refine e_go (show am_cd 202 241 = (12, 123, 0, 0, []) by decide +kernel) ?_
    exact h
  · replace h := h.2 hc
    refine e_go (show am_cd 202 215 = (12, 238, 0, 0, []) by decide +kernel) ?_
    refine e_inc (la2 := [rA 67, (0, n), (0, al + mn), (0, rr + 1), (0, mn), (0, fs), (0, p)]) (show am_cd 202 238 = (4, 241, 3, 1, []) by decide +kernel) rfl rfl ?_
    refine e_go (show am_cd 202 241 = (12, 123, 0, 0, []) by decide +kernel) ?_
    exact h

