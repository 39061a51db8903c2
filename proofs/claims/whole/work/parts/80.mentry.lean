/-! The model: the call entry. -/
def enR (tx : List Int) : Except Nat (List Int) := match rdLs tx 5 0 with
  | .error q => .error q
  | .ok y => if y.2 < tx.length then .error y.2 else .ok y.1
def noUp (m : eW) (l : List Int) : Bool := an (fun k => !isUp m (l.getD k 0)) l.length
def entryV (tx : List Int) (m : eW) (a x : Int) : Int := match enR tx with
  | .error q => -21 - (q : Int)
  | .ok l => if (0 ≤ a ∧ a ≤ 3) ∧ (-1 ≤ x ∧ x ≤ 3) then (if nE m = 16 then -2 else if noUp m l = true then -3 else (nE m : Int)) else -1
def enW (m : eW) (a x : Int) (l : List Int) : eW := fun r j => if r = 77 ∧ j = nE m then a else if r = 78 ∧ j = nE m then x else if r = 79 ∧ j = nE m then (l.length : Int) else if r = 80 ∧ 5 * nE m ≤ j ∧ j < 5 * nE m + l.length then l.getD (j - 5 * nE m) 0 else if r = 67 ∧ j = 12 then m 67 12 + 1 else m r j
def entryM (tx : List Int) (m : eW) (a x : Int) : eW := match enR tx with
  | .error _ => m
  | .ok l => if (0 ≤ a ∧ a ≤ 3) ∧ (-1 ≤ x ∧ x ≤ 3) then (if nE m = 16 then m else if noUp m l = true then m else enW m a x l) else m
theorem enW_o {m : eW} {a x : Int} {l : List Int} {r : Nat} (h : r ≠ 67 ∧ (r < 77 ∨ 80 < r)) : enW m a x l r = m r := by
  funext j
  unfold enW
  rw [if_neg (by omega), if_neg (by omega), if_neg (by omega), if_neg (by omega), if_neg (by omega)]
theorem enW_f {m : eW} {a x : Int} {l : List Int} {k : Nat} (h : k ≠ 12) : enW m a x l 67 k = m 67 k := by
  unfold enW
  rw [if_neg (by omega), if_neg (by omega), if_neg (by omega), if_neg (by omega), if_neg (by omega)]
theorem enW_12 {m : eW} {a x : Int} {l : List Int} : enW m a x l 67 12 = m 67 12 + 1 := by
  unfold enW
  rw [if_neg (by omega), if_neg (by omega), if_neg (by omega), if_neg (by omega), if_pos ⟨rfl, rfl⟩]
theorem enW_old {m : eW} {a x : Int} {l : List Int} {e : Nat} (h : e < nE m) : enW m a x l 77 e = m 77 e ∧ enW m a x l 78 e = m 78 e ∧ enW m a x l 79 e = m 79 e ∧ ∀ j, j < 5 * nE m → enW m a x l 80 j = m 80 j := by
  unfold enW
  refine ⟨?_, ?_, ?_, fun j hj => ?_⟩
  · rw [if_neg (by omega), if_neg (by omega), if_neg (by omega), if_neg (by omega), if_neg (by omega)]
  · rw [if_neg (by omega), if_neg (by omega), if_neg (by omega), if_neg (by omega), if_neg (by omega)]
  · rw [if_neg (by omega), if_neg (by omega), if_neg (by omega), if_neg (by omega), if_neg (by omega)]
  · rw [if_neg (by omega), if_neg (by omega), if_neg (by omega), if_neg (by omega), if_neg (by omega)]
theorem enW_new {m : eW} {a x : Int} {l : List Int} : enW m a x l 77 (nE m) = a ∧ enW m a x l 78 (nE m) = x ∧ enW m a x l 79 (nE m) = (l.length : Int) ∧ ∀ q, q < l.length → enW m a x l 80 (5 * nE m + q) = l.getD q 0 := by
  unfold enW
  refine ⟨?_, ?_, ?_, fun j hj => ?_⟩
  · rw [if_pos ⟨rfl, rfl⟩]
  · rw [if_neg (by omega), if_pos ⟨rfl, rfl⟩]
  · rw [if_neg (by omega), if_neg (by omega), if_pos ⟨rfl, rfl⟩]
  · rw [if_neg (by omega), if_neg (by omega), if_neg (by omega), if_pos ⟨rfl, by omega, by omega⟩, Nat.add_sub_cancel_left]
theorem MG.mm {w m m2 : eW} (h : MG w m) (e0 : m2 67 0 = m 67 0) (e6 : m2 67 6 = m 67 6) (r : ∀ a, 68 ≤ a → a ≤ 76 → m2 a = m a) : MG w m2 := by
  unfold MG WFp WFr MGp MGr PT nP nR at *
  rw [e0, e6, r 68 (by decide) (by decide), r 69 (by decide) (by decide), r 72 (by decide) (by decide), r 73 (by decide) (by decide), r 74 (by decide) (by decide), r 75 (by decide) (by decide), r 76 (by decide) (by decide)]
  exact h
theorem enW_mi {w w1 w4 m : eW} {ks : kT} {rl : List Int} {a x : Int} {l : List Int} (h : MI w1 m ks rl []) (ha : 0 ≤ a ∧ a ≤ 3) (hx : -1 ≤ x ∧ x ≤ 3) (hl : 1 ≤ l.length ∧ l.length ≤ 5) (hv : ∀ v ∈ l, 0 ≤ v ∧ v ≤ 26) (hn : nE m < 16) (hf : Fm [77, 78, 79, 80] [12] w1 w4) (e12 : w4 67 12 = m 67 12 + 1)
    (old : ∀ e, e < nE m → w4 77 e = w1 77 e ∧ w4 78 e = w1 78 e ∧ w4 79 e = w1 79 e) (oldf : ∀ j, j < 5 * nE m → w4 80 j = w1 80 j) (new : w4 77 (nE m) = a ∧ w4 78 (nE m) = x ∧ w4 79 (nE m) = (l.length : Int)) (newf : ∀ q, q < l.length → w4 80 (5 * nE m + q) = l.getD q 0) : MI w4 (enW m a x l) ks rl [] := by
  obtain ⟨⟨g1, g2, g3⟩, h2, h3, h4, h5, h6, h7⟩ := h
  have hne := g2.n
  have n1 : nE (enW m a x l) = nE m + 1 := by
    show (enW m a x l 67 12).toNat = _
    rw [enW_12]
    omega
  have nS1 : nS (enW m a x l) = nS m := by
    show (enW m a x l 67 3).toNat = (m 67 3).toNat
    rw [enW_f (by decide)]
  have gg : MG w4 (enW m a x l) := (g1.m hf (by decide) (by decide)).mm (enW_f (by decide)) (enW_f (by decide)) (fun a h1 h2 => enW_o ⟨by omega, by omega⟩)
  refine ⟨⟨gg, ⟨⟨by rw [enW_12]; omega, by rw [enW_12]; omega⟩, fun e he => ?_⟩, ⟨by rw [enW_12]; exact e12, fun e he => ?_⟩⟩, ⟨by rw [enW_f (by decide)]; exact h2.1, fun i hi => ?_⟩, ⟨by rw [enW_f (by decide), hf.2 3 (by decide)]; exact h3.1, fun i hi => ?_⟩, h4.m hf (by decide) (by decide), h5.m hf (by decide) (by decide), TxM.nil (by rw [hf.2 23 (by decide)]; exact h6.1), by rw [hf.2 35 (by decide)]; exact h7⟩
  · rw [n1] at he
    by_cases h9 : e = nE m
    · subst h9
      have q := enW_new (m := m) (a := a) (x := x) (l := l)
      rw [q.1, q.2.1, q.2.2.1]
      refine ⟨ha, hx, by omega, fun k hk => ?_⟩
      have hk' : k < l.length := by omega
      rw [q.2.2.2 k hk']
      exact hv _ (by rw [List.getD_eq_getElem?_getD, List.getElem?_eq_getElem hk']; exact List.getElem_mem hk')
    · have he' : e < nE m := by omega
      have q := enW_old (m := m) (a := a) (x := x) (l := l) he'
      have b := g2.2 e he'
      rw [q.1, q.2.1, q.2.2.1]
      refine ⟨b.1, b.2.1, b.2.2.1, fun k hk => ?_⟩
      have b1 := b.2.2.1
      rw [q.2.2.2 _ (by omega)]
      exact b.2.2.2 k hk
  · rw [n1] at he
    by_cases h9 : e = nE m
    · subst h9
      have q := enW_new (m := m) (a := a) (x := x) (l := l)
      rw [q.1, q.2.1, q.2.2.1]
      refine ⟨new.1, new.2.1, new.2.2, fun k hk => ?_⟩
      have hk' : k < l.length := by omega
      rw [q.2.2.2 k hk']
      exact newf k hk'
    · have he' : e < nE m := by omega
      have q := enW_old (m := m) (a := a) (x := x) (l := l) he'
      have b := g3.2 e he'
      have b1 := (g2.2 e he').2.2.1
      have oe := old e he'
      rw [q.1, q.2.1, q.2.2.1, oe.1, oe.2.1, oe.2.2]
      refine ⟨b.1, b.2.1, b.2.2.1, fun k hk => ?_⟩
      rw [q.2.2.2 _ (by omega), oldf _ (by omega)]
      exact b.2.2.2 k hk
  · rw [nS1] at hi
    rw [enW_o (by decide), enW_o (by decide)]
    exact h2.2 i hi
  · rw [nS1] at hi
    rw [enW_o (by decide), enW_o (by decide), hf.1 70 (by decide) (by decide), hf.1 71 (by decide) (by decide)]
    exact h3.2 i hi
/-- under way in a text: rows R written -/
def RdI (R : List Nat) (w : eW) (tx : List Int) (w1 : eW) : Prop := Px w1 tx ∧ Fm R [23, 26, 27, 28, 29] w w1 ∧ w1 67 23 = 0 ∧ w1 67 26 = 0
theorem RdI.m {R R2 : List Nat} {w w1 w2 : eW} {tx : List Int} (h : RdI R w tx w1) (hp : Px w2 tx) (hf : Fm R2 [28, 29] w1 w2) (hR : ∀ a ∈ R2, a ∈ R) : RdI R w tx w2 := ⟨hp, h.2.1.tr (hf.mo hR (by decide)), by rw [hf.2 23 (by decide)]; exact h.2.2.1, by rw [hf.2 26 (by decide)]; exact h.2.2.2⟩
theorem RdI.bg {R : List Nat} {w : eW} {tx : List Int} (h : TxM w tx) : RdI R w tx (bgW w) := by
  obtain ⟨b1, b2, b3, b4, b5, b6⟩ := bgW_s h
  exact ⟨b1, b3.mo (fun a ha => by cases ha) (fun a ha => ha), b5, b4⟩
theorem RdI.mi {R : List Nat} {w w1 m : eW} {ks : kT} {rl tx : List Int} (hI : RdI R w tx w1) (h : MI w m ks rl tx) (hR : ∀ a ∈ R, 86 < a) : MI w1 m ks rl [] := h.m hI.2.1 hR (by decide) hI.2.2.1

theorem g_mentry0 {d : Nat} {Q : Option aV → aS → Prop} {w : eW} {t : eT} {a x : Int} {tx : List Int} (h : (Px (wu (wu (wu (wu (wu w 67 26 0) 67 27 (w 67 23)) 67 23 0) 67 28 0) 67 29 (-1)) tx ∧ ((1 : Int) ≤ 5 ∧ (5 : Int) ≤ 6) ∧ (90 = 90 ∨ 90 = 91)) ∧ (∀ x1 w2, (RlQ tx 90 5 (wu (wu (wu (wu (wu w 67 26 0) 67 27 (w 67 23)) 67 23 0) 67 28 0) 67 29 (-1)) (bnd (stW (wu (wu (wu (wu (wu w 67 26 0) 67 27 (w 67 23)) 67 23 0) 67 28 0) 67 29 (-1))) (rdLs tx 5)) x1 w2) → ((¬ w32 (w2 67 29) = w32 (-1) → Ev (d + 4) 195 Q 31 [rA 67, (0, a), (0, x), (0, x1), (9, 0)] [] (enc w2 t)) ∧ (¬ (¬ w32 (w2 67 29) = w32 (-1)) → (Px w2 tx) ∧ (∀ w3, (Px w3 tx ∧ Fm [] [28, 29] w2 w3 ∧ stW w3 = enS tx (stW w2)) → Ev (d + 4) 195 Q 31 [rA 67, (0, a), (0, x), (0, x1), (9, 0)] [] (enc w3 t)))))) : Cl (d + 4) 195 [rA 67, (0, a), (0, x)] (enc w t) Q := by
  show Ev (d + 4) 195 Q 0 [rA 67, (0, a), (0, x), (9, 0), (9, 0)] [] (enc w t)
  refine e_lda (v := 67) (show am_cd 195 0 = (2, 1, 0, 2, []) by decide +kernel) rfl ?_
  refine e_ic (show am_cd 195 1 = (0, 2, 0, 0, []) by decide +kernel) ?_
  refine e_putf (a := 67) (show am_cd 195 2 = (19, 5, 1226, 0, [113]) by decide +kernel) (by decide +kernel) (by decide +kernel) rfl (fun h9 => absurd h9 (by decide)) (fun h9 => absurd h9 (by decide +kernel)) ?_
  refine e_lda (v := 67) (show am_cd 195 5 = (2, 6, 0, 2, []) by decide +kernel) rfl ?_
  refine e_cV (z := 0) (a := 67) (as := []) (rest := []) (show am_cd 195 6 = (40, 9, 170, 0, [171]) by decide +kernel) (by decide +kernel) rfl rfl (Nat.le_of_ble_eq_true rfl) rfl ?_
  show Ev _ 170 _ 0 [rA 67] [] _
  refine e_lda (v := 67) (show am_cd 170 0 = (2, 1, 0, 2, []) by decide +kernel) rfl ?_
  refine e_lda (v := 67) (show am_cd 170 1 = (2, 2, 0, 2, []) by decide +kernel) rfl ?_
  refine e_getfE (a := 67) (tg := 0) (v := w 67 23) (show am_cd 170 2 = (18, 5, 1223, 0, [119]) by decide +kernel) (by decide +kernel) (by decide +kernel) rfl rfl ?_
  refine e_putf (a := 67) (show am_cd 170 5 = (19, 8, 1227, 0, [126]) by decide +kernel) (by decide +kernel) (by decide +kernel) rfl (fun h9 => absurd h9 (by decide)) (fun h9 => absurd h9 (by decide +kernel)) ?_
  refine e_lda (v := 67) (show am_cd 170 8 = (2, 9, 0, 2, []) by decide +kernel) rfl ?_
  refine e_ic (show am_cd 170 9 = (0, 10, 0, 0, []) by decide +kernel) ?_
  refine e_putf (a := 67) (show am_cd 170 10 = (19, 13, 1223, 0, [119]) by decide +kernel) (by decide +kernel) (by decide +kernel) rfl (fun h9 => absurd h9 (by decide)) (fun h9 => absurd h9 (by decide +kernel)) ?_
  refine e_lda (v := 67) (show am_cd 170 13 = (2, 14, 0, 2, []) by decide +kernel) rfl ?_
  refine e_ic (show am_cd 170 14 = (0, 15, 0, 0, []) by decide +kernel) ?_
  refine e_putf (a := 67) (show am_cd 170 15 = (19, 18, 1228, 0, [129]) by decide +kernel) (by decide +kernel) (by decide +kernel) rfl (fun h9 => absurd h9 (by decide)) (fun h9 => absurd h9 (by decide +kernel)) ?_
  refine e_lda (v := 67) (show am_cd 170 18 = (2, 19, 0, 2, []) by decide +kernel) rfl ?_
  refine e_ic (show am_cd 170 19 = (0, 20, 0, -1, []) by decide +kernel) ?_
  refine e_putf (a := 67) (show am_cd 170 20 = (19, 23, 1229, 0, [132]) by decide +kernel) (by decide +kernel) (by decide +kernel) rfl (fun h9 => absurd h9 (by decide)) (fun h9 => absurd h9 (by decide +kernel)) ?_
  refine e_retv (show am_cd 170 23 = (36, 24, 3, 0, []) by decide +kernel) (by decide +kernel) ⟨fun _ h9 => (by cases h9), ?_⟩
  show Ev _ 195 _ 9 [rA 67, (0, a), (0, x), (9, 0), (9, 0)] [] _
  refine e_lda (v := 67) (show am_cd 195 9 = (2, 10, 0, 2, []) by decide +kernel) rfl ?_
  refine e_lda (v := 67) (show am_cd 195 10 = (2, 11, 0, 2, []) by decide +kernel) rfl ?_
  refine e_getr (a := 67) (r := 90) (show am_cd 195 11 = (18, 14, 1233, 2, [78]) by decide +kernel) (by decide +kernel) (by decide +kernel) rfl ?_
  refine e_ic (show am_cd 195 14 = (0, 15, 0, 5, []) by decide +kernel) ?_
  refine e_cV (z := 0) (a := 67) (as := [rA 90, (0, 5)]) (rest := []) (show am_cd 195 15 = (40, 18, 193, 0, [222]) by decide +kernel) (by decide +kernel) rfl rfl (Nat.le_of_ble_eq_true rfl) rfl ?_
  refine Cl.mono (Cl.up (c_readLetters (d := d) h.1) (by omega)) ?_
  rintro _ _ ⟨x1, w2, rfl, rfl, hp⟩
  refine ⟨fun _ h9 => (by cases h9), ?_⟩
  replace h := h.2 x1 w2 hp
  show Ev _ 195 _ 18 [rA 67, (0, a), (0, x), (9, 0), (9, 0)] [(0, x1)] _
  refine e_sti (la2 := [rA 67, (0, a), (0, x), (0, x1), (9, 0)]) (show am_cd 195 18 = (3, 19, 3, 0, []) by decide +kernel) rfl ?_
  refine e_lda (v := 67) (show am_cd 195 19 = (2, 20, 0, 2, []) by decide +kernel) rfl ?_
  refine e_getf (a := 67) (tg := 0) (show am_cd 195 20 = (18, 23, 1229, 0, [132]) by decide +kernel) (by decide +kernel) (by decide +kernel) rfl ?_
  refine e_ic (show am_cd 195 23 = (0, 24, 0, -1, []) by decide +kernel) ?_
  refine e_cmp1 (show am_cd 195 24 = (11, 27, 31, 1, []) by decide +kernel) (fun hc => ?_) (fun hc => ?_)
  · replace h := h.1 hc
    exact h
  · replace h := h.2 hc
    refine e_lda (v := 67) (show am_cd 195 27 = (2, 28, 0, 2, []) by decide +kernel) rfl ?_
    refine e_cV (z := 0) (a := 67) (as := []) (rest := []) (show am_cd 195 28 = (40, 31, 176, 0, [165]) by decide +kernel) (by decide +kernel) rfl rfl (Nat.le_of_ble_eq_true rfl) rfl ?_
    refine Cl.mono (Cl.up (c_ends (d := d) h.1) (by omega)) ?_
    rintro _ _ ⟨w3, rfl, rfl, hp⟩
    refine ⟨fun _ h9 => (by cases h9), ?_⟩
    replace h := h.2 w3 hp
    show Ev _ 195 _ 31 [rA 67, (0, a), (0, x), (0, x1), (9, 0)] [] _
    exact h

theorem g_mentry1 {d : Nat} {Q : Option aV → aS → Prop} {w : eW} {t : eT} {a x n : Int} (h : ((w32 (w 67 29) = w32 (-1) → (((decide (w64 0 ≤ w64 (w32 a) ∧ w64 (w32 a) ≤ w64 3)) = false → Q (some (0, (-1))) (enc w t)) ∧ ((decide (w64 0 ≤ w64 (w32 a) ∧ w64 (w32 a) ≤ w64 3)) = true → (((decide (w64 (-1) ≤ w64 (w32 x) ∧ w64 (w32 x) ≤ w64 3)) = true → ((¬ w32 (w 67 12) = w32 16 → Ev (d + 4) 195 Q 87 [rA 67, (0, a), (0, x), (0, n), (0, 0)] [] (enc w t)) ∧ (¬ (¬ w32 (w 67 12) = w32 16) → Q (some (0, (-2))) (enc w t)))) ∧ ((decide (w64 (-1) ≤ w64 (w32 x) ∧ w64 (w32 x) ≤ w64 3)) = false → Q (some (0, (-1))) (enc w t)))))) ∧ (¬ (w32 (w 67 29) = w32 (-1)) → Q (some (0, (-21) - (w 67 29))) (enc w t)))) : Ev (d + 4) 195 Q 31 [rA 67, (0, a), (0, x), (0, n), (9, 0)] [] (enc w t) := by
  refine e_lda (v := 67) (show am_cd 195 31 = (2, 32, 0, 2, []) by decide +kernel) rfl ?_
  refine e_getf (a := 67) (tg := 0) (show am_cd 195 32 = (18, 35, 1229, 0, [132]) by decide +kernel) (by decide +kernel) (by decide +kernel) rfl ?_
  refine e_ic (show am_cd 195 35 = (0, 36, 0, -1, []) by decide +kernel) ?_
  refine e_cmp0 (show am_cd 195 36 = (11, 39, 44, 0, []) by decide +kernel) (fun hc => ?_) (fun hc => ?_)
  · replace h := h.1 hc
    refine e_ldi (show am_cd 195 44 = (2, 45, 1, 0, []) by decide +kernel) rfl ?_
    refine e_i2l (show am_cd 195 45 = (8, 46, 0, 0, []) by decide +kernel) ?_
    refine e_lc (show am_cd 195 46 = (1, 47, 0, 0, []) by decide +kernel) ?_
    refine e_lc (show am_cd 195 47 = (1, 50, 1, 3, [226]) by decide +kernel) ?_
    refine e_cS (z := 0) (as := [(1, w32 a), (1, 0), (1, 3)]) (rest := []) (show am_cd 195 50 = (40, 53, 165, 1, [122]) by decide +kernel) (by decide) rfl rfl (Nat.le_of_ble_eq_true rfl) rfl ?_
    refine Cl.mono (Cl.up (c_in (d := d)) (by omega)) ?_
    rintro _ _ ⟨rfl, rfl⟩
    refine ⟨fun _ h9 => (by cases h9), ?_⟩
    show Ev _ 195 _ 53 [rA 67, (0, a), (0, x), (0, n), (9, 0)] [(0, bI (decide (w64 0 ≤ w64 (w32 a) ∧ w64 (w32 a) ≤ w64 3)))] _
    refine e_ifb0 (show am_cd 195 53 = (10, 56, 70, 0, []) by decide +kernel) (fun hc => ?_) (fun hc => ?_)
    · replace h := h.1 hc
      refine e_ic (show am_cd 195 70 = (0, 71, 0, -1, []) by decide +kernel) ?_
      exact e_reti (show am_cd 195 71 = (36, 72, 0, 0, []) by decide +kernel) (by decide +kernel) h
    · replace h := h.2 hc
      refine e_ldi (show am_cd 195 56 = (2, 57, 2, 0, []) by decide +kernel) rfl ?_
      refine e_i2l (show am_cd 195 57 = (8, 58, 0, 0, []) by decide +kernel) ?_
      refine e_lc (show am_cd 195 58 = (1, 61, 1, -1, [228]) by decide +kernel) ?_
      refine e_lc (show am_cd 195 61 = (1, 64, 1, 3, [226]) by decide +kernel) ?_
      refine e_cS (z := 0) (as := [(1, w32 x), (1, (-1)), (1, 3)]) (rest := []) (show am_cd 195 64 = (40, 67, 165, 1, [122]) by decide +kernel) (by decide) rfl rfl (Nat.le_of_ble_eq_true rfl) rfl ?_
      refine Cl.mono (Cl.up (c_in (d := d)) (by omega)) ?_
      rintro _ _ ⟨rfl, rfl⟩
      refine ⟨fun _ h9 => (by cases h9), ?_⟩
      show Ev _ 195 _ 67 [rA 67, (0, a), (0, x), (0, n), (9, 0)] [(0, bI (decide (w64 (-1) ≤ w64 (w32 x) ∧ w64 (w32 x) ≤ w64 3)))] _
      refine e_ifb1 (show am_cd 195 67 = (10, 70, 72, 1, []) by decide +kernel) (fun hc => ?_) (fun hc => ?_)
      · replace h := h.1 hc
        refine e_lda (v := 67) (show am_cd 195 72 = (2, 73, 0, 2, []) by decide +kernel) rfl ?_
        refine e_getf (a := 67) (tg := 0) (show am_cd 195 73 = (18, 76, 1212, 0, [186]) by decide +kernel) (by decide +kernel) (by decide +kernel) rfl ?_
        refine e_ic (show am_cd 195 76 = (0, 78, 1, 16, []) by decide +kernel) ?_
        refine e_cmp1 (show am_cd 195 78 = (11, 81, 84, 1, []) by decide +kernel) (fun hc => ?_) (fun hc => ?_)
        · replace h := h.1 hc
          refine e_ic (show am_cd 195 84 = (0, 85, 0, 0, []) by decide +kernel) ?_
          refine e_sti (la2 := [rA 67, (0, a), (0, x), (0, n), (0, 0)]) (show am_cd 195 85 = (3, 87, 4, 0, []) by decide +kernel) rfl ?_
          exact h
        · replace h := h.2 hc
          refine e_ic (show am_cd 195 81 = (0, 83, 1, -2, []) by decide +kernel) ?_
          exact e_reti (show am_cd 195 83 = (36, 84, 0, 0, []) by decide +kernel) (by decide +kernel) h
      · replace h := h.2 hc
        refine e_ic (show am_cd 195 70 = (0, 71, 0, -1, []) by decide +kernel) ?_
        exact e_reti (show am_cd 195 71 = (36, 72, 0, 0, []) by decide +kernel) (by decide +kernel) h
  · replace h := h.2 hc
    refine e_lda (v := 67) (show am_cd 195 39 = (2, 40, 0, 2, []) by decide +kernel) rfl ?_
    refine e_cV (z := 0) (a := 67) (as := []) (rest := []) (show am_cd 195 40 = (40, 43, 173, 0, [177]) by decide +kernel) (by decide +kernel) rfl rfl (Nat.le_of_ble_eq_true rfl) rfl ?_
    show Ev _ 173 _ 0 [rA 67] [] _
    refine e_ic (show am_cd 173 0 = (0, 2, 1, -21, []) by decide +kernel) ?_
    refine e_lda (v := 67) (show am_cd 173 2 = (2, 3, 0, 2, []) by decide +kernel) rfl ?_
    refine e_getf (a := 67) (tg := 0) (show am_cd 173 3 = (18, 6, 1229, 0, [132]) by decide +kernel) (by decide +kernel) (by decide +kernel) rfl ?_
    refine e_isub (show am_cd 173 6 = (5, 7, 1, 0, []) by decide +kernel) ?_
    refine e_reti (show am_cd 173 7 = (36, 8, 0, 0, []) by decide +kernel) (by decide +kernel) ⟨fun _ h9 => (by cases h9), ?_⟩
    show Ev _ 195 _ 43 [rA 67, (0, a), (0, x), (0, n), (9, 0)] [(0, (-21) - (w 67 29))] _
    exact e_reti (show am_cd 195 43 = (36, 44, 0, 0, []) by decide +kernel) (by decide +kernel) h

theorem g_mentry2 {d : Nat} {Q : Option aV → aS → Prop} {w : eW} {t : eT} {a x n k : Int} {m : eW} (h : ((w32 n ≤ w32 k → (0 ≤ w32 (w 67 12) ∧ w32 (w 67 12) < 16) ∧ (0 ≤ w32 (w 67 12) ∧ w32 (w 67 12) < 16) ∧ (0 ≤ w32 (w 67 12) ∧ w32 (w 67 12) < 16) ∧ (Ev (d + 4) 195 Q 149 [rA 67, (0, a), (0, x), (0, n), (0, 0)] [] (enc (wu (wu (wu w 77 (w32 (w 67 12)).toNat a) 78 (w32 (w 67 12)).toNat x) 79 (w32 (w 67 12)).toNat n) t))) ∧ (¬ (w32 n ≤ w32 k) → (0 ≤ w32 k ∧ w32 k < 6) ∧ (MG w m ∧ (-1 ≤ w 90 (w32 k).toNat ∧ w 90 (w32 k).toNat ≤ 27)) ∧ (((isUp m (w 90 (w32 k).toNat)) = true → Ev (d + 4) 195 Q 87 [rA 67, (0, a), (0, x), (0, n), (0, k + 1)] [] (enc w t)) ∧ ((isUp m (w 90 (w32 k).toNat)) = false → Q (some (0, (-3))) (enc w t)))))) : Ev (d + 4) 195 Q 87 [rA 67, (0, a), (0, x), (0, n), (0, k)] [] (enc w t) := by
  refine e_ldi (show am_cd 195 87 = (2, 89, 4, 0, []) by decide +kernel) rfl ?_
  refine e_ldi (show am_cd 195 89 = (2, 90, 3, 0, []) by decide +kernel) rfl ?_
  refine e_cmp3 (show am_cd 195 90 = (11, 93, 116, 3, []) by decide +kernel) (fun hc => ?_) (fun hc => ?_)
  · replace h := h.1 hc
    refine e_lda (v := 67) (show am_cd 195 116 = (2, 117, 0, 2, []) by decide +kernel) rfl ?_
    refine e_getr (a := 67) (r := 77) (show am_cd 195 117 = (18, 120, 1213, 2, [37]) by decide +kernel) (by decide +kernel) (by decide +kernel) rfl ?_
    refine e_lda (v := 67) (show am_cd 195 120 = (2, 121, 0, 2, []) by decide +kernel) rfl ?_
    refine e_getf (a := 67) (tg := 0) (show am_cd 195 121 = (18, 124, 1212, 0, [186]) by decide +kernel) (by decide +kernel) (by decide +kernel) rfl ?_
    refine e_ldi (show am_cd 195 124 = (2, 125, 1, 0, []) by decide +kernel) rfl ?_
    refine e_iast (a := 77) (n := 16) (show am_cd 195 125 = (24, 126, 0, 0, []) by decide +kernel) (by decide +kernel) (by decide +kernel) (by decide +kernel) h.1 ?_
    replace h := h.2
    refine e_lda (v := 67) (show am_cd 195 126 = (2, 127, 0, 2, []) by decide +kernel) rfl ?_
    refine e_getr (a := 67) (r := 78) (show am_cd 195 127 = (18, 130, 1214, 2, [40]) by decide +kernel) (by decide +kernel) (by decide +kernel) rfl ?_
    refine e_lda (v := 67) (show am_cd 195 130 = (2, 131, 0, 2, []) by decide +kernel) rfl ?_
    refine e_getfE (a := 67) (tg := 0) (v := w 67 12) (show am_cd 195 131 = (18, 134, 1212, 0, [186]) by decide +kernel) (by decide +kernel) (by decide +kernel) rfl rfl ?_
    refine e_ldi (show am_cd 195 134 = (2, 135, 2, 0, []) by decide +kernel) rfl ?_
    refine e_iast (a := 78) (n := 16) (show am_cd 195 135 = (24, 136, 0, 0, []) by decide +kernel) (by decide +kernel) (by decide +kernel) (by decide +kernel) h.1 ?_
    replace h := h.2
    refine e_lda (v := 67) (show am_cd 195 136 = (2, 137, 0, 2, []) by decide +kernel) rfl ?_
    refine e_getr (a := 67) (r := 79) (show am_cd 195 137 = (18, 140, 1215, 2, [43]) by decide +kernel) (by decide +kernel) (by decide +kernel) rfl ?_
    refine e_lda (v := 67) (show am_cd 195 140 = (2, 141, 0, 2, []) by decide +kernel) rfl ?_
    refine e_getfE (a := 67) (tg := 0) (v := w 67 12) (show am_cd 195 141 = (18, 144, 1212, 0, [186]) by decide +kernel) (by decide +kernel) (by decide +kernel) rfl rfl ?_
    refine e_ldi (show am_cd 195 144 = (2, 145, 3, 0, []) by decide +kernel) rfl ?_
    refine e_iast (a := 79) (n := 16) (show am_cd 195 145 = (24, 146, 0, 0, []) by decide +kernel) (by decide +kernel) (by decide +kernel) (by decide +kernel) h.1 ?_
    replace h := h.2
    refine e_ic (show am_cd 195 146 = (0, 147, 0, 0, []) by decide +kernel) ?_
    refine e_sti (la2 := [rA 67, (0, a), (0, x), (0, n), (0, 0)]) (show am_cd 195 147 = (3, 149, 4, 0, []) by decide +kernel) rfl ?_
    exact h
  · replace h := h.2 hc
    refine e_lda (v := 67) (show am_cd 195 93 = (2, 94, 0, 2, []) by decide +kernel) rfl ?_
    refine e_lda (v := 67) (show am_cd 195 94 = (2, 95, 0, 2, []) by decide +kernel) rfl ?_
    refine e_getr (a := 67) (r := 90) (show am_cd 195 95 = (18, 98, 1233, 2, [78]) by decide +kernel) (by decide +kernel) (by decide +kernel) rfl ?_
    refine e_ldi (show am_cd 195 98 = (2, 100, 4, 0, []) by decide +kernel) rfl ?_
    refine e_iald (a := 90) (n := 6) (show am_cd 195 100 = (21, 101, 0, 0, []) by decide +kernel) (by decide +kernel) (by decide +kernel) (by decide +kernel) h.1 ?_
    replace h := h.2
    refine e_cV (z := 0) (a := 67) (as := [(0, w 90 (w32 k).toNat)]) (rest := []) (show am_cd 195 101 = (40, 104, 194, 0, [230]) by decide +kernel) (by decide +kernel) rfl rfl (Nat.le_of_ble_eq_true rfl) rfl ?_
    refine Cl.mono (Cl.up (c_isUpper (d := d) h.1) (by omega)) ?_
    rintro _ _ ⟨rfl, rfl⟩
    refine ⟨fun _ h9 => (by cases h9), ?_⟩
    replace h := h.2
    show Ev _ 195 _ 104 [rA 67, (0, a), (0, x), (0, n), (0, k)] [(0, bI (isUp m (w 90 (w32 k).toNat)))] _
    refine e_ifb1 (show am_cd 195 104 = (10, 107, 110, 1, []) by decide +kernel) (fun hc => ?_) (fun hc => ?_)
    · replace h := h.1 hc
      refine e_inc (la2 := [rA 67, (0, a), (0, x), (0, n), (0, k + 1)]) (show am_cd 195 110 = (4, 113, 4, 1, []) by decide +kernel) rfl rfl ?_
      refine e_go (show am_cd 195 113 = (12, 87, 0, 0, []) by decide +kernel) ?_
      exact h
    · replace h := h.2 hc
      refine e_ic (show am_cd 195 107 = (0, 109, 1, -3, []) by decide +kernel) ?_
      exact e_reti (show am_cd 195 109 = (36, 110, 0, 0, []) by decide +kernel) (by decide +kernel) h

theorem g_mentry3 {d : Nat} {Q : Option aV → aS → Prop} {w : eW} {t : eT} {a x n k : Int} (h : ((w32 n ≤ w32 k → Q (some (0, ((w 67 12) + 1) - 1)) (enc (wu w 67 12 ((w 67 12) + 1)) t)) ∧ (¬ (w32 n ≤ w32 k) → (0 ≤ w32 k ∧ w32 k < 6) ∧ (0 ≤ w32 ((5 * (w 67 12)) + k) ∧ w32 ((5 * (w 67 12)) + k) < 80) ∧ (Ev (d + 4) 195 Q 149 [rA 67, (0, a), (0, x), (0, n), (0, k + 1)] [] (enc (wu w 80 (w32 ((5 * (w 67 12)) + k)).toNat (w 90 (w32 k).toNat)) t))))) : Ev (d + 4) 195 Q 149 [rA 67, (0, a), (0, x), (0, n), (0, k)] [] (enc w t) := by
  refine e_ldi (show am_cd 195 149 = (2, 151, 4, 0, []) by decide +kernel) rfl ?_
  refine e_ldi (show am_cd 195 151 = (2, 152, 3, 0, []) by decide +kernel) rfl ?_
  refine e_cmp3 (show am_cd 195 152 = (11, 155, 182, 3, []) by decide +kernel) (fun hc => ?_) (fun hc => ?_)
  · replace h := h.1 hc
    refine e_lda (v := 67) (show am_cd 195 182 = (2, 183, 0, 2, []) by decide +kernel) rfl ?_
    refine e_dup (show am_cd 195 183 = (13, 184, 0, 0, []) by decide +kernel) (by decide) ?_
    refine e_getf (a := 67) (tg := 0) (show am_cd 195 184 = (18, 187, 1212, 0, [186]) by decide +kernel) (by decide +kernel) (by decide +kernel) rfl ?_
    refine e_ic (show am_cd 195 187 = (0, 188, 0, 1, []) by decide +kernel) ?_
    refine e_iadd (show am_cd 195 188 = (5, 189, 0, 0, []) by decide +kernel) ?_
    refine e_putf (a := 67) (show am_cd 195 189 = (19, 192, 1212, 0, [186]) by decide +kernel) (by decide +kernel) (by decide +kernel) rfl (fun h9 => absurd h9 (by decide)) (fun h9 => absurd h9 (by decide +kernel)) ?_
    refine e_lda (v := 67) (show am_cd 195 192 = (2, 193, 0, 2, []) by decide +kernel) rfl ?_
    refine e_getfE (a := 67) (tg := 0) (v := (w 67 12) + 1) (show am_cd 195 193 = (18, 196, 1212, 0, [186]) by decide +kernel) (by decide +kernel) (by decide +kernel) rfl rfl ?_
    refine e_ic (show am_cd 195 196 = (0, 197, 0, 1, []) by decide +kernel) ?_
    refine e_isub (show am_cd 195 197 = (5, 198, 1, 0, []) by decide +kernel) ?_
    exact e_reti (show am_cd 195 198 = (36, 199, 0, 0, []) by decide +kernel) (by decide +kernel) h
  · replace h := h.2 hc
    refine e_lda (v := 67) (show am_cd 195 155 = (2, 156, 0, 2, []) by decide +kernel) rfl ?_
    refine e_getr (a := 67) (r := 80) (show am_cd 195 156 = (18, 159, 1216, 2, [46]) by decide +kernel) (by decide +kernel) (by decide +kernel) rfl ?_
    refine e_ic (show am_cd 195 159 = (0, 160, 0, 5, []) by decide +kernel) ?_
    refine e_lda (v := 67) (show am_cd 195 160 = (2, 161, 0, 2, []) by decide +kernel) rfl ?_
    refine e_getf (a := 67) (tg := 0) (show am_cd 195 161 = (18, 164, 1212, 0, [186]) by decide +kernel) (by decide +kernel) (by decide +kernel) rfl ?_
    refine e_imul (show am_cd 195 164 = (5, 165, 2, 0, []) by decide +kernel) ?_
    refine e_ldi (show am_cd 195 165 = (2, 167, 4, 0, []) by decide +kernel) rfl ?_
    refine e_iadd (show am_cd 195 167 = (5, 168, 0, 0, []) by decide +kernel) ?_
    refine e_lda (v := 67) (show am_cd 195 168 = (2, 169, 0, 2, []) by decide +kernel) rfl ?_
    refine e_getr (a := 67) (r := 90) (show am_cd 195 169 = (18, 172, 1233, 2, [78]) by decide +kernel) (by decide +kernel) (by decide +kernel) rfl ?_
    refine e_ldi (show am_cd 195 172 = (2, 174, 4, 0, []) by decide +kernel) rfl ?_
    refine e_iald (a := 90) (n := 6) (show am_cd 195 174 = (21, 175, 0, 0, []) by decide +kernel) (by decide +kernel) (by decide +kernel) (by decide +kernel) h.1 ?_
    replace h := h.2
    refine e_iast (a := 80) (n := 80) (show am_cd 195 175 = (24, 176, 0, 0, []) by decide +kernel) (by decide +kernel) (by decide +kernel) (by decide +kernel) h.1 ?_
    replace h := h.2
    refine e_inc (la2 := [rA 67, (0, a), (0, x), (0, n), (0, k + 1)]) (show am_cd 195 176 = (4, 179, 4, 1, []) by decide +kernel) rfl rfl ?_
    refine e_go (show am_cd 195 179 = (12, 149, 0, 0, []) by decide +kernel) ?_
    exact h

