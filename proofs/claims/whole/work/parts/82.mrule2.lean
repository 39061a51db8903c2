/-! The model: the call rule. -/
abbrev rU : Type := Int × Int × Int × List Int × Option Int
def ru5 (tx : List Int) (u l so : Int) (ls : List Int) (ri : Option Int) (p : Nat) : Except Nat rU := if p < tx.length then .error p else .ok (u, l, so, ls, ri)
def ru4 (m : eW) (tx : List Int) (u l so : Int) (ls : List Int) (p : Nat) : Except Nat rU := if p < tx.length then (match rdT m tx 1 p with
    | .error q => .error q
    | .ok y => ru5 tx u l so ls (some y.1) y.2) else ru5 tx u l so ls none p
def ru3 (m : eW) (tx : List Int) (u l so : Int) (ls : List Int) (p : Nat) : Except Nat rU := if hr tx p = 95 then ru4 m tx u l so ls (p + 1) else .error p
def ru2 (m : eW) (tx : List Int) (u l so : Int) : Nat → List Int → Nat → Except Nat rU
  | 0, ls, p => ru3 m tx u l so ls p
  | k + 1, ls, p => if hr tx p = 95 then ru3 m tx u l so ls p else match rdT m tx (if ls = [] then 1 else 0) p with
    | .error q => .error q
    | .ok y => ru2 m tx u l so k (ls ++ [y.1]) y.2
def ruR (m : eW) (tx : List Int) : Except Nat rU := match rdS tx 0 with
  | .error q => .error q
  | .ok u => if hr tx u.2 = 58 then (match rdS tx (u.2 + 1) with
    | .error q => .error q
    | .ok l => match rdO tx l.2 with
      | .error q => .error q
      | .ok so => ru2 m tx u.1 l.1 so.1 2 [] so.2) else .error u.2
def ruleV (tx : List Int) (m : eW) : Int := match ruR m tx with
  | .error q => -21 - (q : Int)
  | .ok y => if poN m y.1 y.2.1 = nP m then -2 else if nR m = 8 then -3 else (nR m : Int)
def ruW (m : eW) (pr so : Int) (ls : List Int) (ri : Option Int) : eW := fun a j => if a = 72 ∧ j = nR m then pr else if a = 73 ∧ j = nR m then so else if a = 74 ∧ j = nR m then (ls.length : Int) else if a = 75 ∧ j = nR m then (if ri.isSome = true then 1 else 0)
  else if a = 76 ∧ j = 3 * nR m then ls.getD 0 0 else if a = 76 ∧ j = 3 * nR m + 1 then ls.getD 1 0 else if a = 76 ∧ j = 3 * nR m + 2 then ri.getD 0 else if a = 67 ∧ j = 6 then m 67 6 + 1 else m a j
def ruleM (tx : List Int) (m : eW) : eW := match ruR m tx with
  | .error _ => m
  | .ok y => if poN m y.1 y.2.1 = nP m then m else if nR m = 8 then m else ruW m (poN m y.1 y.2.1 : Int) y.2.2.1 y.2.2.2.1 y.2.2.2.2
theorem rdT_b {m : eW} {tx : List Int} {e : Int} {p : Nat} {y : Int × Nat} (hp : WFp m) (h : rdT m tx e p = .ok y) : PT m y.1 ∧ (e = 0 → 0 ≤ y.1 ∧ y.1 < 2 ^ nP m) := by
  unfold rdT at h
  by_cases h1 : e = 1 ∧ hr tx p = 35
  · rw [if_pos h1] at h
    cases h
    exact ⟨Or.inl rfl, fun h9 => by omega⟩
  · rw [if_neg h1] at h
    have := rdT0_b hp h
    exact ⟨Or.inr this, fun _ => this⟩
def LsB (m : eW) (ls : List Int) : Prop := ls.length ≤ 2 ∧ (1 ≤ ls.length → PT m (ls.getD 0 0)) ∧ (ls.length = 2 → 0 ≤ ls.getD 1 0 ∧ ls.getD 1 0 < 2 ^ nP m)
theorem LsB.app {m : eW} {ls : List Int} {v : Int} (h : LsB m ls) (hl : ls.length < 2) (hv : PT m v) (hv2 : ls ≠ [] → 0 ≤ v ∧ v < 2 ^ nP m) : LsB m (ls ++ [v]) := by
  obtain ⟨h1, h2, h3⟩ := h
  match ls, h1, h2, h3, hl, hv2 with
  | [], _, _, _, _, _ => exact ⟨by show 1 ≤ 2; decide, fun _ => hv, fun h9 => by cases h9⟩
  | [a], _, h2, _, _, hv2 => exact ⟨by show 2 ≤ 2; decide, fun _ => h2 (by show 1 ≤ 1; decide), fun _ => hv2 (by simp)⟩
  | a :: b :: r, _, _, _, hl, _ => exact absurd hl (by simp)
theorem ruW_o {m : eW} {pr so : Int} {ls : List Int} {ri : Option Int} {r : Nat} (h : r ≠ 67 ∧ (r < 72 ∨ 76 < r)) : ruW m pr so ls ri r = m r := by
  funext j
  unfold ruW
  rw [if_neg (by omega), if_neg (by omega), if_neg (by omega), if_neg (by omega), if_neg (by omega), if_neg (by omega), if_neg (by omega), if_neg (by omega)]
theorem ruW_f {m : eW} {pr so : Int} {ls : List Int} {ri : Option Int} {k : Nat} (h : k ≠ 6) : ruW m pr so ls ri 67 k = m 67 k := by
  unfold ruW
  rw [if_neg (by omega), if_neg (by omega), if_neg (by omega), if_neg (by omega), if_neg (by omega), if_neg (by omega), if_neg (by omega), if_neg (by omega)]
theorem ruW_6 {m : eW} {pr so : Int} {ls : List Int} {ri : Option Int} : ruW m pr so ls ri 67 6 = m 67 6 + 1 := by
  unfold ruW
  rw [if_neg (by omega), if_neg (by omega), if_neg (by omega), if_neg (by omega), if_neg (by omega), if_neg (by omega), if_neg (by omega), if_pos ⟨rfl, rfl⟩]
theorem ruW_old {m : eW} {pr so : Int} {ls : List Int} {ri : Option Int} {a e : Nat} (ha : 72 ≤ a ∧ a ≤ 75) (h : e < nR m) : ruW m pr so ls ri a e = m a e := by
  unfold ruW
  rw [if_neg (by omega), if_neg (by omega), if_neg (by omega), if_neg (by omega), if_neg (by omega), if_neg (by omega), if_neg (by omega), if_neg (by omega)]
theorem ruW_oldf {m : eW} {pr so : Int} {ls : List Int} {ri : Option Int} {j : Nat} (h : j < 3 * nR m) : ruW m pr so ls ri 76 j = m 76 j := by
  unfold ruW
  rw [if_neg (by omega), if_neg (by omega), if_neg (by omega), if_neg (by omega), if_neg (by omega), if_neg (by omega), if_neg (by omega), if_neg (by omega)]
theorem ruW_new {m : eW} {pr so : Int} {ls : List Int} {ri : Option Int} : ruW m pr so ls ri 72 (nR m) = pr ∧ ruW m pr so ls ri 73 (nR m) = so ∧ ruW m pr so ls ri 74 (nR m) = (ls.length : Int) ∧ ruW m pr so ls ri 75 (nR m) = (if ri.isSome = true then 1 else 0) ∧ ruW m pr so ls ri 76 (3 * nR m) = ls.getD 0 0 ∧ ruW m pr so ls ri 76 (3 * nR m + 1) = ls.getD 1 0 ∧ ruW m pr so ls ri 76 (3 * nR m + 2) = ri.getD 0 := by
  unfold ruW
  refine ⟨?_, ?_, ?_, ?_, ?_, ?_, ?_⟩
  · rw [if_pos ⟨rfl, rfl⟩]
  · rw [if_neg (by omega), if_pos ⟨rfl, rfl⟩]
  · rw [if_neg (by omega), if_neg (by omega), if_pos ⟨rfl, rfl⟩]
  · rw [if_neg (by omega), if_neg (by omega), if_neg (by omega), if_pos ⟨rfl, rfl⟩]
  · rw [if_neg (by omega), if_neg (by omega), if_neg (by omega), if_neg (by omega), if_pos ⟨rfl, rfl⟩]
  · rw [if_neg (by omega), if_neg (by omega), if_neg (by omega), if_neg (by omega), if_neg (by omega), if_pos ⟨rfl, rfl⟩]
  · rw [if_neg (by omega), if_neg (by omega), if_neg (by omega), if_neg (by omega), if_neg (by omega), if_neg (by omega), if_pos ⟨rfl, rfl⟩]
theorem ruW_mi {w1 w4 m : eW} {ks : kT} {rl : List Int} {pr so : Int} {ls : List Int} {ri : Option Int} (h : MI w1 m ks rl []) (hp : 0 ≤ pr ∧ pr < m 67 0) (hso : 0 ≤ so ∧ so ≤ 3) (hl : LsB m ls) (hri : ∀ v, ri = some v → PT m v) (hn : nR m < 8) (hf : Fm [72, 73, 74, 75, 76] [6] w1 w4) (e6 : w4 67 6 = m 67 6 + 1)
    (old : ∀ a e, 72 ≤ a → a ≤ 75 → e < nR m → w4 a e = w1 a e) (oldf : ∀ j, j < 3 * nR m → w4 76 j = w1 76 j) (new : w4 72 (nR m) = pr ∧ w4 73 (nR m) = so ∧ w4 74 (nR m) = (ls.length : Int) ∧ w4 75 (nR m) = (if ri.isSome = true then 1 else 0)) (newf : (1 ≤ ls.length → w4 76 (3 * nR m) = ls.getD 0 0) ∧ (ls.length = 2 → w4 76 (3 * nR m + 1) = ls.getD 1 0) ∧ ∀ v, ri = some v → w4 76 (3 * nR m + 2) = v) : MI w4 (ruW m pr so ls ri) ks rl [] := by
  obtain ⟨⟨⟨a1, a2, a3, a4⟩, g2, g3⟩, h2, h3, h4, h5, h6, h7⟩ := h
  have hnr := a2.n
  have q := ruW_new (m := m) (pr := pr) (so := so) (ls := ls) (ri := ri)
  have n1 : nR (ruW m pr so ls ri) = nR m + 1 := by
    show (ruW m pr so ls ri 67 6).toNat = _
    rw [ruW_6]
    omega
  have nP1 : nP (ruW m pr so ls ri) = nP m := by
    show (ruW m pr so ls ri 67 0).toNat = (m 67 0).toNat
    rw [ruW_f (by decide)]
  have nS1 : nS (ruW m pr so ls ri) = nS m := by
    show (ruW m pr so ls ri 67 3).toNat = (m 67 3).toNat
    rw [ruW_f (by decide)]
  have nE1 : nE (ruW m pr so ls ri) = nE m := by
    show (ruW m pr so ls ri 67 12).toNat = (m 67 12).toNat
    rw [ruW_f (by decide)]
  have pt : ∀ x, PT m x → PT (ruW m pr so ls ri) x := fun x hx => by unfold PT at *; rw [nP1]; exact hx
  have wfp : WFp (ruW m pr so ls ri) := by
    unfold WFp at *
    rw [nP1, ruW_f (by decide), ruW_o (by decide), ruW_o (by decide)]
    exact a1
  have wfr : WFr (ruW m pr so ls ri) := by
    refine ⟨⟨by rw [ruW_6]; omega, by rw [ruW_6]; omega⟩, fun r hr => ?_⟩
    rw [n1] at hr
    rw [ruW_f (by decide), nP1]
    by_cases h9 : r = nR m
    · subst h9
      rw [q.1, q.2.1, q.2.2.1, q.2.2.2.1, q.2.2.2.2.1, q.2.2.2.2.2.1, q.2.2.2.2.2.2]
      have hl1 := hl.1
      refine ⟨hp, hso, ⟨by omega, by omega⟩, ?_, fun h9 => pt _ (hl.2.1 (by omega)), fun h9 => hl.2.2 (by omega), fun h9 => ?_⟩
      · cases ri with
        | none => exact ⟨by decide, by decide⟩
        | some v => exact ⟨by show (0 : Int) ≤ 1; decide, by show (1 : Int) ≤ 1; decide⟩
      · cases ri with
        | none => simp at h9
        | some v => exact pt _ (hri v rfl)
    · have hr' : r < nR m := by omega
      have b := a2.2 r hr'
      rw [ruW_old (by decide) hr', ruW_old (by decide) hr', ruW_old (by decide) hr', ruW_old (by decide) hr', ruW_oldf (by omega), ruW_oldf (by omega), ruW_oldf (by omega)]
      exact ⟨b.1, b.2.1, b.2.2.1, b.2.2.2.1, fun h9 => pt _ (b.2.2.2.2.1 h9), b.2.2.2.2.2.1, fun h9 => pt _ (b.2.2.2.2.2.2 h9)⟩
  have mgp : MGp w4 (ruW m pr so ls ri) := by
    unfold MGp at *
    rw [nP1, ruW_f (by decide), ruW_o (by decide), ruW_o (by decide), hf.2 0 (by decide), hf.1 68 (by decide) (by decide), hf.1 69 (by decide) (by decide)]
    exact a3
  have mgr : MGr w4 (ruW m pr so ls ri) := by
    refine ⟨by rw [ruW_6]; exact e6, fun r hr => ?_⟩
    rw [n1] at hr
    by_cases h9 : r = nR m
    · subst h9
      rw [q.1, q.2.1, q.2.2.1, q.2.2.2.1, q.2.2.2.2.1, q.2.2.2.2.2.1, q.2.2.2.2.2.2]
      refine ⟨new.1, new.2.1, new.2.2.1, new.2.2.2, fun h9 => newf.1 (by omega), fun h9 => newf.2.1 (by omega), fun h9 => ?_⟩
      cases ri with
      | none => simp at h9
      | some v => exact newf.2.2 v rfl
    · have hr' : r < nR m := by omega
      have b := a4.2 r hr'
      rw [ruW_old (by decide) hr', ruW_old (by decide) hr', ruW_old (by decide) hr', ruW_old (by decide) hr', ruW_oldf (by omega), ruW_oldf (by omega), ruW_oldf (by omega), old 72 r (by decide) (by decide) hr', old 73 r (by decide) (by decide) hr', old 74 r (by decide) (by decide) hr', old 75 r (by decide) (by decide) hr', oldf _ (by omega), oldf _ (by omega), oldf _ (by omega)]
      exact b
  have wfe : WFe (ruW m pr so ls ri) := by
    unfold WFe at *
    rw [nE1, ruW_f (by decide), ruW_o (by decide), ruW_o (by decide), ruW_o (by decide), ruW_o (by decide)]
    exact g2
  have mge : MGe w4 (ruW m pr so ls ri) := by
    unfold MGe at *
    rw [nE1, ruW_f (by decide), ruW_o (by decide), ruW_o (by decide), ruW_o (by decide), ruW_o (by decide), hf.2 12 (by decide), hf.1 77 (by decide) (by decide), hf.1 78 (by decide) (by decide), hf.1 79 (by decide) (by decide), hf.1 80 (by decide) (by decide)]
    exact g3
  refine ⟨⟨⟨wfp, wfr, mgp, mgr⟩, wfe, mge⟩, ?_, ?_, h4.m hf (by decide) (by decide), h5.m hf (by decide) (by decide), TxM.nil (by rw [hf.2 23 (by decide)]; exact h6.1), by rw [hf.2 35 (by decide)]; exact h7⟩
  · unfold WFs at *
    rw [nS1, ruW_f (by decide), ruW_o (by decide), ruW_o (by decide)]
    exact h2
  · unfold MGs at *
    rw [nS1, ruW_f (by decide), ruW_o (by decide), ruW_o (by decide), hf.2 3 (by decide), hf.1 70 (by decide) (by decide), hf.1 71 (by decide) (by decide)]
    exact h3

theorem g_mrule0 {d : Nat} {Q : Option aV → aS → Prop} {w : eW} {t : eT} {tx : List Int} {m : eW} (h : (Px (wu (wu (wu (wu (wu w 67 26 0) 67 27 (w 67 23)) 67 23 0) 67 28 0) 67 29 (-1)) tx) ∧ (∀ x1 w2, (Px w2 tx ∧ Fm [] [28, 29] (wu (wu (wu (wu (wu w 67 26 0) 67 27 (w 67 23)) 67 23 0) 67 28 0) 67 29 (-1)) w2 ∧ stW w2 = stE (bnd (stW (wu (wu (wu (wu (wu w 67 26 0) 67 27 (w 67 23)) 67 23 0) 67 28 0) 67 29 (-1))) (rdS tx)) ∧ rvO (bnd (stW (wu (wu (wu (wu (wu w 67 26 0) 67 27 (w 67 23)) 67 23 0) 67 28 0) 67 29 (-1))) (rdS tx)) x1 ∧ -1 ≤ x1 ∧ x1 ≤ 27) → (Px w2 tx ∧ (0 : Int) ≤ 58 ∧ (58 : Int) ≤ 255) ∧ (∀ w3, (Px w3 tx ∧ Fm [] [28, 29] w2 w3 ∧ stW w3 = exS tx (stW w2) 58) → (Px w3 tx) ∧ (∀ x4 w5, (Px w5 tx ∧ Fm [] [28, 29] w3 w5 ∧ stW w5 = stE (bnd (stW w3) (rdS tx)) ∧ rvO (bnd (stW w3) (rdS tx)) x4 ∧ -1 ≤ x4 ∧ x4 ≤ 27) → (Px w5 tx) ∧ (∀ x6 w7, (Px w7 tx ∧ Fm [] [28, 29] w5 w7 ∧ stW w7 = stE (bnd (stW w5) (rdO tx)) ∧ rvO (bnd (stW w5) (rdO tx)) x6 ∧ 0 ≤ x6 ∧ x6 ≤ 3) → Ev (d + 6) 191 Q 33 [rA 67, (0, x1), (0, x4), (0, x6), (0, 0), (9, 0), (9, 0), (9, 0)] [] (enc w7 t)))))) : Cl (d + 6) 191 [rA 67] (enc w t) Q := by
  show Ev (d + 6) 191 Q 0 [rA 67, (9, 0), (9, 0), (9, 0), (9, 0), (9, 0), (9, 0), (9, 0)] [] (enc w t)
  refine e_lda (v := 67) (show am_cd 191 0 = (2, 1, 0, 2, []) by decide +kernel) rfl ?_
  refine e_ic (show am_cd 191 1 = (0, 2, 0, 0, []) by decide +kernel) ?_
  refine e_putf (a := 67) (show am_cd 191 2 = (19, 5, 1226, 0, [113]) by decide +kernel) (by decide +kernel) (by decide +kernel) rfl (fun h9 => absurd h9 (by decide)) (fun h9 => absurd h9 (by decide +kernel)) ?_
  refine e_lda (v := 67) (show am_cd 191 5 = (2, 6, 0, 2, []) by decide +kernel) rfl ?_
  refine e_cV (z := 0) (a := 67) (as := []) (rest := []) (show am_cd 191 6 = (40, 9, 170, 0, [171]) by decide +kernel) (by decide +kernel) rfl rfl (Nat.le_of_ble_eq_true rfl) rfl ?_
  show Ev _ 170 _ 0 [rA 67] [] _
  refine e_lda (v := 67) (show am_cd 170 0 = (2, 1, 0, 2, []) by decide +kernel) rfl ?_
  refine e_lda (v := 67) (show am_cd 170 1 = (2, 2, 0, 2, []) by decide +kernel) rfl ?_
  refine e_getfE (a := 67) (tg := 0) (v := w 67 23) (show am_cd 170 2 = (18, 5, 1223, 0, [119]) by decide +kernel) (by decide +kernel) (by decide +kernel) rfl rfl ?_
  refine e_putf (a := 67) (show am_cd 170 5 = (19, 8, 1227, 0, [126]) by decide +kernel) (by decide +kernel) (by decide +kernel) rfl (fun h9 => absurd h9 (by decide)) (fun h9 => absurd h9 (by decide +kernel)) ?_
  refine e_lda (v := 67) (show am_cd 170 8 = (2, 9, 0, 2, []) by decide +kernel) rfl ?_
  refine e_ic (show am_cd 170 9 = (0, 10, 0, 0, []) by decide +kernel) ?_
  refine e_putf (a := 67) (show am_cd 170 10 = (19, 13, 1223, 0, [119]) by decide +kernel) (by decide +kernel) (by decide +kernel) rfl (fun h9 => absurd h9 (by decide)) (fun h9 => absurd h9 (by decide +kernel)) ?_
  refine e_lda (v := 67) (show am_cd 170 13 = (2, 14, 0, 2, []) by decide +kernel) rfl ?_
  refine e_ic (show am_cd 170 14 = (0, 15, 0, 0, []) by decide +kernel) ?_
  refine e_putf (a := 67) (show am_cd 170 15 = (19, 18, 1228, 0, [129]) by decide +kernel) (by decide +kernel) (by decide +kernel) rfl (fun h9 => absurd h9 (by decide)) (fun h9 => absurd h9 (by decide +kernel)) ?_
  refine e_lda (v := 67) (show am_cd 170 18 = (2, 19, 0, 2, []) by decide +kernel) rfl ?_
  refine e_ic (show am_cd 170 19 = (0, 20, 0, -1, []) by decide +kernel) ?_
  refine e_putf (a := 67) (show am_cd 170 20 = (19, 23, 1229, 0, [132]) by decide +kernel) (by decide +kernel) (by decide +kernel) rfl (fun h9 => absurd h9 (by decide)) (fun h9 => absurd h9 (by decide +kernel)) ?_
  refine e_retv (show am_cd 170 23 = (36, 24, 3, 0, []) by decide +kernel) (by decide +kernel) ⟨fun _ h9 => (by cases h9), ?_⟩
  show Ev _ 191 _ 9 [rA 67, (9, 0), (9, 0), (9, 0), (9, 0), (9, 0), (9, 0), (9, 0)] [] _
  refine e_lda (v := 67) (show am_cd 191 9 = (2, 10, 0, 2, []) by decide +kernel) rfl ?_
  refine e_cV (z := 0) (a := 67) (as := []) (rest := []) (show am_cd 191 10 = (40, 13, 181, 0, [158]) by decide +kernel) (by decide +kernel) rfl rfl (Nat.le_of_ble_eq_true rfl) rfl ?_
  refine Cl.mono (Cl.up (c_readSign (d := d) h.1) (by omega)) ?_
  rintro _ _ ⟨x1, w2, rfl, rfl, hp⟩
  refine ⟨fun _ h9 => (by cases h9), ?_⟩
  replace h := h.2 x1 w2 hp
  show Ev _ 191 _ 13 [rA 67, (9, 0), (9, 0), (9, 0), (9, 0), (9, 0), (9, 0), (9, 0)] [(0, x1)] _
  refine e_sti (la2 := [rA 67, (0, x1), (9, 0), (9, 0), (9, 0), (9, 0), (9, 0), (9, 0)]) (show am_cd 191 13 = (3, 14, 1, 0, []) by decide +kernel) rfl ?_
  refine e_lda (v := 67) (show am_cd 191 14 = (2, 15, 0, 2, []) by decide +kernel) rfl ?_
  refine e_ic (show am_cd 191 15 = (0, 17, 1, 58, []) by decide +kernel) ?_
  refine e_cV (z := 0) (a := 67) (as := [(0, 58)]) (rest := []) (show am_cd 191 17 = (40, 20, 175, 0, [161]) by decide +kernel) (by decide +kernel) rfl rfl (Nat.le_of_ble_eq_true rfl) rfl ?_
  refine Cl.mono (Cl.up (c_expect (d := d) h.1) (by omega)) ?_
  rintro _ _ ⟨w3, rfl, rfl, hp⟩
  refine ⟨fun _ h9 => (by cases h9), ?_⟩
  replace h := h.2 w3 hp
  show Ev _ 191 _ 20 [rA 67, (0, x1), (9, 0), (9, 0), (9, 0), (9, 0), (9, 0), (9, 0)] [] _
  refine e_lda (v := 67) (show am_cd 191 20 = (2, 21, 0, 2, []) by decide +kernel) rfl ?_
  refine e_cV (z := 0) (a := 67) (as := []) (rest := []) (show am_cd 191 21 = (40, 24, 181, 0, [158]) by decide +kernel) (by decide +kernel) rfl rfl (Nat.le_of_ble_eq_true rfl) rfl ?_
  refine Cl.mono (Cl.up (c_readSign (d := d) h.1) (by omega)) ?_
  rintro _ _ ⟨x4, w5, rfl, rfl, hp⟩
  refine ⟨fun _ h9 => (by cases h9), ?_⟩
  replace h := h.2 x4 w5 hp
  show Ev _ 191 _ 24 [rA 67, (0, x1), (9, 0), (9, 0), (9, 0), (9, 0), (9, 0), (9, 0)] [(0, x4)] _
  refine e_sti (la2 := [rA 67, (0, x1), (0, x4), (9, 0), (9, 0), (9, 0), (9, 0), (9, 0)]) (show am_cd 191 24 = (3, 25, 2, 0, []) by decide +kernel) rfl ?_
  refine e_lda (v := 67) (show am_cd 191 25 = (2, 26, 0, 2, []) by decide +kernel) rfl ?_
  refine e_cV (z := 0) (a := 67) (as := []) (rest := []) (show am_cd 191 26 = (40, 29, 190, 0, [208]) by decide +kernel) (by decide +kernel) rfl rfl (Nat.le_of_ble_eq_true rfl) rfl ?_
  refine Cl.mono (Cl.up (c_readSort (d := d) h.1) (by omega)) ?_
  rintro _ _ ⟨x6, w7, rfl, rfl, hp⟩
  refine ⟨fun _ h9 => (by cases h9), ?_⟩
  replace h := h.2 x6 w7 hp
  show Ev _ 191 _ 29 [rA 67, (0, x1), (0, x4), (9, 0), (9, 0), (9, 0), (9, 0), (9, 0)] [(0, x6)] _
  refine e_sti (la2 := [rA 67, (0, x1), (0, x4), (0, x6), (9, 0), (9, 0), (9, 0), (9, 0)]) (show am_cd 191 29 = (3, 30, 3, 0, []) by decide +kernel) rfl ?_
  refine e_ic (show am_cd 191 30 = (0, 31, 0, 0, []) by decide +kernel) ?_
  refine e_sti (la2 := [rA 67, (0, x1), (0, x4), (0, x6), (0, 0), (9, 0), (9, 0), (9, 0)]) (show am_cd 191 31 = (3, 33, 4, 0, []) by decide +kernel) rfl ?_
  exact h

theorem g_mrule1 {d : Nat} {Q : Option aV → aS → Prop} {w : eW} {t : eT} {u l so n : Int} {tx : List Int} {m : eW} (h : ((¬ w32 (w 67 29) = w32 (-1) → Ev (d + 6) 191 Q 83 [rA 67, (0, u), (0, l), (0, so), (0, n), (9, 0), (9, 0), (9, 0)] [] (enc w t)) ∧ (¬ (¬ w32 (w 67 29) = w32 (-1)) → ((w32 2 ≤ w32 n → Ev (d + 6) 191 Q 83 [rA 67, (0, u), (0, l), (0, so), (0, n), (9, 0), (9, 0), (9, 0)] [] (enc w t)) ∧ (¬ (w32 2 ≤ w32 n) → (Px w tx) ∧ ((w32 (hrI tx (w 67 28)) = w32 95 → Ev (d + 6) 191 Q 83 [rA 67, (0, u), (0, l), (0, so), (0, n), (9, 0), (9, 0), (9, 0)] [] (enc w t)) ∧ (¬ (w32 (hrI tx (w 67 28)) = w32 95) → ((¬ w32 n = 0 → (Px w tx ∧ WFs m ∧ MGs w m ∧ MG w m ∧ ((0 : Int) = 0 ∨ (0 : Int) = 1)) ∧ (∀ x1 w2, (Px w2 tx ∧ Fm [] [28, 29] w w2 ∧ stW w2 = stE (bnd (stW w) (rdT m tx 0)) ∧ rvO (bnd (stW w) (rdT m tx 0)) x1 ∧ 0 ≤ x1 ∧ x1 ≤ 65536) → (0 ≤ w32 n ∧ w32 n < 3) ∧ (Ev (d + 6) 191 Q 33 [rA 67, (0, u), (0, l), (0, so), (0, n + 1), (9, 0), (9, 0), (9, 0)] [] (enc (wu w2 89 (w32 n).toNat x1) t)))) ∧ (¬ (¬ w32 n = 0) → (Px w tx ∧ WFs m ∧ MGs w m ∧ MG w m ∧ ((1 : Int) = 0 ∨ (1 : Int) = 1)) ∧ (∀ x3 w4, (Px w4 tx ∧ Fm [] [28, 29] w w4 ∧ stW w4 = stE (bnd (stW w) (rdT m tx 1)) ∧ rvO (bnd (stW w) (rdT m tx 1)) x3 ∧ 0 ≤ x3 ∧ x3 ≤ 65536) → (0 ≤ w32 n ∧ w32 n < 3) ∧ (Ev (d + 6) 191 Q 33 [rA 67, (0, u), (0, l), (0, so), (0, n + 1), (9, 0), (9, 0), (9, 0)] [] (enc (wu w4 89 (w32 n).toNat x3) t)))))))))))) : Ev (d + 6) 191 Q 33 [rA 67, (0, u), (0, l), (0, so), (0, n), (9, 0), (9, 0), (9, 0)] [] (enc w t) := by
  refine e_lda (v := 67) (show am_cd 191 33 = (2, 34, 0, 2, []) by decide +kernel) rfl ?_
  refine e_getf (a := 67) (tg := 0) (show am_cd 191 34 = (18, 37, 1229, 0, [132]) by decide +kernel) (by decide +kernel) (by decide +kernel) rfl ?_
  refine e_ic (show am_cd 191 37 = (0, 38, 0, -1, []) by decide +kernel) ?_
  refine e_cmp1 (show am_cd 191 38 = (11, 41, 83, 1, []) by decide +kernel) (fun hc => ?_) (fun hc => ?_)
  · replace h := h.1 hc
    exact h
  · replace h := h.2 hc
    refine e_ldi (show am_cd 191 41 = (2, 43, 4, 0, []) by decide +kernel) rfl ?_
    refine e_ic (show am_cd 191 43 = (0, 44, 0, 2, []) by decide +kernel) ?_
    refine e_cmp3 (show am_cd 191 44 = (11, 47, 83, 3, []) by decide +kernel) (fun hc => ?_) (fun hc => ?_)
    · replace h := h.1 hc
      exact h
    · replace h := h.2 hc
      refine e_lda (v := 67) (show am_cd 191 47 = (2, 48, 0, 2, []) by decide +kernel) rfl ?_
      refine e_cV (z := 0) (a := 67) (as := []) (rest := []) (show am_cd 191 48 = (40, 51, 171, 0, [135]) by decide +kernel) (by decide +kernel) rfl rfl (Nat.le_of_ble_eq_true rfl) rfl ?_
      refine Cl.mono (Cl.up (c_here (d := d) h.1) (by omega)) ?_
      rintro _ _ ⟨rfl, rfl⟩
      refine ⟨fun _ h9 => (by cases h9), ?_⟩
      replace h := h.2
      show Ev _ 191 _ 51 [rA 67, (0, u), (0, l), (0, so), (0, n), (9, 0), (9, 0), (9, 0)] [(0, hrI tx (w 67 28))] _
      refine e_ic (show am_cd 191 51 = (0, 53, 1, 95, []) by decide +kernel) ?_
      refine e_cmp0 (show am_cd 191 53 = (11, 56, 83, 0, []) by decide +kernel) (fun hc => ?_) (fun hc => ?_)
      · replace h := h.1 hc
        exact h
      · replace h := h.2 hc
        refine e_lda (v := 67) (show am_cd 191 56 = (2, 57, 0, 2, []) by decide +kernel) rfl ?_
        refine e_getr (a := 67) (r := 89) (show am_cd 191 57 = (18, 60, 1232, 2, [75]) by decide +kernel) (by decide +kernel) (by decide +kernel) rfl ?_
        refine e_ldi (show am_cd 191 60 = (2, 62, 4, 0, []) by decide +kernel) rfl ?_
        refine e_lda (v := 67) (show am_cd 191 62 = (2, 63, 0, 2, []) by decide +kernel) rfl ?_
        refine e_ldi (show am_cd 191 63 = (2, 65, 4, 0, []) by decide +kernel) rfl ?_
        refine e_if1 (show am_cd 191 65 = (10, 68, 72, 1, []) by decide +kernel) (fun hc => ?_) (fun hc => ?_)
        · replace h := h.1 hc
          refine e_ic (show am_cd 191 72 = (0, 73, 0, 0, []) by decide +kernel) ?_
          refine e_cV (z := 0) (a := 67) (as := [(0, 0)]) (rest := [(0, n), rA 89]) (show am_cd 191 73 = (40, 76, 189, 0, [211]) by decide +kernel) (by decide +kernel) rfl rfl (Nat.le_of_ble_eq_true rfl) rfl ?_
          refine Cl.mono (Cl.up (c_readPart (d := d) h.1) (by omega)) ?_
          rintro _ _ ⟨x1, w2, rfl, rfl, hp⟩
          refine ⟨fun _ h9 => (by cases h9), ?_⟩
          replace h := h.2 x1 w2 hp
          show Ev _ 191 _ 76 [rA 67, (0, u), (0, l), (0, so), (0, n), (9, 0), (9, 0), (9, 0)] [(0, x1), (0, n), rA 89] _
          refine e_iast (a := 89) (n := 3) (show am_cd 191 76 = (24, 77, 0, 0, []) by decide +kernel) (by decide +kernel) (by decide +kernel) (by decide +kernel) h.1 ?_
          replace h := h.2
          refine e_inc (la2 := [rA 67, (0, u), (0, l), (0, so), (0, n + 1), (9, 0), (9, 0), (9, 0)]) (show am_cd 191 77 = (4, 80, 4, 1, []) by decide +kernel) rfl rfl ?_
          refine e_go (show am_cd 191 80 = (12, 33, 0, 0, []) by decide +kernel) ?_
          exact h
        · replace h := h.2 hc
          refine e_ic (show am_cd 191 68 = (0, 69, 0, 1, []) by decide +kernel) ?_
          refine e_go (show am_cd 191 69 = (12, 73, 0, 0, []) by decide +kernel) ?_
          refine e_cV (z := 0) (a := 67) (as := [(0, 1)]) (rest := [(0, n), rA 89]) (show am_cd 191 73 = (40, 76, 189, 0, [211]) by decide +kernel) (by decide +kernel) rfl rfl (Nat.le_of_ble_eq_true rfl) rfl ?_
          refine Cl.mono (Cl.up (c_readPart (d := d) h.1) (by omega)) ?_
          rintro _ _ ⟨x3, w4, rfl, rfl, hp⟩
          refine ⟨fun _ h9 => (by cases h9), ?_⟩
          replace h := h.2 x3 w4 hp
          show Ev _ 191 _ 76 [rA 67, (0, u), (0, l), (0, so), (0, n), (9, 0), (9, 0), (9, 0)] [(0, x3), (0, n), rA 89] _
          refine e_iast (a := 89) (n := 3) (show am_cd 191 76 = (24, 77, 0, 0, []) by decide +kernel) (by decide +kernel) (by decide +kernel) (by decide +kernel) h.1 ?_
          replace h := h.2
          refine e_inc (la2 := [rA 67, (0, u), (0, l), (0, so), (0, n + 1), (9, 0), (9, 0), (9, 0)]) (show am_cd 191 77 = (4, 80, 4, 1, []) by decide +kernel) rfl rfl ?_
          refine e_go (show am_cd 191 80 = (12, 33, 0, 0, []) by decide +kernel) ?_
          exact h

theorem g_mrule2 {d : Nat} {Q : Option aV → aS → Prop} {w : eW} {t : eT} {u l so n : Int} {tx : List Int} {m : eW} (h : (Px w tx ∧ (0 : Int) ≤ 95 ∧ (95 : Int) ≤ 255) ∧ (∀ w1, (Px w1 tx ∧ Fm [] [28, 29] w w1 ∧ stW w1 = exS tx (stW w) 95) → ((¬ w32 (w1 67 29) = w32 (-1) → Ev (d + 6) 191 Q 125 [rA 67, (0, u), (0, l), (0, so), (0, n), (0, 0), (9, 0), (9, 0)] [] (enc w1 t)) ∧ (¬ (¬ w32 (w1 67 29) = w32 (-1)) → ((w32 (w1 67 27) ≤ w32 (w1 67 28) → Ev (d + 6) 191 Q 125 [rA 67, (0, u), (0, l), (0, so), (0, n), (0, 0), (9, 0), (9, 0)] [] (enc w1 t)) ∧ (¬ (w32 (w1 67 27) ≤ w32 (w1 67 28)) → (Px w1 tx ∧ WFs m ∧ MGs w1 m ∧ MG w1 m ∧ ((1 : Int) = 0 ∨ (1 : Int) = 1)) ∧ (∀ x2 w3, (Px w3 tx ∧ Fm [] [28, 29] w1 w3 ∧ stW w3 = stE (bnd (stW w1) (rdT m tx 1)) ∧ rvO (bnd (stW w1) (rdT m tx 1)) x2 ∧ 0 ≤ x2 ∧ x2 ≤ 65536) → Ev (d + 6) 191 Q 125 [rA 67, (0, u), (0, l), (0, so), (0, n), (0, 1), (9, 0), (9, 0)] [] (enc (wu w3 89 2 x2) t)))))))) : Ev (d + 6) 191 Q 83 [rA 67, (0, u), (0, l), (0, so), (0, n), (9, 0), (9, 0), (9, 0)] [] (enc w t) := by
  refine e_lda (v := 67) (show am_cd 191 83 = (2, 84, 0, 2, []) by decide +kernel) rfl ?_
  refine e_ic (show am_cd 191 84 = (0, 86, 1, 95, []) by decide +kernel) ?_
  refine e_cV (z := 0) (a := 67) (as := [(0, 95)]) (rest := []) (show am_cd 191 86 = (40, 89, 175, 0, [161]) by decide +kernel) (by decide +kernel) rfl rfl (Nat.le_of_ble_eq_true rfl) rfl ?_
  refine Cl.mono (Cl.up (c_expect (d := d) h.1) (by omega)) ?_
  rintro _ _ ⟨w1, rfl, rfl, hp⟩
  refine ⟨fun _ h9 => (by cases h9), ?_⟩
  replace h := h.2 w1 hp
  show Ev _ 191 _ 89 [rA 67, (0, u), (0, l), (0, so), (0, n), (9, 0), (9, 0), (9, 0)] [] _
  refine e_ic (show am_cd 191 89 = (0, 90, 0, 0, []) by decide +kernel) ?_
  refine e_sti (la2 := [rA 67, (0, u), (0, l), (0, so), (0, n), (0, 0), (9, 0), (9, 0)]) (show am_cd 191 90 = (3, 92, 5, 0, []) by decide +kernel) rfl ?_
  refine e_lda (v := 67) (show am_cd 191 92 = (2, 93, 0, 2, []) by decide +kernel) rfl ?_
  refine e_getf (a := 67) (tg := 0) (show am_cd 191 93 = (18, 96, 1229, 0, [132]) by decide +kernel) (by decide +kernel) (by decide +kernel) rfl ?_
  refine e_ic (show am_cd 191 96 = (0, 97, 0, -1, []) by decide +kernel) ?_
  refine e_cmp1 (show am_cd 191 97 = (11, 100, 125, 1, []) by decide +kernel) (fun hc => ?_) (fun hc => ?_)
  · replace h := h.1 hc
    exact h
  · replace h := h.2 hc
    refine e_lda (v := 67) (show am_cd 191 100 = (2, 101, 0, 2, []) by decide +kernel) rfl ?_
    refine e_getf (a := 67) (tg := 0) (show am_cd 191 101 = (18, 104, 1228, 0, [129]) by decide +kernel) (by decide +kernel) (by decide +kernel) rfl ?_
    refine e_lda (v := 67) (show am_cd 191 104 = (2, 105, 0, 2, []) by decide +kernel) rfl ?_
    refine e_getf (a := 67) (tg := 0) (show am_cd 191 105 = (18, 108, 1227, 0, [126]) by decide +kernel) (by decide +kernel) (by decide +kernel) rfl ?_
    refine e_cmp3 (show am_cd 191 108 = (11, 111, 125, 3, []) by decide +kernel) (fun hc => ?_) (fun hc => ?_)
    · replace h := h.1 hc
      exact h
    · replace h := h.2 hc
      refine e_lda (v := 67) (show am_cd 191 111 = (2, 112, 0, 2, []) by decide +kernel) rfl ?_
      refine e_getr (a := 67) (r := 89) (show am_cd 191 112 = (18, 115, 1232, 2, [75]) by decide +kernel) (by decide +kernel) (by decide +kernel) rfl ?_
      refine e_ic (show am_cd 191 115 = (0, 116, 0, 2, []) by decide +kernel) ?_
      refine e_lda (v := 67) (show am_cd 191 116 = (2, 117, 0, 2, []) by decide +kernel) rfl ?_
      refine e_ic (show am_cd 191 117 = (0, 118, 0, 1, []) by decide +kernel) ?_
      refine e_cV (z := 0) (a := 67) (as := [(0, 1)]) (rest := [(0, 2), rA 89]) (show am_cd 191 118 = (40, 121, 189, 0, [211]) by decide +kernel) (by decide +kernel) rfl rfl (Nat.le_of_ble_eq_true rfl) rfl ?_
      refine Cl.mono (Cl.up (c_readPart (d := d) h.1) (by omega)) ?_
      rintro _ _ ⟨x2, w3, rfl, rfl, hp⟩
      refine ⟨fun _ h9 => (by cases h9), ?_⟩
      replace h := h.2 x2 w3 hp
      show Ev _ 191 _ 121 [rA 67, (0, u), (0, l), (0, so), (0, n), (0, 0), (9, 0), (9, 0)] [(0, x2), (0, 2), rA 89] _
      refine e_iastK (a := 89) (n := 3) (j := 2) (show am_cd 191 121 = (24, 122, 0, 0, []) by decide +kernel) (by decide +kernel) (by decide +kernel) (by decide +kernel) (by decide +kernel) (by decide +kernel) ?_
      refine e_ic (show am_cd 191 122 = (0, 123, 0, 1, []) by decide +kernel) ?_
      refine e_sti (la2 := [rA 67, (0, u), (0, l), (0, so), (0, n), (0, 1), (9, 0), (9, 0)]) (show am_cd 191 123 = (3, 125, 5, 0, []) by decide +kernel) rfl ?_
      exact h

theorem g_mrule3 {d : Nat} {Q : Option aV → aS → Prop} {w : eW} {t : eT} {u l so n ri : Int} {tx : List Int} (h : ((¬ w32 (w 67 29) = w32 (-1) → Ev (d + 6) 191 Q 137 [rA 67, (0, u), (0, l), (0, so), (0, n), (0, ri), (9, 0), (9, 0)] [] (enc w t)) ∧ (¬ (¬ w32 (w 67 29) = w32 (-1)) → (Px w tx) ∧ (∀ w1, (Px w1 tx ∧ Fm [] [28, 29] w w1 ∧ stW w1 = enS tx (stW w)) → Ev (d + 6) 191 Q 137 [rA 67, (0, u), (0, l), (0, so), (0, n), (0, ri), (9, 0), (9, 0)] [] (enc w1 t))))) : Ev (d + 6) 191 Q 125 [rA 67, (0, u), (0, l), (0, so), (0, n), (0, ri), (9, 0), (9, 0)] [] (enc w t) := by
  refine e_lda (v := 67) (show am_cd 191 125 = (2, 126, 0, 2, []) by decide +kernel) rfl ?_
  refine e_getf (a := 67) (tg := 0) (show am_cd 191 126 = (18, 129, 1229, 0, [132]) by decide +kernel) (by decide +kernel) (by decide +kernel) rfl ?_
  refine e_ic (show am_cd 191 129 = (0, 130, 0, -1, []) by decide +kernel) ?_
  refine e_cmp1 (show am_cd 191 130 = (11, 133, 137, 1, []) by decide +kernel) (fun hc => ?_) (fun hc => ?_)
  · replace h := h.1 hc
    exact h
  · replace h := h.2 hc
    refine e_lda (v := 67) (show am_cd 191 133 = (2, 134, 0, 2, []) by decide +kernel) rfl ?_
    refine e_cV (z := 0) (a := 67) (as := []) (rest := []) (show am_cd 191 134 = (40, 137, 176, 0, [165]) by decide +kernel) (by decide +kernel) rfl rfl (Nat.le_of_ble_eq_true rfl) rfl ?_
    refine Cl.mono (Cl.up (c_ends (d := d) h.1) (by omega)) ?_
    rintro _ _ ⟨w1, rfl, rfl, hp⟩
    refine ⟨fun _ h9 => (by cases h9), ?_⟩
    replace h := h.2 w1 hp
    show Ev _ 191 _ 137 [rA 67, (0, u), (0, l), (0, so), (0, n), (0, ri), (9, 0), (9, 0)] [] _
    exact h

theorem g_mrule4 {d : Nat} {Q : Option aV → aS → Prop} {w : eW} {t : eT} {u l so n ri : Int} {m : eW} (h : ((w32 (w 67 29) = w32 (-1) → ((¬ w32 u = w32 27 → (MG w m ∧ (-1 ≤ u ∧ u ≤ 27) ∧ (-1 ≤ l ∧ l ≤ 27)) ∧ (Ev (d + 6) 191 Q 174 [rA 67, (0, u), (0, l), (0, so), (0, n), (0, ri), (0, poI m u l), (9, 0)] [] (enc w t))) ∧ (¬ (¬ w32 u = w32 27) → ((¬ w32 l = w32 27 → (MG w m ∧ (-1 ≤ u ∧ u ≤ 27) ∧ (-1 ≤ l ∧ l ≤ 27)) ∧ (Ev (d + 6) 191 Q 174 [rA 67, (0, u), (0, l), (0, so), (0, n), (0, ri), (0, poI m u l), (9, 0)] [] (enc w t))) ∧ (¬ (¬ w32 l = w32 27) → Ev (d + 6) 191 Q 174 [rA 67, (0, u), (0, l), (0, so), (0, n), (0, ri), (0, (-1)), (9, 0)] [] (enc w t)))))) ∧ (¬ (w32 (w 67 29) = w32 (-1)) → Q (some (0, (-21) - (w 67 29))) (enc w t)))) : Ev (d + 6) 191 Q 137 [rA 67, (0, u), (0, l), (0, so), (0, n), (0, ri), (9, 0), (9, 0)] [] (enc w t) := by
  refine e_lda (v := 67) (show am_cd 191 137 = (2, 138, 0, 2, []) by decide +kernel) rfl ?_
  refine e_getf (a := 67) (tg := 0) (show am_cd 191 138 = (18, 141, 1229, 0, [132]) by decide +kernel) (by decide +kernel) (by decide +kernel) rfl ?_
  refine e_ic (show am_cd 191 141 = (0, 142, 0, -1, []) by decide +kernel) ?_
  refine e_cmp0 (show am_cd 191 142 = (11, 145, 150, 0, []) by decide +kernel) (fun hc => ?_) (fun hc => ?_)
  · replace h := h.1 hc
    refine e_ldi (show am_cd 191 150 = (2, 151, 1, 0, []) by decide +kernel) rfl ?_
    refine e_ic (show am_cd 191 151 = (0, 153, 1, 27, []) by decide +kernel) ?_
    refine e_cmp1 (show am_cd 191 153 = (11, 156, 166, 1, []) by decide +kernel) (fun hc => ?_) (fun hc => ?_)
    · replace h := h.1 hc
      refine e_lda (v := 67) (show am_cd 191 166 = (2, 167, 0, 2, []) by decide +kernel) rfl ?_
      refine e_ldi (show am_cd 191 167 = (2, 168, 1, 0, []) by decide +kernel) rfl ?_
      refine e_ldi (show am_cd 191 168 = (2, 169, 2, 0, []) by decide +kernel) rfl ?_
      refine e_cV (z := 0) (a := 67) (as := [(0, u), (0, l)]) (rest := []) (show am_cd 191 169 = (40, 172, 183, 0, [215]) by decide +kernel) (by decide +kernel) rfl rfl (Nat.le_of_ble_eq_true rfl) rfl ?_
      refine Cl.mono (Cl.up (c_pairOf (d := d) h.1) (by omega)) ?_
      rintro _ _ ⟨rfl, rfl⟩
      refine ⟨fun _ h9 => (by cases h9), ?_⟩
      replace h := h.2
      show Ev _ 191 _ 172 [rA 67, (0, u), (0, l), (0, so), (0, n), (0, ri), (9, 0), (9, 0)] [(0, poI m u l)] _
      refine e_sti (la2 := [rA 67, (0, u), (0, l), (0, so), (0, n), (0, ri), (0, poI m u l), (9, 0)]) (show am_cd 191 172 = (3, 174, 6, 0, []) by decide +kernel) rfl ?_
      exact h
    · replace h := h.2 hc
      refine e_ldi (show am_cd 191 156 = (2, 157, 2, 0, []) by decide +kernel) rfl ?_
      refine e_ic (show am_cd 191 157 = (0, 159, 1, 27, []) by decide +kernel) ?_
      refine e_cmp1 (show am_cd 191 159 = (11, 162, 166, 1, []) by decide +kernel) (fun hc => ?_) (fun hc => ?_)
      · replace h := h.1 hc
        refine e_lda (v := 67) (show am_cd 191 166 = (2, 167, 0, 2, []) by decide +kernel) rfl ?_
        refine e_ldi (show am_cd 191 167 = (2, 168, 1, 0, []) by decide +kernel) rfl ?_
        refine e_ldi (show am_cd 191 168 = (2, 169, 2, 0, []) by decide +kernel) rfl ?_
        refine e_cV (z := 0) (a := 67) (as := [(0, u), (0, l)]) (rest := []) (show am_cd 191 169 = (40, 172, 183, 0, [215]) by decide +kernel) (by decide +kernel) rfl rfl (Nat.le_of_ble_eq_true rfl) rfl ?_
        refine Cl.mono (Cl.up (c_pairOf (d := d) h.1) (by omega)) ?_
        rintro _ _ ⟨rfl, rfl⟩
        refine ⟨fun _ h9 => (by cases h9), ?_⟩
        replace h := h.2
        show Ev _ 191 _ 172 [rA 67, (0, u), (0, l), (0, so), (0, n), (0, ri), (9, 0), (9, 0)] [(0, poI m u l)] _
        refine e_sti (la2 := [rA 67, (0, u), (0, l), (0, so), (0, n), (0, ri), (0, poI m u l), (9, 0)]) (show am_cd 191 172 = (3, 174, 6, 0, []) by decide +kernel) rfl ?_
        exact h
      · replace h := h.2 hc
        refine e_ic (show am_cd 191 162 = (0, 163, 0, -1, []) by decide +kernel) ?_
        refine e_go (show am_cd 191 163 = (12, 172, 0, 0, []) by decide +kernel) ?_
        refine e_sti (la2 := [rA 67, (0, u), (0, l), (0, so), (0, n), (0, ri), (0, (-1)), (9, 0)]) (show am_cd 191 172 = (3, 174, 6, 0, []) by decide +kernel) rfl ?_
        exact h
  · replace h := h.2 hc
    refine e_lda (v := 67) (show am_cd 191 145 = (2, 146, 0, 2, []) by decide +kernel) rfl ?_
    refine e_cV (z := 0) (a := 67) (as := []) (rest := []) (show am_cd 191 146 = (40, 149, 173, 0, [177]) by decide +kernel) (by decide +kernel) rfl rfl (Nat.le_of_ble_eq_true rfl) rfl ?_
    show Ev _ 173 _ 0 [rA 67] [] _
    refine e_ic (show am_cd 173 0 = (0, 2, 1, -21, []) by decide +kernel) ?_
    refine e_lda (v := 67) (show am_cd 173 2 = (2, 3, 0, 2, []) by decide +kernel) rfl ?_
    refine e_getf (a := 67) (tg := 0) (show am_cd 173 3 = (18, 6, 1229, 0, [132]) by decide +kernel) (by decide +kernel) (by decide +kernel) rfl ?_
    refine e_isub (show am_cd 173 6 = (5, 7, 1, 0, []) by decide +kernel) ?_
    refine e_reti (show am_cd 173 7 = (36, 8, 0, 0, []) by decide +kernel) (by decide +kernel) ⟨fun _ h9 => (by cases h9), ?_⟩
    show Ev _ 191 _ 149 [rA 67, (0, u), (0, l), (0, so), (0, n), (0, ri), (9, 0), (9, 0)] [(0, (-21) - (w 67 29))] _
    exact e_reti (show am_cd 191 149 = (36, 150, 0, 0, []) by decide +kernel) (by decide +kernel) h

theorem g_mrule5 {d : Nat} {Q : Option aV → aS → Prop} {w : eW} {t : eT} {u l so n ri pp : Int} (h : ((¬ w32 pp = w32 (-1) → ((¬ w32 (w 67 6) = w32 8 → (0 ≤ w32 (w 67 6) ∧ w32 (w 67 6) < 8) ∧ (0 ≤ w32 (w 67 6) ∧ w32 (w 67 6) < 8) ∧ (0 ≤ w32 (w 67 6) ∧ w32 (w 67 6) < 8) ∧ (0 ≤ w32 (w 67 6) ∧ w32 (w 67 6) < 8) ∧ (Ev (d + 6) 191 Q 241 [rA 67, (0, u), (0, l), (0, so), (0, n), (0, ri), (0, pp), (0, 0)] [] (enc (wu (wu (wu (wu w 72 (w32 (w 67 6)).toNat pp) 73 (w32 (w 67 6)).toNat so) 74 (w32 (w 67 6)).toNat n) 75 (w32 (w 67 6)).toNat ri) t))) ∧ (¬ (¬ w32 (w 67 6) = w32 8) → Q (some (0, (-3))) (enc w t)))) ∧ (¬ (¬ w32 pp = w32 (-1)) → Q (some (0, (-2))) (enc w t)))) : Ev (d + 6) 191 Q 174 [rA 67, (0, u), (0, l), (0, so), (0, n), (0, ri), (0, pp), (9, 0)] [] (enc w t) := by
  refine e_ldi (show am_cd 191 174 = (2, 176, 6, 0, []) by decide +kernel) rfl ?_
  refine e_ic (show am_cd 191 176 = (0, 177, 0, -1, []) by decide +kernel) ?_
  refine e_cmp1 (show am_cd 191 177 = (11, 180, 183, 1, []) by decide +kernel) (fun hc => ?_) (fun hc => ?_)
  · replace h := h.1 hc
    refine e_lda (v := 67) (show am_cd 191 183 = (2, 184, 0, 2, []) by decide +kernel) rfl ?_
    refine e_getf (a := 67) (tg := 0) (show am_cd 191 184 = (18, 187, 1206, 0, [183]) by decide +kernel) (by decide +kernel) (by decide +kernel) rfl ?_
    refine e_ic (show am_cd 191 187 = (0, 189, 1, 8, []) by decide +kernel) ?_
    refine e_cmp1 (show am_cd 191 189 = (11, 192, 195, 1, []) by decide +kernel) (fun hc => ?_) (fun hc => ?_)
    · replace h := h.1 hc
      refine e_lda (v := 67) (show am_cd 191 195 = (2, 196, 0, 2, []) by decide +kernel) rfl ?_
      refine e_getr (a := 67) (r := 72) (show am_cd 191 196 = (18, 199, 1207, 2, [22]) by decide +kernel) (by decide +kernel) (by decide +kernel) rfl ?_
      refine e_lda (v := 67) (show am_cd 191 199 = (2, 200, 0, 2, []) by decide +kernel) rfl ?_
      refine e_getf (a := 67) (tg := 0) (show am_cd 191 200 = (18, 203, 1206, 0, [183]) by decide +kernel) (by decide +kernel) (by decide +kernel) rfl ?_
      refine e_ldi (show am_cd 191 203 = (2, 205, 6, 0, []) by decide +kernel) rfl ?_
      refine e_iast (a := 72) (n := 8) (show am_cd 191 205 = (24, 206, 0, 0, []) by decide +kernel) (by decide +kernel) (by decide +kernel) (by decide +kernel) h.1 ?_
      replace h := h.2
      refine e_lda (v := 67) (show am_cd 191 206 = (2, 207, 0, 2, []) by decide +kernel) rfl ?_
      refine e_getr (a := 67) (r := 73) (show am_cd 191 207 = (18, 210, 1208, 2, [25]) by decide +kernel) (by decide +kernel) (by decide +kernel) rfl ?_
      refine e_lda (v := 67) (show am_cd 191 210 = (2, 211, 0, 2, []) by decide +kernel) rfl ?_
      refine e_getfE (a := 67) (tg := 0) (v := w 67 6) (show am_cd 191 211 = (18, 214, 1206, 0, [183]) by decide +kernel) (by decide +kernel) (by decide +kernel) rfl rfl ?_
      refine e_ldi (show am_cd 191 214 = (2, 215, 3, 0, []) by decide +kernel) rfl ?_
      refine e_iast (a := 73) (n := 8) (show am_cd 191 215 = (24, 216, 0, 0, []) by decide +kernel) (by decide +kernel) (by decide +kernel) (by decide +kernel) h.1 ?_
      replace h := h.2
      refine e_lda (v := 67) (show am_cd 191 216 = (2, 217, 0, 2, []) by decide +kernel) rfl ?_
      refine e_getr (a := 67) (r := 74) (show am_cd 191 217 = (18, 220, 1209, 2, [28]) by decide +kernel) (by decide +kernel) (by decide +kernel) rfl ?_
      refine e_lda (v := 67) (show am_cd 191 220 = (2, 221, 0, 2, []) by decide +kernel) rfl ?_
      refine e_getfE (a := 67) (tg := 0) (v := w 67 6) (show am_cd 191 221 = (18, 224, 1206, 0, [183]) by decide +kernel) (by decide +kernel) (by decide +kernel) rfl rfl ?_
      refine e_ldi (show am_cd 191 224 = (2, 226, 4, 0, []) by decide +kernel) rfl ?_
      refine e_iast (a := 74) (n := 8) (show am_cd 191 226 = (24, 227, 0, 0, []) by decide +kernel) (by decide +kernel) (by decide +kernel) (by decide +kernel) h.1 ?_
      replace h := h.2
      refine e_lda (v := 67) (show am_cd 191 227 = (2, 228, 0, 2, []) by decide +kernel) rfl ?_
      refine e_getr (a := 67) (r := 75) (show am_cd 191 228 = (18, 231, 1210, 2, [31]) by decide +kernel) (by decide +kernel) (by decide +kernel) rfl ?_
      refine e_lda (v := 67) (show am_cd 191 231 = (2, 232, 0, 2, []) by decide +kernel) rfl ?_
      refine e_getfE (a := 67) (tg := 0) (v := w 67 6) (show am_cd 191 232 = (18, 235, 1206, 0, [183]) by decide +kernel) (by decide +kernel) (by decide +kernel) rfl rfl ?_
      refine e_ldi (show am_cd 191 235 = (2, 237, 5, 0, []) by decide +kernel) rfl ?_
      refine e_iast (a := 75) (n := 8) (show am_cd 191 237 = (24, 238, 0, 0, []) by decide +kernel) (by decide +kernel) (by decide +kernel) (by decide +kernel) h.1 ?_
      replace h := h.2
      refine e_ic (show am_cd 191 238 = (0, 239, 0, 0, []) by decide +kernel) ?_
      refine e_sti (la2 := [rA 67, (0, u), (0, l), (0, so), (0, n), (0, ri), (0, pp), (0, 0)]) (show am_cd 191 239 = (3, 241, 7, 0, []) by decide +kernel) rfl ?_
      exact h
    · replace h := h.2 hc
      refine e_ic (show am_cd 191 192 = (0, 194, 1, -3, []) by decide +kernel) ?_
      exact e_reti (show am_cd 191 194 = (36, 195, 0, 0, []) by decide +kernel) (by decide +kernel) h
  · replace h := h.2 hc
    refine e_ic (show am_cd 191 180 = (0, 182, 1, -2, []) by decide +kernel) ?_
    exact e_reti (show am_cd 191 182 = (36, 183, 0, 0, []) by decide +kernel) (by decide +kernel) h

theorem g_mrule6 {d : Nat} {Q : Option aV → aS → Prop} {w : eW} {t : eT} {u l so n ri pp k : Int} (h : ((w32 3 ≤ w32 k → Q (some (0, ((w 67 6) + 1) - 1)) (enc (wu w 67 6 ((w 67 6) + 1)) t)) ∧ (¬ (w32 3 ≤ w32 k) → (0 ≤ w32 k ∧ w32 k < 3) ∧ (0 ≤ w32 ((3 * (w 67 6)) + k) ∧ w32 ((3 * (w 67 6)) + k) < 24) ∧ (Ev (d + 6) 191 Q 241 [rA 67, (0, u), (0, l), (0, so), (0, n), (0, ri), (0, pp), (0, k + 1)] [] (enc (wu w 76 (w32 ((3 * (w 67 6)) + k)).toNat (w 89 (w32 k).toNat)) t))))) : Ev (d + 6) 191 Q 241 [rA 67, (0, u), (0, l), (0, so), (0, n), (0, ri), (0, pp), (0, k)] [] (enc w t) := by
  refine e_ldi (show am_cd 191 241 = (2, 243, 7, 0, []) by decide +kernel) rfl ?_
  refine e_ic (show am_cd 191 243 = (0, 244, 0, 3, []) by decide +kernel) ?_
  refine e_cmp3 (show am_cd 191 244 = (11, 247, 274, 3, []) by decide +kernel) (fun hc => ?_) (fun hc => ?_)
  · replace h := h.1 hc
    refine e_lda (v := 67) (show am_cd 191 274 = (2, 275, 0, 2, []) by decide +kernel) rfl ?_
    refine e_dup (show am_cd 191 275 = (13, 276, 0, 0, []) by decide +kernel) (by decide) ?_
    refine e_getf (a := 67) (tg := 0) (show am_cd 191 276 = (18, 279, 1206, 0, [183]) by decide +kernel) (by decide +kernel) (by decide +kernel) rfl ?_
    refine e_ic (show am_cd 191 279 = (0, 280, 0, 1, []) by decide +kernel) ?_
    refine e_iadd (show am_cd 191 280 = (5, 281, 0, 0, []) by decide +kernel) ?_
    refine e_putf (a := 67) (show am_cd 191 281 = (19, 284, 1206, 0, [183]) by decide +kernel) (by decide +kernel) (by decide +kernel) rfl (fun h9 => absurd h9 (by decide)) (fun h9 => absurd h9 (by decide +kernel)) ?_
    refine e_lda (v := 67) (show am_cd 191 284 = (2, 285, 0, 2, []) by decide +kernel) rfl ?_
    refine e_getfE (a := 67) (tg := 0) (v := (w 67 6) + 1) (show am_cd 191 285 = (18, 288, 1206, 0, [183]) by decide +kernel) (by decide +kernel) (by decide +kernel) rfl rfl ?_
    refine e_ic (show am_cd 191 288 = (0, 289, 0, 1, []) by decide +kernel) ?_
    refine e_isub (show am_cd 191 289 = (5, 290, 1, 0, []) by decide +kernel) ?_
    exact e_reti (show am_cd 191 290 = (36, 291, 0, 0, []) by decide +kernel) (by decide +kernel) h
  · replace h := h.2 hc
    refine e_lda (v := 67) (show am_cd 191 247 = (2, 248, 0, 2, []) by decide +kernel) rfl ?_
    refine e_getr (a := 67) (r := 76) (show am_cd 191 248 = (18, 251, 1211, 2, [34]) by decide +kernel) (by decide +kernel) (by decide +kernel) rfl ?_
    refine e_ic (show am_cd 191 251 = (0, 252, 0, 3, []) by decide +kernel) ?_
    refine e_lda (v := 67) (show am_cd 191 252 = (2, 253, 0, 2, []) by decide +kernel) rfl ?_
    refine e_getf (a := 67) (tg := 0) (show am_cd 191 253 = (18, 256, 1206, 0, [183]) by decide +kernel) (by decide +kernel) (by decide +kernel) rfl ?_
    refine e_imul (show am_cd 191 256 = (5, 257, 2, 0, []) by decide +kernel) ?_
    refine e_ldi (show am_cd 191 257 = (2, 259, 7, 0, []) by decide +kernel) rfl ?_
    refine e_iadd (show am_cd 191 259 = (5, 260, 0, 0, []) by decide +kernel) ?_
    refine e_lda (v := 67) (show am_cd 191 260 = (2, 261, 0, 2, []) by decide +kernel) rfl ?_
    refine e_getr (a := 67) (r := 89) (show am_cd 191 261 = (18, 264, 1232, 2, [75]) by decide +kernel) (by decide +kernel) (by decide +kernel) rfl ?_
    refine e_ldi (show am_cd 191 264 = (2, 266, 7, 0, []) by decide +kernel) rfl ?_
    refine e_iald (a := 89) (n := 3) (show am_cd 191 266 = (21, 267, 0, 0, []) by decide +kernel) (by decide +kernel) (by decide +kernel) (by decide +kernel) h.1 ?_
    replace h := h.2
    refine e_iast (a := 76) (n := 24) (show am_cd 191 267 = (24, 268, 0, 0, []) by decide +kernel) (by decide +kernel) (by decide +kernel) (by decide +kernel) h.1 ?_
    replace h := h.2
    refine e_inc (la2 := [rA 67, (0, u), (0, l), (0, so), (0, n), (0, ri), (0, pp), (0, k + 1)]) (show am_cd 191 268 = (4, 271, 7, 1, []) by decide +kernel) rfl rfl ?_
    refine e_go (show am_cd 191 271 = (12, 241, 0, 0, []) by decide +kernel) ?_
    exact h

