/-! The model: the call rule, its run. -/
def RuQ (w m : eW) (t : eT) (ks : kT) (rl tx : List Int) (r : Option aV) (S2 : aS) : Prop := ∃ w2, r = some (0, ruleV tx m) ∧ S2 = enc w2 t ∧ Fm [72, 73, 74, 75, 76, 89] [6, 23, 26, 27, 28, 29] w w2 ∧ MI w2 (ruleM tx m) ks rl [] ∧ w2 67 26 = 0
def FaL (m w1 : eW) (n : Int) (ls : List Int) : Prop := n = (ls.length : Int) ∧ LsB m ls ∧ LtM w1 89 ls
def bUL (u l so : Int) : Prop := (-1 ≤ u ∧ u ≤ 27) ∧ (-1 ≤ l ∧ l ≤ 27) ∧ (0 ≤ so ∧ so ≤ 3)
def oB (ri : Option Int) : Int := if ri.isSome = true then 1 else 0
def RiM (m w1 : eW) (ri : Option Int) : Prop := ∀ v, ri = some v → PT m v ∧ w1 89 2 = v
def K137 (m : eW) (tx : List Int) (u l so n rI : Int) (w1 : eW) : Prop := match stW w1 with
  | .error q => ruR m tx = .error q
  | .ok _ => ∃ ls ri, FaL m w1 n ls ∧ rI = oB ri ∧ RiM m w1 ri ∧ ruR m tx = .ok (u, l, so, ls, ri)
def K125 (m : eW) (tx : List Int) (u l so n rI : Int) (w1 : eW) : Prop := match stW w1 with
  | .error q => ruR m tx = .error q
  | .ok p => ∃ ls ri, FaL m w1 n ls ∧ rI = oB ri ∧ RiM m w1 ri ∧ ruR m tx = ru5 tx u l so ls ri p
def K83 (m : eW) (tx : List Int) (u l so n : Int) (w1 : eW) : Prop := match stW w1 with
  | .error q => ruR m tx = .error q
  | .ok p => ∃ ls, FaL m w1 n ls ∧ ruR m tx = ru3 m tx u l so ls p
def K33 (m : eW) (tx : List Int) (u l so n : Int) (w1 : eW) : Prop := match stW w1 with
  | .error q => ruR m tx = .error q
  | .ok p => ∃ ls, FaL m w1 n ls ∧ ruR m tx = ru2 m tx u l so (2 - ls.length) ls p
theorem poN_27 {m : eW} (h : WFp m) : poN m 27 27 = nP m := by
  by_cases h9 : poN m 27 27 = nP m
  · exact h9
  · have q := fs_at (P := fun p => decide (m 68 p = 27) && decide (m 69 p = 27)) (n := nP m) h9
    have q2 := q.2.1
    rw [Bool.and_eq_true] at q2
    exact absurd ⟨of_decide_eq_true q2.1, of_decide_eq_true q2.2⟩ (h.2.1 _ q.1).2.2
theorem e_ru241 {d : Nat} {w w1 m : eW} {t : eT} {ks : kT} {rl tx : List Int} {u l so : Int} {ls : List Int} {ri : Option Int} (h : MI w m ks rl tx) (hI : RdI [89] w tx w1) (hR : ruR m tx = .ok (u, l, so, ls, ri)) (hso : 0 ≤ so ∧ so ≤ 3) (hl : LsB m ls) (hL : LtM w1 89 ls) (hri : RiM m w1 ri) (hn : nR m < 8) (hp : poN m u l ≠ nP m) : Ev (d + 6) 191 (RuQ w m t ks rl tx) 241 [rA 67, (0, u), (0, l), (0, so), (0, (ls.length : Int)), (0, oB ri), (0, (poN m u l : Int)), (0, ((0 : Nat) : Int))] [] (enc (wu (wu (wu (wu w1 72 (nR m) (poN m u l : Int)) 73 (nR m) so) 74 (nR m) (ls.length : Int)) 75 (nR m) (oB ri)) t) := by
  have mi := hI.mi h (by decide)
  have hnr := mi.1.1.2.1.n
  have e6 : w1 67 6 = m 67 6 := mi.1.1.2.2.2.1
  have f3 : Fm [72, 73, 74, 75, 76] [6] w1 (wu (wu (wu (wu w1 72 (nR m) (poN m u l : Int)) 73 (nR m) so) 74 (nR m) (ls.length : Int)) 75 (nR m) (oB ri)) := (((Fm.pr (by decide) (by decide)).tr (Fm.pr (by decide) (by decide))).tr (Fm.pr (by decide) (by decide))).tr (Fm.pr (by decide) (by decide))
  have f67 : ∀ k, (wu (wu (wu (wu w1 72 (nR m) (poN m u l : Int)) 73 (nR m) so) 74 (nR m) (ls.length : Int)) 75 (nR m) (oB ri)) 67 k = w1 67 k := fun k => by rw [wu_na _ _ (by decide), wu_na _ _ (by decide), wu_na _ _ (by decide), wu_na _ _ (by decide)]
  have f76 : (wu (wu (wu (wu w1 72 (nR m) (poN m u l : Int)) 73 (nR m) so) 74 (nR m) (ls.length : Int)) 75 (nR m) (oB ri)) 76 = w1 76 := by rw [wu_row (by decide), wu_row (by decide), wu_row (by decide), wu_row (by decide)]
  have f89 : (wu (wu (wu (wu w1 72 (nR m) (poN m u l : Int)) 73 (nR m) so) 74 (nR m) (ls.length : Int)) 75 (nR m) (oB ri)) 89 = w1 89 := by rw [wu_row (by decide), wu_row (by decide), wu_row (by decide), wu_row (by decide)]
  have old3 : ∀ a e, 72 ≤ a → a ≤ 75 → e < nR m → (wu (wu (wu (wu w1 72 (nR m) (poN m u l : Int)) 73 (nR m) so) 74 (nR m) (ls.length : Int)) 75 (nR m) (oB ri)) a e = w1 a e := fun a e h1 h2 h3 => by rw [wu_nk _ _ (by omega), wu_nk _ _ (by omega), wu_nk _ _ (by omega), wu_nk _ _ (by omega)]
  have new3 : (wu (wu (wu (wu w1 72 (nR m) (poN m u l : Int)) 73 (nR m) so) 74 (nR m) (ls.length : Int)) 75 (nR m) (oB ri)) 72 (nR m) = (poN m u l : Int) ∧ (wu (wu (wu (wu w1 72 (nR m) (poN m u l : Int)) 73 (nR m) so) 74 (nR m) (ls.length : Int)) 75 (nR m) (oB ri)) 73 (nR m) = so ∧ (wu (wu (wu (wu w1 72 (nR m) (poN m u l : Int)) 73 (nR m) so) 74 (nR m) (ls.length : Int)) 75 (nR m) (oB ri)) 74 (nR m) = (ls.length : Int) ∧ (wu (wu (wu (wu w1 72 (nR m) (poN m u l : Int)) 73 (nR m) so) 74 (nR m) (ls.length : Int)) 75 (nR m) (oB ri)) 75 (nR m) = oB ri := ⟨by rw [wu_na _ _ (by decide), wu_na _ _ (by decide), wu_na _ _ (by decide), wu_eq], by rw [wu_na _ _ (by decide), wu_na _ _ (by decide), wu_eq], by rw [wu_na _ _ (by decide), wu_eq], by rw [wu_eq]⟩
  generalize wu (wu (wu (wu w1 72 (nR m) (poN m u l : Int)) 73 (nR m) so) 74 (nR m) (ls.length : Int)) 75 (nR m) (oB ri) = w3 at f3 f67 f76 f89 old3 new3 ⊢
  refine lq1 (fun i (s : eW) => Ev (d + 6) 191 _ 241 [rA 67, (0, u), (0, l), (0, so), (0, (ls.length : Int)), (0, oB ri), (0, (poN m u l : Int)), (0, (i : Int))] [] (enc s t)) (fun i s => Fm [76] [] w3 s ∧ (∀ j, j < 3 * nR m → s 76 j = w3 76 j) ∧ ∀ q, q < i → s 76 (3 * nR m + q) = w1 89 q) 3 ?_ ?_ 0 w3 (Nat.zero_le _) ⟨Fm.rf _ _ _, fun _ _ => rfl, fun q hq => by cases hq⟩
  · intro i s hi ⟨g1, g2, g3⟩ nx
    refine g_mrule6 ?_
    rw [g1.2 6 (by decide), f67, e6, g1.1 89 (by decide) (by decide), f89]
    simp (disch := omega) only [w32_id, Int.toNat_natCast]
    rw [show (3 * m 67 6 + (i : Int)).toNat = 3 * nR m + i by omega]
    refine ⟨fun h9 => (by omega), fun _ => ⟨by omega, by omega, nx _ ⟨g1.tr (Fm.pr (by decide) (by decide)), fun j hj => ?_, fun q hq => ?_⟩⟩⟩
    · rw [wu_nk _ _ (by omega)]
      exact g2 j hj
    · by_cases h9 : q = i
      · rw [h9, wu_eq]
      · rw [wu_nk _ _ (by omega)]
        exact g3 q (by omega)
  · intro s ⟨g1, g2, g3⟩
    refine g_mrule6 ?_
    simp (disch := omega) only [w32_id]
    refine ⟨fun _ => ?_, fun h9 => absurd (by decide) h9⟩
    have es : s 67 6 = m 67 6 := by rw [g1.2 6 (by decide), f67, e6]
    have q4 : Fm [72, 73, 74, 75, 76] [6] w1 (wu s 67 6 (s 67 6 + 1)) := (f3.tr (g1.mo (by decide) (fun a ha => by cases ha))).tr (Fm.pf (by decide))
    have hq := fs_at (P := fun p => decide (m 68 p = u) && decide (m 69 p = l)) (n := nP m) hp
    have hq1 : poN m u l < nP m := hq.1
    have hpn := mi.1.1.1.n
    refine ⟨_, ?_, rfl, (hI.2.1.mo (by decide) (by decide)).tr (q4.mo (by decide) (by decide)), ?_, ?_⟩
    · unfold ruleV
      rw [hR]
      dsimp only
      rw [if_neg hp, if_neg (by omega), es, hnr.1, Int.add_sub_cancel]
    · unfold ruleM
      rw [hR]
      dsimp only
      rw [if_neg hp, if_neg (by omega)]
      refine ruW_mi mi ⟨by omega, by omega⟩ hso hl (fun v hv => (hri v hv).1) hn q4 (by rw [wu_eq, es]) (fun a e h1 h2 h3 => ?_) (fun j hj => ?_) ?_ ⟨fun h9 => ?_, fun h9 => ?_, fun v hv => ?_⟩
      · rw [wu_na _ _ (by omega), g1.1 a (by omega) (by simp; omega)]
        exact old3 a e h1 h2 h3
      · rw [wu_row (by decide), g2 j hj, f76]
      · rw [wu_row (by decide), wu_row (by decide), wu_row (by decide), wu_row (by decide), g1.1 72 (by decide) (by decide), g1.1 73 (by decide) (by decide), g1.1 74 (by decide) (by decide), g1.1 75 (by decide) (by decide)]
        exact new3
      · rw [wu_row (by decide), show s 76 (3 * nR m) = w1 89 0 from g3 0 (by decide)]
        exact hL 0 (by omega)
      · rw [wu_row (by decide), g3 1 (by decide)]
        exact hL 1 (by omega)
      · rw [wu_row (by decide), g3 2 (by decide)]
        exact (hri v hv).2
    · rw [wu_nk _ _ (by decide), g1.2 26 (by decide), f67]
      exact hI.2.2.2
theorem e_ru137 {d : Nat} {w w1 m : eW} {t : eT} {ks : kT} {rl tx : List Int} {u l so n rI : Int} (h : MI w m ks rl tx) (hI : RdI [89] w tx w1) (hb : bUL u l so) (hK : K137 m tx u l so n rI w1) : Ev (d + 6) 191 (RuQ w m t ks rl tx) 137 [rA 67, (0, u), (0, l), (0, so), (0, n), (0, rI), (9, 0), (9, 0)] [] (enc w1 t) := by
  have mi := hI.mi h (by decide)
  have hnr := mi.1.1.2.1.n
  have hpn := mi.1.1.1.n
  have e6 : w1 67 6 = m 67 6 := mi.1.1.2.2.2.1
  have hbb := hI.1.b
  obtain ⟨hu, hl, hso⟩ := hb
  have fr : Fm [72, 73, 74, 75, 76, 89] [6, 23, 26, 27, 28, 29] w w1 := hI.2.1.mo (by decide) (by decide)
  unfold K137 at hK
  refine g_mrule4 (m := m) ?_
  simp (disch := omega) only [w32_id]
  cases hs : stW w1 with
  | error q =>
    rw [hs] at hK
    have hK : ruR m tx = .error q := hK
    have := stW_er hI.1 hs
    refine ⟨fun h9 => (by omega), fun _ => ⟨w1, ?_, rfl, fr, ?_, hI.2.2.2⟩⟩
    · unfold ruleV
      rw [hK, this.1]
    · unfold ruleM
      rw [hK]
      exact mi
  | ok p =>
    rw [hs] at hK
    obtain ⟨ls, ri, ⟨k1, k2, k3⟩, k4, k5, k6⟩ := hK
    have e29 := (stW_ok hs).1
    subst k1
    subst k4
    have none : poN m u l = nP m → Ev (d + 6) 191 (RuQ w m t ks rl tx) 174 [rA 67, (0, u), (0, l), (0, so), (0, (ls.length : Int)), (0, oB ri), (0, -1), (9, 0)] [] (enc w1 t) := by
      intro h9
      refine g_mrule5 ⟨fun h8 => absurd rfl h8, fun _ => ⟨w1, ?_, rfl, fr, ?_, hI.2.2.2⟩⟩
      · unfold ruleV
        rw [k6]
        dsimp only
        rw [if_pos h9]
      · unfold ruleM
        rw [k6]
        dsimp only
        rw [if_pos h9]
        exact mi
    have some' : Ev (d + 6) 191 (RuQ w m t ks rl tx) 174 [rA 67, (0, u), (0, l), (0, so), (0, (ls.length : Int)), (0, oB ri), (0, poI m u l), (9, 0)] [] (enc w1 t) := by
      by_cases h9 : poN m u l = nP m
      · have : poI m u l = -1 := if_pos h9
        rw [this]
        exact none h9
      · have e : poI m u l = (poN m u l : Int) := if_neg h9
        have hq := fs_at (P := fun p => decide (m 68 p = u) && decide (m 69 p = l)) (n := nP m) h9
        have hq1 : poN m u l < nP m := hq.1
        rw [e]
        refine g_mrule5 ?_
        rw [e6]
        simp (disch := omega) only [w32_id]
        rw [show (m 67 6).toNat = nR m from rfl]
        refine ⟨fun _ => ⟨fun h3 => ⟨by omega, by omega, by omega, by omega, e_ru241 h hI k6 hso k2 k3 k5 (by omega) h9⟩, fun h3 => ⟨w1, ?_, rfl, fr, ?_, hI.2.2.2⟩⟩, fun h8 => (by omega)⟩
        · unfold ruleV
          rw [k6]
          dsimp only
          rw [if_neg h9, if_pos (by omega)]
        · unfold ruleM
          rw [k6]
          dsimp only
          rw [if_neg h9, if_pos (by omega)]
          exact mi
    refine ⟨fun _ => ⟨fun h1 => ⟨⟨mi.1.1, hu, hl⟩, some'⟩, fun h1 => ⟨fun h2 => ⟨⟨mi.1.1, hu, hl⟩, some'⟩, fun h2 => none ?_⟩⟩, fun h9 => absurd e29 h9⟩
    rw [show u = 27 by omega, show l = 27 by omega]
    exact poN_27 mi.1.1.1
theorem e_ru125 {d : Nat} {w w1 m : eW} {t : eT} {ks : kT} {rl tx : List Int} {u l so n rI : Int} (h : MI w m ks rl tx) (hI : RdI [89] w tx w1) (hb : bUL u l so) (hK : K125 m tx u l so n rI w1) : Ev (d + 6) 191 (RuQ w m t ks rl tx) 125 [rA 67, (0, u), (0, l), (0, so), (0, n), (0, rI), (9, 0), (9, 0)] [] (enc w1 t) := by
  have hbb := hI.1.b
  unfold K125 at hK
  refine g_mrule3 (tx := tx) ?_
  simp (disch := omega) only [w32_id]
  cases hs : stW w1 with
  | error q =>
    rw [hs] at hK
    have := stW_er hI.1 hs
    refine ⟨fun _ => e_ru137 h hI hb (by unfold K137; rw [hs]; exact hK), fun h9 => (by omega)⟩
  | ok p =>
    rw [hs] at hK
    have e29 := (stW_ok hs).1
    refine ⟨fun h9 => absurd e29 h9, fun _ => ⟨hI.1, fun w2 hw2 => ?_⟩⟩
    obtain ⟨c1, c2, c3⟩ := hw2
    have c3 : stW w2 = if p < tx.length then .error p else .ok p := c3
    have hI2 := hI.m c1 c2 (fun a ha => by cases ha)
    refine e_ru137 h hI2 hb ?_
    unfold K137
    obtain ⟨ls, ri, ⟨k1, k2, k3⟩, k4, k5, k6⟩ := hK
    unfold ru5 at k6
    by_cases h9 : p < tx.length
    · rw [if_pos h9] at c3 k6
      rw [c3]
      exact k6
    · rw [if_neg h9] at c3 k6
      rw [c3]
      refine ⟨ls, ri, ⟨k1, k2, k3.m c2 (by decide) (by decide)⟩, k4, fun v hv => ⟨(k5 v hv).1, ?_⟩, k6⟩
      rw [c2.1 89 (by decide) (by decide)]
      exact (k5 v hv).2
theorem e_ru83 {d : Nat} {w w1 m : eW} {t : eT} {ks : kT} {rl tx : List Int} {u l so n : Int} (h : MI w m ks rl tx) (hI : RdI [89] w tx w1) (hb : bUL u l so) (hK : K83 m tx u l so n w1) : Ev (d + 6) 191 (RuQ w m t ks rl tx) 83 [rA 67, (0, u), (0, l), (0, so), (0, n), (9, 0), (9, 0), (9, 0)] [] (enc w1 t) := by
  unfold K83 at hK
  refine g_mrule2 (tx := tx) (m := m) ⟨⟨hI.1, by decide, by decide⟩, fun w2 hw2 => ?_⟩
  obtain ⟨c1, c2, c3⟩ := hw2
  have hI2 := hI.m c1 c2 (fun a ha => by cases ha)
  have mi := hI2.mi h (by decide)
  have hbb := c1.b
  have hl27 := c1.1
  have hlen := c1.2.1
  rw [hl27]
  simp (disch := omega) only [w32_id]
  cases hs : stW w1 with
  | error q =>
    rw [hs] at hK c3
    have c3 : stW w2 = .error q := c3
    have := stW_er c1 c3
    refine ⟨fun _ => e_ru125 h hI2 hb (by unfold K125; rw [c3]; exact hK), fun h9 => (by omega)⟩
  | ok p =>
    rw [hs] at hK c3
    obtain ⟨ls, ⟨k1, k2, k3⟩, k6⟩ := hK
    have c3 : stW w2 = if hr tx p = 95 then .ok (p + 1) else .error p := c3
    unfold ru3 at k6
    by_cases h9 : hr tx p = 95
    · rw [if_pos h9] at c3 k6
      have ha := stW_at c1 c3
      unfold ru4 at k6
      refine ⟨fun h8 => absurd ha.1 h8, fun _ => ⟨fun h3 => ?_, fun h3 => ⟨⟨c1, mi.2.1, mi.2.2.1, mi.1.1, Or.inr trivial⟩, fun x2 w3 hw3 => ?_⟩⟩⟩
      · rw [if_neg (by omega)] at k6
        refine e_ru125 h hI2 hb ?_
        unfold K125
        rw [c3]
        exact ⟨ls, none, ⟨k1, k2, k3.m c2 (by decide) (by decide)⟩, rfl, fun v hv => (by cases hv), k6⟩
      · rw [if_pos (by omega)] at k6
        obtain ⟨f1, f2, f3, f4, f5⟩ := hw3
        rw [c3] at f3 f4
        have f3 : stW w3 = stE (rdT m tx 1 (p + 1)) := f3
        have f4 : rvO (rdT m tx 1 (p + 1)) x2 := f4
        have q : Fm [89] [28, 29] w3 (wu w3 89 2 x2) := Fm.pr (by decide) (by decide)
        have q0 : Fm [89] [] w3 (wu w3 89 2 x2) := Fm.pr (by decide) (by decide)
        have P3 : Px (wu w3 89 2 x2) tx := f1.m q0 (by decide) (by decide)
        have hI3 := (hI2.m f1 f2 (fun a ha => by cases ha)).m P3 q (fun a ha => ha)
        have es : stW (wu w3 89 2 x2) = stW w3 := stW_m q0 (by decide)
        refine e_ru125 h hI3 hb ?_
        unfold K125
        rw [es, f3]
        cases hT : rdT m tx 1 (p + 1) with
        | error q =>
          rw [hT] at k6
          exact k6
        | ok y =>
          rw [hT] at k6 f4
          have f4 : x2 = y.1 := f4
          refine ⟨ls, some y.1, ⟨k1, k2, ?_⟩, rfl, fun v hv => ?_, k6⟩
          · intro i hi
            have := k2.1
            rw [wu_nk _ _ (by omega)]
            exact (k3.m (c2.tr f2) (by decide) (by decide)) i hi
          · cases hv
            exact ⟨(rdT_b mi.1.1.1 hT).1, by rw [wu_eq, f4]⟩
    · rw [if_neg h9] at c3 k6
      have := stW_er c1 c3
      refine ⟨fun _ => e_ru125 h hI2 hb (by unfold K125; rw [c3]; exact k6), fun h8 => (by omega)⟩
theorem e_ru33 {d : Nat} {w m : eW} {t : eT} {ks : kT} {rl tx : List Int} {u l so : Int} (h : MI w m ks rl tx) (hb : bUL u l so) : ∀ (k : Nat) (n : Int) (w1 : eW), n + k = 2 → 0 ≤ n → RdI [89] w tx w1 → K33 m tx u l so n w1 → Ev (d + 6) 191 (RuQ w m t ks rl tx) 33 [rA 67, (0, u), (0, l), (0, so), (0, n), (9, 0), (9, 0), (9, 0)] [] (enc w1 t) := by
  intro k
  induction k with
  | zero =>
    intro n w1 hn h0 hI hK
    have to83 : K83 m tx u l so n w1 := by
      unfold K33 at hK
      unfold K83
      cases hs : stW w1 with
      | error q => rw [hs] at hK; exact hK
      | ok p =>
        rw [hs] at hK
        obtain ⟨ls, ⟨k1, k2, k3⟩, k6⟩ := hK
        refine ⟨ls, ⟨k1, k2, k3⟩, ?_⟩
        rw [show 2 - ls.length = 0 by omega] at k6
        exact k6
    have g := e_ru83 (d := d) (t := t) h hI hb to83
    refine g_mrule1 (tx := tx) (m := m) ⟨fun _ => g, fun _ => ⟨fun _ => g, fun h9 => ?_⟩⟩
    exact absurd (by rw [show n = 2 by omega]; decide) h9
  | succ k ih =>
    intro n w1 hn h0 hI hK
    have hbb := hI.1.b
    have mi := hI.mi h (by decide)
    unfold K33 at hK
    refine g_mrule1 (tx := tx) (m := m) ?_
    cases hs : stW w1 with
    | error q =>
      rw [hs] at hK
      have := stW_er hI.1 hs
      simp (disch := omega) only [w32_id]
      refine ⟨fun _ => e_ru83 h hI hb (by unfold K83; rw [hs]; exact hK), fun h9 => (by omega)⟩
    | ok p =>
      rw [hs] at hK
      obtain ⟨ls, ⟨k1, k2, k3⟩, k6⟩ := hK
      have ha := stW_at hI.1 hs
      have hh : hrI tx (w1 67 28) = hr tx p := by unfold hrI; rw [ha.2.1, Int.toNat_natCast]
      have hr1 := hI.1.hrb p
      rw [hh]
      simp (disch := omega) only [w32_id]
      rw [show 2 - ls.length = k + 1 by omega, ru2] at k6
      have go : ∀ e, e = (if ls = [] then (1 : Int) else 0) → hr tx p ≠ 95 → ∀ x1 w2, (Px w2 tx ∧ Fm [] [28, 29] w1 w2 ∧ stW w2 = stE (bnd (.ok p) (rdT m tx e)) ∧ rvO (bnd (.ok p) (rdT m tx e)) x1 ∧ 0 ≤ x1 ∧ x1 ≤ 65536) → Ev (d + 6) 191 (RuQ w m t ks rl tx) 33 [rA 67, (0, u), (0, l), (0, so), (0, n + 1), (9, 0), (9, 0), (9, 0)] [] (enc (wu w2 89 n.toNat x1) t) := by
        intro e he hne x1 w2 hw2
        obtain ⟨f1, f2, f3, f4, f5⟩ := hw2
        have f3 : stW w2 = stE (rdT m tx e p) := f3
        have f4 : rvO (rdT m tx e p) x1 := f4
        rw [if_neg hne, ← he] at k6
        have q : Fm [89] [28, 29] w2 (wu w2 89 n.toNat x1) := Fm.pr (by decide) (by decide)
        have q0 : Fm [89] [] w2 (wu w2 89 n.toNat x1) := Fm.pr (by decide) (by decide)
        have P3 : Px (wu w2 89 n.toNat x1) tx := f1.m q0 (by decide) (by decide)
        have hI3 := (hI.m f1 f2 (fun a ha => by cases ha)).m P3 q (fun a ha => ha)
        have es : stW (wu w2 89 n.toNat x1) = stW w2 := stW_m q0 (by decide)
        refine ih (n + 1) _ (by omega) (by omega) hI3 ?_
        unfold K33
        rw [es, f3]
        cases hT : rdT m tx e p with
        | error q =>
          rw [hT] at k6
          exact k6
        | ok y =>
          rw [hT] at k6 f4
          have f4 : x1 = y.1 := f4
          have bT := rdT_b mi.1.1.1 hT
          have e1 : (ls ++ [y.1]).length = ls.length + 1 := by rw [List.length_append, List.length_singleton]
          refine ⟨ls ++ [y.1], ⟨by rw [e1]; omega, k2.app (by omega) bT.1 (fun h8 => bT.2 (by rw [he, if_neg h8])), ?_⟩, ?_⟩
          · rw [show n.toNat = ls.length by omega, f4]
            exact (k3.m f2 (by decide) (by decide)).app
          · rw [e1, show 2 - (ls.length + 1) = k by omega]
            exact k6
      refine ⟨fun h9 => absurd ha.1 h9, fun _ => ⟨fun h9 => (by omega), fun _ => ⟨hI.1, fun h3 => ?_, fun h3 => ⟨fun h4 => ⟨⟨hI.1, mi.2.1, mi.2.2.1, mi.1.1, Or.inl trivial⟩, fun x1 w2 hw2 => ⟨by omega, go 0 ?_ h3 x1 w2 hw2⟩⟩, fun h4 => ⟨⟨hI.1, mi.2.1, mi.2.2.1, mi.1.1, Or.inr trivial⟩, fun x1 w2 hw2 => ⟨by omega, go 1 ?_ h3 x1 w2 hw2⟩⟩⟩⟩⟩⟩
      · rw [if_pos h3] at k6
        refine e_ru83 h hI hb ?_
        unfold K83
        rw [hs]
        exact ⟨ls, ⟨k1, k2, k3⟩, k6⟩
      · rw [if_neg (fun h9 => h4 (by rw [k1, h9]; rfl))]
      · rw [if_pos (List.eq_nil_of_length_eq_zero (by omega))]
theorem c_mrule {d : Nat} {m w : eW} {t : eT} {ks : kT} {rl tx : List Int} (h : MI w m ks rl tx) : Cl (d + 6) 191 [rA 67] (enc w t) (RuQ w m t ks rl tx) := by
  obtain ⟨b1, b2, b3, b4, b5, b6⟩ := bgW_s h.2.2.2.2.2.1
  have hI : RdI [89] w tx (bgW w) := RdI.bg h.2.2.2.2.2.1
  refine g_mrule0 (tx := tx) (m := m) ⟨b1, fun x1 w2 hw2 => ?_⟩
  have hw2 : Px w2 tx ∧ Fm [] [28, 29] (bgW w) w2 ∧ stW w2 = stE (bnd (stW (bgW w)) (rdS tx)) ∧ rvO (bnd (stW (bgW w)) (rdS tx)) x1 ∧ -1 ≤ x1 ∧ x1 ≤ 27 := hw2
  rw [b2] at hw2
  obtain ⟨c1, c2, c3, c4, c5⟩ := hw2
  refine ⟨⟨c1, by decide, by decide⟩, fun w3 hw3 => ?_⟩
  obtain ⟨d1, d2, d3⟩ := hw3
  refine ⟨d1, fun x4 w5 hw5 => ?_⟩
  obtain ⟨e1, e2, e3, e4, e5⟩ := hw5
  refine ⟨e1, fun x6 w7 hw7 => ?_⟩
  obtain ⟨f1, f2, f3, f4, f5⟩ := hw7
  have hI7 := ((((hI.m c1 c2 (fun a ha => by cases ha)).m d1 d2 (fun a ha => by cases ha)).m e1 e2 (fun a ha => by cases ha)).m f1 f2 (fun a ha => by cases ha))
  refine e_ru33 h ⟨c5, e5, f5⟩ 2 0 w7 (by decide) (by decide) hI7 ?_
  have c3 : stW w2 = stE (rdS tx 0) := c3
  have c4 : rvO (rdS tx 0) x1 := c4
  unfold K33
  cases hu : rdS tx 0 with
  | error q =>
    rw [hu] at c3
    have c3 : stW w2 = .error q := c3
    rw [c3] at d3
    have d3 : stW w3 = .error q := d3
    rw [d3] at e3
    have e3 : stW w5 = .error q := e3
    rw [e3] at f3
    have f3 : stW w7 = .error q := f3
    rw [f3]
    show ruR m tx = _
    unfold ruR
    rw [hu]
  | ok yu =>
    rw [hu] at c3 c4
    have c3 : stW w2 = .ok yu.2 := c3
    have c4 : x1 = yu.1 := c4
    rw [c3] at d3
    have d3 : stW w3 = if hr tx yu.2 = 58 then .ok (yu.2 + 1) else .error yu.2 := d3
    by_cases h58 : hr tx yu.2 = 58
    · rw [if_pos h58] at d3
      rw [d3] at e3 e4
      have e3 : stW w5 = stE (rdS tx (yu.2 + 1)) := e3
      have e4 : rvO (rdS tx (yu.2 + 1)) x4 := e4
      cases hl : rdS tx (yu.2 + 1) with
      | error q =>
        rw [hl] at e3
        have e3 : stW w5 = .error q := e3
        rw [e3] at f3
        have f3 : stW w7 = .error q := f3
        rw [f3]
        show ruR m tx = _
        unfold ruR
        rw [hu]
        dsimp only
        rw [if_pos h58, hl]
      | ok yl =>
        rw [hl] at e3 e4
        have e3 : stW w5 = .ok yl.2 := e3
        have e4 : x4 = yl.1 := e4
        rw [e3] at f3 f4
        have f3 : stW w7 = stE (rdO tx yl.2) := f3
        have f4 : rvO (rdO tx yl.2) x6 := f4
        rw [f3]
        cases ho : rdO tx yl.2 with
        | error q =>
          show ruR m tx = _
          unfold ruR
          rw [hu]
          dsimp only
          rw [if_pos h58, hl]
          dsimp only
          rw [ho]
        | ok yo =>
          rw [ho] at f4
          have f4 : x6 = yo.1 := f4
          refine ⟨[], ⟨rfl, ⟨by decide, fun h9 => absurd h9 (by decide), fun h9 => by cases h9⟩, fun i hi => by cases hi⟩, ?_⟩
          unfold ruR
          rw [hu]
          dsimp only
          rw [if_pos h58, hl]
          dsimp only
          rw [ho, c4, e4, f4]
          rfl
    · rw [if_neg h58] at d3
      rw [d3] at e3
      have e3 : stW w5 = .error yu.2 := e3
      rw [e3] at f3
      have f3 : stW w7 = .error yu.2 := f3
      rw [f3]
      show ruR m tx = _
      unfold ruR
      rw [hu]
      dsimp only
      rw [if_neg h58]

