/-! The model: the call judges, its run. -/
def JQ (w m : eW) (t : eT) (ks : kT) (rl tx : List Int) (r : Option aV) (S2 : aS) : Prop := ∃ w2, r = some (0, judgesV tx m) ∧ S2 = enc w2 t ∧ Fm [86, 87, 88] [23, 25, 26, 27, 28, 29] w w2 ∧ MI w2 m ks (judgesR tx m rl) [] ∧ w2 67 26 = 0
/-- between two rules -/
def JW (w m : eW) (ks : kT) (rl : List Int) (ps : List Nat) (w1 : eW) : Prop := Fm [86, 87, 88] [23, 25, 26, 27, 28, 29] w w1 ∧ MI w1 m ks rl [] ∧ w1 67 26 = 0 ∧ JrM w1 m ps
theorem JW.ap {w w1 m : eW} {ks : kT} {rl : List Int} {ps : List Nat} {v n : Int} (h : JW w m ks rl ps w1) (hn : n = (rl.length : Int) + 1) (hl : rl.length < 24) : JW w m ks (rl ++ [v]) ps (wu (wu w1 86 rl.length v) 67 25 n) := by
  obtain ⟨h1, ⟨a1, a2, a3, a4, a5, a6, a7⟩, h3, h4, h5, h6⟩ := h
  have f : Fm [86] [25] w1 (wu (wu w1 86 rl.length v) 67 25 n) := (Fm.pr (by decide) (by decide)).tr (Fm.pf (by decide))
  refine ⟨h1.tr (f.mo (by decide) (by decide)), ⟨a1.m f (by decide) (by decide), a2, a3.m f (by decide) (by decide), a4.m f (by decide) (by decide), a5.ap1 hn hl, TxM.nil (by rw [f.2 23 (by decide)]; exact a6.1), by rw [f.2 35 (by decide)]; exact a7⟩, by rw [f.2 26 (by decide)]; exact h3, h4.m f (by decide) (by decide), h5, ?_⟩
  rw [f.1 87 (by decide) (by decide), f.1 88 (by decide) (by decide)]
  exact h6
theorem e_ju142 {d : Nat} {w1 m : eW} {t : eT} {Q : Option aV → aS → Prop} {ps : List Nat} {al : Int} {rr : Nat} (hJ : JrM w1 m ps) (hp : ∀ p ∈ ps, p < nP m) (hr : rr < nR m)
    (hend : ∀ mn fs p : Int, mn = (jMn m ps rr : Int) → (jMn m ps rr ≠ 0 → fs = (fsN (jb m ps rr) ps.length 0 : Int)) → (0 ≤ fs ∧ fs ≤ 16) → Ev (d + 5) 202 Q 205 [rA 67, (0, (ps.length : Int)), (0, al), (0, (rr : Int)), (0, mn), (0, fs), (0, p)] [] (enc w1 t)) : ∀ (k : Nat) (mn fs p : Int), k ≤ ps.length → mn = (ct (jb m ps rr) (ps.length - k) k : Int) → (ct (jb m ps rr) (ps.length - k) k ≠ 0 → fs = (fsN (jb m ps rr) (ps.length - k) k : Int)) → (0 ≤ fs ∧ fs ≤ 16) → p = (k : Int) - 1 → Ev (d + 5) 202 Q 142 [rA 67, (0, (ps.length : Int)), (0, al), (0, (rr : Int)), (0, mn), (0, fs), (0, p)] [] (enc w1 t) := by
  have hps := hJ.2.1
  have hpn := hJ.1.1.n
  intro k
  induction k with
  | zero =>
    intro mn fs p hk hm hf hfb hpk
    refine g_mjud5 (m := m) (ps := ps) ?_
    rw [show w32 p = p from w32_id (by omega)]
    exact ⟨fun _ => hend mn fs p hm hf hfb, fun h9 => (by omega)⟩
  | succ k ih =>
    intro mn fs p hk hm hf hfb hpk
    have hpk : p = (k : Int) := by omega
    subst hpk
    have e1 : ps.length - k = (ps.length - (k + 1)) + 1 := by omega
    have g : ∀ x : Int, gE ((rAt ps x : Nat) : Int) := fun x => by have := rAt_le hp hpn.2 x; unfold gE; omega
    have gp : gP m ((rAt ps (k : Int) : Nat) : Int) := by
      have : rAt ps (k : Int) = ps.getD k 0 := by unfold rAt; rw [if_pos (by omega), Int.toNat_natCast]
      rw [this]
      have := hp (ps.getD k 0) (by rw [List.getD_eq_getElem?_getD, List.getElem?_eq_getElem (show k < ps.length by omega)]; exact List.getElem_mem _)
      unfold gP
      omega
    refine g_mjud5 (m := m) (ps := ps) ?_
    rw [show w32 (k : Int) = k from w32_id (by omega)]
    simp only [Int.toNat_natCast]
    refine ⟨fun h9 => (by omega), fun _ => ⟨⟨hJ, by omega, by trivial⟩, ⟨hJ, by omega, by trivial⟩, ⟨hJ, by omega, by trivial⟩, ⟨hJ, by omega, by trivial⟩, ⟨hJ.1, ⟨by omega, by omega⟩, g _, g _, gp, g _⟩, fun h1 => ?_, fun h1 => ?_⟩⟩
    · have hb : jb m ps rr k = true := h1
      refine ih _ _ _ (by omega) ?_ (fun _ => ?_) (by omega) (by omega)
      · rw [e1, ct, if_pos hb]
        omega
      · rw [e1, fsN, if_pos hb]
    · have hb : jb m ps rr k = false := h1
      have hc : ct (jb m ps rr) (ps.length - k) k = ct (jb m ps rr) (ps.length - (k + 1)) (k + 1) := by rw [e1, ct, if_neg (by rw [hb]; decide), Nat.zero_add]
      refine ih _ _ _ (by omega) ?_ (fun h9 => ?_) hfb (by omega)
      · rw [hc]
        exact hm
      · rw [hc] at h9
        rw [e1, fsN, if_neg (by rw [hb]; decide)]
        exact hf h9
theorem e_ju123 {d : Nat} {w m : eW} {t : eT} {ks : kT} {rl tx : List Int} {ps : List Nat} (hp : ∀ p ∈ ps, p < nP m) (hV : judgesV tx m = (jal m ps (nR m) : Int)) (hRl : judgesR tx m rl = jrs m ps (nR m)) : ∀ (j r : Nat) (w1 : eW) (J4 J5 J6 : aV), r + j = nR m → JW w m ks (jrs m ps r) ps w1 → Ev (d + 5) 202 (JQ w m t ks rl tx) 123 [rA 67, (0, (ps.length : Int)), (0, (jal m ps r : Int)), (0, (r : Int)), J4, J5, J6] [] (enc w1 t) := by
  intro j
  induction j with
  | zero =>
    intro r w1 J4 J5 J6 hj hJ
    obtain ⟨h1, mi, h3, h4⟩ := hJ
    have hnr := mi.1.1.2.1.n
    have e6 : w1 67 6 = m 67 6 := mi.1.1.2.2.2.1
    have hj : r = nR m := by omega
    subst hj
    refine g_mjud4 ?_
    rw [e6]
    simp (disch := omega) only [w32_id]
    refine ⟨fun _ => ⟨w1, by rw [hV], rfl, h1, by rw [hRl]; exact mi, h3⟩, fun h9 => (by omega)⟩
  | succ j ih =>
    intro r w1 J4 J5 J6 hj hJ
    have hJ0 := hJ
    obtain ⟨h1, mi, h3, h4⟩ := hJ
    have hnr := mi.1.1.2.1.n
    have e6 : w1 67 6 = m 67 6 := mi.1.1.2.2.2.1
    have hps := h4.2.1
    refine g_mjud4 ?_
    rw [e6]
    simp (disch := omega) only [w32_id]
    refine ⟨fun h9 => (by omega), fun _ => ?_⟩
    have key := e_ju142 (d := d) (t := t) (Q := JQ w m t ks rl tx) (al := (jal m ps r : Int)) (rr := r) h4 hp (by omega) ?_ ps.length 0 0 ((ps.length : Int) - 1) (Nat.le_refl _) (by rw [Nat.sub_self]; rfl) (fun h9 => absurd (by rw [Nat.sub_self]; rfl) h9) (by decide) rfl
    · exact key
    · intro mn fs p hmn hfs hfb
      have hml : jMn m ps r ≤ ps.length := ct_le _ _ _
      have e25 : w1 67 25 = ((jrs m ps r).length : Int) := mi.2.2.2.2.1.1
      have hlen := jrs_le m ps r
      refine g_mjud6 ?_
      rw [e25]
      simp (disch := omega) only [w32_id]
      refine ⟨fun h9 => ⟨by omega, by omega, by omega, ?_⟩, fun h9 => ?_⟩
      · have hne : jMn m ps r ≠ 0 := by omega
        have hfs := hfs hne
        have A1 := hJ0.ap (v := (r : Int)) (n := ((jrs m ps r).length : Int) + 1) rfl (by omega)
        have l1 : (jrs m ps r ++ [(r : Int)]).length = (jrs m ps r).length + 1 := by rw [List.length_append, List.length_singleton]
        have A2 := A1.ap (v := fs) (n := ((jrs m ps r).length : Int) + 1 + 1) (by rw [l1]; omega) (by rw [l1]; omega)
        rw [l1] at A2
        have l2 : (jrs m ps r ++ [(r : Int)] ++ [fs]).length = (jrs m ps r).length + 1 + 1 := by rw [List.length_append, List.length_singleton, l1]
        have A3 := A2.ap (v := mn) (n := ((jrs m ps r).length : Int) + 1 + 1 + 1) (by rw [l2]; omega) (by rw [l2]; omega)
        rw [l2] at A3
        have er : jrs m ps (r + 1) = jrs m ps r ++ [(r : Int)] ++ [fs] ++ [mn] := by
          rw [jrs]
          unfold jrw
          rw [if_neg hne, hfs, hmn]
          simp
        rw [← er] at A3
        have ea : (jal m ps r : Int) + mn = (jal m ps (r + 1) : Int) := by rw [jal, hmn]; omega
        rw [ea, Int.toNat_natCast, show (((jrs m ps r).length : Int) + 1).toNat = (jrs m ps r).length + 1 by omega, show (((jrs m ps r).length : Int) + 1 + 1).toNat = (jrs m ps r).length + 1 + 1 by omega]
        exact ih (r + 1) _ _ _ _ (by omega) A3
      · have h0 : jMn m ps r = 0 := by omega
        have er : jrs m ps (r + 1) = jrs m ps r := by
          rw [jrs]
          unfold jrw
          rw [if_pos h0, List.append_nil]
        have ea : (jal m ps r : Int) + mn = (jal m ps (r + 1) : Int) := by rw [jal, hmn]; omega
        rw [ea]
        exact ih (r + 1) _ _ _ _ (by omega) (by rw [er]; exact hJ0)
theorem e_ju25 {d : Nat} {w w1 m : eW} {t : eT} {ks : kT} {rl tx : List Int} {n : Int} {J2 J3 J4 J5 J6 : aV} (h : MI w m ks rl tx) (hI : RdI [87, 88] w tx w1) (hR : match stW w1 with
    | .error q => jR tx = .error q
    | .ok _ => ∃ l, jR tx = .ok l ∧ n = (l.length : Int) ∧ PrM w1 l ∧ l.length ≤ 16 ∧ ∀ x ∈ l, okPr x) : Ev (d + 5) 202 (JQ w m t ks rl tx) 25 [rA 67, (0, n), J2, J3, J4, J5, J6] [] (enc w1 t) := by
  have mi := hI.mi h (by decide)
  have hbb := hI.1.b
  have fr : Fm [86, 87, 88] [23, 25, 26, 27, 28, 29] w w1 := hI.2.1.mo (by decide) (by decide)
  have hpn := mi.1.1.1.n
  refine g_mjud1 ?_
  simp (disch := omega) only [w32_id]
  cases hs : stW w1 with
  | error q =>
    rw [hs] at hR
    have hR : jR tx = .error q := hR
    have := stW_er hI.1 hs
    refine ⟨fun h9 => (by omega), fun _ => ⟨w1, ?_, rfl, fr, ?_, hI.2.2.2⟩⟩
    · unfold judgesV
      rw [hR, this.1]
    · unfold judgesR
      rw [hR]
      exact mi
  | ok p0 =>
    rw [hs] at hR
    obtain ⟨l, r1, r2, r3, r4, r5⟩ := hR
    subst r2
    have e29 := (stW_ok hs).1
    refine ⟨fun _ => ?_, fun h9 => absurd e29 h9⟩
    have third : jUn m l = false → jIn l = false → ∀ J4 J5 J6, Ev (d + 5) 202 (JQ w m t ks rl tx) 123 [rA 67, (0, (l.length : Int)), (0, 0), (0, 0), J4, J5, J6] [] (enc (wu w1 67 25 0) t) := by
      intro hu hi J4 J5 J6
      have e : (jPs m l).length = l.length := List.length_map ..
      have known : ∀ i, i < l.length → poN m (l.getD i (0, 0)).1 (l.getD i (0, 0)).2 ≠ nP m := by
        intro i hil h9
        have : jUn m l = true := an_iff.mpr ⟨i, hil, decide_eq_true h9⟩
        rw [hu] at this
        cases this
      have gd : ∀ i, i < l.length → (jPs m l).getD i 0 = poN m (l.getD i (0, 0)).1 (l.getD i (0, 0)).2 := by
        intro i hil
        unfold jPs
        rw [List.getD_eq_getElem?_getD, List.getD_eq_getElem?_getD, List.getElem?_map, List.getElem?_eq_getElem hil]
        rfl
      have hp : ∀ p ∈ jPs m l, p < nP m := by
        intro p hp
        obtain ⟨i, hi1, hi2⟩ := List.getElem_of_mem hp
        have hil : i < l.length := by rw [← e]; exact hi1
        have q := gd i hil
        rw [List.getD_eq_getElem?_getD, List.getElem?_eq_getElem hi1, Option.getD_some, hi2] at q
        rw [q]
        have := fs_at (P := fun p => decide (m 68 p = (l.getD i (0, 0)).1) && decide (m 69 p = (l.getD i (0, 0)).2)) (n := nP m) (known i hil)
        exact this.1
      have f : Fm [] [25] w1 (wu w1 67 25 0) := Fm.pf (by decide)
      obtain ⟨a1, a2, a3, a4, a5, a6, a7⟩ := mi
      have JW0 : JW w m ks (jrs m (jPs m l) 0) (jPs m l) (wu w1 67 25 0) := by
        refine ⟨fr.tr (f.mo (fun a ha => by cases ha) (by decide)), ⟨a1.m f (by decide) (by decide), a2, a3.m f (by decide) (by decide), a4.m f (by decide) (by decide), ⟨by rw [wu_eq]; rfl, Nat.zero_le _, fun i hi => by cases hi⟩, TxM.nil (by rw [f.2 23 (by decide)]; exact a6.1), by rw [f.2 35 (by decide)]; exact a7⟩, by rw [f.2 26 (by decide)]; exact hI.2.2.2, a1.1.m f (by decide) (by decide), by rw [e]; exact r4, fun i hi => ?_⟩
        rw [e] at hi
        rw [f.1 87 (by decide) (by decide), f.1 88 (by decide) (by decide)]
        have q := r3.at r5 hi
        rw [q.1, q.2.1, gd i hi]
        exact ⟨q.2.2.1, q.2.2.2.1, if_neg (known i hi)⟩
      have := e_ju123 (d := d) (t := t) (w := w) (rl := rl) (tx := tx) (ks := ks) hp (by
        unfold judgesV
        rw [r1]
        dsimp only
        rw [if_neg (by rw [hu]; decide), if_neg (by rw [hi]; decide)]) (by
        unfold judgesR
        rw [r1]
        dsimp only
        rw [if_neg (by rw [hu]; decide), if_neg (by rw [hi]; decide)]) (nR m) 0 _ J4 J5 J6 (by omega) JW0
      rw [e] at this
      exact this
    have second : jUn m l = false → ∀ J3 J4 J5 J6 (j k : Nat), (k + j = l.length ∨ (j = 0 ∧ l.length < k)) → 1 ≤ k ∧ k ≤ 16 → (∀ i, 1 ≤ i → i < k → i < l.length → ¬ ((l.getD i (0, 0)).1 = 27 ∧ (l.getD (i - 1) (0, 0)).1 = 27)) → Ev (d + 5) 202 (JQ w m t ks rl tx) 76 [rA 67, (0, (l.length : Int)), (0, (k : Int)), J3, J4, J5, J6] [] (enc w1 t) := by
      intro hu J3 J4 J5 J6 j
      induction j with
      | zero =>
        intro k hk hk1 hall
        have hle : l.length ≤ k := by omega
        refine g_mjud3 ?_
        simp (disch := omega) only [w32_id]
        refine ⟨fun _ => third hu ?_ _ _ _, fun h9 => (by omega)⟩
        cases hq : jIn l
        · rfl
        · obtain ⟨i, i1, i2⟩ := an_iff.mp hq
          rw [Bool.and_eq_true, Bool.and_eq_true] at i2
          have i3 := of_decide_eq_true i2.1
          exact absurd ⟨of_decide_eq_true i2.2.1, of_decide_eq_true i2.2.2⟩ (hall i (by omega) (by omega) i1)
      | succ j ih =>
        intro k hk hk1 hall
        have a1 := r3.at r5 (show k < l.length by omega)
        have a2 := r3.at r5 (show k - 1 < l.length by omega)
        have o1 := a1.2.2
        have o2 := a2.2.2
        unfold okPr at o1 o2
        refine g_mjud3 ?_
        simp (disch := omega) only [w32_id, Int.toNat_natCast, a1.1]
        rw [show ((k : Int) - 1).toNat = k - 1 by omega, a2.1]
        simp (disch := omega) only [w32_id]
        have nx : ¬ ((l.getD k (0, 0)).1 = 27 ∧ (l.getD (k - 1) (0, 0)).1 = 27) → Ev (d + 5) 202 (JQ w m t ks rl tx) 76 [rA 67, (0, (l.length : Int)), (0, (k : Int) + 1), J3, J4, J5, J6] [] (enc w1 t) := fun h1 => ih (k + 1) (by omega) (by omega) (fun i i1 i2 i3 => by
          by_cases h9 : i = k
          · rw [h9]; exact h1
          · exact hall i i1 (by omega) i3)
        refine ⟨fun h9 => (by omega), fun _ => ⟨by omega, fun h1 => nx (fun h9 => h1 h9.1), fun h1 => ⟨by omega, fun h2 => nx (fun h9 => h2 h9.2), fun h2 => ⟨w1, ?_, rfl, fr, ?_, hI.2.2.2⟩⟩⟩⟩
        · have hq : jIn l = true := an_iff.mpr ⟨k, by omega, by rw [decide_eq_true (show k ≠ 0 by omega), decide_eq_true (show (l.getD k (0, 0)).1 = 27 by omega), decide_eq_true (show (l.getD (k - 1) (0, 0)).1 = 27 by omega)]; rfl⟩
          unfold judgesV
          rw [r1]
          dsimp only
          rw [if_neg (by rw [hu]; decide), if_pos hq]
        · have hq : jIn l = true := an_iff.mpr ⟨k, by omega, by rw [decide_eq_true (show k ≠ 0 by omega), decide_eq_true (show (l.getD k (0, 0)).1 = 27 by omega), decide_eq_true (show (l.getD (k - 1) (0, 0)).1 = 27 by omega)]; rfl⟩
          unfold judgesR
          rw [r1]
          dsimp only
          rw [if_neg (by rw [hu]; decide), if_pos hq]
          exact mi
    have first : ∀ (j k : Nat), k + j = l.length → (∀ i, i < k → poN m (l.getD i (0, 0)).1 (l.getD i (0, 0)).2 ≠ nP m) → Ev (d + 5) 202 (JQ w m t ks rl tx) 40 [rA 67, (0, (l.length : Int)), (0, (k : Int)), J3, J4, J5, J6] [] (enc w1 t) := by
      intro j
      induction j with
      | zero =>
        intro k hk hall
        refine g_mjud2 (m := m) ?_
        simp (disch := omega) only [w32_id]
        refine ⟨fun _ => ?_, fun h9 => (by omega)⟩
        refine second ?_ _ _ _ _ (l.length - 1) 1 (by omega) (by omega) (fun i i1 i2 => by omega)
        cases hq : jUn m l
        · rfl
        · obtain ⟨i, i1, i2⟩ := an_iff.mp hq
          exact absurd (of_decide_eq_true i2) (hall i (by omega))
      | succ j ih =>
        intro k hk hall
        have a1 := r3.at r5 (show k < l.length by omega)
        have o1 := a1.2.2
        unfold okPr at o1
        refine g_mjud2 (m := m) ?_
        simp (disch := omega) only [w32_id, Int.toNat_natCast, a1.1, a1.2.1]
        have hpo : -1 ≤ poI m (l.getD k (0, 0)).1 (l.getD k (0, 0)).2 ∧ poI m (l.getD k (0, 0)).1 (l.getD k (0, 0)).2 ≤ 16 := by
          have := fsN_le (P := fun p => decide (m 68 p = (l.getD k (0, 0)).1) && decide (m 69 p = (l.getD k (0, 0)).2)) (nP m) 0
          unfold poI poN
          split <;> omega
        simp (disch := omega) only [w32_id]
        refine ⟨fun h9 => (by omega), fun _ => ⟨by omega, by omega, ⟨mi.1.1, by omega, by omega⟩, fun h1 => ih (k + 1) (by omega) (fun i hi => ?_), fun h1 => ?_⟩⟩
        · by_cases h9 : i = k
          · rw [h9]
            exact fun h8 => h1 (if_pos h8)
          · exact hall i (by omega)
        · have hno : poN m (l.getD k (0, 0)).1 (l.getD k (0, 0)).2 = nP m := by
            by_cases h8 : poN m (l.getD k (0, 0)).1 (l.getD k (0, 0)).2 = nP m
            · exact h8
            · exfalso
              apply h1
              unfold poI
              rw [if_neg h8]
              omega
          have hq : jUn m l = true := an_iff.mpr ⟨k, by omega, decide_eq_true hno⟩
          refine ⟨w1, ?_, rfl, fr, ?_, hI.2.2.2⟩
          · unfold judgesV
            rw [r1]
            dsimp only
            rw [if_pos hq]
          · unfold judgesR
            rw [r1]
            dsimp only
            rw [if_pos hq]
            exact mi
    exact first l.length 0 (by omega) (fun i hi => by cases hi)
theorem c_mjudges {d : Nat} {m w : eW} {t : eT} {ks : kT} {rl tx : List Int} (h : MI w m ks rl tx) : Cl (d + 5) 202 [rA 67] (enc w t) (JQ w m t ks rl tx) := by
  have hT := h.2.2.2.2.2.1
  obtain ⟨b1, b2, b3, b4, b5, b6⟩ := bgW_s hT
  have hI : RdI [87, 88] w tx (bgW w) := RdI.bg hT
  have hlen := hT.2.1
  refine g_mjud0 (tx := tx) ?_
  rw [hT.1]
  rw [show w32 (tx.length : Int) = tx.length from w32_id (by omega)]
  rw [← hT.1]
  refine ⟨fun h1 => ⟨⟨b1, b2⟩, fun x1 w2 hw2 => ?_⟩, fun h1 => ?_⟩
  · have hw2 : RdQ tx (bgW w) (prsA tx) x1 w2 := hw2
    obtain ⟨c1, c2, c3, c4⟩ := hw2
    have hj : jR tx = prsA tx := if_neg (fun h9 => h1 (by rw [hT.1, h9]; rfl))
    refine e_ju25 h (hI.m c1 c2 (fun a ha => ha)) ?_
    rw [hj]
    cases hR : prsA tx with
    | error q =>
      rw [hR] at c4
      have c4 : stW w2 = .error q := c4
      rw [c4]
    | ok l =>
      rw [hR] at c4
      obtain ⟨⟨p, c5⟩, c6, c7⟩ := c4
      have hlb := prsA_b hR
      rw [c5]
      exact ⟨l, rfl, c6, c7, hlb.2, hlb.1⟩
  · have h0 : tx = [] := List.eq_nil_of_length_eq_zero (by have := hT.1; omega)
    refine e_ju25 (w1 := bgW w) h hI ?_
    rw [b2]
    exact ⟨[], if_pos h0, rfl, fun i hi => (by cases hi), by decide, fun x hx => (by cases hx)⟩

