/-! The model: the call entry, its run. -/
def EQ (w m : eW) (t : eT) (ks : kT) (rl tx : List Int) (a x : Int) (r : Option aV) (S2 : aS) : Prop := ∃ w2, r = some (0, entryV tx m a x) ∧ S2 = enc w2 t ∧ Fm [77, 78, 79, 80, 90] [12, 23, 26, 27, 28, 29] w w2 ∧ MI w2 (entryM tx m a x) ks rl [] ∧ w2 67 26 = 0
theorem e_en149 {d : Nat} {w w1 m : eW} {t : eT} {ks : kT} {rl tx : List Int} {a x : Int} {l : List Int} (h : MI w m ks rl tx) (hI : RdI [90] w tx w1) (hR : enR tx = .ok l) (hax : (0 ≤ a ∧ a ≤ 3) ∧ (-1 ≤ x ∧ x ≤ 3)) (hl : 1 ≤ l.length ∧ l.length ≤ 5) (hv : ∀ v ∈ l, 0 ≤ v ∧ v ≤ 26) (hn : nE m < 16) (hu : noUp m l = false) (hL : LtM w1 90 l) : Ev (d + 4) 195 (EQ w m t ks rl tx a x) 149 [rA 67, (0, a), (0, x), (0, (l.length : Int)), (0, ((0 : Nat) : Int))] [] (enc (wu (wu (wu w1 77 (nE m) a) 78 (nE m) x) 79 (nE m) (l.length : Int)) t) := by
  have mi := hI.mi h (by decide)
  have hne := mi.1.2.1.n
  have e12 : w1 67 12 = m 67 12 := mi.1.2.2.1
  have f3 : Fm [77, 78, 79, 80] [12] w1 (wu (wu (wu w1 77 (nE m) a) 78 (nE m) x) 79 (nE m) (l.length : Int)) := ((Fm.pr (by decide) (by decide)).tr (Fm.pr (by decide) (by decide))).tr (Fm.pr (by decide) (by decide))
  have f67 : ∀ k, (wu (wu (wu w1 77 (nE m) a) 78 (nE m) x) 79 (nE m) (l.length : Int)) 67 k = w1 67 k := fun k => by rw [wu_na _ _ (by decide), wu_na _ _ (by decide), wu_na _ _ (by decide)]
  have f80 : (wu (wu (wu w1 77 (nE m) a) 78 (nE m) x) 79 (nE m) (l.length : Int)) 80 = w1 80 := by rw [wu_row (by decide), wu_row (by decide), wu_row (by decide)]
  have f90 : (wu (wu (wu w1 77 (nE m) a) 78 (nE m) x) 79 (nE m) (l.length : Int)) 90 = w1 90 := by rw [wu_row (by decide), wu_row (by decide), wu_row (by decide)]
  have old3 : ∀ e, e < nE m → (wu (wu (wu w1 77 (nE m) a) 78 (nE m) x) 79 (nE m) (l.length : Int)) 77 e = w1 77 e ∧ (wu (wu (wu w1 77 (nE m) a) 78 (nE m) x) 79 (nE m) (l.length : Int)) 78 e = w1 78 e ∧ (wu (wu (wu w1 77 (nE m) a) 78 (nE m) x) 79 (nE m) (l.length : Int)) 79 e = w1 79 e := fun e he => ⟨by rw [wu_na _ _ (by decide), wu_na _ _ (by decide), wu_nk _ _ (by omega)], by rw [wu_na _ _ (by decide), wu_nk _ _ (by omega), wu_na _ _ (by decide)], by rw [wu_nk _ _ (by omega), wu_na _ _ (by decide), wu_na _ _ (by decide)]⟩
  have new3 : (wu (wu (wu w1 77 (nE m) a) 78 (nE m) x) 79 (nE m) (l.length : Int)) 77 (nE m) = a ∧ (wu (wu (wu w1 77 (nE m) a) 78 (nE m) x) 79 (nE m) (l.length : Int)) 78 (nE m) = x ∧ (wu (wu (wu w1 77 (nE m) a) 78 (nE m) x) 79 (nE m) (l.length : Int)) 79 (nE m) = (l.length : Int) := ⟨by rw [wu_na _ _ (by decide), wu_na _ _ (by decide), wu_eq], by rw [wu_na _ _ (by decide), wu_eq], by rw [wu_eq]⟩
  generalize wu (wu (wu w1 77 (nE m) a) 78 (nE m) x) 79 (nE m) (l.length : Int) = w3 at f3 f67 f80 f90 old3 new3 ⊢
  refine lq1 (fun i (s : eW) => Ev (d + 4) 195 _ 149 [rA 67, (0, a), (0, x), (0, (l.length : Int)), (0, (i : Int))] [] (enc s t)) (fun i s => Fm [80] [] w3 s ∧ (∀ j, j < 5 * nE m → s 80 j = w3 80 j) ∧ ∀ q, q < i → s 80 (5 * nE m + q) = l.getD q 0) l.length ?_ ?_ 0 w3 (Nat.zero_le _) ⟨Fm.rf _ _ _, fun _ _ => rfl, fun q hq => by cases hq⟩
  · intro i s hi ⟨g1, g2, g3⟩ nx
    have hli := hL i hi
    refine g_mentry3 ?_
    rw [g1.2 12 (by decide), f67, e12, g1.1 90 (by decide) (by decide), f90]
    simp (disch := omega) only [w32_id, Int.toNat_natCast, hli]
    rw [show (5 * m 67 12 + (i : Int)).toNat = 5 * nE m + i by omega]
    refine ⟨fun h9 => (by omega), fun _ => ⟨by omega, by omega, nx _ ⟨g1.tr (Fm.pr (by decide) (by decide)), fun j hj => ?_, fun q hq => ?_⟩⟩⟩
    · rw [wu_nk _ _ (by omega)]
      exact g2 j hj
    · by_cases h9 : q = i
      · rw [h9, wu_eq]
      · rw [wu_nk _ _ (by omega)]
        exact g3 q (by omega)
  · intro s ⟨g1, g2, g3⟩
    refine g_mentry3 ?_
    simp (disch := omega) only [w32_id]
    refine ⟨fun _ => ?_, fun h9 => (by omega)⟩
    have es : s 67 12 = m 67 12 := by rw [g1.2 12 (by decide), f67, e12]
    have q4 : Fm [77, 78, 79, 80] [12] w1 (wu s 67 12 (s 67 12 + 1)) := (f3.tr (g1.mo (by decide) (fun a ha => by cases ha))).tr (Fm.pf (by decide))
    refine ⟨_, ?_, rfl, (hI.2.1.mo (by decide) (by decide)).tr (q4.mo (by decide) (by decide)), ?_, ?_⟩
    · unfold entryV
      rw [hR]
      dsimp only
      rw [if_pos hax, if_neg (by omega), if_neg (by rw [hu]; decide), es, hne.1, Int.add_sub_cancel]
    · unfold entryM
      rw [hR]
      dsimp only
      rw [if_pos hax, if_neg (by omega), if_neg (by rw [hu]; decide)]
      refine enW_mi (w := w) mi hax.1 hax.2 hl hv hn q4 (by rw [wu_eq, es]) (fun e he => ?_) (fun j hj => ?_) ?_ (fun q hq => ?_)
      · rw [wu_row (by decide), wu_row (by decide), wu_row (by decide), g1.1 77 (by decide) (by decide), g1.1 78 (by decide) (by decide), g1.1 79 (by decide) (by decide)]
        exact old3 e he
      · rw [wu_row (by decide), g2 j hj, f80]
      · rw [wu_row (by decide), wu_row (by decide), wu_row (by decide), g1.1 77 (by decide) (by decide), g1.1 78 (by decide) (by decide), g1.1 79 (by decide) (by decide)]
        exact new3
      · rw [wu_row (by decide)]
        exact g3 q hq
    · rw [wu_nk _ _ (by decide), g1.2 26 (by decide), f67]
      exact hI.2.2.2
theorem e_en31 {d : Nat} {w w1 m : eW} {t : eT} {ks : kT} {rl tx : List Int} {a x n : Int} (h : MI w m ks rl tx) (hI : RdI [90] w tx w1) (ha : okI a) (hx : okI x) (hR : match stW w1 with
    | .error q => enR tx = .error q
    | .ok _ => ∃ l, enR tx = .ok l ∧ n = (l.length : Int) ∧ LtM w1 90 l ∧ (1 ≤ l.length ∧ l.length ≤ 5) ∧ ∀ v ∈ l, 0 ≤ v ∧ v ≤ 26) : Ev (d + 4) 195 (EQ w m t ks rl tx a x) 31 [rA 67, (0, a), (0, x), (0, n), (9, 0)] [] (enc w1 t) := by
  have mi := hI.mi h (by decide)
  have hne := mi.1.2.1.n
  have e12 : w1 67 12 = m 67 12 := mi.1.2.2.1
  have hb := hI.1.b
  have fr : Fm [77, 78, 79, 80, 90] [12, 23, 26, 27, 28, 29] w w1 := hI.2.1.mo (by decide) (by decide)
  unfold okI at ha hx
  refine g_mentry1 ?_
  rw [e12]
  simp (disch := omega) only [w32_id, w64_id]
  cases hs : stW w1 with
  | error q =>
    rw [hs] at hR
    have hR : enR tx = .error q := hR
    have := stW_er hI.1 hs
    refine ⟨fun h9 => (by omega), fun _ => ⟨w1, ?_, rfl, fr, ?_, hI.2.2.2⟩⟩
    · unfold entryV
      rw [hR, this.1]
    · unfold entryM
      rw [hR]
      exact mi
  | ok p =>
    rw [hs] at hR
    obtain ⟨l, r1, r2, r3, r4, r5⟩ := hR
    subst r2
    have e29 := (stW_ok hs).1
    have no : ¬ ((0 ≤ a ∧ a ≤ 3) ∧ (-1 ≤ x ∧ x ≤ 3)) → EQ w m t ks rl tx a x (some (0, -1)) (enc w1 t) := by
      intro h9
      refine ⟨w1, ?_, rfl, fr, ?_, hI.2.2.2⟩
      · unfold entryV
        rw [r1]
        dsimp only
        rw [if_neg h9]
      · unfold entryM
        rw [r1]
        dsimp only
        rw [if_neg h9]
        exact mi
    refine ⟨fun _ => ⟨fun h1 => no (fun h9 => of_decide_eq_false h1 h9.1), fun h1 => ⟨fun h2 => ?_, fun h2 => no (fun h9 => of_decide_eq_false h2 h9.2)⟩⟩, fun h9 => absurd e29 h9⟩
    have hax : (0 ≤ a ∧ a ≤ 3) ∧ (-1 ≤ x ∧ x ≤ 3) := ⟨of_decide_eq_true h1, of_decide_eq_true h2⟩
    refine ⟨fun h3 => ?_, fun h3 => ⟨w1, ?_, rfl, fr, ?_, hI.2.2.2⟩⟩
    · have main : ∀ j k, k + j = l.length → (∀ i, i < k → isUp m (l.getD i 0) = true) → Ev (d + 4) 195 (EQ w m t ks rl tx a x) 87 [rA 67, (0, a), (0, x), (0, (l.length : Int)), (0, (k : Int))] [] (enc w1 t) := by
        intro j
        induction j with
        | zero =>
          intro k hk hall
          have hu : noUp m l = false := by
            cases hq : noUp m l
            · rfl
            · obtain ⟨i, i1, i2⟩ := an_iff.mp hq
              rw [hall i (by omega)] at i2
              cases i2
          refine g_mentry2 (m := m) ?_
          rw [e12]
          simp (disch := omega) only [w32_id]
          rw [show (m 67 12).toNat = nE m from rfl]
          refine ⟨fun _ => ⟨by omega, by omega, by omega, e_en149 h hI r1 hax r4 r5 (by omega) hu r3⟩, fun h9 => (by omega)⟩
        | succ j ih =>
          intro k hk hall
          have hlk := r3 k (by omega)
          have hvk := r5 (l.getD k 0) (by rw [List.getD_eq_getElem?_getD, List.getElem?_eq_getElem (show k < l.length by omega)]; exact List.getElem_mem _)
          refine g_mentry2 (m := m) ?_
          simp (disch := omega) only [w32_id, Int.toNat_natCast, hlk]
          refine ⟨fun h9 => (by omega), fun _ => ⟨by omega, ⟨mi.1.1, by omega, by omega⟩, fun h5 => ih (k + 1) (by omega) (fun i hi => ?_), fun h5 => ⟨w1, ?_, rfl, fr, ?_, hI.2.2.2⟩⟩⟩
          · by_cases h9 : i = k
            · rw [h9]; exact h5
            · exact hall i (by omega)
          · have hu : noUp m l = true := an_iff.mpr ⟨k, by omega, by rw [h5]; rfl⟩
            unfold entryV
            rw [r1]
            dsimp only
            rw [if_pos hax, if_neg (by omega), if_pos hu]
          · have hu : noUp m l = true := an_iff.mpr ⟨k, by omega, by rw [h5]; rfl⟩
            unfold entryM
            rw [r1]
            dsimp only
            rw [if_pos hax, if_neg (by omega), if_pos hu]
            exact mi
      exact main l.length 0 (by omega) (fun i hi => by cases hi)
    · unfold entryV
      rw [r1]
      dsimp only
      rw [if_pos hax, if_pos (by omega)]
    · unfold entryM
      rw [r1]
      dsimp only
      rw [if_pos hax, if_pos (by omega)]
      exact mi
theorem c_mentry {d : Nat} {m w : eW} {t : eT} {ks : kT} {rl tx : List Int} {a x : Int} (h : MI w m ks rl tx) (ha : okI a) (hx : okI x) : Cl (d + 4) 195 [rA 67, (0, a), (0, x)] (enc w t) (EQ w m t ks rl tx a x) := by
  obtain ⟨b1, b2, b3, b4, b5, b6⟩ := bgW_s h.2.2.2.2.2.1
  have hI : RdI [90] w tx (bgW w) := RdI.bg h.2.2.2.2.2.1
  refine g_mentry0 (tx := tx) ⟨⟨b1, ⟨by decide, by decide⟩, Or.inl rfl⟩, fun x1 w2 hw2 => ?_⟩
  have hw2 : RlQ tx 90 5 (bgW w) (bnd (stW (bgW w)) (rdLs tx 5)) x1 w2 := hw2
  rw [b2] at hw2
  obtain ⟨c1, c2, c3, c4, c5⟩ := hw2
  have hI2 := hI.m c1 c2 (by decide)
  have hb := c1.b
  have c3 : stW w2 = stE (rdLs tx 5 0) := c3
  have c5 : ∀ y, rdLs tx 5 0 = .ok y → x1 = (y.1.length : Int) ∧ LtM w2 90 y.1 := c5
  simp (disch := omega) only [w32_id]
  refine ⟨fun h1 => ?_, fun h1 => ⟨c1, fun w3 hw3 => ?_⟩⟩
  · have hs : stW w2 = .error (w2 67 29).toNat := if_neg h1
    refine e_en31 h hI2 ha hx ?_
    rw [hs]
    show enR tx = _
    unfold enR
    cases hR : rdLs tx 5 0 with
    | error q => rw [hR, hs] at c3; cases c3; rfl
    | ok y => rw [hR, hs] at c3; cases c3
  · have hs : stW w2 = .ok (w2 67 28).toNat := if_pos (by omega)
    cases hR : rdLs tx 5 0 with
    | error q => rw [hR, hs] at c3; cases c3
    | ok y =>
      have c6 := c5 y hR
      rw [hR] at c3
      have c3 : stW w2 = .ok y.2 := c3
      have hI3 := hI2.m (R2 := []) hw3.1 hw3.2.1 (fun a ha => by cases ha)
      have e3 := hw3.2.2
      rw [c3] at e3
      have e3 : stW w3 = if y.2 < tx.length then .error y.2 else .ok y.2 := e3
      have hy : y.1 = ltsF tx 5 0 ∧ y.1 ≠ [] := by
        unfold rdLs at hR
        by_cases h9 : ltsF tx 5 0 = []
        · rw [if_pos h9] at hR; cases hR
        · rw [if_neg h9] at hR
          cases hR
          exact ⟨rfl, h9⟩
      have hlb := ltsF_b (tx := tx) (k := 5) (p := 0)
      rw [← hy.1] at hlb
      refine e_en31 h hI3 ha hx ?_
      by_cases h9 : y.2 < tx.length
      · rw [if_pos h9] at e3
        rw [e3]
        show enR tx = _
        unfold enR
        rw [hR]
        dsimp only
        rw [if_pos h9]
      · rw [if_neg h9] at e3
        rw [e3]
        refine ⟨y.1, ?_, c6.1, c6.2.m hw3.2.1 (by decide) (by decide), ⟨?_, hlb.2⟩, hlb.1⟩
        · unfold enR
          rw [hR]
          dsimp only
          rw [if_neg h9]
        · have := List.length_pos_iff.mpr hy.2
          omega

