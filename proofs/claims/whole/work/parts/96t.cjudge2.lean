/-! The class: the call judges. -/
def jdQ (w m : eW) (t : eT) (rl tl : List Int) (l : List (Int × Int)) (r : Option aV) (S2 : aS) : Prop := ∃ w2, r = some (0, if jUn m l = true then -2 else if jIn l = true then -3 else (jal m (jPs m l) (nR m) : Int)) ∧ S2 = enc w2 t ∧ Fc [4, 5, 64, 65, 66] [(2, 6), (2, 7), (1, 14)] w w2 ∧ TC w2 tl ∧ TlC w2 (if jUn m l = true then rl else if jIn l = true then rl else jrs m (jPs m l) (nR m))
theorem jps_at {m : eW} {l : List (Int × Int)} {i : Nat} (hi : i < l.length) : (jPs m l).getD i 0 = poN m (l.getD i (0, 0)).1 (l.getD i (0, 0)).2 := by
  unfold jPs
  simp [List.getD, hi]
theorem e_cj49 {d : Nat} {w w1 m : eW} {t : eT} {b : Nat × Nat} {ks : kT} {rl tl : List Int} {l : List (Int × Int)} (h : CI w t b m ks rl tl) (hp : WFp m) (hr : WFr m) (hl : l.length ≤ 16) (hok : ∀ x ∈ l, okPr x) (f1 : Fc [4, 5, 64, 65, 66] [(2, 6), (2, 7), (1, 14)] w w1) (T1 : TC w1 tl) (L1 : TlC w1 rl) (hPr : PrC w1 l) : Ev (d + 4) 135 (jdQ w m t rl tl l) 49 [rA 1, (0, (l.length : Int)), (0, 0)] [] (enc w1 t) := by
  have hpn := hp.n
  have hb : ∀ i, i < l.length → okPr (l.getD i (0, 0)) := fun i hi => hok _ (gD_mem hi)
  have pole : ∀ u v, poN m u v ≤ nP m := fun u v => by have := fsN_le (P := fun p => decide (m 68 p = u) && decide (m 69 p = v)) (nP m) 0; unfold poN; omega
  have plen : (jPs m l).length = l.length := by unfold jPs; rw [List.length_map]
  -- the second half: all pairs are known
  have half : ∀ w2, Fc [4, 5, 64, 65, 66] [(2, 6), (2, 7), (1, 14)] w w2 → TC w2 tl → TlC w2 rl → (∀ j, j < l.length → w2 64 j = (poN m (l.getD j (0, 0)).1 (l.getD j (0, 0)).2 : Int) ∧ poN m (l.getD j (0, 0)).1 (l.getD j (0, 0)).2 < nP m) → Ev (d + 4) 135 (jdQ w m t rl tl l) 106 [rA 1, (0, (l.length : Int)), (0, 1)] [] (enc w2 t) := fun w2 f2 T2 L2 hG => by
    have hUn : ¬ jUn m l = true := fun h9 => by
      obtain ⟨k, hk, h8⟩ := an_iff.mp h9
      have := of_decide_eq_true h8
      have := (hG k hk).2
      omega
    have hA2 : AC w2 m := h.1.2.1.fc f2 (by decide) (by decide)
    have hN2 : LN w2 m := h.2.1.2.fc f2 (by decide) (by decide)
    have hC2 : RC w2 m := h.2.1.1.fc f2 (by decide) (by decide)
    have ins : ∀ k, k < l.length → isI m (w2 64 k).toNat = decide ((l.getD k (0, 0)).1 = 27) := fun k hk => by
      obtain ⟨g1, g2⟩ := hG k hk
      rw [g1, Int.toNat_natCast, isI_of g2]
      have h9 := fs_at (show fsN (fun p => decide (m 68 p = (l.getD k (0, 0)).1) && decide (m 69 p = (l.getD k (0, 0)).2)) (nP m) 0 ≠ nP m by unfold poN at g2; omega)
      have h8 := h9.2.1
      simp only [Bool.and_eq_true, decide_eq_true_eq] at h8
      unfold poN
      rw [h8.1]
    have fin : jIn l = false → ∀ i : Nat, l.length ≤ i → i < 20 → Ev (d + 4) 135 (jdQ w m t rl tl l) 106 [rA 1, (0, (l.length : Int)), (0, (i : Int))] [] (enc w2 t) := fun hI i hi hi2 => by
      refine g_cj2 (tx := tl) (m := m) (ps := jPs m l) ⟨fun _ => ⟨⟨hN2, hC2, hp, hr, fun j hj => ?_, by rw [plen]; exact hl, fun p hpp => ?_, by rw [plen]⟩, fun x3 w3 h3 => ?_⟩, fun h9 => absurd (by rw [w32_id (by omega), w32_id (by omega)]; omega) h9⟩
      · rw [plen] at hj
        rw [(hG j hj).1, jps_at hj]
      · unfold jPs at hpp
        obtain ⟨x, hx, e⟩ := List.mem_map.mp hpp
        obtain ⟨k, hk, e2⟩ := List.getElem_of_mem hx
        have := (hG k hk).2
        have e3 : l.getD k (0, 0) = x := by rw [← e2]; simp [List.getD, hk]
        rw [e3] at this
        rw [← e]
        exact this
      · obtain ⟨e3, f3, L3⟩ := h3
        refine ⟨w3, ?_, rfl, f2.tr (f3.mo (by decide) (by decide)), T2.fc f3 (by decide) (by decide), ?_⟩
        · rw [if_neg hUn, if_neg (by rw [hI]; decide), e3]
        · rw [if_neg hUn, if_neg (by rw [hI]; decide)]; exact L3
    by_cases h0 : l.length = 0
    · exact fin (by rw [List.length_eq_zero_iff.mp h0]; rfl) 1 (by omega) (by decide)
    refine lq1 (σ := Unit) (fun i _ => Ev (d + 4) 135 (jdQ w m t rl tl l) 106 [rA 1, (0, (l.length : Int)), (0, (i : Int))] [] (enc w2 t)) (fun i _ => 1 ≤ i ∧ an (fun k => decide (k ≠ 0) && (decide ((l.getD k (0, 0)).1 = 27) && decide ((l.getD (k - 1) (0, 0)).1 = 27))) i = false) l.length ?_ ?_ 1 () (by omega) ⟨Nat.le_refl 1, by show (false || (decide (0 ≠ 0) && _)) = false; simp⟩
    · rintro i _ hi ⟨h1, hI⟩ hE
      have g1 := hG i hi
      have g0 := hG (i - 1) (by omega)
      have i1 := ins i hi
      have i0 := ins (i - 1) (by omega)
      refine g_cj2 (tx := tl) (m := m) (ps := jPs m l) ⟨fun h9 => absurd h9 (by rw [w32_id (by omega), w32_id (by omega)]; omega), fun _ => ?_⟩
      rw [w32_id (x := (i : Int)) (by omega), w32_id (x := (i : Int) - 1) (by omega), Int.toNat_natCast, show ((i : Int) - 1).toNat = i - 1 by omega, i1, i0]
      have nx : (decide ((l.getD i (0, 0)).1 = 27) && decide ((l.getD (i - 1) (0, 0)).1 = 27)) = false → Ev (d + 4) 135 (jdQ w m t rl tl l) 106 [rA 1, (0, (l.length : Int)), (0, (i : Int) + 1)] [] (enc w2 t) := fun h9 => by
        refine hE () ⟨by omega, ?_⟩
        show (an _ i || (decide (i ≠ 0) && (decide ((l.getD i (0, 0)).1 = 27) && decide ((l.getD (i - 1) (0, 0)).1 = 27)))) = false
        rw [hI, h9, Bool.and_false]; rfl
      refine ⟨by omega, ⟨hA2, hp, by omega⟩, fun h9 => nx (by rw [h9, Bool.and_false]), fun h9 => ⟨by omega, ⟨hA2, hp, by omega⟩, fun h8 => nx (by rw [h8, Bool.false_and]), fun h8 => ?_⟩⟩
      have hIn : jIn l = true := an_iff.mpr ⟨i, hi, by rw [h8, h9, decide_eq_true (show i ≠ 0 by omega)]; rfl⟩
      exact ⟨w2, by rw [if_neg hUn, if_pos hIn], rfl, f2, T2, by rw [if_neg hUn, if_pos hIn]; exact L2⟩
    · rintro _ ⟨h1, hI⟩
      exact fin hI l.length (Nat.le_refl _) (by omega)
  refine lq1 (σ := eW) (fun i w2 => Ev (d + 4) 135 (jdQ w m t rl tl l) 49 [rA 1, (0, (l.length : Int)), (0, (i : Int))] [] (enc w2 t)) (fun i w2 => Fc [4, 5, 64, 65, 66] [(2, 6), (2, 7), (1, 14)] w w2 ∧ TC w2 tl ∧ TlC w2 rl ∧ PrC w2 l ∧ ∀ j, j < i → w2 64 j = (poN m (l.getD j (0, 0)).1 (l.getD j (0, 0)).2 : Int) ∧ poN m (l.getD j (0, 0)).1 (l.getD j (0, 0)).2 < nP m) l.length ?_ ?_ 0 w1 (Nat.zero_le _) ⟨f1, T1, L1, hPr, fun j hj => absurd hj (Nat.not_lt_zero j)⟩
  · rintro i w2 hi ⟨f2, T2, L2, P2, hG⟩ hE
    have hA2 : AC w2 m := h.1.2.1.fc f2 (by decide) (by decide)
    obtain ⟨p4, p5⟩ := P2 i hi
    have hbi := hb i hi
    refine g_cj1 (tx := tl) (m := m) (ps := []) ⟨fun h9 => absurd h9 (by rw [w32_id (by omega), w32_id (by omega)]; omega), fun _ => ?_⟩
    rw [w32_id (x := (i : Int)) (by omega), Int.toNat_natCast, p4, p5, nbI_po hp hbi.1 hbi.2.1]
    have ple := pole (l.getD i (0, 0)).1 (l.getD i (0, 0)).2
    have hpb : -1 ≤ poI m (l.getD i (0, 0)).1 (l.getD i (0, 0)).2 ∧ poI m (l.getD i (0, 0)).1 (l.getD i (0, 0)).2 ≤ 16 := by unfold poI; split <;> omega
    rw [w32_id (x := poI m _ _) (by omega), w32_id (x := -1) (by decide)]
    refine ⟨by omega, by omega, ⟨hA2, hp, cdI_b hbi.1, cdI_b hbi.2.1⟩, by omega, by omega, fun h9 => ?_, fun h9 => ?_⟩
    · have hne : ¬ poN m (l.getD i (0, 0)).1 (l.getD i (0, 0)).2 = nP m := fun h8 => h9 (by unfold poI; rw [if_pos h8])
      refine hE _ ⟨f2.tr (Fc.pr (by decide)), T2.fr rfl rfl rfl, L2.fc (R := [64]) (F := []) (Fc.pr (by decide)) (by decide) (by decide), fun j hj => P2 j hj, fun j hj => ?_⟩
      by_cases h7 : j = i
      · rw [h7, wu_eq]
        exact ⟨by unfold poI; rw [if_neg hne], by omega⟩
      · rw [wu_nk _ _ h7]; exact hG j (by omega)
    · have hUn : jUn m l = true := an_iff.mpr ⟨i, hi, decide_eq_true (by
        apply Classical.byContradiction
        intro h8
        have := Classical.not_not.mp h9
        unfold poI at this
        rw [if_neg h8] at this
        omega)⟩
      refine ⟨_, by rw [if_pos hUn], rfl, f2.tr (Fc.pr (by decide)), T2.fr rfl rfl rfl, ?_⟩
      rw [if_pos hUn]
      exact L2.fc (R := [64]) (F := []) (Fc.pr (by decide)) (by decide) (by decide)
  · rintro w2 ⟨f2, T2, L2, P2, hG⟩
    exact g_cj1 (tx := tl) (m := m) (ps := []) ⟨fun _ => half w2 f2 T2 L2 hG, fun h9 => absurd (Int.le_refl _) h9⟩
theorem k_judges {d : Nat} {w : eW} {t : eT} {b : Nat × Nat} {m : eW} {ks : kT} {rl tl : List Int} (h : CI w t b m ks rl tl) (hp : WFp m) (hr : WFr m) : Cl (d + 5) 134 [rA 1] (enc w t) (AnC w m b ks (judgesR tl m rl) [] (0, judgesV tl m)) := by
  have ans : ∀ v R F w2, R = [4, 5, 64, 65, 66] → F = [(2, 6), (2, 7), (1, 14)] → Fc R F w w2 → TC w2 tl → TlC w2 (judgesR tl m rl) → v = judgesV tl m → Ev (d + 5) 134 (AnC w m b ks (judgesR tl m rl) [] (0, judgesV tl m)) 4 [rA 1, (9, 0)] [(0, v)] (enc w2 t) := fun v R F w2 hR hF f2 T2 L2 hv => by
    subst hR hF hv
    refine g_cjudges1 (tx := tl) (m := m) (ps := []) ?_
    have fz : Fc [] [(2, 5), (2, 6)] w2 (wu (wu w2 2 5 0) 2 6 0) := Fc.clr (by decide) (by decide)
    have f3 : Fc [4, 5, 64, 65, 66] [(2, 5), (2, 6), (2, 7), (1, 14)] w (wu (wu w2 2 5 0) 2 6 0) := (f2.mo (by decide) (by decide)).tr (fz.mo (by decide) (by decide))
    exact ⟨_, t, rfl, rfl, f3.up (by decide) (by decide), h.mk f3 (by decide) (by decide) T2.nil (h.2.2.2.1.fc f3 (by decide) (by decide)) (L2.fc fz (by decide) (by decide))⟩
  have hT := h.1.1.1
  have hL := h.2.2.2.2.1
  have hlen := hT.len
  refine g_cjudges (tx := tl) (m := m) (ps := []) ?_
  -- the call judge
  have mid : ∀ l, jR tl = .ok l → ∀ r S2, jdQ w m t rl tl l r S2 → (∀ x, r ≠ some (6, x)) ∧ Ev (d + 5) 134 (AnC w m b ks (judgesR tl m rl) [] (0, judgesV tl m)) 4 [rA 1, (9, 0)] (r.toList ++ []) S2 := fun l hJ r S2 ⟨w2, e1, e2, f2, T2, L2⟩ => by
    subst e1 e2
    refine ⟨fun _ h9 => (by cases h9), ans _ _ _ w2 rfl rfl f2 T2 ?_ ?_⟩
    · unfold judgesR; rw [hJ]; exact L2
    · unfold judgesV; rw [hJ]
  refine g_cj (tx := tl) (m := m) (ps := []) ?_
  rw [hT.2.1, w32_id (x := (tl.length : Int)) (by omega)]
  refine ⟨fun h0 => ⟨fun _ => ?_, fun h9 => absurd h0 h9⟩, fun h0 => ⟨h.1.1, fun x1 w1 hw1 => ?_⟩⟩
  · have hnil : tl = [] := List.length_eq_zero_iff.mp (by omega)
    have hJ : jR tl = .ok [] := by unfold jR; rw [if_pos hnil]
    exact (e_cj49 (l := []) h hp hr (by decide) (fun x hx => by cases hx) (Fc.rf _ _ _) hT hL (fun i hi => absurd hi (Nat.not_lt_zero i))).mono (mid [] hJ)
  · obtain ⟨f1, T1, q1⟩ := hw1
    have f1' : Fc [4, 5, 64, 65, 66] [(2, 6), (2, 7), (1, 14)] w w1 := f1.mo (by decide) (by decide)
    have L1 : TlC w1 rl := hL.fc f1 (by decide) (by decide)
    have hnil : ¬ tl = [] := fun h9 => h0 (by rw [h9]; decide)
    rw [T1.2.1, w32_id (x := (tl.length : Int)) (by omega)]
    cases hP : prsA tl with
    | error q =>
      rw [hP] at q1
      obtain ⟨rfl, e6⟩ := q1
      have hJ : jR tl = .error q := by unfold jR; rw [if_neg hnil, hP]
      refine ⟨fun h9 => absurd (by decide +kernel) h9, fun _ => ⟨fun _ h9 => (by cases h9), ans _ _ _ w1 rfl rfl f1' T1 ?_ ?_⟩⟩
      · unfold judgesR; rw [hJ]; exact L1
      · unfold judgesV; rw [hJ, e6]
    | ok l =>
      rw [hP] at q1
      obtain ⟨rfl, e7, hPr⟩ := q1
      obtain ⟨hok, hl⟩ := prsA_b hP
      have hJ : jR tl = .ok l := by unfold jR; rw [if_neg hnil, hP]
      rw [e7]
      refine ⟨fun _ => ⟨fun h9 => absurd h9 h0, fun _ => ?_⟩, fun h9 => absurd (fun h8 => absurd h8 (by decide +kernel)) h9⟩
      exact (e_cj49 h hp hr hl hok f1' T1 L1 hPr).mono (mid l hJ)

