/-! The model: holds, never, closed. -/
def okI (x : Int) : Prop := -2147483648 ≤ x ∧ x ≤ 2147483647
def holdsV (m : eW) (p : Int) : Int := if 0 ≤ p ∧ p < nP m then (if fw m p.toNat = 7 then -2 else (fw m p.toNat : Int)) else -1
def holdsK (m : eW) (ks : kT) (p : Int) : kT := if 0 ≤ p ∧ p < nP m then (if fw m p.toNat = 7 then ks else [(hpt m p.toNat (fw m p.toNat) 0 16 16 16, [])]) else ks
theorem fw_hB {m : eW} {wt : Nat} (h : fw m wt ≠ 7) : hB m wt (fw m wt) 0 16 16 16 = true := by
  have h1 := fw_le m wt
  by_cases hex : ∃ j, 1 ≤ j ∧ j < 1 + 6 ∧ (fun n => hB m wt n 0 16 16 16) j = true
  · exact (fsN_spec 6 1 hex).1
  · exfalso
    apply h
    exact fsN_none 6 1 (fun j h2 h3 => by
      cases hh : hB m wt j 0 16 16 16
      · rfl
      · exact absurd ⟨j, h2, h3, hh⟩ hex)
theorem c_mholds {d : Nat} {m w : eW} {t : eT} {ks : kT} {p : Int} (h : MG w m ∧ w 67 35 = -1 ∧ KM w ks ∧ okI p) : Cl (d + 14) 218 [rA 67, (0, p)] (enc w t) (fun r S2 => ∃ w2, r = some (0, holdsV m p) ∧ S2 = enc w2 t ∧ Fm [81, 82, 83, 84, 92, 93, 94] [17, 26, 38, 40, 45] w w2 ∧ KM w2 (holdsK m ks p) ∧ w2 67 26 = 0) := by
  obtain ⟨hm, hwo, hK, hp0⟩ := h
  have hpn := hm.1.n
  have hp0' := hp0
  unfold okI at hp0'
  have q00 : Fm [81, 82, 83, 84, 92, 93, 94] [17, 26, 38, 40, 45] w (wu w 67 26 0) := Fm.pf (by decide)
  refine g_holds0 (m := m) (wt := p.toNat) (ks := []) (ml := []) (J := (9, 0)) hm1 ?_
  rw [hm.2.2.1.1]
  simp (disch := omega) only [w32_id, w64_id]
  refine ⟨fun h1 => ?_, fun h1 => ?_⟩
  · have h1 := of_decide_eq_true h1
    have hin : 0 ≤ p ∧ p < nP m := by omega
    refine ⟨⟨hm.m q00 (by decide) (by decide), hwo, ⟨hin.1, hin.2⟩⟩, fun w1 hw1 => ?_⟩
    obtain ⟨f1, f2, f3⟩ := hw1
    have q1 : Fm [81, 82, 83, 84, 92, 93, 94] [17, 26, 38, 40, 45] w w1 := q00.tr (f1.mo (by decide) (by decide))
    have ht26 : w1 67 26 = 0 := by rw [f1.2 26 (by decide)]; exact wu_eq _ _ _ _
    have hfl := fw_le m p.toNat
    have hr1 : -2147483648 ≤ fwI m p.toNat ∧ fwI m p.toNat ≤ 2147483647 := by unfold fwI; split <;> omega
    simp (disch := omega) only [w32_id]
    refine ⟨fun h2 => ?_, fun h2 => ?_⟩
    · have h7 : fw m p.toNat ≠ 7 := fun h9 => h2 (by unfold fwI; rw [if_pos h9])
      have hfi : fwI m p.toNat = (fw m p.toNat : Int) := by unfold fwI; rw [if_neg h7]
      rw [hfi]
      have hV : holdsV m p = (fw m p.toNat : Int) := by unfold holdsV; rw [if_pos hin, if_neg h7]
      have hKK : holdsK m ks p = [(hpt m p.toNat (fw m p.toNat) 0 16 16 16, [])] := by unfold holdsK; rw [if_pos hin, if_neg h7]
      rw [hV, hKK]
      have q2 : Fm [81, 82, 83, 84, 92, 93, 94] [17, 26, 38, 40, 45] w (wu (wu w1 67 17 0) 67 40 0) := q1.tr ((Fm.pf (k := 17) (by decide)).tr (Fm.pf (k := 40) (by decide)))
      have hB1 := fw_hB h7
      generalize hwt : p.toNat = wt at *
      have hpw : p = (wt : Int) := by omega
      generalize fw m wt = N at *
      have main : ∀ (n z a b c : Nat) (ml : List Nat) (σ : eW) (J : aV), ml.length + n = N → z ≤ 1 → a ≤ 16 → b ≤ 16 → (c < nP m ∨ c = 16) → hB m wt n z a b c = true → Fm [81, 82, 83, 84, 92, 93, 94] [17, 26, 38, 40, 45] w σ → KnW (PmH m wt) σ → σ 67 45 = p → σ 67 26 = 0 → KM σ [] → MdM σ ml → ml ++ hpt m wt n z a b c = hpt m wt N 0 16 16 16 → Ev (d + 14) 218 (fun r S2 => ∃ w2, r = some (0, (N : Int)) ∧ S2 = enc w2 t ∧ Fm [81, 82, 83, 84, 92, 93, 94] [17, 26, 38, 40, 45] w w2 ∧ KM w2 [(hpt m wt N 0 16 16 16, [])] ∧ w2 67 26 = 0) 66 [rA 67, (0, p), (0, (N : Int)), (0, (a : Int)), (0, (b : Int)), (0, (c : Int)), (0, (z : Int)), (0, (n : Int) - 1), J] [] (enc σ t) := by
        intro n
        induction n with
        | zero =>
          intro z a b c ml σ J hl hz ha hb hc hBn y1 y2 y3 y4 y5 y6 y7
          refine g_holds1 (m := m) (wt := wt) (ks := []) (ml := ml) hm1 ?_
          simp (disch := omega) only [w32_id]
          refine ⟨fun _ => ⟨⟨y5, y6⟩, fun w2 hw2 => ⟨w2, by trivial, rfl, y1.tr ⟨fun a a1 a2 => ?_, fun k hk => ?_⟩, ?_, ?_⟩⟩, fun h9 => (by omega)⟩
          · exact hw2.1.1 a a1 (by simp at a2; omega)
          · exact hw2.1.2 k (fun h9 => hk (by simp [h9]))
          · have := hw2.2
            rw [show hpt m wt 0 z a b c = [] from rfl, List.append_nil] at y7
            rw [← y7]
            exact this
          · rw [hw2.1.2 26 (by decide)]; exact y4
        | succ n ih =>
          intro z a b c ml σ J hl hz ha hb hc hBn y1 y2 y3 y4 y5 y6 y7
          obtain ⟨r1, r2, r3, r4⟩ := hnx_ok hBn
          refine g_holds1 (m := m) (wt := wt) (ks := []) (ml := ml) hm1 ?_
          simp (disch := omega) only [w32_id]
          refine ⟨fun h9 => (by omega), fun _ => ?_⟩
          have step : ∀ (q : Nat), q ≤ hnx m wt n z a b c → ∀ (σ2 : eW), Fm [81, 82, 83, 84, 92, 93, 94] [17, 26, 38, 40, 45] w σ2 → KnW (PmH m wt) σ2 → σ2 67 45 = p → σ2 67 26 = 0 → KM σ2 [] → MdM σ2 ml → Ev (d + 14) 218 (fun r S2 => ∃ w2, r = some (0, (N : Int)) ∧ S2 = enc w2 t ∧ Fm [81, 82, 83, 84, 92, 93, 94] [17, 26, 38, 40, 45] w w2 ∧ KM w2 [(hpt m wt N 0 16 16 16, [])] ∧ w2 67 26 = 0) 74 [rA 67, (0, p), (0, (N : Int)), (0, (a : Int)), (0, (b : Int)), (0, (c : Int)), (0, (z : Int)), (0, ((n + 1 : Nat) : Int) - 1), (0, (q : Int))] [] (enc σ2 t) := by
            refine lp0 (fun q => ∀ (σ2 : eW), Fm [81, 82, 83, 84, 92, 93, 94] [17, 26, 38, 40, 45] w σ2 → KnW (PmH m wt) σ2 → σ2 67 45 = p → σ2 67 26 = 0 → KM σ2 [] → MdM σ2 ml → Ev (d + 14) 218 (fun r S2 => ∃ w2, r = some (0, (N : Int)) ∧ S2 = enc w2 t ∧ Fm [81, 82, 83, 84, 92, 93, 94] [17, 26, 38, 40, 45] w w2 ∧ KM w2 [(hpt m wt N 0 16 16 16, [])] ∧ w2 67 26 = 0) 74 [rA 67, (0, p), (0, (N : Int)), (0, (a : Int)), (0, (b : Int)), (0, (c : Int)), (0, (z : Int)), (0, ((n + 1 : Nat) : Int) - 1), (0, (q : Int))] [] (enc σ2 t)) (hnx m wt n z a b c) ?_ ?_
            · intro q hq hE σ2 x1 x2 x3 x4 x5 x6
              have hno := r4 q hq
              have hX2 : HCx m wt σ2 := ⟨hm.m x1 (by decide) (by decide), by rw [x1.2 35 (by decide)]; exact hwo, by rw [x3, hpw], by omega⟩
              have cont : ∀ σ3 : eW, FrT σ2 σ3 → KnW (PmH m wt) σ3 → Ev (d + 14) 218 (fun r S2 => ∃ w2, r = some (0, (N : Int)) ∧ S2 = enc w2 t ∧ Fm [81, 82, 83, 84, 92, 93, 94] [17, 26, 38, 40, 45] w w2 ∧ KM w2 [(hpt m wt N 0 16 16 16, [])] ∧ w2 67 26 = 0) 115 [rA 67, (0, p), (0, (N : Int)), (0, (a : Int)), (0, (b : Int)), (0, (c : Int)), (0, (z : Int)), (0, ((n + 1 : Nat) : Int) - 1), (0, (q : Int))] [] (enc σ3 t) := fun σ3 g1 g2 => g_holds4 (m := m) (wt := wt) (ks := []) (ml := []) (J := (9, 0)) hm1 (hE σ3 (x1.tr (g1.m.mo (by decide) (by decide))) g2 (by rw [g1.2 45 (by decide)]; exact x3) (by rw [g1.2 26 (by decide)]; exact x4) (x5.fr (g1.2 17 (by decide)) (fun a a1 a2 => g1.1 a (by omega) (by omega) (by omega))) (x6.fr (g1.2 40 (by decide)) (g1.1 94 (by decide) (by decide) (by decide))))
              refine g_holds2 (m := m) (wt := wt) (ks := []) (ml := []) (J := (9, 0)) hm1 ?_
              simp (disch := omega) only [w32_id, Int.toNat_natCast]
              refine ⟨⟨hX2.1, hX2.2.1, ⟨by omega, by omega⟩, ⟨by omega, by omega⟩, ⟨by omega, by omega⟩, ⟨by omega, by omega⟩⟩, fun hg => cont σ2 (FrT.rf _) x2, fun hg => ?_⟩
              rw [hg, Bool.true_and] at hno
              have e0 : (((n + 1 : Nat) : Int) - 1).toNat = n := by omega
              refine ⟨fun hne => ⟨⟨hX2, x2, ⟨by omega, by omega, by omega⟩, ⟨by omega, by omega⟩, ⟨⟨by omega, by omega⟩, ⟨by omega, by omega⟩, ⟨by omega, by omega⟩⟩⟩, fun x w2 t2 hpo => ?_⟩, fun heq => ⟨⟨hX2, x2, ⟨by omega, by omega, by omega⟩, ⟨by decide, by decide⟩, ⟨⟨by omega, by omega⟩, ⟨by omega, by omega⟩, ⟨by omega, by omega⟩⟩⟩, fun x w2 t2 hpo => ?_⟩⟩
              · obtain ⟨p1, p2, p3, p4⟩ := hpo
                subst p2
                simp only [Int.toNat_natCast, e0] at p1
                rw [if_neg (by omega)] at hno
                rw [hno] at p1
                rw [p1]
                exact ⟨fun h9 => absurd (by decide +kernel) h9, fun _ => cont w2 p3 p4⟩
              · obtain ⟨p1, p2, p3, p4⟩ := hpo
                subst p2
                simp only [Int.toNat_natCast, e0, show (1 : Int).toNat = 1 from rfl] at p1
                rw [if_pos (by omega)] at hno
                rw [hno] at p1
                rw [p1]
                exact ⟨fun h9 => absurd (by decide +kernel) h9, fun _ => cont w2 p3 p4⟩
            · intro σ2 x1 x2 x3 x4 x5 x6
              have hX2 : HCx m wt σ2 := ⟨hm.m x1 (by decide) (by decide), by rw [x1.2 35 (by decide)]; exact hwo, by rw [x3, hpw], by omega⟩
              have fnd : ∀ σ3 : eW, FrT σ2 σ3 → KnW (PmH m wt) σ3 → Ev (d + 14) 218 (fun r S2 => ∃ w2, r = some (0, (N : Int)) ∧ S2 = enc w2 t ∧ Fm [81, 82, 83, 84, 92, 93, 94] [17, 26, 38, 40, 45] w w2 ∧ KM w2 [(hpt m wt N 0 16 16 16, [])] ∧ w2 67 26 = 0) 121 [rA 67, (0, p), (0, (N : Int)), (0, (a : Int)), (0, (b : Int)), (0, (c : Int)), (0, (z : Int)), (0, ((n + 1 : Nat) : Int) - 1), (0, (hnx m wt n z a b c : Int))] [] (enc σ3 t) := by
                intro σ3 g1 g2
                have hM3 := x6.fr (g1.2 40 (by decide)) (g1.1 94 (by decide) (by decide) (by decide))
                have q3 : Fm [81, 82, 83, 84, 92, 93, 94] [17, 26, 38, 40, 45] w (wu (wu σ3 94 ml.length ((hnx m wt n z a b c : Nat) : Int)) 67 40 ((ml.length : Int) + 1)) := (x1.tr (g1.m.mo (by decide) (by decide))).tr ((Fm.pr (by decide) (by decide)).tr (Fm.pf (by decide)))
                have go : ∀ z2 : Nat, z2 = (if hnx m wt n z a b c = wt then 1 else z) → Ev (d + 14) 218 (fun r S2 => ∃ w2, r = some (0, (N : Int)) ∧ S2 = enc w2 t ∧ Fm [81, 82, 83, 84, 92, 93, 94] [17, 26, 38, 40, 45] w w2 ∧ KM w2 [(hpt m wt N 0 16 16 16, [])] ∧ w2 67 26 = 0) 66 [rA 67, (0, p), (0, (N : Int)), (0, (b : Int)), (0, (c : Int)), (0, (hnx m wt n z a b c : Int)), (0, (z2 : Int)), (0, ((n + 1 : Nat) : Int) - 1 + -1), (0, (hnx m wt n z a b c : Int))] [] (enc (wu (wu σ3 94 ml.length ((hnx m wt n z a b c : Nat) : Int)) 67 40 ((ml.length : Int) + 1)) t) := by
                  intro z2 hz2
                  rw [show ((n + 1 : Nat) : Int) - 1 + -1 = (n : Int) - 1 by omega]
                  refine ih z2 b c (hnx m wt n z a b c) (ml ++ [hnx m wt n z a b c]) _ _ (by rw [List.length_append, List.length_singleton]; omega) (by rw [hz2]; split <;> omega) hb (by omega) (Or.inl r1) (by rw [hz2]; exact r3) q3 g2.lay ?_ ?_ ?_ (hM3.lay (by omega)) ?_
                  · rw [wu_nk _ _ (by decide), wu_row (by decide), g1.2 45 (by decide)]; exact x3
                  · rw [wu_nk _ _ (by decide), wu_row (by decide), g1.2 26 (by decide)]; exact x4
                  · exact (x5.fr (g1.2 17 (by decide)) (fun a a1 a2 => g1.1 a (by omega) (by omega) (by omega))).fr (by rw [wu_nk _ _ (by decide), wu_row (by decide)]) (fun a a1 a2 => by rw [wu_row (by omega), wu_row (by omega)])
                  · rw [hz2, List.append_assoc]
                    exact y7
                refine g_holds3 (m := m) (wt := wt) (ks := []) (ml := []) (J := (9, 0)) hm1 ?_
                rw [hM3.1]
                simp (disch := omega) only [w32_id, Int.toNat_natCast]
                refine ⟨fun hne => ⟨by omega, go z ?_⟩, fun heq => ⟨by omega, go 1 ?_⟩⟩
                · rw [if_neg (by omega)]
                · rw [if_pos (by omega)]
              refine g_holds2 (m := m) (wt := wt) (ks := []) (ml := []) (J := (9, 0)) hm1 ?_
              simp (disch := omega) only [w32_id, Int.toNat_natCast]
              have e0 : (((n + 1 : Nat) : Int) - 1).toNat = n := by omega
              refine ⟨⟨hX2.1, hX2.2.1, ⟨by omega, by omega⟩, ⟨by omega, by omega⟩, ⟨by omega, by omega⟩, ⟨by omega, by omega⟩⟩, fun hg => (by rw [r2] at hg; cases hg), fun _ => ⟨fun hne => ⟨⟨hX2, x2, ⟨by omega, by omega, by omega⟩, ⟨by omega, by omega⟩, ⟨⟨by omega, by omega⟩, ⟨by omega, by omega⟩, ⟨by omega, by omega⟩⟩⟩, fun x w2 t2 hpo => ?_⟩, fun heq => ⟨⟨hX2, x2, ⟨by omega, by omega, by omega⟩, ⟨by decide, by decide⟩, ⟨⟨by omega, by omega⟩, ⟨by omega, by omega⟩, ⟨by omega, by omega⟩⟩⟩, fun x w2 t2 hpo => ?_⟩⟩⟩
              · obtain ⟨p1, p2, p3, p4⟩ := hpo
                subst p2
                simp only [Int.toNat_natCast, e0] at p1
                rw [if_neg (by omega)] at r3
                rw [r3] at p1
                rw [p1]
                exact ⟨fun _ => fnd w2 p3 p4, fun h9 => absurd (by decide +kernel) h9⟩
              · obtain ⟨p1, p2, p3, p4⟩ := hpo
                subst p2
                simp only [Int.toNat_natCast, e0, show (1 : Int).toNat = 1 from rfl] at p1
                rw [if_pos (by omega)] at r3
                rw [r3] at p1
                rw [p1]
                exact ⟨fun _ => fnd w2 p3 p4, fun h9 => absurd (by decide +kernel) h9⟩
          exact step 0 (Nat.zero_le _) σ y1 y2 y3 y4 y5 y6
      refine main N 0 16 16 16 [] (wu (wu w1 67 17 0) 67 40 0) (9, 0) (by simp) (by decide) (by decide) (by decide) (Or.inr rfl) hB1 q2 ((f2.fld (by decide)).fld (by decide)) ?_ ?_ (KM.nil rfl) (MdM.nil (wu_eq _ _ _ _)) rfl
      · rw [wu_nk _ _ (by decide), wu_nk _ _ (by decide)]; exact f3
      · rw [wu_nk _ _ (by decide), wu_nk _ _ (by decide)]; exact ht26
    · have h7 : fw m p.toNat = 7 := by
        by_cases h9 : fw m p.toNat = 7
        · exact h9
        · exfalso
          unfold fwI at h2
          rw [if_neg h9] at h2
          omega
      refine ⟨w1, ?_, rfl, q1, ?_, ht26⟩
      · unfold holdsV; rw [if_pos hin, if_pos h7]
      · unfold holdsK; rw [if_pos hin, if_pos h7]
        exact hK.fr (by rw [f1.2 17 (by decide)]; rfl) (fun a a1 a2 => by rw [f1.1 a (by omega) (by simp; omega), wu_row (by omega)])
  · have h1 := of_decide_eq_false h1
    have hin : ¬ (0 ≤ p ∧ p < nP m) := by omega
    refine ⟨_, ?_, rfl, q00, ?_, wu_eq _ _ _ _⟩
    · unfold holdsV; rw [if_neg hin]
    · unfold holdsK; rw [if_neg hin]
      exact hK.fr (wu_nk _ _ (by decide)) (fun a a1 a2 => wu_row (by omega))
def neverV (m : eW) : Nat := bts (fun p => decide (fw m p = 7)) (nP m)
theorem c_mnever {d : Nat} {m w : eW} {t : eT} (h : MG w m ∧ w 67 35 = -1) : Cl (d + 14) 219 [rA 67] (enc w t) (fun r S2 => ∃ w2, r = some (0, (neverV m : Int)) ∧ S2 = enc w2 t ∧ Fm [92, 93] [26, 38, 45] w w2 ∧ w2 67 26 = 0) := by
  obtain ⟨hm, hwo⟩ := h
  have hpn := hm.1.n
  refine g_never0 (m := m) (wt := 0) (ks := []) (ml := []) (J := (9, 0)) hm1 ?_
  refine lq1 (fun i (σ : eW) => Ev (d + 14) 219 (fun r S2 => ∃ w2, r = some (0, (neverV m : Int)) ∧ S2 = enc w2 t ∧ Fm [92, 93] [26, 38, 45] w w2 ∧ w2 67 26 = 0) 9 [rA 67, (0, (bts (fun p => decide (fw m p = 7)) i : Int)), (0, (i : Int))] [] (enc σ t)) (fun i σ => Fm [92, 93] [26, 38, 45] w σ ∧ σ 67 26 = 0) (nP m) ?_ ?_ 0 (wu w 67 26 0) (Nat.zero_le _) ⟨Fm.pf (by decide), wu_eq _ _ _ _⟩
  · intro i σ hi hI hE
    have hm2 := hm.m hI.1 (by decide) (by decide)
    refine g_never1 (m := m) (wt := 0) (ks := []) (ml := []) (J := (9, 0)) hm1 ?_
    rw [hm2.2.2.1.1]
    have hfl := fw_le m i
    have hbl := bts_lt (fun p => decide (fw m p = 7)) i
    have h16 : 2 ^ i ≤ 65536 := Nat.pow_le_pow_right (n := 2) (by decide) (show i ≤ 16 by omega)
    have hr1 : -2147483648 ≤ fwI m i ∧ fwI m i ≤ 2147483647 := by unfold fwI; split <;> omega
    simp (disch := omega) only [w32_id, Int.toNat_natCast]
    refine ⟨fun h9 => (by omega), fun _ => ⟨⟨hm2, by rw [hI.1.2 35 (by decide)]; exact hwo, ⟨by omega, by omega⟩⟩, fun w1 hw1 => ?_⟩⟩
    have q1 : Fm [92, 93] [26, 38, 45] w w1 := hI.1.tr (hw1.1.mo (by decide) (by decide))
    have q2 : w1 67 26 = 0 := by rw [hw1.1.2 26 (by decide)]; exact hI.2
    have hE2 := hE w1 ⟨q1, q2⟩
    rw [show bts (fun p => decide (fw m p = 7)) (i + 1) = bts (fun p => decide (fw m p = 7)) i ||| (if decide (fw m i = 7) then 2 ^ i else 0) from rfl] at hE2
    refine ⟨fun h2 => ?_, fun h2 => ?_⟩
    · have h7 : ¬ fw m i = 7 := fun h9 => h2 (by unfold fwI; rw [if_pos h9])
      rw [decide_eq_false h7] at hE2
      rw [show (0 : Int) = ((0 : Nat) : Int) from rfl, b_or (by omega) (by decide)]
      exact hE2
    · have h7 : fw m i = 7 := by
        by_cases h9 : fw m i = 7
        · exact h9
        · exfalso
          unfold fwI at h2
          rw [if_neg h9] at h2
          omega
      rw [decide_eq_true h7, if_pos rfl] at hE2
      rw [i_set (by omega) (by omega), Int.toNat_natCast, Int.toNat_natCast]
      exact hE2
  · intro σ hI
    refine g_never1 (m := m) (wt := 0) (ks := []) (ml := []) (J := (9, 0)) hm1 ?_
    rw [(hm.m hI.1 (by decide) (by decide)).2.2.1.1]
    simp (disch := omega) only [w32_id]
    exact ⟨fun _ => ⟨σ, by trivial, rfl, hI.1, hI.2⟩, fun h9 => (by omega)⟩

