/-! The model: clashes, the recursion. -/
theorem fnd_0 {m : eW} {a b n : Nat} {ml : List Nat} (h : ml.length = n) : fnd m a b n ml = if hit m a b ml then some [] else none := by
  unfold fnd
  rw [h, Nat.sub_self]
  show List.find? (fun l => hit m a b (ml ++ l)) [[]] = _
  cases hh : hit m a b ml
  · simp [hh]
  · simp [hh]
theorem fnd_s {m : eW} {a b n k : Nat} {ml : List Nat} (h : n - ml.length = k + 1) : fnd m a b n ml = (lsD (fun d => if isI m (lsT ml) && isI m d then [] else (rwL m k d).map (fun l => d :: l)) (nP m)).find? (fun l => hit m a b (ml ++ l)) := by
  unfold fnd
  rw [h]
  rfl
theorem fnd_map {m : eW} {a b n k d : Nat} {ml : List Nat} (h : n - ml.length = k + 1) : ((rwL m k d).map (fun l => d :: l)).find? (fun l => hit m a b (ml ++ l)) = (fnd m a b n (ml ++ [d])).map (fun l => d :: l) := by
  unfold fnd
  rw [List.length_append, List.length_singleton, show n - (ml.length + 1) = k by omega, lsT_app, List.find?_map]
  congr 2
  funext l
  simp
theorem c_clashesB {d : Nat} {m : eW} : ∀ (B : Nat) (g : List Nat) (a b n : Int) (w : eW) (t : eT), KPR m B g a b n w t → Cl (d + B + 4) 224 [rA 67, (0, a), (0, b), (0, n)] (enc w t) (fun r S2 => ∃ x w2 t2, r = some (0, x) ∧ S2 = enc w2 t2 ∧ KPO m g a b n w t x w2 t2) := by
  intro B
  induction B with
  | zero => intro g a b n w t h; exact absurd h.2.2.2.2.2.2.2 (Nat.not_lt_zero _)
  | succ B ih =>
    intro ml a b n w t h
    obtain ⟨hm, ha, hb, hM, hlt, hl1, hl2, hB⟩ := h
    have hpn := hm.1.n
    have hMl := hM.2.1
    refine g_clashes0 (m := m) (ml := ml) (wo := 0) ?_
    rw [hM.1]
    have hcl : -1 ≤ clI m a.toNat b.toNat ml ∧ clI m a.toNat b.toNat ml ≤ 16 := by
      unfold clI clF
      have := fsN_le (P := clP m a.toNat b.toNat ml) ml.length 0
      split <;> omega
    simp (disch := omega) only [w32_id]
    refine ⟨fun hne => ?_, fun heq => ⟨⟨hm, ha, hb, hM, hlt⟩, fun h1 => ?_, fun h1 => ?_⟩⟩
    · obtain ⟨k, hk⟩ : ∃ k, n.toNat - ml.length = k + 1 := ⟨n.toNat - ml.length - 1, by omega⟩
      have hfs := fnd_s (m := m) (a := a.toNat) (b := b.toNat) hk
      generalize hF : (fun d => if isI m (lsT ml) && isI m d then [] else (rwL m k d).map (fun l => d :: l)) = F at hfs
      refine lq1 (fun i (σ : eW) => Ev (d + B + 5) 224 (fun r S2 => ∃ x w2 t2, r = some (0, x) ∧ S2 = enc w2 t2 ∧ KPO m ml a b n w t x w2 t2) 35 [rA 67, (0, a), (0, b), (0, n), (0, (i : Int))] [] (enc σ t)) (fun i σ => Fm [94] [40, 46] w σ ∧ MdM σ ml ∧ (lsD F i).find? (fun l => hit m a.toNat b.toNat (ml ++ l)) = none) (nP m) ?_ ?_ 0 w (Nat.zero_le _) ⟨Fm.rf _ _ _, hM, rfl⟩
      · intro i σ hi hI hE
        obtain ⟨i1, i2, i3⟩ := hI
        have hm2 := hm.m i1 (by decide) (by decide)
        have hFi : F i = (if isI m (lsT ml) && isI m i then [] else (rwL m k i).map (fun l => i :: l)) := by rw [← hF]
        rw [show lsD F (i + 1) = lsD F i ++ F i from rfl, List.find?_append, i3, Option.none_or] at hE
        have body : (isI m (lsT ml) && isI m i) = false → Ev (d + B + 5) 224 (fun r S2 => ∃ x w2 t2, r = some (0, x) ∧ S2 = enc w2 t2 ∧ KPO m ml a b n w t x w2 t2) 74 [rA 67, (0, a), (0, b), (0, n), (0, (i : Int))] [] (enc σ t) := by
          intro hno
          rw [hno, if_neg (by decide)] at hFi
          refine g_clashes2 (m := m) (ml := ml) (wo := 0) ih ?_
          rw [i2.1]
          simp (disch := omega) only [w32_id, Int.toNat_natCast]
          have hfr : Fm [94] [40, 46] w (wu (wu σ 94 ml.length (i : Int)) 67 40 ((ml.length : Int) + 1)) := i1.tr ((Fm.pr (by decide) (by decide)).tr (Fm.pf (by decide)))
          refine ⟨by omega, ml ++ [i], ⟨hm.m hfr (by decide) (by decide), ha, hb, i2.lay (by omega), ?_, by rw [List.length_append, List.length_singleton]; omega, hl2, by rw [List.length_append, List.length_singleton]; omega⟩, fun x w3 t3 hp => ?_⟩
          · intro p hp
            rw [List.mem_append, List.mem_singleton] at hp
            rcases hp with hp | hp
            · exact hlt p hp
            · omega
          · obtain ⟨p1, p2, p3, p4, p5⟩ := hp
            subst p2
            have hmap := fnd_map (m := m) (a := a.toNat) (b := b.toNat) (d := i) hk
            rw [p1, bI_w, bI_0]
            have fr3 : Fm [94] [40, 46] w w3 := hfr.tr p3
            refine ⟨fun h2 => ?_, fun h2 => ?_⟩
            · have hn : fnd m a.toNat b.toNat n.toNat (ml ++ [i]) = none := by
                cases hh : fnd m a.toNat b.toNat n.toNat (ml ++ [i]) with
                | none => rfl
                | some l => rw [hh] at h2; cases h2
              rw [hn] at p4 hmap
              rw [Option.getD_none, List.append_nil] at p4
              refine hE _ ⟨fr3.tr (Fm.pf (by decide)), ?_, ?_⟩
              · have h5 := p4.1
                rw [List.length_append, List.length_singleton] at h5
                refine ⟨by rw [wu_eq]; omega, hMl, fun k hk => ?_⟩
                rw [wu_row (by decide), p4.2.2 k (by rw [List.length_append]; omega), getD_app hk]
              · rw [hFi, hmap]; rfl
            · cases hh : fnd m a.toNat b.toNat n.toNat (ml ++ [i]) with
              | none => rw [hh] at h2; exact absurd rfl h2
              | some l =>
                rw [hh] at p4 p5 hmap
                rw [Option.getD_some] at p4 p5
                have hall : fnd m a.toNat b.toNat n.toNat ml = some (i :: l) := by
                  obtain ⟨L, hL⟩ := lsD_pre F (show i + 1 ≤ nP m by omega)
                  rw [hfs, hL, show lsD F (i + 1) = lsD F i ++ F i from rfl, List.find?_append, List.find?_append, i3, Option.none_or, hFi, hmap]
                  rfl
                refine ⟨_, w3, t3, rfl, rfl, by rw [hall]; rfl, rfl, fr3, ?_, fun _ => ?_⟩
                · rw [hall, Option.getD_some]
                  rw [List.append_assoc] at p4
                  exact p4
                · rw [hall, Option.getD_some]
                  have := p5 rfl
                  rw [List.append_assoc] at this
                  exact this
        refine g_clashes1 (m := m) (ml := ml) (wo := 0) ?_
        rw [hm2.2.2.1.1, i2.1]
        simp (disch := omega) only [w32_id]
        refine ⟨fun h9 => (by omega), fun _ => ⟨fun h1 => body ?_, fun h1 => ?_⟩⟩
        · have : ml = [] := List.length_eq_zero_iff.mp (by omega)
          rw [this, lsT_nil]
          have : isI m 16 = false := by unfold isI; rw [decide_eq_false (by omega)]; rfl
          rw [this]; rfl
        · have e1 : ((ml.length : Int) - 1).toNat = ml.length - 1 := by omega
          have e2 := i2.2.2 (ml.length - 1) (by omega)
          rw [lsT_at (by omega)] at e2
          have hls := lsT_lt hlt
          rw [e1, e2, Int.toNat_natCast, Int.toNat_natCast]
          refine ⟨by omega, ⟨hm2, ⟨by omega, by omega⟩, ⟨by omega, by omega⟩⟩, fun h3 => body ?_, fun h3 => ?_⟩
          · cases hh : (isI m (lsT ml) && isI m i)
            · rfl
            · rw [hh] at h3; cases h3
          · have h3' : (isI m (lsT ml) && isI m i) = true := by
              cases hh : (isI m (lsT ml) && isI m i)
              · rw [hh] at h3; cases h3
              · rfl
            rw [h3', if_pos rfl] at hFi
            exact hE σ ⟨i1, i2, by rw [hFi]; rfl⟩
      · intro σ hI
        obtain ⟨i1, i2, i3⟩ := hI
        refine g_clashes1 (m := m) (ml := ml) (wo := 0) ?_
        rw [(hm.m i1 (by decide) (by decide)).2.2.1.1]
        simp (disch := omega) only [w32_id]
        refine ⟨fun _ => ⟨_, σ, t, rfl, rfl, ?_, rfl, i1, ?_, fun h9 => ?_⟩, fun h9 => (by omega)⟩
        · rw [hfs, i3]; rfl
        · rw [hfs, i3, Option.getD_none, List.append_nil]; exact i2
        · rw [hfs, i3] at h9; cases h9
    · have h0 := fnd_0 (m := m) (a := a.toNat) (b := b.toNat) (n := n.toNat) (ml := ml) (by omega)
      rw [clI_hit.mp h1, if_neg (by decide)] at h0
      refine ⟨_, _, t, rfl, rfl, by rw [h0]; rfl, rfl, Fm.pf (by decide), ?_, fun h9 => ?_⟩
      · rw [h0, Option.getD_none, List.append_nil]
        exact hM.fr (wu_nk _ _ (by decide)) (wu_row (by decide))
      · rw [h0] at h9; cases h9
    · have h0 := fnd_0 (m := m) (a := a.toNat) (b := b.toNat) (n := n.toNat) (ml := ml) (by omega)
      have hh : hit m a.toNat b.toNat ml = true := by
        cases hh : hit m a.toNat b.toNat ml
        · exact absurd (clI_hit.mpr hh) h1
        · rfl
      rw [hh, if_pos rfl] at h0
      refine ⟨_, _, t, rfl, rfl, by rw [h0]; rfl, rfl, Fm.pf (by decide), ?_, fun _ => ?_⟩
      · rw [h0, Option.getD_some, List.append_nil]
        exact hM.fr (wu_nk _ _ (by decide)) (wu_row (by decide))
      · rw [h0, Option.getD_some, List.append_nil, wu_eq]

