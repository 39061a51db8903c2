/-! The class: conflict, conflicts (2). -/

theorem TlC.zero (w : eW) : TlC (wu w 1 14 0) [] := ⟨by rw [wu_eq]; rfl, by decide, fun i hi => absurd hi (Nat.not_lt_zero i)⟩
theorem KC.zero (w : eW) : KC (wu w 48 4 0) [] := ⟨by rw [wu_eq]; rfl, by decide, fun i hi => absurd hi (Nat.not_lt_zero i)⟩
theorem k_conflict {d : Nat} {w : eW} {t : eT} {b : Nat × Nat} {m : eW} {ks : kT} {rl tl : List Int} {a c : Int} (h : CI w t b m ks rl tl) (hp : WFp m) (hr : WFr m) (oa : okI a) (oc : okI c) : Cl (d + 4) 142 [rA 1, (0, a), (0, c)] (enc w t) (AnC w m b (conK m ks a c) (conR m rl a c) tl (0, conV m a c)) := by
  have hC := h.2.1.1
  have hA := h.1.2.1
  have hrn := hr.n
  have oa' : -2147483648 ≤ a ∧ a ≤ 2147483647 := oa
  have oc' : -2147483648 ≤ c ∧ c ≤ 2147483647 := oc
  have no : ¬ ((0 ≤ a ∧ a < nR m) ∧ (0 ≤ c ∧ c < nR m) ∧ ¬ a = c) → AnC w m b (conK m ks a c) (conR m rl a c) tl (0, conV m a c) (some (0, -1)) (enc w t) := by
    intro h9
    have e : conV m a c = -1 := by unfold conV; rw [if_neg h9]
    unfold conK conR
    rw [e, if_neg (by decide), if_neg (by decide)]
    exact ⟨w, t, rfl, rfl, fun _ _ _ => rfl, h⟩
  refine g_ccf (m := m) (ks := []) (ml := fcR m a.toNat c.toNat) ?_
  rw [w32_id oa', w32_id oc', hC.1, ← hrn.1, w32_id (x := (nR m : Int)) (by omega)]
  refine ⟨fun h9 => no (by omega), fun h1 => ⟨fun h9 => no (by omega), fun h2 => ⟨fun h9 => no (by omega), fun h3 => ⟨fun h9 => no (by omega), fun h4 => ⟨fun h5 => ⟨⟨hC, hA, hp, hr, by omega, by omega⟩, fun x1 w2 hz => ?_⟩, fun h9 => no (by omega)⟩⟩⟩⟩⟩
  obtain ⟨f2, hz⟩ := hz
  have eV : conV m a c = fcI m a.toNat c.toNat := by unfold conV; rw [if_pos ⟨by omega, by omega, h5⟩]
  unfold conK conR
  rw [eV]
  rcases hz with ⟨rfl, h5⟩ | ⟨rfl, h4, hl, hr2, hpl⟩
  · have e : fcI m a.toNat c.toNat = -2 := by unfold fcI; rw [if_pos h5]
    rw [e, if_neg (by decide), if_neg (by decide)]
    refine ⟨fun h9 => absurd rfl h9, fun _ => ?_⟩
    exact AnC.of f2 (by decide) (by decide) (h.mk f2 (by decide) (by decide) ⟨h.1.1.1.fc f2 (by decide) (by decide), by rw [f2 2 6 (by decide) (by decide)]; exact h.1.1.2⟩ (h.2.2.2.1.fc f2 (by decide) (by decide)) (h.2.2.2.2.1.fc f2 (by decide) (by decide)))
  · have e : fcI m a.toNat c.toNat = (fcN m a.toNat c.toNat : Int) := by unfold fcI; rw [if_neg (by omega)]
    rw [e, if_pos (by omega), if_pos (by omega)]
    refine ⟨fun _ => ⟨⟨⟨by decide, by decide, by decide, by decide⟩, KC.zero w2, ⟨by rw [hl], by omega, by omega⟩, fun k hk => ?_, by decide⟩, fun w3 hw3 => ⟨by rw [wu_eq]; decide, ?_⟩⟩, fun h9 => absurd (fun h8 => by rw [w32_id (by omega), w32_id (by omega)] at h8; omega) h9⟩
    · rw [wu_na _ _ (by decide)]
      exact hr2 k (by omega)
    · obtain ⟨K3, f3⟩ := hw3
      have e61 : w3 61 4 = clI m a.toNat c.toNat (fcR m a.toNat c.toNat) := by
        rw [f3 61 4 (by decide) (by decide), wu_na _ _ (by decide)]
        exact hpl
      have hb := clI_b m a.toNat c.toNat (fcR m a.toNat c.toNat) (by omega)
      rw [e61, w32_id (by omega)]
      obtain ⟨T4, f4⟩ := TlC.tell (clI m a.toNat c.toNat (fcR m a.toNat c.toNat)) (TlC.zero w3) (by decide)
      have f0 : Fc [] [(48, 4)] w2 (wu w2 48 4 0) := Fc.pf (by decide)
      have f1 : Fc [] [(1, 14)] w3 (wu w3 1 14 0) := Fc.pf (by decide)
      have fA : Fc [49, 50, 51, 62, 63] [(48, 4), (61, 4)] w w3 := ((f2.mo (by decide) (by decide)).tr (f0.mo (by decide) (by decide))).tr (f3.mo (by decide) (by decide))
      have fB : Fc [66] [(1, 14)] w3 (tlW (wu w3 1 14 0) (clI m a.toNat c.toNat (fcR m a.toNat c.toNat))) := (f1.mo (by decide) (by decide)).tr f4
      have fC : Fc [49, 50, 51, 62, 63, 66] [(48, 4), (61, 4), (1, 14)] w (tlW (wu w3 1 14 0) (clI m a.toNat c.toNat (fcR m a.toNat c.toNat))) := (fA.mo (by decide) (by decide)).tr (fB.mo (by decide) (by decide))
      exact AnC.of fC (by decide) (by decide) (h.mk fC (by decide) (by decide) ⟨h.1.1.1.fc fC (by decide) (by decide), by rw [fC 2 6 (by decide) (by decide)]; exact h.1.1.2⟩ (K3.fc fB (by decide) (by decide)) T4)
theorem cpB_l (m : eW) (a c : Nat) : (lsD (cpB m a) c).length ≤ c := by
  induction c with
  | zero => exact Nat.le_refl 0
  | succ c ih =>
    unfold lsD
    rw [List.length_append]
    have : (cpB m a c).length ≤ 1 := by
      unfold cpB
      split
      · exact Nat.le_refl 1
      · exact Nat.zero_le 1
    omega
theorem cpR_app {l : List (Nat × Nat)} (x : Nat × Nat) (h : l ≠ []) : cpR (l ++ [x]) = cpR l := by
  cases l with
  | nil => exact absurd rfl h
  | cons y l => rfl
theorem k_conflicts {d : Nat} {w : eW} {t : eT} {b : Nat × Nat} {m : eW} {ks : kT} {rl tl : List Int} (h : CI w t b m ks rl tl) (hp : WFp m) (hr : WFr m) : Cl (d + 4) 143 [rA 1] (enc w t) (AnC w m b ks (cpR (cpL m)) tl (0, ((cpL m).length : Int))) := by
  have hrn := hr.n
  have key : ∀ (s a : Nat) (w1 : eW) (J : aV), a + s = nR m → Fc [62, 63, 66] [(61, 4), (1, 14)] w w1 → TlC w1 (cpR (lsD (fun a => lsD (cpB m a) (nR m)) a)) → Ev (d + 4) 143 (AnC w m b ks (cpR (cpL m)) tl (0, ((cpL m).length : Int))) 9 [rA 1, (0, ((lsD (fun a => lsD (cpB m a) (nR m)) a).length : Int)), (0, (a : Int)), J] [] (enc w1 t) := by
    intro s
    induction s with
    | zero =>
      intro a w1 J hs f1 T1
      have hC1 : RC w1 m := h.2.1.1.fc f1 (by decide) rfl
      have ea : a = nR m := by omega
      refine g_ccs1 (m := m) (ks := []) (ml := []) ⟨fun _ => ?_, fun h9 => absurd (by rw [hC1.1, ← hrn.1, w32_id (by omega), w32_id (by omega)]; omega) h9⟩
      subst ea
      exact AnC.of f1 (by decide) (by decide) (h.mk f1 (by decide) (by decide) ⟨h.1.1.1.fc f1 (by decide) (by decide), by rw [f1 2 6 (by decide) (by decide)]; exact h.1.1.2⟩ (h.2.2.2.1.fc f1 (by decide) (by decide)) T1)
    | succ s ih =>
      intro a w1 J hs f1 T1
      have hC1 : RC w1 m := h.2.1.1.fc f1 (by decide) rfl
      have hlen := cp_len m a
      have hmul : a * nR m ≤ 64 := Nat.le_trans (Nat.mul_le_mul (show a ≤ 8 by omega) hrn.2) (by decide)
      have inner : ∀ (q c : Nat) (w1 : eW), c + q = nR m → a < c → Fc [62, 63, 66] [(61, 4), (1, 14)] w w1 → TlC w1 (cpR (lsD (fun a => lsD (cpB m a) (nR m)) a ++ lsD (cpB m a) c)) → Ev (d + 4) 143 (AnC w m b ks (cpR (cpL m)) tl (0, ((cpL m).length : Int))) 24 [rA 1, (0, ((lsD (fun a => lsD (cpB m a) (nR m)) a ++ lsD (cpB m a) c).length : Int)), (0, (a : Int)), (0, (c : Int))] [] (enc w1 t) := by
        intro q
        induction q with
        | zero =>
          intro c w1 hq hac f1 T1
          have hC1 : RC w1 m := h.2.1.1.fc f1 (by decide) rfl
          have ec : c = nR m := by omega
          refine g_ccs2 (m := m) (ks := []) (ml := []) ⟨fun _ => ?_, fun h9 => absurd (by rw [hC1.1, ← hrn.1, w32_id (by omega), w32_id (by omega)]; omega) h9⟩
          rw [ec] at T1
          rw [ec]
          exact ih (a + 1) w1 (0, (nR m : Int)) (by omega) f1 T1
        | succ q ihq =>
          intro c w1 hq hac f1 T1
          have hC1 : RC w1 m := h.2.1.1.fc f1 (by decide) rfl
          have hA1 : AC w1 m := h.1.2.1.fc f1 (by decide) (by decide)
          have hcl := cpB_l m a c
          have hL : (lsD (fun a => lsD (cpB m a) (nR m)) a ++ lsD (cpB m a) c).length ≤ 100 := by rw [List.length_append]; omega
          have step := ihq (c + 1)
          rw [show lsD (cpB m a) (c + 1) = lsD (cpB m a) c ++ cpB m a c from rfl, ← List.append_assoc] at step
          obtain ⟨L, eL⟩ : ∃ L, L = lsD (fun a => lsD (cpB m a) (nR m)) a ++ lsD (cpB m a) c := ⟨_, rfl⟩
          rw [← eL] at hL step T1 ⊢
          refine g_ccs2 (m := m) (ks := []) (ml := []) ⟨fun h9 => absurd h9 (by rw [hC1.1, ← hrn.1, w32_id (by omega), w32_id (by omega)]; omega), fun _ => ⟨⟨hC1, hA1, hp, hr, by omega, by omega⟩, fun x1 w2 hz => ?_⟩⟩
          simp only [Int.toNat_natCast] at hz
          obtain ⟨f2, hz⟩ := hz
          have f2' : Fc [62, 63, 66] [(61, 4), (1, 14)] w w2 := f1.tr (f2.mo (by decide) (by decide))
          have T2 : TlC w2 (cpR L) := T1.fc f2 (by decide) (by decide)
          rcases hz with ⟨rfl, h5⟩ | ⟨rfl, h4, _⟩
          · refine ⟨fun _ => ?_, fun h9 => absurd rfl h9⟩
            have e0 : cpB m a c = [] := by unfold cpB; rw [if_neg (fun h8 => h8.2 h5)]
            rw [e0, List.append_nil] at step
            exact step w2 (by omega) (by omega) f2' T2
          · have e1 : cpB m a c = [(a, c)] := by unfold cpB; rw [if_pos ⟨hac, by omega⟩]
            rw [e1] at step
            refine ⟨fun h9 => absurd h9 (by rw [w32_id (by omega), w32_id (by omega)]; omega), fun _ => ?_⟩
            rw [w32_id (x := (L.length : Int)) (by omega)]
            have eln : ((L ++ [(a, c)]).length : Int) = (L.length : Int) + 1 := by rw [List.length_append]; rfl
            rw [eln] at step
            refine ⟨fun h0 => ?_, fun h0 => ?_⟩
            · have hne : L ≠ [] := fun h8 => h0 (by rw [h8]; rfl)
              rw [cpR_app _ hne] at step
              exact step w2 (by omega) (by omega) f2' T2
            · have hnil : L = [] := List.length_eq_zero_iff.mp (by omega)
              rw [hnil] at T2 step ⊢
              have T2 : TlC w2 [] := T2
              rw [w32_id (x := (a : Int)) (by omega), w32_id (x := (c : Int)) (by omega)]
              obtain ⟨T3, f3⟩ := TlC.tell (a : Int) T2 (by decide)
              obtain ⟨T4, f4⟩ := TlC.tell (c : Int) T3 (by show 1 < 24; decide)
              refine ⟨by rw [T2.1]; decide, by rw [T3.1]; show (0 : Int) ≤ 1 ∧ (1 : Int) < 24; decide, ?_⟩
              exact step _ (by omega) (by omega) (f2'.tr ((f3.tr f4).mo (by decide) (by decide))) T4
      refine g_ccs1 (m := m) (ks := []) (ml := []) ⟨fun h9 => absurd h9 (by rw [hC1.1, ← hrn.1, w32_id (by omega), w32_id (by omega)]; omega), fun _ => ?_⟩
      have := inner (nR m - (a + 1)) (a + 1) w1 (by omega) (by omega) f1
      rw [cpB_0 m a (a + 1) (Nat.le_refl _), List.append_nil] at this
      exact this T1
  exact g_ccs (m := m) (ks := []) (ml := []) (key (nR m) 0 _ _ (by omega) (Fc.pf (by decide)) (TlC.zero w))

