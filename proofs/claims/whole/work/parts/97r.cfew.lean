/-! The class: fewest. -/

theorem g_fwc {d : Nat} {Q : Option aV → aS → Prop} {w : eW} {t : eT} {a c : Int} {m : eW} {F : Nat → Nat} (h : (RC w m ∧ AC w m ∧ WFp m ∧ WFr m ∧ (0 ≤ a ∧ a < (nR m : Int)) ∧ (0 ≤ c ∧ c < (nR m : Int))) ∧ (((unl m a.toNat c.toNat) = true → Ev (d + 3) 10 Q 13 [rA 61, (0, a), (0, c), (0, 1), (9, 0)] [] (enc w t)) ∧ ((unl m a.toNat c.toNat) = false → Q (some (0, (-1))) (enc w t)))) : Cl (d + 3) 10 [rA 61, (0, a), (0, c)] (enc w t) Q := by
  show Ev (d + 3) 10 Q 0 [rA 61, (0, a), (0, c), (9, 0), (9, 0)] [] (enc w t)
  refine e_lda (v := 61) (show am_cd 10 0 = (2, 1, 0, 2, []) by decide +kernel) rfl ?_
  refine e_ldi (show am_cd 10 1 = (2, 2, 1, 0, []) by decide +kernel) rfl ?_
  refine e_ldi (show am_cd 10 2 = (2, 3, 2, 0, []) by decide +kernel) rfl ?_
  refine e_cV (z := 0) (a := 61) (as := [(0, a), (0, c)]) (rest := []) (show am_cd 10 3 = (40, 6, 11, 0, [26]) by decide +kernel) (by decide +kernel) rfl rfl (Nat.le_of_ble_eq_true rfl) rfl ?_
  refine Cl.mono (Cl.up (c_du (m := m) (d := d) h.1) (by omega)) ?_
  rintro _ _ ⟨rfl, rfl⟩
  refine ⟨fun _ h9 => (by cases h9), ?_⟩
  replace h := h.2
  show Ev _ 10 _ 6 [rA 61, (0, a), (0, c), (9, 0), (9, 0)] [(0, bI (unl m a.toNat c.toNat))] _
  refine e_ifb1 (show am_cd 10 6 = (10, 9, 11, 1, []) by decide +kernel) (fun hc => ?_) (fun hc => ?_)
  · replace h := h.1 hc
    refine e_ic (show am_cd 10 11 = (0, 12, 0, 1, []) by decide +kernel) ?_
    refine e_sti (la2 := [rA 61, (0, a), (0, c), (0, 1), (9, 0)]) (show am_cd 10 12 = (3, 13, 3, 0, []) by decide +kernel) rfl ?_
    exact h
  · replace h := h.2 hc
    refine e_ic (show am_cd 10 9 = (0, 10, 0, -1, []) by decide +kernel) ?_
    exact e_reti (show am_cd 10 10 = (36, 11, 0, 0, []) by decide +kernel) (by decide +kernel) h

theorem g_fwc1 {d : Nat} {Q : Option aV → aS → Prop} {w : eW} {t : eT} {a c n : Int} {m : eW} {F : Nat → Nat} {Jn : aV} (h : ((w32 4 < w32 n → Q (some (0, (-1))) (enc w t)) ∧ (¬ (w32 4 < w32 n) → Ev (d + 3) 10 Q 27 [rA 61, (0, a), (0, c), (0, n), (0, if w32 0 < w32 (n - 2) then (n - 2) else 0)] [] (enc w t)))) : Ev (d + 3) 10 Q 13 [rA 61, (0, a), (0, c), (0, n), Jn] [] (enc w t) := by
  refine e_ldi (show am_cd 10 13 = (2, 14, 3, 0, []) by decide +kernel) rfl ?_
  refine e_ic (show am_cd 10 14 = (0, 15, 0, 4, []) by decide +kernel) ?_
  refine e_cmp4 (show am_cd 10 15 = (11, 18, 77, 4, []) by decide +kernel) (fun hc => ?_) (fun hc => ?_)
  · replace h := h.1 hc
    refine e_ic (show am_cd 10 77 = (0, 78, 0, -1, []) by decide +kernel) ?_
    exact e_reti (show am_cd 10 78 = (36, 79, 0, 0, []) by decide +kernel) (by decide +kernel) h
  · replace h := h.2 hc
    refine e_ic (show am_cd 10 18 = (0, 19, 0, 0, []) by decide +kernel) ?_
    refine e_ldi (show am_cd 10 19 = (2, 20, 3, 0, []) by decide +kernel) rfl ?_
    refine e_ic (show am_cd 10 20 = (0, 21, 0, 2, []) by decide +kernel) ?_
    refine e_isub (show am_cd 10 21 = (5, 22, 1, 0, []) by decide +kernel) ?_
    refine e_max (z := 0) (show am_cd 10 22 = (33, 25, 9, 0, [30]) by decide +kernel) (Nat.le_of_ble_eq_true rfl) ?_
    refine e_sti (la2 := [rA 61, (0, a), (0, c), (0, n), (0, if w32 0 < w32 (n - 2) then (n - 2) else 0)]) (show am_cd 10 25 = (3, 27, 4, 0, []) by decide +kernel) rfl ?_
    exact h

theorem g_fwc2 {d : Nat} {Q : Option aV → aS → Prop} {w : eW} {t : eT} {a c n p : Int} {m : eW} {F : Nat → Nat} (h : ((w32 2 < w32 p → Ev (d + 3) 10 Q 13 [rA 61, (0, a), (0, c), (0, n + 1), (0, p)] [] (enc w t)) ∧ (¬ (w32 2 < w32 p) → ((w32 n ≤ w32 p → Ev (d + 3) 10 Q 13 [rA 61, (0, a), (0, c), (0, n + 1), (0, p)] [] (enc w t)) ∧ (¬ (w32 n ≤ w32 p) → (RC (wu w 61 4 p) m ∧ AC (wu w 61 4 p) m ∧ WFp m ∧ WFr m ∧ (0 ≤ a ∧ a < (nR m : Int)) ∧ (0 ≤ c ∧ c < (nR m : Int)) ∧ (1 ≤ n ∧ n ≤ 4) ∧ (0 ≤ (wu w 61 4 p) 61 4 ∧ (wu w 61 4 p) 61 4 ≤ 2)) ∧ (∀ x1 w2, (lfQ m a.toNat c.toNat ((wu w 61 4 p) 61 4).toNat n.toNat (wu w 61 4 p) x1 w2) → ((w32 x1 = 0 → Ev (d + 3) 10 Q 27 [rA 61, (0, a), (0, c), (0, n), (0, p + 1)] [] (enc w2 t)) ∧ (¬ (w32 x1 = 0) → (AC w2 m ∧ WFp m ∧ (1 ≤ n ∧ n ≤ 4) ∧ ∀ j, j < n.toNat → F j < 65536 ∧ w2 62 j = (F j : Int)) ∧ (∀ x3 w4, (wfQ m F n.toNat w2 x3 w4) → ((w32 x3 = 0 → Ev (d + 3) 10 Q 27 [rA 61, (0, a), (0, c), (0, n), (0, p + 1)] [] (enc w4 t)) ∧ (¬ (w32 x3 = 0) → Q (some (0, n)) (enc w4 t)))))))))))) : Ev (d + 3) 10 Q 27 [rA 61, (0, a), (0, c), (0, n), (0, p)] [] (enc w t) := by
  refine e_ldi (show am_cd 10 27 = (2, 29, 4, 0, []) by decide +kernel) rfl ?_
  refine e_ic (show am_cd 10 29 = (0, 30, 0, 2, []) by decide +kernel) ?_
  refine e_cmp4 (show am_cd 10 30 = (11, 33, 71, 4, []) by decide +kernel) (fun hc => ?_) (fun hc => ?_)
  · replace h := h.1 hc
    refine e_inc (la2 := [rA 61, (0, a), (0, c), (0, n + 1), (0, p)]) (show am_cd 10 71 = (4, 74, 3, 1, []) by decide +kernel) rfl rfl ?_
    refine e_go (show am_cd 10 74 = (12, 13, 0, 0, []) by decide +kernel) ?_
    exact h
  · replace h := h.2 hc
    refine e_ldi (show am_cd 10 33 = (2, 35, 4, 0, []) by decide +kernel) rfl ?_
    refine e_ldi (show am_cd 10 35 = (2, 36, 3, 0, []) by decide +kernel) rfl ?_
    refine e_cmp3 (show am_cd 10 36 = (11, 39, 71, 3, []) by decide +kernel) (fun hc => ?_) (fun hc => ?_)
    · replace h := h.1 hc
      refine e_inc (la2 := [rA 61, (0, a), (0, c), (0, n + 1), (0, p)]) (show am_cd 10 71 = (4, 74, 3, 1, []) by decide +kernel) rfl rfl ?_
      refine e_go (show am_cd 10 74 = (12, 13, 0, 0, []) by decide +kernel) ?_
      exact h
    · replace h := h.2 hc
      refine e_lda (v := 61) (show am_cd 10 39 = (2, 40, 0, 2, []) by decide +kernel) rfl ?_
      refine e_ldi (show am_cd 10 40 = (2, 42, 4, 0, []) by decide +kernel) rfl ?_
      refine e_putf (a := 61) (show am_cd 10 42 = (19, 45, 104, 0, [36]) by decide +kernel) (by decide +kernel) (by decide +kernel) rfl (fun h9 => absurd h9 (by decide)) (fun h9 => absurd h9 (by decide +kernel)) ?_
      refine e_lda (v := 61) (show am_cd 10 45 = (2, 46, 0, 2, []) by decide +kernel) rfl ?_
      refine e_ldi (show am_cd 10 46 = (2, 47, 1, 0, []) by decide +kernel) rfl ?_
      refine e_ldi (show am_cd 10 47 = (2, 48, 2, 0, []) by decide +kernel) rfl ?_
      refine e_ldi (show am_cd 10 48 = (2, 49, 3, 0, []) by decide +kernel) rfl ?_
      refine e_cV (z := 0) (a := 61) (as := [(0, a), (0, c), (0, n)]) (rest := []) (show am_cd 10 49 = (40, 52, 12, 0, [40]) by decide +kernel) (by decide +kernel) rfl rfl (Nat.le_of_ble_eq_true rfl) rfl ?_
      refine Cl.mono (Cl.up (c_lf (m := m) (d := d) h.1) (by omega)) ?_
      rintro _ _ ⟨x1, w2, rfl, rfl, hp⟩
      refine ⟨fun _ h9 => (by cases h9), ?_⟩
      replace h := h.2 x1 w2 hp
      show Ev _ 10 _ 52 [rA 61, (0, a), (0, c), (0, n), (0, p)] [(0, x1)] _
      refine e_if0 (show am_cd 10 52 = (10, 55, 65, 0, []) by decide +kernel) (fun hc => ?_) (fun hc => ?_)
      · replace h := h.1 hc
        refine e_inc (la2 := [rA 61, (0, a), (0, c), (0, n), (0, p + 1)]) (show am_cd 10 65 = (4, 68, 4, 1, []) by decide +kernel) rfl rfl ?_
        refine e_go (show am_cd 10 68 = (12, 27, 0, 0, []) by decide +kernel) ?_
        exact h
      · replace h := h.2 hc
        refine e_lda (v := 61) (show am_cd 10 55 = (2, 56, 0, 2, []) by decide +kernel) rfl ?_
        refine e_ldi (show am_cd 10 56 = (2, 57, 3, 0, []) by decide +kernel) rfl ?_
        refine e_cV (z := 0) (a := 61) (as := [(0, n)]) (rest := []) (show am_cd 10 57 = (40, 60, 13, 0, [44]) by decide +kernel) (by decide +kernel) rfl rfl (Nat.le_of_ble_eq_true rfl) rfl ?_
        refine Cl.mono (Cl.up (c_wf (m := m) (F := F) (d := d) h.1) (by omega)) ?_
        rintro _ _ ⟨x3, w4, rfl, rfl, hp⟩
        refine ⟨fun _ h9 => (by cases h9), ?_⟩
        replace h := h.2 x3 w4 hp
        show Ev _ 10 _ 60 [rA 61, (0, a), (0, c), (0, n), (0, p)] [(0, x3)] _
        refine e_if0 (show am_cd 10 60 = (10, 63, 65, 0, []) by decide +kernel) (fun hc => ?_) (fun hc => ?_)
        · replace h := h.1 hc
          refine e_inc (la2 := [rA 61, (0, a), (0, c), (0, n), (0, p + 1)]) (show am_cd 10 65 = (4, 68, 4, 1, []) by decide +kernel) rfl rfl ?_
          refine e_go (show am_cd 10 68 = (12, 27, 0, 0, []) by decide +kernel) ?_
          exact h
        · replace h := h.2 hc
          refine e_ldi (show am_cd 10 63 = (2, 64, 3, 0, []) by decide +kernel) rfl ?_
          exact e_reti (show am_cd 10 64 = (36, 65, 0, 0, []) by decide +kernel) (by decide +kernel) h

def fwQ (m : eW) (a c : Nat) (w : eW) (x : Int) (w2 : eW) : Prop := Fc [62, 63] [(61, 4)] w w2 ∧ ((x = -1 ∧ fcN m a c = 5) ∨ (x = (fcN m a c : Int) ∧ fcN m a c ≤ 4 ∧ (fcR m a c).length = fcN m a c ∧ (∀ k, k < fcN m a c → w2 63 k = ((fcR m a c).getD k 0 : Int)) ∧ w2 61 4 = clI m a c (fcR m a c)))
theorem c_few {d : Nat} {w m : eW} {t : eT} {a c : Int} (h : RC w m ∧ AC w m ∧ WFp m ∧ WFr m ∧ (0 ≤ a ∧ a < (nR m : Int)) ∧ (0 ≤ c ∧ c < (nR m : Int))) : Cl (d + 3) 10 [rA 61, (0, a), (0, c)] (enc w t) (fun r S2 => ∃ x w2, r = some (0, x) ∧ S2 = enc w2 t ∧ fwQ m a.toNat c.toNat w x w2) := by
  obtain ⟨hC, hA, hp, hr, ⟨ha0, ha⟩, hc0, hc⟩ := h
  refine g_fwc (m := m) (F := fun _ => 0) ⟨⟨hC, hA, hp, hr, ⟨ha0, ha⟩, hc0, hc⟩, fun hu => ?_, fun hu => ?_⟩
  · obtain ⟨a, rfl⟩ := Int.eq_ofNat_of_zero_le ha0
    obtain ⟨c, rfl⟩ := Int.eq_ofNat_of_zero_le hc0
    simp only [Int.toNat_natCast] at hu ⊢
    have ha : a < nR m := by omega
    have hc : c < nR m := by omega
    have hrn := hr.n
    have main : ∀ (s n : Nat) (w1 : eW) (J : aV), n + s = 5 → 1 ≤ n → Fc [62, 63] [(61, 4)] w w1 → (∀ k B, 1 ≤ k → cRg k B → k < n → ctG m a c k B = none) → Ev (d + 3) 10 (fun r S2 => ∃ x w2, r = some (0, x) ∧ S2 = enc w2 t ∧ fwQ m a c w x w2) 13 [rA 61, (0, (a : Int)), (0, (c : Int)), (0, (n : Int)), J] [] (enc w1 t) := by
      intro s
      induction s with
      | zero =>
        intro n w1 J hs h1 hf hI
        refine g_fwc1 (m := m) (F := fun _ => 0) ⟨fun _ => ⟨-1, w1, rfl, rfl, hf, Or.inl ⟨rfl, fcN_5 hp hr ha hc (fun k B k1 k2 hR => hI k B k1 hR (by omega))⟩⟩, fun h9 => absurd ?_ h9⟩
        rw [w32_id (by omega), w32_id (by omega)]
        omega
      | succ s ih =>
        intro n w1 J hs h1 hf hI
        have inner : ∀ (q p : Nat) (w1 : eW), p + q = 3 → n ≤ p + 2 → Fc [62, 63] [(61, 4)] w w1 → (∀ k B, 1 ≤ k → cRg k B → (k < n ∨ (k = n ∧ B < p)) → ctG m a c k B = none) → Ev (d + 3) 10 (fun r S2 => ∃ x w2, r = some (0, x) ∧ S2 = enc w2 t ∧ fwQ m a c w x w2) 27 [rA 61, (0, (a : Int)), (0, (c : Int)), (0, (n : Int)), (0, (p : Int))] [] (enc w1 t) := by
          intro q
          induction q with
          | zero =>
            intro p w1 hq hnp hf hI
            refine g_fwc2 (m := m) (F := fun _ => 0) ⟨fun _ => ih (n + 1) w1 _ (by omega) (by omega) hf (fun k B k1 hR hk => hI k B k1 hR ?_), fun h9 => absurd ?_ h9⟩
            · have := hR.2.1
              omega
            · rw [w32_id (by omega), w32_id (by omega)]
              omega
          | succ q ihq =>
            intro p w1 hq hnp hf hI
            refine g_fwc2 (m := m) (F := cfB m a c p) ⟨fun h9 => absurd h9 (by rw [w32_id (by omega), w32_id (by omega)]; omega), fun _ => ⟨fun h9 => ?_, fun h9 => ?_⟩⟩
            · rw [w32_id (by omega), w32_id (by omega)] at h9
              refine ih (n + 1) w1 _ (by omega) (by omega) hf (fun k B k1 hR hk => hI k B k1 hR ?_)
              have := hR.2.2
              omega
            · rw [w32_id (by omega), w32_id (by omega)] at h9
              have hR : cRg n p := ⟨hnp, by omega, by omega⟩
              rw [wu_eq]
              simp only [Int.toNat_natCast]
              have hf1 : Fc [62, 63] [(61, 4)] w (wu w1 61 4 (p : Int)) := hf.tr (Fc.pf (by decide))
              have next : ∀ w2, Fc [62, 63] [(61, 4)] w w2 → ctG m a c n p = none → Ev (d + 3) 10 (fun r S2 => ∃ x w2, r = some (0, x) ∧ S2 = enc w2 t ∧ fwQ m a c w x w2) 27 [rA 61, (0, (a : Int)), (0, (c : Int)), (0, (n : Int)), (0, (p : Int) + 1)] [] (enc w2 t) := by
                intro w2 hf2 h0
                refine ihq (p + 1) w2 (by omega) (by omega) hf2 (fun k B k1 hR2 hk => ?_)
                by_cases h8 : k = n ∧ B = p
                · rw [h8.1, h8.2]; exact h0
                · exact hI k B k1 hR2 (by omega)
              refine ⟨⟨hC.fc hf1 (by decide) rfl, hA.fc hf1 (by decide) (by decide), hp, hr, by omega, by omega, by omega, by omega⟩, fun x1 w2 hlf => ?_⟩
              obtain ⟨l1, l2, l3⟩ := hlf
              have hf2 : Fc [62, 63] [(61, 4)] w w2 := hf1.tr (l2.mo (by decide) (by decide))
              refine ⟨fun h8 => next w2 hf2 ?_, fun h8 => ?_⟩
              · unfold ctG
                cases hb : lfB m a c p n with
                | false => rfl
                | true => rw [l1, hb] at h8; exact absurd h8 (by decide)
              · have hb : lfB m a c p n = true := by
                  cases hb : lfB m a c p n with
                  | true => rfl
                  | false => rw [l1, hb] at h8; exact absurd (by decide) h8
                refine ⟨⟨hA.fc hf2 (by decide) (by decide), hp, by omega, fun j hj => ⟨(cfB_b hp a c p j).1, l3 hb j hj⟩⟩, fun x3 w4 hw => ?_⟩
                obtain ⟨v1, v2⟩ := hw
                have hf4 : Fc [62, 63] [(61, 4)] w w4 := hf2.tr (v1.mo (by decide) (by decide))
                have eG : ctG m a c n p = gd m (stk m (cfB m a c p) n) n 0 16 := by unfold ctG; rw [hb]; rfl
                cases hg : gd m (stk m (cfB m a c p) n) n 0 16 with
                | none =>
                  rw [hg] at v2
                  refine ⟨fun _ => next w4 hf4 (by rw [eG, hg]), fun h7 => absurd ?_ h7⟩
                  rw [show x3 = 0 from v2]
                  rfl
                | some l =>
                  rw [hg] at v2
                  obtain ⟨v2, v3, v4⟩ := v2
                  refine ⟨fun h7 => absurd h7 (by rw [v2]; decide), fun _ => ?_⟩
                  obtain ⟨z1, z2, z3, z4⟩ := fcN_n hp hr ha hc hu hR (by omega) (fun k B k1 k2 hR2 => hI k B k1 hR2 (Or.inl k2)) (eG.trans hg)
                  refine ⟨_, w4, rfl, rfl, hf4, Or.inr ⟨by rw [z1], by omega, by rw [z2, z1]; exact z4, fun k hk => ?_, ?_⟩⟩
                  · rw [z2]
                    have := v4 k (by omega)
                    rw [Nat.zero_add] at this
                    exact this
                  · rw [z2, z3, v1 61 4 (by decide) (by decide), l2 61 4 (by decide) (by decide), wu_eq]
        refine g_fwc1 (m := m) (F := fun _ => 0) ⟨fun h9 => absurd h9 (by rw [w32_id (by omega), w32_id (by omega)]; omega), fun _ => ?_⟩
        have e : (if w32 0 < w32 ((n : Int) - 2) then (n : Int) - 2 else 0) = ((n - 2 : Nat) : Int) := by
          rw [w32_id (by omega), w32_id (by omega)]
          split <;> omega
        rw [e]
        refine inner (3 - (n - 2)) (n - 2) w1 (by omega) (by omega) hf (fun k B k1 hR hk => hI k B k1 hR ?_)
        have := hR.1
        omega
    exact main 4 1 w (9, 0) rfl (by decide) (Fc.rf _ _ _) (fun k B k1 hR hk => by omega)
  · refine ⟨-1, w, rfl, rfl, Fc.rf _ _ _, Or.inl ⟨rfl, ?_⟩⟩
    unfold fcN
    rw [hu]
    rfl

