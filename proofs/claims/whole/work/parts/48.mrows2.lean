/-! The model: good rows are counted. -/
theorem sm_upd (X : Nat → Nat) (t v n : Nat) (h : t < n) : sm (updN X t v) n = sm X n + v := by
  have h1 := ws_upd X (fun _ => 1) t v n h
  unfold ws at h1
  simp only [Nat.mul_one] at h1
  exact h1
theorem RI.upd {w : eW} {r : Nat} {X : Nat → Nat} (h : RI w r X) {t v : Nat} (ht : t < 4913) : RI (wu w r t (w r t + (v : Int))) r (updN X t v) := by
  intro s hs
  unfold updN
  by_cases hst : s = t
  · subst hst
    rw [wu_eq, if_pos rfl, h s hs]
    omega
  · rw [wu_nk _ _ hst, if_neg hst]
    exact h s hs
set_option maxHeartbeats 4000000 in
theorem c_countRows {d : Nat} {m w : eW} {t : eT} {wo : Int} {n : Nat} (h : MG w m ∧ w 67 35 = wo ∧ n ≤ 8) (hw : w32 wo = wo) : Cl (d + 5) 214 [rA 67, (0, (n : Int))] (enc w t) (fun r S2 => ∃ w2, r = some (1, (cR m wo n 16 16 16 : Int)) ∧ S2 = enc w2 t ∧ Fm [96, 97] [] w w2) := by
  obtain ⟨hm, hwo, hn⟩ := h
  have hp := hm.1.n
  generalize hQ : (fun (r : Option aV) (S2 : aS) => ∃ w2, r = some (1, (cR m wo n 16 16 16 : Int)) ∧ S2 = enc w2 t ∧ Fm [96, 97] [] w w2) = Q
  have hmS : ∀ {σ : eW}, Fm [96, 97] [] w σ → MG σ m := fun hf => hm.m hf (by decide) (by decide)
  have hwS : ∀ {σ : eW}, Fm [96, 97] [] w σ → σ 67 35 = wo := fun hf => by rw [hf.2 35 (by decide)]; exact hwo
  have pow16 : ∀ k, k ≤ 8 → 16 ^ k ≤ 4294967296 := fun k hk => Nat.le_trans (Nat.pow_le_pow_right (by decide) hk) (by decide)
  -- the last loop
  have E211 : ∀ (σ : eW) (N : Nat → Nat) (J5 J6 J7 : aV), Fm [96, 97] [] w σ → RI σ 96 N → (∀ s, s < 4913 → N s ≠ 0 → OkS m s) → sm N 4913 ≤ 4294967296 → ws N (cRs m wo 0) 4913 = cR m wo n 16 16 16 → Ev (d + 5) 214 Q 211 [rA 67, (0, (n : Int)), (1, 0), (9, 0), (0, 0), J5, J6, J7] [] (enc σ t) := by
    intro σ N J5 J6 J7 hf hN hO hS hT
    refine lp0 (fun s => Ev (d + 5) 214 Q 211 [rA 67, (0, (n : Int)), (1, (ws N (cRs m wo 0) s : Int)), (9, 0), (0, (s : Int)), J5, J6, J7] [] (enc σ t)) 4913 ?_ ?_ 0 (Nat.zero_le _)
    · intro s hs hE
      rw [show ws N (cRs m wo 0) (s + 1) = ws N (cRs m wo 0) s + N s * cRs m wo 0 s from rfl] at hE
      have hNs : N s ≤ sm N 4913 := sm_one_le hs
      have hval := hN s hs
      refine g_cR211 (m := m) (wo := wo) (J2 := (9, 0)) (J3 := (9, 0)) (J4 := (9, 0)) hw ?_
      rw [i_div (x := (s : Int)) (y := 289) (by omega) (by omega), i_div (x := (s : Int)) (y := 17) (by omega) (by omega), i_rem (x := (s : Int)) (y := 17) (by omega) (by omega), i_rem (x := (s : Int) / 17) (y := 17) (by omega) (by omega)]
      simp (disch := omega) only [w32_id, Int.toNat_natCast, hval, w64_id]
      have e1 : ((s : Int) / 289).toNat = s / 289 := by omega
      have e2 : ((s : Int) / 17 % 17).toNat = s / 17 % 17 := by omega
      have e3 : ((s : Int) % 17).toNat = s % 17 := by omega
      rw [e1, e2, e3]
      have hc0 : cRs m wo 0 s = if isE m wo (s / 289) (s / 17 % 17) (s % 17) then 1 else 0 := rfl
      refine ⟨fun h9 => (by omega), fun _ => ⟨by omega, fun h1 => ?_, fun h1 => ⟨⟨hmS hf, hwS hf, ⟨by omega, by omega⟩, ⟨by omega, by omega⟩, ?_⟩, fun h2 => ?_, fun h2 => ⟨by omega, ?_⟩⟩⟩⟩
      · rw [show N s = 0 by omega, Nat.zero_mul] at hE
        exact hE
      · have := hO s hs (by omega)
        unfold OkS at this
        exact ⟨by omega, by omega⟩
      · rw [hc0, h2, if_neg (by decide), Nat.mul_zero] at hE
        exact hE
      · rw [hc0, h2, if_pos rfl, Nat.mul_one] at hE
        exact hE
    · refine g_cR211 (m := m) (wo := wo) (J2 := (9, 0)) (J3 := (9, 0)) (J4 := (9, 0)) hw ?_
      simp (disch := omega) only [w32_id]
      refine ⟨fun _ => ?_, fun h9 => (by omega)⟩
      rw [← hQ, hT]
      exact ⟨σ, rfl, rfl, hf⟩
  have E39 : ∀ (r k : Nat) (σ : eW) (N : Nat → Nat) (J3 J4 J5 J6 J7 : aV), k + r = n → Fm [96, 97] [] w σ → RI σ 96 N → (∀ s, s < 4913 → N s ≠ 0 → OkS m s) → sm N 4913 ≤ 16 ^ k → ws N (cRs m wo r) 4913 = cR m wo n 16 16 16 → Ev (d + 5) 214 Q 39 [rA 67, (0, (n : Int)), (0, (k : Int)), J3, J4, J5, J6, J7] [] (enc σ t) := by
    intro r
    induction r with
    | zero =>
      intro k σ N J3 J4 J5 J6 J7 hk hf hN hO hS hT
      refine g_cR39 (m := m) (wo := wo) (J2 := (9, 0)) hw ?_
      simp (disch := omega) only [w32_id]
      exact ⟨fun _ => E211 σ N J5 J6 J7 hf hN hO (Nat.le_trans hS (pow16 k (by omega))) hT, fun h9 => (by omega)⟩
    | succ r ih =>
      intro k σ N J3 J4 J5 J6 J7 hk hf hN hO hS hT
      have h32 := pow16 (k + 1) (by omega)
      rw [Nat.pow_succ] at h32
      refine g_cR39 (m := m) (wo := wo) (J2 := (9, 0)) hw ?_
      simp (disch := omega) only [w32_id]
      refine ⟨fun h9 => (by omega), fun _ => ?_⟩
      -- rowsNext is emptied
      refine lq1 (fun s (σ2 : eW) => Ev (d + 5) 214 Q 46 [rA 67, (0, (n : Int)), (0, (k : Int)), (0, (s : Int)), J4, J5, J6, J7] [] (enc σ2 t)) (fun s σ2 => Fm [96, 97] [] w σ2 ∧ σ2 96 = σ 96 ∧ ∀ s2, s2 < s → σ2 97 s2 = 0) 4913 ?_ ?_ 0 σ (Nat.zero_le _) ⟨hf, rfl, fun s2 h9 => absurd h9 (Nat.not_lt_zero _)⟩
      · intro s σ2 hs hI hE
        refine g_cR46 (m := m) (wo := wo) (J2 := (9, 0)) (J3 := (9, 0)) hw ?_
        simp (disch := omega) only [w32_id, Int.toNat_natCast]
        refine ⟨fun h9 => (by omega), fun _ => ⟨by omega, hE _ ⟨hI.1.tr (Fm.pr (by decide) (by decide)), ?_, fun s2 hs2 => ?_⟩⟩⟩
        · rw [wu_row (by decide)]; exact hI.2.1
        · by_cases h9 : s2 = s
          · subst h9; exact wu_eq _ _ _ _
          · rw [wu_nk _ _ h9]; exact hI.2.2 s2 (by omega)
      · intro σ2 hI
        refine g_cR46 (m := m) (wo := wo) (J2 := (9, 0)) (J3 := (9, 0)) hw ?_
        simp (disch := omega) only [w32_id]
        refine ⟨fun _ => ?_, fun h9 => (by omega)⟩
        obtain ⟨i1, i2, i3⟩ := hI
        have hN2 : RI σ2 96 N := fun s hs => by rw [i2]; exact hN s hs
        -- behind a pair more
        have E175 : ∀ (σ3 : eW) (X : Nat → Nat) (K4 K5 K6 K7 : aV), Fm [96, 97] [] w σ3 → RI σ3 97 X → (∀ s, s < 4913 → X s ≠ 0 → OkS m s) → sm X 4913 ≤ 16 ^ (k + 1) → ws X (cRs m wo r) 4913 = cR m wo n 16 16 16 → Ev (d + 5) 214 Q 175 [rA 67, (0, (n : Int)), (0, (k : Int)), (0, 0), K4, K5, K6, K7] [] (enc σ3 t) := by
          intro σ3 X K4 K5 K6 K7 z1 z2 z3 z4 z5
          refine lq1 (fun s (σ4 : eW) => Ev (d + 5) 214 Q 175 [rA 67, (0, (n : Int)), (0, (k : Int)), (0, (s : Int)), K4, K5, K6, K7] [] (enc σ4 t)) (fun s σ4 => Fm [96, 97] [] w σ4 ∧ σ4 97 = σ3 97 ∧ ∀ s2, s2 < s → σ4 96 s2 = (X s2 : Int)) 4913 ?_ ?_ 0 σ3 (Nat.zero_le _) ⟨z1, rfl, fun s2 h9 => absurd h9 (Nat.not_lt_zero _)⟩
          · intro s σ4 hs hI hE
            refine g_cR175 (m := m) (wo := wo) (J2 := (9, 0)) (J3 := (9, 0)) hw ?_
            simp (disch := omega) only [w32_id, Int.toNat_natCast]
            refine ⟨fun h9 => (by omega), fun _ => ⟨by omega, by omega, hE _ ⟨hI.1.tr (Fm.pr (by decide) (by decide)), ?_, fun s2 hs2 => ?_⟩⟩⟩
            · rw [wu_row (by decide)]; exact hI.2.1
            · by_cases h9 : s2 = s
              · subst h9; rw [wu_eq, hI.2.1]; exact z2 s2 hs
              · rw [wu_nk _ _ h9]; exact hI.2.2 s2 (by omega)
          · intro σ4 hI
            refine g_cR175 (m := m) (wo := wo) (J2 := (9, 0)) (J3 := (9, 0)) hw ?_
            simp (disch := omega) only [w32_id]
            refine ⟨fun _ => ?_, fun h9 => (by omega)⟩
            exact ih (k + 1) σ4 X _ K4 K5 K6 K7 (by omega) hI.1 (fun s hs => hI.2.2 s hs) z3 z4 z5
        -- over all states
        refine lq1 (fun s (τ : eW × (Nat → Nat) × aV × aV × aV × aV) => Ev (d + 5) 214 Q 68 [rA 67, (0, (n : Int)), (0, (k : Int)), (0, (s : Int)), τ.2.2.1, τ.2.2.2.1, τ.2.2.2.2.1, τ.2.2.2.2.2] [] (enc τ.1 t)) (fun s τ => Fm [96, 97] [] w τ.1 ∧ RI τ.1 96 N ∧ RI τ.1 97 τ.2.1 ∧ (∀ s, s < 4913 → τ.2.1 s ≠ 0 → OkS m s) ∧ sm τ.2.1 4913 ≤ 16 * sm N s ∧ ws τ.2.1 (cRs m wo r) 4913 = ws N (cRs m wo (r + 1)) s) 4913 ?_ ?_ 0 (σ2, fun _ => 0, J4, J5, J6, J7) (Nat.zero_le _) ⟨i1, hN2, fun s hs => by show σ2 97 s = ((0 : Nat) : Int); rw [i3 s hs]; rfl, fun s hs h9 => absurd rfl h9, ?_, ?_⟩
        · intro s τ hs hI hE
          obtain ⟨σ3, X, K4, K5, K6, K7⟩ := τ
          obtain ⟨z1, z2, z3, z4, z5, z6⟩ := hI
          dsimp only at z1 z2 z3 z4 z5 z6 hE ⊢
          have hNs : N s ≤ sm N 4913 := sm_one_le hs
          have hNsm : sm N (s + 1) ≤ sm N 4913 := by
            obtain ⟨q, hq⟩ : ∃ q, 4913 = (s + 1) + q := ⟨4913 - (s + 1), by omega⟩
            have h9 := sm_split N (s + 1) q
            rw [← hq] at h9
            omega
          have hval := z2 s hs
          refine g_cR68 (m := m) (wo := wo) (J2 := (9, 0)) (J3 := (9, 0)) hw ?_
          rw [i_div (x := (s : Int)) (y := 289) (by omega) (by omega), i_div (x := (s : Int)) (y := 17) (by omega) (by omega), i_rem (x := (s : Int)) (y := 17) (by omega) (by omega), i_rem (x := (s : Int) / 17) (y := 17) (by omega) (by omega)]
          simp (disch := omega) only [w32_id, Int.toNat_natCast, hval, w64_id]
          rw [show sm N (s + 1) = sm N s + N s from rfl, show ws N (cRs m wo (r + 1)) (s + 1) = ws N (cRs m wo (r + 1)) s + N s * cRs m wo (r + 1) s from rfl] at hE
          rw [show sm N (s + 1) = sm N s + N s from rfl] at hNsm
          refine ⟨fun h9 => (by omega), fun _ => ⟨by omega, fun h1 => ?_, fun h1 => ?_⟩⟩
          · have hOs := hO s hs (by omega)
            unfold OkS at hOs
            have ea : (s : Int) / 289 = ((s / 289 : Nat) : Int) := by omega
            have eb : (s : Int) / 17 % 17 = ((s / 17 % 17 : Nat) : Int) := by omega
            have ec : (s : Int) % 17 = ((s % 17 : Nat) : Int) := by omega
            rw [ea, eb, ec]
            have hstep := cRs_step m wo r s hp.2
            generalize hG : (fun d => if goes m wo (s / 289) (s / 17 % 17) (s % 17) d then cRs m wo r (((s / 17 % 17) * 17 + s % 17) * 17 + d) else 0) = G at hstep
            have la16 : s / 289 ≤ 16 := by omega
            have lb16 : s / 17 % 17 ≤ 16 := by omega
            have lc16 : s % 17 ≤ 16 := by omega
            generalize s / 289 = A at *
            generalize s / 17 % 17 = B at *
            generalize s % 17 = C at *
            refine lq1 (fun p (υ : eW × (Nat → Nat)) => Ev (d + 5) 214 Q 114 [rA 67, (0, (n : Int)), (0, (k : Int)), (0, (s : Int)), (0, (A : Int)), (0, (B : Int)), (0, (C : Int)), (0, (p : Int))] [] (enc υ.1 t)) (fun p υ => Fm [96, 97] [] w υ.1 ∧ RI υ.1 96 N ∧ RI υ.1 97 υ.2 ∧ (∀ s, s < 4913 → υ.2 s ≠ 0 → OkS m s) ∧ sm υ.2 4913 ≤ 16 * sm N s + N s * p ∧ ws υ.2 (cRs m wo r) 4913 = ws N (cRs m wo (r + 1)) s + N s * sm G p) (nP m) ?_ ?_ 0 (σ3, X) (Nat.zero_le _) ⟨z1, z2, z3, z4, by rw [Nat.mul_zero]; exact z5, by rw [show sm G 0 = 0 from rfl, Nat.mul_zero]; exact z6⟩
            · intro p υ hpp hI hE2
              obtain ⟨σ5, Y⟩ := υ
              obtain ⟨y1, y2, y3, y4, y5, y6⟩ := hI
              dsimp only at y1 y2 y3 y4 y5 y6 hE2 ⊢
              have hGp : G p = if goes m wo A B C p then cRs m wo r ((B * 17 + C) * 17 + p) else 0 := by rw [← hG]
              refine g_cR114 (m := m) (wo := wo) (J2 := (9, 0)) (J3 := (9, 0)) (J4 := (9, 0)) (J5 := (9, 0)) (J6 := (9, 0)) (J7 := (9, 0)) hw ?_
              have hT3 : (B * 17 + C) * 17 + p < 4913 := by omega
              rw [(hmS y1).2.2.1.1]
              have eI : ((B : Int) * 17 + (C : Int)) * 17 + (p : Int) = (((B * 17 + C) * 17 + p : Nat) : Int) := by omega
              rw [eI]
              simp (disch := omega) only [w32_id, Int.toNat_natCast]
              refine ⟨fun h9 => (by omega), fun _ => ⟨⟨hmS y1, hwS y1, ⟨by omega, by omega⟩, ⟨by omega, by omega⟩, ⟨by omega, by omega⟩, ⟨by omega, by omega⟩⟩, fun h2 => ?_, fun h2 => ⟨by omega, by omega, by omega, ?_⟩⟩⟩
              · refine hE2 (σ5, Y) ⟨y1, y2, y3, y4, ?_, ?_⟩
                · show sm Y 4913 ≤ 16 * sm N s + N s * (p + 1)
                  rw [Nat.mul_succ]; omega
                · show _ = _ + N s * (sm G p + G p)
                  rw [hGp, h2, if_neg (by decide), Nat.add_zero]
                  exact y6
              · have hv := y2 s hs
                rw [hv]
                refine hE2 (wu σ5 97 ((B * 17 + C) * 17 + p) (σ5 97 ((B * 17 + C) * 17 + p) + (N s : Int)), updN Y ((B * 17 + C) * 17 + p) (N s)) ⟨y1.tr (Fm.pr (by decide) (by decide)), ?_, y3.upd hT3, ?_, ?_, ?_⟩
                · intro s2 hs2
                  show wu σ5 97 ((B * 17 + C) * 17 + p) (σ5 97 ((B * 17 + C) * 17 + p) + (N s : Int)) 96 s2 = _
                  rw [wu_na _ _ (by decide)]
                  exact y2 s2 hs2
                · intro s2 hs2 hne
                  dsimp only at hne
                  unfold updN at hne
                  by_cases h9 : s2 = (B * 17 + C) * 17 + p
                  · unfold OkS
                    left
                    omega
                  · rw [if_neg h9] at hne
                    exact y4 s2 hs2 hne
                · show sm (updN Y ((B * 17 + C) * 17 + p) (N s)) 4913 ≤ _
                  rw [sm_upd _ _ _ _ hT3, Nat.mul_succ]
                  omega
                · show ws (updN Y ((B * 17 + C) * 17 + p) (N s)) _ 4913 = _ + N s * (sm G p + G p)
                  rw [ws_upd _ _ _ _ _ hT3, hGp, h2, if_pos rfl, Nat.mul_add, y6]
                  omega
            · intro υ hI
              obtain ⟨σ5, Y⟩ := υ
              obtain ⟨y1, y2, y3, y4, y5, y6⟩ := hI
              dsimp only at y1 y2 y3 y4 y5 y6 ⊢
              refine g_cR114 (m := m) (wo := wo) (J2 := (9, 0)) (J3 := (9, 0)) (J4 := (9, 0)) (J5 := (9, 0)) (J6 := (9, 0)) (J7 := (9, 0)) hw ?_
              rw [(hmS y1).2.2.1.1]
              simp (disch := omega) only [w32_id]
              refine ⟨fun _ => ?_, fun h9 => (by omega)⟩
              refine hE (σ5, Y, _, _, _, _) ⟨y1, y2, y3, y4, ?_, ?_⟩
              · have : N s * nP m ≤ N s * 16 := Nat.mul_le_mul_left _ hp.2
                show sm Y 4913 ≤ 16 * (sm N s + N s)
                omega
              · rw [hstep]; exact y6
          · have h0 : N s = 0 := by omega
            rw [h0] at hE
            refine hE (σ3, X, K4, K5, K6, K7) ⟨z1, z2, z3, z4, z5, ?_⟩
            rw [Nat.zero_mul]
            exact z6
        · intro τ hI
          obtain ⟨σ3, X, K4, K5, K6, K7⟩ := τ
          obtain ⟨z1, z2, z3, z4, z5, z6⟩ := hI
          dsimp only at z1 z2 z3 z4 z5 z6 ⊢
          refine g_cR68 (m := m) (wo := wo) (J2 := (9, 0)) (J3 := (9, 0)) hw ?_
          simp (disch := omega) only [w32_id]
          refine ⟨fun _ => E175 σ3 X K4 K5 K6 K7 z1 z3 z4 ?_ ?_, fun h9 => (by omega)⟩
          · rw [Nat.pow_succ]; omega
          · rw [z6, hT]
        · show sm (fun _ => 0) 4913 ≤ _
          rw [sm_const]
          omega
        · show ws (fun _ => 0) _ 4913 = _
          unfold ws
          simp only [Nat.zero_mul]
          rw [sm_const]
          rfl
  refine g_cR0 ?_
  refine lq1 (fun s (σ : eW) => Ev (d + 5) 214 Q 2 [rA 67, (0, (n : Int)), (0, (s : Int)), (9, 0), (9, 0), (9, 0), (9, 0), (9, 0)] [] (enc σ t)) (fun s σ => Fm [96, 97] [] w σ ∧ ∀ s2, s2 < s → σ 96 s2 = 0) 4913 ?_ ?_ 0 w (Nat.zero_le _) ⟨Fm.rf _ _ _, fun s2 h9 => absurd h9 (Nat.not_lt_zero _)⟩
  · intro s σ hs hI hE
    refine g_cR2 ?_
    simp (disch := omega) only [w32_id, Int.toNat_natCast]
    refine ⟨fun h9 => (by omega), fun _ => ⟨by omega, hE _ ⟨hI.1.tr (Fm.pr (by decide) (by decide)), fun s2 hs2 => ?_⟩⟩⟩
    by_cases h9 : s2 = s
    · subst h9; exact wu_eq _ _ _ _
    · rw [wu_nk _ _ h9]; exact hI.2 s2 (by omega)
  · intro σ hI
    refine g_cR2 ?_
    simp (disch := omega) only [w32_id]
    refine ⟨fun _ => ?_, fun h9 => (by omega)⟩
    refine E39 n 0 (wu σ 96 4912 1) (updN (fun _ => 0) 4912 1) _ _ _ _ _ (by omega) (hI.1.tr (Fm.pr (by decide) (by decide))) ?_ ?_ ?_ ?_
    · intro s hs
      unfold updN
      by_cases h9 : s = 4912
      · subst h9; rw [wu_eq, if_pos rfl]; rfl
      · rw [wu_nk _ _ h9, if_neg h9]; exact hI.2 s hs
    · intro s hs hne
      unfold updN at hne
      by_cases h9 : s = 4912
      · subst h9; unfold OkS; right; rfl
      · rw [if_neg h9] at hne; exact absurd rfl hne
    · rw [sm_upd _ _ _ _ (by decide), sm_const]
      decide
    · rw [ws_upd _ _ _ _ _ (by decide)]
      unfold ws
      simp only [Nat.zero_mul]
      rw [sm_const, Nat.mul_zero, Nat.zero_add, Nat.one_mul]
      rfl

