/-! The class: unlike spellings: step, goOn. -/

def Lvl (m : eW) (l : List Int) (N : Nat) (KY : Nat → Int) (σ : List Int) (L : List Nat) (w : eW) : Prop := SpS w σ.length (GV m l N KY σ.length (Rch m l σ)) L ∧ Com m l N KY σ L
/-- a level before its pairs without lower sign are followed: then it will hold all -/
def PreC (m : eW) (l : List Int) (N : Nat) (KY : Nat → Int) (σ : List Int) (L : List Nat) : Prop := ∀ M, Clo m l N KY σ.length (L ++ M) (L ++ M) → Com m l N KY σ (L ++ M)
def LvP (m : eW) (l : List Int) (N : Nat) (KY : Nat → Int) (σ : List Int) (L : List Nat) (w : eW) : Prop := SpS w σ.length (GV m l N KY σ.length (Rch m l σ)) L ∧ PreC m l N KY σ L
def StR (m : eW) (l : List Int) (w0 : eW) (b : Nat × Nat) (N : Nat) (KY : Nat → Int) (γ : List Int × List Nat × Nat) (nn cc : Int) (w : eW) (t : eT) : Prop := nn = (γ.1.length : Int) ∧ γ.1.length < 6 ∧ (cc = ((γ.2.2 + 1 : Nat) : Int) ∧ γ.2.2 < 27) ∧ WCn m l w0 b N KY w t ∧ Lvl m l N KY γ.1 γ.2.1 w
def StO (m : eW) (l : List Int) (w0 : eW) (b : Nat × Nat) (N : Nat) (KY : Nat → Int) (γ : List Int × List Nat × Nat) (_ _ : Int) (w : eW) (_ : eT) (w2 : eW) (t2 : eT) : Prop := WCn m l w0 b N KY w2 t2 ∧ VFr (γ.1.length + 1) w w2 ∧ ∃ L2, LvP m l N KY ((γ.2.2 : Int) :: γ.1) L2 w2
theorem c_stp {d : Nat} {m : eW} (hp : WFp m) (hr : WFr m) {l : List Int} (hl : LtO l) {w0 : eW} (hT0 : TlL w0 m l) {b : Nat × Nat} {N : Nat} {KY : Nat → Int} (hKD : ∀ s s2, s < N → s2 < N → KY s = KY s2 → s = s2) (γ : List Int × List Nat × Nat) (nn cc : Int) (w : eW) (t : eT) (h : StR m l w0 b N KY γ nn cc w t) : Cl (d + 24) 96 [rA 58, (0, nn), (0, cc)] (enc w t) (fun r S2 => ∃ w2 t2, r = none ∧ S2 = enc w2 t2 ∧ StO m l w0 b N KY γ nn cc w t w2 t2) := by
  obtain ⟨σ, L, y⟩ := γ
  obtain ⟨rfl, hs6, ⟨rfl, hy⟩, hc, hS, hC⟩ := h
  replace hs6 : σ.length < 6 := hs6
  replace hy : y < 27 := hy
  replace hS : SpS w σ.length (GV m l N KY σ.length (Rch m l σ)) L := hS
  replace hC : Com m l N KY σ L := hC
  show Cl (d + 24) 96 [rA 58, (0, (σ.length : Int)), (0, ((y + 1 : Nat) : Int))] (enc w t) (fun r S2 => ∃ w2 t2, r = none ∧ S2 = enc w2 t2 ∧ StO m l w0 b N KY (σ, L, y) (σ.length : Int) ((y + 1 : Nat) : Int) w t w2 t2)
  have rg := hc.1.rg
  have hNl := rg.2.2.2
  have hl6 := hl.1.2
  have hG1 := room hp hl hNl hKD (n := σ.length) (σ := σ)
  have hG2 := room hp hl hNl hKD (n := σ.length + 1) (σ := (y : Int) :: σ)
  have hlen := hG1.1 _ hS.1.1 hS.1.2
  generalize hn : σ.length = n at *
  refine g_stp0 ?_
  rw [show ((n : Int) + 1) = ((n + 1 : Nat) : Int) by omega, w32_id (x := ((n + 1 : Nat) : Int)) (by omega), Int.toNat_natCast]
  refine ⟨by omega, ?_⟩
  have f0 : VFr (n + 1) w (wu w 60 (n + 1) 0) := ⟨fun a _ _ h2 => wu_row h2, fun j hj => wu_nk _ _ hj, fun k _ => wu_na _ _ (by decide)⟩
  have c0 : WCn m l w0 b N KY (wu w 60 (n + 1) 0) t := hc.v (fun a _ _ h2 => wu_row h2)
  have s0 : SpS (wu w 60 (n + 1) 0) (n + 1) (GV m l N KY (n + 1) (Rch m l ((y : Int) :: σ))) [] := ⟨⟨List.nodup_nil, fun c hc => by cases hc⟩, wu_eq _ _ _ _, fun k hk => absurd hk (Nat.not_lt_zero k)⟩
  suffices hk : ∀ (k j : Nat) (w1 : eW) (t1 : eT) (M : List Nat), j + k = L.length → WCn m l w0 b N KY w1 t1 → VFr (n + 1) w w1 → SpS w1 (n + 1) (GV m l N KY (n + 1) (Rch m l ((y : Int) :: σ))) M → (∀ (s i : Nat) (g : t3) (p : Nat), s * 7 + i ∈ L.take j → s < N → spA m l i g → KY s = ((kyG m g : Nat) : Int) → p < 16 → (spP m l i &&& mfG m g).testBit p = true → m 69 p = (y : Int) → ¬ (m 69 p = 27) → n + 1 + fwl m l (spB m i p) (gN g p) ≤ 6 → ∃ s2, s2 < N ∧ KY s2 = ((kyG m (gN g p) : Nat) : Int) ∧ s2 * 7 + spB m i p ∈ M) → Ev (d + 24) 96 (fun r S2 => ∃ w2 t2, r = none ∧ S2 = enc w2 t2 ∧ StO m l w0 b N KY (σ, L, y) (n : Int) ((y + 1 : Nat) : Int) w t w2 t2) 11 [rA 58, (0, (n : Int)), (0, ((y + 1 : Nat) : Int)), (0, (j : Int))] [] (enc w1 t1) from hk L.length 0 _ t [] (by omega) c0 f0 s0 (fun s i g p h => by rw [List.take_zero] at h; cases h)
  intro k
  induction k with
  | zero =>
    intro j w1 t1 M hj a1 a2 a3 a4
    have hS1 := hS.fr (by omega) a2 (by omega)
    refine g_stp1 (fun γ b1 b2 b3 w t h => (c_adb (d := d) hp hr hl hT0 (b := b) (N := N) (KY := KY) γ b1 b2 b3 w t h).up (by omega)) ?_
    rw [w32_id (x := (n : Int)) (by omega), Int.toNat_natCast, hS1.2.1, show (j : Int) = (L.length : Int) by omega]
    refine ⟨by omega, fun _ => ?_, fun h9 => absurd (Int.le_refl _) h9⟩
    rw [List.take_of_length_le (by omega)] at a4
    refine ⟨w1, t1, rfl, rfl, a1, ?_, M, ?_, fun M2 hcl => ?_⟩
    · show VFr (σ.length + 1) w w1
      rw [hn]; exact a2
    · show SpS w1 (((y : Int) :: σ).length) _ _
      rw [List.length_cons, hn]; exact a3
    · replace hcl : Clo m l N KY (σ.length + 1) (M ++ M2) (M ++ M2) := hcl
      refine com_nx hp hr hl hC hcl (fun s i g p z1 z2 z3 z4 z5 z6 z7 z8 z9 => ?_)
      rw [hn] at z9
      obtain ⟨s2, v1, v2, v3⟩ := a4 s i g p z1 z2 z3 z4 z5 z6 z7 z8 z9
      exact ⟨s2, v1, v2, List.mem_append_left _ v3⟩
  | succ k ih =>
    intro j w1 t1 M hj a1 a2 a3 a4
    have hS1 := hS.fr (by omega) a2 (by omega)
    have hjl : j < L.length := by omega
    obtain ⟨s, i, g, g1, g2, g3, g4, g5, g6⟩ := hS1.1.2 _ (getD_mem hjl)
    have hi : i ≤ l.length := g3.1
    refine g_stp1 (fun γ b1 b2 b3 w t h => (c_adb (d := d) hp hr hl hT0 (b := b) (N := N) (KY := KY) γ b1 b2 b3 w t h).up (by omega)) ?_
    rw [w32_id (x := (n : Int)) (by omega), Int.toNat_natCast, hS1.2.1, w32_id (x := (j : Int)) (by omega), w32_id (x := (L.length : Int)) (by omega), w32_id (x := (n : Int) * 200 + (j : Int)) (by omega), show ((n : Int) * 200 + (j : Int)).toNat = 200 * n + j by omega, hS1.2.2 j hjl, show ((n : Int) + 1) = ((n + 1 : Nat) : Int) by omega]
    have hbl : ∀ p, p < nP m → ((byL m (y + 1)).testBit p = true ↔ m 69 p = (y : Int)) := fun p hpl => by
      have := ((by_t hp hpl).2.2 (y : Int) (by omega) (by omega)).2
      rw [Int.toNat_natCast] at this
      rw [this]; exact decide_eq_true_iff
    refine ⟨by omega, fun h9 => by omega, fun _ => ⟨by omega, (s, i, g, GV m l N KY (n + 1) (Rch m l ((y : Int) :: σ)), M), ⟨⟨g1, g2, g3, by rw [g4], g5.elim fun x hx => ⟨x, hx.1⟩⟩, by omega, a1, by omega, hG2, by rw [Int.toNat_natCast]; exact a3, fun p s2 h1 h2 h3 h4 h5 => ?_⟩, ?_⟩⟩
    · rw [Int.toNat_natCast] at h2 h5
      have h2 : sB m l i g (y + 1) p := h2
      obtain ⟨c1, _⟩ := bit_p hp hl h1 h2.1
      have e69 := (hbl p c1).mp h2.2
      have h7 := h2.1
      rw [Nat.testBit_and] at h7
      obtain ⟨h8, h9⟩ := Bool.and_eq_true_iff.mp h7
      have hr2 := g5.s hp h1 h2
      rw [if_neg (by omega), e69] at hr2
      exact ⟨s2, spB m i p, gN g p, h3, h4, ((ws_spel hp hl i g g3).2.1 p h1 h8 h9).1, rfl, hr2, h5⟩
    · rintro w5 t6 ⟨b1, b2, M2, b3, b4⟩
      rw [Int.toNat_natCast] at b2 b3 b4
      have b4 : ∀ p : Nat, p < 16 → sB m l i g ((y + 1 : Nat) : Int).toNat p → n + 1 + fwl m l (spB m i p) (gN g p) ≤ 6 → ∃ s2 : Nat, s2 < N ∧ KY s2 = ((kyG m (gN g p) : Nat) : Int) ∧ s2 * 7 + spB m i p ∈ M ++ M2 := b4
      rw [Int.toNat_natCast] at b4
      rw [show ((j : Int) + 1) = ((j + 1 : Nat) : Int) by omega]
      refine ih (j + 1) w5 t6 (M ++ M2) (by omega) b1 (a2.tr b2) b3 (fun s' i' g' p z1 z2 z3 z4 z5 z6 z7 z8 z9 => ?_)
      rw [List.take_succ] at z1
      rcases List.mem_append.mp z1 with z10 | z10
      · obtain ⟨s2, v1, v2, v3⟩ := a4 s' i' g' p z10 z2 z3 z4 z5 z6 z7 z8 z9
        exact ⟨s2, v1, v2, List.mem_append_left _ v3⟩
      · have ez : s' * 7 + i' = s * 7 + i := by
          rw [List.getElem?_eq_getElem hjl] at z10
          have z10 : s' * 7 + i' ∈ [L[j]] := z10
          rw [List.mem_singleton] at z10
          rw [z10, ← g4, List.getD_eq_getElem?_getD, List.getElem?_eq_getElem hjl]; rfl
        have hi' : i' ≤ l.length := z3.1
        obtain ⟨rfl, rfl⟩ := code_un ez (by omega) (by omega)
        have ek : kyG m g' = kyG m g := by rw [z4] at g2; omega
        have en := (ky_nx hr ek (p := p) (by omega)).2
        obtain ⟨c1, _⟩ := bit_p hp hl z5 z6
        have z6g : (spP m l i' &&& mfG m g).testBit p = true := by rw [← (ky_inj hr ek).1]; exact z6
        have h7 := z6g
        rw [Nat.testBit_and] at h7
        obtain ⟨h8, h9⟩ := Bool.and_eq_true_iff.mp h7
        have hA2 := ((ws_spel hp hl i' g g3).2.1 p z5 h8 h9).1
        have h7' := z6
        rw [Nat.testBit_and] at h7'
        obtain ⟨h8', h9'⟩ := Bool.and_eq_true_iff.mp h7'
        have hA3 := ((ws_spel hp hl i' g' z3).2.1 p z5 h8' h9').1
        obtain ⟨s2, v1, v2, v3⟩ := b4 p z5 ⟨z6g, (hbl p c1).mpr z7⟩ (by rw [← fwl_k hp hr hl hA3 hA2 en]; exact z9)
        exact ⟨s2, v1, by rw [en]; exact v2, v3⟩
/-- what goOn leaves alone: the levels before -/
def GFr (n : Nat) (w w2 : eW) : Prop := (∀ a, a < 37 ∨ (47 < a ∧ a < 102) → a ≠ 58 → a ≠ 59 → a ≠ 60 → w2 a = w a) ∧ (∀ j, j < n → w2 60 j = w 60 j) ∧ (∀ k, k < 200 * n → w2 59 k = w 59 k) ∧ ∀ k, k ≠ 6 → w2 58 k = w 58 k
theorem GFr.rf (n : Nat) (w : eW) : GFr n w w := ⟨fun _ _ _ _ _ => rfl, fun _ _ => rfl, fun _ _ => rfl, fun _ _ => rfl⟩
theorem GFr.tr {n : Nat} {w a b : eW} (h : GFr n w a) (h2 : GFr n a b) : GFr n w b := ⟨fun q h3 h4 h5 h6 => by rw [h2.1 q h3 h4 h5 h6, h.1 q h3 h4 h5 h6], fun j hj => by rw [h2.2.1 j hj, h.2.1 j hj], fun k hk => by rw [h2.2.2.1 k hk, h.2.2.1 k hk], fun k hk => by rw [h2.2.2.2 k hk, h.2.2.2 k hk]⟩
theorem VFr.g {n : Nat} {w w2 : eW} (h : VFr n w w2) : GFr n w w2 := ⟨fun a h1 _ h3 h4 => h.1 a h1 h3 h4, fun j hj => h.2.1 j (by omega), fun k hk => h.2.2 k (by omega), fun k _ => by rw [h.1 58 (by omega) (by omega) (by omega)]⟩
theorem GFr.dn {n : Nat} {w w2 : eW} (h : GFr (n + 1) w w2) : GFr n w w2 := ⟨h.1, fun j hj => h.2.1 j (by omega), fun k hk => h.2.2.1 k (by omega), h.2.2.2⟩
theorem Lvl.g {m : eW} {l : List Int} {N : Nat} {KY : Nat → Int} {σ : List Int} {L : List Nat} {w w2 : eW} (h : Lvl m l N KY σ L w) (hl : L.length ≤ 200) (f : GFr (σ.length + 1) w w2) : Lvl m l N KY σ L w2 := by
  obtain ⟨⟨h1, h2, h3⟩, h4⟩ := h
  exact ⟨⟨h1, by rw [f.2.1 _ (Nat.lt_succ_self _)]; exact h2, fun k hk => by rw [f.2.2.1 _ (by omega)]; exact h3 k hk⟩, h4⟩
def GoR (m : eW) (l : List Int) (w0 : eW) (b : Nat × Nat) (N : Nat) (KY : Nat → Int) (k : Nat) (γ : List Int × List Nat) (nn : Int) (w : eW) (t : eT) : Prop := nn = (γ.1.length : Int) ∧ γ.1.length + k = 6 ∧ WCn m l w0 b N KY w t ∧ LvP m l N KY γ.1 γ.2 w ∧ 0 ≤ w 58 6 ∧ w 58 6 ≤ 200
def GoO (m : eW) (l : List Int) (w0 : eW) (b : Nat × Nat) (N : Nat) (KY : Nat → Int) (k : Nat) (γ : List Int × List Nat) (_ : Int) (w : eW) (_ : eT) (w2 : eW) (t2 : eT) : Prop := WCn m l w0 b N KY w2 t2 ∧ GFr γ.1.length w w2 ∧ ∃ c : Nat, Cnt k (TS m l γ.1) c ∧ w2 58 6 = min (w 58 6 + (c : Int)) 201
