/-! The class: the least number of faults, all of it. -/

/-- what a pair adds; far where it can not come -/
def nG (m : eW) (l1 l2 : List Int) (i j : Nat) (g : t3) (d : Nat) : Nat := if d < nP m then clG m (ltF l1) l1.length (ltF l2) l2.length i j g.1 g.2.1 g.2.2 d else 1000000
def nX (m : eW) (l1 l2 : List Int) (i j : Nat) (g : t3) : Nat := if i = l1.length ∧ j = l2.length then brs m (-1) g.1 g.2.1 g.2.2 16 else 1000000
theorem nG_no {m : eW} {l1 l2 : List Int} {i j : Nat} {g : t3} {d : Nat} (h : (nfB m l1 l2 i j (gL g)).testBit d = false) : nG m l1 l2 i j g d = 1000000 := by
  unfold nG
  by_cases hd : d < nP m
  · rw [if_pos hd]
    unfold nfB at h
    rw [bts_tb, decide_eq_true hd, Bool.true_and] at h
    unfold clG
    cases hu : upT m (ltF l1) l1.length i d with
    | none => rfl
    | some u =>
      cases hl : loT m (ltF l2) l2.length j d with
      | none => rfl
      | some l =>
        rw [hu, hl] at h
        have h2 : (isI m g.2.2 && isI m d) = true := by
          cases h9 : (isI m g.2.2 && isI m d) with
          | true => rfl
          | false =>
            have h8 : (!(isI m (gL g) && isI m d)) = false := h
            unfold gL at h8
            rw [h9] at h8
            cases h8
        dsimp only
        rw [if_pos h2]
  · rw [if_neg hd]
theorem nG_yes {m : eW} {l1 l2 : List Int} {i j : Nat} {g : t3} {d u l : Nat} (h : (nfB m l1 l2 i j (gL g)).testBit d = true) (hu : upT m (ltF l1) l1.length i d = some u) (hl : loT m (ltF l2) l2.length j d = some l) : nG m l1 l2 i j g d = brs m (-1) g.1 g.2.1 g.2.2 d + cl m (ltF l1) l1.length (ltF l2) l2.length u l g.2.1 g.2.2 d := by
  unfold nfB at h
  rw [bts_tb] at h
  simp only [Bool.and_eq_true, decide_eq_true_eq, Bool.not_eq_true'] at h
  unfold nG clG
  rw [if_pos h.1, hu, hl]
  dsimp only
  have h2 : (isI m g.2.2 && isI m d) = false := h.2.2
  rw [if_neg (by rw [h2]; decide)]
theorem mn_ext {x : Nat} {G : Nat → Nat} {n k : Nat} (hk : n ≤ k) (h : ∀ i, n ≤ i → i < k → G i = 1000000) : min (mn x G k) 1000 = min (mn x G n) 1000 := by
  induction k with
  | zero => rw [show n = 0 by omega]
  | succ k ih =>
    by_cases h9 : n = k + 1
    · rw [h9]
    · have := ih (by omega) (fun i h1 h2 => h i h1 (by omega))
      show min (min (mn x G k) (G k)) 1000 = _
      rw [h k (by omega) (by omega)]
      omega
theorem nC_mn {m : eW} (hp : WFp m) {l1 l2 : List Int} {i j : Nat} {g : t3} (h1 : l1.length ≤ 6) (h2 : l2.length ≤ 6) (hi : i ≤ l1.length) (hj : j ≤ l2.length) : nC m l1 l2 i j g = min (mn (nX m l1 l2 i j g) (nG m l1 l2 i j g) 16) 1000 := by
  unfold nC clC
  rw [cl_eq hp h1 h2 hi hj, mn_ext (n := nP m) hp.n.2 (fun i h3 _ => by unfold nG; rw [if_neg (by omega)])]
  unfold nX
  rw [mn_congr (h := nG m l1 l2 i j g) (fun d hd => by unfold nG; rw [if_pos hd])]
theorem least_of {d B : Nat} {l1 l2 : List Int} {m : eW} {b : Nat × Nat} (hW : ∀ (g : t3) (i j x p q : Int) (w : eW) (t : eT), LwR l1 l2 m b B g i j x p q w t → Cl (d + 3) 52 [rA 56, (0, i), (0, j), (0, x), (0, p), (0, q)] (enc w t) (fun r S2 => ∃ y w2 t2, r = some (0, y) ∧ S2 = enc w2 t2 ∧ LwO l1 l2 m b g i j x p q w t y w2 t2)) (g : t3) (i j x q : Int) (w : eW) (t : eT) (h : LsR l1 l2 m b (B + 1) g i j x q w t) : Cl (d + 4) 51 [rA 56, (0, i), (0, j), (0, x), (0, q)] (enc w t) (fun r S2 => ∃ y w2 t2, r = some (0, y) ∧ S2 = enc w2 t2 ∧ LsO l1 l2 m b g i j x q w t y w2 t2) := by
  have h0 := h
  obtain ⟨hN, hM, hi, hj, hx, hg, hq, hB⟩ := h
  obtain ⟨⟨hA, hLN, hC, hWp, hWr⟩, ⟨b1, b2, b3, b4⟩, c1, c2, c3, c4⟩ := hN
  have hN0 : NX l1 l2 m w := ⟨⟨hA, hLN, hC, hWp, hWr⟩, ⟨b1, b2, b3, b4⟩, c1, c2, c3, c4⟩
  have htr : trG m g < 2097152 := (tr_b (m := m) (a := g.1) (b := g.2.1) hWr hg).1
  have hn8 := hWr.n.2
  have cle : nC m l1 l2 i.toNat j.toNat g ≤ 1000 := Nat.min_le_right _ _
  have eMn := nC_mn hWp (g := g) b3 c3 (show i.toNat ≤ l1.length by omega) (show j.toNat ≤ l2.length by omega)
  -- the key tells
  have hP : PmN m l1 l2 (((x * 7) + i) * 7 + j) ((nC m l1 l2 i.toNat j.toNat g : Nat) : Int) := fun i2 j2 g2 q1 q2 q3 hk => by
    have : i.toNat = i2 ∧ j.toNat = j2 ∧ trG m g = trG m g2 := by rw [hx] at hk; omega
    rw [this.1, this.2.1]
    unfold nC
    rw [tE_clC hWp hWr ⟨this.2.2, hg, q3⟩]
  have kb : 0 ≤ ((x * 7) + i) * 7 + j ∧ ((x * 7) + i) * 7 + j < 2147483648 := by rw [hx]; omega
  have nfl : nfB m l1 l2 i.toNat j.toNat (gL g) < 65536 := bts_le (k := 16) hWp.n.2
  -- the loop
  have loop : ∀ (v : Int) (S : Nat), S = min (nX m l1 l2 i.toNat j.toNat g) 1000 → Ev (d + 4) 51 (fun r S2 => ∃ y w2 t2, r = some (0, y) ∧ S2 = enc w2 t2 ∧ LsO l1 l2 m b g i j x q w t y w2 t2) 81 [rA 56, (0, i), (0, j), (0, x), (0, q), (0, ((x * 7) + i) * 7 + j), (1, v), (9, 0), (0, (S : Int)), (0, ((nfB m l1 l2 i.toNat j.toNat (gL g) : Nat) : Int)), (0, 0)] [] (enc w t) := fun v S hS => by
    have done : ∀ (s : Nat) w1 t1, s = nC m l1 l2 i.toNat j.toNat g → MR w t w1 t1 → MC (PmN m l1 l2) b m w1 t1 → (MC (PmN m l1 l2) b m w1 t1 ∧ (0 ≤ ((x * 7) + i) * 7 + j ∧ ((x * 7) + i) * 7 + j < 2147483648) ∧ PmN m l1 l2 (((x * 7) + i) * 7 + j) (w32 (s : Int))) ∧ ∀ w2 t2, (MR w1 t1 w2 t2 ∧ MC (PmN m l1 l2) b m w2 t2) → (∃ y w3 t3, some ((0 : Nat), (s : Int)) = some (0, y) ∧ enc w2 t2 = enc w3 t3 ∧ LsO l1 l2 m b g i j x q w t y w3 t3) := fun s w1 t1 hs mr mc => by
      refine ⟨⟨mc, kb, by rw [w32_id (by omega), hs]; exact hP⟩, fun w2 t2 ⟨r1, r2⟩ => ⟨_, w2, t2, rfl, rfl, by rw [hs], mr.tr r1, r2⟩⟩
    have key := lq1 (σ := (eW × eT) × Nat) (fun p s => Ev (d + 4) 51 (fun r S2 => ∃ y w2 t2, r = some (0, y) ∧ S2 = enc w2 t2 ∧ LsO l1 l2 m b g i j x q w t y w2 t2) 81 [rA 56, (0, i), (0, j), (0, x), (0, q), (0, ((x * 7) + i) * 7 + j), (1, v), (9, 0), (0, (s.2 : Int)), (0, ((nfB m l1 l2 i.toNat j.toNat (gL g) : Nat) : Int)), (0, (p : Int))] [] (enc s.1.1 s.1.2)) (fun p s => s.2 = min (mn (nX m l1 l2 i.toNat j.toNat g) (nG m l1 l2 i.toNat j.toNat g) p) 1000 ∧ MR w t s.1.1 s.1.2 ∧ MC (PmN m l1 l2) b m s.1.1 s.1.2) 16 ?_ ?_ 0 ((w, t), S) (by decide) ⟨hS, MR.rf _ _, hM⟩
    · exact key
    · rintro p ⟨⟨w1, t1⟩, s⟩ hp ⟨hs, mr, mc⟩ hE
      dsimp only at hs mr mc ⊢
      refine g_ls1 (m := m) (b := b) (P := PmN m l1 l2) (l1 := l1) (l2 := l2) (hrW := hW) ?_
      have hsle : s ≤ 1000 := by rw [hs]; exact Nat.min_le_right _ _
      rw [w32_id (x := (p : Int)) (by omega), w32_id (x := 16) (by decide), bb_i (by omega) (by omega), i_shrN (by omega) (by omega)]
      have hdl : nfB m l1 l2 i.toNat j.toNat (gL g) / 2 ^ p ≤ nfB m l1 l2 i.toNat j.toNat (gL g) := Nat.div_le_self _ _
      generalize hzz : nfB m l1 l2 i.toNat j.toNat (gL g) / 2 ^ p = zz at hdl ⊢
      rw [w32_id (x := (zz : Int)) (by omega)]
      refine ⟨fun h9 => by omega, fun _ => ⟨fun h1 => done s w1 t1 ?_ mr mc, fun h1 => ?_⟩⟩
      · rw [hs, eMn]
        symm
        refine mn_ext (by omega) (fun e h3 h4 => nG_no ?_)
        have hz : nfB m l1 l2 i.toNat j.toNat (gL g) / 2 ^ p = 0 := by rw [hzz]; omega
        have hlt : nfB m l1 l2 i.toNat j.toNat (gL g) < 2 ^ p := by
          rcases Nat.div_eq_zero_iff.mp hz with h9 | h9
          · exact absurd h9 (by have := Nat.two_pow_pos p; omega)
          · exact h9
        exact Nat.testBit_lt_two_pow (Nat.lt_of_lt_of_le hlt (Nat.pow_le_pow_right (by decide) h3))
      · have emn : mn (nX m l1 l2 i.toNat j.toNat g) (nG m l1 l2 i.toNat j.toNat g) (p + 1) = min (mn (nX m l1 l2 i.toNat j.toNat g) (nG m l1 l2 i.toNat j.toNat g) p) (nG m l1 l2 i.toNat j.toNat g p) := rfl
        cases hbt : (nfB m l1 l2 i.toNat j.toNat (gL g)).testBit p with
        | false =>
          refine ⟨fun _ => ?_, fun h9 => absurd rfl h9⟩
          refine hE ((w1, t1), s) ⟨?_, mr, mc⟩
          show s = _
          rw [emn, nG_no hbt, hs]
          omega
        | true =>
          refine ⟨fun h9 => absurd h9 (by decide), fun _ => ⟨g, ⟨⟨hN0.lo mr.2.1, mc, hi, hj, hx, hg, hq, by omega⟩, by omega, by rw [Int.toNat_natCast]; exact hbt⟩, fun y w2 t2 hz => ?_⟩⟩
          obtain ⟨⟨u, l, hu, hl, hy⟩, mr2, mc2⟩ := hz
          rw [Int.toNat_natCast] at hu hl hy
          have hgn := nG_yes hbt hu hl
          have hb8 := brs_le m (-1) g.1 g.2.1 g.2.2 p
          have eC : nC m l1 l2 u l (gN g p) = min (cl m (ltF l1) l1.length (ltF l2) l2.length u l g.2.1 g.2.2 p) 1000 := rfl
          have e2 : (if w32 y < w32 (s : Int) then y else (s : Int)) = ((min s (brs m (-1) g.1 g.2.1 g.2.2 p + nC m l1 l2 u l (gN g p)) : Nat) : Int) := by
            rw [hy, w32_id (x := ((brs m (-1) g.1 g.2.1 g.2.2 p + nC m l1 l2 u l (gN g p) : Nat) : Int)) (by omega), w32_id (x := (s : Int)) (by omega)]
            split <;> omega
          rw [e2]
          refine hE ((w2, t2), min s (brs m (-1) g.1 g.2.1 g.2.2 p + nC m l1 l2 u l (gN g p))) ⟨?_, mr.tr mr2, mc2⟩
          show min s (brs m (-1) g.1 g.2.1 g.2.2 p + nC m l1 l2 u l (gN g p)) = _
          rw [emn, hgn, eC, hs]
          omega
    · rintro ⟨⟨w1, t1⟩, s⟩ ⟨hs, mr, mc⟩
      dsimp only at hs mr mc ⊢
      exact g_ls1 (m := m) (b := b) (P := PmN m l1 l2) (l1 := l1) (l2 := l2) (hrW := hW) ⟨fun _ => done s w1 t1 (by rw [hs, eMn]) mr mc, fun h9 => absurd (Int.le_refl _) h9⟩
  refine g_ls (m := m) (b := b) (P := PmN m l1 l2) (l1 := l1) (l2 := l2) ?_
  rw [b1, c1]
  simp (disch := omega) only [w32_id]
  refine ⟨fun _ => ⟨⟨hM, kb⟩, fun x1 hx1 => ⟨fun h1 => ?_, fun h1 => ?_⟩⟩, fun h9 => by omega⟩
  · have pre := (⟨hN0, hx, hg, hi.1, hj.1, by omega, by omega⟩ : NX l1 l2 m w ∧ x = ((trG m g : Nat) : Int) ∧ gL g ≤ 16 ∧ (0 : Int) ≤ i ∧ (0 : Int) ≤ j ∧ (i : Int) ≤ 2147483647 ∧ (j : Int) ≤ 2147483647)
    refine ⟨fun h2 => ⟨g, pre, fun x3 hx3 => ?_⟩, fun h2 => ⟨fun h3 => ⟨g, pre, fun x3 hx3 => ?_⟩, fun h3 => ⟨g, ⟨hLN, hWp, hWr, hx, hg, by decide, by decide⟩, fun x7 hx7 => ⟨g, pre, fun x3 hx3 => ?_⟩⟩⟩⟩
    · rw [hx3]
      exact loop x1 1000 (by unfold nX; rw [if_neg (by omega)]; rfl)
    · rw [hx3]
      exact loop x1 1000 (by unfold nX; rw [if_neg (by omega)]; rfl)
    · rw [hx3, hx7]
      have hb8 := brs_le m (-1) g.1 g.2.1 g.2.2 16
      exact loop x1 _ (by unfold nX; rw [if_pos (by omega)]; show brs m (-1) g.1 g.2.1 g.2.2 16 = _; omega)
  · rcases hx1 with h9 | h9
    · rw [h9] at h1
      exact absurd (by decide +kernel) h1
    · have := h9 i.toNat j.toNat g (by omega) (by omega) hg (by rw [hx]; omega)
      exact ⟨x1, w, t, rfl, by trivial, this, MR.rf _ _, hM⟩
theorem c_lsB {d : Nat} {l1 l2 : List Int} {m : eW} {b : Nat × Nat} : ∀ (B : Nat) (g : t3) (i j x q : Int) (w : eW) (t : eT), LsR l1 l2 m b B g i j x q w t → Cl (d + 2 * B + 2) 51 [rA 56, (0, i), (0, j), (0, x), (0, q)] (enc w t) (fun r S2 => ∃ y w2 t2, r = some (0, y) ∧ S2 = enc w2 t2 ∧ LsO l1 l2 m b g i j x q w t y w2 t2) := by
  intro B
  induction B with
  | zero => intro g i j x q w t h; exact absurd h.2.2.2.2.2.2.2 (Nat.not_lt_zero _)
  | succ B ih =>
    intro g i j x q w t h
    exact least_of (d := d + 2 * B) (leastWith_of (d := d + 2 * B) ih) g i j x q w t h
theorem c_lwB {d : Nat} {l1 l2 : List Int} {m : eW} {b : Nat × Nat} (g : t3) (i j x p q : Int) (w : eW) (t : eT) (h : LwR l1 l2 m b 13 g i j x p q w t) : Cl (d + 29) 52 [rA 56, (0, i), (0, j), (0, x), (0, p), (0, q)] (enc w t) (fun r S2 => ∃ y w2 t2, r = some (0, y) ∧ S2 = enc w2 t2 ∧ LwO l1 l2 m b g i j x p q w t y w2 t2) := leastWith_of (d := d + 26) (c_lsB (d := d) 13) g i j x p q w t h

