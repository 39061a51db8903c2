/-! The class: stateOf (3). -/

def fUp (f : Nat → t3) (N : Nat) (g : t3) : Nat → t3 := fun s => if s = N then g else f s
def dU (D : Nat → Nat) (N z : Nat) : Nat → Nat := fun s => if s = N then z else D s
theorem fUp_n {f : Nat → t3} {N : Nat} {g : t3} : fUp f N g N = g := if_pos rfl
theorem fUp_o {f : Nat → t3} {N s : Nat} {g : t3} (h : s ≠ N) : fUp f N g s = f s := if_neg h
theorem dU_n {D : Nat → Nat} {N z : Nat} : dU D N z N = z := if_pos rfl
theorem dU_o {D : Nat → Nat} {N s z : Nat} (h : s ≠ N) : dU D N z s = D s := if_neg h
def KDi (m : eW) (N : Nat) (f : Nat → t3) : Prop := (∀ s, s < N → triG m (f s)) ∧ ∀ i j, i < N → j < N → kyG m (f i) = kyG m (f j) → i = j
theorem KDi.le {m : eW} (hp : WFp m) {N : Nat} {f : Nat → t3} (h : KDi m N f) : N ≤ 4369 := by
  refine pgn 4369 N (fun s => triN (f s)) (fun i hi => triN_lt hp (h.1 i hi)) (fun i j hi hj e => ?_)
  refine h.2 i j hi hj ?_
  rw [triN_inj hp (h.1 i hi) (h.1 j hj) e]
theorem KDi.up {m : eW} {N : Nat} {f : Nat → t3} {g : t3} (h : KDi m N f) (hg : triG m g) (hn : ∀ s, s < N → kyG m (f s) ≠ kyG m g) : KDi m (N + 1) (fUp f N g) := by
  refine ⟨fun s hs => ?_, fun i j hi hj e => ?_⟩
  · by_cases h1 : s = N
    · rw [h1, fUp_n]; exact hg
    · rw [fUp_o h1]; exact h.1 s (by omega)
  · by_cases h1 : i = N
    · by_cases h2 : j = N
      · omega
      · rw [h1, fUp_n, fUp_o h2] at e
        exact absurd e.symm (hn j (by omega))
    · by_cases h2 : j = N
      · rw [h2, fUp_n, fUp_o h1] at e
        exact absurd e (hn i (by omega))
      · rw [fUp_o h1, fUp_o h2] at e
        exact h.2 i j (by omega) (by omega) e
theorem DB.cg {w w2 : eW} {t : eT} {b : Nat × Nat} (h : DB w t b) (h1 : ∀ k, 1 ≤ k → k ≤ 6 → w2 37 k = w 37 k) (h2 : w2 45 = w 45) (h3 : w2 (w 45 0).toNat = w (w 45 0).toNat) : DB w2 t b := by
  obtain ⟨a1, a2, a3, a4, a5⟩ := h
  refine ⟨?_, ?_, ?_, ?_, ?_⟩
  · unfold DyI dyRef at *
    rw [h1 1 (by omega) (by omega), h1 2 (by omega) (by omega), h1 3 (by omega) (by omega), h1 4 (by omega) (by omega), h1 5 (by omega) (by omega), h1 6 (by omega) (by omega), h2]
    exact a1
  · unfold RmI at *
    rw [h1 1 (by omega) (by omega), h2]
    exact a2
  · rw [h2]; exact a3
  · rw [h2]; exact a4
  · unfold MmT at *
    rw [h2, h3]; exact a5
theorem FrS.rf (w : eW) (t : eT) : FrS w t w t := ⟨Lo.rf _, ⟨rfl, rfl, rfl⟩, rfl, Nat.le_refl _, fun _ _ => rfl⟩
theorem FrS.tr {w w1 w2 : eW} {t t1 t2 : eT} (h : FrS w t w1 t1) (h2 : FrS w1 t1 w2 t2) : FrS w t w2 t2 := by
  obtain ⟨a1, ⟨a2, a3, a4⟩, a5, a6, a7⟩ := h
  obtain ⟨b1, ⟨b2, b3, b4⟩, b5, b6, b7⟩ := h2
  rw [a2] at b3 b4
  exact ⟨a1.tr b1, ⟨by rw [b2, a2], by rw [b3, a3], by rw [b4, a4]⟩, by rw [b5, a5], Nat.le_trans a6 b6, fun x hx => by rw [b7 x (by omega), a7 x hx]⟩
theorem FrS.cg {w w2 : eW} {t : eT} (hL : Lo w w2) (h2 : w2 45 = w 45) (h3 : w2 (w 45 0).toNat = w (w 45 0).toNat) (h4 : w2 (w 45 1).toNat = w (w 45 1).toNat) (h8 : w2 37 8 = w 37 8) : FrS w t w2 t := ⟨hL, ⟨h2, h3, h4⟩, h8, Nat.le_refl _, fun _ _ => rfl⟩
/-- room made: what holds then -/
theorem mr_ok {N : Nat} {w w2 : eW} {t t2 : eT} {b : Nat × Nat} {m : eW} {f : Nat → t3} {D : Nat → Nat} (h : DB w t b) (hm : MB w m N f D) (hq : MrQ N w t w2 t2) (d2 : DyI w2 t2) (r2 : RmI w2 t2 b) : DB w2 t2 b ∧ MB w2 m N f D ∧ FrS w t w2 t2 := by
  obtain ⟨q1, q2, q3, q4, q5, q6⟩ := hq
  obtain ⟨a1, a2, a3, a4, a5⟩ := h
  have dx := (a1.ds).2
  obtain ⟨_, _, _, M, _, _, ⟨k7, l7⟩, ⟨k8, l8⟩⟩ := a1
  have e45 : w2 45 = w 45 := q1 45 (by omega) (by omega)
  have e38 : w2 38 = w 38 := q1 38 (by omega) (by omega)
  have x7 : (w 45 0).toNat ≠ 37 := by have := dx.2.2.2.2.2.2.1; unfold dyX at this; omega
  have x8 : (w 45 1).toNat ≠ 37 := by have := dx.2.2.2.2.2.2.2; unfold dyX at this; omega
  have r7 : w2 (w 45 0).toNat = w (w 45 0).toNat := q1 _ x7 k7.2.1
  have r8 : w2 (w 45 1).toNat = w (w 45 1).toNat := q1 _ x8 k8.2.1
  have l7b : dyL t2 (w 45 0) = dyL t (w 45 0) := by unfold dyL; rw [q6 _ k7.2.1]
  obtain ⟨m1, m2, m3⟩ := hm
  refine ⟨⟨d2, r2, by rw [e45]; exact a3, by rw [e45, l7b]; exact a4, ?_⟩, ⟨by rw [q2 7 (by omega)]; exact m1, fun s hs => ?_, fun h9 hh => by rw [e38]; exact m3 h9 hh⟩, ?_⟩
  · unfold MmT at *
    rw [e45, l7b, r7]; exact a5
  · have := m2 s hs
    unfold mK mT mD mL at *
    rw [q3 1 (by omega) (by omega) s hs, q3 2 (by omega) (by omega) s hs, q3 3 (by omega) (by omega) s hs, q3 4 (by omega) (by omega) s hs]
    exact this
  · exact ⟨fun a ha => q1 a (by omega) (by omega), ⟨e45, r7, r8⟩, q2 8 (by omega), q5, q6⟩
def wF (w : eW) (N K T D L : Nat) (k x z : Int) (bk : Nat) : eW := wu (wu (wu (wu (wu (wu w K N k) T N x) D N z) L N (w 38 bk)) 38 bk (N : Int)) 37 7 ((N : Int) + 1)
theorem wF_row {w : eW} {N K T D L : Nat} {k x z : Int} {bk a : Nat} (h1 : a ≠ K) (h2 : a ≠ T) (h3 : a ≠ D) (h4 : a ≠ L) (h5 : a ≠ 38) (h6 : a ≠ 37) : wF w N K T D L k x z bk a = w a := by
  unfold wF
  rw [wu_row h6, wu_row h5, wu_row h4, wu_row h3, wu_row h2, wu_row h1]
theorem wu_at (w : eW) (a k j : Nat) (v : Int) : wu w a k v a j = if j = k then v else w a j := by
  unfold wu
  by_cases h : j = k
  · rw [if_pos ⟨rfl, h⟩, if_pos h]
  · rw [if_neg (fun h9 => h h9.2), if_neg h]
theorem so_run {d : Nat} {Q : Option aV → aS → Prop} {w : eW} {t : eT} {x z y k bk s i : Int} (m : eW) {N : Nat} (hD : DyI w t) (hN : w 37 7 = (N : Int)) (hl : N < dyL t (w 37 1)) (hN2 : N < 5000) (hb : 0 ≤ bk ∧ bk ≤ 63) (h : Q (some (0, (N : Int))) (enc (wF w N (w 37 1).toNat (w 37 3).toNat (w 37 4).toNat (w 37 2).toNat k x z bk.toNat) t)) : Ev (d + 3) 34 Q 146 [rA 37, rA 15, (0, x), (0, z), (0, y), (1, k), (9, 0), (0, bk), (0, s), (0, i)] [] (enc w t) := by
  have ds := hD.ds
  obtain ⟨_, _, ⟨R, hR, ⟨k1, l1⟩, ⟨k2, l2⟩, ⟨k3, l3⟩, ⟨k4, l4⟩, _, _⟩, _⟩ := hD
  rw [l1] at hl
  have ew : w32 (w 37 7) = (N : Int) := by rw [hN]; exact w32_id (by omega)
  have ewn : (w32 (w 37 7)).toNat = N := by rw [ew]; exact Int.toNat_natCast _
  have eb : w32 bk = bk := w32_id (by omega)
  refine g_so4 (m := m) ⟨⟨k1, by rw [ew]; omega, by rw [ew, l1]; omega⟩, ?_⟩
  rw [ewn]
  generalize eK : (w 37 1).toNat = K at *
  generalize eT : (w 37 3).toNat = T at *
  generalize eDp : (w 37 4).toNat = D at *
  generalize eL : (w 37 2).toNat = L at *
  obtain ⟨⟨⟨p1, p2, p3, _⟩, ⟨p4, p5, _⟩, ⟨p6, _⟩, _⟩, x1, x2, x3, x4, _⟩ := ds
  unfold dyX at x1 x2 x3 x4
  have r37 : ∀ {u : eW} {A j : Nat} {v : Int}, ((39 ≤ A ∧ A ≤ 44) ∨ (46 ≤ A ∧ A ≤ 47) ∨ 102 ≤ A) → wu u A j v 37 = u 37 := fun hA => wu_row (by omega)
  have r38 : ∀ {u : eW} {A j : Nat} {v : Int}, ((39 ≤ A ∧ A ≤ 44) ∨ (46 ≤ A ∧ A ≤ 47) ∨ 102 ≤ A) → wu u A j v 38 = u 38 := fun hA => wu_row (by omega)
  refine g_so5 (m := m) ?_
  rw [r37 x1, eT, ewn, ew, l3]
  refine ⟨⟨k3, by omega, by omega⟩, ?_⟩
  refine g_so6 (m := m) ?_
  rw [r37 x3, r37 x1, eDp, ewn, ew, l4]
  refine ⟨⟨k4, by omega, by omega⟩, ?_⟩
  refine g_so7 (m := m) ?_
  rw [r37 x4, r37 x3, r37 x1, eL, ewn, ew, l2, eb, r38 x4, r38 x3, r38 x1]
  refine ⟨by omega, ⟨k2, by omega, by omega⟩, ?_⟩
  refine g_so8 (m := m) ?_
  rw [r37 x2, r37 x4, r37 x3, r37 x1, hN, eb]
  refine ⟨by omega, ?_⟩
  have e1 : ((N : Int) + 1) - 1 = (N : Int) := by omega
  rw [e1]
  exact h
