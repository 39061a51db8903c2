/-! The model: what is asked of entries and rules. -/
/-- words with an entry, of most letters at most -/
def wwI (m : eW) (e : Int) : Nat → Int
  | 0 => 0
  | n + 1 => wwI m e n + ((wv m (-1) (n + 1) 0 : Int) - (wv m e (n + 1) 0 : Int))
theorem wwI_b {m : eW} (he : WFe m) (e : Int) : ∀ n : Nat, n ≤ 6 → -(16777216 * (n : Int)) ≤ wwI m e n ∧ wwI m e n ≤ 16777216 * (n : Int) := by
  intro n
  induction n with
  | zero => intro _; unfold wwI; omega
  | succ n ih =>
    intro hn
    have h1 := ih (by omega)
    have h2 := wv_le he (nt := -1) (l := n + 1) (g := 0) hn
    have h3 := wv_le he (nt := e) (l := n + 1) (g := 0) hn
    unfold wwI
    omega

theorem g_wWith0 {d : Nat} {Q : Option aV → aS → Prop} {w : eW} {t : eT} {e q : Int} {m : eW} (h : Ev (d + 1) 261 Q 5 [rA 67, (0, e), (0, q), (1, 0), (9, 0), (0, 1)] [] (enc w t)) : Cl (d + 1) 261 [rA 67, (0, e), (0, q)] (enc w t) Q := by
  show Ev (d + 1) 261 Q 0 [rA 67, (0, e), (0, q), (9, 0), (9, 0), (9, 0)] [] (enc w t)
  refine e_lc (show am_cd 261 0 = (1, 1, 0, 0, []) by decide +kernel) ?_
  refine e_stl (la2 := [rA 67, (0, e), (0, q), (1, 0), (9, 0), (9, 0)]) (show am_cd 261 1 = (3, 2, 3, 1, []) by decide +kernel) rfl ?_
  refine e_ic (show am_cd 261 2 = (0, 3, 0, 1, []) by decide +kernel) ?_
  refine e_sti (la2 := [rA 67, (0, e), (0, q), (1, 0), (9, 0), (0, 1)]) (show am_cd 261 3 = (3, 5, 5, 0, []) by decide +kernel) rfl ?_
  exact h

theorem g_wWith1 {d : Nat} {Q : Option aV → aS → Prop} {w : eW} {t : eT} {e q x i : Int} {m : eW} (h : ((w32 q < w32 i → Q (some (1, x)) (enc w t)) ∧ (¬ (w32 q < w32 i) → (MX w m ∧ ((0 : Int) ≤ i ∧ (i : Int) ≤ 6) ∧ okI (-1)) ∧ (∀ w1, (Fm [99] [] w w1) → (MX w1 m ∧ ((0 : Int) ≤ i ∧ (i : Int) ≤ 6) ∧ okI e) ∧ (∀ w2, (Fm [99] [] w1 w2) → Ev (d + 1) 261 Q 5 [rA 67, (0, e), (0, q), (1, x + (((wv m (-1) i.toNat 0 : Nat) : Int) - ((wv m e i.toNat 0 : Nat) : Int))), (9, 0), (0, i + 1)] [] (enc w2 t)))))) : Ev (d + 1) 261 Q 5 [rA 67, (0, e), (0, q), (1, x), (9, 0), (0, i)] [] (enc w t) := by
  refine e_ldi (show am_cd 261 5 = (2, 7, 5, 0, []) by decide +kernel) rfl ?_
  refine e_ldi (show am_cd 261 7 = (2, 8, 2, 0, []) by decide +kernel) rfl ?_
  refine e_cmp4 (show am_cd 261 8 = (11, 11, 35, 4, []) by decide +kernel) (fun hc => ?_) (fun hc => ?_)
  · replace h := h.1 hc
    refine e_ldl (show am_cd 261 35 = (2, 36, 3, 1, []) by decide +kernel) rfl ?_
    exact e_retl (show am_cd 261 36 = (36, 37, 1, 0, []) by decide +kernel) (by decide +kernel) h
  · replace h := h.2 hc
    refine e_ldl (show am_cd 261 11 = (2, 12, 3, 1, []) by decide +kernel) rfl ?_
    refine e_lda (v := 67) (show am_cd 261 12 = (2, 13, 0, 2, []) by decide +kernel) rfl ?_
    refine e_ldi (show am_cd 261 13 = (2, 15, 5, 0, []) by decide +kernel) rfl ?_
    refine e_ic (show am_cd 261 15 = (0, 16, 0, -1, []) by decide +kernel) ?_
    refine e_cV (z := 0) (a := 67) (as := [(0, i), (0, (-1))]) (rest := [(1, x)]) (show am_cd 261 16 = (40, 19, 257, 0, [445]) by decide +kernel) (by decide +kernel) rfl rfl (Nat.le_of_ble_eq_true rfl) rfl ?_
    refine Cl.mono (Cl.up (c_countWords (d := d) h.1) (by omega)) ?_
    rintro _ _ ⟨w1, rfl, rfl, hp⟩
    refine ⟨fun _ h9 => (by cases h9), ?_⟩
    replace h := h.2 w1 hp
    show Ev _ 261 _ 19 [rA 67, (0, e), (0, q), (1, x), (9, 0), (0, i)] [(1, ((wv m (-1) i.toNat 0 : Nat) : Int)), (1, x)] _
    refine e_lda (v := 67) (show am_cd 261 19 = (2, 20, 0, 2, []) by decide +kernel) rfl ?_
    refine e_ldi (show am_cd 261 20 = (2, 22, 5, 0, []) by decide +kernel) rfl ?_
    refine e_ldi (show am_cd 261 22 = (2, 23, 1, 0, []) by decide +kernel) rfl ?_
    refine e_cV (z := 0) (a := 67) (as := [(0, i), (0, e)]) (rest := [(1, ((wv m (-1) i.toNat 0 : Nat) : Int)), (1, x)]) (show am_cd 261 23 = (40, 26, 257, 0, [445]) by decide +kernel) (by decide +kernel) rfl rfl (Nat.le_of_ble_eq_true rfl) rfl ?_
    refine Cl.mono (Cl.up (c_countWords (d := d) h.1) (by omega)) ?_
    rintro _ _ ⟨w2, rfl, rfl, hp⟩
    refine ⟨fun _ h9 => (by cases h9), ?_⟩
    replace h := h.2 w2 hp
    show Ev _ 261 _ 26 [rA 67, (0, e), (0, q), (1, x), (9, 0), (0, i)] [(1, ((wv m e i.toNat 0 : Nat) : Int)), (1, ((wv m (-1) i.toNat 0 : Nat) : Int)), (1, x)] _
    refine e_lsub (show am_cd 261 26 = (6, 27, 1, 0, []) by decide +kernel) ?_
    refine e_ladd (show am_cd 261 27 = (6, 28, 0, 0, []) by decide +kernel) ?_
    refine e_stl (la2 := [rA 67, (0, e), (0, q), (1, x + (((wv m (-1) i.toNat 0 : Nat) : Int) - ((wv m e i.toNat 0 : Nat) : Int))), (9, 0), (0, i)]) (show am_cd 261 28 = (3, 29, 3, 1, []) by decide +kernel) rfl ?_
    refine e_inc (la2 := [rA 67, (0, e), (0, q), (1, x + (((wv m (-1) i.toNat 0 : Nat) : Int) - ((wv m e i.toNat 0 : Nat) : Int))), (9, 0), (0, i + 1)]) (show am_cd 261 29 = (4, 32, 5, 1, []) by decide +kernel) rfl rfl ?_
    refine e_go (show am_cd 261 32 = (12, 5, 0, 0, []) by decide +kernel) ?_
    exact h

theorem c_mwordsWith {d : Nat} {m w : eW} {t : eT} {e q : Int} (h : MX w m ∧ okI e ∧ (0 ≤ q ∧ q ≤ 6)) : Cl (d + 1) 261 [rA 67, (0, e), (0, q)] (enc w t) (fun r S2 => ∃ w2, r = some (1, wwI m e q.toNat) ∧ S2 = enc w2 t ∧ Fm [99] [] w w2) := by
  obtain ⟨hX, he, hq⟩ := h
  obtain ⟨N, rfl⟩ : ∃ N : Nat, q = (N : Int) := ⟨q.toNat, by omega⟩
  rw [Int.toNat_natCast]
  refine g_wWith0 (m := m) ?_
  refine lq1 (fun i (σ : eW) => Ev (d + 1) 261 (fun r S2 => ∃ w2, r = some (1, wwI m e N) ∧ S2 = enc w2 t ∧ Fm [99] [] w w2) 5 [rA 67, (0, e), (0, (N : Int)), (1, wwI m e i), (9, 0), (0, (i : Int) + 1)] [] (enc σ t)) (fun i σ => Fm [99] [] w σ) N ?_ ?_ 0 w (Nat.zero_le _) (Fm.rf _ _ _)
  · intro i σ hi hI hE
    refine g_wWith1 (m := m) ?_
    simp (disch := omega) only [w32_id]
    refine ⟨fun h9 => (by omega), fun _ => ⟨⟨hX.m hI (by decide) (by decide), by omega, ⟨by decide, by decide⟩⟩, fun w1 h1 => ⟨⟨hX.m (hI.tr h1) (by decide) (by decide), by omega, he⟩, fun w2 h2 => ?_⟩⟩⟩
    have := hE w2 ((hI.tr h1).tr h2)
    rw [show ((i : Int) + 1).toNat = i + 1 by omega]
    exact this
  · intro σ hI
    refine g_wWith1 (m := m) ?_
    simp (disch := omega) only [w32_id]
    exact ⟨fun _ => ⟨σ, by trivial, rfl, hI⟩, fun h9 => (by omega)⟩
def wordsV (m : eW) (n : Int) : Int := if 1 ≤ n ∧ n ≤ 6 then (wv m (-1) n.toNat 0 : Int) else -1
def entryOfV (m : eW) (e q : Int) : Int := if 0 ≤ e ∧ e < nE m then (if q = 0 then m 77 e.toNat else if q = 1 then m 78 e.toNat else if q = 2 then m 79 e.toNat else if q = 3 then (if 0 < wwI m e 6 then 1 else 0) else if q = 4 then wwI m e 4 else -1) else -1
def rowsV (m : eW) (n : Int) : Int := if 0 ≤ n ∧ n ≤ 8 then (cR m (-1) n.toNat 16 16 16 : Int) else -1
def ruleOfV (m : eW) (r q : Int) : Int := if 0 ≤ r ∧ r < nR m then (if q = 0 then m 72 r.toNat else if q = 1 then m 73 r.toNat else if q = 2 then m 74 r.toNat else if q = 3 then m 75 r.toNat else if q = 4 then (cR m r 3 16 16 16 : Int) - (cR m (-1) 3 16 16 16 : Int) else -1) else -1

