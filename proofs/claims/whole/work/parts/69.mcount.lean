/-! The model: count, drops. -/
def MGs (w m : eW) : Prop := w 67 3 = m 67 3 ∧ ∀ i, i < nS m → w 70 i = m 70 i ∧ w 71 i = m 71 i
def insB (m : eW) : Nat := bts (fun p => decide (m 68 p = 27)) (nP m)
def countV (m : eW) (ks : kT) (rl tx : List Int) (q : Int) : Int := if q = 0 then m 67 0 else if q = 1 then m 67 3 else if q = 2 then m 67 6 else if q = 3 then m 67 12 else if q = 4 then (ks.length : Int) else if q = 5 then (rl.length : Int) else if q = 6 then (tx.length : Int) else if q = 7 then (insB m : Int) else -1
theorem c_mcount {d : Nat} {m w : eW} {t : eT} {ks : kT} {rl tx : List Int} {q : Int} (h : MX w m ∧ MGs w m ∧ KM w ks ∧ RowM w rl ∧ TxM w tx ∧ okI q) : Cl d 265 [rA 67, (0, q)] (enc w t) (fun r S2 => ∃ w2, r = some (0, countV m ks rl tx q) ∧ S2 = enc w2 t ∧ Fm [] [26] w w2) := by
  obtain ⟨hX, hS, hK, hR, hT, hq⟩ := h
  have hm := hX.1
  have hpn := hm.1.n
  unfold okI at hq
  have q0 : Fm [] [26] w (wu w 67 26 0) := Fm.pf (by decide)
  refine g_mcount0 ?_
  rw [hm.2.2.1.1, hS.1, hm.2.2.2.1, hX.2.2.1, hK.1, hR.1, hT.1]
  simp (disch := omega) only [w32_id]
  unfold countV
  refine ⟨fun h2 => ?_, fun h2 => ?_, fun h2 => ?_, fun h2 => ?_, fun h2 => ?_, fun h2 => ?_, fun h2 => ?_, fun h2 => ?_, fun h2 => ?_⟩
  · rw [if_pos h2]; exact ⟨_, rfl, rfl, q0⟩
  · rw [if_neg (by omega), if_pos h2]; exact ⟨_, rfl, rfl, q0⟩
  · rw [if_neg (by omega), if_neg (by omega), if_pos h2]; exact ⟨_, rfl, rfl, q0⟩
  · rw [if_neg (by omega), if_neg (by omega), if_neg (by omega), if_pos h2]; exact ⟨_, rfl, rfl, q0⟩
  · rw [if_neg (by omega), if_neg (by omega), if_neg (by omega), if_neg (by omega), if_pos h2]; exact ⟨_, rfl, rfl, q0⟩
  · rw [if_neg (by omega), if_neg (by omega), if_neg (by omega), if_neg (by omega), if_neg (by omega), if_pos h2]; exact ⟨_, rfl, rfl, q0⟩
  · rw [if_neg (by omega), if_neg (by omega), if_neg (by omega), if_neg (by omega), if_neg (by omega), if_neg (by omega), if_pos h2]; exact ⟨_, rfl, rfl, q0⟩
  · rw [if_neg (by omega), if_neg (by omega), if_neg (by omega), if_neg (by omega), if_neg (by omega), if_neg (by omega), if_neg (by omega), if_pos h2]
    refine lp0 (fun i => Ev d 265 (fun r S2 => ∃ w2, r = some (0, (insB m : Int)) ∧ S2 = enc w2 t ∧ Fm [] [26] w w2) 93 [rA 67, (0, q), (0, (bts (fun p => decide (m 68 p = 27)) i : Int)), (0, (i : Int))] [] (enc (wu w 67 26 0) t)) (nP m) ?_ ?_ 0 (Nat.zero_le _)
    · intro i hi hE
      have u1 := (hm.2.2.1.2 i hi).1
      have b1 := (hm.1.2.1 i hi).1
      have hbl := bts_lt (fun p => decide (m 68 p = 27)) i
      have h16 : 2 ^ i ≤ 65536 := Nat.pow_le_pow_right (n := 2) (by decide) (show i ≤ 16 by omega)
      rw [show bts (fun p => decide (m 68 p = 27)) (i + 1) = bts (fun p => decide (m 68 p = 27)) i ||| (if decide (m 68 i = 27) then 2 ^ i else 0) from rfl] at hE
      refine g_mcount1 ?_
      rw [wu_nk _ _ (show (0 : Nat) ≠ 26 by decide), wu_row (show (68 : Nat) ≠ 67 by decide), hm.2.2.1.1]
      simp (disch := omega) only [w32_id, Int.toNat_natCast, u1]
      refine ⟨fun h9 => (by omega), fun _ => ⟨by omega, fun h3 => ?_, fun h3 => ?_⟩⟩
      · rw [decide_eq_false h3] at hE
        rw [show (0 : Int) = ((0 : Nat) : Int) from rfl, b_or (by omega) (by decide)]
        exact hE
      · rw [decide_eq_true (show m 68 i = 27 by omega), if_pos rfl] at hE
        rw [i_set (by omega) (by omega), Int.toNat_natCast, Int.toNat_natCast]
        exact hE
    · refine g_mcount1 ?_
      rw [wu_nk _ _ (show (0 : Nat) ≠ 26 by decide), hm.2.2.1.1]
      simp (disch := omega) only [w32_id]
      exact ⟨fun _ => ⟨_, rfl, rfl, q0⟩, fun h9 => (by omega)⟩
  · rw [if_neg (by omega), if_neg (by omega), if_neg (by omega), if_neg (by omega), if_neg (by omega), if_neg (by omega), if_neg (by omega), if_neg (by omega)]; exact ⟨_, by trivial, rfl, q0⟩
/-- the grammar without a rule -/
def dropM (m : eW) (r : Nat) : eW := fun a k => if a = 67 ∧ k = 6 then m 67 6 - 1 else if (72 ≤ a ∧ a ≤ 75) ∧ r ≤ k then m a (k + 1) else if a = 76 ∧ 3 * r ≤ k then m 76 (k + 3) else m a k
def dropsV (m : eW) (r : Int) : Int := if 0 ≤ r ∧ r < nR m then m 67 6 - 1 else -1
def dropsM (m : eW) (r : Int) : eW := if 0 ≤ r ∧ r < nR m then dropM m r.toNat else m
theorem dropM_n {m : eW} {r : Nat} (hr : WFr m) (h : r < nR m) : nR (dropM m r) = nR m - 1 ∧ nP (dropM m r) = nP m ∧ nE (dropM m r) = nE m ∧ nS (dropM m r) = nS m := by
  have h1 := hr.n
  refine ⟨?_, rfl, rfl, rfl⟩
  show (m 67 6 - 1).toNat = (m 67 6).toNat - 1
  omega
theorem dropM_at {m : eW} {r a k : Nat} (ha : 72 ≤ a ∧ a ≤ 75) : dropM m r a k = m a (if r ≤ k then k + 1 else k) := by
  unfold dropM
  rw [if_neg (by omega)]
  by_cases h : r ≤ k
  · rw [if_pos ⟨ha, h⟩, if_pos h]
  · rw [if_neg (fun h9 => h h9.2), if_neg (by omega), if_neg h]
theorem dropM_76 {m : eW} {r k j : Nat} (hj : j < 3) : dropM m r 76 (3 * k + j) = m 76 (3 * (if r ≤ k then k + 1 else k) + j) := by
  unfold dropM
  rw [if_neg (by omega), if_neg (by omega)]
  by_cases h : r ≤ k
  · rw [if_pos ⟨rfl, by omega⟩, if_pos h]
    congr 1
    omega
  · rw [if_neg (by omega), if_neg h]
theorem dropM_wf {m : eW} {r : Nat} (hr : WFr m) (h : r < nR m) : WFr (dropM m r) := by
  have hn := dropM_n hr h
  have h1 := hr.n
  refine ⟨?_, fun k hk => ?_⟩
  · show 0 ≤ m 67 6 - 1 ∧ m 67 6 - 1 ≤ 8
    omega
  · rw [hn.1] at hk
    have := hr.2 (if r ≤ k then k + 1 else k) (by split <;> omega)
    rw [dropM_at (a := 72) (by decide), dropM_at (a := 73) (by decide), dropM_at (a := 74) (by decide), dropM_at (a := 75) (by decide), dropM_76 (j := 1) (by decide), dropM_76 (j := 2) (by decide), show dropM m r 76 (3 * k) = m 76 (3 * (if r ≤ k then k + 1 else k)) from dropM_76 (j := 0) (by decide)]
    exact this

theorem g_mdrops0 {d : Nat} {Q : Option aV → aS → Prop} {w : eW} {t : eT} {rr : Int} (h : (((decide (w64 0 ≤ w64 (w32 rr) ∧ w64 (w32 rr) ≤ w64 (w32 ((w 67 6) - 1)))) = true → Ev (d + 1) 192 Q 35 [rA 67, (0, rr), (0, rr), (9, 0)] [] (enc (wu (wu w 67 26 0) 67 6 ((w 67 6) - 1)) t)) ∧ ((decide (w64 0 ≤ w64 (w32 rr) ∧ w64 (w32 rr) ≤ w64 (w32 ((w 67 6) - 1)))) = false → Q (some (0, (-1))) (enc (wu w 67 26 0) t)))) : Cl (d + 1) 192 [rA 67, (0, rr)] (enc w t) Q := by
  show Ev (d + 1) 192 Q 0 [rA 67, (0, rr), (9, 0), (9, 0)] [] (enc w t)
  refine e_lda (v := 67) (show am_cd 192 0 = (2, 1, 0, 2, []) by decide +kernel) rfl ?_
  refine e_ic (show am_cd 192 1 = (0, 2, 0, 0, []) by decide +kernel) ?_
  refine e_putf (a := 67) (show am_cd 192 2 = (19, 5, 1226, 0, [113]) by decide +kernel) (by decide +kernel) (by decide +kernel) rfl (fun h9 => absurd h9 (by decide)) (fun h9 => absurd h9 (by decide +kernel)) ?_
  refine e_ldi (show am_cd 192 5 = (2, 6, 1, 0, []) by decide +kernel) rfl ?_
  refine e_i2l (show am_cd 192 6 = (8, 7, 0, 0, []) by decide +kernel) ?_
  refine e_lc (show am_cd 192 7 = (1, 8, 0, 0, []) by decide +kernel) ?_
  refine e_lda (v := 67) (show am_cd 192 8 = (2, 9, 0, 2, []) by decide +kernel) rfl ?_
  refine e_getfE (a := 67) (tg := 0) (v := w 67 6) (show am_cd 192 9 = (18, 12, 1206, 0, [183]) by decide +kernel) (by decide +kernel) (by decide +kernel) rfl rfl ?_
  refine e_ic (show am_cd 192 12 = (0, 13, 0, 1, []) by decide +kernel) ?_
  refine e_isub (show am_cd 192 13 = (5, 14, 1, 0, []) by decide +kernel) ?_
  refine e_i2l (show am_cd 192 14 = (8, 15, 0, 0, []) by decide +kernel) ?_
  refine e_cS (z := 0) (as := [(1, w32 rr), (1, 0), (1, w32 ((w 67 6) - 1))]) (rest := []) (show am_cd 192 15 = (40, 18, 165, 1, [122]) by decide +kernel) (by decide) rfl rfl (Nat.le_of_ble_eq_true rfl) rfl ?_
  refine Cl.mono (Cl.up (c_in (d := d)) (by omega)) ?_
  rintro _ _ ⟨rfl, rfl⟩
  refine ⟨fun _ h9 => (by cases h9), ?_⟩
  show Ev _ 192 _ 18 [rA 67, (0, rr), (9, 0), (9, 0)] [(0, bI (decide (w64 0 ≤ w64 (w32 rr) ∧ w64 (w32 rr) ≤ w64 (w32 ((w 67 6) - 1)))))] _
  refine e_ifb1 (show am_cd 192 18 = (10, 21, 23, 1, []) by decide +kernel) (fun hc => ?_) (fun hc => ?_)
  · replace h := h.1 hc
    refine e_lda (v := 67) (show am_cd 192 23 = (2, 24, 0, 2, []) by decide +kernel) rfl ?_
    refine e_dup (show am_cd 192 24 = (13, 25, 0, 0, []) by decide +kernel) (by decide) ?_
    refine e_getfE (a := 67) (tg := 0) (v := w 67 6) (show am_cd 192 25 = (18, 28, 1206, 0, [183]) by decide +kernel) (by decide +kernel) (by decide +kernel) rfl rfl ?_
    refine e_ic (show am_cd 192 28 = (0, 29, 0, 1, []) by decide +kernel) ?_
    refine e_isub (show am_cd 192 29 = (5, 30, 1, 0, []) by decide +kernel) ?_
    refine e_putf (a := 67) (show am_cd 192 30 = (19, 33, 1206, 0, [183]) by decide +kernel) (by decide +kernel) (by decide +kernel) rfl (fun h9 => absurd h9 (by decide)) (fun h9 => absurd h9 (by decide +kernel)) ?_
    refine e_ldi (show am_cd 192 33 = (2, 34, 1, 0, []) by decide +kernel) rfl ?_
    refine e_sti (la2 := [rA 67, (0, rr), (0, rr), (9, 0)]) (show am_cd 192 34 = (3, 35, 2, 0, []) by decide +kernel) rfl ?_
    exact h
  · replace h := h.2 hc
    refine e_ic (show am_cd 192 21 = (0, 22, 0, -1, []) by decide +kernel) ?_
    exact e_reti (show am_cd 192 22 = (36, 23, 0, 0, []) by decide +kernel) (by decide +kernel) h

theorem g_mdrops1 {d : Nat} {Q : Option aV → aS → Prop} {w : eW} {t : eT} {rr k : Int} {J : aV} (h : ((w32 (w 67 6) ≤ w32 k → Q (some (0, w 67 6)) (enc w t)) ∧ (¬ (w32 (w 67 6) ≤ w32 k) → (0 ≤ w32 (k + 1) ∧ w32 (k + 1) < 8) ∧ (0 ≤ w32 k ∧ w32 k < 8) ∧ (0 ≤ w32 (k + 1) ∧ w32 (k + 1) < 8) ∧ (0 ≤ w32 k ∧ w32 k < 8) ∧ (0 ≤ w32 (k + 1) ∧ w32 (k + 1) < 8) ∧ (0 ≤ w32 k ∧ w32 k < 8) ∧ (0 ≤ w32 (k + 1) ∧ w32 (k + 1) < 8) ∧ (0 ≤ w32 k ∧ w32 k < 8) ∧ (0 ≤ w32 (((3 * k) + 3) + 0) ∧ w32 (((3 * k) + 3) + 0) < 24) ∧ (0 ≤ w32 ((3 * k) + 0) ∧ w32 ((3 * k) + 0) < 24) ∧ (0 ≤ w32 (((3 * k) + 3) + 1) ∧ w32 (((3 * k) + 3) + 1) < 24) ∧ (0 ≤ w32 ((3 * k) + 1) ∧ w32 ((3 * k) + 1) < 24) ∧ (0 ≤ w32 (((3 * k) + 3) + 2) ∧ w32 (((3 * k) + 3) + 2) < 24) ∧ (0 ≤ w32 ((3 * k) + 2) ∧ w32 ((3 * k) + 2) < 24) ∧ (Ev (d + 1) 192 Q 35 [rA 67, (0, rr), (0, k + 1), (0, 3)] [] (enc (wu (wu (wu (wu (wu (wu (wu w 72 (w32 k).toNat (w 72 (w32 (k + 1)).toNat)) 73 (w32 k).toNat (w 73 (w32 (k + 1)).toNat)) 74 (w32 k).toNat (w 74 (w32 (k + 1)).toNat)) 75 (w32 k).toNat (w 75 (w32 (k + 1)).toNat)) 76 (w32 ((3 * k) + 0)).toNat (w 76 (w32 (((3 * k) + 3) + 0)).toNat)) 76 (w32 ((3 * k) + 1)).toNat ((wu (wu (wu (wu (wu w 72 (w32 k).toNat (w 72 (w32 (k + 1)).toNat)) 73 (w32 k).toNat (w 73 (w32 (k + 1)).toNat)) 74 (w32 k).toNat (w 74 (w32 (k + 1)).toNat)) 75 (w32 k).toNat (w 75 (w32 (k + 1)).toNat)) 76 (w32 ((3 * k) + 0)).toNat (w 76 (w32 (((3 * k) + 3) + 0)).toNat)) 76 (w32 (((3 * k) + 3) + 1)).toNat)) 76 (w32 ((3 * k) + 2)).toNat ((wu (wu (wu (wu (wu (wu w 72 (w32 k).toNat (w 72 (w32 (k + 1)).toNat)) 73 (w32 k).toNat (w 73 (w32 (k + 1)).toNat)) 74 (w32 k).toNat (w 74 (w32 (k + 1)).toNat)) 75 (w32 k).toNat (w 75 (w32 (k + 1)).toNat)) 76 (w32 ((3 * k) + 0)).toNat (w 76 (w32 (((3 * k) + 3) + 0)).toNat)) 76 (w32 ((3 * k) + 1)).toNat ((wu (wu (wu (wu (wu w 72 (w32 k).toNat (w 72 (w32 (k + 1)).toNat)) 73 (w32 k).toNat (w 73 (w32 (k + 1)).toNat)) 74 (w32 k).toNat (w 74 (w32 (k + 1)).toNat)) 75 (w32 k).toNat (w 75 (w32 (k + 1)).toNat)) 76 (w32 ((3 * k) + 0)).toNat (w 76 (w32 (((3 * k) + 3) + 0)).toNat)) 76 (w32 (((3 * k) + 3) + 1)).toNat)) 76 (w32 (((3 * k) + 3) + 2)).toNat)) t))))) : Ev (d + 1) 192 Q 35 [rA 67, (0, rr), (0, k), J] [] (enc w t) := by
  refine e_ldi (show am_cd 192 35 = (2, 36, 2, 0, []) by decide +kernel) rfl ?_
  refine e_lda (v := 67) (show am_cd 192 36 = (2, 37, 0, 2, []) by decide +kernel) rfl ?_
  refine e_getf (a := 67) (tg := 0) (show am_cd 192 37 = (18, 40, 1206, 0, [183]) by decide +kernel) (by decide +kernel) (by decide +kernel) rfl ?_
  refine e_cmp3 (show am_cd 192 40 = (11, 43, 140, 3, []) by decide +kernel) (fun hc => ?_) (fun hc => ?_)
  · replace h := h.1 hc
    refine e_lda (v := 67) (show am_cd 192 140 = (2, 141, 0, 2, []) by decide +kernel) rfl ?_
    refine e_getf (a := 67) (tg := 0) (show am_cd 192 141 = (18, 144, 1206, 0, [183]) by decide +kernel) (by decide +kernel) (by decide +kernel) rfl ?_
    exact e_reti (show am_cd 192 144 = (36, 145, 0, 0, []) by decide +kernel) (by decide +kernel) h
  · replace h := h.2 hc
    refine e_lda (v := 67) (show am_cd 192 43 = (2, 44, 0, 2, []) by decide +kernel) rfl ?_
    refine e_getr (a := 67) (r := 72) (show am_cd 192 44 = (18, 47, 1207, 2, [22]) by decide +kernel) (by decide +kernel) (by decide +kernel) rfl ?_
    refine e_ldi (show am_cd 192 47 = (2, 48, 2, 0, []) by decide +kernel) rfl ?_
    refine e_lda (v := 67) (show am_cd 192 48 = (2, 49, 0, 2, []) by decide +kernel) rfl ?_
    refine e_getr (a := 67) (r := 72) (show am_cd 192 49 = (18, 52, 1207, 2, [22]) by decide +kernel) (by decide +kernel) (by decide +kernel) rfl ?_
    refine e_ldi (show am_cd 192 52 = (2, 53, 2, 0, []) by decide +kernel) rfl ?_
    refine e_ic (show am_cd 192 53 = (0, 54, 0, 1, []) by decide +kernel) ?_
    refine e_iadd (show am_cd 192 54 = (5, 55, 0, 0, []) by decide +kernel) ?_
    refine e_iald (a := 72) (n := 8) (show am_cd 192 55 = (21, 56, 0, 0, []) by decide +kernel) (by decide +kernel) (by decide +kernel) (by decide +kernel) h.1 ?_
    replace h := h.2
    refine e_iast (a := 72) (n := 8) (show am_cd 192 56 = (24, 57, 0, 0, []) by decide +kernel) (by decide +kernel) (by decide +kernel) (by decide +kernel) h.1 ?_
    replace h := h.2
    refine e_lda (v := 67) (show am_cd 192 57 = (2, 58, 0, 2, []) by decide +kernel) rfl ?_
    refine e_getr (a := 67) (r := 73) (show am_cd 192 58 = (18, 61, 1208, 2, [25]) by decide +kernel) (by decide +kernel) (by decide +kernel) rfl ?_
    refine e_ldi (show am_cd 192 61 = (2, 62, 2, 0, []) by decide +kernel) rfl ?_
    refine e_lda (v := 67) (show am_cd 192 62 = (2, 63, 0, 2, []) by decide +kernel) rfl ?_
    refine e_getr (a := 67) (r := 73) (show am_cd 192 63 = (18, 66, 1208, 2, [25]) by decide +kernel) (by decide +kernel) (by decide +kernel) rfl ?_
    refine e_ldi (show am_cd 192 66 = (2, 67, 2, 0, []) by decide +kernel) rfl ?_
    refine e_ic (show am_cd 192 67 = (0, 68, 0, 1, []) by decide +kernel) ?_
    refine e_iadd (show am_cd 192 68 = (5, 69, 0, 0, []) by decide +kernel) ?_
    refine e_ialdE (a := 73) (n := 8) (v := w 73 (w32 (k + 1)).toNat) (show am_cd 192 69 = (21, 70, 0, 0, []) by decide +kernel) (by decide +kernel) (by decide +kernel) (by decide +kernel) h.1 rfl ?_
    replace h := h.2
    refine e_iast (a := 73) (n := 8) (show am_cd 192 70 = (24, 71, 0, 0, []) by decide +kernel) (by decide +kernel) (by decide +kernel) (by decide +kernel) h.1 ?_
    replace h := h.2
    refine e_lda (v := 67) (show am_cd 192 71 = (2, 72, 0, 2, []) by decide +kernel) rfl ?_
    refine e_getr (a := 67) (r := 74) (show am_cd 192 72 = (18, 75, 1209, 2, [28]) by decide +kernel) (by decide +kernel) (by decide +kernel) rfl ?_
    refine e_ldi (show am_cd 192 75 = (2, 76, 2, 0, []) by decide +kernel) rfl ?_
    refine e_lda (v := 67) (show am_cd 192 76 = (2, 77, 0, 2, []) by decide +kernel) rfl ?_
    refine e_getr (a := 67) (r := 74) (show am_cd 192 77 = (18, 80, 1209, 2, [28]) by decide +kernel) (by decide +kernel) (by decide +kernel) rfl ?_
    refine e_ldi (show am_cd 192 80 = (2, 81, 2, 0, []) by decide +kernel) rfl ?_
    refine e_ic (show am_cd 192 81 = (0, 82, 0, 1, []) by decide +kernel) ?_
    refine e_iadd (show am_cd 192 82 = (5, 83, 0, 0, []) by decide +kernel) ?_
    refine e_ialdE (a := 74) (n := 8) (v := w 74 (w32 (k + 1)).toNat) (show am_cd 192 83 = (21, 84, 0, 0, []) by decide +kernel) (by decide +kernel) (by decide +kernel) (by decide +kernel) h.1 rfl ?_
    replace h := h.2
    refine e_iast (a := 74) (n := 8) (show am_cd 192 84 = (24, 85, 0, 0, []) by decide +kernel) (by decide +kernel) (by decide +kernel) (by decide +kernel) h.1 ?_
    replace h := h.2
    refine e_lda (v := 67) (show am_cd 192 85 = (2, 86, 0, 2, []) by decide +kernel) rfl ?_
    refine e_getr (a := 67) (r := 75) (show am_cd 192 86 = (18, 89, 1210, 2, [31]) by decide +kernel) (by decide +kernel) (by decide +kernel) rfl ?_
    refine e_ldi (show am_cd 192 89 = (2, 90, 2, 0, []) by decide +kernel) rfl ?_
    refine e_lda (v := 67) (show am_cd 192 90 = (2, 91, 0, 2, []) by decide +kernel) rfl ?_
    refine e_getr (a := 67) (r := 75) (show am_cd 192 91 = (18, 94, 1210, 2, [31]) by decide +kernel) (by decide +kernel) (by decide +kernel) rfl ?_
    refine e_ldi (show am_cd 192 94 = (2, 95, 2, 0, []) by decide +kernel) rfl ?_
    refine e_ic (show am_cd 192 95 = (0, 96, 0, 1, []) by decide +kernel) ?_
    refine e_iadd (show am_cd 192 96 = (5, 97, 0, 0, []) by decide +kernel) ?_
    refine e_ialdE (a := 75) (n := 8) (v := w 75 (w32 (k + 1)).toNat) (show am_cd 192 97 = (21, 98, 0, 0, []) by decide +kernel) (by decide +kernel) (by decide +kernel) (by decide +kernel) h.1 rfl ?_
    replace h := h.2
    refine e_iast (a := 75) (n := 8) (show am_cd 192 98 = (24, 99, 0, 0, []) by decide +kernel) (by decide +kernel) (by decide +kernel) (by decide +kernel) h.1 ?_
    replace h := h.2
    refine e_ic (show am_cd 192 99 = (0, 100, 0, 0, []) by decide +kernel) ?_
    refine e_sti (la2 := [rA 67, (0, rr), (0, k), (0, 0)]) (show am_cd 192 100 = (3, 101, 3, 0, []) by decide +kernel) rfl ?_
    refine e_ldi (show am_cd 192 101 = (2, 102, 3, 0, []) by decide +kernel) rfl ?_
    refine e_ic (show am_cd 192 102 = (0, 103, 0, 3, []) by decide +kernel) ?_
    refine e_cmpF (show am_cd 192 103 = (11, 106, 134, 3, []) by decide +kernel) (by decide +kernel) ?_
    refine e_lda (v := 67) (show am_cd 192 106 = (2, 107, 0, 2, []) by decide +kernel) rfl ?_
    refine e_getr (a := 67) (r := 76) (show am_cd 192 107 = (18, 110, 1211, 2, [34]) by decide +kernel) (by decide +kernel) (by decide +kernel) rfl ?_
    refine e_ic (show am_cd 192 110 = (0, 111, 0, 3, []) by decide +kernel) ?_
    refine e_ldi (show am_cd 192 111 = (2, 112, 2, 0, []) by decide +kernel) rfl ?_
    refine e_imul (show am_cd 192 112 = (5, 113, 2, 0, []) by decide +kernel) ?_
    refine e_ldi (show am_cd 192 113 = (2, 114, 3, 0, []) by decide +kernel) rfl ?_
    refine e_iadd (show am_cd 192 114 = (5, 115, 0, 0, []) by decide +kernel) ?_
    refine e_lda (v := 67) (show am_cd 192 115 = (2, 116, 0, 2, []) by decide +kernel) rfl ?_
    refine e_getr (a := 67) (r := 76) (show am_cd 192 116 = (18, 119, 1211, 2, [34]) by decide +kernel) (by decide +kernel) (by decide +kernel) rfl ?_
    refine e_ic (show am_cd 192 119 = (0, 120, 0, 3, []) by decide +kernel) ?_
    refine e_ldi (show am_cd 192 120 = (2, 121, 2, 0, []) by decide +kernel) rfl ?_
    refine e_imul (show am_cd 192 121 = (5, 122, 2, 0, []) by decide +kernel) ?_
    refine e_ic (show am_cd 192 122 = (0, 123, 0, 3, []) by decide +kernel) ?_
    refine e_iadd (show am_cd 192 123 = (5, 124, 0, 0, []) by decide +kernel) ?_
    refine e_ldi (show am_cd 192 124 = (2, 125, 3, 0, []) by decide +kernel) rfl ?_
    refine e_iadd (show am_cd 192 125 = (5, 126, 0, 0, []) by decide +kernel) ?_
    refine e_ialdE (a := 76) (n := 24) (v := w 76 (w32 (((3 * k) + 3) + 0)).toNat) (show am_cd 192 126 = (21, 127, 0, 0, []) by decide +kernel) (by decide +kernel) (by decide +kernel) (by decide +kernel) h.1 rfl ?_
    replace h := h.2
    refine e_iast (a := 76) (n := 24) (show am_cd 192 127 = (24, 128, 0, 0, []) by decide +kernel) (by decide +kernel) (by decide +kernel) (by decide +kernel) h.1 ?_
    replace h := h.2
    refine e_inc (la2 := [rA 67, (0, rr), (0, k), (0, 1)]) (show am_cd 192 128 = (4, 131, 3, 1, []) by decide +kernel) rfl rfl ?_
    refine e_go (show am_cd 192 131 = (12, 101, 0, 0, []) by decide +kernel) ?_
    refine e_ldi (show am_cd 192 101 = (2, 102, 3, 0, []) by decide +kernel) rfl ?_
    refine e_ic (show am_cd 192 102 = (0, 103, 0, 3, []) by decide +kernel) ?_
    refine e_cmpF (show am_cd 192 103 = (11, 106, 134, 3, []) by decide +kernel) (by decide +kernel) ?_
    refine e_lda (v := 67) (show am_cd 192 106 = (2, 107, 0, 2, []) by decide +kernel) rfl ?_
    refine e_getr (a := 67) (r := 76) (show am_cd 192 107 = (18, 110, 1211, 2, [34]) by decide +kernel) (by decide +kernel) (by decide +kernel) rfl ?_
    refine e_ic (show am_cd 192 110 = (0, 111, 0, 3, []) by decide +kernel) ?_
    refine e_ldi (show am_cd 192 111 = (2, 112, 2, 0, []) by decide +kernel) rfl ?_
    refine e_imul (show am_cd 192 112 = (5, 113, 2, 0, []) by decide +kernel) ?_
    refine e_ldi (show am_cd 192 113 = (2, 114, 3, 0, []) by decide +kernel) rfl ?_
    refine e_iadd (show am_cd 192 114 = (5, 115, 0, 0, []) by decide +kernel) ?_
    refine e_lda (v := 67) (show am_cd 192 115 = (2, 116, 0, 2, []) by decide +kernel) rfl ?_
    refine e_getr (a := 67) (r := 76) (show am_cd 192 116 = (18, 119, 1211, 2, [34]) by decide +kernel) (by decide +kernel) (by decide +kernel) rfl ?_
    refine e_ic (show am_cd 192 119 = (0, 120, 0, 3, []) by decide +kernel) ?_
    refine e_ldi (show am_cd 192 120 = (2, 121, 2, 0, []) by decide +kernel) rfl ?_
    refine e_imul (show am_cd 192 121 = (5, 122, 2, 0, []) by decide +kernel) ?_
    refine e_ic (show am_cd 192 122 = (0, 123, 0, 3, []) by decide +kernel) ?_
    refine e_iadd (show am_cd 192 123 = (5, 124, 0, 0, []) by decide +kernel) ?_
    refine e_ldi (show am_cd 192 124 = (2, 125, 3, 0, []) by decide +kernel) rfl ?_
    refine e_iadd (show am_cd 192 125 = (5, 126, 0, 0, []) by decide +kernel) ?_
    refine e_iald (a := 76) (n := 24) (show am_cd 192 126 = (21, 127, 0, 0, []) by decide +kernel) (by decide +kernel) (by decide +kernel) (by decide +kernel) h.1 ?_
    replace h := h.2
    refine e_iast (a := 76) (n := 24) (show am_cd 192 127 = (24, 128, 0, 0, []) by decide +kernel) (by decide +kernel) (by decide +kernel) (by decide +kernel) h.1 ?_
    replace h := h.2
    refine e_inc (la2 := [rA 67, (0, rr), (0, k), (0, 2)]) (show am_cd 192 128 = (4, 131, 3, 1, []) by decide +kernel) rfl rfl ?_
    refine e_go (show am_cd 192 131 = (12, 101, 0, 0, []) by decide +kernel) ?_
    refine e_ldi (show am_cd 192 101 = (2, 102, 3, 0, []) by decide +kernel) rfl ?_
    refine e_ic (show am_cd 192 102 = (0, 103, 0, 3, []) by decide +kernel) ?_
    refine e_cmpF (show am_cd 192 103 = (11, 106, 134, 3, []) by decide +kernel) (by decide +kernel) ?_
    refine e_lda (v := 67) (show am_cd 192 106 = (2, 107, 0, 2, []) by decide +kernel) rfl ?_
    refine e_getr (a := 67) (r := 76) (show am_cd 192 107 = (18, 110, 1211, 2, [34]) by decide +kernel) (by decide +kernel) (by decide +kernel) rfl ?_
    refine e_ic (show am_cd 192 110 = (0, 111, 0, 3, []) by decide +kernel) ?_
    refine e_ldi (show am_cd 192 111 = (2, 112, 2, 0, []) by decide +kernel) rfl ?_
    refine e_imul (show am_cd 192 112 = (5, 113, 2, 0, []) by decide +kernel) ?_
    refine e_ldi (show am_cd 192 113 = (2, 114, 3, 0, []) by decide +kernel) rfl ?_
    refine e_iadd (show am_cd 192 114 = (5, 115, 0, 0, []) by decide +kernel) ?_
    refine e_lda (v := 67) (show am_cd 192 115 = (2, 116, 0, 2, []) by decide +kernel) rfl ?_
    refine e_getr (a := 67) (r := 76) (show am_cd 192 116 = (18, 119, 1211, 2, [34]) by decide +kernel) (by decide +kernel) (by decide +kernel) rfl ?_
    refine e_ic (show am_cd 192 119 = (0, 120, 0, 3, []) by decide +kernel) ?_
    refine e_ldi (show am_cd 192 120 = (2, 121, 2, 0, []) by decide +kernel) rfl ?_
    refine e_imul (show am_cd 192 121 = (5, 122, 2, 0, []) by decide +kernel) ?_
    refine e_ic (show am_cd 192 122 = (0, 123, 0, 3, []) by decide +kernel) ?_
    refine e_iadd (show am_cd 192 123 = (5, 124, 0, 0, []) by decide +kernel) ?_
    refine e_ldi (show am_cd 192 124 = (2, 125, 3, 0, []) by decide +kernel) rfl ?_
    refine e_iadd (show am_cd 192 125 = (5, 126, 0, 0, []) by decide +kernel) ?_
    refine e_iald (a := 76) (n := 24) (show am_cd 192 126 = (21, 127, 0, 0, []) by decide +kernel) (by decide +kernel) (by decide +kernel) (by decide +kernel) h.1 ?_
    replace h := h.2
    refine e_iast (a := 76) (n := 24) (show am_cd 192 127 = (24, 128, 0, 0, []) by decide +kernel) (by decide +kernel) (by decide +kernel) (by decide +kernel) h.1 ?_
    replace h := h.2
    refine e_inc (la2 := [rA 67, (0, rr), (0, k), (0, 3)]) (show am_cd 192 128 = (4, 131, 3, 1, []) by decide +kernel) rfl rfl ?_
    refine e_go (show am_cd 192 131 = (12, 101, 0, 0, []) by decide +kernel) ?_
    refine e_ldi (show am_cd 192 101 = (2, 102, 3, 0, []) by decide +kernel) rfl ?_
    refine e_ic (show am_cd 192 102 = (0, 103, 0, 3, []) by decide +kernel) ?_
    refine e_cmpT (show am_cd 192 103 = (11, 106, 134, 3, []) by decide +kernel) (by decide +kernel) ?_
    refine e_inc (la2 := [rA 67, (0, rr), (0, k + 1), (0, 3)]) (show am_cd 192 134 = (4, 137, 2, 1, []) by decide +kernel) rfl rfl ?_
    refine e_go (show am_cd 192 137 = (12, 35, 0, 0, []) by decide +kernel) ?_
    exact h

def drW (w : eW) (r k : Nat) : eW := fun a j => if (72 ≤ a ∧ a ≤ 75) ∧ r ≤ j ∧ j < k then w a (j + 1) else if a = 76 ∧ 3 * r ≤ j ∧ j < 3 * k then w 76 (j + 3) else w a j
theorem drW_o {w : eW} {r k a : Nat} (h : a < 72 ∨ 76 < a) : drW w r k a = w a := by
  funext j
  unfold drW
  rw [if_neg (by omega), if_neg (by omega)]
theorem drW_7 {w : eW} {r k a j : Nat} (h : 72 ≤ a ∧ a ≤ 75) : drW w r k a j = if r ≤ j ∧ j < k then w a (j + 1) else w a j := by
  unfold drW
  by_cases h1 : r ≤ j ∧ j < k
  · rw [if_pos ⟨h, h1⟩, if_pos h1]
  · rw [if_neg (fun h9 => h1 h9.2), if_neg h1, if_neg (by omega)]
theorem drW_6 {w : eW} {r k j : Nat} : drW w r k 76 j = if 3 * r ≤ j ∧ j < 3 * k then w 76 (j + 3) else w 76 j := by
  unfold drW
  rw [if_neg (by omega)]
  by_cases h1 : 3 * r ≤ j ∧ j < 3 * k
  · rw [if_pos ⟨rfl, h1⟩, if_pos h1]
  · rw [if_neg (fun h9 => h1 h9.2), if_neg h1]
theorem drW_step {w : eW} {r k : Nat} (hk : r ≤ k) : wu (wu (wu (wu (wu (wu (wu (drW w r k) 72 k (w 72 (k + 1))) 73 k (w 73 (k + 1))) 74 k (w 74 (k + 1))) 75 k (w 75 (k + 1))) 76 (3 * k) (w 76 (3 * k + 3))) 76 (3 * k + 1) (w 76 (3 * k + 4))) 76 (3 * k + 2) (w 76 (3 * k + 5)) = drW w r (k + 1) := by
  funext a j
  by_cases h72 : 72 ≤ a ∧ a ≤ 75
  · rw [wu_na _ _ (by omega), wu_na _ _ (by omega), wu_na _ _ (by omega), drW_7 h72]
    have cs : a = 72 ∨ a = 73 ∨ a = 74 ∨ a = 75 := by omega
    by_cases hj : j = k
    · subst hj
      rw [if_pos ⟨hk, by omega⟩]
      rcases cs with rfl | rfl | rfl | rfl <;> simp [wu]
    · rw [wu_nk _ _ hj, wu_nk _ _ hj, wu_nk _ _ hj, wu_nk _ _ hj, drW_7 h72]
      by_cases h1 : r ≤ j ∧ j < k
      · rw [if_pos h1, if_pos (by omega)]
      · rw [if_neg h1, if_neg (by omega)]
  · by_cases h76 : a = 76
    · subst h76
      rw [drW_6]
      by_cases h0 : j = 3 * k
      · subst h0; rw [wu_nk _ _ (by omega), wu_nk _ _ (by omega), wu_eq, if_pos (by omega)]
      · by_cases h1 : j = 3 * k + 1
        · subst h1; rw [wu_nk _ _ (by omega), wu_eq, if_pos (by omega)]
        · by_cases h2 : j = 3 * k + 2
          · subst h2; rw [wu_eq, if_pos (by omega)]
          · rw [wu_nk _ _ h2, wu_nk _ _ h1, wu_nk _ _ h0, wu_na _ _ (by decide), wu_na _ _ (by decide), wu_na _ _ (by decide), wu_na _ _ (by decide), drW_6]
            by_cases h3 : 3 * r ≤ j ∧ j < 3 * k
            · rw [if_pos h3, if_pos (by omega)]
            · rw [if_neg h3, if_neg (by omega)]
    · rw [wu_na _ _ (by omega), wu_na _ _ (by omega), wu_na _ _ (by omega), wu_na _ _ (by omega), wu_na _ _ (by omega), wu_na _ _ (by omega), wu_na _ _ (by omega), drW_o (by omega), drW_o (by omega)]
theorem c_mdrops {d : Nat} {m w : eW} {t : eT} {r : Int} (h : MG w m ∧ okI r) : Cl (d + 1) 192 [rA 67, (0, r)] (enc w t) (fun z S2 => ∃ w2, z = some (0, dropsV m r) ∧ S2 = enc w2 t ∧ Fm [72, 73, 74, 75, 76] [6, 26] w w2 ∧ MG w2 (dropsM m r)) := by
  obtain ⟨hm, hr⟩ := h
  have hrn := hm.2.1.n
  unfold okI at hr
  refine g_mdrops0 ?_
  rw [hm.2.2.2.1]
  simp (disch := omega) only [w32_id, w64_id]
  unfold dropsV dropsM
  refine ⟨fun h1 => ?_, fun h1 => ?_⟩
  · have h1 := of_decide_eq_true h1
    rw [if_pos (by omega), if_pos (by omega)]
    obtain ⟨R, rfl⟩ : ∃ R : Nat, r = (R : Int) := ⟨r.toNat, by omega⟩
    rw [Int.toNat_natCast]
    have hRn : R < nR m := by omega
    have hdn := dropM_n hm.2.1 hRn
    generalize hW : wu (wu w 67 26 0) 67 6 (m 67 6 - 1) = W
    have hW6 : W 67 6 = m 67 6 - 1 := by rw [← hW]; exact wu_eq _ _ _ _
    have hWF : Fm [72, 73, 74, 75, 76] [6, 26] w W := by rw [← hW]; exact (Fm.pf (by decide)).tr (Fm.pf (by decide))
    have hWr : ∀ a, a ≠ 67 → W a = w a := fun a ha => by rw [← hW, wu_row ha, wu_row ha]
    have main := lq1 (fun k (J : aV) => R ≤ k → Ev (d + 1) 192 (fun z S2 => ∃ w2, z = some (0, m 67 6 - 1) ∧ S2 = enc w2 t ∧ Fm [72, 73, 74, 75, 76] [6, 26] w w2 ∧ MG w2 (dropM m R)) 35 [rA 67, (0, (R : Int)), (0, (k : Int)), J] [] (enc (drW W R k) t)) (fun _ _ => True) (nR m - 1) ?_ ?_ R (9, 0) (by omega) trivial (Nat.le_refl _)
    · rw [show drW W R R = W from by
        funext a j
        unfold drW
        rw [if_neg (by omega), if_neg (by omega)]] at main
      exact main
    · intro k J hk _ hE hRk
      refine g_mdrops1 ?_
      rw [drW_o (a := 67) (by decide), hW6]
      simp (disch := omega) only [w32_id]
      have e1 : ((k : Int) + 1).toNat = k + 1 := by omega
      have e2 : (3 * (k : Int) + 0).toNat = 3 * k := by omega
      have e3 : (3 * (k : Int) + 1).toNat = 3 * k + 1 := by omega
      have e4 : (3 * (k : Int) + 2).toNat = 3 * k + 2 := by omega
      have e5 : (3 * (k : Int) + 3 + 0).toNat = 3 * k + 3 := by omega
      have e6 : (3 * (k : Int) + 3 + 1).toNat = 3 * k + 4 := by omega
      have e7 : (3 * (k : Int) + 3 + 2).toNat = 3 * k + 5 := by omega
      simp only [Int.toNat_natCast, e1, e2, e3, e4, e5, e6, e7]
      have v7 : ∀ a, 72 ≤ a ∧ a ≤ 75 → drW W R k a (k + 1) = W a (k + 1) := fun a ha => by rw [drW_7 ha, if_neg (by omega)]
      have v6 : ∀ j, 3 * k ≤ j → drW W R k 76 j = W 76 j := fun j hj => by rw [drW_6, if_neg (by omega)]
      refine ⟨fun h9 => (by omega), fun _ => ⟨by omega, by omega, by omega, by omega, by omega, by omega, by omega, by omega, by omega, by omega, by omega, by omega, by omega, by omega, ?_⟩⟩
      rw [v7 72 (by decide), v7 73 (by decide), v7 74 (by decide), v7 75 (by decide), v6 (3 * k + 3) (by omega)]
      have n4 : ∀ (u : eW) (x : Int), wu u 76 (3 * k) x 76 (3 * k + 4) = u 76 (3 * k + 4) := fun u x => wu_nk _ _ (by omega)
      have n5 : ∀ (u : eW) (x : Int), wu u 76 (3 * k) x 76 (3 * k + 5) = u 76 (3 * k + 5) := fun u x => wu_nk _ _ (by omega)
      have n5b : ∀ (u : eW) (x : Int), wu u 76 (3 * k + 1) x 76 (3 * k + 5) = u 76 (3 * k + 5) := fun u x => wu_nk _ _ (by omega)
      have nr : ∀ (u : eW) (a j i : Nat) (x : Int), a ≠ 76 → wu u a j x 76 i = u 76 i := fun u a j i x ha => wu_na _ _ (fun h9 => ha h9.symm)
      rw [n5b, n5, n4]
      rw [nr _ 75 _ _ _ (by decide), nr _ 74 _ _ _ (by decide), nr _ 73 _ _ _ (by decide), nr _ 72 _ _ _ (by decide), nr _ 75 _ _ _ (by decide), nr _ 74 _ _ _ (by decide), nr _ 73 _ _ _ (by decide), nr _ 72 _ _ _ (by decide), v6 (3 * k + 4) (by omega), v6 (3 * k + 5) (by omega)]
      rw [drW_step hRk]
      exact hE _ trivial (by omega)
    · intro J _ hRk
      refine g_mdrops1 ?_
      rw [drW_o (a := 67) (by decide), hW6]
      simp (disch := omega) only [w32_id]
      refine ⟨fun _ => ⟨_, by trivial, rfl, ⟨fun a a1 a2 => ?_, fun k hk => ?_⟩, hm.1, dropM_wf hm.2.1 hRn, ?_, ?_, fun k hk => ?_⟩, fun h9 => (by omega)⟩
      · rw [drW_o (by simp at a2; omega)]; exact hWF.1 a a1 a2
      · rw [drW_o (by decide)]; exact hWF.2 k hk
      · refine ⟨?_, fun p hp => ?_⟩
        · rw [drW_o (by decide), hWF.2 0 (by decide)]; exact hm.2.2.1.1
        · rw [drW_o (by decide), drW_o (by decide), hWr 68 (by decide), hWr 69 (by decide)]; exact hm.2.2.1.2 p hp
      · rw [drW_o (by decide), hW6]; rfl
      · rw [hdn.1] at hk
        have hh := hm.2.2.2.2 (if R ≤ k then k + 1 else k) (by split <;> omega)
        have c7 : ∀ a, 72 ≤ a ∧ a ≤ 75 → drW W R (nR m - 1) a k = w a (if R ≤ k then k + 1 else k) := fun a ha => by
          rw [drW_7 ha, hWr a (by omega)]
          by_cases h9 : R ≤ k
          · rw [if_pos ⟨h9, hk⟩, if_pos h9]
          · rw [if_neg (by omega), if_neg h9]
        have c6 : ∀ j, j < 3 → drW W R (nR m - 1) 76 (3 * k + j) = w 76 (3 * (if R ≤ k then k + 1 else k) + j) := fun j hj => by
          rw [drW_6, hWr 76 (by decide)]
          by_cases h9 : R ≤ k
          · rw [if_pos (by omega), if_pos h9]; congr 1; omega
          · rw [if_neg (by omega), if_neg h9]
        rw [c7 72 (by decide), c7 73 (by decide), c7 74 (by decide), c7 75 (by decide), c6 1 (by decide), c6 2 (by decide), show drW W R (nR m - 1) 76 (3 * k) = w 76 (3 * (if R ≤ k then k + 1 else k)) from c6 0 (by decide)]
        rw [dropM_at (a := 72) (by decide), dropM_at (a := 73) (by decide), dropM_at (a := 74) (by decide), dropM_at (a := 75) (by decide), dropM_76 (j := 1) (by decide), dropM_76 (j := 2) (by decide), show dropM m R 76 (3 * k) = m 76 (3 * (if R ≤ k then k + 1 else k)) from dropM_76 (j := 0) (by decide)]
        exact hh
  · have h1 := of_decide_eq_false h1
    rw [if_neg (by omega), if_neg (by omega)]
    have q0 : Fm [72, 73, 74, 75, 76] [6, 26] w (wu w 67 26 0) := Fm.pf (by decide)
    exact ⟨_, by trivial, rfl, q0, hm.m (Fm.pf (R := []) (F := [26]) (by decide)) (by decide) (by decide)⟩

