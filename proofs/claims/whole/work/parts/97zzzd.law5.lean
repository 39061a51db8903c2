/-! The law: rounds that may throw. -/

theorem e_x4 {d M pc nx k : Nat} {l : List Nat} {Q : Option aV → aS → Prop} {la as : List aV} {w : eW} {t : eT} (hc : am_cd M pc = (41, nx, k, 8, l)) (h1 : ((rA 1 :: as).map fun v => v.1) = (am_m k).2.2.2.2.2) (h3 : ((rA 1 :: as).reverse.all fun v => decide (v.1 ≤ 2) && (!decide (v.1 = 2) || decide (0 ≤ v.2))) = true) (h : Cl d k (rA 1 :: as) (enc w t) (fun r S2 => ∃ v S3, am_b4 100 r S2 = some (v, S3) ∧ Ev (d + 8) M Q nx la [v] S3)) : Ev (d + 8) M Q pc la (rA 100 :: (rA 1 :: as).reverse) (enc w t) := by
  refine ev_x hc (as := rA 1 :: as) (o := 100) (rest := []) ?_ h
  have hlen : (am_m k).2.2.2.2.2.length = (rA 1 :: as).length := by rw [← h1, List.length_map]
  have e1 : ((rA 1 :: as).reverse.take (am_m k).2.2.2.2.2.length).reverse = rA 1 :: as := by rw [hlen, ← List.length_reverse, List.take_length, List.reverse_reverse]
  have e2 : (rA 1 :: as).reverse.drop (am_m k).2.2.2.2.2.length = [] := by rw [hlen, ← List.length_reverse, List.drop_length]
  have a1 := en_atE (w := w) (t := t) (a := 1) (kd := 11) (by decide +kernel)
  have a2 := en_atE (w := w) (t := t) (a := 100) (kd := 21) (by decide +kernel)
  show (if _ then _ else _) = _
  rw [e1, e2, if_pos ⟨h1, by decide, h3, a1.1, a2.1, by rw [show ((100 : Nat) : Int).toNat = 100 from rfl, a2.2.1]; decide +kernel⟩]
  rfl
theorem b4_n {x : Int} {S : aS} : am_b4 100 (some (6, x)) S = some ((0, 1), S) := rfl
theorem b4_0 {x : Int} {w : eW} {t : eT} : am_b4 100 (some (0, x)) (enc w t) = some ((0, 0), enc (wu w 100 0 (w32 x)) t) := by
  have a2 := en_atE (w := w) (t := t) (a := 100) (kd := 21) (by decide +kernel)
  show (if _ then _ else _) = _
  rw [if_pos ⟨a2.1, by rw [show (100 : Int).toNat = 100 from rfl, a2.2.1]; decide +kernel⟩, show (100 : Int).toNat = 100 from rfl, enc_up (by decide +kernel)]
theorem b4_1 {x : Int} {w : eW} {t : eT} : am_b4 100 (some (1, x)) (enc w t) = some ((0, 0), enc (wu w 100 0 x) t) := by
  have a2 := en_atE (w := w) (t := t) (a := 100) (kd := 21) (by decide +kernel)
  show (if _ then _ else _) = _
  rw [if_pos ⟨a2.1, by rw [show (100 : Int).toNat = 100 from rfl, a2.2.1]; decide +kernel⟩, show (100 : Int).toNat = 100 from rfl, enc_up (by decide +kernel)]

theorem lr_kept {d L : Nat} {xs : Nat → Int32} {w : eW} {t : eT} {j i : Nat} {m : eW} {ks : kT} {rl tx : List Int} {Q : Option aV → aS → Prop} {J5 J6 J7 : aV} (h : LI L xs w t j m ks rl tx) (hi : i + 4 ≤ L) (hL : L ≤ 2048) (hj : j ≤ 600) (hn : Nx d L xs j Q i) : Ev (d + 120) 272 Q 506 [rA 0, rA 1, rA 67, rA 100, (0, (i : Int)), J5, J6, J7] [] (enc w t) := by
  have wf := h.2.2.1.wf
  have hl : ((t.1 0).2 : Int) = (L : Int) := by rw [h.1.2]
  have s1 : w32 ((i : Int) + 1) = ((i + 1 : Nat) : Int) := by rw [w32_id (by omega)]; rfl
  have s2 : w32 ((i : Int) + 2) = ((i + 2 : Nat) : Int) := by rw [w32_id (by omega)]; rfl
  have ok1 := h.ok (i + 1)
  have ok2 := h.ok (i + 2)
  -- what comes behind the class's answer
  have tail : ∀ (w2 : eW) (t2 : eT) (v : Int), ((∀ k, w2 0 k = (xs k).toInt) ∧ t2.1 0 = (23, L)) → w2 0 = w 0 → MI w2 m ks rl tx → CI w2 t2 (1063745, j + 1) m ks rl tx → ((keptO ks (w 0 (i + 1)) (w 0 (i + 2)) = none ∧ v = 1) ∨ ∃ x, keptO ks (w 0 (i + 1)) (w 0 (i + 2)) = some x ∧ v = 0 ∧ w2 100 0 = w32 x) → Ev (d + 120) 272 Q 523 [rA 0, rA 1, rA 67, rA 100, (0, (i : Int)), J5, J6, J7] [(0, v)] (enc w2 t2) := fun w2 t2 v hs2 e0 hM hC hv => by
    have hl2 : ((t2.1 0).2 : Int) = (L : Int) := by rw [hs2.2]
    refine g_tB152 ?_
    rw [s1, s2, hl2, show (((i + 1 : Nat) : Int)).toNat = i + 1 from Int.toNat_natCast _, show (((i + 2 : Nat) : Int)).toNat = i + 2 from Int.toNat_natCast _, e0]
    refine ⟨⟨by omega, by omega⟩, ⟨by omega, by omega⟩, ?_⟩
    refine (Cl.up (n_kept (d := 0) hM ok1 ok2) (by omega)).mono ?_
    rintro _ _ ⟨w3, rfl, rfl, e1, e2, hM3, eth⟩
    refine ⟨fun _ h9 => (by cases h9), g_tC152 ?_⟩
    refine (Cl.up (c_mthrown (d := 0)) (by omega)).mono ?_
    rintro _ _ ⟨rfl, rfl⟩
    refine ⟨fun _ h9 => (by cases h9), g_tD152 ?_⟩
    rw [eth, e2 100 (by omega)]
    have hLI := LI.mdl hs2 hC e1 e2 hM3 h.2.2.2
    rcases hv with ⟨h1, rfl⟩ | ⟨x, h1, rfl, h3⟩
    · rw [h1]
      refine ⟨fun _ => ⟨fun _ => hn w3 t2 _ _ _ _ _ _ _ hLI, fun h9 => absurd (by decide) h9⟩, fun h9 => absurd rfl h9⟩
    · rw [h1, h3]
      refine ⟨fun _ => ⟨fun h9 => absurd (by decide) h9, fun _ => ⟨fun _ => hn w3 t2 _ _ _ _ _ _ _ hLI, fun h9 => absurd rfl h9⟩⟩, fun h9 => absurd rfl h9⟩
  refine g_tA152 ?_
  rw [s1, s2, hl, show (((i + 1 : Nat) : Int)).toNat = i + 1 from Int.toNat_natCast _, show (((i + 2 : Nat) : Int)).toNat = i + 2 from Int.toNat_natCast _]
  refine ⟨⟨by omega, by omega⟩, ⟨by omega, by omega⟩, ?_⟩
  show Ev (d + 112 + 8) 272 Q 520 _ (rA 100 :: (rA 1 :: [(0, w 0 (i + 1)), (0, w 0 (i + 2))]).reverse) (enc w t)
  refine e_x4 (show am_cd 272 520 = (41, 523, 152, 8, [106]) by decide +kernel) (by rw [show (am_m 152).2.2.2.2.2 = [2, 0, 0] by decide +kernel]; rfl) rfl ?_
  refine ((Cl.up (k_kept (d := 0) h.2.1 ok1 ok2) (by omega)).r0).mono ?_
  rintro r _ ⟨⟨w2, t2, rfl, h67, hC2, hv⟩, r0⟩
  obtain ⟨hs2, e0, hM⟩ := h.cls h67 r0
  cases hvo : keptO ks (w 0 (i + 1)) (w 0 (i + 2)) with
  | none =>
    rw [hvo] at hv
    obtain ⟨x, rfl⟩ := hv
    exact ⟨_, _, b4_n, tail w2 t2 1 hs2 e0 hM hC2 (Or.inl ⟨hvo, rfl⟩)⟩
  | some x =>
    rw [hvo] at hv
    have hv : r = some (0, x) := hv
    subst hv
    refine ⟨_, _, b4_0, tail _ t2 0 ⟨fun k => by rw [wu_na _ _ (by decide)]; exact hs2.1 k, hs2.2⟩ (by rw [wu_row (by decide)]; exact e0) (hM.fr (fun a _ h2 => wu_row (by omega))) (hC2.fr (fun a ha => wu_row (by omega)) (fun a ha => wu_row (by omega))) (Or.inr ⟨x, hvo, rfl, wu_eq _ _ _ _⟩)⟩

theorem lr_side {d L : Nat} {xs : Nat → Int32} {w : eW} {t : eT} {j i : Nat} {m : eW} {ks : kT} {rl tx : List Int} {Q : Option aV → aS → Prop} {J5 J6 J7 : aV} (h : LI L xs w t j m ks rl tx) (hi : i + 4 ≤ L) (hL : L ≤ 2048) (hj : j ≤ 600) (hn : Nx d L xs j Q i) : Ev (d + 120) 272 Q 574 [rA 0, rA 1, rA 67, rA 100, (0, (i : Int)), J5, J6, J7] [] (enc w t) := by
  have wf := h.2.2.1.wf
  have hl : ((t.1 0).2 : Int) = (L : Int) := by rw [h.1.2]
  have s1 : w32 ((i : Int) + 1) = ((i + 1 : Nat) : Int) := by rw [w32_id (by omega)]; rfl
  have s2 : w32 ((i : Int) + 2) = ((i + 2 : Nat) : Int) := by rw [w32_id (by omega)]; rfl
  have s3 : w32 ((i : Int) + 3) = ((i + 3 : Nat) : Int) := by rw [w32_id (by omega)]; rfl
  have ok1 := h.ok (i + 1)
  have ok2 := h.ok (i + 2)
  have ok3 := h.ok (i + 3)
  -- what comes behind the class's answer
  have tail : ∀ (w2 : eW) (t2 : eT) (v : Int), ((∀ k, w2 0 k = (xs k).toInt) ∧ t2.1 0 = (23, L)) → w2 0 = w 0 → MI w2 m ks rl tx → CI w2 t2 (1063745, j + 1) m ks rl tx → ((sideO m ks (w 0 (i + 1)) (w 0 (i + 2)) (w 0 (i + 3)) = none ∧ v = 1) ∨ ∃ x, sideO m ks (w 0 (i + 1)) (w 0 (i + 2)) (w 0 (i + 3)) = some x ∧ v = 0 ∧ w2 100 0 = w32 x) → Ev (d + 120) 272 Q 597 [rA 0, rA 1, rA 67, rA 100, (0, (i : Int)), J5, J6, J7] [(0, v)] (enc w2 t2) := fun w2 t2 v hs2 e0 hM hC hv => by
    have hl2 : ((t2.1 0).2 : Int) = (L : Int) := by rw [hs2.2]
    refine g_tB153 ?_
    rw [s1, s2, s3, hl2, show (((i + 1 : Nat) : Int)).toNat = i + 1 from Int.toNat_natCast _, show (((i + 2 : Nat) : Int)).toNat = i + 2 from Int.toNat_natCast _, show (((i + 3 : Nat) : Int)).toNat = i + 3 from Int.toNat_natCast _, e0]
    refine ⟨⟨by omega, by omega⟩, ⟨by omega, by omega⟩, ⟨by omega, by omega⟩, ?_⟩
    refine (Cl.up (n_side (d := 0) hM h.2.2.2 ok1 ok2 ok3) (by omega)).mono ?_
    rintro _ _ ⟨w3, rfl, rfl, e1, e2, hM3, eth⟩
    refine ⟨fun _ h9 => (by cases h9), g_tC153 ?_⟩
    refine (Cl.up (c_mthrown (d := 0)) (by omega)).mono ?_
    rintro _ _ ⟨rfl, rfl⟩
    refine ⟨fun _ h9 => (by cases h9), g_tD153 ?_⟩
    rw [eth, e2 100 (by omega)]
    have hLI := LI.mdl hs2 hC e1 e2 hM3 h.2.2.2
    rcases hv with ⟨h1, rfl⟩ | ⟨x, h1, rfl, h3⟩
    · rw [h1]
      refine ⟨fun _ => ⟨fun _ => hn w3 t2 _ _ _ _ _ _ _ hLI, fun h9 => absurd (by decide) h9⟩, fun h9 => absurd rfl h9⟩
    · rw [h1, h3]
      refine ⟨fun _ => ⟨fun h9 => absurd (by decide) h9, fun _ => ⟨fun _ => hn w3 t2 _ _ _ _ _ _ _ hLI, fun h9 => absurd rfl h9⟩⟩, fun h9 => absurd rfl h9⟩
  refine g_tA153 ?_
  rw [s1, s2, s3, hl, show (((i + 1 : Nat) : Int)).toNat = i + 1 from Int.toNat_natCast _, show (((i + 2 : Nat) : Int)).toNat = i + 2 from Int.toNat_natCast _, show (((i + 3 : Nat) : Int)).toNat = i + 3 from Int.toNat_natCast _]
  refine ⟨⟨by omega, by omega⟩, ⟨by omega, by omega⟩, ⟨by omega, by omega⟩, ?_⟩
  show Ev (d + 112 + 8) 272 Q 594 _ (rA 100 :: (rA 1 :: [(0, w 0 (i + 1)), (0, w 0 (i + 2)), (0, w 0 (i + 3))]).reverse) (enc w t)
  refine e_x4 (show am_cd 272 594 = (41, 597, 153, 8, [115]) by decide +kernel) (by rw [show (am_m 153).2.2.2.2.2 = [2, 0, 0, 0] by decide +kernel]; rfl) rfl ?_
  refine ((Cl.up (k_side (d := 0) h.2.1 wf.1 h.2.2.2 ok1 ok2 ok3) (by omega)).r0).mono ?_
  rintro r _ ⟨⟨w2, t2, rfl, h67, hC2, hv⟩, r0⟩
  obtain ⟨hs2, e0, hM⟩ := h.cls h67 r0
  cases hvo : sideO m ks (w 0 (i + 1)) (w 0 (i + 2)) (w 0 (i + 3)) with
  | none =>
    rw [hvo] at hv
    obtain ⟨x, rfl⟩ := hv
    exact ⟨_, _, b4_n, tail w2 t2 1 hs2 e0 hM hC2 (Or.inl ⟨hvo, rfl⟩)⟩
  | some x =>
    rw [hvo] at hv
    have hv : r = some (0, x) := hv
    subst hv
    refine ⟨_, _, b4_0, tail _ t2 0 ⟨fun k => by rw [wu_na _ _ (by decide)]; exact hs2.1 k, hs2.2⟩ (by rw [wu_row (by decide)]; exact e0) (hM.fr (fun a _ h2 => wu_row (by omega))) (hC2.fr (fun a ha => wu_row (by omega)) (fun a ha => wu_row (by omega))) (Or.inr ⟨x, hvo, rfl, wu_eq _ _ _ _⟩)⟩

theorem lr_word {d L : Nat} {xs : Nat → Int32} {w : eW} {t : eT} {j i : Nat} {m : eW} {ks : kT} {rl tx : List Int} {Q : Option aV → aS → Prop} {J5 J6 J7 : aV} (h : LI L xs w t j m ks rl tx) (hi : i + 4 ≤ L) (hL : L ≤ 2048) (hj : j ≤ 600) (hn : Nx d L xs j Q i) : Ev (d + 120) 272 Q 654 [rA 0, rA 1, rA 67, rA 100, (0, (i : Int)), J5, J6, J7] [] (enc w t) := by
  have wf := h.2.2.1.wf
  have hl : ((t.1 0).2 : Int) = (L : Int) := by rw [h.1.2]
  have s1 : w32 ((i : Int) + 1) = ((i + 1 : Nat) : Int) := by rw [w32_id (by omega)]; rfl
  have s2 : w32 ((i : Int) + 2) = ((i + 2 : Nat) : Int) := by rw [w32_id (by omega)]; rfl
  have ok1 := h.ok (i + 1)
  have ok2 := h.ok (i + 2)
  -- what comes behind the class's answer
  have tail : ∀ (w2 : eW) (t2 : eT) (v : Int), ((∀ k, w2 0 k = (xs k).toInt) ∧ t2.1 0 = (23, L)) → w2 0 = w 0 → MI w2 m ks rl tx → CI w2 t2 (1063745, j + 1) m ks rl tx → ((wordO ks (w 0 (i + 1)) (w 0 (i + 2)) = none ∧ v = 1) ∨ ∃ x, wordO ks (w 0 (i + 1)) (w 0 (i + 2)) = some x ∧ v = 0 ∧ w2 100 0 = w32 x) → Ev (d + 120) 272 Q 671 [rA 0, rA 1, rA 67, rA 100, (0, (i : Int)), J5, J6, J7] [(0, v)] (enc w2 t2) := fun w2 t2 v hs2 e0 hM hC hv => by
    have hl2 : ((t2.1 0).2 : Int) = (L : Int) := by rw [hs2.2]
    refine g_tB154 ?_
    rw [s1, s2, hl2, show (((i + 1 : Nat) : Int)).toNat = i + 1 from Int.toNat_natCast _, show (((i + 2 : Nat) : Int)).toNat = i + 2 from Int.toNat_natCast _, e0]
    refine ⟨⟨by omega, by omega⟩, ⟨by omega, by omega⟩, ?_⟩
    refine (Cl.up (n_word (d := 0) hM ok1 ok2) (by omega)).mono ?_
    rintro _ _ ⟨w3, rfl, rfl, e1, e2, hM3, eth⟩
    refine ⟨fun _ h9 => (by cases h9), g_tC154 ?_⟩
    refine (Cl.up (c_mthrown (d := 0)) (by omega)).mono ?_
    rintro _ _ ⟨rfl, rfl⟩
    refine ⟨fun _ h9 => (by cases h9), g_tD154 ?_⟩
    rw [eth, e2 100 (by omega)]
    have hLI := LI.mdl hs2 hC e1 e2 hM3 h.2.2.2
    rcases hv with ⟨h1, rfl⟩ | ⟨x, h1, rfl, h3⟩
    · rw [h1]
      refine ⟨fun _ => ⟨fun _ => hn w3 t2 _ _ _ _ _ _ _ hLI, fun h9 => absurd (by decide) h9⟩, fun h9 => absurd rfl h9⟩
    · rw [h1, h3]
      refine ⟨fun _ => ⟨fun h9 => absurd (by decide) h9, fun _ => ⟨fun _ => hn w3 t2 _ _ _ _ _ _ _ hLI, fun h9 => absurd rfl h9⟩⟩, fun h9 => absurd rfl h9⟩
  refine g_tA154 ?_
  rw [s1, s2, hl, show (((i + 1 : Nat) : Int)).toNat = i + 1 from Int.toNat_natCast _, show (((i + 2 : Nat) : Int)).toNat = i + 2 from Int.toNat_natCast _]
  refine ⟨⟨by omega, by omega⟩, ⟨by omega, by omega⟩, ?_⟩
  show Ev (d + 112 + 8) 272 Q 668 _ (rA 100 :: (rA 1 :: [(0, w 0 (i + 1)), (0, w 0 (i + 2))]).reverse) (enc w t)
  refine e_x4 (show am_cd 272 668 = (41, 671, 154, 8, [119]) by decide +kernel) (by rw [show (am_m 154).2.2.2.2.2 = [2, 0, 0] by decide +kernel]; rfl) rfl ?_
  refine ((Cl.up (k_word (d := 0) h.2.1 ok1 ok2) (by omega)).r0).mono ?_
  rintro r _ ⟨⟨w2, t2, rfl, h67, hC2, hv⟩, r0⟩
  obtain ⟨hs2, e0, hM⟩ := h.cls h67 r0
  cases hvo : wordO ks (w 0 (i + 1)) (w 0 (i + 2)) with
  | none =>
    rw [hvo] at hv
    obtain ⟨x, rfl⟩ := hv
    exact ⟨_, _, b4_n, tail w2 t2 1 hs2 e0 hM hC2 (Or.inl ⟨hvo, rfl⟩)⟩
  | some x =>
    rw [hvo] at hv
    have hv : r = some (0, x) := hv
    subst hv
    refine ⟨_, _, b4_0, tail _ t2 0 ⟨fun k => by rw [wu_na _ _ (by decide)]; exact hs2.1 k, hs2.2⟩ (by rw [wu_row (by decide)]; exact e0) (hM.fr (fun a _ h2 => wu_row (by omega))) (hC2.fr (fun a ha => wu_row (by omega)) (fun a ha => wu_row (by omega))) (Or.inr ⟨x, hvo, rfl, wu_eq _ _ _ _⟩)⟩

theorem lr_row {d L : Nat} {xs : Nat → Int32} {w : eW} {t : eT} {j i : Nat} {m : eW} {ks : kT} {rl tx : List Int} {Q : Option aV → aS → Prop} {J5 J6 J7 : aV} (h : LI L xs w t j m ks rl tx) (hi : i + 4 ≤ L) (hL : L ≤ 2048) (hj : j ≤ 600) (hn : Nx d L xs j Q i) : Ev (d + 120) 272 Q 874 [rA 0, rA 1, rA 67, rA 100, (0, (i : Int)), J5, J6, J7] [] (enc w t) := by
  have wf := h.2.2.1.wf
  have hl : ((t.1 0).2 : Int) = (L : Int) := by rw [h.1.2]
  have s1 : w32 ((i : Int) + 1) = ((i + 1 : Nat) : Int) := by rw [w32_id (by omega)]; rfl
  have ok1 := h.ok (i + 1)
  -- what comes behind the class's answer
  have tail : ∀ (w2 : eW) (t2 : eT) (v : Int), ((∀ k, w2 0 k = (xs k).toInt) ∧ t2.1 0 = (23, L)) → w2 0 = w 0 → MI w2 m ks rl tx → CI w2 t2 (1063745, j + 1) m ks rl tx → ((rowO rl (w 0 (i + 1)) = none ∧ v = 1) ∨ ∃ x, rowO rl (w 0 (i + 1)) = some x ∧ v = 0 ∧ w2 100 0 = x) → Ev (d + 120) 272 Q 885 [rA 0, rA 1, rA 67, rA 100, (0, (i : Int)), J5, J6, J7] [(0, v)] (enc w2 t2) := fun w2 t2 v hs2 e0 hM hC hv => by
    have hl2 : ((t2.1 0).2 : Int) = (L : Int) := by rw [hs2.2]
    refine g_tB160 ?_
    rw [s1, hl2, show (((i + 1 : Nat) : Int)).toNat = i + 1 from Int.toNat_natCast _, e0]
    refine ⟨⟨by omega, by omega⟩, ?_⟩
    refine (Cl.up (n_row (d := 0) hM ok1) (by omega)).mono ?_
    rintro _ _ ⟨w3, rfl, rfl, e1, e2, hM3, eth⟩
    refine ⟨fun _ h9 => (by cases h9), g_tC160 ?_⟩
    refine (Cl.up (c_mthrown (d := 0)) (by omega)).mono ?_
    rintro _ _ ⟨rfl, rfl⟩
    refine ⟨fun _ h9 => (by cases h9), g_tD160 ?_⟩
    rw [eth, e2 100 (by omega)]
    have hLI := LI.mdl hs2 hC e1 e2 hM3 h.2.2.2
    rcases hv with ⟨h1, rfl⟩ | ⟨x, h1, rfl, h3⟩
    · rw [h1]
      refine ⟨fun _ => ⟨fun _ => hn w3 t2 _ _ _ _ _ _ _ hLI, fun h9 => absurd (by decide) h9⟩, fun h9 => absurd rfl h9⟩
    · rw [h1, h3]
      refine ⟨fun _ => ⟨fun h9 => absurd (by decide) h9, fun _ => ⟨fun _ => hn w3 t2 _ _ _ _ _ _ _ hLI, fun h9 => absurd rfl h9⟩⟩, fun h9 => absurd rfl h9⟩
  refine g_tA160 ?_
  rw [s1, hl, show (((i + 1 : Nat) : Int)).toNat = i + 1 from Int.toNat_natCast _]
  refine ⟨⟨by omega, by omega⟩, ?_⟩
  show Ev (d + 112 + 8) 272 Q 882 _ (rA 100 :: (rA 1 :: [(0, w 0 (i + 1))]).reverse) (enc w t)
  refine e_x4 (show am_cd 272 882 = (41, 885, 160, 8, [143]) by decide +kernel) (by rw [show (am_m 160).2.2.2.2.2 = [2, 0] by decide +kernel]; rfl) rfl ?_
  refine ((Cl.up (k_row (d := 0) h.2.1 ok1) (by omega)).r0).mono ?_
  rintro r _ ⟨⟨w2, t2, rfl, h67, hC2, hv⟩, r0⟩
  obtain ⟨hs2, e0, hM⟩ := h.cls h67 r0
  cases hvo : rowO rl (w 0 (i + 1)) with
  | none =>
    rw [hvo] at hv
    obtain ⟨x, rfl⟩ := hv
    exact ⟨_, _, b4_n, tail w2 t2 1 hs2 e0 hM hC2 (Or.inl ⟨hvo, rfl⟩)⟩
  | some x =>
    rw [hvo] at hv
    have hv : r = some (1, x) := hv
    subst hv
    refine ⟨_, _, b4_1, tail _ t2 0 ⟨fun k => by rw [wu_na _ _ (by decide)]; exact hs2.1 k, hs2.2⟩ (by rw [wu_row (by decide)]; exact e0) (hM.fr (fun a _ h2 => wu_row (by omega))) (hC2.fr (fun a ha => wu_row (by omega)) (fun a ha => wu_row (by omega))) (Or.inr ⟨x, hvo, rfl, wu_eq _ _ _ _⟩)⟩
