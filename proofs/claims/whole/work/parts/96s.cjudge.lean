/-! The class: faults told. -/
abbrev t3 : Type := Nat × Nat × Nat
def trG (m : eW) (g : t3) : Nat := tr m g.1 g.2.1 g.2.2
def gL (g : t3) : Nat := g.2.2
def gN (g : t3) (p : Nat) : t3 := (g.2.1, g.2.2, p)
def brG (m : eW) (g : t3) (p : Nat) : Nat := bts (fun r => brk m r g.1 g.2.1 g.2.2 p) (nR m)
def mfG (m : eW) (g : t3) : Nat := mfB m g.1 g.2.1 g.2.2
theorem c_rfollowU {d : Nat} {w m : eW} {t : eT} {x p : Int} (g : t3) (h : LN w m ∧ WFp m ∧ WFr m ∧ x = ((trG m g : Nat) : Int) ∧ gL g ≤ 16 ∧ (0 : Int) ≤ p ∧ (p : Int) ≤ 16) : Cl d 74 [rA 15, (0, x), (0, p)] (enc w t) (fun r S2 => ∃ y, r = some (0, y) ∧ S2 = enc w t ∧ y = ((trG m (gN g p.toNat) : Nat) : Int)) := by
  obtain ⟨h1, h2, h3, h4, h5, h6, h7⟩ := h
  have := c_rfollow (d := d) (t := t) (a := g.1) (b := g.2.1) (c := g.2.2) (e := p.toNat) ⟨h1, h2, h3, h5, by omega⟩
  unfold trG at h4
  rw [← h4, show ((p.toNat : Nat) : Int) = p by omega] at this
  exact this.mono (fun r S2 hq => ⟨_, hq.1, hq.2, rfl⟩)
theorem c_rbrokenU {d : Nat} {w m : eW} {t : eT} {x p : Int} (g : t3) (h : LN w m ∧ WFp m ∧ WFr m ∧ x = ((trG m g : Nat) : Int) ∧ gL g ≤ 16 ∧ (0 : Int) ≤ p ∧ (p : Int) ≤ 16) : Cl d 75 [rA 15, (0, x), (0, p)] (enc w t) (fun r S2 => ∃ y, r = some (0, y) ∧ S2 = enc w t ∧ y = ((brG m g p.toNat : Nat) : Int)) := by
  obtain ⟨h1, h2, h3, h4, h5, h6, h7⟩ := h
  have := c_rbroken (d := d) (t := t) (a := g.1) (b := g.2.1) (c := g.2.2) (e := p.toNat) ⟨h1, h2, h3, h5, by omega⟩
  unfold trG at h4
  rw [← h4, show ((p.toNat : Nat) : Int) = p by omega] at this
  exact this.mono (fun r S2 hq => ⟨_, hq.1, hq.2, rfl⟩)
theorem c_rmayU {d : Nat} {w m : eW} {t : eT} {x : Int} (g : t3) (h : LN w m ∧ RC w m ∧ WFp m ∧ WFr m ∧ x = ((trG m g : Nat) : Int) ∧ gL g ≤ 16) : Cl d 76 [rA 15, (0, x)] (enc w t) (fun r S2 => ∃ y, r = some (0, y) ∧ S2 = enc w t ∧ y = ((mfG m g : Nat) : Int)) := by
  obtain ⟨h1, h2, h3, h4, h5, h6⟩ := h
  have := c_rmay (d := d) (t := t) (a := g.1) (b := g.2.1) (c := g.2.2) ⟨h1, h2, h3, h4, h6⟩
  unfold trG at h5
  rw [← h5] at this
  exact this.mono (fun r S2 hq => ⟨_, hq.1, hq.2, rfl⟩)
theorem TlC.ap {w w2 : eW} {rl : List Int} {v : Int} (h : TlC w rl) (hl : rl.length < 24) (e : w2 = wu (wu w 66 rl.length v) 1 14 ((rl.length : Int) + 1)) : TlC w2 (rl ++ [v]) := by
  subst e
  refine ⟨by rw [List.length_append]; rfl, by rw [List.length_append]; show rl.length + 1 ≤ 24; omega, fun i hi => ?_⟩
  rw [List.length_append] at hi
  have hi : i < rl.length + 1 := hi
  rw [wu_na _ _ (by decide)]
  by_cases h9 : i = rl.length
  · rw [h9, wu_eq, gD_last]
  · rw [wu_nk _ _ h9, gD_app (by omega)]
    exact h.2.2 i (by omega)
def tlW (w : eW) (v : Int) : eW := wu (wu w 66 (w 1 14).toNat v) 1 14 (w 1 14 + 1)

theorem g_ctell {d : Nat} {Q : Option aV → aS → Prop} {w : eW} {t : eT} {v : Int} (h : ((w32 24 ≤ w32 (w 1 14) → Q none (enc w t)) ∧ (¬ (w32 24 ≤ w32 (w 1 14)) → (0 ≤ w32 (w 1 14) ∧ w32 (w 1 14) < 24) ∧ (Q none (enc (wu (wu w 66 (w32 (w 1 14)).toNat v) 1 14 ((w 1 14) + 1)) t))))) : Cl (d) 137 [rA 1, (1, v)] (enc w t) Q := by
  show Ev (d) 137 Q 0 [rA 1, (1, v), (9, 0)] [] (enc w t)
  refine e_lda (v := 1) (show am_cd 137 0 = (2, 1, 0, 2, []) by decide +kernel) rfl ?_
  refine e_getf (a := 1) (tg := 0) (show am_cd 137 1 = (18, 4, 1114, 0, [242]) by decide +kernel) (by decide +kernel) (by decide +kernel) rfl ?_
  refine e_lda (v := 1) (show am_cd 137 4 = (2, 5, 0, 2, []) by decide +kernel) rfl ?_
  refine e_getr (a := 1) (r := 66) (show am_cd 137 5 = (18, 8, 1113, 2, [101]) by decide +kernel) (by decide +kernel) (by decide +kernel) rfl ?_
  refine e_alen (a := 66) (n := 24) (show am_cd 137 8 = (27, 9, 0, 0, []) by decide +kernel) (by decide +kernel) (by decide +kernel) ?_
  refine e_cmp3 (show am_cd 137 9 = (11, 12, 32, 3, []) by decide +kernel) (fun hc => ?_) (fun hc => ?_)
  · replace h := h.1 hc
    exact e_retv (show am_cd 137 32 = (36, 33, 3, 0, []) by decide +kernel) (by decide +kernel) h
  · replace h := h.2 hc
    refine e_lda (v := 1) (show am_cd 137 12 = (2, 13, 0, 2, []) by decide +kernel) rfl ?_
    refine e_getr (a := 1) (r := 66) (show am_cd 137 13 = (18, 16, 1113, 2, [101]) by decide +kernel) (by decide +kernel) (by decide +kernel) rfl ?_
    refine e_lda (v := 1) (show am_cd 137 16 = (2, 17, 0, 2, []) by decide +kernel) rfl ?_
    refine e_getf (a := 1) (tg := 0) (show am_cd 137 17 = (18, 20, 1114, 0, [242]) by decide +kernel) (by decide +kernel) (by decide +kernel) rfl ?_
    refine e_ldl (show am_cd 137 20 = (2, 21, 1, 1, []) by decide +kernel) rfl ?_
    refine e_last (a := 66) (n := 24) (show am_cd 137 21 = (25, 22, 0, 0, []) by decide +kernel) (by decide +kernel) (by decide +kernel) (by decide +kernel) h.1 ?_
    replace h := h.2
    refine e_lda (v := 1) (show am_cd 137 22 = (2, 23, 0, 2, []) by decide +kernel) rfl ?_
    refine e_dup (show am_cd 137 23 = (13, 24, 0, 0, []) by decide +kernel) (by decide) ?_
    refine e_getfE (a := 1) (tg := 0) (v := w 1 14) (show am_cd 137 24 = (18, 27, 1114, 0, [242]) by decide +kernel) (by decide +kernel) (by decide +kernel) rfl rfl ?_
    refine e_ic (show am_cd 137 27 = (0, 28, 0, 1, []) by decide +kernel) ?_
    refine e_iadd (show am_cd 137 28 = (5, 29, 0, 0, []) by decide +kernel) ?_
    refine e_putf (a := 1) (show am_cd 137 29 = (19, 32, 1114, 0, [242]) by decide +kernel) (by decide +kernel) (by decide +kernel) rfl (fun h9 => absurd h9 (by decide)) (fun h9 => absurd h9 (by decide +kernel)) ?_
    exact e_retv (show am_cd 137 32 = (36, 33, 3, 0, []) by decide +kernel) (by decide +kernel) h

theorem c_ctell {d : Nat} {w : eW} {t : eT} {v : Int} (h : 0 ≤ w 1 14 ∧ w 1 14 < 24) : Cl d 137 [rA 1, (1, v)] (enc w t) (fun r S2 => r = none ∧ S2 = enc (tlW w v) t) := by
  refine g_ctell ?_
  simp (disch := omega) only [w32_id]
  exact ⟨fun h9 => by omega, fun _ => ⟨by omega, by trivial, by trivial⟩⟩
theorem TlC.tell {w : eW} {rl : List Int} (v : Int) (h : TlC w rl) (hl : rl.length < 24) : TlC (tlW w v) (rl ++ [v]) ∧ Fc [66] [(1, 14)] w (tlW w v) := by
  refine ⟨h.ap hl ?_, (Fc.pr (by decide)).tr (Fc.pf (by decide))⟩
  unfold tlW
  rw [h.1, Int.toNat_natCast]

theorem g_tf {d : Nat} {Q : Option aV → aS → Prop} {w : eW} {t : eT} {n : Int} {m : eW} (h : (LN w m ∧ WFp m ∧ WFr m) ∧ (Ev (d + 2) 136 Q 10 [rA 1, (0, n), (0, ((tr m 16 16 16 : Nat) : Int)), (0, 0), (9, 0), (9, 0), (9, 0), (9, 0)] [] (enc w t))) : Cl (d + 2) 136 [rA 1, (0, n)] (enc w t) Q := by
  show Ev (d + 2) 136 Q 0 [rA 1, (0, n), (9, 0), (9, 0), (9, 0), (9, 0), (9, 0), (9, 0)] [] (enc w t)
  refine e_lda (v := 1) (show am_cd 136 0 = (2, 1, 0, 2, []) by decide +kernel) rfl ?_
  refine e_getr (a := 1) (r := 15) (show am_cd 136 1 = (18, 4, 1102, 2, [26]) by decide +kernel) (by decide +kernel) (by decide +kernel) rfl ?_
  refine e_cV (z := 0) (a := 15) (as := []) (rest := []) (show am_cd 136 4 = (40, 7, 73, 0, [233]) by decide +kernel) (by decide +kernel) rfl rfl (Nat.le_of_ble_eq_true rfl) rfl ?_
  refine Cl.mono (Cl.up (c_rstart (d := d) h.1) (by omega)) ?_
  rintro _ _ ⟨rfl, rfl⟩
  refine ⟨fun _ h9 => (by cases h9), ?_⟩
  replace h := h.2
  show Ev _ 136 _ 7 [rA 1, (0, n), (9, 0), (9, 0), (9, 0), (9, 0), (9, 0), (9, 0)] [(0, ((tr m 16 16 16 : Nat) : Int))] _
  refine e_sti (la2 := [rA 1, (0, n), (0, ((tr m 16 16 16 : Nat) : Int)), (9, 0), (9, 0), (9, 0), (9, 0), (9, 0)]) (show am_cd 136 7 = (3, 8, 2, 0, []) by decide +kernel) rfl ?_
  refine e_ic (show am_cd 136 8 = (0, 9, 0, 0, []) by decide +kernel) ?_
  refine e_sti (la2 := [rA 1, (0, n), (0, ((tr m 16 16 16 : Nat) : Int)), (0, 0), (9, 0), (9, 0), (9, 0), (9, 0)]) (show am_cd 136 9 = (3, 10, 3, 0, []) by decide +kernel) rfl ?_
  exact h

theorem g_tf1 {d : Nat} {Q : Option aV → aS → Prop} {w : eW} {t : eT} {n x i : Int} {m : eW} (h : ((w32 n ≤ w32 i → Ev (d + 2) 136 Q 80 [rA 1, (0, n), (0, x), (0, 0), (0, 0), (9, 0), (9, 0), (9, 0)] [] (enc (wu w 1 14 0) t)) ∧ (¬ (w32 n ≤ w32 i) → (0 ≤ w32 i ∧ w32 i < 16) ∧ (∃ g1, (LN w m ∧ WFp m ∧ WFr m ∧ x = ((trG m g1 : Nat) : Int) ∧ gL g1 ≤ 16 ∧ (0 : Int) ≤ w 64 (w32 i).toNat ∧ (w 64 (w32 i).toNat : Int) ≤ 16) ∧ (∀ x2, (x2 = ((trG m (gN g1 (w 64 (w32 i).toNat).toNat) : Nat) : Int)) → ((w32 n ≤ w32 (i + 1) → ∃ g3, (LN w m ∧ WFp m ∧ WFr m ∧ x2 = ((trG m g3 : Nat) : Int) ∧ gL g3 ≤ 16 ∧ (0 : Int) ≤ 16 ∧ (16 : Int) ≤ 16) ∧ (∀ x4, (x4 = ((brG m g3 16 : Nat) : Int)) → (0 ≤ w32 i ∧ w32 i < 16) ∧ (Ev (d + 2) 136 Q 10 [rA 1, (0, n), (0, x2), (0, i + 1), (9, 0), (9, 0), (9, 0), (9, 0)] [] (enc (wu w 65 (w32 i).toNat x4) t)))) ∧ (¬ (w32 n ≤ w32 (i + 1)) → (0 ≤ w32 (i + 1) ∧ w32 (i + 1) < 16) ∧ (∃ g5, (LN w m ∧ WFp m ∧ WFr m ∧ x2 = ((trG m g5 : Nat) : Int) ∧ gL g5 ≤ 16 ∧ (0 : Int) ≤ w 64 (w32 (i + 1)).toNat ∧ (w 64 (w32 (i + 1)).toNat : Int) ≤ 16) ∧ (∀ x6, (x6 = ((brG m g5 (w 64 (w32 (i + 1)).toNat).toNat : Nat) : Int)) → (0 ≤ w32 i ∧ w32 i < 16) ∧ (Ev (d + 2) 136 Q 10 [rA 1, (0, n), (0, x2), (0, i + 1), (9, 0), (9, 0), (9, 0), (9, 0)] [] (enc (wu w 65 (w32 i).toNat x6) t))))))))))) : Ev (d + 2) 136 Q 10 [rA 1, (0, n), (0, x), (0, i), (9, 0), (9, 0), (9, 0), (9, 0)] [] (enc w t) := by
  refine e_ldi (show am_cd 136 10 = (2, 11, 3, 0, []) by decide +kernel) rfl ?_
  refine e_ldi (show am_cd 136 11 = (2, 12, 1, 0, []) by decide +kernel) rfl ?_
  refine e_cmp3 (show am_cd 136 12 = (11, 15, 70, 3, []) by decide +kernel) (fun hc => ?_) (fun hc => ?_)
  · replace h := h.1 hc
    refine e_lda (v := 1) (show am_cd 136 70 = (2, 71, 0, 2, []) by decide +kernel) rfl ?_
    refine e_ic (show am_cd 136 71 = (0, 72, 0, 0, []) by decide +kernel) ?_
    refine e_putf (a := 1) (show am_cd 136 72 = (19, 75, 1114, 0, [242]) by decide +kernel) (by decide +kernel) (by decide +kernel) rfl (fun h9 => absurd h9 (by decide)) (fun h9 => absurd h9 (by decide +kernel)) ?_
    refine e_ic (show am_cd 136 75 = (0, 76, 0, 0, []) by decide +kernel) ?_
    refine e_sti (la2 := [rA 1, (0, n), (0, x), (0, 0), (9, 0), (9, 0), (9, 0), (9, 0)]) (show am_cd 136 76 = (3, 77, 3, 0, []) by decide +kernel) rfl ?_
    refine e_ic (show am_cd 136 77 = (0, 78, 0, 0, []) by decide +kernel) ?_
    refine e_sti (la2 := [rA 1, (0, n), (0, x), (0, 0), (0, 0), (9, 0), (9, 0), (9, 0)]) (show am_cd 136 78 = (3, 80, 4, 0, []) by decide +kernel) rfl ?_
    exact h
  · replace h := h.2 hc
    refine e_lda (v := 1) (show am_cd 136 15 = (2, 16, 0, 2, []) by decide +kernel) rfl ?_
    refine e_getr (a := 1) (r := 15) (show am_cd 136 16 = (18, 19, 1102, 2, [26]) by decide +kernel) (by decide +kernel) (by decide +kernel) rfl ?_
    refine e_ldi (show am_cd 136 19 = (2, 20, 2, 0, []) by decide +kernel) rfl ?_
    refine e_lda (v := 1) (show am_cd 136 20 = (2, 21, 0, 2, []) by decide +kernel) rfl ?_
    refine e_getr (a := 1) (r := 64) (show am_cd 136 21 = (18, 24, 1111, 2, [94]) by decide +kernel) (by decide +kernel) (by decide +kernel) rfl ?_
    refine e_ldi (show am_cd 136 24 = (2, 25, 3, 0, []) by decide +kernel) rfl ?_
    refine e_iald (a := 64) (n := 16) (show am_cd 136 25 = (21, 26, 0, 0, []) by decide +kernel) (by decide +kernel) (by decide +kernel) (by decide +kernel) h.1 ?_
    replace h := h.2
    refine e_cV (z := 0) (a := 15) (as := [(0, x), (0, w 64 (w32 i).toNat)]) (rest := []) (show am_cd 136 26 = (40, 29, 74, 0, [236]) by decide +kernel) (by decide +kernel) rfl rfl (Nat.le_of_ble_eq_true rfl) rfl ?_
    obtain ⟨g1, h⟩ := h
    refine Cl.mono (Cl.up (c_rfollowU (d := d) g1 h.1) (by omega)) ?_
    rintro _ _ ⟨x2, rfl, rfl, hp⟩
    refine ⟨fun _ h9 => (by cases h9), ?_⟩
    replace h := h.2 x2 hp
    show Ev _ 136 _ 29 [rA 1, (0, n), (0, x), (0, i), (9, 0), (9, 0), (9, 0), (9, 0)] [(0, x2)] _
    refine e_sti (la2 := [rA 1, (0, n), (0, x2), (0, i), (9, 0), (9, 0), (9, 0), (9, 0)]) (show am_cd 136 29 = (3, 30, 2, 0, []) by decide +kernel) rfl ?_
    refine e_lda (v := 1) (show am_cd 136 30 = (2, 31, 0, 2, []) by decide +kernel) rfl ?_
    refine e_getr (a := 1) (r := 65) (show am_cd 136 31 = (18, 34, 1112, 2, [98]) by decide +kernel) (by decide +kernel) (by decide +kernel) rfl ?_
    refine e_ldi (show am_cd 136 34 = (2, 35, 3, 0, []) by decide +kernel) rfl ?_
    refine e_lda (v := 1) (show am_cd 136 35 = (2, 36, 0, 2, []) by decide +kernel) rfl ?_
    refine e_getr (a := 1) (r := 15) (show am_cd 136 36 = (18, 39, 1102, 2, [26]) by decide +kernel) (by decide +kernel) (by decide +kernel) rfl ?_
    refine e_ldi (show am_cd 136 39 = (2, 40, 2, 0, []) by decide +kernel) rfl ?_
    refine e_ldi (show am_cd 136 40 = (2, 41, 3, 0, []) by decide +kernel) rfl ?_
    refine e_ic (show am_cd 136 41 = (0, 42, 0, 1, []) by decide +kernel) ?_
    refine e_iadd (show am_cd 136 42 = (5, 43, 0, 0, []) by decide +kernel) ?_
    refine e_ldi (show am_cd 136 43 = (2, 44, 1, 0, []) by decide +kernel) rfl ?_
    refine e_cmp3 (show am_cd 136 44 = (11, 47, 58, 3, []) by decide +kernel) (fun hc => ?_) (fun hc => ?_)
    · replace h := h.1 hc
      refine e_ic (show am_cd 136 58 = (0, 60, 1, 16, []) by decide +kernel) ?_
      refine e_cV (z := 0) (a := 15) (as := [(0, x2), (0, 16)]) (rest := [(0, i), rA 65]) (show am_cd 136 60 = (40, 63, 75, 0, [239]) by decide +kernel) (by decide +kernel) rfl rfl (Nat.le_of_ble_eq_true rfl) rfl ?_
      obtain ⟨g3, h⟩ := h
      refine Cl.mono (Cl.up (c_rbrokenU (d := d) g3 h.1) (by omega)) ?_
      rintro _ _ ⟨x4, rfl, rfl, hp⟩
      refine ⟨fun _ h9 => (by cases h9), ?_⟩
      replace h := h.2 x4 hp
      show Ev _ 136 _ 63 [rA 1, (0, n), (0, x2), (0, i), (9, 0), (9, 0), (9, 0), (9, 0)] [(0, x4), (0, i), rA 65] _
      refine e_iast (a := 65) (n := 16) (show am_cd 136 63 = (24, 64, 0, 0, []) by decide +kernel) (by decide +kernel) (by decide +kernel) (by decide +kernel) h.1 ?_
      replace h := h.2
      refine e_inc (la2 := [rA 1, (0, n), (0, x2), (0, i + 1), (9, 0), (9, 0), (9, 0), (9, 0)]) (show am_cd 136 64 = (4, 67, 3, 1, []) by decide +kernel) rfl rfl ?_
      refine e_go (show am_cd 136 67 = (12, 10, 0, 0, []) by decide +kernel) ?_
      exact h
    · replace h := h.2 hc
      refine e_lda (v := 1) (show am_cd 136 47 = (2, 48, 0, 2, []) by decide +kernel) rfl ?_
      refine e_getr (a := 1) (r := 64) (show am_cd 136 48 = (18, 51, 1111, 2, [94]) by decide +kernel) (by decide +kernel) (by decide +kernel) rfl ?_
      refine e_ldi (show am_cd 136 51 = (2, 52, 3, 0, []) by decide +kernel) rfl ?_
      refine e_ic (show am_cd 136 52 = (0, 53, 0, 1, []) by decide +kernel) ?_
      refine e_iadd (show am_cd 136 53 = (5, 54, 0, 0, []) by decide +kernel) ?_
      refine e_iald (a := 64) (n := 16) (show am_cd 136 54 = (21, 55, 0, 0, []) by decide +kernel) (by decide +kernel) (by decide +kernel) (by decide +kernel) h.1 ?_
      replace h := h.2
      refine e_go (show am_cd 136 55 = (12, 60, 0, 0, []) by decide +kernel) ?_
      refine e_cV (z := 0) (a := 15) (as := [(0, x2), (0, w 64 (w32 (i + 1)).toNat)]) (rest := [(0, i), rA 65]) (show am_cd 136 60 = (40, 63, 75, 0, [239]) by decide +kernel) (by decide +kernel) rfl rfl (Nat.le_of_ble_eq_true rfl) rfl ?_
      obtain ⟨g5, h⟩ := h
      refine Cl.mono (Cl.up (c_rbrokenU (d := d) g5 h.1) (by omega)) ?_
      rintro _ _ ⟨x6, rfl, rfl, hp⟩
      refine ⟨fun _ h9 => (by cases h9), ?_⟩
      replace h := h.2 x6 hp
      show Ev _ 136 _ 63 [rA 1, (0, n), (0, x2), (0, i), (9, 0), (9, 0), (9, 0), (9, 0)] [(0, x6), (0, i), rA 65] _
      refine e_iast (a := 65) (n := 16) (show am_cd 136 63 = (24, 64, 0, 0, []) by decide +kernel) (by decide +kernel) (by decide +kernel) (by decide +kernel) h.1 ?_
      replace h := h.2
      refine e_inc (la2 := [rA 1, (0, n), (0, x2), (0, i + 1), (9, 0), (9, 0), (9, 0), (9, 0)]) (show am_cd 136 64 = (4, 67, 3, 1, []) by decide +kernel) rfl rfl ?_
      refine e_go (show am_cd 136 67 = (12, 10, 0, 0, []) by decide +kernel) ?_
      exact h

theorem g_tf2 {d : Nat} {Q : Option aV → aS → Prop} {w : eW} {t : eT} {n x z rr : Int} {m : eW} {J5 J6 J7 : aV} (h : ((w32 (w 15 12) ≤ w32 rr → Q (some (0, z)) (enc w t)) ∧ (¬ (w32 (w 15 12) ≤ w32 rr) → Ev (d + 2) 136 Q 103 [rA 1, (0, n), (0, x), (0, z), (0, rr), (0, (-1)), (0, 0), (0, n - 1)] [] (enc w t)))) : Ev (d + 2) 136 Q 80 [rA 1, (0, n), (0, x), (0, z), (0, rr), J5, J6, J7] [] (enc w t) := by
  refine e_ldi (show am_cd 136 80 = (2, 82, 4, 0, []) by decide +kernel) rfl ?_
  refine e_lda (v := 1) (show am_cd 136 82 = (2, 83, 0, 2, []) by decide +kernel) rfl ?_
  refine e_getr (a := 1) (r := 15) (show am_cd 136 83 = (18, 86, 1102, 2, [26]) by decide +kernel) (by decide +kernel) (by decide +kernel) rfl ?_
  refine e_getf (a := 15) (tg := 0) (show am_cd 136 86 = (18, 89, 712, 0, [134]) by decide +kernel) (by decide +kernel) (by decide +kernel) rfl ?_
  refine e_cmp3 (show am_cd 136 89 = (11, 92, 173, 3, []) by decide +kernel) (fun hc => ?_) (fun hc => ?_)
  · replace h := h.1 hc
    refine e_ldi (show am_cd 136 173 = (2, 174, 3, 0, []) by decide +kernel) rfl ?_
    exact e_reti (show am_cd 136 174 = (36, 175, 0, 0, []) by decide +kernel) (by decide +kernel) h
  · replace h := h.2 hc
    refine e_ic (show am_cd 136 92 = (0, 93, 0, -1, []) by decide +kernel) ?_
    refine e_sti (la2 := [rA 1, (0, n), (0, x), (0, z), (0, rr), (0, (-1)), J6, J7]) (show am_cd 136 93 = (3, 95, 5, 0, []) by decide +kernel) rfl ?_
    refine e_ic (show am_cd 136 95 = (0, 96, 0, 0, []) by decide +kernel) ?_
    refine e_sti (la2 := [rA 1, (0, n), (0, x), (0, z), (0, rr), (0, (-1)), (0, 0), J7]) (show am_cd 136 96 = (3, 98, 6, 0, []) by decide +kernel) rfl ?_
    refine e_ldi (show am_cd 136 98 = (2, 99, 1, 0, []) by decide +kernel) rfl ?_
    refine e_ic (show am_cd 136 99 = (0, 100, 0, 1, []) by decide +kernel) ?_
    refine e_isub (show am_cd 136 100 = (5, 101, 1, 0, []) by decide +kernel) ?_
    refine e_sti (la2 := [rA 1, (0, n), (0, x), (0, z), (0, rr), (0, (-1)), (0, 0), (0, n - 1)]) (show am_cd 136 101 = (3, 103, 7, 0, []) by decide +kernel) rfl ?_
    exact h

theorem g_tf3 {d : Nat} {Q : Option aV → aS → Prop} {w : eW} {t : eT} {n x z rr f c i : Int} {m : eW} (h : ((w32 i < 0 → ((w32 c ≤ 0 → Ev (d + 2) 136 Q 80 [rA 1, (0, n), (0, x), (0, z + c), (0, rr + 1), (0, f), (0, c), (0, i)] [] (enc w t)) ∧ (¬ (w32 c ≤ 0) → ((0 : Int) ≤ w 1 14 ∧ w 1 14 < 24) ∧ ((0 : Int) ≤ (tlW w (w32 rr)) 1 14 ∧ (tlW w (w32 rr)) 1 14 < 24) ∧ ((0 : Int) ≤ (tlW (tlW w (w32 rr)) (w32 f)) 1 14 ∧ (tlW (tlW w (w32 rr)) (w32 f)) 1 14 < 24) ∧ (Ev (d + 2) 136 Q 80 [rA 1, (0, n), (0, x), (0, z + c), (0, rr + 1), (0, f), (0, c), (0, i)] [] (enc (tlW (tlW (tlW w (w32 rr)) (w32 f)) (w32 c)) t))))) ∧ (¬ (w32 i < 0) → (0 ≤ w32 i ∧ w32 i < 16) ∧ ((w32 (iand (ishr (w 65 (w32 i).toNat) rr) 1) = 0 → Ev (d + 2) 136 Q 103 [rA 1, (0, n), (0, x), (0, z), (0, rr), (0, f), (0, c), (0, i + (-1))] [] (enc w t)) ∧ (¬ (w32 (iand (ishr (w 65 (w32 i).toNat) rr) 1) = 0) → Ev (d + 2) 136 Q 103 [rA 1, (0, n), (0, x), (0, z), (0, rr), (0, i), (0, c + 1), (0, i + (-1))] [] (enc w t)))))) : Ev (d + 2) 136 Q 103 [rA 1, (0, n), (0, x), (0, z), (0, rr), (0, f), (0, c), (0, i)] [] (enc w t) := by
  refine e_ldi (show am_cd 136 103 = (2, 105, 7, 0, []) by decide +kernel) rfl ?_
  refine e_if2 (show am_cd 136 105 = (10, 108, 136, 2, []) by decide +kernel) (fun hc => ?_) (fun hc => ?_)
  · replace h := h.1 hc
    refine e_ldi (show am_cd 136 136 = (2, 138, 6, 0, []) by decide +kernel) rfl ?_
    refine e_if5 (show am_cd 136 138 = (10, 141, 162, 5, []) by decide +kernel) (fun hc => ?_) (fun hc => ?_)
    · replace h := h.1 hc
      refine e_ldi (show am_cd 136 162 = (2, 163, 3, 0, []) by decide +kernel) rfl ?_
      refine e_ldi (show am_cd 136 163 = (2, 165, 6, 0, []) by decide +kernel) rfl ?_
      refine e_iadd (show am_cd 136 165 = (5, 166, 0, 0, []) by decide +kernel) ?_
      refine e_sti (la2 := [rA 1, (0, n), (0, x), (0, z + c), (0, rr), (0, f), (0, c), (0, i)]) (show am_cd 136 166 = (3, 167, 3, 0, []) by decide +kernel) rfl ?_
      refine e_inc (la2 := [rA 1, (0, n), (0, x), (0, z + c), (0, rr + 1), (0, f), (0, c), (0, i)]) (show am_cd 136 167 = (4, 170, 4, 1, []) by decide +kernel) rfl rfl ?_
      refine e_go (show am_cd 136 170 = (12, 80, 0, 0, []) by decide +kernel) ?_
      exact h
    · replace h := h.2 hc
      refine e_lda (v := 1) (show am_cd 136 141 = (2, 142, 0, 2, []) by decide +kernel) rfl ?_
      refine e_ldi (show am_cd 136 142 = (2, 144, 4, 0, []) by decide +kernel) rfl ?_
      refine e_i2l (show am_cd 136 144 = (8, 145, 0, 0, []) by decide +kernel) ?_
      refine e_cV (z := 0) (a := 1) (as := [(1, w32 rr)]) (rest := []) (show am_cd 136 145 = (40, 148, 137, 0, [245]) by decide +kernel) (by decide +kernel) rfl rfl (Nat.le_of_ble_eq_true rfl) rfl ?_
      refine Cl.mono (Cl.up (c_ctell (d := d) h.1) (by omega)) ?_
      rintro _ _ ⟨rfl, rfl⟩
      refine ⟨fun _ h9 => (by cases h9), ?_⟩
      replace h := h.2
      show Ev _ 136 _ 148 [rA 1, (0, n), (0, x), (0, z), (0, rr), (0, f), (0, c), (0, i)] [] _
      refine e_lda (v := 1) (show am_cd 136 148 = (2, 149, 0, 2, []) by decide +kernel) rfl ?_
      refine e_ldi (show am_cd 136 149 = (2, 151, 5, 0, []) by decide +kernel) rfl ?_
      refine e_i2l (show am_cd 136 151 = (8, 152, 0, 0, []) by decide +kernel) ?_
      refine e_cV (z := 0) (a := 1) (as := [(1, w32 f)]) (rest := []) (show am_cd 136 152 = (40, 155, 137, 0, [245]) by decide +kernel) (by decide +kernel) rfl rfl (Nat.le_of_ble_eq_true rfl) rfl ?_
      refine Cl.mono (Cl.up (c_ctell (d := d) h.1) (by omega)) ?_
      rintro _ _ ⟨rfl, rfl⟩
      refine ⟨fun _ h9 => (by cases h9), ?_⟩
      replace h := h.2
      show Ev _ 136 _ 155 [rA 1, (0, n), (0, x), (0, z), (0, rr), (0, f), (0, c), (0, i)] [] _
      refine e_lda (v := 1) (show am_cd 136 155 = (2, 156, 0, 2, []) by decide +kernel) rfl ?_
      refine e_ldi (show am_cd 136 156 = (2, 158, 6, 0, []) by decide +kernel) rfl ?_
      refine e_i2l (show am_cd 136 158 = (8, 159, 0, 0, []) by decide +kernel) ?_
      refine e_cV (z := 0) (a := 1) (as := [(1, w32 c)]) (rest := []) (show am_cd 136 159 = (40, 162, 137, 0, [245]) by decide +kernel) (by decide +kernel) rfl rfl (Nat.le_of_ble_eq_true rfl) rfl ?_
      refine Cl.mono (Cl.up (c_ctell (d := d) h.1) (by omega)) ?_
      rintro _ _ ⟨rfl, rfl⟩
      refine ⟨fun _ h9 => (by cases h9), ?_⟩
      replace h := h.2
      show Ev _ 136 _ 162 [rA 1, (0, n), (0, x), (0, z), (0, rr), (0, f), (0, c), (0, i)] [] _
      refine e_ldi (show am_cd 136 162 = (2, 163, 3, 0, []) by decide +kernel) rfl ?_
      refine e_ldi (show am_cd 136 163 = (2, 165, 6, 0, []) by decide +kernel) rfl ?_
      refine e_iadd (show am_cd 136 165 = (5, 166, 0, 0, []) by decide +kernel) ?_
      refine e_sti (la2 := [rA 1, (0, n), (0, x), (0, z + c), (0, rr), (0, f), (0, c), (0, i)]) (show am_cd 136 166 = (3, 167, 3, 0, []) by decide +kernel) rfl ?_
      refine e_inc (la2 := [rA 1, (0, n), (0, x), (0, z + c), (0, rr + 1), (0, f), (0, c), (0, i)]) (show am_cd 136 167 = (4, 170, 4, 1, []) by decide +kernel) rfl rfl ?_
      refine e_go (show am_cd 136 170 = (12, 80, 0, 0, []) by decide +kernel) ?_
      exact h
  · replace h := h.2 hc
    refine e_lda (v := 1) (show am_cd 136 108 = (2, 109, 0, 2, []) by decide +kernel) rfl ?_
    refine e_getr (a := 1) (r := 65) (show am_cd 136 109 = (18, 112, 1112, 2, [98]) by decide +kernel) (by decide +kernel) (by decide +kernel) rfl ?_
    refine e_ldi (show am_cd 136 112 = (2, 114, 7, 0, []) by decide +kernel) rfl ?_
    refine e_iald (a := 65) (n := 16) (show am_cd 136 114 = (21, 115, 0, 0, []) by decide +kernel) (by decide +kernel) (by decide +kernel) (by decide +kernel) h.1 ?_
    replace h := h.2
    refine e_ldi (show am_cd 136 115 = (2, 117, 4, 0, []) by decide +kernel) rfl ?_
    refine e_ishr (show am_cd 136 117 = (5, 118, 7, 0, []) by decide +kernel) ?_
    refine e_ic (show am_cd 136 118 = (0, 119, 0, 1, []) by decide +kernel) ?_
    refine e_iand (show am_cd 136 119 = (5, 120, 3, 0, []) by decide +kernel) ?_
    refine e_if0 (show am_cd 136 120 = (10, 123, 130, 0, []) by decide +kernel) (fun hc => ?_) (fun hc => ?_)
    · replace h := h.1 hc
      refine e_inc (la2 := [rA 1, (0, n), (0, x), (0, z), (0, rr), (0, f), (0, c), (0, i + (-1))]) (show am_cd 136 130 = (4, 133, 7, -1, []) by decide +kernel) rfl rfl ?_
      refine e_go (show am_cd 136 133 = (12, 103, 0, 0, []) by decide +kernel) ?_
      exact h
    · replace h := h.2 hc
      refine e_ldi (show am_cd 136 123 = (2, 125, 7, 0, []) by decide +kernel) rfl ?_
      refine e_sti (la2 := [rA 1, (0, n), (0, x), (0, z), (0, rr), (0, i), (0, c), (0, i)]) (show am_cd 136 125 = (3, 127, 5, 0, []) by decide +kernel) rfl ?_
      refine e_inc (la2 := [rA 1, (0, n), (0, x), (0, z), (0, rr), (0, i), (0, c + 1), (0, i)]) (show am_cd 136 127 = (4, 130, 6, 1, []) by decide +kernel) rfl rfl ?_
      refine e_inc (la2 := [rA 1, (0, n), (0, x), (0, z), (0, rr), (0, i), (0, c + 1), (0, i + (-1))]) (show am_cd 136 130 = (4, 133, 7, -1, []) by decide +kernel) rfl rfl ?_
      refine e_go (show am_cd 136 133 = (12, 103, 0, 0, []) by decide +kernel) ?_
      exact h

/-- the pairs that are given -/
def GvC (w : eW) (ps : List Nat) : Prop := ∀ i, i < ps.length → w 64 i = ((ps.getD i 0 : Nat) : Int)
def fsI (f : Nat → Bool) (k p : Nat) : Int := if ct f k p = 0 then -1 else (fsN f k p : Int)
theorem ct_0 (f : Nat → Bool) : ∀ k p, ct f k p = 0 → ∀ j, p ≤ j → j < p + k → f j = false := by
  intro k
  induction k with
  | zero => intro p _ j h1 h2; omega
  | succ k ih =>
    intro p h j h1 h2
    unfold ct at h
    by_cases h9 : j = p
    · subst h9
      cases hf : f j with
      | false => rfl
      | true => rw [hf, if_pos rfl] at h; omega
    · exact ih (p + 1) (by omega) j (by omega) (by omega)
theorem jf_loop {d : Nat} {w m : eW} {t : eT} {ps : List Nat} {r : Nat} {x z : Int} {Q : Option aV → aS → Prop} (hl : ps.length ≤ 16) (hr : r < 9) (hF : ∀ i, i < ps.length → ∃ x : Nat, x < 256 ∧ w 65 i = (x : Int) ∧ x.testBit r = jb m ps r i)
    (hE : Ev (d + 2) 136 Q 103 [rA 1, (0, (ps.length : Int)), (0, x), (0, z), (0, (r : Int)), (0, fsI (jb m ps r) ps.length 0), (0, ((ct (jb m ps r) ps.length 0 : Nat) : Int)), (0, -1)] [] (enc w t)) : ∀ k, k ≤ ps.length → Ev (d + 2) 136 Q 103 [rA 1, (0, (ps.length : Int)), (0, x), (0, z), (0, (r : Int)), (0, fsI (jb m ps r) (ps.length - k) k), (0, ((ct (jb m ps r) (ps.length - k) k : Nat) : Int)), (0, (k : Int) - 1)] [] (enc w t) := by
  intro k
  induction k with
  | zero => intro _; exact hE
  | succ k ih =>
    intro hk
    obtain ⟨xx, hx, e65, hb⟩ := hF k (by omega)
    have hi := ih (by omega)
    have es : ps.length - k = ps.length - (k + 1) + 1 := by omega
    rw [es] at hi
    refine g_tf3 (m := m) ⟨fun h9 => absurd h9 (by rw [w32_id (by omega)]; omega), fun _ => ?_⟩
    rw [w32_id (x := ((k + 1 : Nat) : Int) - 1) (by omega), show (((k + 1 : Nat) : Int) - 1).toNat = k by omega, e65, bb_i (by omega) (by omega), hb]
    refine ⟨by omega, ?_⟩
    rw [show ((k + 1 : Nat) : Int) - 1 + (-1) = (k : Int) - 1 by omega]
    unfold fsI at *
    rw [show ct (jb m ps r) (ps.length - (k + 1) + 1) k = (if jb m ps r k = true then 1 else 0) + ct (jb m ps r) (ps.length - (k + 1)) (k + 1) from rfl] at hi
    cases hj : jb m ps r k with
    | false =>
      rw [hj, fsN_f hj] at hi
      refine ⟨fun _ => ?_, fun h9 => absurd rfl h9⟩
      simp only [Bool.false_eq_true, if_false, Nat.zero_add] at hi
      exact hi
    | true =>
      rw [hj, fsN_t hj] at hi
      refine ⟨fun h9 => absurd h9 (by decide), fun _ => ?_⟩
      rw [if_pos rfl, if_neg (by omega)] at hi
      rw [show ((k + 1 : Nat) : Int) - 1 = (k : Int) by omega, show ((ct (jb m ps r) (ps.length - (k + 1)) (k + 1) : Nat) : Int) + 1 = ((1 + ct (jb m ps r) (ps.length - (k + 1)) (k + 1) : Nat) : Int) by omega]
      exact hi
theorem c_tellFaults {d : Nat} {w m : eW} {t : eT} {ps : List Nat} (h : LN w m ∧ RC w m ∧ WFp m ∧ WFr m ∧ GvC w ps ∧ ps.length ≤ 16 ∧ ∀ p ∈ ps, p < nP m) : Cl (d + 2) 136 [rA 1, (0, (ps.length : Int))] (enc w t) (fun r S2 => ∃ w2, r = some (0, ((jal m ps (nR m) : Nat) : Int)) ∧ S2 = enc w2 t ∧ Fc [65, 66] [(1, 14)] w w2 ∧ TlC w2 (jrs m ps (nR m))) := by
  obtain ⟨hN, hC, hp, hr, hG, hl, hps⟩ := h
  have hpn := hp.n
  have hn := hr.n
  have hlt : ∀ i, i < ps.length → ps.getD i 0 < nP m := fun i hi => hps _ (gD_mem hi)
  have rle : ∀ p, rAt ps p ≤ 16 := fun p => rAt_le hps hpn.2 p
  refine g_tf (m := m) ⟨⟨hN, hp, hr⟩, ?_⟩
  have e0 : tr m 16 16 16 = tr m (rAt ps (((0 : Nat) : Int) - 3)) (rAt ps (((0 : Nat) : Int) - 2)) (rAt ps (((0 : Nat) : Int) - 1)) := by
    unfold rAt
    rw [if_neg (by omega), if_neg (by omega), if_neg (by omega)]
  rw [e0]
  refine lq1 (σ := eW) (fun i w1 => Ev (d + 2) 136 (fun r S2 => ∃ w2, r = some (0, ((jal m ps (nR m) : Nat) : Int)) ∧ S2 = enc w2 t ∧ Fc [65, 66] [(1, 14)] w w2 ∧ TlC w2 (jrs m ps (nR m))) 10 [rA 1, (0, (ps.length : Int)), (0, ((tr m (rAt ps ((i : Int) - 3)) (rAt ps ((i : Int) - 2)) (rAt ps ((i : Int) - 1)) : Nat) : Int)), (0, (i : Int)), (9, 0), (9, 0), (9, 0), (9, 0)] [] (enc w1 t)) (fun i w1 => Fc [65, 66] [(1, 14)] w w1 ∧ ∀ j, j < i → w1 65 j = ((bts (fun r => jb m ps r j) (nR m) : Nat) : Int)) ps.length ?_ ?_ 0 w (Nat.zero_le _) ⟨Fc.rf _ _ _, fun j hj => absurd hj (Nat.not_lt_zero j)⟩
  · rintro i w1 hi ⟨f1, f65⟩ hE
    have hN1 : LN w1 m := hN.fc f1 (by decide) (by decide)
    have e64 : w1 64 = w 64 := f1.row (by decide) (by decide)
    have a0 : rAt ps (i : Int) = ps.getD i 0 := by unfold rAt; rw [if_pos (by omega), Int.toNat_natCast]
    have hbi := hlt i hi
    refine g_tf1 (m := m) ⟨fun h9 => absurd h9 (by rw [w32_id (by omega), w32_id (by omega)]; omega), fun _ => ?_⟩
    rw [w32_id (x := (i : Int)) (by omega), w32_id (x := (i : Int) + 1) (by omega), w32_id (x := (ps.length : Int)) (by omega), Int.toNat_natCast, show ((i : Int) + 1).toNat = i + 1 by omega, e64, hG i hi, Int.toNat_natCast]
    refine ⟨by omega, (rAt ps ((i : Int) - 3), rAt ps ((i : Int) - 2), rAt ps ((i : Int) - 1)), ⟨hN1, hp, hr, rfl, rle _, by omega, by omega⟩, fun x2 hx2 => ?_⟩
    replace hx2 : x2 = ((tr m (rAt ps ((i : Int) - 2)) (rAt ps ((i : Int) - 1)) (ps.getD i 0) : Nat) : Int) := hx2
    have nx : ∀ v, v = ((bts (fun r => jb m ps r i) (nR m) : Nat) : Int) → Ev (d + 2) 136 (fun r S2 => ∃ w2, r = some (0, ((jal m ps (nR m) : Nat) : Int)) ∧ S2 = enc w2 t ∧ Fc [65, 66] [(1, 14)] w w2 ∧ TlC w2 (jrs m ps (nR m))) 10 [rA 1, (0, (ps.length : Int)), (0, x2), (0, (i : Int) + 1), (9, 0), (9, 0), (9, 0), (9, 0)] [] (enc (wu w1 65 i v) t) := fun v hv => by
      have := hE (wu w1 65 i v) ⟨f1.tr (Fc.pr (by decide)), fun j hj => ?_⟩
      · rw [show (((i + 1 : Nat) : Int) - 3) = (i : Int) - 2 by omega, show (((i + 1 : Nat) : Int) - 2) = (i : Int) - 1 by omega, show (((i + 1 : Nat) : Int) - 1) = (i : Int) by omega, a0, ← hx2] at this
        exact this
      · by_cases h9 : j = i
        · rw [h9, wu_eq, hv]
        · rw [wu_nk _ _ h9]; exact f65 j (by omega)
    refine ⟨fun h9 => ⟨(rAt ps ((i : Int) - 2), rAt ps ((i : Int) - 1), ps.getD i 0), ⟨hN1, hp, hr, hx2, by show ps.getD i 0 ≤ 16; omega, by decide, by decide⟩, fun x4 hx4 => ⟨by omega, nx x4 ?_⟩⟩, fun h9 => ⟨by omega, ?_⟩⟩
    · rw [hx4]
      show ((bts (fun r => brk m r (rAt ps ((i : Int) - 2)) (rAt ps ((i : Int) - 1)) (ps.getD i 0) 16) (nR m) : Nat) : Int) = _
      congr 2
      funext r
      unfold jb
      rw [a0, show rAt ps ((i : Int) + 1) = 16 by unfold rAt; rw [if_neg (by omega)]]
    · have hb1 := hlt (i + 1) (by omega)
      rw [hG (i + 1) (by omega), Int.toNat_natCast]
      refine ⟨(rAt ps ((i : Int) - 2), rAt ps ((i : Int) - 1), ps.getD i 0), ⟨hN1, hp, hr, hx2, by show ps.getD i 0 ≤ 16; omega, by omega, by omega⟩, fun x4 hx4 => ⟨by omega, nx x4 ?_⟩⟩
      rw [hx4]
      show ((bts (fun r => brk m r (rAt ps ((i : Int) - 2)) (rAt ps ((i : Int) - 1)) (ps.getD i 0) (ps.getD (i + 1) 0)) (nR m) : Nat) : Int) = _
      congr 2
      funext r
      unfold jb
      rw [a0, show rAt ps ((i : Int) + 1) = ps.getD (i + 1) 0 by unfold rAt; rw [if_pos (by omega), show ((i : Int) + 1).toNat = i + 1 by omega]]
  · rintro w1 ⟨f1, f65⟩
    refine g_tf1 (m := m) ⟨fun _ => ?_, fun h9 => absurd (Int.le_refl _) h9⟩
    have b65 : ∀ i, i < ps.length → ∀ r, r < nR m → ∃ x : Nat, x < 256 ∧ w1 65 i = (x : Int) ∧ x.testBit r = jb m ps r i := fun i hi r hrl => ⟨_, bts8 _ hr, f65 i hi, by rw [bts_tb, decide_eq_true hrl]; rfl⟩
    generalize hJx : ((tr m (rAt ps ((ps.length : Int) - 3)) (rAt ps ((ps.length : Int) - 2)) (rAt ps ((ps.length : Int) - 1)) : Nat) : Int) = x
    refine lq2 (σ := eW) (τ := aV × aV × aV) (fun r w2 J => Ev (d + 2) 136 (fun r S2 => ∃ w2, r = some (0, ((jal m ps (nR m) : Nat) : Int)) ∧ S2 = enc w2 t ∧ Fc [65, 66] [(1, 14)] w w2 ∧ TlC w2 (jrs m ps (nR m))) 80 [rA 1, (0, (ps.length : Int)), (0, x), (0, ((jal m ps r : Nat) : Int)), (0, (r : Int)), J.1, J.2.1, J.2.2] [] (enc w2 t)) (fun r w2 => Fc [66] [(1, 14)] w1 w2 ∧ TlC w2 (jrs m ps r)) (nR m) ?_ ?_ 0 (wu w1 1 14 0) ((9, 0), (9, 0), (9, 0)) (Nat.zero_le _) ⟨Fc.pf (by decide), ⟨rfl, Nat.zero_le _, fun i hi => absurd hi (Nat.not_lt_zero i)⟩⟩
    · rintro r w2 J hrl ⟨f2, hT⟩ hE
      have hC2 : w2 15 12 = (nR m : Int) := by rw [f2 _ _ (by decide) (by decide), f1 _ _ (by decide) (by decide), hC.1]; omega
      have e65 : w2 65 = w1 65 := f2.row (by decide) (by decide)
      refine g_tf2 (m := m) ⟨fun h9 => absurd h9 (by rw [hC2, w32_id (by omega), w32_id (by omega)]; omega), fun _ => ?_⟩
      have hlen := jrs_le m ps r
      have hct := ct_le (jb m ps r) ps.length 0
      have key := jf_loop (d := d) (w := w2) (m := m) (t := t) (ps := ps) (r := r) (x := x) (z := ((jal m ps r : Nat) : Int)) (Q := fun r S2 => ∃ w2, r = some (0, ((jal m ps (nR m) : Nat) : Int)) ∧ S2 = enc w2 t ∧ Fc [65, 66] [(1, 14)] w w2 ∧ TlC w2 (jrs m ps (nR m))) hl (by omega) (fun i hi => by rw [e65]; exact b65 i hi r hrl) ?_ ps.length (Nat.le_refl _)
      · rw [Nat.sub_self] at key
        exact key
      · refine g_tf3 (m := m) ⟨fun _ => ?_, fun h9 => absurd (by decide +kernel) h9⟩
        rw [w32_id (x := ((ct (jb m ps r) ps.length 0 : Nat) : Int)) (by omega)]
        have ejal : jal m ps (r + 1) = jal m ps r + ct (jb m ps r) ps.length 0 := rfl
        have ejrs : jrs m ps (r + 1) = jrs m ps r ++ jrw m ps r := rfl
        rw [ejal] at hE
        refine ⟨fun h0 => ?_, fun h0 => ?_⟩
        · have hz : ct (jb m ps r) ps.length 0 = 0 := by omega
          have hjw : jrw m ps r = [] := by unfold jrw jMn; rw [if_pos hz]
          exact hE w2 (_, _, _) ⟨f2, by rw [ejrs, hjw, List.append_nil]; exact hT⟩
        · have hnz : ¬ ct (jb m ps r) ps.length 0 = 0 := by omega
          have hfs : fsI (jb m ps r) ps.length 0 = (fsN (jb m ps r) ps.length 0 : Int) := by unfold fsI; rw [if_neg hnz]
          have hfb := fsN_le (P := jb m ps r) ps.length 0
          rw [hfs, w32_id (x := (r : Int)) (by omega), w32_id (x := ((fsN (jb m ps r) ps.length 0 : Nat) : Int)) (by omega)]
          obtain ⟨T1, g1⟩ := hT.tell (r : Int) (by omega)
          obtain ⟨T2, g2⟩ := T1.tell ((fsN (jb m ps r) ps.length 0 : Nat) : Int) (by rw [List.length_append]; show _ + 1 < 24; omega)
          obtain ⟨T3, g3⟩ := T2.tell ((ct (jb m ps r) ps.length 0 : Nat) : Int) (by rw [List.length_append, List.length_append]; show _ + 1 + 1 < 24; omega)
          have q0 := hT.1
          have q1 := T1.1
          have q2 := T2.1
          rw [List.length_append] at q1 q2
          rw [List.length_append] at q2
          have q1' : tlW w2 (r : Int) 1 14 = ((jrs m ps r).length : Int) + 1 := q1
          have q2' : tlW (tlW w2 (r : Int)) ((fsN (jb m ps r) ps.length 0 : Nat) : Int) 1 14 = ((jrs m ps r).length : Int) + 1 + 1 := q2
          refine ⟨by omega, by omega, by omega, ?_⟩
          have hjw : jrw m ps r = [(r : Int), (fsN (jb m ps r) ps.length 0 : Int), (ct (jb m ps r) ps.length 0 : Int)] := by unfold jrw jMn; rw [if_neg hnz]
          exact hE _ (_, _, _) ⟨((f2.tr g1).tr g2).tr g3, by
            rw [ejrs, hjw]
            have : jrs m ps r ++ [(r : Int), (fsN (jb m ps r) ps.length 0 : Int), (ct (jb m ps r) ps.length 0 : Int)] = jrs m ps r ++ [(r : Int)] ++ [((fsN (jb m ps r) ps.length 0 : Nat) : Int)] ++ [((ct (jb m ps r) ps.length 0 : Nat) : Int)] := by simp
            rw [this]
            exact T3⟩
    · rintro w2 J ⟨f2, hT⟩
      have hC2 : w2 15 12 = (nR m : Int) := by rw [f2 _ _ (by decide) (by decide), f1 _ _ (by decide) (by decide), hC.1]; omega
      exact g_tf2 (m := m) ⟨fun _ => ⟨w2, rfl, rfl, f1.tr (f2.mo (by decide) (by decide)), hT⟩, fun h9 => absurd (by rw [hC2]; exact Int.le_refl _) h9⟩

theorem c_tfU {d : Nat} {w m : eW} {t : eT} {ps : List Nat} {n : Int} (h : LN w m ∧ RC w m ∧ WFp m ∧ WFr m ∧ GvC w ps ∧ ps.length ≤ 16 ∧ (∀ p ∈ ps, p < nP m) ∧ n = (ps.length : Int)) : Cl (d + 2) 136 [rA 1, (0, n)] (enc w t) (fun r S2 => ∃ x w2, r = some (0, x) ∧ S2 = enc w2 t ∧ x = ((jal m ps (nR m) : Nat) : Int) ∧ Fc [65, 66] [(1, 14)] w w2 ∧ TlC w2 (jrs m ps (nR m))) := by
  obtain ⟨h1, h2, h3, h4, h5, h6, h7, rfl⟩ := h
  exact (c_tellFaults ⟨h1, h2, h3, h4, h5, h6, h7⟩).mono (fun r S2 ⟨w2, e1, e2, f, T⟩ => ⟨_, w2, e1, e2, rfl, f, T⟩)

theorem g_cj {d : Nat} {Q : Option aV → aS → Prop} {w : eW} {t : eT} {tx : List Int} {m : eW} {ps : List Nat} (h : ((w32 (w 2 5) ≤ 0 → ((w32 (w 2 5) ≤ 0 → Ev (d + 4) 135 Q 49 [rA 1, (0, 0), (0, 0)] [] (enc w t)) ∧ (¬ (w32 (w 2 5) ≤ 0) → Ev (d + 4) 135 Q 49 [rA 1, (0, w 2 7), (0, 0)] [] (enc w t)))) ∧ (¬ (w32 (w 2 5) ≤ 0) → (TC w tx ∧ w 2 6 = 0) ∧ (∀ x1 w2, (tpsP tx w (prsA tx) x1 w2) → ((¬ w32 x1 = 0 → ((w32 (w2 2 5) ≤ 0 → Ev (d + 4) 135 Q 49 [rA 1, (0, 0), (0, 0)] [] (enc w2 t)) ∧ (¬ (w32 (w2 2 5) ≤ 0) → Ev (d + 4) 135 Q 49 [rA 1, (0, w2 2 7), (0, 0)] [] (enc w2 t)))) ∧ (¬ (¬ w32 x1 = 0) → Q (some (0, (-21) - (w2 2 6))) (enc w2 t))))))) : Cl (d + 4) 135 [rA 1] (enc w t) Q := by
  show Ev (d + 4) 135 Q 0 [rA 1, (9, 0), (9, 0)] [] (enc w t)
  refine e_lda (v := 1) (show am_cd 135 0 = (2, 1, 0, 2, []) by decide +kernel) rfl ?_
  refine e_getr (a := 1) (r := 2) (show am_cd 135 1 = (18, 4, 1100, 2, [12]) by decide +kernel) (by decide +kernel) (by decide +kernel) rfl ?_
  refine e_getf (a := 2) (tg := 0) (show am_cd 135 4 = (18, 7, 805, 0, [105]) by decide +kernel) (by decide +kernel) (by decide +kernel) rfl ?_
  refine e_if5 (show am_cd 135 7 = (10, 10, 25, 5, []) by decide +kernel) (fun hc => ?_) (fun hc => ?_)
  · replace h := h.1 hc
    refine e_lda (v := 1) (show am_cd 135 25 = (2, 26, 0, 2, []) by decide +kernel) rfl ?_
    refine e_getr (a := 1) (r := 2) (show am_cd 135 26 = (18, 29, 1100, 2, [12]) by decide +kernel) (by decide +kernel) (by decide +kernel) rfl ?_
    refine e_getf (a := 2) (tg := 0) (show am_cd 135 29 = (18, 32, 805, 0, [105]) by decide +kernel) (by decide +kernel) (by decide +kernel) rfl ?_
    refine e_if5 (show am_cd 135 32 = (10, 35, 45, 5, []) by decide +kernel) (fun hc => ?_) (fun hc => ?_)
    · replace h := h.1 hc
      refine e_ic (show am_cd 135 45 = (0, 46, 0, 0, []) by decide +kernel) ?_
      refine e_sti (la2 := [rA 1, (0, 0), (9, 0)]) (show am_cd 135 46 = (3, 47, 1, 0, []) by decide +kernel) rfl ?_
      refine e_ic (show am_cd 135 47 = (0, 48, 0, 0, []) by decide +kernel) ?_
      refine e_sti (la2 := [rA 1, (0, 0), (0, 0)]) (show am_cd 135 48 = (3, 49, 2, 0, []) by decide +kernel) rfl ?_
      exact h
    · replace h := h.2 hc
      refine e_lda (v := 1) (show am_cd 135 35 = (2, 36, 0, 2, []) by decide +kernel) rfl ?_
      refine e_getr (a := 1) (r := 2) (show am_cd 135 36 = (18, 39, 1100, 2, [12]) by decide +kernel) (by decide +kernel) (by decide +kernel) rfl ?_
      refine e_getf (a := 2) (tg := 0) (show am_cd 135 39 = (18, 42, 807, 0, [218]) by decide +kernel) (by decide +kernel) (by decide +kernel) rfl ?_
      refine e_go (show am_cd 135 42 = (12, 46, 0, 0, []) by decide +kernel) ?_
      refine e_sti (la2 := [rA 1, (0, w 2 7), (9, 0)]) (show am_cd 135 46 = (3, 47, 1, 0, []) by decide +kernel) rfl ?_
      refine e_ic (show am_cd 135 47 = (0, 48, 0, 0, []) by decide +kernel) ?_
      refine e_sti (la2 := [rA 1, (0, w 2 7), (0, 0)]) (show am_cd 135 48 = (3, 49, 2, 0, []) by decide +kernel) rfl ?_
      exact h
  · replace h := h.2 hc
    refine e_lda (v := 1) (show am_cd 135 10 = (2, 11, 0, 2, []) by decide +kernel) rfl ?_
    refine e_getr (a := 1) (r := 2) (show am_cd 135 11 = (18, 14, 1100, 2, [12]) by decide +kernel) (by decide +kernel) (by decide +kernel) rfl ?_
    refine e_cV (z := 0) (a := 2) (as := []) (rest := []) (show am_cd 135 14 = (40, 17, 83, 0, [120]) by decide +kernel) (by decide +kernel) rfl rfl (Nat.le_of_ble_eq_true rfl) rfl ?_
    refine Cl.mono (Cl.up (c_tpsU (d := d) h.1) (by omega)) ?_
    rintro _ _ ⟨x1, w2, rfl, rfl, hp⟩
    refine ⟨fun _ h9 => (by cases h9), ?_⟩
    replace h := h.2 x1 w2 hp
    show Ev _ 135 _ 17 [rA 1, (9, 0), (9, 0)] [(0, x1)] _
    refine e_if1 (show am_cd 135 17 = (10, 20, 25, 1, []) by decide +kernel) (fun hc => ?_) (fun hc => ?_)
    · replace h := h.1 hc
      refine e_lda (v := 1) (show am_cd 135 25 = (2, 26, 0, 2, []) by decide +kernel) rfl ?_
      refine e_getr (a := 1) (r := 2) (show am_cd 135 26 = (18, 29, 1100, 2, [12]) by decide +kernel) (by decide +kernel) (by decide +kernel) rfl ?_
      refine e_getf (a := 2) (tg := 0) (show am_cd 135 29 = (18, 32, 805, 0, [105]) by decide +kernel) (by decide +kernel) (by decide +kernel) rfl ?_
      refine e_if5 (show am_cd 135 32 = (10, 35, 45, 5, []) by decide +kernel) (fun hc => ?_) (fun hc => ?_)
      · replace h := h.1 hc
        refine e_ic (show am_cd 135 45 = (0, 46, 0, 0, []) by decide +kernel) ?_
        refine e_sti (la2 := [rA 1, (0, 0), (9, 0)]) (show am_cd 135 46 = (3, 47, 1, 0, []) by decide +kernel) rfl ?_
        refine e_ic (show am_cd 135 47 = (0, 48, 0, 0, []) by decide +kernel) ?_
        refine e_sti (la2 := [rA 1, (0, 0), (0, 0)]) (show am_cd 135 48 = (3, 49, 2, 0, []) by decide +kernel) rfl ?_
        exact h
      · replace h := h.2 hc
        refine e_lda (v := 1) (show am_cd 135 35 = (2, 36, 0, 2, []) by decide +kernel) rfl ?_
        refine e_getr (a := 1) (r := 2) (show am_cd 135 36 = (18, 39, 1100, 2, [12]) by decide +kernel) (by decide +kernel) (by decide +kernel) rfl ?_
        refine e_getf (a := 2) (tg := 0) (show am_cd 135 39 = (18, 42, 807, 0, [218]) by decide +kernel) (by decide +kernel) (by decide +kernel) rfl ?_
        refine e_go (show am_cd 135 42 = (12, 46, 0, 0, []) by decide +kernel) ?_
        refine e_sti (la2 := [rA 1, (0, w2 2 7), (9, 0)]) (show am_cd 135 46 = (3, 47, 1, 0, []) by decide +kernel) rfl ?_
        refine e_ic (show am_cd 135 47 = (0, 48, 0, 0, []) by decide +kernel) ?_
        refine e_sti (la2 := [rA 1, (0, w2 2 7), (0, 0)]) (show am_cd 135 48 = (3, 49, 2, 0, []) by decide +kernel) rfl ?_
        exact h
    · replace h := h.2 hc
      refine e_lda (v := 1) (show am_cd 135 20 = (2, 21, 0, 2, []) by decide +kernel) rfl ?_
      refine e_cV (z := 0) (a := 1) (as := []) (rest := []) (show am_cd 135 21 = (40, 24, 126, 0, [124]) by decide +kernel) (by decide +kernel) rfl rfl (Nat.le_of_ble_eq_true rfl) rfl ?_
      show Ev _ 126 _ 0 [rA 1] [] _
      refine e_ic (show am_cd 126 0 = (0, 2, 1, -21, []) by decide +kernel) ?_
      refine e_lda (v := 1) (show am_cd 126 2 = (2, 3, 0, 2, []) by decide +kernel) rfl ?_
      refine e_getr (a := 1) (r := 2) (show am_cd 126 3 = (18, 6, 1100, 2, [12]) by decide +kernel) (by decide +kernel) (by decide +kernel) rfl ?_
      refine e_getf (a := 2) (tg := 0) (show am_cd 126 6 = (18, 9, 806, 0, [146]) by decide +kernel) (by decide +kernel) (by decide +kernel) rfl ?_
      refine e_isub (show am_cd 126 9 = (5, 10, 1, 0, []) by decide +kernel) ?_
      refine e_reti (show am_cd 126 10 = (36, 11, 0, 0, []) by decide +kernel) (by decide +kernel) ⟨fun _ h9 => (by cases h9), ?_⟩
      show Ev _ 135 _ 24 [rA 1, (9, 0), (9, 0)] [(0, (-21) - (w2 2 6))] _
      exact e_reti (show am_cd 135 24 = (36, 25, 0, 0, []) by decide +kernel) (by decide +kernel) h

theorem g_cj1 {d : Nat} {Q : Option aV → aS → Prop} {w : eW} {t : eT} {n i : Int} {tx : List Int} {m : eW} {ps : List Nat} (h : ((w32 n ≤ w32 i → Ev (d + 4) 135 Q 106 [rA 1, (0, n), (0, 1)] [] (enc w t)) ∧ (¬ (w32 n ≤ w32 i) → (0 ≤ w32 i ∧ w32 i < 16) ∧ (0 ≤ w32 i ∧ w32 i < 16) ∧ (AC w m ∧ WFp m ∧ (0 ≤ w 4 (w32 i).toNat ∧ w 4 (w32 i).toNat ≤ 27) ∧ (0 ≤ w 5 (w32 i).toNat ∧ w 5 (w32 i).toNat ≤ 27)) ∧ (0 ≤ w32 i ∧ w32 i < 16) ∧ (0 ≤ w32 i ∧ w32 i < 16) ∧ ((¬ w32 (nbI m (w 4 (w32 i).toNat) (w 5 (w32 i).toNat)) = w32 (-1) → Ev (d + 4) 135 Q 49 [rA 1, (0, n), (0, i + 1)] [] (enc (wu w 64 (w32 i).toNat (nbI m (w 4 (w32 i).toNat) (w 5 (w32 i).toNat))) t)) ∧ (¬ (¬ w32 (nbI m (w 4 (w32 i).toNat) (w 5 (w32 i).toNat)) = w32 (-1)) → Q (some (0, (-2))) (enc (wu w 64 (w32 i).toNat (nbI m (w 4 (w32 i).toNat) (w 5 (w32 i).toNat))) t)))))) : Ev (d + 4) 135 Q 49 [rA 1, (0, n), (0, i)] [] (enc w t) := by
  refine e_ldi (show am_cd 135 49 = (2, 50, 2, 0, []) by decide +kernel) rfl ?_
  refine e_ldi (show am_cd 135 50 = (2, 51, 1, 0, []) by decide +kernel) rfl ?_
  refine e_cmp3 (show am_cd 135 51 = (11, 54, 104, 3, []) by decide +kernel) (fun hc => ?_) (fun hc => ?_)
  · replace h := h.1 hc
    refine e_ic (show am_cd 135 104 = (0, 105, 0, 1, []) by decide +kernel) ?_
    refine e_sti (la2 := [rA 1, (0, n), (0, 1)]) (show am_cd 135 105 = (3, 106, 2, 0, []) by decide +kernel) rfl ?_
    exact h
  · replace h := h.2 hc
    refine e_lda (v := 1) (show am_cd 135 54 = (2, 55, 0, 2, []) by decide +kernel) rfl ?_
    refine e_getr (a := 1) (r := 64) (show am_cd 135 55 = (18, 58, 1111, 2, [94]) by decide +kernel) (by decide +kernel) (by decide +kernel) rfl ?_
    refine e_ldi (show am_cd 135 58 = (2, 59, 2, 0, []) by decide +kernel) rfl ?_
    refine e_lda (v := 1) (show am_cd 135 59 = (2, 60, 0, 2, []) by decide +kernel) rfl ?_
    refine e_getr (a := 1) (r := 8) (show am_cd 135 60 = (18, 63, 1101, 2, [19]) by decide +kernel) (by decide +kernel) (by decide +kernel) rfl ?_
    refine e_lda (v := 1) (show am_cd 135 63 = (2, 64, 0, 2, []) by decide +kernel) rfl ?_
    refine e_getr (a := 1) (r := 2) (show am_cd 135 64 = (18, 67, 1100, 2, [12]) by decide +kernel) (by decide +kernel) (by decide +kernel) rfl ?_
    refine e_getr (a := 2) (r := 4) (show am_cd 135 67 = (18, 70, 801, 2, [221]) by decide +kernel) (by decide +kernel) (by decide +kernel) rfl ?_
    refine e_ldi (show am_cd 135 70 = (2, 71, 2, 0, []) by decide +kernel) rfl ?_
    refine e_iald (a := 4) (n := 16) (show am_cd 135 71 = (21, 72, 0, 0, []) by decide +kernel) (by decide +kernel) (by decide +kernel) (by decide +kernel) h.1 ?_
    replace h := h.2
    refine e_lda (v := 1) (show am_cd 135 72 = (2, 73, 0, 2, []) by decide +kernel) rfl ?_
    refine e_getr (a := 1) (r := 2) (show am_cd 135 73 = (18, 76, 1100, 2, [12]) by decide +kernel) (by decide +kernel) (by decide +kernel) rfl ?_
    refine e_getr (a := 2) (r := 5) (show am_cd 135 76 = (18, 79, 802, 2, [224]) by decide +kernel) (by decide +kernel) (by decide +kernel) rfl ?_
    refine e_ldi (show am_cd 135 79 = (2, 80, 2, 0, []) by decide +kernel) rfl ?_
    refine e_iald (a := 5) (n := 16) (show am_cd 135 80 = (21, 81, 0, 0, []) by decide +kernel) (by decide +kernel) (by decide +kernel) (by decide +kernel) h.1 ?_
    replace h := h.2
    refine e_cV (z := 0) (a := 8) (as := [(0, w 4 (w32 i).toNat), (0, w 5 (w32 i).toNat)]) (rest := [(0, i), rA 64]) (show am_cd 135 81 = (40, 84, 4, 0, [185]) by decide +kernel) (by decide +kernel) rfl rfl (Nat.le_of_ble_eq_true rfl) rfl ?_
    refine Cl.mono (Cl.up (c_nb (d := d) h.1) (by omega)) ?_
    rintro _ _ ⟨rfl, rfl⟩
    refine ⟨fun _ h9 => (by cases h9), ?_⟩
    replace h := h.2
    show Ev _ 135 _ 84 [rA 1, (0, n), (0, i)] [(0, nbI m (w 4 (w32 i).toNat) (w 5 (w32 i).toNat)), (0, i), rA 64] _
    refine e_iast (a := 64) (n := 16) (show am_cd 135 84 = (24, 85, 0, 0, []) by decide +kernel) (by decide +kernel) (by decide +kernel) (by decide +kernel) h.1 ?_
    replace h := h.2
    refine e_lda (v := 1) (show am_cd 135 85 = (2, 86, 0, 2, []) by decide +kernel) rfl ?_
    refine e_getr (a := 1) (r := 64) (show am_cd 135 86 = (18, 89, 1111, 2, [94]) by decide +kernel) (by decide +kernel) (by decide +kernel) rfl ?_
    refine e_ldi (show am_cd 135 89 = (2, 90, 2, 0, []) by decide +kernel) rfl ?_
    refine e_ialdE (a := 64) (n := 16) (v := nbI m (w 4 (w32 i).toNat) (w 5 (w32 i).toNat)) (show am_cd 135 90 = (21, 91, 0, 0, []) by decide +kernel) (by decide +kernel) (by decide +kernel) (by decide +kernel) h.1 (by simp [wu]) ?_
    replace h := h.2
    refine e_ic (show am_cd 135 91 = (0, 92, 0, -1, []) by decide +kernel) ?_
    refine e_cmp1 (show am_cd 135 92 = (11, 95, 98, 1, []) by decide +kernel) (fun hc => ?_) (fun hc => ?_)
    · replace h := h.1 hc
      refine e_inc (la2 := [rA 1, (0, n), (0, i + 1)]) (show am_cd 135 98 = (4, 101, 2, 1, []) by decide +kernel) rfl rfl ?_
      refine e_go (show am_cd 135 101 = (12, 49, 0, 0, []) by decide +kernel) ?_
      exact h
    · replace h := h.2 hc
      refine e_ic (show am_cd 135 95 = (0, 97, 1, -2, []) by decide +kernel) ?_
      exact e_reti (show am_cd 135 97 = (36, 98, 0, 0, []) by decide +kernel) (by decide +kernel) h

theorem g_cj2 {d : Nat} {Q : Option aV → aS → Prop} {w : eW} {t : eT} {n i : Int} {tx : List Int} {m : eW} {ps : List Nat} (h : ((w32 n ≤ w32 i → (LN w m ∧ RC w m ∧ WFp m ∧ WFr m ∧ GvC w ps ∧ ps.length ≤ 16 ∧ (∀ p ∈ ps, p < nP m) ∧ n = (ps.length : Int)) ∧ (∀ x1 w2, (x1 = ((jal m ps (nR m) : Nat) : Int) ∧ Fc [65, 66] [(1, 14)] w w2 ∧ TlC w2 (jrs m ps (nR m))) → Q (some (0, x1)) (enc w2 t))) ∧ (¬ (w32 n ≤ w32 i) → (0 ≤ w32 (i - 1) ∧ w32 (i - 1) < 16) ∧ (AC w m ∧ WFp m ∧ ((0 : Int) ≤ w 64 (w32 (i - 1)).toNat ∧ (w 64 (w32 (i - 1)).toNat : Int) < 32)) ∧ (((isI m (w 64 (w32 (i - 1)).toNat).toNat) = false → Ev (d + 4) 135 Q 106 [rA 1, (0, n), (0, i + 1)] [] (enc w t)) ∧ ((isI m (w 64 (w32 (i - 1)).toNat).toNat) = true → (0 ≤ w32 i ∧ w32 i < 16) ∧ (AC w m ∧ WFp m ∧ ((0 : Int) ≤ w 64 (w32 i).toNat ∧ (w 64 (w32 i).toNat : Int) < 32)) ∧ (((isI m (w 64 (w32 i).toNat).toNat) = false → Ev (d + 4) 135 Q 106 [rA 1, (0, n), (0, i + 1)] [] (enc w t)) ∧ ((isI m (w 64 (w32 i).toNat).toNat) = true → Q (some (0, (-3))) (enc w t)))))))) : Ev (d + 4) 135 Q 106 [rA 1, (0, n), (0, i)] [] (enc w t) := by
  refine e_ldi (show am_cd 135 106 = (2, 107, 2, 0, []) by decide +kernel) rfl ?_
  refine e_ldi (show am_cd 135 107 = (2, 108, 1, 0, []) by decide +kernel) rfl ?_
  refine e_cmp3 (show am_cd 135 108 = (11, 111, 154, 3, []) by decide +kernel) (fun hc => ?_) (fun hc => ?_)
  · replace h := h.1 hc
    refine e_lda (v := 1) (show am_cd 135 154 = (2, 155, 0, 2, []) by decide +kernel) rfl ?_
    refine e_ldi (show am_cd 135 155 = (2, 156, 1, 0, []) by decide +kernel) rfl ?_
    refine e_cV (z := 0) (a := 1) (as := [(0, n)]) (rest := []) (show am_cd 135 156 = (40, 159, 136, 0, [230]) by decide +kernel) (by decide +kernel) rfl rfl (Nat.le_of_ble_eq_true rfl) rfl ?_
    refine Cl.mono (Cl.up (c_tfU (ps := ps) (d := d) h.1) (by omega)) ?_
    rintro _ _ ⟨x1, w2, rfl, rfl, hp⟩
    refine ⟨fun _ h9 => (by cases h9), ?_⟩
    replace h := h.2 x1 w2 hp
    show Ev _ 135 _ 159 [rA 1, (0, n), (0, i)] [(0, x1)] _
    exact e_reti (show am_cd 135 159 = (36, 160, 0, 0, []) by decide +kernel) (by decide +kernel) h
  · replace h := h.2 hc
    refine e_lda (v := 1) (show am_cd 135 111 = (2, 112, 0, 2, []) by decide +kernel) rfl ?_
    refine e_getr (a := 1) (r := 8) (show am_cd 135 112 = (18, 115, 1101, 2, [19]) by decide +kernel) (by decide +kernel) (by decide +kernel) rfl ?_
    refine e_lda (v := 1) (show am_cd 135 115 = (2, 116, 0, 2, []) by decide +kernel) rfl ?_
    refine e_getr (a := 1) (r := 64) (show am_cd 135 116 = (18, 119, 1111, 2, [94]) by decide +kernel) (by decide +kernel) (by decide +kernel) rfl ?_
    refine e_ldi (show am_cd 135 119 = (2, 120, 2, 0, []) by decide +kernel) rfl ?_
    refine e_ic (show am_cd 135 120 = (0, 121, 0, 1, []) by decide +kernel) ?_
    refine e_isub (show am_cd 135 121 = (5, 122, 1, 0, []) by decide +kernel) ?_
    refine e_iald (a := 64) (n := 16) (show am_cd 135 122 = (21, 123, 0, 0, []) by decide +kernel) (by decide +kernel) (by decide +kernel) (by decide +kernel) h.1 ?_
    replace h := h.2
    refine e_cV (z := 0) (a := 8) (as := [(0, w 64 (w32 (i - 1)).toNat)]) (rest := []) (show am_cd 135 123 = (40, 126, 3, 0, [227]) by decide +kernel) (by decide +kernel) rfl rfl (Nat.le_of_ble_eq_true rfl) rfl ?_
    refine Cl.mono (Cl.up (c_isIc (d := d) h.1) (by omega)) ?_
    rintro _ _ ⟨rfl, rfl⟩
    refine ⟨fun _ h9 => (by cases h9), ?_⟩
    replace h := h.2
    show Ev _ 135 _ 126 [rA 1, (0, n), (0, i)] [(0, bI (isI m (w 64 (w32 (i - 1)).toNat).toNat))] _
    refine e_ifb0 (show am_cd 135 126 = (10, 129, 148, 0, []) by decide +kernel) (fun hc => ?_) (fun hc => ?_)
    · replace h := h.1 hc
      refine e_inc (la2 := [rA 1, (0, n), (0, i + 1)]) (show am_cd 135 148 = (4, 151, 2, 1, []) by decide +kernel) rfl rfl ?_
      refine e_go (show am_cd 135 151 = (12, 106, 0, 0, []) by decide +kernel) ?_
      exact h
    · replace h := h.2 hc
      refine e_lda (v := 1) (show am_cd 135 129 = (2, 130, 0, 2, []) by decide +kernel) rfl ?_
      refine e_getr (a := 1) (r := 8) (show am_cd 135 130 = (18, 133, 1101, 2, [19]) by decide +kernel) (by decide +kernel) (by decide +kernel) rfl ?_
      refine e_lda (v := 1) (show am_cd 135 133 = (2, 134, 0, 2, []) by decide +kernel) rfl ?_
      refine e_getr (a := 1) (r := 64) (show am_cd 135 134 = (18, 137, 1111, 2, [94]) by decide +kernel) (by decide +kernel) (by decide +kernel) rfl ?_
      refine e_ldi (show am_cd 135 137 = (2, 138, 2, 0, []) by decide +kernel) rfl ?_
      refine e_iald (a := 64) (n := 16) (show am_cd 135 138 = (21, 139, 0, 0, []) by decide +kernel) (by decide +kernel) (by decide +kernel) (by decide +kernel) h.1 ?_
      replace h := h.2
      refine e_cV (z := 0) (a := 8) (as := [(0, w 64 (w32 i).toNat)]) (rest := []) (show am_cd 135 139 = (40, 142, 3, 0, [227]) by decide +kernel) (by decide +kernel) rfl rfl (Nat.le_of_ble_eq_true rfl) rfl ?_
      refine Cl.mono (Cl.up (c_isIc (d := d) h.1) (by omega)) ?_
      rintro _ _ ⟨rfl, rfl⟩
      refine ⟨fun _ h9 => (by cases h9), ?_⟩
      replace h := h.2
      show Ev _ 135 _ 142 [rA 1, (0, n), (0, i)] [(0, bI (isI m (w 64 (w32 i).toNat).toNat))] _
      refine e_ifb0 (show am_cd 135 142 = (10, 145, 148, 0, []) by decide +kernel) (fun hc => ?_) (fun hc => ?_)
      · replace h := h.1 hc
        refine e_inc (la2 := [rA 1, (0, n), (0, i + 1)]) (show am_cd 135 148 = (4, 151, 2, 1, []) by decide +kernel) rfl rfl ?_
        refine e_go (show am_cd 135 151 = (12, 106, 0, 0, []) by decide +kernel) ?_
        exact h
      · replace h := h.2 hc
        refine e_ic (show am_cd 135 145 = (0, 147, 1, -3, []) by decide +kernel) ?_
        exact e_reti (show am_cd 135 147 = (36, 148, 0, 0, []) by decide +kernel) (by decide +kernel) h

theorem g_cjudges {d : Nat} {Q : Option aV → aS → Prop} {w : eW} {t : eT} {tx : List Int} {m : eW} {ps : List Nat} (h : Cl (d + 4) 135 [rA 1] (enc w t) (fun r S2 => (∀ x, r ≠ some (6, x)) ∧ Ev (d + 5) 134 Q 4 [rA 1, (9, 0)] (r.toList ++ []) S2)) : Cl (d + 5) 134 [rA 1] (enc w t) Q := by
  show Ev (d + 5) 134 Q 0 [rA 1, (9, 0)] [] (enc w t)
  refine e_lda (v := 1) (show am_cd 134 0 = (2, 1, 0, 2, []) by decide +kernel) rfl ?_
  refine e_cV (z := 0) (a := 1) (as := []) (rest := []) (show am_cd 134 1 = (40, 4, 135, 0, [215]) by decide +kernel) (by decide +kernel) rfl rfl (Nat.le_of_ble_eq_true rfl) rfl ?_
  exact h

theorem g_cjudges1 {d : Nat} {Q : Option aV → aS → Prop} {w : eW} {t : eT} {v : Int} {tx : List Int} {m : eW} {ps : List Nat} (h : Q (some (0, v)) (enc (wu (wu w 2 5 0) 2 6 0) t)) : Ev (d + 5) 134 Q 4 [rA 1, (9, 0)] [(0, v)] (enc w t) := by
  refine e_sti (la2 := [rA 1, (0, v)]) (show am_cd 134 4 = (3, 5, 1, 0, []) by decide +kernel) rfl ?_
  refine e_lda (v := 1) (show am_cd 134 5 = (2, 6, 0, 2, []) by decide +kernel) rfl ?_
  refine e_getr (a := 1) (r := 2) (show am_cd 134 6 = (18, 9, 1100, 2, [12]) by decide +kernel) (by decide +kernel) (by decide +kernel) rfl ?_
  refine e_cV (z := 0) (a := 2) (as := []) (rest := []) (show am_cd 134 9 = (40, 12, 79, 0, [117]) by decide +kernel) (by decide +kernel) rfl rfl (Nat.le_of_ble_eq_true rfl) rfl ?_
  show Ev _ 79 _ 0 [rA 2] [] _
  refine e_lda (v := 2) (show am_cd 79 0 = (2, 1, 0, 2, []) by decide +kernel) rfl ?_
  refine e_ic (show am_cd 79 1 = (0, 2, 0, 0, []) by decide +kernel) ?_
  refine e_putf (a := 2) (show am_cd 79 2 = (19, 5, 805, 0, [27]) by decide +kernel) (by decide +kernel) (by decide +kernel) rfl (fun h9 => absurd h9 (by decide)) (fun h9 => absurd h9 (by decide +kernel)) ?_
  refine e_lda (v := 2) (show am_cd 79 5 = (2, 6, 0, 2, []) by decide +kernel) rfl ?_
  refine e_ic (show am_cd 79 6 = (0, 7, 0, 0, []) by decide +kernel) ?_
  refine e_putf (a := 2) (show am_cd 79 7 = (19, 10, 806, 0, [31]) by decide +kernel) (by decide +kernel) (by decide +kernel) rfl (fun h9 => absurd h9 (by decide)) (fun h9 => absurd h9 (by decide +kernel)) ?_
  refine e_retv (show am_cd 79 10 = (36, 11, 3, 0, []) by decide +kernel) (by decide +kernel) ⟨fun _ h9 => (by cases h9), ?_⟩
  show Ev _ 134 _ 12 [rA 1, (0, v)] [] _
  refine e_ldi (show am_cd 134 12 = (2, 13, 1, 0, []) by decide +kernel) rfl ?_
  exact e_reti (show am_cd 134 13 = (36, 14, 0, 0, []) by decide +kernel) (by decide +kernel) h

