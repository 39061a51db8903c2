/-! The class: the least number of faults. -/

abbrev nC (m : eW) (l1 l2 : List Int) (i j : Nat) (g : t3) : Nat := clC m (ltF l1) l1.length (ltF l2) l2.length i j g
def PmN (m : eW) (l1 l2 : List Int) (key v : Int) : Prop := ∀ (i j : Nat) (g : t3), i ≤ 6 → j ≤ 6 → gL g ≤ 16 → key = (((trG m g : Nat) : Int) * 7 + (i : Int)) * 7 + (j : Int) → v = ((nC m l1 l2 i j g : Nat) : Int)
def LsR (l1 l2 : List Int) (m : eW) (b : Nat × Nat) (B : Nat) (g : t3) (i j x q : Int) (w : eW) (t : eT) : Prop := NX l1 l2 m w ∧ MC (PmN m l1 l2) b m w t ∧ (0 ≤ i ∧ i ≤ (l1.length : Int)) ∧ (0 ≤ j ∧ j ≤ (l2.length : Int)) ∧ x = ((trG m g : Nat) : Int) ∧ gL g ≤ 16 ∧ (0 ≤ q ∧ q + ((l1.length : Int) - i) + ((l2.length : Int) - j) ≤ 13) ∧ (l1.length - i.toNat) + (l2.length - j.toNat) < B
def LsO (l1 l2 : List Int) (m : eW) (b : Nat × Nat) (g : t3) (i j x q : Int) (w : eW) (t : eT) (y : Int) (w2 : eW) (t2 : eT) : Prop := y = ((nC m l1 l2 i.toNat j.toNat g : Nat) : Int) ∧ MR w t w2 t2 ∧ MC (PmN m l1 l2) b m w2 t2
/-- with a pair that comes next -/
def LwR (l1 l2 : List Int) (m : eW) (b : Nat × Nat) (B : Nat) (g : t3) (i j x p q : Int) (w : eW) (t : eT) : Prop := LsR l1 l2 m b (B + 1) g i j x q w t ∧ (0 ≤ p ∧ p < 16) ∧ (nfB m l1 l2 i.toNat j.toNat (gL g)).testBit p.toNat = true
def LwO (l1 l2 : List Int) (m : eW) (b : Nat × Nat) (g : t3) (i j x p q : Int) (w : eW) (t : eT) (y : Int) (w2 : eW) (t2 : eT) : Prop := (∃ u l, upT m (ltF l1) l1.length i.toNat p.toNat = some u ∧ loT m (ltF l2) l2.length j.toNat p.toNat = some l ∧ y = ((brs m (-1) g.1 g.2.1 g.2.2 p.toNat + nC m l1 l2 u l (gN g p.toNat) : Nat) : Int)) ∧ MR w t w2 t2 ∧ MC (PmN m l1 l2) b m w2 t2

theorem g_nw {d : Nat} {Q : Option aV → aS → Prop} {w : eW} {t : eT} {i j x p q : Int} {m : eW} {b : Nat × Nat} {P : Int → Int → Prop} {l1 l2 : List Int} {γL : Type} {PRL : γL → Int → Int → Int → Int → eW → eT → Prop} {POL : γL → Int → Int → Int → Int → eW → eT → Int → eW → eT → Prop} (hrL : ∀ (g : γL) (a1 a2 a3 a4 : Int) (w : eW) (t : eT), PRL g a1 a2 a3 a4 w t → Cl (d + 2) 51 [rA 56, (0, a1), (0, a2), (0, a3), (0, a4)] (enc w t) (fun r S2 => ∃ x w2 t2, r = some (0, x) ∧ S2 = enc w2 t2 ∧ POL g a1 a2 a3 a4 w t x w2 t2)) (h : (0 ≤ w32 p ∧ w32 p < 16) ∧ ((¬ w32 (w 9 (w32 p).toNat) = 0 → (0 ≤ w32 p ∧ w32 p < 16) ∧ ((¬ w32 (w 10 (w32 p).toNat) = 0 → ∃ g1, (LN w m ∧ WFp m ∧ WFr m ∧ x = ((trG m g1 : Nat) : Int) ∧ gL g1 ≤ 16 ∧ (0 : Int) ≤ p ∧ (p : Int) ≤ 16) ∧ (∀ x2, (x2 = ((brs m (-1) g1.1 g1.2.1 g1.2.2 p.toNat : Nat) : Int)) → ∃ g3, (LN w m ∧ WFp m ∧ WFr m ∧ x = ((trG m g3 : Nat) : Int) ∧ gL g3 ≤ 16 ∧ (0 : Int) ≤ p ∧ (p : Int) ≤ 16) ∧ (∀ x4, (x4 = ((trG m (gN g3 p.toNat) : Nat) : Int)) → ∃ g5, (PRL g5 (i + 1) (j + 1) x4 (q + 1) w t) ∧ (∀ x6 w7 t8, (POL g5 (i + 1) (j + 1) x4 (q + 1) w t x6 w7 t8) → Q (some (0, x2 + x6)) (enc w7 t8))))) ∧ (¬ (¬ w32 (w 10 (w32 p).toNat) = 0) → ∃ g9, (LN w m ∧ WFp m ∧ WFr m ∧ x = ((trG m g9 : Nat) : Int) ∧ gL g9 ≤ 16 ∧ (0 : Int) ≤ p ∧ (p : Int) ≤ 16) ∧ (∀ x10, (x10 = ((brs m (-1) g9.1 g9.2.1 g9.2.2 p.toNat : Nat) : Int)) → ∃ g11, (LN w m ∧ WFp m ∧ WFr m ∧ x = ((trG m g11 : Nat) : Int) ∧ gL g11 ≤ 16 ∧ (0 : Int) ≤ p ∧ (p : Int) ≤ 16) ∧ (∀ x12, (x12 = ((trG m (gN g11 p.toNat) : Nat) : Int)) → ∃ g13, (PRL g13 (i + 1) j x12 (q + 1) w t) ∧ (∀ x14 w15 t16, (POL g13 (i + 1) j x12 (q + 1) w t x14 w15 t16) → Q (some (0, x10 + x14)) (enc w15 t16))))))) ∧ (¬ (¬ w32 (w 9 (w32 p).toNat) = 0) → (0 ≤ w32 p ∧ w32 p < 16) ∧ ((¬ w32 (w 10 (w32 p).toNat) = 0 → ∃ g17, (LN w m ∧ WFp m ∧ WFr m ∧ x = ((trG m g17 : Nat) : Int) ∧ gL g17 ≤ 16 ∧ (0 : Int) ≤ p ∧ (p : Int) ≤ 16) ∧ (∀ x18, (x18 = ((brs m (-1) g17.1 g17.2.1 g17.2.2 p.toNat : Nat) : Int)) → ∃ g19, (LN w m ∧ WFp m ∧ WFr m ∧ x = ((trG m g19 : Nat) : Int) ∧ gL g19 ≤ 16 ∧ (0 : Int) ≤ p ∧ (p : Int) ≤ 16) ∧ (∀ x20, (x20 = ((trG m (gN g19 p.toNat) : Nat) : Int)) → ∃ g21, (PRL g21 i (j + 1) x20 (q + 1) w t) ∧ (∀ x22 w23 t24, (POL g21 i (j + 1) x20 (q + 1) w t x22 w23 t24) → Q (some (0, x18 + x22)) (enc w23 t24))))) ∧ (¬ (¬ w32 (w 10 (w32 p).toNat) = 0) → ∃ g25, (LN w m ∧ WFp m ∧ WFr m ∧ x = ((trG m g25 : Nat) : Int) ∧ gL g25 ≤ 16 ∧ (0 : Int) ≤ p ∧ (p : Int) ≤ 16) ∧ (∀ x26, (x26 = ((brs m (-1) g25.1 g25.2.1 g25.2.2 p.toNat : Nat) : Int)) → ∃ g27, (LN w m ∧ WFp m ∧ WFr m ∧ x = ((trG m g27 : Nat) : Int) ∧ gL g27 ≤ 16 ∧ (0 : Int) ≤ p ∧ (p : Int) ≤ 16) ∧ (∀ x28, (x28 = ((trG m (gN g27 p.toNat) : Nat) : Int)) → ∃ g29, (PRL g29 i j x28 (q + 1) w t) ∧ (∀ x30 w31 t32, (POL g29 i j x28 (q + 1) w t x30 w31 t32) → Q (some (0, x26 + x30)) (enc w31 t32))))))))) : Cl (d + 3) 52 [rA 56, (0, i), (0, j), (0, x), (0, p), (0, q)] (enc w t) Q := by
  show Ev (d + 3) 52 Q 0 [rA 56, (0, i), (0, j), (0, x), (0, p), (0, q), (9, 0), (9, 0)] [] (enc w t)
  refine e_lda (v := 56) (show am_cd 52 0 = (2, 1, 0, 2, []) by decide +kernel) rfl ?_
  refine e_getr (a := 56) (r := 8) (show am_cd 52 1 = (18, 4, 601, 2, [19]) by decide +kernel) (by decide +kernel) (by decide +kernel) rfl ?_
  refine e_getr (a := 8) (r := 9) (show am_cd 52 4 = (18, 7, 0, 2, [75]) by decide +kernel) (by decide +kernel) (by decide +kernel) rfl ?_
  refine e_ldi (show am_cd 52 7 = (2, 9, 4, 0, []) by decide +kernel) rfl ?_
  refine e_iald (a := 9) (n := 16) (show am_cd 52 9 = (21, 10, 0, 0, []) by decide +kernel) (by decide +kernel) (by decide +kernel) (by decide +kernel) h.1 ?_
  replace h := h.2
  refine e_if1 (show am_cd 52 10 = (10, 13, 17, 1, []) by decide +kernel) (fun hc => ?_) (fun hc => ?_)
  · replace h := h.1 hc
    refine e_ldi (show am_cd 52 17 = (2, 18, 1, 0, []) by decide +kernel) rfl ?_
    refine e_ic (show am_cd 52 18 = (0, 19, 0, 1, []) by decide +kernel) ?_
    refine e_iadd (show am_cd 52 19 = (5, 20, 0, 0, []) by decide +kernel) ?_
    refine e_sti (la2 := [rA 56, (0, i), (0, j), (0, x), (0, p), (0, q), (0, i + 1), (9, 0)]) (show am_cd 52 20 = (3, 22, 6, 0, []) by decide +kernel) rfl ?_
    refine e_lda (v := 56) (show am_cd 52 22 = (2, 23, 0, 2, []) by decide +kernel) rfl ?_
    refine e_getr (a := 56) (r := 8) (show am_cd 52 23 = (18, 26, 601, 2, [19]) by decide +kernel) (by decide +kernel) (by decide +kernel) rfl ?_
    refine e_getr (a := 8) (r := 10) (show am_cd 52 26 = (18, 29, 1, 2, [80]) by decide +kernel) (by decide +kernel) (by decide +kernel) rfl ?_
    refine e_ldi (show am_cd 52 29 = (2, 31, 4, 0, []) by decide +kernel) rfl ?_
    refine e_iald (a := 10) (n := 16) (show am_cd 52 31 = (21, 32, 0, 0, []) by decide +kernel) (by decide +kernel) (by decide +kernel) (by decide +kernel) h.1 ?_
    replace h := h.2
    refine e_if1 (show am_cd 52 32 = (10, 35, 39, 1, []) by decide +kernel) (fun hc => ?_) (fun hc => ?_)
    · replace h := h.1 hc
      refine e_ldi (show am_cd 52 39 = (2, 40, 2, 0, []) by decide +kernel) rfl ?_
      refine e_ic (show am_cd 52 40 = (0, 41, 0, 1, []) by decide +kernel) ?_
      refine e_iadd (show am_cd 52 41 = (5, 42, 0, 0, []) by decide +kernel) ?_
      refine e_sti (la2 := [rA 56, (0, i), (0, j), (0, x), (0, p), (0, q), (0, i + 1), (0, j + 1)]) (show am_cd 52 42 = (3, 44, 7, 0, []) by decide +kernel) rfl ?_
      refine e_lda (v := 56) (show am_cd 52 44 = (2, 45, 0, 2, []) by decide +kernel) rfl ?_
      refine e_ldi (show am_cd 52 45 = (2, 46, 3, 0, []) by decide +kernel) rfl ?_
      refine e_ldi (show am_cd 52 46 = (2, 48, 4, 0, []) by decide +kernel) rfl ?_
      refine e_cV (z := 0) (a := 56) (as := [(0, x), (0, p)]) (rest := []) (show am_cd 52 48 = (40, 51, 54, 0, [54]) by decide +kernel) (by decide +kernel) rfl rfl (Nat.le_of_ble_eq_true rfl) rfl ?_
      obtain ⟨g1, h⟩ := h
      refine Cl.mono (Cl.up (c_nf (d := d) g1 h.1) (by omega)) ?_
      rintro _ _ ⟨x2, rfl, rfl, hp⟩
      refine ⟨fun _ h9 => (by cases h9), ?_⟩
      replace h := h.2 x2 hp
      show Ev _ 52 _ 51 [rA 56, (0, i), (0, j), (0, x), (0, p), (0, q), (0, i + 1), (0, j + 1)] [(0, x2)] _
      refine e_lda (v := 56) (show am_cd 52 51 = (2, 52, 0, 2, []) by decide +kernel) rfl ?_
      refine e_ldi (show am_cd 52 52 = (2, 54, 6, 0, []) by decide +kernel) rfl ?_
      refine e_ldi (show am_cd 52 54 = (2, 56, 7, 0, []) by decide +kernel) rfl ?_
      refine e_lda (v := 56) (show am_cd 52 56 = (2, 57, 0, 2, []) by decide +kernel) rfl ?_
      refine e_getr (a := 56) (r := 15) (show am_cd 52 57 = (18, 60, 602, 2, [23]) by decide +kernel) (by decide +kernel) (by decide +kernel) rfl ?_
      refine e_ldi (show am_cd 52 60 = (2, 61, 3, 0, []) by decide +kernel) rfl ?_
      refine e_ldi (show am_cd 52 61 = (2, 63, 4, 0, []) by decide +kernel) rfl ?_
      refine e_cV (z := 0) (a := 15) (as := [(0, x), (0, p)]) (rest := [(0, j + 1), (0, i + 1), rA 56, (0, x2)]) (show am_cd 52 63 = (40, 66, 74, 0, [83]) by decide +kernel) (by decide +kernel) rfl rfl (Nat.le_of_ble_eq_true rfl) rfl ?_
      obtain ⟨g3, h⟩ := h
      refine Cl.mono (Cl.up (c_rfollowU (d := d) g3 h.1) (by omega)) ?_
      rintro _ _ ⟨x4, rfl, rfl, hp⟩
      refine ⟨fun _ h9 => (by cases h9), ?_⟩
      replace h := h.2 x4 hp
      show Ev _ 52 _ 66 [rA 56, (0, i), (0, j), (0, x), (0, p), (0, q), (0, i + 1), (0, j + 1)] [(0, x4), (0, j + 1), (0, i + 1), rA 56, (0, x2)] _
      refine e_ldi (show am_cd 52 66 = (2, 68, 5, 0, []) by decide +kernel) rfl ?_
      refine e_ic (show am_cd 52 68 = (0, 69, 0, 1, []) by decide +kernel) ?_
      refine e_iadd (show am_cd 52 69 = (5, 70, 0, 0, []) by decide +kernel) ?_
      refine e_cV (z := 0) (a := 56) (as := [(0, i + 1), (0, j + 1), (0, x4), (0, q + 1)]) (rest := [(0, x2)]) (show am_cd 52 70 = (40, 73, 51, 0, [42]) by decide +kernel) (by decide +kernel) rfl rfl (Nat.le_of_ble_eq_true rfl) rfl ?_
      obtain ⟨g5, h⟩ := h
      refine Cl.mono (Cl.up (hrL g5 _ _ _ _ _ _ h.1) (by omega)) ?_
      rintro _ _ ⟨x6, w7, t8, rfl, rfl, hp⟩
      refine ⟨fun _ h9 => (by cases h9), ?_⟩
      replace h := h.2 x6 w7 t8 hp
      show Ev _ 52 _ 73 [rA 56, (0, i), (0, j), (0, x), (0, p), (0, q), (0, i + 1), (0, j + 1)] [(0, x6), (0, x2)] _
      refine e_iadd (show am_cd 52 73 = (5, 74, 0, 0, []) by decide +kernel) ?_
      exact e_reti (show am_cd 52 74 = (36, 75, 0, 0, []) by decide +kernel) (by decide +kernel) h
    · replace h := h.2 hc
      refine e_ldi (show am_cd 52 35 = (2, 36, 2, 0, []) by decide +kernel) rfl ?_
      refine e_go (show am_cd 52 36 = (12, 42, 0, 0, []) by decide +kernel) ?_
      refine e_sti (la2 := [rA 56, (0, i), (0, j), (0, x), (0, p), (0, q), (0, i + 1), (0, j)]) (show am_cd 52 42 = (3, 44, 7, 0, []) by decide +kernel) rfl ?_
      refine e_lda (v := 56) (show am_cd 52 44 = (2, 45, 0, 2, []) by decide +kernel) rfl ?_
      refine e_ldi (show am_cd 52 45 = (2, 46, 3, 0, []) by decide +kernel) rfl ?_
      refine e_ldi (show am_cd 52 46 = (2, 48, 4, 0, []) by decide +kernel) rfl ?_
      refine e_cV (z := 0) (a := 56) (as := [(0, x), (0, p)]) (rest := []) (show am_cd 52 48 = (40, 51, 54, 0, [54]) by decide +kernel) (by decide +kernel) rfl rfl (Nat.le_of_ble_eq_true rfl) rfl ?_
      obtain ⟨g9, h⟩ := h
      refine Cl.mono (Cl.up (c_nf (d := d) g9 h.1) (by omega)) ?_
      rintro _ _ ⟨x10, rfl, rfl, hp⟩
      refine ⟨fun _ h9 => (by cases h9), ?_⟩
      replace h := h.2 x10 hp
      show Ev _ 52 _ 51 [rA 56, (0, i), (0, j), (0, x), (0, p), (0, q), (0, i + 1), (0, j)] [(0, x10)] _
      refine e_lda (v := 56) (show am_cd 52 51 = (2, 52, 0, 2, []) by decide +kernel) rfl ?_
      refine e_ldi (show am_cd 52 52 = (2, 54, 6, 0, []) by decide +kernel) rfl ?_
      refine e_ldi (show am_cd 52 54 = (2, 56, 7, 0, []) by decide +kernel) rfl ?_
      refine e_lda (v := 56) (show am_cd 52 56 = (2, 57, 0, 2, []) by decide +kernel) rfl ?_
      refine e_getr (a := 56) (r := 15) (show am_cd 52 57 = (18, 60, 602, 2, [23]) by decide +kernel) (by decide +kernel) (by decide +kernel) rfl ?_
      refine e_ldi (show am_cd 52 60 = (2, 61, 3, 0, []) by decide +kernel) rfl ?_
      refine e_ldi (show am_cd 52 61 = (2, 63, 4, 0, []) by decide +kernel) rfl ?_
      refine e_cV (z := 0) (a := 15) (as := [(0, x), (0, p)]) (rest := [(0, j), (0, i + 1), rA 56, (0, x10)]) (show am_cd 52 63 = (40, 66, 74, 0, [83]) by decide +kernel) (by decide +kernel) rfl rfl (Nat.le_of_ble_eq_true rfl) rfl ?_
      obtain ⟨g11, h⟩ := h
      refine Cl.mono (Cl.up (c_rfollowU (d := d) g11 h.1) (by omega)) ?_
      rintro _ _ ⟨x12, rfl, rfl, hp⟩
      refine ⟨fun _ h9 => (by cases h9), ?_⟩
      replace h := h.2 x12 hp
      show Ev _ 52 _ 66 [rA 56, (0, i), (0, j), (0, x), (0, p), (0, q), (0, i + 1), (0, j)] [(0, x12), (0, j), (0, i + 1), rA 56, (0, x10)] _
      refine e_ldi (show am_cd 52 66 = (2, 68, 5, 0, []) by decide +kernel) rfl ?_
      refine e_ic (show am_cd 52 68 = (0, 69, 0, 1, []) by decide +kernel) ?_
      refine e_iadd (show am_cd 52 69 = (5, 70, 0, 0, []) by decide +kernel) ?_
      refine e_cV (z := 0) (a := 56) (as := [(0, i + 1), (0, j), (0, x12), (0, q + 1)]) (rest := [(0, x10)]) (show am_cd 52 70 = (40, 73, 51, 0, [42]) by decide +kernel) (by decide +kernel) rfl rfl (Nat.le_of_ble_eq_true rfl) rfl ?_
      obtain ⟨g13, h⟩ := h
      refine Cl.mono (Cl.up (hrL g13 _ _ _ _ _ _ h.1) (by omega)) ?_
      rintro _ _ ⟨x14, w15, t16, rfl, rfl, hp⟩
      refine ⟨fun _ h9 => (by cases h9), ?_⟩
      replace h := h.2 x14 w15 t16 hp
      show Ev _ 52 _ 73 [rA 56, (0, i), (0, j), (0, x), (0, p), (0, q), (0, i + 1), (0, j)] [(0, x14), (0, x10)] _
      refine e_iadd (show am_cd 52 73 = (5, 74, 0, 0, []) by decide +kernel) ?_
      exact e_reti (show am_cd 52 74 = (36, 75, 0, 0, []) by decide +kernel) (by decide +kernel) h
  · replace h := h.2 hc
    refine e_ldi (show am_cd 52 13 = (2, 14, 1, 0, []) by decide +kernel) rfl ?_
    refine e_go (show am_cd 52 14 = (12, 20, 0, 0, []) by decide +kernel) ?_
    refine e_sti (la2 := [rA 56, (0, i), (0, j), (0, x), (0, p), (0, q), (0, i), (9, 0)]) (show am_cd 52 20 = (3, 22, 6, 0, []) by decide +kernel) rfl ?_
    refine e_lda (v := 56) (show am_cd 52 22 = (2, 23, 0, 2, []) by decide +kernel) rfl ?_
    refine e_getr (a := 56) (r := 8) (show am_cd 52 23 = (18, 26, 601, 2, [19]) by decide +kernel) (by decide +kernel) (by decide +kernel) rfl ?_
    refine e_getr (a := 8) (r := 10) (show am_cd 52 26 = (18, 29, 1, 2, [80]) by decide +kernel) (by decide +kernel) (by decide +kernel) rfl ?_
    refine e_ldi (show am_cd 52 29 = (2, 31, 4, 0, []) by decide +kernel) rfl ?_
    refine e_iald (a := 10) (n := 16) (show am_cd 52 31 = (21, 32, 0, 0, []) by decide +kernel) (by decide +kernel) (by decide +kernel) (by decide +kernel) h.1 ?_
    replace h := h.2
    refine e_if1 (show am_cd 52 32 = (10, 35, 39, 1, []) by decide +kernel) (fun hc => ?_) (fun hc => ?_)
    · replace h := h.1 hc
      refine e_ldi (show am_cd 52 39 = (2, 40, 2, 0, []) by decide +kernel) rfl ?_
      refine e_ic (show am_cd 52 40 = (0, 41, 0, 1, []) by decide +kernel) ?_
      refine e_iadd (show am_cd 52 41 = (5, 42, 0, 0, []) by decide +kernel) ?_
      refine e_sti (la2 := [rA 56, (0, i), (0, j), (0, x), (0, p), (0, q), (0, i), (0, j + 1)]) (show am_cd 52 42 = (3, 44, 7, 0, []) by decide +kernel) rfl ?_
      refine e_lda (v := 56) (show am_cd 52 44 = (2, 45, 0, 2, []) by decide +kernel) rfl ?_
      refine e_ldi (show am_cd 52 45 = (2, 46, 3, 0, []) by decide +kernel) rfl ?_
      refine e_ldi (show am_cd 52 46 = (2, 48, 4, 0, []) by decide +kernel) rfl ?_
      refine e_cV (z := 0) (a := 56) (as := [(0, x), (0, p)]) (rest := []) (show am_cd 52 48 = (40, 51, 54, 0, [54]) by decide +kernel) (by decide +kernel) rfl rfl (Nat.le_of_ble_eq_true rfl) rfl ?_
      obtain ⟨g17, h⟩ := h
      refine Cl.mono (Cl.up (c_nf (d := d) g17 h.1) (by omega)) ?_
      rintro _ _ ⟨x18, rfl, rfl, hp⟩
      refine ⟨fun _ h9 => (by cases h9), ?_⟩
      replace h := h.2 x18 hp
      show Ev _ 52 _ 51 [rA 56, (0, i), (0, j), (0, x), (0, p), (0, q), (0, i), (0, j + 1)] [(0, x18)] _
      refine e_lda (v := 56) (show am_cd 52 51 = (2, 52, 0, 2, []) by decide +kernel) rfl ?_
      refine e_ldi (show am_cd 52 52 = (2, 54, 6, 0, []) by decide +kernel) rfl ?_
      refine e_ldi (show am_cd 52 54 = (2, 56, 7, 0, []) by decide +kernel) rfl ?_
      refine e_lda (v := 56) (show am_cd 52 56 = (2, 57, 0, 2, []) by decide +kernel) rfl ?_
      refine e_getr (a := 56) (r := 15) (show am_cd 52 57 = (18, 60, 602, 2, [23]) by decide +kernel) (by decide +kernel) (by decide +kernel) rfl ?_
      refine e_ldi (show am_cd 52 60 = (2, 61, 3, 0, []) by decide +kernel) rfl ?_
      refine e_ldi (show am_cd 52 61 = (2, 63, 4, 0, []) by decide +kernel) rfl ?_
      refine e_cV (z := 0) (a := 15) (as := [(0, x), (0, p)]) (rest := [(0, j + 1), (0, i), rA 56, (0, x18)]) (show am_cd 52 63 = (40, 66, 74, 0, [83]) by decide +kernel) (by decide +kernel) rfl rfl (Nat.le_of_ble_eq_true rfl) rfl ?_
      obtain ⟨g19, h⟩ := h
      refine Cl.mono (Cl.up (c_rfollowU (d := d) g19 h.1) (by omega)) ?_
      rintro _ _ ⟨x20, rfl, rfl, hp⟩
      refine ⟨fun _ h9 => (by cases h9), ?_⟩
      replace h := h.2 x20 hp
      show Ev _ 52 _ 66 [rA 56, (0, i), (0, j), (0, x), (0, p), (0, q), (0, i), (0, j + 1)] [(0, x20), (0, j + 1), (0, i), rA 56, (0, x18)] _
      refine e_ldi (show am_cd 52 66 = (2, 68, 5, 0, []) by decide +kernel) rfl ?_
      refine e_ic (show am_cd 52 68 = (0, 69, 0, 1, []) by decide +kernel) ?_
      refine e_iadd (show am_cd 52 69 = (5, 70, 0, 0, []) by decide +kernel) ?_
      refine e_cV (z := 0) (a := 56) (as := [(0, i), (0, j + 1), (0, x20), (0, q + 1)]) (rest := [(0, x18)]) (show am_cd 52 70 = (40, 73, 51, 0, [42]) by decide +kernel) (by decide +kernel) rfl rfl (Nat.le_of_ble_eq_true rfl) rfl ?_
      obtain ⟨g21, h⟩ := h
      refine Cl.mono (Cl.up (hrL g21 _ _ _ _ _ _ h.1) (by omega)) ?_
      rintro _ _ ⟨x22, w23, t24, rfl, rfl, hp⟩
      refine ⟨fun _ h9 => (by cases h9), ?_⟩
      replace h := h.2 x22 w23 t24 hp
      show Ev _ 52 _ 73 [rA 56, (0, i), (0, j), (0, x), (0, p), (0, q), (0, i), (0, j + 1)] [(0, x22), (0, x18)] _
      refine e_iadd (show am_cd 52 73 = (5, 74, 0, 0, []) by decide +kernel) ?_
      exact e_reti (show am_cd 52 74 = (36, 75, 0, 0, []) by decide +kernel) (by decide +kernel) h
    · replace h := h.2 hc
      refine e_ldi (show am_cd 52 35 = (2, 36, 2, 0, []) by decide +kernel) rfl ?_
      refine e_go (show am_cd 52 36 = (12, 42, 0, 0, []) by decide +kernel) ?_
      refine e_sti (la2 := [rA 56, (0, i), (0, j), (0, x), (0, p), (0, q), (0, i), (0, j)]) (show am_cd 52 42 = (3, 44, 7, 0, []) by decide +kernel) rfl ?_
      refine e_lda (v := 56) (show am_cd 52 44 = (2, 45, 0, 2, []) by decide +kernel) rfl ?_
      refine e_ldi (show am_cd 52 45 = (2, 46, 3, 0, []) by decide +kernel) rfl ?_
      refine e_ldi (show am_cd 52 46 = (2, 48, 4, 0, []) by decide +kernel) rfl ?_
      refine e_cV (z := 0) (a := 56) (as := [(0, x), (0, p)]) (rest := []) (show am_cd 52 48 = (40, 51, 54, 0, [54]) by decide +kernel) (by decide +kernel) rfl rfl (Nat.le_of_ble_eq_true rfl) rfl ?_
      obtain ⟨g25, h⟩ := h
      refine Cl.mono (Cl.up (c_nf (d := d) g25 h.1) (by omega)) ?_
      rintro _ _ ⟨x26, rfl, rfl, hp⟩
      refine ⟨fun _ h9 => (by cases h9), ?_⟩
      replace h := h.2 x26 hp
      show Ev _ 52 _ 51 [rA 56, (0, i), (0, j), (0, x), (0, p), (0, q), (0, i), (0, j)] [(0, x26)] _
      refine e_lda (v := 56) (show am_cd 52 51 = (2, 52, 0, 2, []) by decide +kernel) rfl ?_
      refine e_ldi (show am_cd 52 52 = (2, 54, 6, 0, []) by decide +kernel) rfl ?_
      refine e_ldi (show am_cd 52 54 = (2, 56, 7, 0, []) by decide +kernel) rfl ?_
      refine e_lda (v := 56) (show am_cd 52 56 = (2, 57, 0, 2, []) by decide +kernel) rfl ?_
      refine e_getr (a := 56) (r := 15) (show am_cd 52 57 = (18, 60, 602, 2, [23]) by decide +kernel) (by decide +kernel) (by decide +kernel) rfl ?_
      refine e_ldi (show am_cd 52 60 = (2, 61, 3, 0, []) by decide +kernel) rfl ?_
      refine e_ldi (show am_cd 52 61 = (2, 63, 4, 0, []) by decide +kernel) rfl ?_
      refine e_cV (z := 0) (a := 15) (as := [(0, x), (0, p)]) (rest := [(0, j), (0, i), rA 56, (0, x26)]) (show am_cd 52 63 = (40, 66, 74, 0, [83]) by decide +kernel) (by decide +kernel) rfl rfl (Nat.le_of_ble_eq_true rfl) rfl ?_
      obtain ⟨g27, h⟩ := h
      refine Cl.mono (Cl.up (c_rfollowU (d := d) g27 h.1) (by omega)) ?_
      rintro _ _ ⟨x28, rfl, rfl, hp⟩
      refine ⟨fun _ h9 => (by cases h9), ?_⟩
      replace h := h.2 x28 hp
      show Ev _ 52 _ 66 [rA 56, (0, i), (0, j), (0, x), (0, p), (0, q), (0, i), (0, j)] [(0, x28), (0, j), (0, i), rA 56, (0, x26)] _
      refine e_ldi (show am_cd 52 66 = (2, 68, 5, 0, []) by decide +kernel) rfl ?_
      refine e_ic (show am_cd 52 68 = (0, 69, 0, 1, []) by decide +kernel) ?_
      refine e_iadd (show am_cd 52 69 = (5, 70, 0, 0, []) by decide +kernel) ?_
      refine e_cV (z := 0) (a := 56) (as := [(0, i), (0, j), (0, x28), (0, q + 1)]) (rest := [(0, x26)]) (show am_cd 52 70 = (40, 73, 51, 0, [42]) by decide +kernel) (by decide +kernel) rfl rfl (Nat.le_of_ble_eq_true rfl) rfl ?_
      obtain ⟨g29, h⟩ := h
      refine Cl.mono (Cl.up (hrL g29 _ _ _ _ _ _ h.1) (by omega)) ?_
      rintro _ _ ⟨x30, w31, t32, rfl, rfl, hp⟩
      refine ⟨fun _ h9 => (by cases h9), ?_⟩
      replace h := h.2 x30 w31 t32 hp
      show Ev _ 52 _ 73 [rA 56, (0, i), (0, j), (0, x), (0, p), (0, q), (0, i), (0, j)] [(0, x30), (0, x26)] _
      refine e_iadd (show am_cd 52 73 = (5, 74, 0, 0, []) by decide +kernel) ?_
      exact e_reti (show am_cd 52 74 = (36, 75, 0, 0, []) by decide +kernel) (by decide +kernel) h

theorem leastWith_of {d B : Nat} {l1 l2 : List Int} {m : eW} {b : Nat × Nat} (hL : ∀ (g : t3) (i j x q : Int) (w : eW) (t : eT), LsR l1 l2 m b B g i j x q w t → Cl (d + 2) 51 [rA 56, (0, i), (0, j), (0, x), (0, q)] (enc w t) (fun r S2 => ∃ y w2 t2, r = some (0, y) ∧ S2 = enc w2 t2 ∧ LsO l1 l2 m b g i j x q w t y w2 t2)) (g : t3) (i j x p q : Int) (w : eW) (t : eT) (h : LwR l1 l2 m b B g i j x p q w t) : Cl (d + 3) 52 [rA 56, (0, i), (0, j), (0, x), (0, p), (0, q)] (enc w t) (fun r S2 => ∃ y w2 t2, r = some (0, y) ∧ S2 = enc w2 t2 ∧ LwO l1 l2 m b g i j x p q w t y w2 t2) := by
  obtain ⟨⟨hN, hM, hi, hj, hx, hg, hq, hB⟩, hp, hbit⟩ := h
  have hN0 := hN
  obtain ⟨⟨hA, hLN, hC, hWp, hWr⟩, ⟨b1, b2, b3, b4⟩, c1, c2, c3, c4⟩ := hN
  unfold nfB at hbit
  rw [bts_tb] at hbit
  simp only [Bool.and_eq_true, decide_eq_true_eq, Bool.not_eq_true'] at hbit
  obtain ⟨hpn, ⟨hu, hl⟩, hII⟩ := hbit
  obtain ⟨u, hu⟩ := Option.isSome_iff_exists.mp hu
  obtain ⟨l, hl⟩ := Option.isSome_iff_exists.mp hl
  have hb := hWp.2.1 p.toNat hpn
  have hdn := both_down hWp hpn (show i.toNat ≤ l1.length by omega) (show j.toNat ≤ l2.length by omega) hu hl
  have e9 := (hA.2.1 p.toNat hpn).1
  have e10 := (hA.2.1 p.toNat hpn).2
  have cb1 := cdI_b hb.1
  have cb2 := cdI_b hb.2.1
  have ud : u = if m 68 p.toNat = 27 then i.toNat else i.toNat + 1 := by
    unfold upT at hu
    by_cases h9 : m 68 p.toNat = 27
    · rw [if_pos h9] at hu; rw [if_pos h9]; cases hu; rfl
    · rw [if_neg h9] at hu
      rw [if_neg h9]
      split at hu
      · cases hu; rfl
      · cases hu
  have ld : l = if m 69 p.toNat = 27 then j.toNat else j.toNat + 1 := by
    unfold loT at hl
    by_cases h9 : m 69 p.toNat = 27
    · rw [if_pos h9] at hl; rw [if_pos h9]; cases hl; rfl
    · rw [if_neg h9] at hl
      rw [if_neg h9]
      split at hl
      · cases hl; rfl
      · cases hl
  have pre := fun (_ : Unit) => (⟨hLN, hWp, hWr, hx, hg, hp.1, by omega⟩ : LN w m ∧ WFp m ∧ WFr m ∧ x = ((trG m g : Nat) : Int) ∧ gL g ≤ 16 ∧ (0 : Int) ≤ p ∧ (p : Int) ≤ 16)
  have fin : ∀ (I J x4 : Int), I = (u : Int) → J = (l : Int) → x4 = ((trG m (gN g p.toNat) : Nat) : Int) → LsR l1 l2 m b B (gN g p.toNat) I J x4 (q + 1) w t := fun I J x4 hI hJ hx4 => ⟨hN0, hM, by omega, by omega, hx4, by show p.toNat ≤ 16; omega, by omega, by omega⟩
  have out : ∀ (I J x2 x4 x6 : Int) w7 t8, I = (u : Int) → J = (l : Int) → x2 = ((brs m (-1) g.1 g.2.1 g.2.2 p.toNat : Nat) : Int) → LsO l1 l2 m b (gN g p.toNat) I J x4 (q + 1) w t x6 w7 t8 → LwO l1 l2 m b g i j x p q w t (x2 + x6) w7 t8 := fun I J x2 x4 x6 w7 t8 hI hJ hx2 ⟨o1, o2, o3⟩ => by
    refine ⟨⟨u, l, hu, hl, ?_⟩, o2, o3⟩
    rw [hx2, o1, hI, hJ, Int.toNat_natCast, Int.toNat_natCast]
    omega
  refine g_nw (m := m) (b := b) (P := PmN m l1 l2) (l1 := l1) (l2 := l2) (hrL := hL) ?_
  rw [w32_id (x := p) (by omega), e9, e10, w32_id (x := cdI (m 68 p.toNat)) (by omega), w32_id (x := cdI (m 69 p.toNat)) (by omega), cdI_0 hb.1, cdI_0 hb.2.1]
  refine ⟨hp, fun h1 => ⟨hp, fun h2 => ?_, fun h2 => ?_⟩, fun h1 => ⟨hp, fun h2 => ?_, fun h2 => ?_⟩⟩
  · rw [if_neg h1] at ud
    rw [if_neg h2] at ld
    exact ⟨g, pre (), fun x2 hx2 => ⟨g, pre (), fun x4 hx4 => ⟨gN g p.toNat, fin _ _ x4 (by omega) (by omega) hx4, fun x6 w7 t8 hz => ⟨_, _, _, rfl, rfl, out _ _ x2 x4 x6 w7 t8 (by omega) (by omega) hx2 hz⟩⟩⟩⟩
  · rw [if_neg h1] at ud
    rw [if_pos (Classical.not_not.mp h2)] at ld
    exact ⟨g, pre (), fun x2 hx2 => ⟨g, pre (), fun x4 hx4 => ⟨gN g p.toNat, fin _ _ x4 (by omega) (by omega) hx4, fun x6 w7 t8 hz => ⟨_, _, _, rfl, rfl, out _ _ x2 x4 x6 w7 t8 (by omega) (by omega) hx2 hz⟩⟩⟩⟩
  · rw [if_pos (Classical.not_not.mp h1)] at ud
    rw [if_neg h2] at ld
    exact ⟨g, pre (), fun x2 hx2 => ⟨g, pre (), fun x4 hx4 => ⟨gN g p.toNat, fin _ _ x4 (by omega) (by omega) hx4, fun x6 w7 t8 hz => ⟨_, _, _, rfl, rfl, out _ _ x2 x4 x6 w7 t8 (by omega) (by omega) hx2 hz⟩⟩⟩⟩
  · exact absurd ⟨Classical.not_not.mp h1, Classical.not_not.mp h2⟩ hb.2.2

theorem g_ls {d : Nat} {Q : Option aV → aS → Prop} {w : eW} {t : eT} {i j x q : Int} {m : eW} {b : Nat × Nat} {P : Int → Int → Prop} {l1 l2 : List Int} (h : ((w32 q ≤ w32 13 → (MC P b m w t ∧ 0 ≤ (((x * 7) + i) * 7) + j ∧ (((x * 7) + i) * 7) + j < 2147483648) ∧ (∀ x1, (x1 = -1 ∨ P ((((x * 7) + i) * 7) + j) x1) → ((w64 x1 < w64 0 → ((¬ w32 i = w32 (w 2 8) → ∃ g2, (NX l1 l2 m w ∧ x = ((trG m g2 : Nat) : Int) ∧ gL g2 ≤ 16 ∧ (0 : Int) ≤ i ∧ (0 : Int) ≤ j ∧ (i : Int) ≤ 2147483647 ∧ (j : Int) ≤ 2147483647) ∧ (∀ x3, (x3 = ((nfB m l1 l2 i.toNat j.toNat (gL g2) : Nat) : Int)) → Ev (d + 4) 51 Q 81 [rA 56, (0, i), (0, j), (0, x), (0, q), (0, (((x * 7) + i) * 7) + j), (1, x1), (9, 0), (0, 1000), (0, x3), (0, 0)] [] (enc w t))) ∧ (¬ (¬ w32 i = w32 (w 2 8)) → ((¬ w32 j = w32 (w 2 9) → ∃ g4, (NX l1 l2 m w ∧ x = ((trG m g4 : Nat) : Int) ∧ gL g4 ≤ 16 ∧ (0 : Int) ≤ i ∧ (0 : Int) ≤ j ∧ (i : Int) ≤ 2147483647 ∧ (j : Int) ≤ 2147483647) ∧ (∀ x5, (x5 = ((nfB m l1 l2 i.toNat j.toNat (gL g4) : Nat) : Int)) → Ev (d + 4) 51 Q 81 [rA 56, (0, i), (0, j), (0, x), (0, q), (0, (((x * 7) + i) * 7) + j), (1, x1), (9, 0), (0, 1000), (0, x5), (0, 0)] [] (enc w t))) ∧ (¬ (¬ w32 j = w32 (w 2 9)) → ∃ g6, (LN w m ∧ WFp m ∧ WFr m ∧ x = ((trG m g6 : Nat) : Int) ∧ gL g6 ≤ 16 ∧ (0 : Int) ≤ 16 ∧ (16 : Int) ≤ 16) ∧ (∀ x7, (x7 = ((brs m (-1) g6.1 g6.2.1 g6.2.2 16 : Nat) : Int)) → ∃ g8, (NX l1 l2 m w ∧ x = ((trG m g8 : Nat) : Int) ∧ gL g8 ≤ 16 ∧ (0 : Int) ≤ i ∧ (0 : Int) ≤ j ∧ (i : Int) ≤ 2147483647 ∧ (j : Int) ≤ 2147483647) ∧ (∀ x9, (x9 = ((nfB m l1 l2 i.toNat j.toNat (gL g8) : Nat) : Int)) → Ev (d + 4) 51 Q 81 [rA 56, (0, i), (0, j), (0, x), (0, q), (0, (((x * 7) + i) * 7) + j), (1, x1), (9, 0), (0, x7), (0, x9), (0, 0)] [] (enc w t)))))))) ∧ (¬ (w64 x1 < w64 0) → Q (some (0, x1)) (enc w t))))) ∧ (¬ (w32 q ≤ w32 13) → Q (some (0, 1000)) (enc w t)))) : Cl (d + 4) 51 [rA 56, (0, i), (0, j), (0, x), (0, q)] (enc w t) Q := by
  show Ev (d + 4) 51 Q 0 [rA 56, (0, i), (0, j), (0, x), (0, q), (9, 0), (9, 0), (9, 0), (9, 0), (9, 0), (9, 0)] [] (enc w t)
  refine e_ldi (show am_cd 51 0 = (2, 2, 4, 0, []) by decide +kernel) rfl ?_
  refine e_ic (show am_cd 51 2 = (0, 4, 1, 13, []) by decide +kernel) ?_
  refine e_cmp5 (show am_cd 51 4 = (11, 7, 11, 5, []) by decide +kernel) (fun hc => ?_) (fun hc => ?_)
  · replace h := h.1 hc
    refine e_ldi (show am_cd 51 11 = (2, 12, 3, 0, []) by decide +kernel) rfl ?_
    refine e_ic (show am_cd 51 12 = (0, 14, 1, 7, []) by decide +kernel) ?_
    refine e_imul (show am_cd 51 14 = (5, 15, 2, 0, []) by decide +kernel) ?_
    refine e_ldi (show am_cd 51 15 = (2, 16, 1, 0, []) by decide +kernel) rfl ?_
    refine e_iadd (show am_cd 51 16 = (5, 17, 0, 0, []) by decide +kernel) ?_
    refine e_ic (show am_cd 51 17 = (0, 19, 1, 7, []) by decide +kernel) ?_
    refine e_imul (show am_cd 51 19 = (5, 20, 2, 0, []) by decide +kernel) ?_
    refine e_ldi (show am_cd 51 20 = (2, 21, 2, 0, []) by decide +kernel) rfl ?_
    refine e_iadd (show am_cd 51 21 = (5, 22, 0, 0, []) by decide +kernel) ?_
    refine e_sti (la2 := [rA 56, (0, i), (0, j), (0, x), (0, q), (0, (((x * 7) + i) * 7) + j), (9, 0), (9, 0), (9, 0), (9, 0), (9, 0)]) (show am_cd 51 22 = (3, 24, 5, 0, []) by decide +kernel) rfl ?_
    refine e_lda (v := 56) (show am_cd 51 24 = (2, 25, 0, 2, []) by decide +kernel) rfl ?_
    refine e_getr (a := 56) (r := 45) (show am_cd 51 25 = (18, 28, 603, 2, [27]) by decide +kernel) (by decide +kernel) (by decide +kernel) rfl ?_
    refine e_ldi (show am_cd 51 28 = (2, 30, 5, 0, []) by decide +kernel) rfl ?_
    refine e_cV (z := 0) (a := 45) (as := [(0, (((x * 7) + i) * 7) + j)]) (rest := []) (show am_cd 51 30 = (40, 33, 46, 0, [46]) by decide +kernel) (by decide +kernel) rfl rfl (Nat.le_of_ble_eq_true rfl) rfl ?_
    refine Cl.mono (Cl.up (m_find (P := P) (m := m) (b := b) (d := d) h.1) (by omega)) ?_
    rintro _ _ ⟨x1, rfl, rfl, hp⟩
    refine ⟨fun _ h9 => (by cases h9), ?_⟩
    replace h := h.2 x1 hp
    show Ev _ 51 _ 33 [rA 56, (0, i), (0, j), (0, x), (0, q), (0, (((x * 7) + i) * 7) + j), (9, 0), (9, 0), (9, 0), (9, 0), (9, 0)] [(1, x1)] _
    refine e_stl (la2 := [rA 56, (0, i), (0, j), (0, x), (0, q), (0, (((x * 7) + i) * 7) + j), (1, x1), (9, 0), (9, 0), (9, 0), (9, 0)]) (show am_cd 51 33 = (3, 35, 6, 1, []) by decide +kernel) rfl ?_
    refine e_ldl (show am_cd 51 35 = (2, 37, 6, 1, []) by decide +kernel) rfl ?_
    refine e_lc (show am_cd 51 37 = (1, 38, 0, 0, []) by decide +kernel) ?_
    refine e_lcb2 (show am_cd 51 38 = (9, 39, 0, 0, []) by decide +kernel) (show am_cd 51 39 = (10, 42, 46, 2, []) by decide +kernel) (fun hc => ?_) (fun hc => ?_)
    · replace h := h.1 hc
      refine e_ic (show am_cd 51 46 = (0, 49, 2, 1000, []) by decide +kernel) ?_
      refine e_sti (la2 := [rA 56, (0, i), (0, j), (0, x), (0, q), (0, (((x * 7) + i) * 7) + j), (1, x1), (9, 0), (0, 1000), (9, 0), (9, 0)]) (show am_cd 51 49 = (3, 51, 8, 0, []) by decide +kernel) rfl ?_
      refine e_lda (v := 56) (show am_cd 51 51 = (2, 52, 0, 2, []) by decide +kernel) rfl ?_
      refine e_ldi (show am_cd 51 52 = (2, 53, 1, 0, []) by decide +kernel) rfl ?_
      refine e_ldi (show am_cd 51 53 = (2, 54, 2, 0, []) by decide +kernel) rfl ?_
      refine e_cV (z := 0) (a := 56) (as := [(0, i), (0, j)]) (rest := []) (show am_cd 51 54 = (40, 57, 53, 0, [50]) by decide +kernel) (by decide +kernel) rfl rfl (Nat.le_of_ble_eq_true rfl) rfl ?_
      show Ev _ 53 _ 0 [rA 56, (0, i), (0, j)] [] _
      refine e_ldi (show am_cd 53 0 = (2, 1, 1, 0, []) by decide +kernel) rfl ?_
      refine e_lda (v := 56) (show am_cd 53 1 = (2, 2, 0, 2, []) by decide +kernel) rfl ?_
      refine e_getr (a := 56) (r := 2) (show am_cd 53 2 = (18, 5, 600, 2, [15]) by decide +kernel) (by decide +kernel) (by decide +kernel) rfl ?_
      refine e_getf (a := 2) (tg := 0) (show am_cd 53 5 = (18, 8, 808, 0, [86]) by decide +kernel) (by decide +kernel) (by decide +kernel) rfl ?_
      refine e_cmp1 (show am_cd 53 8 = (11, 11, 26, 1, []) by decide +kernel) (fun hc => ?_) (fun hc => ?_)
      · replace h := h.1 hc
        refine e_ic (show am_cd 53 26 = (0, 27, 0, 0, []) by decide +kernel) ?_
        refine e_retz (show am_cd 53 27 = (36, 28, 0, 0, []) by decide +kernel) (by decide +kernel) (Or.inl rfl) ⟨fun _ h9 => (by cases h9), ?_⟩
        show Ev _ 51 _ 57 [rA 56, (0, i), (0, j), (0, x), (0, q), (0, (((x * 7) + i) * 7) + j), (1, x1), (9, 0), (0, 1000), (9, 0), (9, 0)] [(0, 0)] _
        refine e_ifT (show am_cd 51 57 = (10, 60, 69, 0, []) by decide +kernel) (by decide +kernel) ?_
        refine e_lda (v := 56) (show am_cd 51 69 = (2, 70, 0, 2, []) by decide +kernel) rfl ?_
        refine e_ldi (show am_cd 51 70 = (2, 71, 1, 0, []) by decide +kernel) rfl ?_
        refine e_ldi (show am_cd 51 71 = (2, 72, 2, 0, []) by decide +kernel) rfl ?_
        refine e_ldi (show am_cd 51 72 = (2, 73, 3, 0, []) by decide +kernel) rfl ?_
        refine e_cV (z := 0) (a := 56) (as := [(0, i), (0, j), (0, x)]) (rest := []) (show am_cd 51 73 = (40, 76, 55, 0, [58]) by decide +kernel) (by decide +kernel) rfl rfl (Nat.le_of_ble_eq_true rfl) rfl ?_
        obtain ⟨g2, h⟩ := h
        refine Cl.mono (Cl.up (c_np (l1 := l1) (l2 := l2) (d := d) g2 h.1) (by omega)) ?_
        rintro _ _ ⟨x3, rfl, rfl, hp⟩
        refine ⟨fun _ h9 => (by cases h9), ?_⟩
        replace h := h.2 x3 hp
        show Ev _ 51 _ 76 [rA 56, (0, i), (0, j), (0, x), (0, q), (0, (((x * 7) + i) * 7) + j), (1, x1), (9, 0), (0, 1000), (9, 0), (9, 0)] [(0, x3)] _
        refine e_sti (la2 := [rA 56, (0, i), (0, j), (0, x), (0, q), (0, (((x * 7) + i) * 7) + j), (1, x1), (9, 0), (0, 1000), (0, x3), (9, 0)]) (show am_cd 51 76 = (3, 78, 9, 0, []) by decide +kernel) rfl ?_
        refine e_ic (show am_cd 51 78 = (0, 79, 0, 0, []) by decide +kernel) ?_
        refine e_sti (la2 := [rA 56, (0, i), (0, j), (0, x), (0, q), (0, (((x * 7) + i) * 7) + j), (1, x1), (9, 0), (0, 1000), (0, x3), (0, 0)]) (show am_cd 51 79 = (3, 81, 10, 0, []) by decide +kernel) rfl ?_
        exact h
      · replace h := h.2 hc
        refine e_ldi (show am_cd 53 11 = (2, 12, 2, 0, []) by decide +kernel) rfl ?_
        refine e_lda (v := 56) (show am_cd 53 12 = (2, 13, 0, 2, []) by decide +kernel) rfl ?_
        refine e_getr (a := 56) (r := 2) (show am_cd 53 13 = (18, 16, 600, 2, [15]) by decide +kernel) (by decide +kernel) (by decide +kernel) rfl ?_
        refine e_getf (a := 2) (tg := 0) (show am_cd 53 16 = (18, 19, 809, 0, [92]) by decide +kernel) (by decide +kernel) (by decide +kernel) rfl ?_
        refine e_cmp1 (show am_cd 53 19 = (11, 22, 26, 1, []) by decide +kernel) (fun hc => ?_) (fun hc => ?_)
        · replace h := h.1 hc
          refine e_ic (show am_cd 53 26 = (0, 27, 0, 0, []) by decide +kernel) ?_
          refine e_retz (show am_cd 53 27 = (36, 28, 0, 0, []) by decide +kernel) (by decide +kernel) (Or.inl rfl) ⟨fun _ h9 => (by cases h9), ?_⟩
          show Ev _ 51 _ 57 [rA 56, (0, i), (0, j), (0, x), (0, q), (0, (((x * 7) + i) * 7) + j), (1, x1), (9, 0), (0, 1000), (9, 0), (9, 0)] [(0, 0)] _
          refine e_ifT (show am_cd 51 57 = (10, 60, 69, 0, []) by decide +kernel) (by decide +kernel) ?_
          refine e_lda (v := 56) (show am_cd 51 69 = (2, 70, 0, 2, []) by decide +kernel) rfl ?_
          refine e_ldi (show am_cd 51 70 = (2, 71, 1, 0, []) by decide +kernel) rfl ?_
          refine e_ldi (show am_cd 51 71 = (2, 72, 2, 0, []) by decide +kernel) rfl ?_
          refine e_ldi (show am_cd 51 72 = (2, 73, 3, 0, []) by decide +kernel) rfl ?_
          refine e_cV (z := 0) (a := 56) (as := [(0, i), (0, j), (0, x)]) (rest := []) (show am_cd 51 73 = (40, 76, 55, 0, [58]) by decide +kernel) (by decide +kernel) rfl rfl (Nat.le_of_ble_eq_true rfl) rfl ?_
          obtain ⟨g4, h⟩ := h
          refine Cl.mono (Cl.up (c_np (l1 := l1) (l2 := l2) (d := d) g4 h.1) (by omega)) ?_
          rintro _ _ ⟨x5, rfl, rfl, hp⟩
          refine ⟨fun _ h9 => (by cases h9), ?_⟩
          replace h := h.2 x5 hp
          show Ev _ 51 _ 76 [rA 56, (0, i), (0, j), (0, x), (0, q), (0, (((x * 7) + i) * 7) + j), (1, x1), (9, 0), (0, 1000), (9, 0), (9, 0)] [(0, x5)] _
          refine e_sti (la2 := [rA 56, (0, i), (0, j), (0, x), (0, q), (0, (((x * 7) + i) * 7) + j), (1, x1), (9, 0), (0, 1000), (0, x5), (9, 0)]) (show am_cd 51 76 = (3, 78, 9, 0, []) by decide +kernel) rfl ?_
          refine e_ic (show am_cd 51 78 = (0, 79, 0, 0, []) by decide +kernel) ?_
          refine e_sti (la2 := [rA 56, (0, i), (0, j), (0, x), (0, q), (0, (((x * 7) + i) * 7) + j), (1, x1), (9, 0), (0, 1000), (0, x5), (0, 0)]) (show am_cd 51 79 = (3, 81, 10, 0, []) by decide +kernel) rfl ?_
          exact h
        · replace h := h.2 hc
          refine e_ic (show am_cd 53 22 = (0, 23, 0, 1, []) by decide +kernel) ?_
          refine e_go (show am_cd 53 23 = (12, 27, 0, 0, []) by decide +kernel) ?_
          refine e_retz (show am_cd 53 27 = (36, 28, 0, 0, []) by decide +kernel) (by decide +kernel) (Or.inr rfl) ⟨fun _ h9 => (by cases h9), ?_⟩
          show Ev _ 51 _ 57 [rA 56, (0, i), (0, j), (0, x), (0, q), (0, (((x * 7) + i) * 7) + j), (1, x1), (9, 0), (0, 1000), (9, 0), (9, 0)] [(0, 1)] _
          refine e_ifF (show am_cd 51 57 = (10, 60, 69, 0, []) by decide +kernel) (by decide +kernel) ?_
          refine e_lda (v := 56) (show am_cd 51 60 = (2, 61, 0, 2, []) by decide +kernel) rfl ?_
          refine e_ldi (show am_cd 51 61 = (2, 62, 3, 0, []) by decide +kernel) rfl ?_
          refine e_ic (show am_cd 51 62 = (0, 64, 1, 16, []) by decide +kernel) ?_
          refine e_cV (z := 0) (a := 56) (as := [(0, x), (0, 16)]) (rest := []) (show am_cd 51 64 = (40, 67, 54, 0, [54]) by decide +kernel) (by decide +kernel) rfl rfl (Nat.le_of_ble_eq_true rfl) rfl ?_
          obtain ⟨g6, h⟩ := h
          refine Cl.mono (Cl.up (c_nf (d := d) g6 h.1) (by omega)) ?_
          rintro _ _ ⟨x7, rfl, rfl, hp⟩
          refine ⟨fun _ h9 => (by cases h9), ?_⟩
          replace h := h.2 x7 hp
          show Ev _ 51 _ 67 [rA 56, (0, i), (0, j), (0, x), (0, q), (0, (((x * 7) + i) * 7) + j), (1, x1), (9, 0), (0, 1000), (9, 0), (9, 0)] [(0, x7)] _
          refine e_sti (la2 := [rA 56, (0, i), (0, j), (0, x), (0, q), (0, (((x * 7) + i) * 7) + j), (1, x1), (9, 0), (0, x7), (9, 0), (9, 0)]) (show am_cd 51 67 = (3, 69, 8, 0, []) by decide +kernel) rfl ?_
          refine e_lda (v := 56) (show am_cd 51 69 = (2, 70, 0, 2, []) by decide +kernel) rfl ?_
          refine e_ldi (show am_cd 51 70 = (2, 71, 1, 0, []) by decide +kernel) rfl ?_
          refine e_ldi (show am_cd 51 71 = (2, 72, 2, 0, []) by decide +kernel) rfl ?_
          refine e_ldi (show am_cd 51 72 = (2, 73, 3, 0, []) by decide +kernel) rfl ?_
          refine e_cV (z := 0) (a := 56) (as := [(0, i), (0, j), (0, x)]) (rest := []) (show am_cd 51 73 = (40, 76, 55, 0, [58]) by decide +kernel) (by decide +kernel) rfl rfl (Nat.le_of_ble_eq_true rfl) rfl ?_
          obtain ⟨g8, h⟩ := h
          refine Cl.mono (Cl.up (c_np (l1 := l1) (l2 := l2) (d := d) g8 h.1) (by omega)) ?_
          rintro _ _ ⟨x9, rfl, rfl, hp⟩
          refine ⟨fun _ h9 => (by cases h9), ?_⟩
          replace h := h.2 x9 hp
          show Ev _ 51 _ 76 [rA 56, (0, i), (0, j), (0, x), (0, q), (0, (((x * 7) + i) * 7) + j), (1, x1), (9, 0), (0, x7), (9, 0), (9, 0)] [(0, x9)] _
          refine e_sti (la2 := [rA 56, (0, i), (0, j), (0, x), (0, q), (0, (((x * 7) + i) * 7) + j), (1, x1), (9, 0), (0, x7), (0, x9), (9, 0)]) (show am_cd 51 76 = (3, 78, 9, 0, []) by decide +kernel) rfl ?_
          refine e_ic (show am_cd 51 78 = (0, 79, 0, 0, []) by decide +kernel) ?_
          refine e_sti (la2 := [rA 56, (0, i), (0, j), (0, x), (0, q), (0, (((x * 7) + i) * 7) + j), (1, x1), (9, 0), (0, x7), (0, x9), (0, 0)]) (show am_cd 51 79 = (3, 81, 10, 0, []) by decide +kernel) rfl ?_
          exact h
    · replace h := h.2 hc
      refine e_ldl (show am_cd 51 42 = (2, 44, 6, 1, []) by decide +kernel) rfl ?_
      refine e_l2i (show am_cd 51 44 = (8, 45, 1, 0, []) by decide +kernel) ?_
      exact e_reti (show am_cd 51 45 = (36, 46, 0, 0, []) by decide +kernel) (by decide +kernel) h
  · replace h := h.2 hc
    refine e_ic (show am_cd 51 7 = (0, 10, 2, 1000, []) by decide +kernel) ?_
    exact e_reti (show am_cd 51 10 = (36, 11, 0, 0, []) by decide +kernel) (by decide +kernel) h

theorem g_ls1 {d : Nat} {Q : Option aV → aS → Prop} {w : eW} {t : eT} {i j x q k v s f p : Int} {m : eW} {b : Nat × Nat} {P : Int → Int → Prop} {l1 l2 : List Int} {γW : Type} {PRW : γW → Int → Int → Int → Int → Int → eW → eT → Prop} {POW : γW → Int → Int → Int → Int → Int → eW → eT → Int → eW → eT → Prop} (hrW : ∀ (g : γW) (a1 a2 a3 a4 a5 : Int) (w : eW) (t : eT), PRW g a1 a2 a3 a4 a5 w t → Cl (d + 3) 52 [rA 56, (0, a1), (0, a2), (0, a3), (0, a4), (0, a5)] (enc w t) (fun r S2 => ∃ x w2 t2, r = some (0, x) ∧ S2 = enc w2 t2 ∧ POW g a1 a2 a3 a4 a5 w t x w2 t2)) (h : ((w32 16 ≤ w32 p → (MC P b m w t ∧ (0 ≤ k ∧ k < 2147483648) ∧ P k (w32 s)) ∧ (∀ w1 t2, (MR w t w1 t2 ∧ MC P b m w1 t2) → Q (some (0, s)) (enc w1 t2))) ∧ (¬ (w32 16 ≤ w32 p) → ((w32 (ishr f p) = 0 → (MC P b m w t ∧ (0 ≤ k ∧ k < 2147483648) ∧ P k (w32 s)) ∧ (∀ w3 t4, (MR w t w3 t4 ∧ MC P b m w3 t4) → Q (some (0, s)) (enc w3 t4))) ∧ (¬ (w32 (ishr f p) = 0) → ((w32 (iand (ishr f p) 1) = 0 → Ev (d + 4) 51 Q 81 [rA 56, (0, i), (0, j), (0, x), (0, q), (0, k), (1, v), (9, 0), (0, s), (0, f), (0, p + 1)] [] (enc w t)) ∧ (¬ (w32 (iand (ishr f p) 1) = 0) → ∃ g5, (PRW g5 i j x p q w t) ∧ (∀ x6 w7 t8, (POW g5 i j x p q w t x6 w7 t8) → Ev (d + 4) 51 Q 81 [rA 56, (0, i), (0, j), (0, x), (0, q), (0, k), (1, v), (9, 0), (0, if w32 x6 < w32 s then x6 else s), (0, f), (0, p + 1)] [] (enc w7 t8))))))))) : Ev (d + 4) 51 Q 81 [rA 56, (0, i), (0, j), (0, x), (0, q), (0, k), (1, v), (9, 0), (0, s), (0, f), (0, p)] [] (enc w t) := by
  refine e_ldi (show am_cd 51 81 = (2, 83, 10, 0, []) by decide +kernel) rfl ?_
  refine e_ic (show am_cd 51 83 = (0, 85, 1, 16, []) by decide +kernel) ?_
  refine e_cmp3 (show am_cd 51 85 = (11, 88, 130, 3, []) by decide +kernel) (fun hc => ?_) (fun hc => ?_)
  · replace h := h.1 hc
    refine e_lda (v := 56) (show am_cd 51 130 = (2, 131, 0, 2, []) by decide +kernel) rfl ?_
    refine e_getr (a := 56) (r := 45) (show am_cd 51 131 = (18, 134, 603, 2, [27]) by decide +kernel) (by decide +kernel) (by decide +kernel) rfl ?_
    refine e_ldi (show am_cd 51 134 = (2, 136, 5, 0, []) by decide +kernel) rfl ?_
    refine e_ldi (show am_cd 51 136 = (2, 138, 8, 0, []) by decide +kernel) rfl ?_
    refine e_i2l (show am_cd 51 138 = (8, 139, 0, 0, []) by decide +kernel) ?_
    refine e_cV (z := 0) (a := 45) (as := [(0, k), (1, w32 s)]) (rest := []) (show am_cd 51 139 = (40, 142, 47, 0, [71]) by decide +kernel) (by decide +kernel) rfl rfl (Nat.le_of_ble_eq_true rfl) rfl ?_
    refine Cl.mono (Cl.up (m_put (P := P) (m := m) (b := b) (d := d) h.1) (by omega)) ?_
    rintro _ _ ⟨w1, t2, rfl, rfl, hp⟩
    refine ⟨fun _ h9 => (by cases h9), ?_⟩
    replace h := h.2 w1 t2 hp
    show Ev _ 51 _ 142 [rA 56, (0, i), (0, j), (0, x), (0, q), (0, k), (1, v), (9, 0), (0, s), (0, f), (0, p)] [] _
    refine e_ldi (show am_cd 51 142 = (2, 144, 8, 0, []) by decide +kernel) rfl ?_
    exact e_reti (show am_cd 51 144 = (36, 145, 0, 0, []) by decide +kernel) (by decide +kernel) h
  · replace h := h.2 hc
    refine e_ldi (show am_cd 51 88 = (2, 90, 9, 0, []) by decide +kernel) rfl ?_
    refine e_ldi (show am_cd 51 90 = (2, 92, 10, 0, []) by decide +kernel) rfl ?_
    refine e_ishr (show am_cd 51 92 = (5, 93, 7, 0, []) by decide +kernel) ?_
    refine e_if0 (show am_cd 51 93 = (10, 96, 130, 0, []) by decide +kernel) (fun hc => ?_) (fun hc => ?_)
    · replace h := h.1 hc
      refine e_lda (v := 56) (show am_cd 51 130 = (2, 131, 0, 2, []) by decide +kernel) rfl ?_
      refine e_getr (a := 56) (r := 45) (show am_cd 51 131 = (18, 134, 603, 2, [27]) by decide +kernel) (by decide +kernel) (by decide +kernel) rfl ?_
      refine e_ldi (show am_cd 51 134 = (2, 136, 5, 0, []) by decide +kernel) rfl ?_
      refine e_ldi (show am_cd 51 136 = (2, 138, 8, 0, []) by decide +kernel) rfl ?_
      refine e_i2l (show am_cd 51 138 = (8, 139, 0, 0, []) by decide +kernel) ?_
      refine e_cV (z := 0) (a := 45) (as := [(0, k), (1, w32 s)]) (rest := []) (show am_cd 51 139 = (40, 142, 47, 0, [71]) by decide +kernel) (by decide +kernel) rfl rfl (Nat.le_of_ble_eq_true rfl) rfl ?_
      refine Cl.mono (Cl.up (m_put (P := P) (m := m) (b := b) (d := d) h.1) (by omega)) ?_
      rintro _ _ ⟨w3, t4, rfl, rfl, hp⟩
      refine ⟨fun _ h9 => (by cases h9), ?_⟩
      replace h := h.2 w3 t4 hp
      show Ev _ 51 _ 142 [rA 56, (0, i), (0, j), (0, x), (0, q), (0, k), (1, v), (9, 0), (0, s), (0, f), (0, p)] [] _
      refine e_ldi (show am_cd 51 142 = (2, 144, 8, 0, []) by decide +kernel) rfl ?_
      exact e_reti (show am_cd 51 144 = (36, 145, 0, 0, []) by decide +kernel) (by decide +kernel) h
    · replace h := h.2 hc
      refine e_ldi (show am_cd 51 96 = (2, 98, 9, 0, []) by decide +kernel) rfl ?_
      refine e_ldi (show am_cd 51 98 = (2, 100, 10, 0, []) by decide +kernel) rfl ?_
      refine e_ishr (show am_cd 51 100 = (5, 101, 7, 0, []) by decide +kernel) ?_
      refine e_ic (show am_cd 51 101 = (0, 102, 0, 1, []) by decide +kernel) ?_
      refine e_iand (show am_cd 51 102 = (5, 103, 3, 0, []) by decide +kernel) ?_
      refine e_if0 (show am_cd 51 103 = (10, 106, 124, 0, []) by decide +kernel) (fun hc => ?_) (fun hc => ?_)
      · replace h := h.1 hc
        refine e_inc (la2 := [rA 56, (0, i), (0, j), (0, x), (0, q), (0, k), (1, v), (9, 0), (0, s), (0, f), (0, p + 1)]) (show am_cd 51 124 = (4, 127, 10, 1, []) by decide +kernel) rfl rfl ?_
        refine e_go (show am_cd 51 127 = (12, 81, 0, 0, []) by decide +kernel) ?_
        exact h
      · replace h := h.2 hc
        refine e_ldi (show am_cd 51 106 = (2, 108, 8, 0, []) by decide +kernel) rfl ?_
        refine e_lda (v := 56) (show am_cd 51 108 = (2, 109, 0, 2, []) by decide +kernel) rfl ?_
        refine e_ldi (show am_cd 51 109 = (2, 110, 1, 0, []) by decide +kernel) rfl ?_
        refine e_ldi (show am_cd 51 110 = (2, 111, 2, 0, []) by decide +kernel) rfl ?_
        refine e_ldi (show am_cd 51 111 = (2, 112, 3, 0, []) by decide +kernel) rfl ?_
        refine e_ldi (show am_cd 51 112 = (2, 114, 10, 0, []) by decide +kernel) rfl ?_
        refine e_ldi (show am_cd 51 114 = (2, 116, 4, 0, []) by decide +kernel) rfl ?_
        refine e_cV (z := 0) (a := 56) (as := [(0, i), (0, j), (0, x), (0, p), (0, q)]) (rest := [(0, s)]) (show am_cd 51 116 = (40, 119, 52, 0, [62]) by decide +kernel) (by decide +kernel) rfl rfl (Nat.le_of_ble_eq_true rfl) rfl ?_
        obtain ⟨g5, h⟩ := h
        refine Cl.mono (Cl.up (hrW g5 _ _ _ _ _ _ _ h.1) (by omega)) ?_
        rintro _ _ ⟨x6, w7, t8, rfl, rfl, hp⟩
        refine ⟨fun _ h9 => (by cases h9), ?_⟩
        replace h := h.2 x6 w7 t8 hp
        show Ev _ 51 _ 119 [rA 56, (0, i), (0, j), (0, x), (0, q), (0, k), (1, v), (9, 0), (0, s), (0, f), (0, p)] [(0, x6), (0, s)] _
        refine e_min (z := 0) (show am_cd 51 119 = (33, 122, 10, 0, [66]) by decide +kernel) (Nat.le_of_ble_eq_true rfl) ?_
        refine e_sti (la2 := [rA 56, (0, i), (0, j), (0, x), (0, q), (0, k), (1, v), (9, 0), (0, if w32 x6 < w32 s then x6 else s), (0, f), (0, p)]) (show am_cd 51 122 = (3, 124, 8, 0, []) by decide +kernel) rfl ?_
        refine e_inc (la2 := [rA 56, (0, i), (0, j), (0, x), (0, q), (0, k), (1, v), (9, 0), (0, if w32 x6 < w32 s then x6 else s), (0, f), (0, p + 1)]) (show am_cd 51 124 = (4, 127, 10, 1, []) by decide +kernel) rfl rfl ?_
        refine e_go (show am_cd 51 127 = (12, 81, 0, 0, []) by decide +kernel) ?_
        exact h

