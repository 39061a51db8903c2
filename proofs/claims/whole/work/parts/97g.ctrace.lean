/-! The class: the call closest. -/

/-- other cells than row A, those of the machine and of the book -/
def LoX (A : Nat) (w w2 : eW) : Prop := ∀ a, a < 37 ∨ (47 < a ∧ a < 102) → a ≠ A → w2 a = w a
theorem LoX.tr {A : Nat} {w a b : eW} (h : LoX A w a) (h2 : LoX A a b) : LoX A w b := fun q h3 h4 => by rw [h2 q h3 h4, h q h3 h4]
theorem Lo.x {w w2 : eW} (A : Nat) (h : Lo w w2) : LoX A w w2 := fun q h3 _ => h q h3
theorem NX.p57 {l1 l2 : List Int} {m w : eW} {k : Nat} {v : Int} (h : NX l1 l2 m w) : NX l1 l2 m (wu w 57 k v) := by
  have f : Fc [57] [] w (wu w 57 k v) := Fc.pr (by decide)
  obtain ⟨⟨a1, a2, a3, a4, a5⟩, ⟨b1, b2, b3⟩, c1, c2, c3⟩ := h
  exact ⟨⟨a1.fc f (by decide) (by decide), a2.fc f (by decide) (by decide), a3.fc f (by decide) (by decide), a4, a5⟩, ⟨b1, b2.fr rfl, b3⟩, c1, c2.fr rfl, c3⟩
theorem hi_wu {w : eW} {a k : Nat} {v : Int} (h : a < 37 ∨ (47 < a ∧ a < 102)) : Hi w (wu w a k v) := fun q hq => wu_row (by omega)

theorem g_trc {d : Nat} {Q : Option aV → aS → Prop} {w : eW} {t : eT} {v : Int} {m : eW} {b : Nat × Nat} {P : Int → Int → Prop} {l1 l2 : List Int} (h : (LN w m ∧ WFp m ∧ WFr m) ∧ (Ev (d + 31) 56 Q 19 [rA 56, (0, v), (0, 0), (0, 0), (0, ((tr m 16 16 16 : Nat) : Int)), (0, v), (0, 0), (9, 0)] [] (enc w t))) : Cl (d + 31) 56 [rA 56, (0, v)] (enc w t) Q := by
  show Ev (d + 31) 56 Q 0 [rA 56, (0, v), (9, 0), (9, 0), (9, 0), (9, 0), (9, 0), (9, 0)] [] (enc w t)
  refine e_ic (show am_cd 56 0 = (0, 1, 0, 0, []) by decide +kernel) ?_
  refine e_sti (la2 := [rA 56, (0, v), (0, 0), (9, 0), (9, 0), (9, 0), (9, 0), (9, 0)]) (show am_cd 56 1 = (3, 2, 2, 0, []) by decide +kernel) rfl ?_
  refine e_ic (show am_cd 56 2 = (0, 3, 0, 0, []) by decide +kernel) ?_
  refine e_sti (la2 := [rA 56, (0, v), (0, 0), (0, 0), (9, 0), (9, 0), (9, 0), (9, 0)]) (show am_cd 56 3 = (3, 4, 3, 0, []) by decide +kernel) rfl ?_
  refine e_lda (v := 56) (show am_cd 56 4 = (2, 5, 0, 2, []) by decide +kernel) rfl ?_
  refine e_getr (a := 56) (r := 15) (show am_cd 56 5 = (18, 8, 602, 2, [23]) by decide +kernel) (by decide +kernel) (by decide +kernel) rfl ?_
  refine e_cV (z := 0) (a := 15) (as := []) (rest := []) (show am_cd 56 8 = (40, 11, 73, 0, [36]) by decide +kernel) (by decide +kernel) rfl rfl (Nat.le_of_ble_eq_true rfl) rfl ?_
  refine Cl.mono (Cl.up (c_rstart (d := d) h.1) (by omega)) ?_
  rintro _ _ ⟨rfl, rfl⟩
  refine ⟨fun _ h9 => (by cases h9), ?_⟩
  replace h := h.2
  show Ev _ 56 _ 11 [rA 56, (0, v), (0, 0), (0, 0), (9, 0), (9, 0), (9, 0), (9, 0)] [(0, ((tr m 16 16 16 : Nat) : Int))] _
  refine e_sti (la2 := [rA 56, (0, v), (0, 0), (0, 0), (0, ((tr m 16 16 16 : Nat) : Int)), (9, 0), (9, 0), (9, 0)]) (show am_cd 56 11 = (3, 13, 4, 0, []) by decide +kernel) rfl ?_
  refine e_ldi (show am_cd 56 13 = (2, 14, 1, 0, []) by decide +kernel) rfl ?_
  refine e_sti (la2 := [rA 56, (0, v), (0, 0), (0, 0), (0, ((tr m 16 16 16 : Nat) : Int)), (0, v), (9, 0), (9, 0)]) (show am_cd 56 14 = (3, 16, 5, 0, []) by decide +kernel) rfl ?_
  refine e_ic (show am_cd 56 16 = (0, 17, 0, 0, []) by decide +kernel) ?_
  refine e_sti (la2 := [rA 56, (0, v), (0, 0), (0, 0), (0, ((tr m 16 16 16 : Nat) : Int)), (0, v), (0, 0), (9, 0)]) (show am_cd 56 17 = (3, 19, 6, 0, []) by decide +kernel) rfl ?_
  exact h

theorem g_trc1 {d : Nat} {Q : Option aV → aS → Prop} {w : eW} {t : eT} {v i j x rs n : Int} {m : eW} {b : Nat × Nat} {P : Int → Int → Prop} {l1 l2 : List Int} {γF : Type} {PRF : γF → Int → Int → Int → Int → Int → eW → eT → Prop} {POF : γF → Int → Int → Int → Int → Int → eW → eT → Int → eW → eT → Prop} (hrF : ∀ (g : γF) (a1 a2 a3 a4 a5 : Int) (w : eW) (t : eT), PRF g a1 a2 a3 a4 a5 w t → Cl (d + 30) 57 [rA 56, (0, a1), (0, a2), (0, a3), (0, a4), (0, a5)] (enc w t) (fun r S2 => ∃ x w2 t2, r = some (0, x) ∧ S2 = enc w2 t2 ∧ POF g a1 a2 a3 a4 a5 w t x w2 t2)) {Jn : aV} (h : ((w32 13 ≤ w32 n → Q (some (0, 13)) (enc w t)) ∧ (¬ (w32 13 ≤ w32 n) → ∃ g1, (PRF g1 i j x rs n w t) ∧ (∀ x2 w3 t4, (POF g1 i j x rs n w t x2 w3 t4) → ((¬ w32 x2 = w32 (-1) → (0 ≤ w32 n ∧ w32 n < 13) ∧ (∃ g5, (LN (wu w3 57 (w32 n).toNat x2) m ∧ WFp m ∧ WFr m ∧ x = ((trG m g5 : Nat) : Int) ∧ gL g5 ≤ 16 ∧ (0 : Int) ≤ x2 ∧ (x2 : Int) ≤ 16) ∧ (∀ x6, (x6 = ((brs m (-1) g5.1 g5.2.1 g5.2.2 x2.toNat : Nat) : Int)) → ∃ g7, (LN (wu w3 57 (w32 n).toNat x2) m ∧ WFp m ∧ WFr m ∧ x = ((trG m g7 : Nat) : Int) ∧ gL g7 ≤ 16 ∧ (0 : Int) ≤ x2 ∧ (x2 : Int) ≤ 16) ∧ (∀ x8, (x8 = ((trG m (gN g7 x2.toNat) : Nat) : Int)) → (0 ≤ w32 x2 ∧ w32 x2 < 16) ∧ ((¬ w32 (w3 9 (w32 x2).toNat) = 0 → (0 ≤ w32 x2 ∧ w32 x2 < 16) ∧ ((¬ w32 (w3 10 (w32 x2).toNat) = 0 → Ev (d + 31) 56 Q 19 [rA 56, (0, v), (0, i + 1), (0, j + 1), (0, x8), (0, rs - x6), (0, n + 1), (0, x2)] [] (enc (wu w3 57 (w32 n).toNat x2) t4)) ∧ (¬ (¬ w32 (w3 10 (w32 x2).toNat) = 0) → Ev (d + 31) 56 Q 19 [rA 56, (0, v), (0, i + 1), (0, j + 0), (0, x8), (0, rs - x6), (0, n + 1), (0, x2)] [] (enc (wu w3 57 (w32 n).toNat x2) t4)))) ∧ (¬ (¬ w32 (w3 9 (w32 x2).toNat) = 0) → (0 ≤ w32 x2 ∧ w32 x2 < 16) ∧ ((¬ w32 (w3 10 (w32 x2).toNat) = 0 → Ev (d + 31) 56 Q 19 [rA 56, (0, v), (0, i + 0), (0, j + 1), (0, x8), (0, rs - x6), (0, n + 1), (0, x2)] [] (enc (wu w3 57 (w32 n).toNat x2) t4)) ∧ (¬ (¬ w32 (w3 10 (w32 x2).toNat) = 0) → Ev (d + 31) 56 Q 19 [rA 56, (0, v), (0, i + 0), (0, j + 0), (0, x8), (0, rs - x6), (0, n + 1), (0, x2)] [] (enc (wu w3 57 (w32 n).toNat x2) t4))))))))) ∧ (¬ (¬ w32 x2 = w32 (-1)) → Q (some (0, n)) (enc w3 t4))))))) : Ev (d + 31) 56 Q 19 [rA 56, (0, v), (0, i), (0, j), (0, x), (0, rs), (0, n), Jn] [] (enc w t) := by
  refine e_ldi (show am_cd 56 19 = (2, 21, 6, 0, []) by decide +kernel) rfl ?_
  refine e_ic (show am_cd 56 21 = (0, 23, 1, 13, []) by decide +kernel) ?_
  refine e_cmp3 (show am_cd 56 23 = (11, 26, 132, 3, []) by decide +kernel) (fun hc => ?_) (fun hc => ?_)
  · replace h := h.1 hc
    refine e_ic (show am_cd 56 132 = (0, 134, 1, 13, []) by decide +kernel) ?_
    exact e_reti (show am_cd 56 134 = (36, 135, 0, 0, []) by decide +kernel) (by decide +kernel) h
  · replace h := h.2 hc
    refine e_lda (v := 56) (show am_cd 56 26 = (2, 27, 0, 2, []) by decide +kernel) rfl ?_
    refine e_ldi (show am_cd 56 27 = (2, 28, 2, 0, []) by decide +kernel) rfl ?_
    refine e_ldi (show am_cd 56 28 = (2, 29, 3, 0, []) by decide +kernel) rfl ?_
    refine e_ldi (show am_cd 56 29 = (2, 31, 4, 0, []) by decide +kernel) rfl ?_
    refine e_ldi (show am_cd 56 31 = (2, 33, 5, 0, []) by decide +kernel) rfl ?_
    refine e_ldi (show am_cd 56 33 = (2, 35, 6, 0, []) by decide +kernel) rfl ?_
    refine e_cV (z := 0) (a := 56) (as := [(0, i), (0, j), (0, x), (0, rs), (0, n)]) (rest := []) (show am_cd 56 35 = (40, 38, 57, 0, [123]) by decide +kernel) (by decide +kernel) rfl rfl (Nat.le_of_ble_eq_true rfl) rfl ?_
    obtain ⟨g1, h⟩ := h
    refine Cl.mono (Cl.up (hrF g1 _ _ _ _ _ _ _ h.1) (by omega)) ?_
    rintro _ _ ⟨x2, w3, t4, rfl, rfl, hp⟩
    refine ⟨fun _ h9 => (by cases h9), ?_⟩
    replace h := h.2 x2 w3 t4 hp
    show Ev _ 56 _ 38 [rA 56, (0, v), (0, i), (0, j), (0, x), (0, rs), (0, n), Jn] [(0, x2)] _
    refine e_sti (la2 := [rA 56, (0, v), (0, i), (0, j), (0, x), (0, rs), (0, n), (0, x2)]) (show am_cd 56 38 = (3, 40, 7, 0, []) by decide +kernel) rfl ?_
    refine e_ldi (show am_cd 56 40 = (2, 42, 7, 0, []) by decide +kernel) rfl ?_
    refine e_ic (show am_cd 56 42 = (0, 43, 0, -1, []) by decide +kernel) ?_
    refine e_cmp1 (show am_cd 56 43 = (11, 46, 49, 1, []) by decide +kernel) (fun hc => ?_) (fun hc => ?_)
    · replace h := h.1 hc
      refine e_lda (v := 56) (show am_cd 56 49 = (2, 50, 0, 2, []) by decide +kernel) rfl ?_
      refine e_getr (a := 56) (r := 57) (show am_cd 56 50 = (18, 53, 604, 2, [9]) by decide +kernel) (by decide +kernel) (by decide +kernel) rfl ?_
      refine e_ldi (show am_cd 56 53 = (2, 55, 6, 0, []) by decide +kernel) rfl ?_
      refine e_ldi (show am_cd 56 55 = (2, 57, 7, 0, []) by decide +kernel) rfl ?_
      refine e_iast (a := 57) (n := 13) (show am_cd 56 57 = (24, 58, 0, 0, []) by decide +kernel) (by decide +kernel) (by decide +kernel) (by decide +kernel) h.1 ?_
      replace h := h.2
      refine e_ldi (show am_cd 56 58 = (2, 60, 5, 0, []) by decide +kernel) rfl ?_
      refine e_lda (v := 56) (show am_cd 56 60 = (2, 61, 0, 2, []) by decide +kernel) rfl ?_
      refine e_ldi (show am_cd 56 61 = (2, 63, 4, 0, []) by decide +kernel) rfl ?_
      refine e_ldi (show am_cd 56 63 = (2, 65, 7, 0, []) by decide +kernel) rfl ?_
      refine e_cV (z := 0) (a := 56) (as := [(0, x), (0, x2)]) (rest := [(0, rs)]) (show am_cd 56 65 = (40, 68, 54, 0, [54]) by decide +kernel) (by decide +kernel) rfl rfl (Nat.le_of_ble_eq_true rfl) rfl ?_
      obtain ⟨g5, h⟩ := h
      refine Cl.mono (Cl.up (c_nf (d := d) g5 h.1) (by omega)) ?_
      rintro _ _ ⟨x6, rfl, rfl, hp⟩
      refine ⟨fun _ h9 => (by cases h9), ?_⟩
      replace h := h.2 x6 hp
      show Ev _ 56 _ 68 [rA 56, (0, v), (0, i), (0, j), (0, x), (0, rs), (0, n), (0, x2)] [(0, x6), (0, rs)] _
      refine e_isub (show am_cd 56 68 = (5, 69, 1, 0, []) by decide +kernel) ?_
      refine e_sti (la2 := [rA 56, (0, v), (0, i), (0, j), (0, x), (0, rs - x6), (0, n), (0, x2)]) (show am_cd 56 69 = (3, 71, 5, 0, []) by decide +kernel) rfl ?_
      refine e_lda (v := 56) (show am_cd 56 71 = (2, 72, 0, 2, []) by decide +kernel) rfl ?_
      refine e_getr (a := 56) (r := 15) (show am_cd 56 72 = (18, 75, 602, 2, [23]) by decide +kernel) (by decide +kernel) (by decide +kernel) rfl ?_
      refine e_ldi (show am_cd 56 75 = (2, 77, 4, 0, []) by decide +kernel) rfl ?_
      refine e_ldi (show am_cd 56 77 = (2, 79, 7, 0, []) by decide +kernel) rfl ?_
      refine e_cV (z := 0) (a := 15) (as := [(0, x), (0, x2)]) (rest := []) (show am_cd 56 79 = (40, 82, 74, 0, [83]) by decide +kernel) (by decide +kernel) rfl rfl (Nat.le_of_ble_eq_true rfl) rfl ?_
      obtain ⟨g7, h⟩ := h
      refine Cl.mono (Cl.up (c_rfollowU (d := d) g7 h.1) (by omega)) ?_
      rintro _ _ ⟨x8, rfl, rfl, hp⟩
      refine ⟨fun _ h9 => (by cases h9), ?_⟩
      replace h := h.2 x8 hp
      show Ev _ 56 _ 82 [rA 56, (0, v), (0, i), (0, j), (0, x), (0, rs - x6), (0, n), (0, x2)] [(0, x8)] _
      refine e_sti (la2 := [rA 56, (0, v), (0, i), (0, j), (0, x8), (0, rs - x6), (0, n), (0, x2)]) (show am_cd 56 82 = (3, 84, 4, 0, []) by decide +kernel) rfl ?_
      refine e_ldi (show am_cd 56 84 = (2, 85, 2, 0, []) by decide +kernel) rfl ?_
      refine e_lda (v := 56) (show am_cd 56 85 = (2, 86, 0, 2, []) by decide +kernel) rfl ?_
      refine e_getr (a := 56) (r := 8) (show am_cd 56 86 = (18, 89, 601, 2, [19]) by decide +kernel) (by decide +kernel) (by decide +kernel) rfl ?_
      refine e_getr (a := 8) (r := 9) (show am_cd 56 89 = (18, 92, 0, 2, [75]) by decide +kernel) (by decide +kernel) (by decide +kernel) rfl ?_
      refine e_ldi (show am_cd 56 92 = (2, 94, 7, 0, []) by decide +kernel) rfl ?_
      refine e_ialdE (a := 9) (n := 16) (v := w3 9 (w32 x2).toNat) (show am_cd 56 94 = (21, 95, 0, 0, []) by decide +kernel) (by decide +kernel) (by decide +kernel) (by decide +kernel) h.1 rfl ?_
      replace h := h.2
      refine e_if1 (show am_cd 56 95 = (10, 98, 102, 1, []) by decide +kernel) (fun hc => ?_) (fun hc => ?_)
      · replace h := h.1 hc
        refine e_ic (show am_cd 56 102 = (0, 103, 0, 1, []) by decide +kernel) ?_
        refine e_iadd (show am_cd 56 103 = (5, 104, 0, 0, []) by decide +kernel) ?_
        refine e_sti (la2 := [rA 56, (0, v), (0, i + 1), (0, j), (0, x8), (0, rs - x6), (0, n), (0, x2)]) (show am_cd 56 104 = (3, 105, 2, 0, []) by decide +kernel) rfl ?_
        refine e_ldi (show am_cd 56 105 = (2, 106, 3, 0, []) by decide +kernel) rfl ?_
        refine e_lda (v := 56) (show am_cd 56 106 = (2, 107, 0, 2, []) by decide +kernel) rfl ?_
        refine e_getr (a := 56) (r := 8) (show am_cd 56 107 = (18, 110, 601, 2, [19]) by decide +kernel) (by decide +kernel) (by decide +kernel) rfl ?_
        refine e_getr (a := 8) (r := 10) (show am_cd 56 110 = (18, 113, 1, 2, [80]) by decide +kernel) (by decide +kernel) (by decide +kernel) rfl ?_
        refine e_ldi (show am_cd 56 113 = (2, 115, 7, 0, []) by decide +kernel) rfl ?_
        refine e_ialdE (a := 10) (n := 16) (v := w3 10 (w32 x2).toNat) (show am_cd 56 115 = (21, 116, 0, 0, []) by decide +kernel) (by decide +kernel) (by decide +kernel) (by decide +kernel) h.1 rfl ?_
        replace h := h.2
        refine e_if1 (show am_cd 56 116 = (10, 119, 123, 1, []) by decide +kernel) (fun hc => ?_) (fun hc => ?_)
        · replace h := h.1 hc
          refine e_ic (show am_cd 56 123 = (0, 124, 0, 1, []) by decide +kernel) ?_
          refine e_iadd (show am_cd 56 124 = (5, 125, 0, 0, []) by decide +kernel) ?_
          refine e_sti (la2 := [rA 56, (0, v), (0, i + 1), (0, j + 1), (0, x8), (0, rs - x6), (0, n), (0, x2)]) (show am_cd 56 125 = (3, 126, 3, 0, []) by decide +kernel) rfl ?_
          refine e_inc (la2 := [rA 56, (0, v), (0, i + 1), (0, j + 1), (0, x8), (0, rs - x6), (0, n + 1), (0, x2)]) (show am_cd 56 126 = (4, 129, 6, 1, []) by decide +kernel) rfl rfl ?_
          refine e_go (show am_cd 56 129 = (12, 19, 0, 0, []) by decide +kernel) ?_
          exact h
        · replace h := h.2 hc
          refine e_ic (show am_cd 56 119 = (0, 120, 0, 0, []) by decide +kernel) ?_
          refine e_go (show am_cd 56 120 = (12, 124, 0, 0, []) by decide +kernel) ?_
          refine e_iadd (show am_cd 56 124 = (5, 125, 0, 0, []) by decide +kernel) ?_
          refine e_sti (la2 := [rA 56, (0, v), (0, i + 1), (0, j + 0), (0, x8), (0, rs - x6), (0, n), (0, x2)]) (show am_cd 56 125 = (3, 126, 3, 0, []) by decide +kernel) rfl ?_
          refine e_inc (la2 := [rA 56, (0, v), (0, i + 1), (0, j + 0), (0, x8), (0, rs - x6), (0, n + 1), (0, x2)]) (show am_cd 56 126 = (4, 129, 6, 1, []) by decide +kernel) rfl rfl ?_
          refine e_go (show am_cd 56 129 = (12, 19, 0, 0, []) by decide +kernel) ?_
          exact h
      · replace h := h.2 hc
        refine e_ic (show am_cd 56 98 = (0, 99, 0, 0, []) by decide +kernel) ?_
        refine e_go (show am_cd 56 99 = (12, 103, 0, 0, []) by decide +kernel) ?_
        refine e_iadd (show am_cd 56 103 = (5, 104, 0, 0, []) by decide +kernel) ?_
        refine e_sti (la2 := [rA 56, (0, v), (0, i + 0), (0, j), (0, x8), (0, rs - x6), (0, n), (0, x2)]) (show am_cd 56 104 = (3, 105, 2, 0, []) by decide +kernel) rfl ?_
        refine e_ldi (show am_cd 56 105 = (2, 106, 3, 0, []) by decide +kernel) rfl ?_
        refine e_lda (v := 56) (show am_cd 56 106 = (2, 107, 0, 2, []) by decide +kernel) rfl ?_
        refine e_getr (a := 56) (r := 8) (show am_cd 56 107 = (18, 110, 601, 2, [19]) by decide +kernel) (by decide +kernel) (by decide +kernel) rfl ?_
        refine e_getr (a := 8) (r := 10) (show am_cd 56 110 = (18, 113, 1, 2, [80]) by decide +kernel) (by decide +kernel) (by decide +kernel) rfl ?_
        refine e_ldi (show am_cd 56 113 = (2, 115, 7, 0, []) by decide +kernel) rfl ?_
        refine e_ialdE (a := 10) (n := 16) (v := w3 10 (w32 x2).toNat) (show am_cd 56 115 = (21, 116, 0, 0, []) by decide +kernel) (by decide +kernel) (by decide +kernel) (by decide +kernel) h.1 rfl ?_
        replace h := h.2
        refine e_if1 (show am_cd 56 116 = (10, 119, 123, 1, []) by decide +kernel) (fun hc => ?_) (fun hc => ?_)
        · replace h := h.1 hc
          refine e_ic (show am_cd 56 123 = (0, 124, 0, 1, []) by decide +kernel) ?_
          refine e_iadd (show am_cd 56 124 = (5, 125, 0, 0, []) by decide +kernel) ?_
          refine e_sti (la2 := [rA 56, (0, v), (0, i + 0), (0, j + 1), (0, x8), (0, rs - x6), (0, n), (0, x2)]) (show am_cd 56 125 = (3, 126, 3, 0, []) by decide +kernel) rfl ?_
          refine e_inc (la2 := [rA 56, (0, v), (0, i + 0), (0, j + 1), (0, x8), (0, rs - x6), (0, n + 1), (0, x2)]) (show am_cd 56 126 = (4, 129, 6, 1, []) by decide +kernel) rfl rfl ?_
          refine e_go (show am_cd 56 129 = (12, 19, 0, 0, []) by decide +kernel) ?_
          exact h
        · replace h := h.2 hc
          refine e_ic (show am_cd 56 119 = (0, 120, 0, 0, []) by decide +kernel) ?_
          refine e_go (show am_cd 56 120 = (12, 124, 0, 0, []) by decide +kernel) ?_
          refine e_iadd (show am_cd 56 124 = (5, 125, 0, 0, []) by decide +kernel) ?_
          refine e_sti (la2 := [rA 56, (0, v), (0, i + 0), (0, j + 0), (0, x8), (0, rs - x6), (0, n), (0, x2)]) (show am_cd 56 125 = (3, 126, 3, 0, []) by decide +kernel) rfl ?_
          refine e_inc (la2 := [rA 56, (0, v), (0, i + 0), (0, j + 0), (0, x8), (0, rs - x6), (0, n + 1), (0, x2)]) (show am_cd 56 126 = (4, 129, 6, 1, []) by decide +kernel) rfl rfl ?_
          refine e_go (show am_cd 56 129 = (12, 19, 0, 0, []) by decide +kernel) ?_
          exact h
    · replace h := h.2 hc
      refine e_ldi (show am_cd 56 46 = (2, 48, 6, 0, []) by decide +kernel) rfl ?_
      exact e_reti (show am_cd 56 48 = (36, 49, 0, 0, []) by decide +kernel) (by decide +kernel) h

abbrev nPt (m : eW) (l1 l2 : List Int) (f i j : Nat) (g : t3) : List Nat := pth m (ltF l1) l1.length (ltF l2) l2.length f i j g.1 g.2.1 g.2.2
def TrQ (m : eW) (l1 l2 : List Int) (b : Nat × Nat) (w : eW) (L : List Nat) (r : Option aV) (S2 : aS) : Prop := ∃ w2 t2, r = some (0, (L.length : Int)) ∧ S2 = enc w2 t2 ∧ LoX 57 w w2 ∧ MC (PmN m l1 l2) b m w2 t2 ∧ ∀ k, k < L.length → w2 57 k = ((L.getD k 0 : Nat) : Int)
theorem trc_loop {d : Nat} {l1 l2 : List Int} {m : eW} {b : Nat × Nat} {w0 : eW} {v : Int} : ∀ (f n : Nat) (i j x rs : Int) (g : t3) (w : eW) (t : eT) (acc : List Nat) (J : aV), f + n = 13 → acc.length = n → FwR l1 l2 m b g i j x rs (n : Int) w t → (∀ k, k < n → w 57 k = ((acc.getD k 0 : Nat) : Int)) → LoX 57 w0 w → Ev (d + 31) 56 (TrQ m l1 l2 b w0 (acc ++ nPt m l1 l2 f i.toNat j.toNat g)) 19 [rA 56, (0, v), (0, i), (0, j), (0, x), (0, rs), (0, (n : Int)), J] [] (enc w t) := by
  intro f
  induction f with
  | zero =>
    intro n i j x rs g w t acc J hf hacc hF hP hL
    have e : nPt m l1 l2 0 i.toNat j.toNat g = [] := rfl
    rw [e, List.append_nil]
    refine g_trc1 (m := m) (b := b) (P := PmN m l1 l2) (l1 := l1) (l2 := l2) (hrF := c_fw (d := d) (l1 := l1) (l2 := l2) (m := m) (b := b)) ⟨fun _ => ⟨w, t, by rw [hacc, show n = 13 by omega]; rfl, rfl, hL, hF.2.1, fun k hk => hP k (by omega)⟩, fun h9 => absurd (by rw [w32_id (by omega), w32_id (by omega)]; omega) h9⟩
  | succ f ih =>
    intro n i j x rs g w t acc J hf hacc hF hP hL
    obtain ⟨hN, hM, hi, hj, hx, hg, hq, hrs, hfin⟩ := hF
    have hWp := hN.1.2.2.2.1
    have hWr := hN.1.2.2.2.2
    have hpn := hWp.n
    refine g_trc1 (m := m) (b := b) (P := PmN m l1 l2) (l1 := l1) (l2 := l2) (hrF := c_fw (d := d) (l1 := l1) (l2 := l2) (m := m) (b := b)) ⟨fun h9 => absurd h9 (by rw [w32_id (by omega), w32_id (by omega)]; omega), fun _ => ⟨g, ⟨hN, hM, hi, hj, hx, hg, hq, hrs, hfin⟩, fun p w3 t3 hz => ?_⟩⟩
    obtain ⟨hz, mr, mc⟩ := hz
    have eP : nPt m l1 l2 (f + 1) i.toNat j.toNat g = if i.toNat = l1.length ∧ j.toNat = l2.length then [] else nFr m l1 l2 i.toNat j.toNat g :: nPt m l1 l2 f ((upT m (ltF l1) l1.length i.toNat (nFr m l1 l2 i.toNat j.toNat g)).getD 0) ((loT m (ltF l2) l2.length j.toNat (nFr m l1 l2 i.toNat j.toNat g)).getD 0) (gN g (nFr m l1 l2 i.toNat j.toNat g)) := rfl
    have l57 : w3 57 = w 57 := mr.2.1 57 (by omega)
    rcases hz with ⟨h1, h2, h3⟩ | ⟨h1, h2, h3, h4, h5⟩
    · rw [eP, if_pos (by omega), List.append_nil, h3]
      refine ⟨fun h9 => absurd rfl h9, fun _ => ⟨w3, t3, by rw [hacc], rfl, hL.tr (mr.2.1.x 57), mc, fun k hk => by rw [l57]; exact hP k (by omega)⟩⟩
    · generalize hp : nFr m l1 l2 i.toNat j.toNat g = q at *
      have hN3 := hN.lo mr.2.1
      have hA3 := hN3.1.1
      have hb := hWp.2.1 q h2
      have hbit := h3
      unfold nfB at hbit
      rw [bts_tb] at hbit
      simp only [Bool.and_eq_true, decide_eq_true_eq, Bool.not_eq_true'] at hbit
      obtain ⟨u, hu⟩ := Option.isSome_iff_exists.mp hbit.2.1.1
      obtain ⟨l, hl⟩ := Option.isSome_iff_exists.mp hbit.2.1.2
      have hgn := nG_yes h3 hu hl
      have hdn := both_down hWp h2 (show i.toNat ≤ l1.length by omega) (show j.toNat ≤ l2.length by omega) hu hl
      have ud : u = if m 68 q = 27 then i.toNat else i.toNat + 1 := by
        unfold upT at hu
        by_cases h9 : m 68 q = 27
        · rw [if_pos h9] at hu; rw [if_pos h9]; cases hu; rfl
        · rw [if_neg h9] at hu
          rw [if_neg h9]
          split at hu
          · cases hu; rfl
          · cases hu
      have ld : l = if m 69 q = 27 then j.toNat else j.toNat + 1 := by
        unfold loT at hl
        by_cases h9 : m 69 q = 27
        · rw [if_pos h9] at hl; rw [if_pos h9]; cases hl; rfl
        · rw [if_neg h9] at hl
          rw [if_neg h9]
          split at hl
          · cases hl; rfl
          · cases hl
      have e9 := (hA3.2.1 q h2).1
      have e10 := (hA3.2.1 q h2).2
      have cb1 := cdI_b hb.1
      have cb2 := cdI_b hb.2.1
      rw [eP, if_neg (by omega), hu, hl]
      have next : ∀ (I K x8 x6 : Int) (J2 : aV), I = (u : Int) → K = (l : Int) → x8 = ((trG m (gN g q) : Nat) : Int) → x6 = ((brs m (-1) g.1 g.2.1 g.2.2 q : Nat) : Int) → Ev (d + 31) 56 (TrQ m l1 l2 b w0 (acc ++ q :: nPt m l1 l2 f ((some u).getD 0) ((some l).getD 0) (gN g q))) 19 [rA 56, (0, v), (0, I), (0, K), (0, x8), (0, rs - x6), (0, (n : Int) + 1), J2] [] (enc (wu w3 57 n (q : Int)) t3) := fun I K x8 x6 J2 hI hK hx8 hx6 => by
        have := ih (n + 1) I K x8 (rs - x6) (gN g q) (wu w3 57 n (q : Int)) t3 (acc ++ [q]) J2 (by omega) (by rw [List.length_append, hacc]; rfl) ⟨hN3.p57, mc.hi (hi_wu (by omega)), by omega, by omega, hx8, by show q ≤ 16; omega, by omega, ?_, ?_⟩ ?_ ?_
        · rw [hI, hK, Int.toNat_natCast, Int.toNat_natCast, List.append_assoc] at this
          rw [hI, hK]
          exact this
        · have e2 : nCl m l1 l2 I.toNat K.toNat (gN g q) = cl m (ltF l1) l1.length (ltF l2) l2.length u l g.2.1 g.2.2 q := by rw [hI, hK]; rfl
          rw [e2]
          omega
        · have e2 : nCl m l1 l2 I.toNat K.toNat (gN g q) = cl m (ltF l1) l1.length (ltF l2) l2.length u l g.2.1 g.2.2 q := by rw [hI, hK]; rfl
          rw [e2]
          omega
        · intro k hk
          by_cases h9 : k = n
          · rw [h9, wu_eq, ← hacc, gD_last]
          · rw [wu_nk _ _ h9, l57, gD_app (by omega)]
            exact hP k (by omega)
        · exact (hL.tr (mr.2.1.x 57)).tr (fun a _ h9 => wu_row h9)
      rw [h5, w32_id (x := (q : Int)) (by omega), w32_id (x := (n : Int)) (by omega), Int.toNat_natCast, Int.toNat_natCast, e9, e10, w32_id (x := cdI (m 68 q)) (by omega), w32_id (x := cdI (m 69 q)) (by omega), cdI_0 hb.1, cdI_0 hb.2.1]
      refine ⟨fun _ => ⟨by omega, g, ⟨hN3.p57.1.2.1, hWp, hWr, hx, hg, by omega, by omega⟩, fun x6 hx6 => ⟨g, ⟨hN3.p57.1.2.1, hWp, hWr, hx, hg, by omega, by omega⟩, fun x8 hx8 => ⟨by omega, fun g1 => ⟨by omega, fun g2 => ?_, fun g2 => ?_⟩, fun g1 => ⟨by omega, fun g2 => ?_, fun g2 => ?_⟩⟩⟩⟩, fun h9 => absurd (by rw [w32_id (by decide)]; omega) h9⟩
      · rw [if_neg g1] at ud
        rw [if_neg g2] at ld
        exact next _ _ x8 x6 _ (by omega) (by omega) hx8 hx6
      · rw [if_neg g1] at ud
        rw [if_pos (Classical.not_not.mp g2)] at ld
        exact next _ _ x8 x6 _ (by omega) (by omega) hx8 hx6
      · rw [if_pos (Classical.not_not.mp g1)] at ud
        rw [if_neg g2] at ld
        exact next _ _ x8 x6 _ (by omega) (by omega) hx8 hx6
      · exact absurd ⟨Classical.not_not.mp g1, Classical.not_not.mp g2⟩ hb.2.2

