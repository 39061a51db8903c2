/-! The model: what rules say of a place. -/
section EVB
variable {d M pc nx : Nat} {Q : Option aV → aS → Prop} {la st : List aV} {S : aS} {l : List Nat}
theorem e_ifb0 {b : Bool} {tg : Nat} (hc : am_cd M pc = (10, nx, tg, 0, l)) (hT : b = false → Ev d M Q tg la st S) (hF : b = true → Ev d M Q nx la st S) : Ev d M Q pc la ((0, bI b) :: st) S := e_if0 hc (fun h => hT (by rw [bI_w] at h; exact (bI_0 b).mp h)) (fun h => hF (by rw [bI_w, bI_0] at h; cases b; exact absurd rfl h; rfl))
theorem e_ifb1 {b : Bool} {tg : Nat} (hc : am_cd M pc = (10, nx, tg, 1, l)) (hT : b = true → Ev d M Q tg la st S) (hF : b = false → Ev d M Q nx la st S) : Ev d M Q pc la ((0, bI b) :: st) S := e_if1 hc (fun h => hT (by rw [bI_w, bI_0] at h; cases b; exact absurd rfl h; rfl)) (fun h => hF (by rw [bI_w, bI_0] at h; cases b; rfl; exact absurd (fun h9 => by cases h9) h))
end EVB
/-- the model's pairs and rules are those of m -/
def MGp (w m : eW) : Prop := w 67 0 = m 67 0 ∧ ∀ p, p < nP m → w 68 p = m 68 p ∧ w 69 p = m 69 p
def MGr (w m : eW) : Prop := w 67 6 = m 67 6 ∧ ∀ r, r < nR m → w 72 r = m 72 r ∧ w 73 r = m 73 r ∧ w 74 r = m 74 r ∧ w 75 r = m 75 r ∧ (1 ≤ m 74 r → w 76 (3 * r) = m 76 (3 * r)) ∧ (m 74 r = 2 → w 76 (3 * r + 1) = m 76 (3 * r + 1)) ∧ (m 75 r = 1 → w 76 (3 * r + 2) = m 76 (3 * r + 2))
def MG (w m : eW) : Prop := WFp m ∧ WFr m ∧ MGp w m ∧ MGr w m
def gR (m : eW) (r : Int) : Prop := 0 ≤ r ∧ r < nR m
def gP (m : eW) (p : Int) : Prop := 0 ≤ p ∧ p < nP m
def gE (p : Int) : Prop := 0 ≤ p ∧ p ≤ 16
theorem pow_le {n : Nat} (h : n ≤ 16) : (2 : Int) ^ n ≤ 65536 := by
  have := Nat.pow_le_pow_right (n := 2) (by decide) h
  have h2 : ((2 ^ n : Nat) : Int) ≤ ((2 ^ 16 : Nat) : Int) := Int.ofNat_le.mpr this
  rw [Int.natCast_pow] at h2
  exact h2
theorem PT.b {m : eW} {x : Int} (hp : WFp m) (h : PT m x) : 0 ≤ x ∧ x ≤ 65536 := by
  have := pow_le hp.n.2
  rcases h with h | h <;> omega

theorem g_mfits {d : Nat} {Q : Option aV → aS → Prop} {w : eW} {t : eT} {x p : Int} {m : eW} (h : ((¬ w32 x = w32 65536 → ((w32 p = w32 16 → Q (some (0, 0)) (enc w t)) ∧ (¬ (w32 p = w32 16) → ((¬ w32 (iand (ishr x p) 1) = w32 1 → Q (some (0, 0)) (enc w t)) ∧ (¬ (¬ w32 (iand (ishr x p) 1) = w32 1) → Q (some (0, 1)) (enc w t)))))) ∧ (¬ (¬ w32 x = w32 65536) → ((¬ w32 p = w32 16 → Q (some (0, 0)) (enc w t)) ∧ (¬ (¬ w32 p = w32 16) → Q (some (0, 1)) (enc w t)))))) : Cl (d) 196 [(0, x), (0, p)] (enc w t) Q := by
  show Ev (d) 196 Q 0 [(0, x), (0, p)] [] (enc w t)
  refine e_ldi (show am_cd 196 0 = (2, 1, 0, 0, []) by decide +kernel) rfl ?_
  refine e_ic (show am_cd 196 1 = (0, 3, 3, 65536, [199]) by decide +kernel) ?_
  refine e_cmp1 (show am_cd 196 3 = (11, 6, 20, 1, []) by decide +kernel) (fun hc => ?_) (fun hc => ?_)
  · replace h := h.1 hc
    refine e_ldi (show am_cd 196 20 = (2, 21, 1, 0, []) by decide +kernel) rfl ?_
    refine e_ic (show am_cd 196 21 = (0, 23, 1, 16, []) by decide +kernel) ?_
    refine e_cmp0 (show am_cd 196 23 = (11, 26, 39, 0, []) by decide +kernel) (fun hc => ?_) (fun hc => ?_)
    · replace h := h.1 hc
      refine e_ic (show am_cd 196 39 = (0, 40, 0, 0, []) by decide +kernel) ?_
      exact e_retz (show am_cd 196 40 = (36, 41, 0, 0, []) by decide +kernel) (by decide +kernel) (Or.inl rfl) h
    · replace h := h.2 hc
      refine e_ldi (show am_cd 196 26 = (2, 27, 0, 0, []) by decide +kernel) rfl ?_
      refine e_ldi (show am_cd 196 27 = (2, 28, 1, 0, []) by decide +kernel) rfl ?_
      refine e_ishr (show am_cd 196 28 = (5, 29, 7, 0, []) by decide +kernel) ?_
      refine e_ic (show am_cd 196 29 = (0, 30, 0, 1, []) by decide +kernel) ?_
      refine e_iand (show am_cd 196 30 = (5, 31, 3, 0, []) by decide +kernel) ?_
      refine e_ic (show am_cd 196 31 = (0, 32, 0, 1, []) by decide +kernel) ?_
      refine e_cmp1 (show am_cd 196 32 = (11, 35, 39, 1, []) by decide +kernel) (fun hc => ?_) (fun hc => ?_)
      · replace h := h.1 hc
        refine e_ic (show am_cd 196 39 = (0, 40, 0, 0, []) by decide +kernel) ?_
        exact e_retz (show am_cd 196 40 = (36, 41, 0, 0, []) by decide +kernel) (by decide +kernel) (Or.inl rfl) h
      · replace h := h.2 hc
        refine e_ic (show am_cd 196 35 = (0, 36, 0, 1, []) by decide +kernel) ?_
        refine e_go (show am_cd 196 36 = (12, 40, 0, 0, []) by decide +kernel) ?_
        exact e_retz (show am_cd 196 40 = (36, 41, 0, 0, []) by decide +kernel) (by decide +kernel) (Or.inr rfl) h
  · replace h := h.2 hc
    refine e_ldi (show am_cd 196 6 = (2, 7, 1, 0, []) by decide +kernel) rfl ?_
    refine e_ic (show am_cd 196 7 = (0, 9, 1, 16, []) by decide +kernel) ?_
    refine e_cmp1 (show am_cd 196 9 = (11, 12, 16, 1, []) by decide +kernel) (fun hc => ?_) (fun hc => ?_)
    · replace h := h.1 hc
      refine e_ic (show am_cd 196 16 = (0, 17, 0, 0, []) by decide +kernel) ?_
      refine e_go (show am_cd 196 17 = (12, 40, 0, 0, []) by decide +kernel) ?_
      exact e_retz (show am_cd 196 40 = (36, 41, 0, 0, []) by decide +kernel) (by decide +kernel) (Or.inl rfl) h
    · replace h := h.2 hc
      refine e_ic (show am_cd 196 12 = (0, 13, 0, 1, []) by decide +kernel) ?_
      refine e_go (show am_cd 196 13 = (12, 40, 0, 0, []) by decide +kernel) ?_
      exact e_retz (show am_cd 196 40 = (36, 41, 0, 0, []) by decide +kernel) (by decide +kernel) (Or.inr rfl) h

theorem c_mfits {d : Nat} {w : eW} {t : eT} {x p : Int} (h : (0 ≤ x ∧ x ≤ 65536) ∧ gE p) : Cl d 196 [(0, x), (0, p)] (enc w t) (fun r S2 => r = some (0, bI (ft x p.toNat)) ∧ S2 = enc w t) := by
  obtain ⟨hx, hp⟩ := h
  unfold gE at hp
  refine g_mfits (m := w) ?_
  simp (disch := omega) only [w32_id, i_bit]
  unfold ft bI
  have hb : (if bt x p.toNat = true then (1 : Int) else 0) = 1 ↔ x.toNat.testBit p.toNat = true := by unfold bt; split <;> simp_all
  (repeat' (first | apply And.intro | intro _)) <;> first | rfl | simp_all | skip
  all_goals (first | omega | (split <;> simp_all))

theorem g_isIn {d : Nat} {Q : Option aV → aS → Prop} {w : eW} {t : eT} {r a b e : Int} {m : eW} (h : (0 ≤ w32 r ∧ w32 r < 8) ∧ ((¬ w32 (w 75 (w32 r).toNat) = w32 1 → (0 ≤ w32 r ∧ w32 r < 8) ∧ ((¬ w32 (w 74 (w32 r).toNat) = w32 1 → (0 ≤ w32 r ∧ w32 r < 8) ∧ ((w32 (w 74 (w32 r).toNat) = 0 → Q (some (0, 1)) (enc w t)) ∧ (¬ (w32 (w 74 (w32 r).toNat) = 0) → (0 ≤ w32 ((3 * r) + 1) ∧ w32 ((3 * r) + 1) < 24) ∧ ((0 ≤ w 76 (w32 ((3 * r) + 1)).toNat ∧ w 76 (w32 ((3 * r) + 1)).toNat ≤ 65536) ∧ gE b) ∧ (((ft (w 76 (w32 ((3 * r) + 1)).toNat) b.toNat) = false → Q (some (0, 0)) (enc w t)) ∧ ((ft (w 76 (w32 ((3 * r) + 1)).toNat) b.toNat) = true → (0 ≤ w32 (3 * r) ∧ w32 (3 * r) < 24) ∧ ((0 ≤ w 76 (w32 (3 * r)).toNat ∧ w 76 (w32 (3 * r)).toNat ≤ 65536) ∧ gE a) ∧ (((ft (w 76 (w32 (3 * r)).toNat) a.toNat) = false → Q (some (0, 0)) (enc w t)) ∧ ((ft (w 76 (w32 (3 * r)).toNat) a.toNat) = true → Q (some (0, 1)) (enc w t)))))))) ∧ (¬ (¬ w32 (w 74 (w32 r).toNat) = w32 1) → (0 ≤ w32 (3 * r) ∧ w32 (3 * r) < 24) ∧ ((0 ≤ w 76 (w32 (3 * r)).toNat ∧ w 76 (w32 (3 * r)).toNat ≤ 65536) ∧ gE b) ∧ (Q (some (0, bI (ft (w 76 (w32 (3 * r)).toNat) b.toNat))) (enc w t))))) ∧ (¬ (¬ w32 (w 75 (w32 r).toNat) = w32 1) → (0 ≤ w32 ((3 * r) + 2) ∧ w32 ((3 * r) + 2) < 24) ∧ ((0 ≤ w 76 (w32 ((3 * r) + 2)).toNat ∧ w 76 (w32 ((3 * r) + 2)).toNat ≤ 65536) ∧ gE e) ∧ (((ft (w 76 (w32 ((3 * r) + 2)).toNat) e.toNat) = true → (0 ≤ w32 r ∧ w32 r < 8) ∧ ((¬ w32 (w 74 (w32 r).toNat) = w32 1 → (0 ≤ w32 r ∧ w32 r < 8) ∧ ((w32 (w 74 (w32 r).toNat) = 0 → Q (some (0, 1)) (enc w t)) ∧ (¬ (w32 (w 74 (w32 r).toNat) = 0) → (0 ≤ w32 ((3 * r) + 1) ∧ w32 ((3 * r) + 1) < 24) ∧ ((0 ≤ w 76 (w32 ((3 * r) + 1)).toNat ∧ w 76 (w32 ((3 * r) + 1)).toNat ≤ 65536) ∧ gE b) ∧ (((ft (w 76 (w32 ((3 * r) + 1)).toNat) b.toNat) = false → Q (some (0, 0)) (enc w t)) ∧ ((ft (w 76 (w32 ((3 * r) + 1)).toNat) b.toNat) = true → (0 ≤ w32 (3 * r) ∧ w32 (3 * r) < 24) ∧ ((0 ≤ w 76 (w32 (3 * r)).toNat ∧ w 76 (w32 (3 * r)).toNat ≤ 65536) ∧ gE a) ∧ (((ft (w 76 (w32 (3 * r)).toNat) a.toNat) = false → Q (some (0, 0)) (enc w t)) ∧ ((ft (w 76 (w32 (3 * r)).toNat) a.toNat) = true → Q (some (0, 1)) (enc w t)))))))) ∧ (¬ (¬ w32 (w 74 (w32 r).toNat) = w32 1) → (0 ≤ w32 (3 * r) ∧ w32 (3 * r) < 24) ∧ ((0 ≤ w 76 (w32 (3 * r)).toNat ∧ w 76 (w32 (3 * r)).toNat ≤ 65536) ∧ gE b) ∧ (Q (some (0, bI (ft (w 76 (w32 (3 * r)).toNat) b.toNat))) (enc w t))))) ∧ ((ft (w 76 (w32 ((3 * r) + 2)).toNat) e.toNat) = false → Q (some (0, 0)) (enc w t)))))) : Cl (d + 1) 197 [rA 67, (0, r), (0, a), (0, b), (0, e)] (enc w t) Q := by
  show Ev (d + 1) 197 Q 0 [rA 67, (0, r), (0, a), (0, b), (0, e)] [] (enc w t)
  refine e_lda (v := 67) (show am_cd 197 0 = (2, 1, 0, 2, []) by decide +kernel) rfl ?_
  refine e_getr (a := 67) (r := 75) (show am_cd 197 1 = (18, 4, 1210, 2, [31]) by decide +kernel) (by decide +kernel) (by decide +kernel) rfl ?_
  refine e_ldi (show am_cd 197 4 = (2, 5, 1, 0, []) by decide +kernel) rfl ?_
  refine e_iald (a := 75) (n := 8) (show am_cd 197 5 = (21, 6, 0, 0, []) by decide +kernel) (by decide +kernel) (by decide +kernel) (by decide +kernel) h.1 ?_
  replace h := h.2
  refine e_ic (show am_cd 197 6 = (0, 7, 0, 1, []) by decide +kernel) ?_
  refine e_cmp1 (show am_cd 197 7 = (11, 10, 30, 1, []) by decide +kernel) (fun hc => ?_) (fun hc => ?_)
  · replace h := h.1 hc
    refine e_lda (v := 67) (show am_cd 197 30 = (2, 31, 0, 2, []) by decide +kernel) rfl ?_
    refine e_getr (a := 67) (r := 74) (show am_cd 197 31 = (18, 34, 1209, 2, [28]) by decide +kernel) (by decide +kernel) (by decide +kernel) rfl ?_
    refine e_ldi (show am_cd 197 34 = (2, 35, 1, 0, []) by decide +kernel) rfl ?_
    refine e_iald (a := 74) (n := 8) (show am_cd 197 35 = (21, 36, 0, 0, []) by decide +kernel) (by decide +kernel) (by decide +kernel) (by decide +kernel) h.1 ?_
    replace h := h.2
    refine e_ic (show am_cd 197 36 = (0, 37, 0, 1, []) by decide +kernel) ?_
    refine e_cmp1 (show am_cd 197 37 = (11, 40, 53, 1, []) by decide +kernel) (fun hc => ?_) (fun hc => ?_)
    · replace h := h.1 hc
      refine e_lda (v := 67) (show am_cd 197 53 = (2, 54, 0, 2, []) by decide +kernel) rfl ?_
      refine e_getr (a := 67) (r := 74) (show am_cd 197 54 = (18, 57, 1209, 2, [28]) by decide +kernel) (by decide +kernel) (by decide +kernel) rfl ?_
      refine e_ldi (show am_cd 197 57 = (2, 58, 1, 0, []) by decide +kernel) rfl ?_
      refine e_iald (a := 74) (n := 8) (show am_cd 197 58 = (21, 59, 0, 0, []) by decide +kernel) (by decide +kernel) (by decide +kernel) (by decide +kernel) h.1 ?_
      replace h := h.2
      refine e_if0 (show am_cd 197 59 = (10, 62, 94, 0, []) by decide +kernel) (fun hc => ?_) (fun hc => ?_)
      · replace h := h.1 hc
        refine e_ic (show am_cd 197 94 = (0, 95, 0, 1, []) by decide +kernel) ?_
        refine e_go (show am_cd 197 95 = (12, 99, 0, 0, []) by decide +kernel) ?_
        exact e_retz (show am_cd 197 99 = (36, 100, 0, 0, []) by decide +kernel) (by decide +kernel) (Or.inr rfl) h
      · replace h := h.2 hc
        refine e_lda (v := 67) (show am_cd 197 62 = (2, 63, 0, 2, []) by decide +kernel) rfl ?_
        refine e_getr (a := 67) (r := 76) (show am_cd 197 63 = (18, 66, 1211, 2, [34]) by decide +kernel) (by decide +kernel) (by decide +kernel) rfl ?_
        refine e_ic (show am_cd 197 66 = (0, 67, 0, 3, []) by decide +kernel) ?_
        refine e_ldi (show am_cd 197 67 = (2, 68, 1, 0, []) by decide +kernel) rfl ?_
        refine e_imul (show am_cd 197 68 = (5, 69, 2, 0, []) by decide +kernel) ?_
        refine e_ic (show am_cd 197 69 = (0, 70, 0, 1, []) by decide +kernel) ?_
        refine e_iadd (show am_cd 197 70 = (5, 71, 0, 0, []) by decide +kernel) ?_
        refine e_iald (a := 76) (n := 24) (show am_cd 197 71 = (21, 72, 0, 0, []) by decide +kernel) (by decide +kernel) (by decide +kernel) (by decide +kernel) h.1 ?_
        replace h := h.2
        refine e_ldi (show am_cd 197 72 = (2, 73, 3, 0, []) by decide +kernel) rfl ?_
        refine e_cS (z := 0) (as := [(0, w 76 (w32 ((3 * r) + 1)).toNat), (0, b)]) (rest := []) (show am_cd 197 73 = (40, 76, 196, 1, [234]) by decide +kernel) (by decide) rfl rfl (Nat.le_of_ble_eq_true rfl) rfl ?_
        refine Cl.mono (Cl.up (c_mfits (d := d) h.1) (by omega)) ?_
        rintro _ _ ⟨rfl, rfl⟩
        refine ⟨fun _ h9 => (by cases h9), ?_⟩
        replace h := h.2
        show Ev _ 197 _ 76 [rA 67, (0, r), (0, a), (0, b), (0, e)] [(0, bI (ft (w 76 (w32 ((3 * r) + 1)).toNat) b.toNat))] _
        refine e_ifb0 (show am_cd 197 76 = (10, 79, 98, 0, []) by decide +kernel) (fun hc => ?_) (fun hc => ?_)
        · replace h := h.1 hc
          refine e_ic (show am_cd 197 98 = (0, 99, 0, 0, []) by decide +kernel) ?_
          exact e_retz (show am_cd 197 99 = (36, 100, 0, 0, []) by decide +kernel) (by decide +kernel) (Or.inl rfl) h
        · replace h := h.2 hc
          refine e_lda (v := 67) (show am_cd 197 79 = (2, 80, 0, 2, []) by decide +kernel) rfl ?_
          refine e_getr (a := 67) (r := 76) (show am_cd 197 80 = (18, 83, 1211, 2, [34]) by decide +kernel) (by decide +kernel) (by decide +kernel) rfl ?_
          refine e_ic (show am_cd 197 83 = (0, 84, 0, 3, []) by decide +kernel) ?_
          refine e_ldi (show am_cd 197 84 = (2, 85, 1, 0, []) by decide +kernel) rfl ?_
          refine e_imul (show am_cd 197 85 = (5, 86, 2, 0, []) by decide +kernel) ?_
          refine e_iald (a := 76) (n := 24) (show am_cd 197 86 = (21, 87, 0, 0, []) by decide +kernel) (by decide +kernel) (by decide +kernel) (by decide +kernel) h.1 ?_
          replace h := h.2
          refine e_ldi (show am_cd 197 87 = (2, 88, 2, 0, []) by decide +kernel) rfl ?_
          refine e_cS (z := 0) (as := [(0, w 76 (w32 (3 * r)).toNat), (0, a)]) (rest := []) (show am_cd 197 88 = (40, 91, 196, 1, [234]) by decide +kernel) (by decide) rfl rfl (Nat.le_of_ble_eq_true rfl) rfl ?_
          refine Cl.mono (Cl.up (c_mfits (d := d) h.1) (by omega)) ?_
          rintro _ _ ⟨rfl, rfl⟩
          refine ⟨fun _ h9 => (by cases h9), ?_⟩
          replace h := h.2
          show Ev _ 197 _ 91 [rA 67, (0, r), (0, a), (0, b), (0, e)] [(0, bI (ft (w 76 (w32 (3 * r)).toNat) a.toNat))] _
          refine e_ifb0 (show am_cd 197 91 = (10, 94, 98, 0, []) by decide +kernel) (fun hc => ?_) (fun hc => ?_)
          · replace h := h.1 hc
            refine e_ic (show am_cd 197 98 = (0, 99, 0, 0, []) by decide +kernel) ?_
            exact e_retz (show am_cd 197 99 = (36, 100, 0, 0, []) by decide +kernel) (by decide +kernel) (Or.inl rfl) h
          · replace h := h.2 hc
            refine e_ic (show am_cd 197 94 = (0, 95, 0, 1, []) by decide +kernel) ?_
            refine e_go (show am_cd 197 95 = (12, 99, 0, 0, []) by decide +kernel) ?_
            exact e_retz (show am_cd 197 99 = (36, 100, 0, 0, []) by decide +kernel) (by decide +kernel) (Or.inr rfl) h
    · replace h := h.2 hc
      refine e_lda (v := 67) (show am_cd 197 40 = (2, 41, 0, 2, []) by decide +kernel) rfl ?_
      refine e_getr (a := 67) (r := 76) (show am_cd 197 41 = (18, 44, 1211, 2, [34]) by decide +kernel) (by decide +kernel) (by decide +kernel) rfl ?_
      refine e_ic (show am_cd 197 44 = (0, 45, 0, 3, []) by decide +kernel) ?_
      refine e_ldi (show am_cd 197 45 = (2, 46, 1, 0, []) by decide +kernel) rfl ?_
      refine e_imul (show am_cd 197 46 = (5, 47, 2, 0, []) by decide +kernel) ?_
      refine e_iald (a := 76) (n := 24) (show am_cd 197 47 = (21, 48, 0, 0, []) by decide +kernel) (by decide +kernel) (by decide +kernel) (by decide +kernel) h.1 ?_
      replace h := h.2
      refine e_ldi (show am_cd 197 48 = (2, 49, 3, 0, []) by decide +kernel) rfl ?_
      refine e_cS (z := 0) (as := [(0, w 76 (w32 (3 * r)).toNat), (0, b)]) (rest := []) (show am_cd 197 49 = (40, 52, 196, 1, [234]) by decide +kernel) (by decide) rfl rfl (Nat.le_of_ble_eq_true rfl) rfl ?_
      refine Cl.mono (Cl.up (c_mfits (d := d) h.1) (by omega)) ?_
      rintro _ _ ⟨rfl, rfl⟩
      refine ⟨fun _ h9 => (by cases h9), ?_⟩
      replace h := h.2
      show Ev _ 197 _ 52 [rA 67, (0, r), (0, a), (0, b), (0, e)] [(0, bI (ft (w 76 (w32 (3 * r)).toNat) b.toNat))] _
      exact e_retz (show am_cd 197 52 = (36, 53, 0, 0, []) by decide +kernel) (by decide +kernel) (bI_01 _) h
  · replace h := h.2 hc
    refine e_lda (v := 67) (show am_cd 197 10 = (2, 11, 0, 2, []) by decide +kernel) rfl ?_
    refine e_getr (a := 67) (r := 76) (show am_cd 197 11 = (18, 14, 1211, 2, [34]) by decide +kernel) (by decide +kernel) (by decide +kernel) rfl ?_
    refine e_ic (show am_cd 197 14 = (0, 15, 0, 3, []) by decide +kernel) ?_
    refine e_ldi (show am_cd 197 15 = (2, 16, 1, 0, []) by decide +kernel) rfl ?_
    refine e_imul (show am_cd 197 16 = (5, 17, 2, 0, []) by decide +kernel) ?_
    refine e_ic (show am_cd 197 17 = (0, 18, 0, 2, []) by decide +kernel) ?_
    refine e_iadd (show am_cd 197 18 = (5, 19, 0, 0, []) by decide +kernel) ?_
    refine e_iald (a := 76) (n := 24) (show am_cd 197 19 = (21, 20, 0, 0, []) by decide +kernel) (by decide +kernel) (by decide +kernel) (by decide +kernel) h.1 ?_
    replace h := h.2
    refine e_ldi (show am_cd 197 20 = (2, 22, 4, 0, []) by decide +kernel) rfl ?_
    refine e_cS (z := 0) (as := [(0, w 76 (w32 ((3 * r) + 2)).toNat), (0, e)]) (rest := []) (show am_cd 197 22 = (40, 25, 196, 1, [234]) by decide +kernel) (by decide) rfl rfl (Nat.le_of_ble_eq_true rfl) rfl ?_
    refine Cl.mono (Cl.up (c_mfits (d := d) h.1) (by omega)) ?_
    rintro _ _ ⟨rfl, rfl⟩
    refine ⟨fun _ h9 => (by cases h9), ?_⟩
    replace h := h.2
    show Ev _ 197 _ 25 [rA 67, (0, r), (0, a), (0, b), (0, e)] [(0, bI (ft (w 76 (w32 ((3 * r) + 2)).toNat) e.toNat))] _
    refine e_ifb1 (show am_cd 197 25 = (10, 28, 30, 1, []) by decide +kernel) (fun hc => ?_) (fun hc => ?_)
    · replace h := h.1 hc
      refine e_lda (v := 67) (show am_cd 197 30 = (2, 31, 0, 2, []) by decide +kernel) rfl ?_
      refine e_getr (a := 67) (r := 74) (show am_cd 197 31 = (18, 34, 1209, 2, [28]) by decide +kernel) (by decide +kernel) (by decide +kernel) rfl ?_
      refine e_ldi (show am_cd 197 34 = (2, 35, 1, 0, []) by decide +kernel) rfl ?_
      refine e_iald (a := 74) (n := 8) (show am_cd 197 35 = (21, 36, 0, 0, []) by decide +kernel) (by decide +kernel) (by decide +kernel) (by decide +kernel) h.1 ?_
      replace h := h.2
      refine e_ic (show am_cd 197 36 = (0, 37, 0, 1, []) by decide +kernel) ?_
      refine e_cmp1 (show am_cd 197 37 = (11, 40, 53, 1, []) by decide +kernel) (fun hc => ?_) (fun hc => ?_)
      · replace h := h.1 hc
        refine e_lda (v := 67) (show am_cd 197 53 = (2, 54, 0, 2, []) by decide +kernel) rfl ?_
        refine e_getr (a := 67) (r := 74) (show am_cd 197 54 = (18, 57, 1209, 2, [28]) by decide +kernel) (by decide +kernel) (by decide +kernel) rfl ?_
        refine e_ldi (show am_cd 197 57 = (2, 58, 1, 0, []) by decide +kernel) rfl ?_
        refine e_iald (a := 74) (n := 8) (show am_cd 197 58 = (21, 59, 0, 0, []) by decide +kernel) (by decide +kernel) (by decide +kernel) (by decide +kernel) h.1 ?_
        replace h := h.2
        refine e_if0 (show am_cd 197 59 = (10, 62, 94, 0, []) by decide +kernel) (fun hc => ?_) (fun hc => ?_)
        · replace h := h.1 hc
          refine e_ic (show am_cd 197 94 = (0, 95, 0, 1, []) by decide +kernel) ?_
          refine e_go (show am_cd 197 95 = (12, 99, 0, 0, []) by decide +kernel) ?_
          exact e_retz (show am_cd 197 99 = (36, 100, 0, 0, []) by decide +kernel) (by decide +kernel) (Or.inr rfl) h
        · replace h := h.2 hc
          refine e_lda (v := 67) (show am_cd 197 62 = (2, 63, 0, 2, []) by decide +kernel) rfl ?_
          refine e_getr (a := 67) (r := 76) (show am_cd 197 63 = (18, 66, 1211, 2, [34]) by decide +kernel) (by decide +kernel) (by decide +kernel) rfl ?_
          refine e_ic (show am_cd 197 66 = (0, 67, 0, 3, []) by decide +kernel) ?_
          refine e_ldi (show am_cd 197 67 = (2, 68, 1, 0, []) by decide +kernel) rfl ?_
          refine e_imul (show am_cd 197 68 = (5, 69, 2, 0, []) by decide +kernel) ?_
          refine e_ic (show am_cd 197 69 = (0, 70, 0, 1, []) by decide +kernel) ?_
          refine e_iadd (show am_cd 197 70 = (5, 71, 0, 0, []) by decide +kernel) ?_
          refine e_iald (a := 76) (n := 24) (show am_cd 197 71 = (21, 72, 0, 0, []) by decide +kernel) (by decide +kernel) (by decide +kernel) (by decide +kernel) h.1 ?_
          replace h := h.2
          refine e_ldi (show am_cd 197 72 = (2, 73, 3, 0, []) by decide +kernel) rfl ?_
          refine e_cS (z := 0) (as := [(0, w 76 (w32 ((3 * r) + 1)).toNat), (0, b)]) (rest := []) (show am_cd 197 73 = (40, 76, 196, 1, [234]) by decide +kernel) (by decide) rfl rfl (Nat.le_of_ble_eq_true rfl) rfl ?_
          refine Cl.mono (Cl.up (c_mfits (d := d) h.1) (by omega)) ?_
          rintro _ _ ⟨rfl, rfl⟩
          refine ⟨fun _ h9 => (by cases h9), ?_⟩
          replace h := h.2
          show Ev _ 197 _ 76 [rA 67, (0, r), (0, a), (0, b), (0, e)] [(0, bI (ft (w 76 (w32 ((3 * r) + 1)).toNat) b.toNat))] _
          refine e_ifb0 (show am_cd 197 76 = (10, 79, 98, 0, []) by decide +kernel) (fun hc => ?_) (fun hc => ?_)
          · replace h := h.1 hc
            refine e_ic (show am_cd 197 98 = (0, 99, 0, 0, []) by decide +kernel) ?_
            exact e_retz (show am_cd 197 99 = (36, 100, 0, 0, []) by decide +kernel) (by decide +kernel) (Or.inl rfl) h
          · replace h := h.2 hc
            refine e_lda (v := 67) (show am_cd 197 79 = (2, 80, 0, 2, []) by decide +kernel) rfl ?_
            refine e_getr (a := 67) (r := 76) (show am_cd 197 80 = (18, 83, 1211, 2, [34]) by decide +kernel) (by decide +kernel) (by decide +kernel) rfl ?_
            refine e_ic (show am_cd 197 83 = (0, 84, 0, 3, []) by decide +kernel) ?_
            refine e_ldi (show am_cd 197 84 = (2, 85, 1, 0, []) by decide +kernel) rfl ?_
            refine e_imul (show am_cd 197 85 = (5, 86, 2, 0, []) by decide +kernel) ?_
            refine e_iald (a := 76) (n := 24) (show am_cd 197 86 = (21, 87, 0, 0, []) by decide +kernel) (by decide +kernel) (by decide +kernel) (by decide +kernel) h.1 ?_
            replace h := h.2
            refine e_ldi (show am_cd 197 87 = (2, 88, 2, 0, []) by decide +kernel) rfl ?_
            refine e_cS (z := 0) (as := [(0, w 76 (w32 (3 * r)).toNat), (0, a)]) (rest := []) (show am_cd 197 88 = (40, 91, 196, 1, [234]) by decide +kernel) (by decide) rfl rfl (Nat.le_of_ble_eq_true rfl) rfl ?_
            refine Cl.mono (Cl.up (c_mfits (d := d) h.1) (by omega)) ?_
            rintro _ _ ⟨rfl, rfl⟩
            refine ⟨fun _ h9 => (by cases h9), ?_⟩
            replace h := h.2
            show Ev _ 197 _ 91 [rA 67, (0, r), (0, a), (0, b), (0, e)] [(0, bI (ft (w 76 (w32 (3 * r)).toNat) a.toNat))] _
            refine e_ifb0 (show am_cd 197 91 = (10, 94, 98, 0, []) by decide +kernel) (fun hc => ?_) (fun hc => ?_)
            · replace h := h.1 hc
              refine e_ic (show am_cd 197 98 = (0, 99, 0, 0, []) by decide +kernel) ?_
              exact e_retz (show am_cd 197 99 = (36, 100, 0, 0, []) by decide +kernel) (by decide +kernel) (Or.inl rfl) h
            · replace h := h.2 hc
              refine e_ic (show am_cd 197 94 = (0, 95, 0, 1, []) by decide +kernel) ?_
              refine e_go (show am_cd 197 95 = (12, 99, 0, 0, []) by decide +kernel) ?_
              exact e_retz (show am_cd 197 99 = (36, 100, 0, 0, []) by decide +kernel) (by decide +kernel) (Or.inr rfl) h
      · replace h := h.2 hc
        refine e_lda (v := 67) (show am_cd 197 40 = (2, 41, 0, 2, []) by decide +kernel) rfl ?_
        refine e_getr (a := 67) (r := 76) (show am_cd 197 41 = (18, 44, 1211, 2, [34]) by decide +kernel) (by decide +kernel) (by decide +kernel) rfl ?_
        refine e_ic (show am_cd 197 44 = (0, 45, 0, 3, []) by decide +kernel) ?_
        refine e_ldi (show am_cd 197 45 = (2, 46, 1, 0, []) by decide +kernel) rfl ?_
        refine e_imul (show am_cd 197 46 = (5, 47, 2, 0, []) by decide +kernel) ?_
        refine e_iald (a := 76) (n := 24) (show am_cd 197 47 = (21, 48, 0, 0, []) by decide +kernel) (by decide +kernel) (by decide +kernel) (by decide +kernel) h.1 ?_
        replace h := h.2
        refine e_ldi (show am_cd 197 48 = (2, 49, 3, 0, []) by decide +kernel) rfl ?_
        refine e_cS (z := 0) (as := [(0, w 76 (w32 (3 * r)).toNat), (0, b)]) (rest := []) (show am_cd 197 49 = (40, 52, 196, 1, [234]) by decide +kernel) (by decide) rfl rfl (Nat.le_of_ble_eq_true rfl) rfl ?_
        refine Cl.mono (Cl.up (c_mfits (d := d) h.1) (by omega)) ?_
        rintro _ _ ⟨rfl, rfl⟩
        refine ⟨fun _ h9 => (by cases h9), ?_⟩
        replace h := h.2
        show Ev _ 197 _ 52 [rA 67, (0, r), (0, a), (0, b), (0, e)] [(0, bI (ft (w 76 (w32 (3 * r)).toNat) b.toNat))] _
        exact e_retz (show am_cd 197 52 = (36, 53, 0, 0, []) by decide +kernel) (by decide +kernel) (bI_01 _) h
    · replace h := h.2 hc
      refine e_ic (show am_cd 197 28 = (0, 29, 0, 0, []) by decide +kernel) ?_
      exact e_retz (show am_cd 197 29 = (36, 30, 0, 0, []) by decide +kernel) (by decide +kernel) (Or.inl rfl) h

theorem c_isIn {d : Nat} {m w : eW} {t : eT} {r a b e : Int} (h : MG w m ∧ gR m r ∧ gE a ∧ gE b ∧ gE e) : Cl (d + 1) 197 [rA 67, (0, r), (0, a), (0, b), (0, e)] (enc w t) (fun z S2 => z = some (0, bI (inR m r.toNat a.toNat b.toNat e.toNat)) ∧ S2 = enc w t) := by
  obtain ⟨⟨hp, hr, hwp, hwr⟩, hgr, ha, hb, he⟩ := h
  have hn := hr.n
  unfold gR at hgr
  obtain ⟨f1, f2, f3, f4, f5, f6, f7⟩ := hr.2 r.toNat (by omega)
  obtain ⟨e1, e2, e3, e4, e5, e6, e7⟩ := hwr.2 r.toNat (by omega)
  have hi : r = (r.toNat : Int) := by omega
  generalize r.toNat = k at *
  subst hi
  refine g_isIn (m := m) ?_
  simp (disch := omega) only [w32_id, Int.toNat_natCast, e3, e4, show (3 * (k : Int)).toNat = 3 * k by omega, show (3 * (k : Int) + 1).toNat = 3 * k + 1 by omega, show (3 * (k : Int) + 2).toNat = 3 * k + 2 by omega]
  unfold inR ff nf bf
  have p5 : m 74 k = 1 → 0 ≤ w 76 (3 * k) ∧ w 76 (3 * k) ≤ 65536 := fun h => by rw [e5 (by omega)]; exact PT.b hp (f5 (by omega))
  have p5b : m 74 k = 2 → 0 ≤ w 76 (3 * k) ∧ w 76 (3 * k) ≤ 65536 := fun h => by rw [e5 (by omega)]; exact PT.b hp (f5 (by omega))
  have p6 : m 74 k = 2 → 0 ≤ w 76 (3 * k + 1) ∧ w 76 (3 * k + 1) ≤ 65536 := fun h => by rw [e6 h]; exact PT.b hp (Or.inr (f6 h))
  have p7 : m 75 k = 1 → 0 ≤ w 76 (3 * k + 2) ∧ w 76 (3 * k + 2) ≤ 65536 := fun h => by rw [e7 h]; exact PT.b hp (f7 h)
  have c4 : m 74 k = 0 ∨ m 74 k = 1 ∨ m 74 k = 2 := by omega
  have c5 : m 75 k = 0 ∨ m 75 k = 1 := by omega
  rcases c4 with c4 | c4 | c4 <;> rcases c5 with c5 | c5 <;> simp (config := { decide := true }) only [c4, c5] at * <;> simp_all [bI]
  all_goals (repeat' (first | apply And.intro | intro _)) <;> first | omega | simp_all

theorem g_breaks {d : Nat} {Q : Option aV → aS → Prop} {w : eW} {t : eT} {r a b c e : Int} {m : eW} (h : (MG w m ∧ gR m r ∧ gE a ∧ gE b ∧ gE e) ∧ (0 ≤ w32 r ∧ w32 r < 8) ∧ ((¬ w32 c = w32 (w 72 (w32 r).toNat) → (0 ≤ w32 r ∧ w32 r < 8) ∧ ((w32 (w 73 (w32 r).toNat) = 0 → Q (some (0, 0)) (enc w t)) ∧ (w32 (w 73 (w32 r).toNat) = 1 → (((inR m r.toNat a.toNat b.toNat e.toNat) = false → Q (some (0, 0)) (enc w t)) ∧ ((inR m r.toNat a.toNat b.toNat e.toNat) = true → (0 ≤ w32 c ∧ w32 c < 16) ∧ (0 ≤ w32 r ∧ w32 r < 8) ∧ (0 ≤ w32 (w 72 (w32 r).toNat) ∧ w32 (w 72 (w32 r).toNat) < 16) ∧ ((¬ w32 (w 68 (w32 c).toNat) = w32 (w 68 (w32 (w 72 (w32 r).toNat)).toNat) → Q (some (0, 0)) (enc w t)) ∧ (¬ (¬ w32 (w 68 (w32 c).toNat) = w32 (w 68 (w32 (w 72 (w32 r).toNat)).toNat)) → Q (some (0, 1)) (enc w t)))))) ∧ (w32 (w 73 (w32 r).toNat) = 2 → (((inR m r.toNat a.toNat b.toNat e.toNat) = false → Q (some (0, 0)) (enc w t)) ∧ ((inR m r.toNat a.toNat b.toNat e.toNat) = true → (0 ≤ w32 c ∧ w32 c < 16) ∧ (0 ≤ w32 r ∧ w32 r < 8) ∧ (0 ≤ w32 (w 72 (w32 r).toNat) ∧ w32 (w 72 (w32 r).toNat) < 16) ∧ ((¬ w32 (w 68 (w32 c).toNat) = w32 (w 68 (w32 (w 72 (w32 r).toNat)).toNat) → Q (some (0, 0)) (enc w t)) ∧ (¬ (¬ w32 (w 68 (w32 c).toNat) = w32 (w 68 (w32 (w 72 (w32 r).toNat)).toNat)) → Q (some (0, 1)) (enc w t)))))) ∧ ((w32 (w 73 (w32 r).toNat) < 0 ∨ 3 ≤ w32 (w 73 (w32 r).toNat)) → (((inR m r.toNat a.toNat b.toNat e.toNat) = false → Q (some (0, 0)) (enc w t)) ∧ ((inR m r.toNat a.toNat b.toNat e.toNat) = true → Q (some (0, 0)) (enc w t)))))) ∧ (¬ (¬ w32 c = w32 (w 72 (w32 r).toNat)) → (0 ≤ w32 r ∧ w32 r < 8) ∧ ((w32 (w 73 (w32 r).toNat) = 0 → (((inR m r.toNat a.toNat b.toNat e.toNat) = true → Q (some (0, 0)) (enc w t)) ∧ ((inR m r.toNat a.toNat b.toNat e.toNat) = false → Q (some (0, 1)) (enc w t)))) ∧ (w32 (w 73 (w32 r).toNat) = 1 → (((inR m r.toNat a.toNat b.toNat e.toNat) = false → Q (some (0, 0)) (enc w t)) ∧ ((inR m r.toNat a.toNat b.toNat e.toNat) = true → Q (some (0, 0)) (enc w t)))) ∧ (w32 (w 73 (w32 r).toNat) = 2 → (((inR m r.toNat a.toNat b.toNat e.toNat) = true → Q (some (0, 0)) (enc w t)) ∧ ((inR m r.toNat a.toNat b.toNat e.toNat) = false → Q (some (0, 1)) (enc w t)))) ∧ ((w32 (w 73 (w32 r).toNat) < 0 ∨ 3 ≤ w32 (w 73 (w32 r).toNat)) → (((inR m r.toNat a.toNat b.toNat e.toNat) = false → Q (some (0, 0)) (enc w t)) ∧ ((inR m r.toNat a.toNat b.toNat e.toNat) = true → Q (some (0, 1)) (enc w t)))))))) : Cl (d + 2) 198 [rA 67, (0, r), (0, a), (0, b), (0, c), (0, e)] (enc w t) Q := by
  show Ev (d + 2) 198 Q 0 [rA 67, (0, r), (0, a), (0, b), (0, c), (0, e), (9, 0), (9, 0)] [] (enc w t)
  refine e_lda (v := 67) (show am_cd 198 0 = (2, 1, 0, 2, []) by decide +kernel) rfl ?_
  refine e_ldi (show am_cd 198 1 = (2, 2, 1, 0, []) by decide +kernel) rfl ?_
  refine e_ldi (show am_cd 198 2 = (2, 3, 2, 0, []) by decide +kernel) rfl ?_
  refine e_ldi (show am_cd 198 3 = (2, 4, 3, 0, []) by decide +kernel) rfl ?_
  refine e_ldi (show am_cd 198 4 = (2, 6, 5, 0, []) by decide +kernel) rfl ?_
  refine e_cV (z := 0) (a := 67) (as := [(0, r), (0, a), (0, b), (0, e)]) (rest := []) (show am_cd 198 6 = (40, 9, 197, 0, [238]) by decide +kernel) (by decide +kernel) rfl rfl (Nat.le_of_ble_eq_true rfl) rfl ?_
  refine Cl.mono (Cl.up (c_isIn (d := d) h.1) (by omega)) ?_
  rintro _ _ ⟨rfl, rfl⟩
  refine ⟨fun _ h9 => (by cases h9), ?_⟩
  replace h := h.2
  show Ev _ 198 _ 9 [rA 67, (0, r), (0, a), (0, b), (0, c), (0, e), (9, 0), (9, 0)] [(0, bI (inR m r.toNat a.toNat b.toNat e.toNat))] _
  refine e_sti (la2 := [rA 67, (0, r), (0, a), (0, b), (0, c), (0, e), (0, bI (inR m r.toNat a.toNat b.toNat e.toNat)), (9, 0)]) (show am_cd 198 9 = (3, 11, 6, 0, []) by decide +kernel) rfl ?_
  refine e_ldi (show am_cd 198 11 = (2, 13, 4, 0, []) by decide +kernel) rfl ?_
  refine e_lda (v := 67) (show am_cd 198 13 = (2, 14, 0, 2, []) by decide +kernel) rfl ?_
  refine e_getr (a := 67) (r := 72) (show am_cd 198 14 = (18, 17, 1207, 2, [22]) by decide +kernel) (by decide +kernel) (by decide +kernel) rfl ?_
  refine e_ldi (show am_cd 198 17 = (2, 18, 1, 0, []) by decide +kernel) rfl ?_
  refine e_iald (a := 72) (n := 8) (show am_cd 198 18 = (21, 19, 0, 0, []) by decide +kernel) (by decide +kernel) (by decide +kernel) (by decide +kernel) h.1 ?_
  replace h := h.2
  refine e_cmp1 (show am_cd 198 19 = (11, 22, 26, 1, []) by decide +kernel) (fun hc => ?_) (fun hc => ?_)
  · replace h := h.1 hc
    refine e_ic (show am_cd 198 26 = (0, 27, 0, 0, []) by decide +kernel) ?_
    refine e_sti (la2 := [rA 67, (0, r), (0, a), (0, b), (0, c), (0, e), (0, bI (inR m r.toNat a.toNat b.toNat e.toNat)), (0, 0)]) (show am_cd 198 27 = (3, 29, 7, 0, []) by decide +kernel) rfl ?_
    refine e_lda (v := 67) (show am_cd 198 29 = (2, 30, 0, 2, []) by decide +kernel) rfl ?_
    refine e_getr (a := 67) (r := 73) (show am_cd 198 30 = (18, 33, 1208, 2, [25]) by decide +kernel) (by decide +kernel) (by decide +kernel) rfl ?_
    refine e_ldi (show am_cd 198 33 = (2, 34, 1, 0, []) by decide +kernel) rfl ?_
    refine e_iald (a := 73) (n := 8) (show am_cd 198 34 = (21, 35, 0, 0, []) by decide +kernel) (by decide +kernel) (by decide +kernel) (by decide +kernel) h.1 ?_
    replace h := h.2
    refine e_tsw (show am_cd 198 35 = (30, 163, 25, 0, [60, 76, 113]) by decide +kernel) (fun i tg hi hx => ?_) (fun hx => ?_)
    · match i, hi with
      | 0, hi =>
        cases hi
        replace h := h.1 (by omega)
        refine e_ldi (show am_cd 198 60 = (2, 62, 7, 0, []) by decide +kernel) rfl ?_
        refine e_ifT (show am_cd 198 62 = (10, 65, 74, 0, []) by decide +kernel) (by decide +kernel) ?_
        refine e_ic (show am_cd 198 74 = (0, 75, 0, 0, []) by decide +kernel) ?_
        exact e_retz (show am_cd 198 75 = (36, 76, 0, 0, []) by decide +kernel) (by decide +kernel) (Or.inl rfl) h
      | 1, hi =>
        cases hi
        replace h := h.2.1 (by omega)
        refine e_ldi (show am_cd 198 76 = (2, 78, 6, 0, []) by decide +kernel) rfl ?_
        refine e_ifb0 (show am_cd 198 78 = (10, 81, 111, 0, []) by decide +kernel) (fun hc => ?_) (fun hc => ?_)
        · replace h := h.1 hc
          refine e_ic (show am_cd 198 111 = (0, 112, 0, 0, []) by decide +kernel) ?_
          exact e_retz (show am_cd 198 112 = (36, 113, 0, 0, []) by decide +kernel) (by decide +kernel) (Or.inl rfl) h
        · replace h := h.2 hc
          refine e_ldi (show am_cd 198 81 = (2, 83, 7, 0, []) by decide +kernel) rfl ?_
          refine e_ifF (show am_cd 198 83 = (10, 86, 111, 1, []) by decide +kernel) (by decide +kernel) ?_
          refine e_lda (v := 67) (show am_cd 198 86 = (2, 87, 0, 2, []) by decide +kernel) rfl ?_
          refine e_getr (a := 67) (r := 68) (show am_cd 198 87 = (18, 90, 1201, 2, [9]) by decide +kernel) (by decide +kernel) (by decide +kernel) rfl ?_
          refine e_ldi (show am_cd 198 90 = (2, 92, 4, 0, []) by decide +kernel) rfl ?_
          refine e_iald (a := 68) (n := 16) (show am_cd 198 92 = (21, 93, 0, 0, []) by decide +kernel) (by decide +kernel) (by decide +kernel) (by decide +kernel) h.1 ?_
          replace h := h.2
          refine e_lda (v := 67) (show am_cd 198 93 = (2, 94, 0, 2, []) by decide +kernel) rfl ?_
          refine e_getr (a := 67) (r := 68) (show am_cd 198 94 = (18, 97, 1201, 2, [9]) by decide +kernel) (by decide +kernel) (by decide +kernel) rfl ?_
          refine e_lda (v := 67) (show am_cd 198 97 = (2, 98, 0, 2, []) by decide +kernel) rfl ?_
          refine e_getr (a := 67) (r := 72) (show am_cd 198 98 = (18, 101, 1207, 2, [22]) by decide +kernel) (by decide +kernel) (by decide +kernel) rfl ?_
          refine e_ldi (show am_cd 198 101 = (2, 102, 1, 0, []) by decide +kernel) rfl ?_
          refine e_iald (a := 72) (n := 8) (show am_cd 198 102 = (21, 103, 0, 0, []) by decide +kernel) (by decide +kernel) (by decide +kernel) (by decide +kernel) h.1 ?_
          replace h := h.2
          refine e_iald (a := 68) (n := 16) (show am_cd 198 103 = (21, 104, 0, 0, []) by decide +kernel) (by decide +kernel) (by decide +kernel) (by decide +kernel) h.1 ?_
          replace h := h.2
          refine e_cmp1 (show am_cd 198 104 = (11, 107, 111, 1, []) by decide +kernel) (fun hc => ?_) (fun hc => ?_)
          · replace h := h.1 hc
            refine e_ic (show am_cd 198 111 = (0, 112, 0, 0, []) by decide +kernel) ?_
            exact e_retz (show am_cd 198 112 = (36, 113, 0, 0, []) by decide +kernel) (by decide +kernel) (Or.inl rfl) h
          · replace h := h.2 hc
            refine e_ic (show am_cd 198 107 = (0, 108, 0, 1, []) by decide +kernel) ?_
            refine e_go (show am_cd 198 108 = (12, 112, 0, 0, []) by decide +kernel) ?_
            exact e_retz (show am_cd 198 112 = (36, 113, 0, 0, []) by decide +kernel) (by decide +kernel) (Or.inr rfl) h
      | 2, hi =>
        cases hi
        replace h := h.2.2.1 (by omega)
        refine e_ldi (show am_cd 198 113 = (2, 115, 7, 0, []) by decide +kernel) rfl ?_
        refine e_ifT (show am_cd 198 115 = (10, 118, 131, 0, []) by decide +kernel) (by decide +kernel) ?_
        refine e_ldi (show am_cd 198 131 = (2, 133, 6, 0, []) by decide +kernel) rfl ?_
        refine e_ifb0 (show am_cd 198 133 = (10, 136, 161, 0, []) by decide +kernel) (fun hc => ?_) (fun hc => ?_)
        · replace h := h.1 hc
          refine e_ic (show am_cd 198 161 = (0, 162, 0, 0, []) by decide +kernel) ?_
          exact e_retz (show am_cd 198 162 = (36, 163, 0, 0, []) by decide +kernel) (by decide +kernel) (Or.inl rfl) h
        · replace h := h.2 hc
          refine e_lda (v := 67) (show am_cd 198 136 = (2, 137, 0, 2, []) by decide +kernel) rfl ?_
          refine e_getr (a := 67) (r := 68) (show am_cd 198 137 = (18, 140, 1201, 2, [9]) by decide +kernel) (by decide +kernel) (by decide +kernel) rfl ?_
          refine e_ldi (show am_cd 198 140 = (2, 142, 4, 0, []) by decide +kernel) rfl ?_
          refine e_iald (a := 68) (n := 16) (show am_cd 198 142 = (21, 143, 0, 0, []) by decide +kernel) (by decide +kernel) (by decide +kernel) (by decide +kernel) h.1 ?_
          replace h := h.2
          refine e_lda (v := 67) (show am_cd 198 143 = (2, 144, 0, 2, []) by decide +kernel) rfl ?_
          refine e_getr (a := 67) (r := 68) (show am_cd 198 144 = (18, 147, 1201, 2, [9]) by decide +kernel) (by decide +kernel) (by decide +kernel) rfl ?_
          refine e_lda (v := 67) (show am_cd 198 147 = (2, 148, 0, 2, []) by decide +kernel) rfl ?_
          refine e_getr (a := 67) (r := 72) (show am_cd 198 148 = (18, 151, 1207, 2, [22]) by decide +kernel) (by decide +kernel) (by decide +kernel) rfl ?_
          refine e_ldi (show am_cd 198 151 = (2, 152, 1, 0, []) by decide +kernel) rfl ?_
          refine e_iald (a := 72) (n := 8) (show am_cd 198 152 = (21, 153, 0, 0, []) by decide +kernel) (by decide +kernel) (by decide +kernel) (by decide +kernel) h.1 ?_
          replace h := h.2
          refine e_iald (a := 68) (n := 16) (show am_cd 198 153 = (21, 154, 0, 0, []) by decide +kernel) (by decide +kernel) (by decide +kernel) (by decide +kernel) h.1 ?_
          replace h := h.2
          refine e_cmp1 (show am_cd 198 154 = (11, 157, 161, 1, []) by decide +kernel) (fun hc => ?_) (fun hc => ?_)
          · replace h := h.1 hc
            refine e_ic (show am_cd 198 161 = (0, 162, 0, 0, []) by decide +kernel) ?_
            exact e_retz (show am_cd 198 162 = (36, 163, 0, 0, []) by decide +kernel) (by decide +kernel) (Or.inl rfl) h
          · replace h := h.2 hc
            refine e_ic (show am_cd 198 157 = (0, 158, 0, 1, []) by decide +kernel) ?_
            refine e_go (show am_cd 198 158 = (12, 162, 0, 0, []) by decide +kernel) ?_
            exact e_retz (show am_cd 198 162 = (36, 163, 0, 0, []) by decide +kernel) (by decide +kernel) (Or.inr rfl) h
      | i + 3, hi => cases hi
    · replace h := h.2.2.2 (by simp only [List.length_cons, List.length_nil] at hx; omega)
      refine e_ldi (show am_cd 198 163 = (2, 165, 6, 0, []) by decide +kernel) rfl ?_
      refine e_ifb0 (show am_cd 198 165 = (10, 168, 177, 0, []) by decide +kernel) (fun hc => ?_) (fun hc => ?_)
      · replace h := h.1 hc
        refine e_ic (show am_cd 198 177 = (0, 178, 0, 0, []) by decide +kernel) ?_
        exact e_retz (show am_cd 198 178 = (36, 179, 0, 0, []) by decide +kernel) (by decide +kernel) (Or.inl rfl) h
      · replace h := h.2 hc
        refine e_ldi (show am_cd 198 168 = (2, 170, 7, 0, []) by decide +kernel) rfl ?_
        refine e_ifT (show am_cd 198 170 = (10, 173, 177, 0, []) by decide +kernel) (by decide +kernel) ?_
        refine e_ic (show am_cd 198 177 = (0, 178, 0, 0, []) by decide +kernel) ?_
        exact e_retz (show am_cd 198 178 = (36, 179, 0, 0, []) by decide +kernel) (by decide +kernel) (Or.inl rfl) h
  · replace h := h.2 hc
    refine e_ic (show am_cd 198 22 = (0, 23, 0, 1, []) by decide +kernel) ?_
    refine e_go (show am_cd 198 23 = (12, 27, 0, 0, []) by decide +kernel) ?_
    refine e_sti (la2 := [rA 67, (0, r), (0, a), (0, b), (0, c), (0, e), (0, bI (inR m r.toNat a.toNat b.toNat e.toNat)), (0, 1)]) (show am_cd 198 27 = (3, 29, 7, 0, []) by decide +kernel) rfl ?_
    refine e_lda (v := 67) (show am_cd 198 29 = (2, 30, 0, 2, []) by decide +kernel) rfl ?_
    refine e_getr (a := 67) (r := 73) (show am_cd 198 30 = (18, 33, 1208, 2, [25]) by decide +kernel) (by decide +kernel) (by decide +kernel) rfl ?_
    refine e_ldi (show am_cd 198 33 = (2, 34, 1, 0, []) by decide +kernel) rfl ?_
    refine e_iald (a := 73) (n := 8) (show am_cd 198 34 = (21, 35, 0, 0, []) by decide +kernel) (by decide +kernel) (by decide +kernel) (by decide +kernel) h.1 ?_
    replace h := h.2
    refine e_tsw (show am_cd 198 35 = (30, 163, 25, 0, [60, 76, 113]) by decide +kernel) (fun i tg hi hx => ?_) (fun hx => ?_)
    · match i, hi with
      | 0, hi =>
        cases hi
        replace h := h.1 (by omega)
        refine e_ldi (show am_cd 198 60 = (2, 62, 7, 0, []) by decide +kernel) rfl ?_
        refine e_ifF (show am_cd 198 62 = (10, 65, 74, 0, []) by decide +kernel) (by decide +kernel) ?_
        refine e_ldi (show am_cd 198 65 = (2, 67, 6, 0, []) by decide +kernel) rfl ?_
        refine e_ifb1 (show am_cd 198 67 = (10, 70, 74, 1, []) by decide +kernel) (fun hc => ?_) (fun hc => ?_)
        · replace h := h.1 hc
          refine e_ic (show am_cd 198 74 = (0, 75, 0, 0, []) by decide +kernel) ?_
          exact e_retz (show am_cd 198 75 = (36, 76, 0, 0, []) by decide +kernel) (by decide +kernel) (Or.inl rfl) h
        · replace h := h.2 hc
          refine e_ic (show am_cd 198 70 = (0, 71, 0, 1, []) by decide +kernel) ?_
          refine e_go (show am_cd 198 71 = (12, 75, 0, 0, []) by decide +kernel) ?_
          exact e_retz (show am_cd 198 75 = (36, 76, 0, 0, []) by decide +kernel) (by decide +kernel) (Or.inr rfl) h
      | 1, hi =>
        cases hi
        replace h := h.2.1 (by omega)
        refine e_ldi (show am_cd 198 76 = (2, 78, 6, 0, []) by decide +kernel) rfl ?_
        refine e_ifb0 (show am_cd 198 78 = (10, 81, 111, 0, []) by decide +kernel) (fun hc => ?_) (fun hc => ?_)
        · replace h := h.1 hc
          refine e_ic (show am_cd 198 111 = (0, 112, 0, 0, []) by decide +kernel) ?_
          exact e_retz (show am_cd 198 112 = (36, 113, 0, 0, []) by decide +kernel) (by decide +kernel) (Or.inl rfl) h
        · replace h := h.2 hc
          refine e_ldi (show am_cd 198 81 = (2, 83, 7, 0, []) by decide +kernel) rfl ?_
          refine e_ifT (show am_cd 198 83 = (10, 86, 111, 1, []) by decide +kernel) (by decide +kernel) ?_
          refine e_ic (show am_cd 198 111 = (0, 112, 0, 0, []) by decide +kernel) ?_
          exact e_retz (show am_cd 198 112 = (36, 113, 0, 0, []) by decide +kernel) (by decide +kernel) (Or.inl rfl) h
      | 2, hi =>
        cases hi
        replace h := h.2.2.1 (by omega)
        refine e_ldi (show am_cd 198 113 = (2, 115, 7, 0, []) by decide +kernel) rfl ?_
        refine e_ifF (show am_cd 198 115 = (10, 118, 131, 0, []) by decide +kernel) (by decide +kernel) ?_
        refine e_ldi (show am_cd 198 118 = (2, 120, 6, 0, []) by decide +kernel) rfl ?_
        refine e_ifb1 (show am_cd 198 120 = (10, 123, 127, 1, []) by decide +kernel) (fun hc => ?_) (fun hc => ?_)
        · replace h := h.1 hc
          refine e_ic (show am_cd 198 127 = (0, 128, 0, 0, []) by decide +kernel) ?_
          refine e_go (show am_cd 198 128 = (12, 162, 0, 0, []) by decide +kernel) ?_
          exact e_retz (show am_cd 198 162 = (36, 163, 0, 0, []) by decide +kernel) (by decide +kernel) (Or.inl rfl) h
        · replace h := h.2 hc
          refine e_ic (show am_cd 198 123 = (0, 124, 0, 1, []) by decide +kernel) ?_
          refine e_go (show am_cd 198 124 = (12, 162, 0, 0, []) by decide +kernel) ?_
          exact e_retz (show am_cd 198 162 = (36, 163, 0, 0, []) by decide +kernel) (by decide +kernel) (Or.inr rfl) h
      | i + 3, hi => cases hi
    · replace h := h.2.2.2 (by simp only [List.length_cons, List.length_nil] at hx; omega)
      refine e_ldi (show am_cd 198 163 = (2, 165, 6, 0, []) by decide +kernel) rfl ?_
      refine e_ifb0 (show am_cd 198 165 = (10, 168, 177, 0, []) by decide +kernel) (fun hc => ?_) (fun hc => ?_)
      · replace h := h.1 hc
        refine e_ic (show am_cd 198 177 = (0, 178, 0, 0, []) by decide +kernel) ?_
        exact e_retz (show am_cd 198 178 = (36, 179, 0, 0, []) by decide +kernel) (by decide +kernel) (Or.inl rfl) h
      · replace h := h.2 hc
        refine e_ldi (show am_cd 198 168 = (2, 170, 7, 0, []) by decide +kernel) rfl ?_
        refine e_ifF (show am_cd 198 170 = (10, 173, 177, 0, []) by decide +kernel) (by decide +kernel) ?_
        refine e_ic (show am_cd 198 173 = (0, 174, 0, 1, []) by decide +kernel) ?_
        refine e_go (show am_cd 198 174 = (12, 178, 0, 0, []) by decide +kernel) ?_
        exact e_retz (show am_cd 198 178 = (36, 179, 0, 0, []) by decide +kernel) (by decide +kernel) (Or.inr rfl) h

theorem c_breaks {d : Nat} {m w : eW} {t : eT} {r a b c e : Int} (h : MG w m ∧ gR m r ∧ gE a ∧ gE b ∧ gP m c ∧ gE e) : Cl (d + 2) 198 [rA 67, (0, r), (0, a), (0, b), (0, c), (0, e)] (enc w t) (fun z S2 => z = some (0, bI (brk m r.toNat a.toNat b.toNat c.toNat e.toNat)) ∧ S2 = enc w t) := by
  obtain ⟨hm, hgr, ha, hb, hc, he⟩ := h
  have hm2 := hm
  obtain ⟨hp, hr, hwp, hwr⟩ := hm2
  have hn := hr.n
  have hn2 := hp.n
  refine g_breaks (m := m) ⟨⟨hm, hgr, ha, hb, he⟩, ?_⟩
  unfold gR at hgr
  unfold gP at hc
  obtain ⟨f1, f2, f3, f4, f5, f6, f7⟩ := hr.2 r.toNat (by omega)
  obtain ⟨e1, e2, e3, e4, e5, e6, e7⟩ := hwr.2 r.toNat (by omega)
  have g1 := (hwp.2 c.toNat (by omega)).1
  have g2 := (hwp.2 (m 72 r.toNat).toNat (by omega)).1
  have b1 := (hp.2.1 c.toNat (by omega)).1
  have b2 := (hp.2.1 (m 72 r.toNat).toNat (by omega)).1
  have hi : c = (c.toNat : Int) := by omega
  unfold brk mu ba
  simp (disch := omega) only [w32_id, e1, e2, g1, g2]
  generalize inR m r.toNat a.toNat b.toNat e.toNat = I
  rw [← hi]
  clear hi
  have c3 : m 73 r.toNat = 0 ∨ m 73 r.toNat = 1 ∨ m 73 r.toNat = 2 ∨ m 73 r.toNat = 3 := by omega
  have cn : decide (c.toNat < nP m) = true := decide_eq_true (by omega)
  rw [cn]
  rcases c3 with c3 | c3 | c3 | c3 <;> simp only [c3] <;> cases I <;> by_cases hcc : c = m 72 r.toNat <;> by_cases huu : m 68 c.toNat = m 68 (m 72 r.toNat).toNat <;> simp (config := { decide := true }) [bI, hcc, huu] <;> omega

theorem lp0 (E : Nat → Prop) (n : Nat) (hs : ∀ i, i < n → E (i + 1) → E i) (he : E n) : ∀ i, i ≤ n → E i := by
  have : ∀ k i, i + k = n → E i := by
    intro k
    induction k with
    | zero => intro i hi; have : i = n := by omega
              subst this; exact he
    | succ k ih => intro i hi; exact hs i (by omega) (ih (i + 1) (by omega))
  exact fun i hi => this (n - i) i (by omega)
theorem lq1 {σ : Type} (E I : Nat → σ → Prop) (n : Nat) (hs : ∀ i s, i < n → I i s → (∀ s2, I (i + 1) s2 → E (i + 1) s2) → E i s) (he : ∀ s, I n s → E n s) : ∀ i s, i ≤ n → I i s → E i s := by
  intro i s hi
  exact lp0 (fun i => ∀ s, I i s → E i s) n (fun i hi h s hI => hs i s hi hI h) (fun s h => he s h) i hi s
def gC (m : eW) (p : Int) : Prop := 0 ≤ p ∧ (p < nP m ∨ p = 16)
theorem brk_16 {m : eW} (hp : WFp m) (hr : WFr m) {r : Nat} (h : r < nR m) (a b e : Nat) : brk m r a b 16 e = false := by
  have h1 := (hr.2 r h).1
  have h2 := hp.n
  have e1 : ¬ ((16 : Nat) : Int) = m 72 r := by omega
  have e2 : ¬ 16 < nP m := by omega
  unfold brk mu ba
  simp only [decide_eq_false e1, decide_eq_false e2, Bool.false_and, Bool.false_or]
  split <;> rfl
theorem brs_16 {m : eW} (hp : WFp m) (hr : WFr m) {wo : Int} (a b e : Nat) : brs m wo a b 16 e = 0 := by
  unfold brs
  exact cb_zero.mpr (fun i hi => by rw [brk_16 hp hr hi, Bool.and_false])

theorem g_broken0 {d : Nat} {Q : Option aV → aS → Prop} {w : eW} {t : eT} {a b c e : Int} {m : eW} (h : Ev (d + 3) 199 Q 6 [rA 67, (0, a), (0, b), (0, c), (0, e), (0, 0), (0, 0)] [] (enc w t)) : Cl (d + 3) 199 [rA 67, (0, a), (0, b), (0, c), (0, e)] (enc w t) Q := by
  show Ev (d + 3) 199 Q 0 [rA 67, (0, a), (0, b), (0, c), (0, e), (9, 0), (9, 0)] [] (enc w t)
  refine e_ic (show am_cd 199 0 = (0, 1, 0, 0, []) by decide +kernel) ?_
  refine e_sti (la2 := [rA 67, (0, a), (0, b), (0, c), (0, e), (0, 0), (9, 0)]) (show am_cd 199 1 = (3, 3, 5, 0, []) by decide +kernel) rfl ?_
  refine e_ic (show am_cd 199 3 = (0, 4, 0, 0, []) by decide +kernel) ?_
  refine e_sti (la2 := [rA 67, (0, a), (0, b), (0, c), (0, e), (0, 0), (0, 0)]) (show am_cd 199 4 = (3, 6, 6, 0, []) by decide +kernel) rfl ?_
  exact h

theorem g_broken1 {d : Nat} {Q : Option aV → aS → Prop} {w : eW} {t : eT} {a b c e n r : Int} {m : eW} (h : ((w32 (w 67 6) ≤ w32 r → Q (some (0, n)) (enc w t)) ∧ (¬ (w32 (w 67 6) ≤ w32 r) → ((w32 r = w32 (w 67 35) → Ev (d + 3) 199 Q 6 [rA 67, (0, a), (0, b), (0, c), (0, e), (0, n + 0), (0, r + 1)] [] (enc w t)) ∧ (¬ (w32 r = w32 (w 67 35)) → ((w32 c = w32 16 → Ev (d + 3) 199 Q 6 [rA 67, (0, a), (0, b), (0, c), (0, e), (0, n + 0), (0, r + 1)] [] (enc w t)) ∧ (¬ (w32 c = w32 16) → (MG w m ∧ gR m r ∧ gE a ∧ gE b ∧ gP m c ∧ gE e) ∧ (((brk m r.toNat a.toNat b.toNat c.toNat e.toNat) = false → Ev (d + 3) 199 Q 6 [rA 67, (0, a), (0, b), (0, c), (0, e), (0, n + 0), (0, r + 1)] [] (enc w t)) ∧ ((brk m r.toNat a.toNat b.toNat c.toNat e.toNat) = true → Ev (d + 3) 199 Q 6 [rA 67, (0, a), (0, b), (0, c), (0, e), (0, n + 1), (0, r + 1)] [] (enc w t)))))))))) : Ev (d + 3) 199 Q 6 [rA 67, (0, a), (0, b), (0, c), (0, e), (0, n), (0, r)] [] (enc w t) := by
  refine e_ldi (show am_cd 199 6 = (2, 8, 6, 0, []) by decide +kernel) rfl ?_
  refine e_lda (v := 67) (show am_cd 199 8 = (2, 9, 0, 2, []) by decide +kernel) rfl ?_
  refine e_getf (a := 67) (tg := 0) (show am_cd 199 9 = (18, 12, 1206, 0, [183]) by decide +kernel) (by decide +kernel) (by decide +kernel) rfl ?_
  refine e_cmp3 (show am_cd 199 12 = (11, 15, 60, 3, []) by decide +kernel) (fun hc => ?_) (fun hc => ?_)
  · replace h := h.1 hc
    refine e_ldi (show am_cd 199 60 = (2, 62, 5, 0, []) by decide +kernel) rfl ?_
    exact e_reti (show am_cd 199 62 = (36, 63, 0, 0, []) by decide +kernel) (by decide +kernel) h
  · replace h := h.2 hc
    refine e_ldi (show am_cd 199 15 = (2, 17, 5, 0, []) by decide +kernel) rfl ?_
    refine e_ldi (show am_cd 199 17 = (2, 19, 6, 0, []) by decide +kernel) rfl ?_
    refine e_lda (v := 67) (show am_cd 199 19 = (2, 20, 0, 2, []) by decide +kernel) rfl ?_
    refine e_getf (a := 67) (tg := 0) (show am_cd 199 20 = (18, 23, 1235, 0, [84]) by decide +kernel) (by decide +kernel) (by decide +kernel) rfl ?_
    refine e_cmp0 (show am_cd 199 23 = (11, 26, 50, 0, []) by decide +kernel) (fun hc => ?_) (fun hc => ?_)
    · replace h := h.1 hc
      refine e_ic (show am_cd 199 50 = (0, 51, 0, 0, []) by decide +kernel) ?_
      refine e_iadd (show am_cd 199 51 = (5, 52, 0, 0, []) by decide +kernel) ?_
      refine e_sti (la2 := [rA 67, (0, a), (0, b), (0, c), (0, e), (0, n + 0), (0, r)]) (show am_cd 199 52 = (3, 54, 5, 0, []) by decide +kernel) rfl ?_
      refine e_inc (la2 := [rA 67, (0, a), (0, b), (0, c), (0, e), (0, n + 0), (0, r + 1)]) (show am_cd 199 54 = (4, 57, 6, 1, []) by decide +kernel) rfl rfl ?_
      refine e_go (show am_cd 199 57 = (12, 6, 0, 0, []) by decide +kernel) ?_
      exact h
    · replace h := h.2 hc
      refine e_ldi (show am_cd 199 26 = (2, 27, 3, 0, []) by decide +kernel) rfl ?_
      refine e_ic (show am_cd 199 27 = (0, 29, 1, 16, []) by decide +kernel) ?_
      refine e_cmp0 (show am_cd 199 29 = (11, 32, 50, 0, []) by decide +kernel) (fun hc => ?_) (fun hc => ?_)
      · replace h := h.1 hc
        refine e_ic (show am_cd 199 50 = (0, 51, 0, 0, []) by decide +kernel) ?_
        refine e_iadd (show am_cd 199 51 = (5, 52, 0, 0, []) by decide +kernel) ?_
        refine e_sti (la2 := [rA 67, (0, a), (0, b), (0, c), (0, e), (0, n + 0), (0, r)]) (show am_cd 199 52 = (3, 54, 5, 0, []) by decide +kernel) rfl ?_
        refine e_inc (la2 := [rA 67, (0, a), (0, b), (0, c), (0, e), (0, n + 0), (0, r + 1)]) (show am_cd 199 54 = (4, 57, 6, 1, []) by decide +kernel) rfl rfl ?_
        refine e_go (show am_cd 199 57 = (12, 6, 0, 0, []) by decide +kernel) ?_
        exact h
      · replace h := h.2 hc
        refine e_lda (v := 67) (show am_cd 199 32 = (2, 33, 0, 2, []) by decide +kernel) rfl ?_
        refine e_ldi (show am_cd 199 33 = (2, 35, 6, 0, []) by decide +kernel) rfl ?_
        refine e_ldi (show am_cd 199 35 = (2, 36, 1, 0, []) by decide +kernel) rfl ?_
        refine e_ldi (show am_cd 199 36 = (2, 37, 2, 0, []) by decide +kernel) rfl ?_
        refine e_ldi (show am_cd 199 37 = (2, 38, 3, 0, []) by decide +kernel) rfl ?_
        refine e_ldi (show am_cd 199 38 = (2, 40, 4, 0, []) by decide +kernel) rfl ?_
        refine e_cV (z := 0) (a := 67) (as := [(0, r), (0, a), (0, b), (0, c), (0, e)]) (rest := [(0, n)]) (show am_cd 199 40 = (40, 43, 198, 0, [242]) by decide +kernel) (by decide +kernel) rfl rfl (Nat.le_of_ble_eq_true rfl) rfl ?_
        refine Cl.mono (Cl.up (c_breaks (d := d) h.1) (by omega)) ?_
        rintro _ _ ⟨rfl, rfl⟩
        refine ⟨fun _ h9 => (by cases h9), ?_⟩
        replace h := h.2
        show Ev _ 199 _ 43 [rA 67, (0, a), (0, b), (0, c), (0, e), (0, n), (0, r)] [(0, bI (brk m r.toNat a.toNat b.toNat c.toNat e.toNat)), (0, n)] _
        refine e_ifb0 (show am_cd 199 43 = (10, 46, 50, 0, []) by decide +kernel) (fun hc => ?_) (fun hc => ?_)
        · replace h := h.1 hc
          refine e_ic (show am_cd 199 50 = (0, 51, 0, 0, []) by decide +kernel) ?_
          refine e_iadd (show am_cd 199 51 = (5, 52, 0, 0, []) by decide +kernel) ?_
          refine e_sti (la2 := [rA 67, (0, a), (0, b), (0, c), (0, e), (0, n + 0), (0, r)]) (show am_cd 199 52 = (3, 54, 5, 0, []) by decide +kernel) rfl ?_
          refine e_inc (la2 := [rA 67, (0, a), (0, b), (0, c), (0, e), (0, n + 0), (0, r + 1)]) (show am_cd 199 54 = (4, 57, 6, 1, []) by decide +kernel) rfl rfl ?_
          refine e_go (show am_cd 199 57 = (12, 6, 0, 0, []) by decide +kernel) ?_
          exact h
        · replace h := h.2 hc
          refine e_ic (show am_cd 199 46 = (0, 47, 0, 1, []) by decide +kernel) ?_
          refine e_go (show am_cd 199 47 = (12, 51, 0, 0, []) by decide +kernel) ?_
          refine e_iadd (show am_cd 199 51 = (5, 52, 0, 0, []) by decide +kernel) ?_
          refine e_sti (la2 := [rA 67, (0, a), (0, b), (0, c), (0, e), (0, n + 1), (0, r)]) (show am_cd 199 52 = (3, 54, 5, 0, []) by decide +kernel) rfl ?_
          refine e_inc (la2 := [rA 67, (0, a), (0, b), (0, c), (0, e), (0, n + 1), (0, r + 1)]) (show am_cd 199 54 = (4, 57, 6, 1, []) by decide +kernel) rfl rfl ?_
          refine e_go (show am_cd 199 57 = (12, 6, 0, 0, []) by decide +kernel) ?_
          exact h

theorem c_broken {d : Nat} {m w : eW} {t : eT} {wo a b c e : Int} (h : MG w m ∧ w 67 35 = wo ∧ gE a ∧ gE b ∧ gC m c ∧ gE e) (hw : w32 wo = wo) : Cl (d + 3) 199 [rA 67, (0, a), (0, b), (0, c), (0, e)] (enc w t) (fun z S2 => z = some (0, ((brs m wo a.toNat b.toNat c.toNat e.toNat : Nat) : Int)) ∧ S2 = enc w t) := by
  obtain ⟨hm, hwo, ha, hb, hc, he⟩ := h
  have hm2 := hm
  obtain ⟨hp, hr, hwp, hwr⟩ := hm2
  have hn := hr.n
  have hn2 := hp.n
  refine g_broken0 (m := m) ?_
  refine lp0 (fun i => Ev (d + 3) 199 _ 6 [rA 67, (0, a), (0, b), (0, c), (0, e), (0, ((cb (fun r => !decide ((r : Int) = wo) && brk m r a.toNat b.toNat c.toNat e.toNat) i : Nat) : Int)), (0, (i : Int))] [] (enc w t)) (nR m) ?_ ?_ 0 (Nat.zero_le _)
  · intro i hi hE
    refine g_broken1 (m := m) ?_
    simp (disch := omega) only [w32_id, hwr.1, hwo, hw, Int.toNat_natCast]
    unfold gC at hc
    simp (disch := omega) only [w32_id]
    have e0 : cb (fun r => !decide ((r : Int) = wo) && brk m r a.toNat b.toNat c.toNat e.toNat) (i + 1) = cb (fun r => !decide ((r : Int) = wo) && brk m r a.toNat b.toNat c.toNat e.toNat) i + (if !decide ((i : Int) = wo) && brk m i a.toNat b.toNat c.toNat e.toNat then 1 else 0) := rfl
    rw [e0] at hE
    refine ⟨fun h9 => (by omega), fun _ => ⟨fun h1 => ?_, fun h1 => ⟨fun h2 => ?_, fun h2 => ⟨⟨hm, ⟨by omega, by omega⟩, ha, hb, ⟨by omega, by omega⟩, he⟩, fun h3 => ?_, fun h3 => ?_⟩⟩⟩⟩
    · simpa [h1] using hE
    · have e16 : c.toNat = 16 := by omega
      simpa [e16, brk_16 hp hr hi] using hE
    · simpa [h3] using hE
    · simpa [h3, h1] using hE
  · refine g_broken1 (m := m) ?_
    simp (disch := omega) only [w32_id, hwr.1]
    refine ⟨fun _ => ⟨rfl, trivial⟩, fun h9 => ?_⟩
    omega

