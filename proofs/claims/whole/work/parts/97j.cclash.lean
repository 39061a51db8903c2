/-! The class: two rules against each other (leaves). -/

theorem g_dp {d : Nat} {Q : Option aV → aS → Prop} {w : eW} {t : eT} {r : Int} {m : eW} (h : (0 ≤ w32 r ∧ w32 r < 9) ∧ ((w32 (w 17 (w32 r).toNat) = w32 1 → Q (some (0, 1)) (enc w t)) ∧ (¬ (w32 (w 17 (w32 r).toNat) = w32 1) → (0 ≤ w32 r ∧ w32 r < 9) ∧ ((¬ w32 (w 17 (w32 r).toNat) = w32 2 → Q (some (0, 0)) (enc w t)) ∧ (¬ (¬ w32 (w 17 (w32 r).toNat) = w32 2) → Q (some (0, 1)) (enc w t)))))) : Cl (d) 72 [rA 15, (0, r)] (enc w t) Q := by
  show Ev (d) 72 Q 0 [rA 15, (0, r)] [] (enc w t)
  refine e_lda (v := 15) (show am_cd 72 0 = (2, 1, 0, 2, []) by decide +kernel) rfl ?_
  refine e_getr (a := 15) (r := 17) (show am_cd 72 1 = (18, 4, 701, 2, [15]) by decide +kernel) (by decide +kernel) (by decide +kernel) rfl ?_
  refine e_ldi (show am_cd 72 4 = (2, 5, 1, 0, []) by decide +kernel) rfl ?_
  refine e_iald (a := 17) (n := 9) (show am_cd 72 5 = (21, 6, 0, 0, []) by decide +kernel) (by decide +kernel) (by decide +kernel) (by decide +kernel) h.1 ?_
  replace h := h.2
  refine e_ic (show am_cd 72 6 = (0, 7, 0, 1, []) by decide +kernel) ?_
  refine e_cmp0 (show am_cd 72 7 = (11, 10, 20, 0, []) by decide +kernel) (fun hc => ?_) (fun hc => ?_)
  · replace h := h.1 hc
    refine e_ic (show am_cd 72 20 = (0, 21, 0, 1, []) by decide +kernel) ?_
    refine e_go (show am_cd 72 21 = (12, 25, 0, 0, []) by decide +kernel) ?_
    exact e_retz (show am_cd 72 25 = (36, 26, 0, 0, []) by decide +kernel) (by decide +kernel) (Or.inr rfl) h
  · replace h := h.2 hc
    refine e_lda (v := 15) (show am_cd 72 10 = (2, 11, 0, 2, []) by decide +kernel) rfl ?_
    refine e_getr (a := 15) (r := 17) (show am_cd 72 11 = (18, 14, 701, 2, [15]) by decide +kernel) (by decide +kernel) (by decide +kernel) rfl ?_
    refine e_ldi (show am_cd 72 14 = (2, 15, 1, 0, []) by decide +kernel) rfl ?_
    refine e_iald (a := 17) (n := 9) (show am_cd 72 15 = (21, 16, 0, 0, []) by decide +kernel) (by decide +kernel) (by decide +kernel) (by decide +kernel) h.1 ?_
    replace h := h.2
    refine e_ic (show am_cd 72 16 = (0, 17, 0, 2, []) by decide +kernel) ?_
    refine e_cmp1 (show am_cd 72 17 = (11, 20, 24, 1, []) by decide +kernel) (fun hc => ?_) (fun hc => ?_)
    · replace h := h.1 hc
      refine e_ic (show am_cd 72 24 = (0, 25, 0, 0, []) by decide +kernel) ?_
      exact e_retz (show am_cd 72 25 = (36, 26, 0, 0, []) by decide +kernel) (by decide +kernel) (Or.inl rfl) h
    · replace h := h.2 hc
      refine e_ic (show am_cd 72 20 = (0, 21, 0, 1, []) by decide +kernel) ?_
      refine e_go (show am_cd 72 21 = (12, 25, 0, 0, []) by decide +kernel) ?_
      exact e_retz (show am_cd 72 25 = (36, 26, 0, 0, []) by decide +kernel) (by decide +kernel) (Or.inr rfl) h

theorem c_dp {d : Nat} {w m : eW} {t : eT} {r : Int} (h : RC w m ∧ WFr m ∧ (0 ≤ r ∧ r < (nR m : Int))) : Cl d 72 [rA 15, (0, r)] (enc w t) (fun z S2 => z = some (0, bI (dem (m 73 r.toNat))) ∧ S2 = enc w t) := by
  obtain ⟨hC, hr, hb⟩ := h
  have hn := hr.n
  obtain ⟨_, e17, _⟩ := hC.2 r.toNat (by omega)
  have hw := hr.2 r.toNat (by omega)
  refine g_dp (m := m) ?_
  rw [w32_id (x := r) (by omega), e17]
  simp (disch := omega) only [w32_id]
  unfold dem
  refine ⟨by omega, fun h1 => ?_, fun h1 => ⟨by omega, fun h2 => ?_, fun h2 => ?_⟩⟩
  · rw [decide_eq_true h1]; exact ⟨rfl, by trivial⟩
  · rw [decide_eq_false h1, decide_eq_false h2]; exact ⟨rfl, by trivial⟩
  · rw [decide_eq_false h1, decide_eq_true (Classical.not_not.mp h2)]; exact ⟨rfl, by trivial⟩

theorem g_du {d : Nat} {Q : Option aV → aS → Prop} {w : eW} {t : eT} {a c : Int} {m : eW} (h : (0 ≤ w32 a ∧ w32 a < 9) ∧ (0 ≤ w32 c ∧ w32 c < 9) ∧ (0 ≤ w32 (w 16 (w32 a).toNat) ∧ w32 (w 16 (w32 a).toNat) < 16) ∧ (0 ≤ w32 (w 16 (w32 c).toNat) ∧ w32 (w 16 (w32 c).toNat) < 16) ∧ ((w32 (w 9 (w32 (w 16 (w32 a).toNat)).toNat) = w32 (w 9 (w32 (w 16 (w32 c).toNat)).toNat) → (RC w m ∧ WFr m ∧ (0 ≤ a ∧ a < (nR m : Int))) ∧ (((dem (m 73 a.toNat)) = false → (RC w m ∧ WFr m ∧ (0 ≤ a ∧ a < (nR m : Int))) ∧ (((dem (m 73 a.toNat)) = false → (RC w m ∧ WFr m ∧ (0 ≤ c ∧ c < (nR m : Int))) ∧ (((dem (m 73 c.toNat)) = false → Q (some (0, 0)) (enc w t)) ∧ ((dem (m 73 c.toNat)) = true → (0 ≤ w32 a ∧ w32 a < 9) ∧ ((¬ w32 (w 17 (w32 a).toNat) = w32 3 → Q (some (0, 0)) (enc w t)) ∧ (¬ (¬ w32 (w 17 (w32 a).toNat) = w32 3) → ((¬ w32 (w 16 (w32 a).toNat) = w32 (w 16 (w32 c).toNat) → Q (some (0, 0)) (enc w t)) ∧ (¬ (¬ w32 (w 16 (w32 a).toNat) = w32 (w 16 (w32 c).toNat)) → Q (some (0, 1)) (enc w t)))))))) ∧ ((dem (m 73 a.toNat)) = true → (0 ≤ w32 c ∧ w32 c < 9) ∧ ((w32 (w 17 (w32 c).toNat) = w32 3 → ((¬ w32 (w 16 (w32 a).toNat) = w32 (w 16 (w32 c).toNat) → Q (some (0, 0)) (enc w t)) ∧ (¬ (¬ w32 (w 16 (w32 a).toNat) = w32 (w 16 (w32 c).toNat)) → Q (some (0, 1)) (enc w t)))) ∧ (¬ (w32 (w 17 (w32 c).toNat) = w32 3) → (RC w m ∧ WFr m ∧ (0 ≤ c ∧ c < (nR m : Int))) ∧ (((dem (m 73 c.toNat)) = false → Q (some (0, 0)) (enc w t)) ∧ ((dem (m 73 c.toNat)) = true → (0 ≤ w32 a ∧ w32 a < 9) ∧ ((¬ w32 (w 17 (w32 a).toNat) = w32 3 → Q (some (0, 0)) (enc w t)) ∧ (¬ (¬ w32 (w 17 (w32 a).toNat) = w32 3) → ((¬ w32 (w 16 (w32 a).toNat) = w32 (w 16 (w32 c).toNat) → Q (some (0, 0)) (enc w t)) ∧ (¬ (¬ w32 (w 16 (w32 a).toNat) = w32 (w 16 (w32 c).toNat)) → Q (some (0, 1)) (enc w t)))))))))))) ∧ ((dem (m 73 a.toNat)) = true → (RC w m ∧ WFr m ∧ (0 ≤ c ∧ c < (nR m : Int))) ∧ (((dem (m 73 c.toNat)) = false → (RC w m ∧ WFr m ∧ (0 ≤ a ∧ a < (nR m : Int))) ∧ (((dem (m 73 a.toNat)) = false → (RC w m ∧ WFr m ∧ (0 ≤ c ∧ c < (nR m : Int))) ∧ (((dem (m 73 c.toNat)) = false → Q (some (0, 0)) (enc w t)) ∧ ((dem (m 73 c.toNat)) = true → (0 ≤ w32 a ∧ w32 a < 9) ∧ ((¬ w32 (w 17 (w32 a).toNat) = w32 3 → Q (some (0, 0)) (enc w t)) ∧ (¬ (¬ w32 (w 17 (w32 a).toNat) = w32 3) → ((¬ w32 (w 16 (w32 a).toNat) = w32 (w 16 (w32 c).toNat) → Q (some (0, 0)) (enc w t)) ∧ (¬ (¬ w32 (w 16 (w32 a).toNat) = w32 (w 16 (w32 c).toNat)) → Q (some (0, 1)) (enc w t)))))))) ∧ ((dem (m 73 a.toNat)) = true → (0 ≤ w32 c ∧ w32 c < 9) ∧ ((w32 (w 17 (w32 c).toNat) = w32 3 → ((¬ w32 (w 16 (w32 a).toNat) = w32 (w 16 (w32 c).toNat) → Q (some (0, 0)) (enc w t)) ∧ (¬ (¬ w32 (w 16 (w32 a).toNat) = w32 (w 16 (w32 c).toNat)) → Q (some (0, 1)) (enc w t)))) ∧ (¬ (w32 (w 17 (w32 c).toNat) = w32 3) → (RC w m ∧ WFr m ∧ (0 ≤ c ∧ c < (nR m : Int))) ∧ (((dem (m 73 c.toNat)) = false → Q (some (0, 0)) (enc w t)) ∧ ((dem (m 73 c.toNat)) = true → (0 ≤ w32 a ∧ w32 a < 9) ∧ ((¬ w32 (w 17 (w32 a).toNat) = w32 3 → Q (some (0, 0)) (enc w t)) ∧ (¬ (¬ w32 (w 17 (w32 a).toNat) = w32 3) → ((¬ w32 (w 16 (w32 a).toNat) = w32 (w 16 (w32 c).toNat) → Q (some (0, 0)) (enc w t)) ∧ (¬ (¬ w32 (w 16 (w32 a).toNat) = w32 (w 16 (w32 c).toNat)) → Q (some (0, 1)) (enc w t)))))))))))) ∧ ((dem (m 73 c.toNat)) = true → ((w32 (w 16 (w32 a).toNat) = w32 (w 16 (w32 c).toNat) → Q (some (0, 0)) (enc w t)) ∧ (¬ (w32 (w 16 (w32 a).toNat) = w32 (w 16 (w32 c).toNat)) → Q (some (0, 1)) (enc w t)))))))) ∧ (¬ (w32 (w 9 (w32 (w 16 (w32 a).toNat)).toNat) = w32 (w 9 (w32 (w 16 (w32 c).toNat)).toNat)) → Q (some (0, 0)) (enc w t)))) : Cl (d + 2) 11 [rA 61, (0, a), (0, c)] (enc w t) Q := by
  show Ev (d + 2) 11 Q 0 [rA 61, (0, a), (0, c), (9, 0), (9, 0), (9, 0)] [] (enc w t)
  refine e_lda (v := 61) (show am_cd 11 0 = (2, 1, 0, 2, []) by decide +kernel) rfl ?_
  refine e_getr (a := 61) (r := 15) (show am_cd 11 1 = (18, 4, 101, 2, [22]) by decide +kernel) (by decide +kernel) (by decide +kernel) rfl ?_
  refine e_getr (a := 15) (r := 16) (show am_cd 11 4 = (18, 7, 700, 2, [48]) by decide +kernel) (by decide +kernel) (by decide +kernel) rfl ?_
  refine e_ldi (show am_cd 11 7 = (2, 8, 1, 0, []) by decide +kernel) rfl ?_
  refine e_iald (a := 16) (n := 9) (show am_cd 11 8 = (21, 9, 0, 0, []) by decide +kernel) (by decide +kernel) (by decide +kernel) (by decide +kernel) h.1 ?_
  replace h := h.2
  refine e_sti (la2 := [rA 61, (0, a), (0, c), (0, w 16 (w32 a).toNat), (9, 0), (9, 0)]) (show am_cd 11 9 = (3, 10, 3, 0, []) by decide +kernel) rfl ?_
  refine e_lda (v := 61) (show am_cd 11 10 = (2, 11, 0, 2, []) by decide +kernel) rfl ?_
  refine e_getr (a := 61) (r := 15) (show am_cd 11 11 = (18, 14, 101, 2, [22]) by decide +kernel) (by decide +kernel) (by decide +kernel) rfl ?_
  refine e_getr (a := 15) (r := 16) (show am_cd 11 14 = (18, 17, 700, 2, [48]) by decide +kernel) (by decide +kernel) (by decide +kernel) rfl ?_
  refine e_ldi (show am_cd 11 17 = (2, 18, 2, 0, []) by decide +kernel) rfl ?_
  refine e_iald (a := 16) (n := 9) (show am_cd 11 18 = (21, 19, 0, 0, []) by decide +kernel) (by decide +kernel) (by decide +kernel) (by decide +kernel) h.1 ?_
  replace h := h.2
  refine e_sti (la2 := [rA 61, (0, a), (0, c), (0, w 16 (w32 a).toNat), (0, w 16 (w32 c).toNat), (9, 0)]) (show am_cd 11 19 = (3, 21, 4, 0, []) by decide +kernel) rfl ?_
  refine e_lda (v := 61) (show am_cd 11 21 = (2, 22, 0, 2, []) by decide +kernel) rfl ?_
  refine e_getr (a := 61) (r := 8) (show am_cd 11 22 = (18, 25, 100, 2, [18]) by decide +kernel) (by decide +kernel) (by decide +kernel) rfl ?_
  refine e_getr (a := 8) (r := 9) (show am_cd 11 25 = (18, 28, 0, 2, [53]) by decide +kernel) (by decide +kernel) (by decide +kernel) rfl ?_
  refine e_ldi (show am_cd 11 28 = (2, 29, 3, 0, []) by decide +kernel) rfl ?_
  refine e_iald (a := 9) (n := 16) (show am_cd 11 29 = (21, 30, 0, 0, []) by decide +kernel) (by decide +kernel) (by decide +kernel) (by decide +kernel) h.1 ?_
  replace h := h.2
  refine e_lda (v := 61) (show am_cd 11 30 = (2, 31, 0, 2, []) by decide +kernel) rfl ?_
  refine e_getr (a := 61) (r := 8) (show am_cd 11 31 = (18, 34, 100, 2, [18]) by decide +kernel) (by decide +kernel) (by decide +kernel) rfl ?_
  refine e_getr (a := 8) (r := 9) (show am_cd 11 34 = (18, 37, 0, 2, [53]) by decide +kernel) (by decide +kernel) (by decide +kernel) rfl ?_
  refine e_ldi (show am_cd 11 37 = (2, 39, 4, 0, []) by decide +kernel) rfl ?_
  refine e_iald (a := 9) (n := 16) (show am_cd 11 39 = (21, 40, 0, 0, []) by decide +kernel) (by decide +kernel) (by decide +kernel) (by decide +kernel) h.1 ?_
  replace h := h.2
  refine e_cmp0 (show am_cd 11 40 = (11, 43, 45, 0, []) by decide +kernel) (fun hc => ?_) (fun hc => ?_)
  · replace h := h.1 hc
    refine e_lda (v := 61) (show am_cd 11 45 = (2, 46, 0, 2, []) by decide +kernel) rfl ?_
    refine e_getr (a := 61) (r := 15) (show am_cd 11 46 = (18, 49, 101, 2, [22]) by decide +kernel) (by decide +kernel) (by decide +kernel) rfl ?_
    refine e_ldi (show am_cd 11 49 = (2, 50, 1, 0, []) by decide +kernel) rfl ?_
    refine e_cV (z := 0) (a := 15) (as := [(0, a)]) (rest := []) (show am_cd 11 50 = (40, 53, 72, 0, [58]) by decide +kernel) (by decide +kernel) rfl rfl (Nat.le_of_ble_eq_true rfl) rfl ?_
    refine Cl.mono (Cl.up (c_dp (m := m) (d := d) h.1) (by omega)) ?_
    rintro _ _ ⟨rfl, rfl⟩
    refine ⟨fun _ h9 => (by cases h9), ?_⟩
    replace h := h.2
    show Ev _ 11 _ 53 [rA 61, (0, a), (0, c), (0, w 16 (w32 a).toNat), (0, w 16 (w32 c).toNat), (9, 0)] [(0, bI (dem (m 73 a.toNat)))] _
    refine e_ifb0 (show am_cd 11 53 = (10, 56, 79, 0, []) by decide +kernel) (fun hc => ?_) (fun hc => ?_)
    · replace h := h.1 hc
      refine e_lda (v := 61) (show am_cd 11 79 = (2, 80, 0, 2, []) by decide +kernel) rfl ?_
      refine e_getr (a := 61) (r := 15) (show am_cd 11 80 = (18, 83, 101, 2, [22]) by decide +kernel) (by decide +kernel) (by decide +kernel) rfl ?_
      refine e_ldi (show am_cd 11 83 = (2, 84, 1, 0, []) by decide +kernel) rfl ?_
      refine e_cV (z := 0) (a := 15) (as := [(0, a)]) (rest := []) (show am_cd 11 84 = (40, 87, 72, 0, [58]) by decide +kernel) (by decide +kernel) rfl rfl (Nat.le_of_ble_eq_true rfl) rfl ?_
      refine Cl.mono (Cl.up (c_dp (m := m) (d := d) h.1) (by omega)) ?_
      rintro _ _ ⟨rfl, rfl⟩
      refine ⟨fun _ h9 => (by cases h9), ?_⟩
      replace h := h.2
      show Ev _ 11 _ 87 [rA 61, (0, a), (0, c), (0, w 16 (w32 a).toNat), (0, w 16 (w32 c).toNat), (9, 0)] [(0, bI (dem (m 73 a.toNat)))] _
      refine e_ifb0 (show am_cd 11 87 = (10, 90, 103, 0, []) by decide +kernel) (fun hc => ?_) (fun hc => ?_)
      · replace h := h.1 hc
        refine e_lda (v := 61) (show am_cd 11 103 = (2, 104, 0, 2, []) by decide +kernel) rfl ?_
        refine e_getr (a := 61) (r := 15) (show am_cd 11 104 = (18, 107, 101, 2, [22]) by decide +kernel) (by decide +kernel) (by decide +kernel) rfl ?_
        refine e_ldi (show am_cd 11 107 = (2, 108, 2, 0, []) by decide +kernel) rfl ?_
        refine e_cV (z := 0) (a := 15) (as := [(0, c)]) (rest := []) (show am_cd 11 108 = (40, 111, 72, 0, [58]) by decide +kernel) (by decide +kernel) rfl rfl (Nat.le_of_ble_eq_true rfl) rfl ?_
        refine Cl.mono (Cl.up (c_dp (m := m) (d := d) h.1) (by omega)) ?_
        rintro _ _ ⟨rfl, rfl⟩
        refine ⟨fun _ h9 => (by cases h9), ?_⟩
        replace h := h.2
        show Ev _ 11 _ 111 [rA 61, (0, a), (0, c), (0, w 16 (w32 a).toNat), (0, w 16 (w32 c).toNat), (9, 0)] [(0, bI (dem (m 73 c.toNat)))] _
        refine e_ifb0 (show am_cd 11 111 = (10, 114, 131, 0, []) by decide +kernel) (fun hc => ?_) (fun hc => ?_)
        · replace h := h.1 hc
          refine e_ic (show am_cd 11 131 = (0, 132, 0, 0, []) by decide +kernel) ?_
          refine e_sti (la2 := [rA 61, (0, a), (0, c), (0, w 16 (w32 a).toNat), (0, w 16 (w32 c).toNat), (0, 0)]) (show am_cd 11 132 = (3, 134, 5, 0, []) by decide +kernel) rfl ?_
          refine e_ldi (show am_cd 11 134 = (2, 136, 5, 0, []) by decide +kernel) rfl ?_
          refine e_ifT (show am_cd 11 136 = (10, 139, 149, 0, []) by decide +kernel) (by decide +kernel) ?_
          refine e_ic (show am_cd 11 149 = (0, 150, 0, 0, []) by decide +kernel) ?_
          exact e_retz (show am_cd 11 150 = (36, 151, 0, 0, []) by decide +kernel) (by decide +kernel) (Or.inl rfl) h
        · replace h := h.2 hc
          refine e_lda (v := 61) (show am_cd 11 114 = (2, 115, 0, 2, []) by decide +kernel) rfl ?_
          refine e_getr (a := 61) (r := 15) (show am_cd 11 115 = (18, 118, 101, 2, [22]) by decide +kernel) (by decide +kernel) (by decide +kernel) rfl ?_
          refine e_getr (a := 15) (r := 17) (show am_cd 11 118 = (18, 121, 701, 2, [61]) by decide +kernel) (by decide +kernel) (by decide +kernel) rfl ?_
          refine e_ldi (show am_cd 11 121 = (2, 122, 1, 0, []) by decide +kernel) rfl ?_
          refine e_iald (a := 17) (n := 9) (show am_cd 11 122 = (21, 123, 0, 0, []) by decide +kernel) (by decide +kernel) (by decide +kernel) (by decide +kernel) h.1 ?_
          replace h := h.2
          refine e_ic (show am_cd 11 123 = (0, 124, 0, 3, []) by decide +kernel) ?_
          refine e_cmp1 (show am_cd 11 124 = (11, 127, 131, 1, []) by decide +kernel) (fun hc => ?_) (fun hc => ?_)
          · replace h := h.1 hc
            refine e_ic (show am_cd 11 131 = (0, 132, 0, 0, []) by decide +kernel) ?_
            refine e_sti (la2 := [rA 61, (0, a), (0, c), (0, w 16 (w32 a).toNat), (0, w 16 (w32 c).toNat), (0, 0)]) (show am_cd 11 132 = (3, 134, 5, 0, []) by decide +kernel) rfl ?_
            refine e_ldi (show am_cd 11 134 = (2, 136, 5, 0, []) by decide +kernel) rfl ?_
            refine e_ifT (show am_cd 11 136 = (10, 139, 149, 0, []) by decide +kernel) (by decide +kernel) ?_
            refine e_ic (show am_cd 11 149 = (0, 150, 0, 0, []) by decide +kernel) ?_
            exact e_retz (show am_cd 11 150 = (36, 151, 0, 0, []) by decide +kernel) (by decide +kernel) (Or.inl rfl) h
          · replace h := h.2 hc
            refine e_ic (show am_cd 11 127 = (0, 128, 0, 1, []) by decide +kernel) ?_
            refine e_go (show am_cd 11 128 = (12, 132, 0, 0, []) by decide +kernel) ?_
            refine e_sti (la2 := [rA 61, (0, a), (0, c), (0, w 16 (w32 a).toNat), (0, w 16 (w32 c).toNat), (0, 1)]) (show am_cd 11 132 = (3, 134, 5, 0, []) by decide +kernel) rfl ?_
            refine e_ldi (show am_cd 11 134 = (2, 136, 5, 0, []) by decide +kernel) rfl ?_
            refine e_ifF (show am_cd 11 136 = (10, 139, 149, 0, []) by decide +kernel) (by decide +kernel) ?_
            refine e_ldi (show am_cd 11 139 = (2, 140, 3, 0, []) by decide +kernel) rfl ?_
            refine e_ldi (show am_cd 11 140 = (2, 142, 4, 0, []) by decide +kernel) rfl ?_
            refine e_cmp1 (show am_cd 11 142 = (11, 145, 149, 1, []) by decide +kernel) (fun hc => ?_) (fun hc => ?_)
            · replace h := h.1 hc
              refine e_ic (show am_cd 11 149 = (0, 150, 0, 0, []) by decide +kernel) ?_
              exact e_retz (show am_cd 11 150 = (36, 151, 0, 0, []) by decide +kernel) (by decide +kernel) (Or.inl rfl) h
            · replace h := h.2 hc
              refine e_ic (show am_cd 11 145 = (0, 146, 0, 1, []) by decide +kernel) ?_
              refine e_go (show am_cd 11 146 = (12, 150, 0, 0, []) by decide +kernel) ?_
              exact e_retz (show am_cd 11 150 = (36, 151, 0, 0, []) by decide +kernel) (by decide +kernel) (Or.inr rfl) h
      · replace h := h.2 hc
        refine e_lda (v := 61) (show am_cd 11 90 = (2, 91, 0, 2, []) by decide +kernel) rfl ?_
        refine e_getr (a := 61) (r := 15) (show am_cd 11 91 = (18, 94, 101, 2, [22]) by decide +kernel) (by decide +kernel) (by decide +kernel) rfl ?_
        refine e_getr (a := 15) (r := 17) (show am_cd 11 94 = (18, 97, 701, 2, [61]) by decide +kernel) (by decide +kernel) (by decide +kernel) rfl ?_
        refine e_ldi (show am_cd 11 97 = (2, 98, 2, 0, []) by decide +kernel) rfl ?_
        refine e_iald (a := 17) (n := 9) (show am_cd 11 98 = (21, 99, 0, 0, []) by decide +kernel) (by decide +kernel) (by decide +kernel) (by decide +kernel) h.1 ?_
        replace h := h.2
        refine e_ic (show am_cd 11 99 = (0, 100, 0, 3, []) by decide +kernel) ?_
        refine e_cmp0 (show am_cd 11 100 = (11, 103, 127, 0, []) by decide +kernel) (fun hc => ?_) (fun hc => ?_)
        · replace h := h.1 hc
          refine e_ic (show am_cd 11 127 = (0, 128, 0, 1, []) by decide +kernel) ?_
          refine e_go (show am_cd 11 128 = (12, 132, 0, 0, []) by decide +kernel) ?_
          refine e_sti (la2 := [rA 61, (0, a), (0, c), (0, w 16 (w32 a).toNat), (0, w 16 (w32 c).toNat), (0, 1)]) (show am_cd 11 132 = (3, 134, 5, 0, []) by decide +kernel) rfl ?_
          refine e_ldi (show am_cd 11 134 = (2, 136, 5, 0, []) by decide +kernel) rfl ?_
          refine e_ifF (show am_cd 11 136 = (10, 139, 149, 0, []) by decide +kernel) (by decide +kernel) ?_
          refine e_ldi (show am_cd 11 139 = (2, 140, 3, 0, []) by decide +kernel) rfl ?_
          refine e_ldi (show am_cd 11 140 = (2, 142, 4, 0, []) by decide +kernel) rfl ?_
          refine e_cmp1 (show am_cd 11 142 = (11, 145, 149, 1, []) by decide +kernel) (fun hc => ?_) (fun hc => ?_)
          · replace h := h.1 hc
            refine e_ic (show am_cd 11 149 = (0, 150, 0, 0, []) by decide +kernel) ?_
            exact e_retz (show am_cd 11 150 = (36, 151, 0, 0, []) by decide +kernel) (by decide +kernel) (Or.inl rfl) h
          · replace h := h.2 hc
            refine e_ic (show am_cd 11 145 = (0, 146, 0, 1, []) by decide +kernel) ?_
            refine e_go (show am_cd 11 146 = (12, 150, 0, 0, []) by decide +kernel) ?_
            exact e_retz (show am_cd 11 150 = (36, 151, 0, 0, []) by decide +kernel) (by decide +kernel) (Or.inr rfl) h
        · replace h := h.2 hc
          refine e_lda (v := 61) (show am_cd 11 103 = (2, 104, 0, 2, []) by decide +kernel) rfl ?_
          refine e_getr (a := 61) (r := 15) (show am_cd 11 104 = (18, 107, 101, 2, [22]) by decide +kernel) (by decide +kernel) (by decide +kernel) rfl ?_
          refine e_ldi (show am_cd 11 107 = (2, 108, 2, 0, []) by decide +kernel) rfl ?_
          refine e_cV (z := 0) (a := 15) (as := [(0, c)]) (rest := []) (show am_cd 11 108 = (40, 111, 72, 0, [58]) by decide +kernel) (by decide +kernel) rfl rfl (Nat.le_of_ble_eq_true rfl) rfl ?_
          refine Cl.mono (Cl.up (c_dp (m := m) (d := d) h.1) (by omega)) ?_
          rintro _ _ ⟨rfl, rfl⟩
          refine ⟨fun _ h9 => (by cases h9), ?_⟩
          replace h := h.2
          show Ev _ 11 _ 111 [rA 61, (0, a), (0, c), (0, w 16 (w32 a).toNat), (0, w 16 (w32 c).toNat), (9, 0)] [(0, bI (dem (m 73 c.toNat)))] _
          refine e_ifb0 (show am_cd 11 111 = (10, 114, 131, 0, []) by decide +kernel) (fun hc => ?_) (fun hc => ?_)
          · replace h := h.1 hc
            refine e_ic (show am_cd 11 131 = (0, 132, 0, 0, []) by decide +kernel) ?_
            refine e_sti (la2 := [rA 61, (0, a), (0, c), (0, w 16 (w32 a).toNat), (0, w 16 (w32 c).toNat), (0, 0)]) (show am_cd 11 132 = (3, 134, 5, 0, []) by decide +kernel) rfl ?_
            refine e_ldi (show am_cd 11 134 = (2, 136, 5, 0, []) by decide +kernel) rfl ?_
            refine e_ifT (show am_cd 11 136 = (10, 139, 149, 0, []) by decide +kernel) (by decide +kernel) ?_
            refine e_ic (show am_cd 11 149 = (0, 150, 0, 0, []) by decide +kernel) ?_
            exact e_retz (show am_cd 11 150 = (36, 151, 0, 0, []) by decide +kernel) (by decide +kernel) (Or.inl rfl) h
          · replace h := h.2 hc
            refine e_lda (v := 61) (show am_cd 11 114 = (2, 115, 0, 2, []) by decide +kernel) rfl ?_
            refine e_getr (a := 61) (r := 15) (show am_cd 11 115 = (18, 118, 101, 2, [22]) by decide +kernel) (by decide +kernel) (by decide +kernel) rfl ?_
            refine e_getr (a := 15) (r := 17) (show am_cd 11 118 = (18, 121, 701, 2, [61]) by decide +kernel) (by decide +kernel) (by decide +kernel) rfl ?_
            refine e_ldi (show am_cd 11 121 = (2, 122, 1, 0, []) by decide +kernel) rfl ?_
            refine e_iald (a := 17) (n := 9) (show am_cd 11 122 = (21, 123, 0, 0, []) by decide +kernel) (by decide +kernel) (by decide +kernel) (by decide +kernel) h.1 ?_
            replace h := h.2
            refine e_ic (show am_cd 11 123 = (0, 124, 0, 3, []) by decide +kernel) ?_
            refine e_cmp1 (show am_cd 11 124 = (11, 127, 131, 1, []) by decide +kernel) (fun hc => ?_) (fun hc => ?_)
            · replace h := h.1 hc
              refine e_ic (show am_cd 11 131 = (0, 132, 0, 0, []) by decide +kernel) ?_
              refine e_sti (la2 := [rA 61, (0, a), (0, c), (0, w 16 (w32 a).toNat), (0, w 16 (w32 c).toNat), (0, 0)]) (show am_cd 11 132 = (3, 134, 5, 0, []) by decide +kernel) rfl ?_
              refine e_ldi (show am_cd 11 134 = (2, 136, 5, 0, []) by decide +kernel) rfl ?_
              refine e_ifT (show am_cd 11 136 = (10, 139, 149, 0, []) by decide +kernel) (by decide +kernel) ?_
              refine e_ic (show am_cd 11 149 = (0, 150, 0, 0, []) by decide +kernel) ?_
              exact e_retz (show am_cd 11 150 = (36, 151, 0, 0, []) by decide +kernel) (by decide +kernel) (Or.inl rfl) h
            · replace h := h.2 hc
              refine e_ic (show am_cd 11 127 = (0, 128, 0, 1, []) by decide +kernel) ?_
              refine e_go (show am_cd 11 128 = (12, 132, 0, 0, []) by decide +kernel) ?_
              refine e_sti (la2 := [rA 61, (0, a), (0, c), (0, w 16 (w32 a).toNat), (0, w 16 (w32 c).toNat), (0, 1)]) (show am_cd 11 132 = (3, 134, 5, 0, []) by decide +kernel) rfl ?_
              refine e_ldi (show am_cd 11 134 = (2, 136, 5, 0, []) by decide +kernel) rfl ?_
              refine e_ifF (show am_cd 11 136 = (10, 139, 149, 0, []) by decide +kernel) (by decide +kernel) ?_
              refine e_ldi (show am_cd 11 139 = (2, 140, 3, 0, []) by decide +kernel) rfl ?_
              refine e_ldi (show am_cd 11 140 = (2, 142, 4, 0, []) by decide +kernel) rfl ?_
              refine e_cmp1 (show am_cd 11 142 = (11, 145, 149, 1, []) by decide +kernel) (fun hc => ?_) (fun hc => ?_)
              · replace h := h.1 hc
                refine e_ic (show am_cd 11 149 = (0, 150, 0, 0, []) by decide +kernel) ?_
                exact e_retz (show am_cd 11 150 = (36, 151, 0, 0, []) by decide +kernel) (by decide +kernel) (Or.inl rfl) h
              · replace h := h.2 hc
                refine e_ic (show am_cd 11 145 = (0, 146, 0, 1, []) by decide +kernel) ?_
                refine e_go (show am_cd 11 146 = (12, 150, 0, 0, []) by decide +kernel) ?_
                exact e_retz (show am_cd 11 150 = (36, 151, 0, 0, []) by decide +kernel) (by decide +kernel) (Or.inr rfl) h
    · replace h := h.2 hc
      refine e_lda (v := 61) (show am_cd 11 56 = (2, 57, 0, 2, []) by decide +kernel) rfl ?_
      refine e_getr (a := 61) (r := 15) (show am_cd 11 57 = (18, 60, 101, 2, [22]) by decide +kernel) (by decide +kernel) (by decide +kernel) rfl ?_
      refine e_ldi (show am_cd 11 60 = (2, 61, 2, 0, []) by decide +kernel) rfl ?_
      refine e_cV (z := 0) (a := 15) (as := [(0, c)]) (rest := []) (show am_cd 11 61 = (40, 64, 72, 0, [58]) by decide +kernel) (by decide +kernel) rfl rfl (Nat.le_of_ble_eq_true rfl) rfl ?_
      refine Cl.mono (Cl.up (c_dp (m := m) (d := d) h.1) (by omega)) ?_
      rintro _ _ ⟨rfl, rfl⟩
      refine ⟨fun _ h9 => (by cases h9), ?_⟩
      replace h := h.2
      show Ev _ 11 _ 64 [rA 61, (0, a), (0, c), (0, w 16 (w32 a).toNat), (0, w 16 (w32 c).toNat), (9, 0)] [(0, bI (dem (m 73 c.toNat)))] _
      refine e_ifb0 (show am_cd 11 64 = (10, 67, 79, 0, []) by decide +kernel) (fun hc => ?_) (fun hc => ?_)
      · replace h := h.1 hc
        refine e_lda (v := 61) (show am_cd 11 79 = (2, 80, 0, 2, []) by decide +kernel) rfl ?_
        refine e_getr (a := 61) (r := 15) (show am_cd 11 80 = (18, 83, 101, 2, [22]) by decide +kernel) (by decide +kernel) (by decide +kernel) rfl ?_
        refine e_ldi (show am_cd 11 83 = (2, 84, 1, 0, []) by decide +kernel) rfl ?_
        refine e_cV (z := 0) (a := 15) (as := [(0, a)]) (rest := []) (show am_cd 11 84 = (40, 87, 72, 0, [58]) by decide +kernel) (by decide +kernel) rfl rfl (Nat.le_of_ble_eq_true rfl) rfl ?_
        refine Cl.mono (Cl.up (c_dp (m := m) (d := d) h.1) (by omega)) ?_
        rintro _ _ ⟨rfl, rfl⟩
        refine ⟨fun _ h9 => (by cases h9), ?_⟩
        replace h := h.2
        show Ev _ 11 _ 87 [rA 61, (0, a), (0, c), (0, w 16 (w32 a).toNat), (0, w 16 (w32 c).toNat), (9, 0)] [(0, bI (dem (m 73 a.toNat)))] _
        refine e_ifb0 (show am_cd 11 87 = (10, 90, 103, 0, []) by decide +kernel) (fun hc => ?_) (fun hc => ?_)
        · replace h := h.1 hc
          refine e_lda (v := 61) (show am_cd 11 103 = (2, 104, 0, 2, []) by decide +kernel) rfl ?_
          refine e_getr (a := 61) (r := 15) (show am_cd 11 104 = (18, 107, 101, 2, [22]) by decide +kernel) (by decide +kernel) (by decide +kernel) rfl ?_
          refine e_ldi (show am_cd 11 107 = (2, 108, 2, 0, []) by decide +kernel) rfl ?_
          refine e_cV (z := 0) (a := 15) (as := [(0, c)]) (rest := []) (show am_cd 11 108 = (40, 111, 72, 0, [58]) by decide +kernel) (by decide +kernel) rfl rfl (Nat.le_of_ble_eq_true rfl) rfl ?_
          refine Cl.mono (Cl.up (c_dp (m := m) (d := d) h.1) (by omega)) ?_
          rintro _ _ ⟨rfl, rfl⟩
          refine ⟨fun _ h9 => (by cases h9), ?_⟩
          replace h := h.2
          show Ev _ 11 _ 111 [rA 61, (0, a), (0, c), (0, w 16 (w32 a).toNat), (0, w 16 (w32 c).toNat), (9, 0)] [(0, bI (dem (m 73 c.toNat)))] _
          refine e_ifb0 (show am_cd 11 111 = (10, 114, 131, 0, []) by decide +kernel) (fun hc => ?_) (fun hc => ?_)
          · replace h := h.1 hc
            refine e_ic (show am_cd 11 131 = (0, 132, 0, 0, []) by decide +kernel) ?_
            refine e_sti (la2 := [rA 61, (0, a), (0, c), (0, w 16 (w32 a).toNat), (0, w 16 (w32 c).toNat), (0, 0)]) (show am_cd 11 132 = (3, 134, 5, 0, []) by decide +kernel) rfl ?_
            refine e_ldi (show am_cd 11 134 = (2, 136, 5, 0, []) by decide +kernel) rfl ?_
            refine e_ifT (show am_cd 11 136 = (10, 139, 149, 0, []) by decide +kernel) (by decide +kernel) ?_
            refine e_ic (show am_cd 11 149 = (0, 150, 0, 0, []) by decide +kernel) ?_
            exact e_retz (show am_cd 11 150 = (36, 151, 0, 0, []) by decide +kernel) (by decide +kernel) (Or.inl rfl) h
          · replace h := h.2 hc
            refine e_lda (v := 61) (show am_cd 11 114 = (2, 115, 0, 2, []) by decide +kernel) rfl ?_
            refine e_getr (a := 61) (r := 15) (show am_cd 11 115 = (18, 118, 101, 2, [22]) by decide +kernel) (by decide +kernel) (by decide +kernel) rfl ?_
            refine e_getr (a := 15) (r := 17) (show am_cd 11 118 = (18, 121, 701, 2, [61]) by decide +kernel) (by decide +kernel) (by decide +kernel) rfl ?_
            refine e_ldi (show am_cd 11 121 = (2, 122, 1, 0, []) by decide +kernel) rfl ?_
            refine e_iald (a := 17) (n := 9) (show am_cd 11 122 = (21, 123, 0, 0, []) by decide +kernel) (by decide +kernel) (by decide +kernel) (by decide +kernel) h.1 ?_
            replace h := h.2
            refine e_ic (show am_cd 11 123 = (0, 124, 0, 3, []) by decide +kernel) ?_
            refine e_cmp1 (show am_cd 11 124 = (11, 127, 131, 1, []) by decide +kernel) (fun hc => ?_) (fun hc => ?_)
            · replace h := h.1 hc
              refine e_ic (show am_cd 11 131 = (0, 132, 0, 0, []) by decide +kernel) ?_
              refine e_sti (la2 := [rA 61, (0, a), (0, c), (0, w 16 (w32 a).toNat), (0, w 16 (w32 c).toNat), (0, 0)]) (show am_cd 11 132 = (3, 134, 5, 0, []) by decide +kernel) rfl ?_
              refine e_ldi (show am_cd 11 134 = (2, 136, 5, 0, []) by decide +kernel) rfl ?_
              refine e_ifT (show am_cd 11 136 = (10, 139, 149, 0, []) by decide +kernel) (by decide +kernel) ?_
              refine e_ic (show am_cd 11 149 = (0, 150, 0, 0, []) by decide +kernel) ?_
              exact e_retz (show am_cd 11 150 = (36, 151, 0, 0, []) by decide +kernel) (by decide +kernel) (Or.inl rfl) h
            · replace h := h.2 hc
              refine e_ic (show am_cd 11 127 = (0, 128, 0, 1, []) by decide +kernel) ?_
              refine e_go (show am_cd 11 128 = (12, 132, 0, 0, []) by decide +kernel) ?_
              refine e_sti (la2 := [rA 61, (0, a), (0, c), (0, w 16 (w32 a).toNat), (0, w 16 (w32 c).toNat), (0, 1)]) (show am_cd 11 132 = (3, 134, 5, 0, []) by decide +kernel) rfl ?_
              refine e_ldi (show am_cd 11 134 = (2, 136, 5, 0, []) by decide +kernel) rfl ?_
              refine e_ifF (show am_cd 11 136 = (10, 139, 149, 0, []) by decide +kernel) (by decide +kernel) ?_
              refine e_ldi (show am_cd 11 139 = (2, 140, 3, 0, []) by decide +kernel) rfl ?_
              refine e_ldi (show am_cd 11 140 = (2, 142, 4, 0, []) by decide +kernel) rfl ?_
              refine e_cmp1 (show am_cd 11 142 = (11, 145, 149, 1, []) by decide +kernel) (fun hc => ?_) (fun hc => ?_)
              · replace h := h.1 hc
                refine e_ic (show am_cd 11 149 = (0, 150, 0, 0, []) by decide +kernel) ?_
                exact e_retz (show am_cd 11 150 = (36, 151, 0, 0, []) by decide +kernel) (by decide +kernel) (Or.inl rfl) h
              · replace h := h.2 hc
                refine e_ic (show am_cd 11 145 = (0, 146, 0, 1, []) by decide +kernel) ?_
                refine e_go (show am_cd 11 146 = (12, 150, 0, 0, []) by decide +kernel) ?_
                exact e_retz (show am_cd 11 150 = (36, 151, 0, 0, []) by decide +kernel) (by decide +kernel) (Or.inr rfl) h
        · replace h := h.2 hc
          refine e_lda (v := 61) (show am_cd 11 90 = (2, 91, 0, 2, []) by decide +kernel) rfl ?_
          refine e_getr (a := 61) (r := 15) (show am_cd 11 91 = (18, 94, 101, 2, [22]) by decide +kernel) (by decide +kernel) (by decide +kernel) rfl ?_
          refine e_getr (a := 15) (r := 17) (show am_cd 11 94 = (18, 97, 701, 2, [61]) by decide +kernel) (by decide +kernel) (by decide +kernel) rfl ?_
          refine e_ldi (show am_cd 11 97 = (2, 98, 2, 0, []) by decide +kernel) rfl ?_
          refine e_iald (a := 17) (n := 9) (show am_cd 11 98 = (21, 99, 0, 0, []) by decide +kernel) (by decide +kernel) (by decide +kernel) (by decide +kernel) h.1 ?_
          replace h := h.2
          refine e_ic (show am_cd 11 99 = (0, 100, 0, 3, []) by decide +kernel) ?_
          refine e_cmp0 (show am_cd 11 100 = (11, 103, 127, 0, []) by decide +kernel) (fun hc => ?_) (fun hc => ?_)
          · replace h := h.1 hc
            refine e_ic (show am_cd 11 127 = (0, 128, 0, 1, []) by decide +kernel) ?_
            refine e_go (show am_cd 11 128 = (12, 132, 0, 0, []) by decide +kernel) ?_
            refine e_sti (la2 := [rA 61, (0, a), (0, c), (0, w 16 (w32 a).toNat), (0, w 16 (w32 c).toNat), (0, 1)]) (show am_cd 11 132 = (3, 134, 5, 0, []) by decide +kernel) rfl ?_
            refine e_ldi (show am_cd 11 134 = (2, 136, 5, 0, []) by decide +kernel) rfl ?_
            refine e_ifF (show am_cd 11 136 = (10, 139, 149, 0, []) by decide +kernel) (by decide +kernel) ?_
            refine e_ldi (show am_cd 11 139 = (2, 140, 3, 0, []) by decide +kernel) rfl ?_
            refine e_ldi (show am_cd 11 140 = (2, 142, 4, 0, []) by decide +kernel) rfl ?_
            refine e_cmp1 (show am_cd 11 142 = (11, 145, 149, 1, []) by decide +kernel) (fun hc => ?_) (fun hc => ?_)
            · replace h := h.1 hc
              refine e_ic (show am_cd 11 149 = (0, 150, 0, 0, []) by decide +kernel) ?_
              exact e_retz (show am_cd 11 150 = (36, 151, 0, 0, []) by decide +kernel) (by decide +kernel) (Or.inl rfl) h
            · replace h := h.2 hc
              refine e_ic (show am_cd 11 145 = (0, 146, 0, 1, []) by decide +kernel) ?_
              refine e_go (show am_cd 11 146 = (12, 150, 0, 0, []) by decide +kernel) ?_
              exact e_retz (show am_cd 11 150 = (36, 151, 0, 0, []) by decide +kernel) (by decide +kernel) (Or.inr rfl) h
          · replace h := h.2 hc
            refine e_lda (v := 61) (show am_cd 11 103 = (2, 104, 0, 2, []) by decide +kernel) rfl ?_
            refine e_getr (a := 61) (r := 15) (show am_cd 11 104 = (18, 107, 101, 2, [22]) by decide +kernel) (by decide +kernel) (by decide +kernel) rfl ?_
            refine e_ldi (show am_cd 11 107 = (2, 108, 2, 0, []) by decide +kernel) rfl ?_
            refine e_cV (z := 0) (a := 15) (as := [(0, c)]) (rest := []) (show am_cd 11 108 = (40, 111, 72, 0, [58]) by decide +kernel) (by decide +kernel) rfl rfl (Nat.le_of_ble_eq_true rfl) rfl ?_
            refine Cl.mono (Cl.up (c_dp (m := m) (d := d) h.1) (by omega)) ?_
            rintro _ _ ⟨rfl, rfl⟩
            refine ⟨fun _ h9 => (by cases h9), ?_⟩
            replace h := h.2
            show Ev _ 11 _ 111 [rA 61, (0, a), (0, c), (0, w 16 (w32 a).toNat), (0, w 16 (w32 c).toNat), (9, 0)] [(0, bI (dem (m 73 c.toNat)))] _
            refine e_ifb0 (show am_cd 11 111 = (10, 114, 131, 0, []) by decide +kernel) (fun hc => ?_) (fun hc => ?_)
            · replace h := h.1 hc
              refine e_ic (show am_cd 11 131 = (0, 132, 0, 0, []) by decide +kernel) ?_
              refine e_sti (la2 := [rA 61, (0, a), (0, c), (0, w 16 (w32 a).toNat), (0, w 16 (w32 c).toNat), (0, 0)]) (show am_cd 11 132 = (3, 134, 5, 0, []) by decide +kernel) rfl ?_
              refine e_ldi (show am_cd 11 134 = (2, 136, 5, 0, []) by decide +kernel) rfl ?_
              refine e_ifT (show am_cd 11 136 = (10, 139, 149, 0, []) by decide +kernel) (by decide +kernel) ?_
              refine e_ic (show am_cd 11 149 = (0, 150, 0, 0, []) by decide +kernel) ?_
              exact e_retz (show am_cd 11 150 = (36, 151, 0, 0, []) by decide +kernel) (by decide +kernel) (Or.inl rfl) h
            · replace h := h.2 hc
              refine e_lda (v := 61) (show am_cd 11 114 = (2, 115, 0, 2, []) by decide +kernel) rfl ?_
              refine e_getr (a := 61) (r := 15) (show am_cd 11 115 = (18, 118, 101, 2, [22]) by decide +kernel) (by decide +kernel) (by decide +kernel) rfl ?_
              refine e_getr (a := 15) (r := 17) (show am_cd 11 118 = (18, 121, 701, 2, [61]) by decide +kernel) (by decide +kernel) (by decide +kernel) rfl ?_
              refine e_ldi (show am_cd 11 121 = (2, 122, 1, 0, []) by decide +kernel) rfl ?_
              refine e_iald (a := 17) (n := 9) (show am_cd 11 122 = (21, 123, 0, 0, []) by decide +kernel) (by decide +kernel) (by decide +kernel) (by decide +kernel) h.1 ?_
              replace h := h.2
              refine e_ic (show am_cd 11 123 = (0, 124, 0, 3, []) by decide +kernel) ?_
              refine e_cmp1 (show am_cd 11 124 = (11, 127, 131, 1, []) by decide +kernel) (fun hc => ?_) (fun hc => ?_)
              · replace h := h.1 hc
                refine e_ic (show am_cd 11 131 = (0, 132, 0, 0, []) by decide +kernel) ?_
                refine e_sti (la2 := [rA 61, (0, a), (0, c), (0, w 16 (w32 a).toNat), (0, w 16 (w32 c).toNat), (0, 0)]) (show am_cd 11 132 = (3, 134, 5, 0, []) by decide +kernel) rfl ?_
                refine e_ldi (show am_cd 11 134 = (2, 136, 5, 0, []) by decide +kernel) rfl ?_
                refine e_ifT (show am_cd 11 136 = (10, 139, 149, 0, []) by decide +kernel) (by decide +kernel) ?_
                refine e_ic (show am_cd 11 149 = (0, 150, 0, 0, []) by decide +kernel) ?_
                exact e_retz (show am_cd 11 150 = (36, 151, 0, 0, []) by decide +kernel) (by decide +kernel) (Or.inl rfl) h
              · replace h := h.2 hc
                refine e_ic (show am_cd 11 127 = (0, 128, 0, 1, []) by decide +kernel) ?_
                refine e_go (show am_cd 11 128 = (12, 132, 0, 0, []) by decide +kernel) ?_
                refine e_sti (la2 := [rA 61, (0, a), (0, c), (0, w 16 (w32 a).toNat), (0, w 16 (w32 c).toNat), (0, 1)]) (show am_cd 11 132 = (3, 134, 5, 0, []) by decide +kernel) rfl ?_
                refine e_ldi (show am_cd 11 134 = (2, 136, 5, 0, []) by decide +kernel) rfl ?_
                refine e_ifF (show am_cd 11 136 = (10, 139, 149, 0, []) by decide +kernel) (by decide +kernel) ?_
                refine e_ldi (show am_cd 11 139 = (2, 140, 3, 0, []) by decide +kernel) rfl ?_
                refine e_ldi (show am_cd 11 140 = (2, 142, 4, 0, []) by decide +kernel) rfl ?_
                refine e_cmp1 (show am_cd 11 142 = (11, 145, 149, 1, []) by decide +kernel) (fun hc => ?_) (fun hc => ?_)
                · replace h := h.1 hc
                  refine e_ic (show am_cd 11 149 = (0, 150, 0, 0, []) by decide +kernel) ?_
                  exact e_retz (show am_cd 11 150 = (36, 151, 0, 0, []) by decide +kernel) (by decide +kernel) (Or.inl rfl) h
                · replace h := h.2 hc
                  refine e_ic (show am_cd 11 145 = (0, 146, 0, 1, []) by decide +kernel) ?_
                  refine e_go (show am_cd 11 146 = (12, 150, 0, 0, []) by decide +kernel) ?_
                  exact e_retz (show am_cd 11 150 = (36, 151, 0, 0, []) by decide +kernel) (by decide +kernel) (Or.inr rfl) h
      · replace h := h.2 hc
        refine e_ldi (show am_cd 11 67 = (2, 68, 3, 0, []) by decide +kernel) rfl ?_
        refine e_ldi (show am_cd 11 68 = (2, 70, 4, 0, []) by decide +kernel) rfl ?_
        refine e_cmp0 (show am_cd 11 70 = (11, 73, 77, 0, []) by decide +kernel) (fun hc => ?_) (fun hc => ?_)
        · replace h := h.1 hc
          refine e_ic (show am_cd 11 77 = (0, 78, 0, 0, []) by decide +kernel) ?_
          exact e_retz (show am_cd 11 78 = (36, 79, 0, 0, []) by decide +kernel) (by decide +kernel) (Or.inl rfl) h
        · replace h := h.2 hc
          refine e_ic (show am_cd 11 73 = (0, 74, 0, 1, []) by decide +kernel) ?_
          refine e_go (show am_cd 11 74 = (12, 78, 0, 0, []) by decide +kernel) ?_
          exact e_retz (show am_cd 11 78 = (36, 79, 0, 0, []) by decide +kernel) (by decide +kernel) (Or.inr rfl) h
  · replace h := h.2 hc
    refine e_ic (show am_cd 11 43 = (0, 44, 0, 0, []) by decide +kernel) ?_
    exact e_retz (show am_cd 11 44 = (36, 45, 0, 0, []) by decide +kernel) (by decide +kernel) (Or.inl rfl) h

def loI (F : Nat) : Int := if fsN (fun p => F.testBit p) 16 0 = 16 then -1 else (fsN (fun p => F.testBit p) 16 0 : Int)

theorem g_lo {d : Nat} {Q : Option aV → aS → Prop} {w : eW} {t : eT} {f : Int} {m : eW} (h : Ev (d) 14 Q 2 [(0, f), (0, 0)] [] (enc w t)) : Cl (d) 14 [(0, f)] (enc w t) Q := by
  show Ev (d) 14 Q 0 [(0, f), (9, 0)] [] (enc w t)
  refine e_ic (show am_cd 14 0 = (0, 1, 0, 0, []) by decide +kernel) ?_
  refine e_sti (la2 := [(0, f), (0, 0)]) (show am_cd 14 1 = (3, 2, 1, 0, []) by decide +kernel) rfl ?_
  exact h

theorem g_lo1 {d : Nat} {Q : Option aV → aS → Prop} {w : eW} {t : eT} {f p : Int} {m : eW} (h : ((w32 16 ≤ w32 p → Q (some (0, (-1))) (enc w t)) ∧ (¬ (w32 16 ≤ w32 p) → ((w32 (iand (ishr f p) 1) = 0 → Ev (d) 14 Q 2 [(0, f), (0, p + 1)] [] (enc w t)) ∧ (¬ (w32 (iand (ishr f p) 1) = 0) → Q (some (0, p)) (enc w t)))))) : Ev (d) 14 Q 2 [(0, f), (0, p)] [] (enc w t) := by
  refine e_ldi (show am_cd 14 2 = (2, 3, 1, 0, []) by decide +kernel) rfl ?_
  refine e_ic (show am_cd 14 3 = (0, 5, 1, 16, []) by decide +kernel) ?_
  refine e_cmp3 (show am_cd 14 5 = (11, 8, 24, 3, []) by decide +kernel) (fun hc => ?_) (fun hc => ?_)
  · replace h := h.1 hc
    refine e_ic (show am_cd 14 24 = (0, 25, 0, -1, []) by decide +kernel) ?_
    exact e_reti (show am_cd 14 25 = (36, 26, 0, 0, []) by decide +kernel) (by decide +kernel) h
  · replace h := h.2 hc
    refine e_ldi (show am_cd 14 8 = (2, 9, 0, 0, []) by decide +kernel) rfl ?_
    refine e_ldi (show am_cd 14 9 = (2, 10, 1, 0, []) by decide +kernel) rfl ?_
    refine e_ishr (show am_cd 14 10 = (5, 11, 7, 0, []) by decide +kernel) ?_
    refine e_ic (show am_cd 14 11 = (0, 12, 0, 1, []) by decide +kernel) ?_
    refine e_iand (show am_cd 14 12 = (5, 13, 3, 0, []) by decide +kernel) ?_
    refine e_if0 (show am_cd 14 13 = (10, 16, 18, 0, []) by decide +kernel) (fun hc => ?_) (fun hc => ?_)
    · replace h := h.1 hc
      refine e_inc (la2 := [(0, f), (0, p + 1)]) (show am_cd 14 18 = (4, 21, 1, 1, []) by decide +kernel) rfl rfl ?_
      refine e_go (show am_cd 14 21 = (12, 2, 0, 0, []) by decide +kernel) ?_
      exact h
    · replace h := h.2 hc
      refine e_ldi (show am_cd 14 16 = (2, 17, 1, 0, []) by decide +kernel) rfl ?_
      exact e_reti (show am_cd 14 17 = (36, 18, 0, 0, []) by decide +kernel) (by decide +kernel) h

theorem c_lo {d F : Nat} {w : eW} {t : eT} (h : F < 2147483648) : Cl d 14 [(0, (F : Int))] (enc w t) (fun r S2 => r = some (0, loI F) ∧ S2 = enc w t) := by
  have key : ∀ (k p : Nat), p + k = 16 → Ev d 14 (fun r S2 => r = some (0, if fsN (fun p => F.testBit p) k p = 16 then -1 else (fsN (fun p => F.testBit p) k p : Int)) ∧ S2 = enc w t) 2 [(0, (F : Int)), (0, (p : Int))] [] (enc w t) := by
    intro k
    induction k with
    | zero =>
      intro p hk
      refine g_lo1 (m := w) ⟨fun _ => ⟨?_, rfl⟩, fun h9 => absurd (by rw [w32_id (by omega), w32_id (by omega)]; omega) h9⟩
      rw [if_pos (by show p = 16; omega)]
    | succ k ih =>
      intro p hk
      refine g_lo1 (m := w) ⟨fun h9 => absurd h9 (by rw [w32_id (by omega), w32_id (by omega)]; omega), fun _ => ?_⟩
      rw [bb_i h (by omega)]
      cases hb : F.testBit p with
      | false =>
        refine ⟨fun _ => ?_, fun h9 => absurd rfl h9⟩
        rw [fsN_f hb]
        exact ih (p + 1) (by omega)
      | true =>
        refine ⟨fun h9 => absurd h9 (by decide), fun _ => ?_⟩
        rw [fsN_t hb, if_neg (by omega)]
        exact ⟨rfl, rfl⟩
  exact g_lo (m := w) (key 16 0 rfl)

theorem c_du {d : Nat} {w m : eW} {t : eT} {a c : Int} (h : RC w m ∧ AC w m ∧ WFp m ∧ WFr m ∧ (0 ≤ a ∧ a < (nR m : Int)) ∧ (0 ≤ c ∧ c < (nR m : Int))) : Cl (d + 2) 11 [rA 61, (0, a), (0, c)] (enc w t) (fun z S2 => z = some (0, bI (unl m a.toNat c.toNat)) ∧ S2 = enc w t) := by
  obtain ⟨hC, hA, hp, hr, ha, hc⟩ := h
  have hn := hr.n
  have hpn := hp.n
  obtain ⟨a16, a17, _⟩ := hC.2 a.toNat (by omega)
  obtain ⟨c16, c17, _⟩ := hC.2 c.toNat (by omega)
  obtain ⟨a1, a2, _⟩ := hr.2 a.toNat (by omega)
  obtain ⟨c1, c2, _⟩ := hr.2 c.toNat (by omega)
  have pa := hp.2.1 (m 72 a.toNat).toNat (by omega)
  have pc := hp.2.1 (m 72 c.toNat).toNat (by omega)
  have ea := (hA.2.1 (m 72 a.toNat).toNat (by omega)).1
  have ec := (hA.2.1 (m 72 c.toNat).toNat (by omega)).1
  have ba := cdI_b pa.1
  have bc := cdI_b pc.1
  refine g_du (m := m) ?_
  rw [w32_id (x := a) (by omega), w32_id (x := c) (by omega), a16, c16, a17, c17, w32_id (x := m 72 a.toNat) (by omega), w32_id (x := m 72 c.toNat) (by omega), ea, ec]
  simp (disch := omega) only [w32_id]
  rw [cdI_i pa.1 pc.1]
  have r9 : (0 : Int) ≤ a ∧ a < 9 := by omega
  have s9 : (0 : Int) ≤ c ∧ c < 9 := by omega
  have ra : RC w m ∧ WFr m ∧ 0 ≤ a ∧ a < (nR m : Int) := ⟨hC, hr, ha⟩
  have rc : RC w m ∧ WFr m ∧ 0 ≤ c ∧ c < (nR m : Int) := ⟨hC, hr, hc⟩
  have x16 : (0 : Int) ≤ m 72 a.toNat ∧ m 72 a.toNat < 16 := by omega
  have y16 : (0 : Int) ≤ m 72 c.toNat ∧ m 72 c.toNat < 16 := by omega
  unfold unl
  refine ⟨r9, s9, x16, y16, fun hu => ⟨ra, ?_, ?_⟩, fun hu => ?_⟩
  · intro dA
    rw [decide_eq_true hu, dA]
    refine ⟨ra, fun _ => ⟨rc, fun dC => ?_, fun dC => ⟨r9, fun h3 => ?_, fun h3 => ⟨fun h4 => ?_, fun h4 => ?_⟩⟩⟩, fun h9 => (by cases h9)⟩
    · rw [dC]; simp [bI]
    · rw [dC, decide_eq_false h3]; simp [bI]
    · rw [dC, decide_eq_false h4]; simp [bI]
    · rw [dC, decide_eq_true (Classical.not_not.mp h3), decide_eq_true (Classical.not_not.mp h4)]; simp [bI]
  · intro dA
    rw [decide_eq_true hu, dA]
    refine ⟨rc, fun dC => ⟨ra, fun h9 => (by cases h9), fun _ => ⟨s9, fun h3 => ⟨fun h4 => ?_, fun h4 => ?_⟩, fun h3 => ⟨rc, fun _ => ?_, fun h9 => (by rw [dC] at h9; cases h9)⟩⟩⟩, fun dC => ⟨fun h4 => ?_, fun h4 => ?_⟩⟩
    · rw [dC, decide_eq_false h4]; simp [bI]
    · rw [dC, decide_eq_true h3, decide_eq_true (Classical.not_not.mp h4)]; simp [bI]
    · rw [dC, decide_eq_false h3]; simp [bI]
    · rw [dC, decide_eq_true h4]; simp [bI]
    · rw [dC, decide_eq_false h4]; simp [bI]
  · rw [decide_eq_false hu]; simp [bI]

