/-! The class: what is kept, told; what is thrown. -/
theorem MaC.ext {w w2 m : eW} (h : MaC w m) (e1 : mK w2 = mK w) (e2 : mA w2 = mA w) (e3 : mD w2 = mD w) (e4 : mTl w2 = mTl w) (e5 : w2 37 7 = w 37 7) : MaC w2 m := by
  have e6 : mN w2 = mN w := by unfold mN; rw [e5]
  unfold MaC at *
  rw [e1, e2, e3, e4, e5, e6]
  exact h
theorem dyK_more {t t2 : eT} {a : Int} {kd : Nat} (h : dyK t a kd) (h1 : t.2.1 ≤ t2.2.1) (h2 : ∀ x, x < 102 + t.2.1 → t2.1 x = t.1 x) : dyK t2 a kd ∧ dyL t2 a = dyL t a := by
  obtain ⟨k1, k2, k3, k4⟩ := h
  unfold dyK dyL
  rw [h2 _ k2]
  exact ⟨⟨k1, by omega, k3, k4⟩, rfl⟩
theorem DyI.more {w : eW} {t t2 : eT} (h : DyI w t) (h1 : t.2.1 ≤ t2.2.1) (h2 : ∀ x, x < 102 + t.2.1 → t2.1 x = t.1 x) : DyI w t2 ∧ ∀ a ∈ dyRef w, dyL t2 a = dyL t a ∧ a.toNat < 102 + t.2.1 := by
  obtain ⟨d1, d2, ⟨R, hR, a1, a2, a3, a4, a5, a6⟩, M, hM, hM2, a7, a8⟩ := h
  obtain ⟨c1, l1⟩ := dyK_more a1.1 h1 h2
  obtain ⟨c2, l2⟩ := dyK_more a2.1 h1 h2
  obtain ⟨c3, l3⟩ := dyK_more a3.1 h1 h2
  obtain ⟨c4, l4⟩ := dyK_more a4.1 h1 h2
  obtain ⟨c5, l5⟩ := dyK_more a5.1 h1 h2
  obtain ⟨c6, l6⟩ := dyK_more a6.1 h1 h2
  obtain ⟨c7, l7⟩ := dyK_more a7.1 h1 h2
  obtain ⟨c8, l8⟩ := dyK_more a8.1 h1 h2
  refine ⟨⟨d1, d2, ⟨R, hR, ⟨c1, by rw [l1]; exact a1.2⟩, ⟨c2, by rw [l2]; exact a2.2⟩, ⟨c3, by rw [l3]; exact a3.2⟩, ⟨c4, by rw [l4]; exact a4.2⟩, ⟨c5, by rw [l5]; exact a5.2⟩, ⟨c6, by rw [l6]; exact a6.2⟩⟩, M, hM, hM2, ⟨c7, by rw [l7]; exact a7.2⟩, ⟨c8, by rw [l8]; exact a8.2⟩⟩, fun a ha => ?_⟩
  unfold dyRef at ha
  simp only [List.mem_cons, List.not_mem_nil, or_false] at ha
  rcases ha with e | e | e | e | e | e | e | e <;> subst e
  · exact ⟨l1, a1.1.2.1⟩
  · exact ⟨l2, a2.1.2.1⟩
  · exact ⟨l3, a3.1.2.1⟩
  · exact ⟨l4, a4.1.2.1⟩
  · exact ⟨l5, a5.1.2.1⟩
  · exact ⟨l6, a6.1.2.1⟩
  · exact ⟨l7, a7.1.2.1⟩
  · exact ⟨l8, a8.1.2.1⟩
theorem dyRef_i {w : eW} : w 37 1 ∈ dyRef w ∧ w 37 2 ∈ dyRef w ∧ w 37 3 ∈ dyRef w ∧ w 37 4 ∈ dyRef w ∧ w 37 5 ∈ dyRef w ∧ w 37 6 ∈ dyRef w ∧ w 45 0 ∈ dyRef w ∧ w 45 1 ∈ dyRef w := by unfold dyRef; simp
theorem DynQ.le {w : eW} {t : eT} {b : Nat × Nat} {m : eW} {j : Nat} (h : DynQ w t b m) (hj : b.2 ≤ j) : DynQ w t (b.1, j) m := by
  obtain ⟨h1, ⟨r1, r2⟩, ⟨⟨s1, s2⟩, s3⟩, h4⟩ := h
  exact ⟨h1, ⟨r1, by show _ ≤ _ + 6 * j; omega⟩, ⟨⟨s1, by show _ ≤ (j : Int) + 1; omega⟩, s3⟩, h4⟩
/-- a new cell that nothing here speaks of -/
theorem DynQ.thr {w : eW} {t : eT} {b : Nat × Nat} {m : eW} {w2 : eW} (h : DynQ w t b m) (hw : ∀ a, a ≠ 102 + t.2.1 → w2 a = w a) : DynQ w2 (tx t) (b.1, b.2 + 1) m := by
  obtain ⟨h1, ⟨r1, r2⟩, ⟨⟨s1, s2⟩, s3, s4⟩, h4⟩ := h
  have hm := h1.more (t2 := tx t) (by show t.2.1 ≤ t.2.1 + 1; omega) (fun x hx => by show (if x = 102 + t.2.1 then _ else _) = _; rw [if_neg (by omega)])
  have r37 : w2 37 = w 37 := hw 37 (by omega)
  have r45 : w2 45 = w 45 := hw 45 (by omega)
  have rr : ∀ a ∈ dyRef w, w2 a.toNat = w a.toNat := fun a ha => hw _ (by have := (hm.2 a ha).2; omega)
  obtain ⟨i1, i2, i3, i4, i5, i6, i7, i8⟩ := @dyRef_i w
  have eR : dyRef w2 = dyRef w := by unfold dyRef; rw [r37, r45]
  refine ⟨?_, ?_, ?_, ?_⟩
  · have := hm.1
    unfold DyI at *
    rw [eR, r37, r45]
    exact this
  · unfold RmI
    rw [r37, r45, (hm.2 _ i1).1, (hm.2 _ i7).1]
    refine ⟨by show b.1 + 6 * (t.2.1 + 1) ≤ t.2.2 + 6; omega, by show t.2.2 + 6 ≤ _ + 6 * (b.2 + 1); omega⟩
  · rw [r45, (hm.2 _ i7).1]
    refine ⟨⟨s1, by show _ ≤ ((b.2 + 1 : Nat) : Int) + 1; omega⟩, s3, ?_⟩
    unfold MmT
    rw [r45, (hm.2 _ i7).1, rr _ i7]
    exact s4
  · rw [r37]
    rcases h4 with h4 | ⟨h4, h5, h6⟩
    · exact Or.inl h4
    · refine Or.inr ⟨h4, h5.ext ?_ ?_ ?_ ?_ (by rw [r37]), h6.ext (by funext s; unfold mK; rw [r37, rr _ i1]) r37 (hm.2 _ i1).1⟩
      · unfold mK; rw [r37, rr _ i1]
      · unfold mA; rw [r37, rr _ i6]
      · unfold mD; rw [r37, rr _ i4]
      · unfold mTl; rw [r37, rr _ i5]
theorem CI.thr {w : eW} {t : eT} {b : Nat × Nat} {m : eW} {ks : kT} {rl tl : List Int} (h : CI w t b m ks rl tl) : CI (wz w (102 + t.2.1)) (tx t) (b.1, b.2 + 1) m ks rl tl ∧ ∀ a, a < 102 → wz w (102 + t.2.1) a = w a := by
  have ew : ∀ a, a ≠ 102 + t.2.1 → wz w (102 + t.2.1) a = w a := fun a ha => by funext k; unfold wz; rw [if_neg ha]
  obtain ⟨hT, hC, hX, hK, hL, hD⟩ := h
  have e : ∀ a, a < 102 → wz w (102 + t.2.1) a = w a := fun a ha => ew a (by omega)
  have F : Fc [102 + t.2.1] [] w (wz w (102 + t.2.1)) := fun a k h1 _ => by rw [ew a (by simpa using h1)]
  have big : ∀ a ∈ [102 + t.2.1], 101 < a := fun a ha => by simp at ha; omega
  have nin : ∀ a, a < 102 → a ∉ [102 + t.2.1] := fun a ha h9 => by have := big a h9; omega
  refine ⟨⟨⟨⟨hT.1.1.fc F ⟨nin _ (by decide), nin _ (by decide)⟩ (by decide), by rw [e 2 (by decide)]; exact hT.1.2⟩, hT.2.1.fc F ⟨nin _ (by decide), nin _ (by decide), nin _ (by decide), nin _ (by decide), nin _ (by decide)⟩ (by decide), hT.2.2.fc F ⟨nin _ (by decide), nin _ (by decide), nin _ (by decide)⟩ (by decide)⟩, ⟨hC.1.fc F (fun a ha => by have := big a ha; omega) (by decide), hC.2.fc F (fun a ha => by have := big a ha; omega) (by decide)⟩, ⟨hX.1.fc F (fun a ha => by have := big a ha; omega) (by decide), hX.2.fc F ⟨nin _ (by decide), nin _ (by decide), nin _ (by decide)⟩ (by decide)⟩, hK.fc F (fun a ha => by have := big a ha; omega) (by decide), hL.fc F ⟨nin _ (by decide), nin _ (by decide)⟩ (by decide), ?_⟩, e⟩
  exact DynQ.thr hD (fun a ha => by
    funext k
    unfold pj
    rw [ew a ha])
/-- an answer that may be thrown -/
def AnT (w m : eW) (b : Nat × Nat) (ks : kT) (rl tl : List Int) (tg : Nat) (v : Option Int) (r : Option aV) (S2 : aS) : Prop := ∃ w2 t2, S2 = enc w2 t2 ∧ (∀ a, 67 ≤ a → a < 101 → w2 a = w a) ∧ CI w2 t2 (b.1, b.2 + 1) m ks rl tl ∧ match v with
  | some x => r = some (tg, x)
  | none => ∃ x, r = some (6, x)
theorem CI.le {w : eW} {t : eT} {b : Nat × Nat} {m : eW} {ks : kT} {rl tl : List Int} {j : Nat} (h : CI w t b m ks rl tl) (hj : b.2 ≤ j) : CI w t (b.1, j) m ks rl tl := ⟨h.1, h.2.1, h.2.2.1, h.2.2.2.1, h.2.2.2.2.1, DynQ.le h.2.2.2.2.2 hj⟩
theorem AnT.no {w m : eW} {t : eT} {b : Nat × Nat} {ks : kT} {rl tl : List Int} {tg : Nat} {v : Option Int} {x : Int} (h : CI w t b m ks rl tl) (hv : v = none) : AnT w m b ks rl tl tg v (some (6, x)) (enc (wz w (102 + t.2.1)) (tx t)) := by
  obtain ⟨h1, h2⟩ := h.thr
  subst hv
  exact ⟨_, _, rfl, fun a _ ha => h2 a (by omega), h1, _, rfl⟩
theorem AnT.yes {w m : eW} {t : eT} {b : Nat × Nat} {ks : kT} {rl tl : List Int} {tg : Nat} {v : Option Int} {x : Int} (h : CI w t b m ks rl tl) (hv : v = some x) : AnT w m b ks rl tl tg v (some (tg, x)) (enc w t) := by
  subst hv
  exact ⟨_, _, rfl, fun _ _ _ => rfl, h.le (Nat.le_succ _), rfl⟩

theorem g_ckept {d : Nat} {Q : Option aV → aS → Prop} {w : eW} {t : eT} {i k : Int} (h : ((w32 i < 0 → Q (some (6, ((102 + t.2.1 : Nat) : Int))) (enc (wz w (102 + t.2.1)) (tx t))) ∧ (¬ (w32 i < 0) → ((w32 (w 48 4) ≤ w32 i → Q (some (6, ((102 + t.2.1 : Nat) : Int))) (enc (wz w (102 + t.2.1)) (tx t))) ∧ (¬ (w32 (w 48 4) ≤ w32 i) → ((w32 k < w32 (-1) → Q (some (6, ((102 + t.2.1 : Nat) : Int))) (enc (wz w (102 + t.2.1)) (tx t))) ∧ (¬ (w32 k < w32 (-1)) → (0 ≤ w32 i ∧ w32 i < 20) ∧ ((w32 k < w32 (w 49 (w32 i).toNat) → ((¬ w32 k = w32 (-1) → (0 ≤ w32 ((i * 13) + k) ∧ w32 ((i * 13) + k) < 260) ∧ (Q (some (0, w 51 (w32 ((i * 13) + k)).toNat)) (enc w t))) ∧ (¬ (¬ w32 k = w32 (-1)) → (0 ≤ w32 i ∧ w32 i < 20) ∧ (Q (some (0, w 49 (w32 i).toNat)) (enc w t))))) ∧ (¬ (w32 k < w32 (w 49 (w32 i).toNat)) → Q (some (6, ((102 + t.2.1 : Nat) : Int))) (enc (wz w (102 + t.2.1)) (tx t))))))))))) : Cl (d + 2) 152 [rA 1, (0, i), (0, k)] (enc w t) Q := by
  show Ev (d + 2) 152 Q 0 [rA 1, (0, i), (0, k)] [] (enc w t)
  refine e_ldi (show am_cd 152 0 = (2, 1, 1, 0, []) by decide +kernel) rfl ?_
  refine e_if2 (show am_cd 152 1 = (10, 4, 33, 2, []) by decide +kernel) (fun hc => ?_) (fun hc => ?_)
  · replace h := h.1 hc
    exact e_thr (show am_cd 152 33 = (38, 36, 0, 0, []) by decide +kernel) h
  · replace h := h.2 hc
    refine e_ldi (show am_cd 152 4 = (2, 5, 1, 0, []) by decide +kernel) rfl ?_
    refine e_lda (v := 1) (show am_cd 152 5 = (2, 6, 0, 2, []) by decide +kernel) rfl ?_
    refine e_getr (a := 1) (r := 48) (show am_cd 152 6 = (18, 9, 1106, 2, [54]) by decide +kernel) (by decide +kernel) (by decide +kernel) rfl ?_
    refine e_getf (a := 48) (tg := 0) (show am_cd 152 9 = (18, 12, 204, 0, [140]) by decide +kernel) (by decide +kernel) (by decide +kernel) rfl ?_
    refine e_cmp3 (show am_cd 152 12 = (11, 15, 33, 3, []) by decide +kernel) (fun hc => ?_) (fun hc => ?_)
    · replace h := h.1 hc
      exact e_thr (show am_cd 152 33 = (38, 36, 0, 0, []) by decide +kernel) h
    · replace h := h.2 hc
      refine e_ldi (show am_cd 152 15 = (2, 16, 2, 0, []) by decide +kernel) rfl ?_
      refine e_ic (show am_cd 152 16 = (0, 17, 0, -1, []) by decide +kernel) ?_
      refine e_cmp2 (show am_cd 152 17 = (11, 20, 33, 2, []) by decide +kernel) (fun hc => ?_) (fun hc => ?_)
      · replace h := h.1 hc
        exact e_thr (show am_cd 152 33 = (38, 36, 0, 0, []) by decide +kernel) h
      · replace h := h.2 hc
        refine e_ldi (show am_cd 152 20 = (2, 21, 2, 0, []) by decide +kernel) rfl ?_
        refine e_lda (v := 1) (show am_cd 152 21 = (2, 22, 0, 2, []) by decide +kernel) rfl ?_
        refine e_getr (a := 1) (r := 48) (show am_cd 152 22 = (18, 25, 1106, 2, [54]) by decide +kernel) (by decide +kernel) (by decide +kernel) rfl ?_
        refine e_getr (a := 48) (r := 49) (show am_cd 152 25 = (18, 28, 200, 2, [303]) by decide +kernel) (by decide +kernel) (by decide +kernel) rfl ?_
        refine e_ldi (show am_cd 152 28 = (2, 29, 1, 0, []) by decide +kernel) rfl ?_
        refine e_iald (a := 49) (n := 20) (show am_cd 152 29 = (21, 30, 0, 0, []) by decide +kernel) (by decide +kernel) (by decide +kernel) (by decide +kernel) h.1 ?_
        replace h := h.2
        refine e_cmp2 (show am_cd 152 30 = (11, 33, 41, 2, []) by decide +kernel) (fun hc => ?_) (fun hc => ?_)
        · replace h := h.1 hc
          refine e_ldi (show am_cd 152 41 = (2, 42, 2, 0, []) by decide +kernel) rfl ?_
          refine e_ic (show am_cd 152 42 = (0, 43, 0, -1, []) by decide +kernel) ?_
          refine e_cmp1 (show am_cd 152 43 = (11, 46, 58, 1, []) by decide +kernel) (fun hc => ?_) (fun hc => ?_)
          · replace h := h.1 hc
            refine e_lda (v := 1) (show am_cd 152 58 = (2, 59, 0, 2, []) by decide +kernel) rfl ?_
            refine e_getr (a := 1) (r := 48) (show am_cd 152 59 = (18, 62, 1106, 2, [54]) by decide +kernel) (by decide +kernel) (by decide +kernel) rfl ?_
            refine e_ldi (show am_cd 152 62 = (2, 63, 1, 0, []) by decide +kernel) rfl ?_
            refine e_ldi (show am_cd 152 63 = (2, 64, 2, 0, []) by decide +kernel) rfl ?_
            refine e_cV (z := 0) (a := 48) (as := [(0, i), (0, k)]) (rest := []) (show am_cd 152 64 = (40, 67, 18, 0, [309]) by decide +kernel) (by decide +kernel) rfl rfl (Nat.le_of_ble_eq_true rfl) rfl ?_
            show Ev _ 18 _ 0 [rA 48, (0, i), (0, k)] [] _
            refine e_lda (v := 48) (show am_cd 18 0 = (2, 1, 0, 2, []) by decide +kernel) rfl ?_
            refine e_getr (a := 48) (r := 51) (show am_cd 18 1 = (18, 4, 202, 2, [18]) by decide +kernel) (by decide +kernel) (by decide +kernel) rfl ?_
            refine e_ldi (show am_cd 18 4 = (2, 5, 1, 0, []) by decide +kernel) rfl ?_
            refine e_ic (show am_cd 18 5 = (0, 7, 1, 13, []) by decide +kernel) ?_
            refine e_imul (show am_cd 18 7 = (5, 8, 2, 0, []) by decide +kernel) ?_
            refine e_ldi (show am_cd 18 8 = (2, 9, 2, 0, []) by decide +kernel) rfl ?_
            refine e_iadd (show am_cd 18 9 = (5, 10, 0, 0, []) by decide +kernel) ?_
            refine e_iald (a := 51) (n := 260) (show am_cd 18 10 = (21, 11, 0, 0, []) by decide +kernel) (by decide +kernel) (by decide +kernel) (by decide +kernel) h.1 ?_
            replace h := h.2
            refine e_reti (show am_cd 18 11 = (36, 12, 0, 0, []) by decide +kernel) (by decide +kernel) ⟨fun _ h9 => (by cases h9), ?_⟩
            show Ev _ 152 _ 67 [rA 1, (0, i), (0, k)] [(0, w 51 (w32 ((i * 13) + k)).toNat)] _
            exact e_reti (show am_cd 152 67 = (36, 68, 0, 0, []) by decide +kernel) (by decide +kernel) h
          · replace h := h.2 hc
            refine e_lda (v := 1) (show am_cd 152 46 = (2, 47, 0, 2, []) by decide +kernel) rfl ?_
            refine e_getr (a := 1) (r := 48) (show am_cd 152 47 = (18, 50, 1106, 2, [54]) by decide +kernel) (by decide +kernel) (by decide +kernel) rfl ?_
            refine e_getr (a := 48) (r := 49) (show am_cd 152 50 = (18, 53, 200, 2, [303]) by decide +kernel) (by decide +kernel) (by decide +kernel) rfl ?_
            refine e_ldi (show am_cd 152 53 = (2, 54, 1, 0, []) by decide +kernel) rfl ?_
            refine e_iald (a := 49) (n := 20) (show am_cd 152 54 = (21, 55, 0, 0, []) by decide +kernel) (by decide +kernel) (by decide +kernel) (by decide +kernel) h.1 ?_
            replace h := h.2
            refine e_go (show am_cd 152 55 = (12, 67, 0, 0, []) by decide +kernel) ?_
            exact e_reti (show am_cd 152 67 = (36, 68, 0, 0, []) by decide +kernel) (by decide +kernel) h
        · replace h := h.2 hc
          exact e_thr (show am_cd 152 33 = (38, 36, 0, 0, []) by decide +kernel) h

theorem g_crow {d : Nat} {Q : Option aV → aS → Prop} {w : eW} {t : eT} {i : Int} (h : ((w32 i < 0 → Q (some (6, ((102 + t.2.1 : Nat) : Int))) (enc (wz w (102 + t.2.1)) (tx t))) ∧ (¬ (w32 i < 0) → ((w32 i < w32 (w 1 14) → (0 ≤ w32 i ∧ w32 i < 24) ∧ (Q (some (1, w 66 (w32 i).toNat)) (enc w t))) ∧ (¬ (w32 i < w32 (w 1 14)) → Q (some (6, ((102 + t.2.1 : Nat) : Int))) (enc (wz w (102 + t.2.1)) (tx t))))))) : Cl (d + 2) 160 [rA 1, (0, i)] (enc w t) Q := by
  show Ev (d + 2) 160 Q 0 [rA 1, (0, i)] [] (enc w t)
  refine e_ldi (show am_cd 160 0 = (2, 1, 1, 0, []) by decide +kernel) rfl ?_
  refine e_if2 (show am_cd 160 1 = (10, 4, 12, 2, []) by decide +kernel) (fun hc => ?_) (fun hc => ?_)
  · replace h := h.1 hc
    exact e_thr (show am_cd 160 12 = (38, 15, 0, 0, []) by decide +kernel) h
  · replace h := h.2 hc
    refine e_ldi (show am_cd 160 4 = (2, 5, 1, 0, []) by decide +kernel) rfl ?_
    refine e_lda (v := 1) (show am_cd 160 5 = (2, 6, 0, 2, []) by decide +kernel) rfl ?_
    refine e_getf (a := 1) (tg := 0) (show am_cd 160 6 = (18, 9, 1114, 0, [242]) by decide +kernel) (by decide +kernel) (by decide +kernel) rfl ?_
    refine e_cmp2 (show am_cd 160 9 = (11, 12, 20, 2, []) by decide +kernel) (fun hc => ?_) (fun hc => ?_)
    · replace h := h.1 hc
      refine e_lda (v := 1) (show am_cd 160 20 = (2, 21, 0, 2, []) by decide +kernel) rfl ?_
      refine e_getr (a := 1) (r := 66) (show am_cd 160 21 = (18, 24, 1113, 2, [101]) by decide +kernel) (by decide +kernel) (by decide +kernel) rfl ?_
      refine e_ldi (show am_cd 160 24 = (2, 25, 1, 0, []) by decide +kernel) rfl ?_
      refine e_lald (a := 66) (n := 24) (show am_cd 160 25 = (22, 26, 0, 0, []) by decide +kernel) (by decide +kernel) (by decide +kernel) (by decide +kernel) h.1 ?_
      replace h := h.2
      exact e_retl (show am_cd 160 26 = (36, 27, 1, 0, []) by decide +kernel) (by decide +kernel) h
    · replace h := h.2 hc
      exact e_thr (show am_cd 160 12 = (38, 15, 0, 0, []) by decide +kernel) h

theorem g_cword {d : Nat} {Q : Option aV → aS → Prop} {w : eW} {t : eT} {i k : Int} (h : ((w32 i < 0 → Q (some (6, ((102 + t.2.1 : Nat) : Int))) (enc (wz w (102 + t.2.1)) (tx t))) ∧ (¬ (w32 i < 0) → ((w32 (w 48 4) ≤ w32 i → Q (some (6, ((102 + t.2.1 : Nat) : Int))) (enc (wz w (102 + t.2.1)) (tx t))) ∧ (¬ (w32 (w 48 4) ≤ w32 i) → (0 ≤ w32 i ∧ w32 i < 20) ∧ ((w32 (w 50 (w32 i).toNat) = 0 → Q (some (6, ((102 + t.2.1 : Nat) : Int))) (enc (wz w (102 + t.2.1)) (tx t))) ∧ (¬ (w32 (w 50 (w32 i).toNat) = 0) → ((w32 k < w32 (-1) → Q (some (6, ((102 + t.2.1 : Nat) : Int))) (enc (wz w (102 + t.2.1)) (tx t))) ∧ (¬ (w32 k < w32 (-1)) → (0 ≤ w32 i ∧ w32 i < 20) ∧ ((w32 k < w32 (w 50 (w32 i).toNat) → ((¬ w32 k = w32 (-1) → (0 ≤ w32 ((i * 6) + k) ∧ w32 ((i * 6) + k) < 120) ∧ (Q (some (0, w 52 (w32 ((i * 6) + k)).toNat)) (enc w t))) ∧ (¬ (¬ w32 k = w32 (-1)) → (0 ≤ w32 i ∧ w32 i < 20) ∧ (Q (some (0, w 50 (w32 i).toNat)) (enc w t))))) ∧ (¬ (w32 k < w32 (w 50 (w32 i).toNat)) → Q (some (6, ((102 + t.2.1 : Nat) : Int))) (enc (wz w (102 + t.2.1)) (tx t))))))))))))) : Cl (d + 2) 154 [rA 1, (0, i), (0, k)] (enc w t) Q := by
  show Ev (d + 2) 154 Q 0 [rA 1, (0, i), (0, k)] [] (enc w t)
  refine e_ldi (show am_cd 154 0 = (2, 1, 1, 0, []) by decide +kernel) rfl ?_
  refine e_if2 (show am_cd 154 1 = (10, 4, 45, 2, []) by decide +kernel) (fun hc => ?_) (fun hc => ?_)
  · replace h := h.1 hc
    exact e_thr (show am_cd 154 45 = (38, 48, 0, 0, []) by decide +kernel) h
  · replace h := h.2 hc
    refine e_ldi (show am_cd 154 4 = (2, 5, 1, 0, []) by decide +kernel) rfl ?_
    refine e_lda (v := 1) (show am_cd 154 5 = (2, 6, 0, 2, []) by decide +kernel) rfl ?_
    refine e_getr (a := 1) (r := 48) (show am_cd 154 6 = (18, 9, 1106, 2, [54]) by decide +kernel) (by decide +kernel) (by decide +kernel) rfl ?_
    refine e_getf (a := 48) (tg := 0) (show am_cd 154 9 = (18, 12, 204, 0, [140]) by decide +kernel) (by decide +kernel) (by decide +kernel) rfl ?_
    refine e_cmp3 (show am_cd 154 12 = (11, 15, 45, 3, []) by decide +kernel) (fun hc => ?_) (fun hc => ?_)
    · replace h := h.1 hc
      exact e_thr (show am_cd 154 45 = (38, 48, 0, 0, []) by decide +kernel) h
    · replace h := h.2 hc
      refine e_lda (v := 1) (show am_cd 154 15 = (2, 16, 0, 2, []) by decide +kernel) rfl ?_
      refine e_getr (a := 1) (r := 48) (show am_cd 154 16 = (18, 19, 1106, 2, [54]) by decide +kernel) (by decide +kernel) (by decide +kernel) rfl ?_
      refine e_getr (a := 48) (r := 50) (show am_cd 154 19 = (18, 22, 201, 2, [321]) by decide +kernel) (by decide +kernel) (by decide +kernel) rfl ?_
      refine e_ldi (show am_cd 154 22 = (2, 23, 1, 0, []) by decide +kernel) rfl ?_
      refine e_iald (a := 50) (n := 20) (show am_cd 154 23 = (21, 24, 0, 0, []) by decide +kernel) (by decide +kernel) (by decide +kernel) (by decide +kernel) h.1 ?_
      replace h := h.2
      refine e_if0 (show am_cd 154 24 = (10, 27, 45, 0, []) by decide +kernel) (fun hc => ?_) (fun hc => ?_)
      · replace h := h.1 hc
        exact e_thr (show am_cd 154 45 = (38, 48, 0, 0, []) by decide +kernel) h
      · replace h := h.2 hc
        refine e_ldi (show am_cd 154 27 = (2, 28, 2, 0, []) by decide +kernel) rfl ?_
        refine e_ic (show am_cd 154 28 = (0, 29, 0, -1, []) by decide +kernel) ?_
        refine e_cmp2 (show am_cd 154 29 = (11, 32, 45, 2, []) by decide +kernel) (fun hc => ?_) (fun hc => ?_)
        · replace h := h.1 hc
          exact e_thr (show am_cd 154 45 = (38, 48, 0, 0, []) by decide +kernel) h
        · replace h := h.2 hc
          refine e_ldi (show am_cd 154 32 = (2, 33, 2, 0, []) by decide +kernel) rfl ?_
          refine e_lda (v := 1) (show am_cd 154 33 = (2, 34, 0, 2, []) by decide +kernel) rfl ?_
          refine e_getr (a := 1) (r := 48) (show am_cd 154 34 = (18, 37, 1106, 2, [54]) by decide +kernel) (by decide +kernel) (by decide +kernel) rfl ?_
          refine e_getr (a := 48) (r := 50) (show am_cd 154 37 = (18, 40, 201, 2, [321]) by decide +kernel) (by decide +kernel) (by decide +kernel) rfl ?_
          refine e_ldi (show am_cd 154 40 = (2, 41, 1, 0, []) by decide +kernel) rfl ?_
          refine e_iald (a := 50) (n := 20) (show am_cd 154 41 = (21, 42, 0, 0, []) by decide +kernel) (by decide +kernel) (by decide +kernel) (by decide +kernel) h.1 ?_
          replace h := h.2
          refine e_cmp2 (show am_cd 154 42 = (11, 45, 53, 2, []) by decide +kernel) (fun hc => ?_) (fun hc => ?_)
          · replace h := h.1 hc
            refine e_ldi (show am_cd 154 53 = (2, 54, 2, 0, []) by decide +kernel) rfl ?_
            refine e_ic (show am_cd 154 54 = (0, 55, 0, -1, []) by decide +kernel) ?_
            refine e_cmp1 (show am_cd 154 55 = (11, 58, 70, 1, []) by decide +kernel) (fun hc => ?_) (fun hc => ?_)
            · replace h := h.1 hc
              refine e_lda (v := 1) (show am_cd 154 70 = (2, 71, 0, 2, []) by decide +kernel) rfl ?_
              refine e_getr (a := 1) (r := 48) (show am_cd 154 71 = (18, 74, 1106, 2, [54]) by decide +kernel) (by decide +kernel) (by decide +kernel) rfl ?_
              refine e_ldi (show am_cd 154 74 = (2, 75, 1, 0, []) by decide +kernel) rfl ?_
              refine e_ldi (show am_cd 154 75 = (2, 76, 2, 0, []) by decide +kernel) rfl ?_
              refine e_cV (z := 0) (a := 48) (as := [(0, i), (0, k)]) (rest := []) (show am_cd 154 76 = (40, 79, 19, 0, [324]) by decide +kernel) (by decide +kernel) rfl rfl (Nat.le_of_ble_eq_true rfl) rfl ?_
              show Ev _ 19 _ 0 [rA 48, (0, i), (0, k)] [] _
              refine e_lda (v := 48) (show am_cd 19 0 = (2, 1, 0, 2, []) by decide +kernel) rfl ?_
              refine e_getr (a := 48) (r := 52) (show am_cd 19 1 = (18, 4, 203, 2, [21]) by decide +kernel) (by decide +kernel) (by decide +kernel) rfl ?_
              refine e_ldi (show am_cd 19 4 = (2, 5, 1, 0, []) by decide +kernel) rfl ?_
              refine e_ic (show am_cd 19 5 = (0, 7, 1, 6, []) by decide +kernel) ?_
              refine e_imul (show am_cd 19 7 = (5, 8, 2, 0, []) by decide +kernel) ?_
              refine e_ldi (show am_cd 19 8 = (2, 9, 2, 0, []) by decide +kernel) rfl ?_
              refine e_iadd (show am_cd 19 9 = (5, 10, 0, 0, []) by decide +kernel) ?_
              refine e_iald (a := 52) (n := 120) (show am_cd 19 10 = (21, 11, 0, 0, []) by decide +kernel) (by decide +kernel) (by decide +kernel) (by decide +kernel) h.1 ?_
              replace h := h.2
              refine e_reti (show am_cd 19 11 = (36, 12, 0, 0, []) by decide +kernel) (by decide +kernel) ⟨fun _ h9 => (by cases h9), ?_⟩
              show Ev _ 154 _ 79 [rA 1, (0, i), (0, k)] [(0, w 52 (w32 ((i * 6) + k)).toNat)] _
              exact e_reti (show am_cd 154 79 = (36, 80, 0, 0, []) by decide +kernel) (by decide +kernel) h
            · replace h := h.2 hc
              refine e_lda (v := 1) (show am_cd 154 58 = (2, 59, 0, 2, []) by decide +kernel) rfl ?_
              refine e_getr (a := 1) (r := 48) (show am_cd 154 59 = (18, 62, 1106, 2, [54]) by decide +kernel) (by decide +kernel) (by decide +kernel) rfl ?_
              refine e_getr (a := 48) (r := 50) (show am_cd 154 62 = (18, 65, 201, 2, [321]) by decide +kernel) (by decide +kernel) (by decide +kernel) rfl ?_
              refine e_ldi (show am_cd 154 65 = (2, 66, 1, 0, []) by decide +kernel) rfl ?_
              refine e_iald (a := 50) (n := 20) (show am_cd 154 66 = (21, 67, 0, 0, []) by decide +kernel) (by decide +kernel) (by decide +kernel) (by decide +kernel) h.1 ?_
              replace h := h.2
              refine e_go (show am_cd 154 67 = (12, 79, 0, 0, []) by decide +kernel) ?_
              exact e_reti (show am_cd 154 79 = (36, 80, 0, 0, []) by decide +kernel) (by decide +kernel) h
          · replace h := h.2 hc
            exact e_thr (show am_cd 154 45 = (38, 48, 0, 0, []) by decide +kernel) h

theorem k_row {d : Nat} {w : eW} {t : eT} {b : Nat × Nat} {m : eW} {ks : kT} {rl tl : List Int} {i : Int} (h : CI w t b m ks rl tl) (hi : okI i) : Cl (d + 2) 160 [rA 1, (0, i)] (enc w t) (AnT w m b ks rl tl 1 (rowO rl i)) := by
  have hi2 : -2147483648 ≤ i ∧ i ≤ 2147483647 := hi
  obtain ⟨e1, e2, e3⟩ := h.2.2.2.2.1
  refine g_crow ?_
  rw [e1]
  simp (disch := omega) only [w32_id]
  unfold rowO
  refine ⟨fun h0 => AnT.no h (by rw [if_neg (by omega)]), fun h0 => ⟨fun h1 => ⟨by omega, AnT.yes h ?_⟩, fun h1 => AnT.no h (by rw [if_neg (by omega)])⟩⟩
  rw [if_pos (by omega), e3 _ (by omega)]
theorem k_kept {d : Nat} {w : eW} {t : eT} {b : Nat × Nat} {m : eW} {ks : kT} {rl tl : List Int} {i k : Int} (h : CI w t b m ks rl tl) (hi : okI i) (hk : okI k) : Cl (d + 2) 152 [rA 1, (0, i), (0, k)] (enc w t) (AnT w m b ks rl tl 0 (keptO ks i k)) := by
  have hi2 : -2147483648 ≤ i ∧ i ≤ 2147483647 := hi
  have hk2 : -2147483648 ≤ k ∧ k ≤ 2147483647 := hk
  obtain ⟨e1, e2, e3⟩ := h.2.2.2.1
  refine g_ckept ?_
  rw [e1]
  simp (disch := omega) only [w32_id]
  unfold keptO
  refine ⟨fun h0 => AnT.no h (by rw [if_neg (by omega)]), fun h0 => ⟨fun h1 => AnT.no h (by rw [if_neg (by omega)]), fun h1 => ?_⟩⟩
  obtain ⟨l1, l2, l3, l4, l5, l6⟩ := e3 i.toNat (by omega)
  rw [if_pos (by omega), l3]
  have hlt : (i * 13 + k).toNat = 13 * i.toNat + k.toNat ∨ k < 0 := by omega
  simp (disch := omega) only [w32_id]
  refine ⟨fun h2 => AnT.no h (by rw [if_neg (by omega), if_neg (by omega)]), fun h2 => ⟨by omega, fun h3 => ⟨fun h4 => ?_, fun h4 => ⟨by omega, AnT.yes h (by rw [if_pos (Classical.not_not.mp h4)])⟩⟩, fun h3 => AnT.no h (by rw [if_neg (by omega), if_neg (by omega)])⟩⟩
  rw [w32_id (x := i * 13 + k) (by omega)]
  refine ⟨by omega, AnT.yes h ?_⟩
  rw [if_neg h4, if_pos (by omega), show (i * 13 + k).toNat = 13 * i.toNat + k.toNat by omega, l4 _ (by omega)]
theorem k_word {d : Nat} {w : eW} {t : eT} {b : Nat × Nat} {m : eW} {ks : kT} {rl tl : List Int} {i k : Int} (h : CI w t b m ks rl tl) (hi : okI i) (hk : okI k) : Cl (d + 2) 154 [rA 1, (0, i), (0, k)] (enc w t) (AnT w m b ks rl tl 0 (wordO ks i k)) := by
  have hi2 : -2147483648 ≤ i ∧ i ≤ 2147483647 := hi
  have hk2 : -2147483648 ≤ k ∧ k ≤ 2147483647 := hk
  obtain ⟨e1, e2, e3⟩ := h.2.2.2.1
  refine g_cword ?_
  rw [e1]
  simp (disch := omega) only [w32_id]
  unfold wordO
  refine ⟨fun h0 => AnT.no h (by rw [if_neg (fun h9 => by omega)]), fun h0 => ⟨fun h1 => AnT.no h (by rw [if_neg (fun h9 => by omega)]), fun h1 => ?_⟩⟩
  obtain ⟨l1, l2, l3, l4, l5, l6⟩ := e3 i.toNat (by omega)
  rw [l5]
  simp (disch := omega) only [w32_id]
  have hnil : ((kAt ks i.toNat).2.length : Int) = 0 ↔ (kAt ks i.toNat).2 = [] := by
    constructor
    · intro h9; exact List.length_eq_zero_iff.mp (by omega)
    · intro h9; rw [h9]; rfl
  refine ⟨by omega, fun h2 => AnT.no h (by rw [if_neg (fun h9 => h9.2 (hnil.mp h2))]), fun h2 => ?_⟩
  have hcond : (0 ≤ i ∧ i < (ks.length : Int)) ∧ (kAt ks i.toNat).2 ≠ [] := ⟨by omega, fun h9 => h2 (hnil.mpr h9)⟩
  rw [if_pos hcond]
  refine ⟨fun h3 => AnT.no h (by rw [if_neg (by omega), if_neg (by omega)]), fun h3 => ⟨by omega, fun h4 => ⟨fun h5 => ?_, fun h5 => ⟨by omega, AnT.yes h (by rw [if_pos (Classical.not_not.mp h5)])⟩⟩, fun h4 => AnT.no h (by rw [if_neg (by omega), if_neg (by omega)])⟩⟩
  rw [w32_id (x := i * 6 + k) (by omega)]
  refine ⟨by omega, AnT.yes h ?_⟩
  rw [if_neg h5, if_pos (by omega), show (i * 6 + k).toNat = 6 * i.toNat + k.toNat by omega, l6 _ (by omega)]

