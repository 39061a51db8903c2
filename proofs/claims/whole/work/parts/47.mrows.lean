/-! How many good rows of so many pairs. -/
def cR (m : eW) (wo : Int) : Nat → Nat → Nat → Nat → Nat
  | 0, a, b, c => if isE m wo a b c then 1 else 0
  | n + 1, a, b, c => sm (fun d => if goes m wo a b c d then cR m wo n b c d else 0) (nP m)
def cRs (m : eW) (wo : Int) (n s : Nat) : Nat := cR m wo n (s / 289) (s / 17 % 17) (s % 17)
def ws (X g : Nat → Nat) (n : Nat) : Nat := sm (fun s => X s * g s) n
def updN (X : Nat → Nat) (t v : Nat) : Nat → Nat := fun s => if s = t then X s + v else X s
theorem ws_upd (X g : Nat → Nat) (t v : Nat) : ∀ n, t < n → ws (updN X t v) g n = ws X g n + v * g t := by
  intro n
  induction n with
  | zero => intro h; omega
  | succ n ih =>
    intro h
    show ws (updN X t v) g n + updN X t v n * g n = ws X g n + X n * g n + v * g t
    by_cases ht : t = n
    · subst ht
      have e1 : ws (updN X t v) g t = ws X g t := sm_congr (fun i hi => by
        have : updN X t v i = X i := if_neg (by omega)
        rw [this])
      have e2 : updN X t v t = X t + v := if_pos rfl
      rw [e1, e2, Nat.add_mul]
      omega
    · have e2 : updN X t v n = X n := if_neg (by omega)
      rw [ih (by omega), e2]
      omega
def OkS (m : eW) (s : Nat) : Prop := s % 17 < nP m ∨ s % 17 = 16
def RI (w : eW) (r : Nat) (X : Nat → Nat) : Prop := ∀ s, s < 4913 → w r s = (X s : Int)
theorem cRs_at (m : eW) (wo : Int) (n b c d : Nat) (hb : b ≤ 16) (hc : c ≤ 16) (hd : d ≤ 16) : cRs m wo n ((b * 17 + c) * 17 + d) = cR m wo n b c d := by
  unfold cRs
  congr 1 <;> omega
theorem cRs_step (m : eW) (wo : Int) (n s : Nat) (hp : nP m ≤ 16) : cRs m wo (n + 1) s = sm (fun d => if goes m wo (s / 289) (s / 17 % 17) (s % 17) d then cRs m wo n (((s / 17 % 17) * 17 + s % 17) * 17 + d) else 0) (nP m) := by
  show sm _ _ = _
  refine sm_congr (fun d hd => ?_)
  rw [cRs_at _ _ _ _ _ _ (by omega) (by omega) (by omega)]

theorem g_cR0 {d : Nat} {Q : Option aV → aS → Prop} {w : eW} {t : eT} {n : Int} (h : Ev (d + 5) 214 Q 2 [rA 67, (0, n), (0, 0), (9, 0), (9, 0), (9, 0), (9, 0), (9, 0)] [] (enc w t)) : Cl (d + 5) 214 [rA 67, (0, n)] (enc w t) Q := by
  show Ev (d + 5) 214 Q 0 [rA 67, (0, n), (9, 0), (9, 0), (9, 0), (9, 0), (9, 0), (9, 0)] [] (enc w t)
  refine e_ic (show am_cd 214 0 = (0, 1, 0, 0, []) by decide +kernel) ?_
  refine e_sti (la2 := [rA 67, (0, n), (0, 0), (9, 0), (9, 0), (9, 0), (9, 0), (9, 0)]) (show am_cd 214 1 = (3, 2, 2, 0, []) by decide +kernel) rfl ?_
  exact h

theorem g_cR2 {d : Nat} {Q : Option aV → aS → Prop} {w : eW} {t : eT} {n s : Int} (h : ((w32 4913 ≤ w32 s → Ev (d + 5) 214 Q 39 [rA 67, (0, n), (0, 0), (9, 0), (9, 0), (9, 0), (9, 0), (9, 0)] [] (enc (wu w 96 4912 1) t)) ∧ (¬ (w32 4913 ≤ w32 s) → (0 ≤ w32 s ∧ w32 s < 4913) ∧ (Ev (d + 5) 214 Q 2 [rA 67, (0, n), (0, s + 1), (9, 0), (9, 0), (9, 0), (9, 0), (9, 0)] [] (enc (wu w 96 (w32 s).toNat 0) t))))) : Ev (d + 5) 214 Q 2 [rA 67, (0, n), (0, s), (9, 0), (9, 0), (9, 0), (9, 0), (9, 0)] [] (enc w t) := by
  refine e_ldi (show am_cd 214 2 = (2, 3, 2, 0, []) by decide +kernel) rfl ?_
  refine e_ic (show am_cd 214 3 = (0, 6, 2, 4913, []) by decide +kernel) ?_
  refine e_cmp3 (show am_cd 214 6 = (11, 9, 22, 3, []) by decide +kernel) (fun hc => ?_) (fun hc => ?_)
  · replace h := h.1 hc
    refine e_lda (v := 67) (show am_cd 214 22 = (2, 23, 0, 2, []) by decide +kernel) rfl ?_
    refine e_getr (a := 67) (r := 96) (show am_cd 214 23 = (18, 26, 1243, 2, [101]) by decide +kernel) (by decide +kernel) (by decide +kernel) rfl ?_
    refine e_ic (show am_cd 214 26 = (0, 28, 1, 16, []) by decide +kernel) ?_
    refine e_ic (show am_cd 214 28 = (0, 30, 1, 16, []) by decide +kernel) ?_
    refine e_ic (show am_cd 214 30 = (0, 32, 1, 16, []) by decide +kernel) ?_
    refine e_cS (z := 0) (as := [(0, 16), (0, 16), (0, 16)]) (rest := [rA 96]) (show am_cd 214 32 = (40, 35, 209, 1, [278]) by decide +kernel) (by decide) rfl rfl (Nat.le_of_ble_eq_true rfl) rfl ?_
    show Ev _ 209 _ 0 [(0, 16), (0, 16), (0, 16)] [] _
    refine e_ldi (show am_cd 209 0 = (2, 1, 0, 0, []) by decide +kernel) rfl ?_
    refine e_ic (show am_cd 209 1 = (0, 3, 1, 17, []) by decide +kernel) ?_
    refine e_iok (r := 272) (show am_cd 209 3 = (5, 4, 2, 0, []) by decide +kernel) (by decide +kernel) (by decide +kernel) ?_
    refine e_ldi (show am_cd 209 4 = (2, 5, 1, 0, []) by decide +kernel) rfl ?_
    refine e_iok (r := 288) (show am_cd 209 5 = (5, 6, 0, 0, []) by decide +kernel) (by decide +kernel) (by decide +kernel) ?_
    refine e_ic (show am_cd 209 6 = (0, 8, 1, 17, []) by decide +kernel) ?_
    refine e_iok (r := 4896) (show am_cd 209 8 = (5, 9, 2, 0, []) by decide +kernel) (by decide +kernel) (by decide +kernel) ?_
    refine e_ldi (show am_cd 209 9 = (2, 10, 2, 0, []) by decide +kernel) rfl ?_
    refine e_iok (r := 4912) (show am_cd 209 10 = (5, 11, 0, 0, []) by decide +kernel) (by decide +kernel) (by decide +kernel) ?_
    refine e_reti (show am_cd 209 11 = (36, 12, 0, 0, []) by decide +kernel) (by decide +kernel) ⟨fun _ h9 => (by cases h9), ?_⟩
    show Ev _ 214 _ 35 [rA 67, (0, n), (0, s), (9, 0), (9, 0), (9, 0), (9, 0), (9, 0)] [(0, 4912), rA 96] _
    refine e_lc (show am_cd 214 35 = (1, 36, 0, 1, []) by decide +kernel) ?_
    refine e_lastK (a := 96) (n := 4913) (j := 4912) (show am_cd 214 36 = (25, 37, 0, 0, []) by decide +kernel) (by decide +kernel) (by decide +kernel) (by decide +kernel) (by decide +kernel) (by decide +kernel) ?_
    refine e_ic (show am_cd 214 37 = (0, 38, 0, 0, []) by decide +kernel) ?_
    refine e_sti (la2 := [rA 67, (0, n), (0, 0), (9, 0), (9, 0), (9, 0), (9, 0), (9, 0)]) (show am_cd 214 38 = (3, 39, 2, 0, []) by decide +kernel) rfl ?_
    exact h
  · replace h := h.2 hc
    refine e_lda (v := 67) (show am_cd 214 9 = (2, 10, 0, 2, []) by decide +kernel) rfl ?_
    refine e_getr (a := 67) (r := 96) (show am_cd 214 10 = (18, 13, 1243, 2, [101]) by decide +kernel) (by decide +kernel) (by decide +kernel) rfl ?_
    refine e_ldi (show am_cd 214 13 = (2, 14, 2, 0, []) by decide +kernel) rfl ?_
    refine e_lc (show am_cd 214 14 = (1, 15, 0, 0, []) by decide +kernel) ?_
    refine e_last (a := 96) (n := 4913) (show am_cd 214 15 = (25, 16, 0, 0, []) by decide +kernel) (by decide +kernel) (by decide +kernel) (by decide +kernel) h.1 ?_
    replace h := h.2
    refine e_inc (la2 := [rA 67, (0, n), (0, s + 1), (9, 0), (9, 0), (9, 0), (9, 0), (9, 0)]) (show am_cd 214 16 = (4, 19, 2, 1, []) by decide +kernel) rfl rfl ?_
    refine e_go (show am_cd 214 19 = (12, 2, 0, 0, []) by decide +kernel) ?_
    exact h

theorem g_cR39 {d : Nat} {Q : Option aV → aS → Prop} {w : eW} {t : eT} {n k : Int} {m : eW} {wo : Int} {J2 J3 J4 J5 J6 J7 : aV} (hw : w32 wo = wo) (h : ((w32 n ≤ w32 k → Ev (d + 5) 214 Q 211 [rA 67, (0, n), (1, 0), (9, 0), (0, 0), J5, J6, J7] [] (enc w t)) ∧ (¬ (w32 n ≤ w32 k) → Ev (d + 5) 214 Q 46 [rA 67, (0, n), (0, k), (0, 0), J4, J5, J6, J7] [] (enc w t)))) : Ev (d + 5) 214 Q 39 [rA 67, (0, n), (0, k), J3, J4, J5, J6, J7] [] (enc w t) := by
  refine e_ldi (show am_cd 214 39 = (2, 40, 2, 0, []) by decide +kernel) rfl ?_
  refine e_ldi (show am_cd 214 40 = (2, 41, 1, 0, []) by decide +kernel) rfl ?_
  refine e_cmp3 (show am_cd 214 41 = (11, 44, 206, 3, []) by decide +kernel) (fun hc => ?_) (fun hc => ?_)
  · replace h := h.1 hc
    refine e_lc (show am_cd 214 206 = (1, 207, 0, 0, []) by decide +kernel) ?_
    refine e_stl (la2 := [rA 67, (0, n), (1, 0), (9, 0), J4, J5, J6, J7]) (show am_cd 214 207 = (3, 208, 2, 1, []) by decide +kernel) rfl ?_
    refine e_ic (show am_cd 214 208 = (0, 209, 0, 0, []) by decide +kernel) ?_
    refine e_sti (la2 := [rA 67, (0, n), (1, 0), (9, 0), (0, 0), J5, J6, J7]) (show am_cd 214 209 = (3, 211, 4, 0, []) by decide +kernel) rfl ?_
    exact h
  · replace h := h.2 hc
    refine e_ic (show am_cd 214 44 = (0, 45, 0, 0, []) by decide +kernel) ?_
    refine e_sti (la2 := [rA 67, (0, n), (0, k), (0, 0), J4, J5, J6, J7]) (show am_cd 214 45 = (3, 46, 3, 0, []) by decide +kernel) rfl ?_
    exact h

theorem g_cR46 {d : Nat} {Q : Option aV → aS → Prop} {w : eW} {t : eT} {n k s : Int} {m : eW} {wo : Int} {J2 J3 J4 J5 J6 J7 : aV} (hw : w32 wo = wo) (h : ((w32 4913 ≤ w32 s → Ev (d + 5) 214 Q 68 [rA 67, (0, n), (0, k), (0, 0), J4, J5, J6, J7] [] (enc w t)) ∧ (¬ (w32 4913 ≤ w32 s) → (0 ≤ w32 s ∧ w32 s < 4913) ∧ (Ev (d + 5) 214 Q 46 [rA 67, (0, n), (0, k), (0, s + 1), J4, J5, J6, J7] [] (enc (wu w 97 (w32 s).toNat 0) t))))) : Ev (d + 5) 214 Q 46 [rA 67, (0, n), (0, k), (0, s), J4, J5, J6, J7] [] (enc w t) := by
  refine e_ldi (show am_cd 214 46 = (2, 47, 3, 0, []) by decide +kernel) rfl ?_
  refine e_ic (show am_cd 214 47 = (0, 50, 2, 4913, []) by decide +kernel) ?_
  refine e_cmp3 (show am_cd 214 50 = (11, 53, 66, 3, []) by decide +kernel) (fun hc => ?_) (fun hc => ?_)
  · replace h := h.1 hc
    refine e_ic (show am_cd 214 66 = (0, 67, 0, 0, []) by decide +kernel) ?_
    refine e_sti (la2 := [rA 67, (0, n), (0, k), (0, 0), J4, J5, J6, J7]) (show am_cd 214 67 = (3, 68, 3, 0, []) by decide +kernel) rfl ?_
    exact h
  · replace h := h.2 hc
    refine e_lda (v := 67) (show am_cd 214 53 = (2, 54, 0, 2, []) by decide +kernel) rfl ?_
    refine e_getr (a := 67) (r := 97) (show am_cd 214 54 = (18, 57, 1244, 2, [104]) by decide +kernel) (by decide +kernel) (by decide +kernel) rfl ?_
    refine e_ldi (show am_cd 214 57 = (2, 58, 3, 0, []) by decide +kernel) rfl ?_
    refine e_lc (show am_cd 214 58 = (1, 59, 0, 0, []) by decide +kernel) ?_
    refine e_last (a := 97) (n := 4913) (show am_cd 214 59 = (25, 60, 0, 0, []) by decide +kernel) (by decide +kernel) (by decide +kernel) (by decide +kernel) h.1 ?_
    replace h := h.2
    refine e_inc (la2 := [rA 67, (0, n), (0, k), (0, s + 1), J4, J5, J6, J7]) (show am_cd 214 60 = (4, 63, 3, 1, []) by decide +kernel) rfl rfl ?_
    refine e_go (show am_cd 214 63 = (12, 46, 0, 0, []) by decide +kernel) ?_
    exact h

theorem g_cR68 {d : Nat} {Q : Option aV → aS → Prop} {w : eW} {t : eT} {n k s : Int} {m : eW} {wo : Int} {J2 J3 J4 J5 J6 J7 : aV} (hw : w32 wo = wo) (h : ((w32 4913 ≤ w32 s → Ev (d + 5) 214 Q 175 [rA 67, (0, n), (0, k), (0, 0), J4, J5, J6, J7] [] (enc w t)) ∧ (¬ (w32 4913 ≤ w32 s) → (0 ≤ w32 s ∧ w32 s < 4913) ∧ ((¬ w64 (w 96 (w32 s).toNat) = w64 0 → Ev (d + 5) 214 Q 114 [rA 67, (0, n), (0, k), (0, s), (0, idiv s 289), (0, irem (idiv s 17) 17), (0, irem s 17), (0, 0)] [] (enc w t)) ∧ (¬ (¬ w64 (w 96 (w32 s).toNat) = w64 0) → Ev (d + 5) 214 Q 68 [rA 67, (0, n), (0, k), (0, s + 1), J4, J5, J6, J7] [] (enc w t)))))) : Ev (d + 5) 214 Q 68 [rA 67, (0, n), (0, k), (0, s), J4, J5, J6, J7] [] (enc w t) := by
  refine e_ldi (show am_cd 214 68 = (2, 69, 3, 0, []) by decide +kernel) rfl ?_
  refine e_ic (show am_cd 214 69 = (0, 72, 2, 4913, []) by decide +kernel) ?_
  refine e_cmp3 (show am_cd 214 72 = (11, 75, 173, 3, []) by decide +kernel) (fun hc => ?_) (fun hc => ?_)
  · replace h := h.1 hc
    refine e_ic (show am_cd 214 173 = (0, 174, 0, 0, []) by decide +kernel) ?_
    refine e_sti (la2 := [rA 67, (0, n), (0, k), (0, 0), J4, J5, J6, J7]) (show am_cd 214 174 = (3, 175, 3, 0, []) by decide +kernel) rfl ?_
    exact h
  · replace h := h.2 hc
    refine e_lda (v := 67) (show am_cd 214 75 = (2, 76, 0, 2, []) by decide +kernel) rfl ?_
    refine e_getr (a := 67) (r := 96) (show am_cd 214 76 = (18, 79, 1243, 2, [101]) by decide +kernel) (by decide +kernel) (by decide +kernel) rfl ?_
    refine e_ldi (show am_cd 214 79 = (2, 80, 3, 0, []) by decide +kernel) rfl ?_
    refine e_lald (a := 96) (n := 4913) (show am_cd 214 80 = (22, 81, 0, 0, []) by decide +kernel) (by decide +kernel) (by decide +kernel) (by decide +kernel) h.1 ?_
    replace h := h.2
    refine e_lc (show am_cd 214 81 = (1, 82, 0, 0, []) by decide +kernel) ?_
    refine e_lcb1 (show am_cd 214 82 = (9, 83, 0, 0, []) by decide +kernel) (show am_cd 214 83 = (10, 86, 89, 1, []) by decide +kernel) (fun hc => ?_) (fun hc => ?_)
    · replace h := h.1 hc
      refine e_ldi (show am_cd 214 89 = (2, 90, 3, 0, []) by decide +kernel) rfl ?_
      refine e_ic (show am_cd 214 90 = (0, 93, 2, 289, []) by decide +kernel) ?_
      refine e_idiv (show am_cd 214 93 = (5, 94, 9, 0, []) by decide +kernel) (by decide) ?_
      refine e_sti (la2 := [rA 67, (0, n), (0, k), (0, s), (0, idiv s 289), J5, J6, J7]) (show am_cd 214 94 = (3, 96, 4, 0, []) by decide +kernel) rfl ?_
      refine e_ldi (show am_cd 214 96 = (2, 97, 3, 0, []) by decide +kernel) rfl ?_
      refine e_ic (show am_cd 214 97 = (0, 99, 1, 17, []) by decide +kernel) ?_
      refine e_idiv (show am_cd 214 99 = (5, 100, 9, 0, []) by decide +kernel) (by decide) ?_
      refine e_ic (show am_cd 214 100 = (0, 102, 1, 17, []) by decide +kernel) ?_
      refine e_irem (show am_cd 214 102 = (5, 103, 10, 0, []) by decide +kernel) (by decide) ?_
      refine e_sti (la2 := [rA 67, (0, n), (0, k), (0, s), (0, idiv s 289), (0, irem (idiv s 17) 17), J6, J7]) (show am_cd 214 103 = (3, 105, 5, 0, []) by decide +kernel) rfl ?_
      refine e_ldi (show am_cd 214 105 = (2, 106, 3, 0, []) by decide +kernel) rfl ?_
      refine e_ic (show am_cd 214 106 = (0, 108, 1, 17, []) by decide +kernel) ?_
      refine e_irem (show am_cd 214 108 = (5, 109, 10, 0, []) by decide +kernel) (by decide) ?_
      refine e_sti (la2 := [rA 67, (0, n), (0, k), (0, s), (0, idiv s 289), (0, irem (idiv s 17) 17), (0, irem s 17), J7]) (show am_cd 214 109 = (3, 111, 6, 0, []) by decide +kernel) rfl ?_
      refine e_ic (show am_cd 214 111 = (0, 112, 0, 0, []) by decide +kernel) ?_
      refine e_sti (la2 := [rA 67, (0, n), (0, k), (0, s), (0, idiv s 289), (0, irem (idiv s 17) 17), (0, irem s 17), (0, 0)]) (show am_cd 214 112 = (3, 114, 7, 0, []) by decide +kernel) rfl ?_
      exact h
    · replace h := h.2 hc
      refine e_go (show am_cd 214 86 = (12, 167, 0, 0, []) by decide +kernel) ?_
      refine e_inc (la2 := [rA 67, (0, n), (0, k), (0, s + 1), J4, J5, J6, J7]) (show am_cd 214 167 = (4, 170, 3, 1, []) by decide +kernel) rfl rfl ?_
      refine e_go (show am_cd 214 170 = (12, 68, 0, 0, []) by decide +kernel) ?_
      exact h

theorem g_cR114 {d : Nat} {Q : Option aV → aS → Prop} {w : eW} {t : eT} {n k s a b c p : Int} {m : eW} {wo : Int} {J2 J3 J4 J5 J6 J7 : aV} (hw : w32 wo = wo) (h : ((w32 (w 67 0) ≤ w32 p → Ev (d + 5) 214 Q 68 [rA 67, (0, n), (0, k), (0, s + 1), (0, a), (0, b), (0, c), (0, p)] [] (enc w t)) ∧ (¬ (w32 (w 67 0) ≤ w32 p) → (MG w m ∧ w 67 35 = wo ∧ gE a ∧ gE b ∧ gC m c ∧ gC m p) ∧ (((goes m wo a.toNat b.toNat c.toNat p.toNat) = false → Ev (d + 5) 214 Q 114 [rA 67, (0, n), (0, k), (0, s), (0, a), (0, b), (0, c), (0, p + 1)] [] (enc w t)) ∧ ((goes m wo a.toNat b.toNat c.toNat p.toNat) = true → (0 ≤ w32 ((((b * 17) + c) * 17) + p) ∧ w32 ((((b * 17) + c) * 17) + p) < 4913) ∧ (0 ≤ w32 s ∧ w32 s < 4913) ∧ (0 ≤ w32 ((((b * 17) + c) * 17) + p) ∧ w32 ((((b * 17) + c) * 17) + p) < 4913) ∧ (Ev (d + 5) 214 Q 114 [rA 67, (0, n), (0, k), (0, s), (0, a), (0, b), (0, c), (0, p + 1)] [] (enc (wu w 97 (w32 ((((b * 17) + c) * 17) + p)).toNat ((w 97 (w32 ((((b * 17) + c) * 17) + p)).toNat) + (w 96 (w32 s).toNat))) t))))))) : Ev (d + 5) 214 Q 114 [rA 67, (0, n), (0, k), (0, s), (0, a), (0, b), (0, c), (0, p)] [] (enc w t) := by
  refine e_ldi (show am_cd 214 114 = (2, 116, 7, 0, []) by decide +kernel) rfl ?_
  refine e_lda (v := 67) (show am_cd 214 116 = (2, 117, 0, 2, []) by decide +kernel) rfl ?_
  refine e_getf (a := 67) (tg := 0) (show am_cd 214 117 = (18, 120, 1200, 0, [168]) by decide +kernel) (by decide +kernel) (by decide +kernel) rfl ?_
  refine e_cmp3 (show am_cd 214 120 = (11, 123, 167, 3, []) by decide +kernel) (fun hc => ?_) (fun hc => ?_)
  · replace h := h.1 hc
    refine e_inc (la2 := [rA 67, (0, n), (0, k), (0, s + 1), (0, a), (0, b), (0, c), (0, p)]) (show am_cd 214 167 = (4, 170, 3, 1, []) by decide +kernel) rfl rfl ?_
    refine e_go (show am_cd 214 170 = (12, 68, 0, 0, []) by decide +kernel) ?_
    exact h
  · replace h := h.2 hc
    refine e_lda (v := 67) (show am_cd 214 123 = (2, 124, 0, 2, []) by decide +kernel) rfl ?_
    refine e_ldi (show am_cd 214 124 = (2, 126, 4, 0, []) by decide +kernel) rfl ?_
    refine e_ldi (show am_cd 214 126 = (2, 128, 5, 0, []) by decide +kernel) rfl ?_
    refine e_ldi (show am_cd 214 128 = (2, 130, 6, 0, []) by decide +kernel) rfl ?_
    refine e_ldi (show am_cd 214 130 = (2, 132, 7, 0, []) by decide +kernel) rfl ?_
    refine e_cV (z := 0) (a := 67) (as := [(0, a), (0, b), (0, c), (0, p)]) (rest := []) (show am_cd 214 132 = (40, 135, 210, 0, [282]) by decide +kernel) (by decide +kernel) rfl rfl (Nat.le_of_ble_eq_true rfl) rfl ?_
    refine Cl.mono (Cl.up (c_goes (hw := hw) (d := d) h.1) (by omega)) ?_
    rintro _ _ ⟨rfl, rfl⟩
    refine ⟨fun _ h9 => (by cases h9), ?_⟩
    replace h := h.2
    show Ev _ 214 _ 135 [rA 67, (0, n), (0, k), (0, s), (0, a), (0, b), (0, c), (0, p)] [(0, bI (goes m wo a.toNat b.toNat c.toNat p.toNat))] _
    refine e_ifb0 (show am_cd 214 135 = (10, 138, 161, 0, []) by decide +kernel) (fun hc => ?_) (fun hc => ?_)
    · replace h := h.1 hc
      refine e_inc (la2 := [rA 67, (0, n), (0, k), (0, s), (0, a), (0, b), (0, c), (0, p + 1)]) (show am_cd 214 161 = (4, 164, 7, 1, []) by decide +kernel) rfl rfl ?_
      refine e_go (show am_cd 214 164 = (12, 114, 0, 0, []) by decide +kernel) ?_
      exact h
    · replace h := h.2 hc
      refine e_lda (v := 67) (show am_cd 214 138 = (2, 139, 0, 2, []) by decide +kernel) rfl ?_
      refine e_getr (a := 67) (r := 97) (show am_cd 214 139 = (18, 142, 1244, 2, [104]) by decide +kernel) (by decide +kernel) (by decide +kernel) rfl ?_
      refine e_ldi (show am_cd 214 142 = (2, 144, 5, 0, []) by decide +kernel) rfl ?_
      refine e_ldi (show am_cd 214 144 = (2, 146, 6, 0, []) by decide +kernel) rfl ?_
      refine e_ldi (show am_cd 214 146 = (2, 148, 7, 0, []) by decide +kernel) rfl ?_
      refine e_cS (z := 0) (as := [(0, b), (0, c), (0, p)]) (rest := [rA 97]) (show am_cd 214 148 = (40, 151, 209, 1, [278]) by decide +kernel) (by decide) rfl rfl (Nat.le_of_ble_eq_true rfl) rfl ?_
      show Ev _ 209 _ 0 [(0, b), (0, c), (0, p)] [] _
      refine e_ldi (show am_cd 209 0 = (2, 1, 0, 0, []) by decide +kernel) rfl ?_
      refine e_ic (show am_cd 209 1 = (0, 3, 1, 17, []) by decide +kernel) ?_
      refine e_imul (show am_cd 209 3 = (5, 4, 2, 0, []) by decide +kernel) ?_
      refine e_ldi (show am_cd 209 4 = (2, 5, 1, 0, []) by decide +kernel) rfl ?_
      refine e_iadd (show am_cd 209 5 = (5, 6, 0, 0, []) by decide +kernel) ?_
      refine e_ic (show am_cd 209 6 = (0, 8, 1, 17, []) by decide +kernel) ?_
      refine e_imul (show am_cd 209 8 = (5, 9, 2, 0, []) by decide +kernel) ?_
      refine e_ldi (show am_cd 209 9 = (2, 10, 2, 0, []) by decide +kernel) rfl ?_
      refine e_iadd (show am_cd 209 10 = (5, 11, 0, 0, []) by decide +kernel) ?_
      refine e_reti (show am_cd 209 11 = (36, 12, 0, 0, []) by decide +kernel) (by decide +kernel) ⟨fun _ h9 => (by cases h9), ?_⟩
      show Ev _ 214 _ 151 [rA 67, (0, n), (0, k), (0, s), (0, a), (0, b), (0, c), (0, p)] [(0, (((b * 17) + c) * 17) + p), rA 97] _
      refine e_dup2 (show am_cd 214 151 = (14, 152, 0, 0, []) by decide +kernel) (by decide) ?_
      refine e_lald (a := 97) (n := 4913) (show am_cd 214 152 = (22, 153, 0, 0, []) by decide +kernel) (by decide +kernel) (by decide +kernel) (by decide +kernel) h.1 ?_
      replace h := h.2
      refine e_lda (v := 67) (show am_cd 214 153 = (2, 154, 0, 2, []) by decide +kernel) rfl ?_
      refine e_getr (a := 67) (r := 96) (show am_cd 214 154 = (18, 157, 1243, 2, [101]) by decide +kernel) (by decide +kernel) (by decide +kernel) rfl ?_
      refine e_ldi (show am_cd 214 157 = (2, 158, 3, 0, []) by decide +kernel) rfl ?_
      refine e_lald (a := 96) (n := 4913) (show am_cd 214 158 = (22, 159, 0, 0, []) by decide +kernel) (by decide +kernel) (by decide +kernel) (by decide +kernel) h.1 ?_
      replace h := h.2
      refine e_ladd (show am_cd 214 159 = (6, 160, 0, 0, []) by decide +kernel) ?_
      refine e_last (a := 97) (n := 4913) (show am_cd 214 160 = (25, 161, 0, 0, []) by decide +kernel) (by decide +kernel) (by decide +kernel) (by decide +kernel) h.1 ?_
      replace h := h.2
      refine e_inc (la2 := [rA 67, (0, n), (0, k), (0, s), (0, a), (0, b), (0, c), (0, p + 1)]) (show am_cd 214 161 = (4, 164, 7, 1, []) by decide +kernel) rfl rfl ?_
      refine e_go (show am_cd 214 164 = (12, 114, 0, 0, []) by decide +kernel) ?_
      exact h

theorem g_cR175 {d : Nat} {Q : Option aV → aS → Prop} {w : eW} {t : eT} {n k s : Int} {m : eW} {wo : Int} {J2 J3 J4 J5 J6 J7 : aV} (hw : w32 wo = wo) (h : ((w32 4913 ≤ w32 s → Ev (d + 5) 214 Q 39 [rA 67, (0, n), (0, k + 1), (0, s), J4, J5, J6, J7] [] (enc w t)) ∧ (¬ (w32 4913 ≤ w32 s) → (0 ≤ w32 s ∧ w32 s < 4913) ∧ (0 ≤ w32 s ∧ w32 s < 4913) ∧ (Ev (d + 5) 214 Q 175 [rA 67, (0, n), (0, k), (0, s + 1), J4, J5, J6, J7] [] (enc (wu w 96 (w32 s).toNat (w 97 (w32 s).toNat)) t))))) : Ev (d + 5) 214 Q 175 [rA 67, (0, n), (0, k), (0, s), J4, J5, J6, J7] [] (enc w t) := by
  refine e_ldi (show am_cd 214 175 = (2, 176, 3, 0, []) by decide +kernel) rfl ?_
  refine e_ic (show am_cd 214 176 = (0, 179, 2, 4913, []) by decide +kernel) ?_
  refine e_cmp3 (show am_cd 214 179 = (11, 182, 200, 3, []) by decide +kernel) (fun hc => ?_) (fun hc => ?_)
  · replace h := h.1 hc
    refine e_inc (la2 := [rA 67, (0, n), (0, k + 1), (0, s), J4, J5, J6, J7]) (show am_cd 214 200 = (4, 203, 2, 1, []) by decide +kernel) rfl rfl ?_
    refine e_go (show am_cd 214 203 = (12, 39, 0, 0, []) by decide +kernel) ?_
    exact h
  · replace h := h.2 hc
    refine e_lda (v := 67) (show am_cd 214 182 = (2, 183, 0, 2, []) by decide +kernel) rfl ?_
    refine e_getr (a := 67) (r := 96) (show am_cd 214 183 = (18, 186, 1243, 2, [101]) by decide +kernel) (by decide +kernel) (by decide +kernel) rfl ?_
    refine e_ldi (show am_cd 214 186 = (2, 187, 3, 0, []) by decide +kernel) rfl ?_
    refine e_lda (v := 67) (show am_cd 214 187 = (2, 188, 0, 2, []) by decide +kernel) rfl ?_
    refine e_getr (a := 67) (r := 97) (show am_cd 214 188 = (18, 191, 1244, 2, [104]) by decide +kernel) (by decide +kernel) (by decide +kernel) rfl ?_
    refine e_ldi (show am_cd 214 191 = (2, 192, 3, 0, []) by decide +kernel) rfl ?_
    refine e_lald (a := 97) (n := 4913) (show am_cd 214 192 = (22, 193, 0, 0, []) by decide +kernel) (by decide +kernel) (by decide +kernel) (by decide +kernel) h.1 ?_
    replace h := h.2
    refine e_last (a := 96) (n := 4913) (show am_cd 214 193 = (25, 194, 0, 0, []) by decide +kernel) (by decide +kernel) (by decide +kernel) (by decide +kernel) h.1 ?_
    replace h := h.2
    refine e_inc (la2 := [rA 67, (0, n), (0, k), (0, s + 1), J4, J5, J6, J7]) (show am_cd 214 194 = (4, 197, 3, 1, []) by decide +kernel) rfl rfl ?_
    refine e_go (show am_cd 214 197 = (12, 175, 0, 0, []) by decide +kernel) ?_
    exact h

theorem g_cR211 {d : Nat} {Q : Option aV → aS → Prop} {w : eW} {t : eT} {n x s : Int} {m : eW} {wo : Int} {J2 J3 J4 J5 J6 J7 : aV} (hw : w32 wo = wo) (h : ((w32 4913 ≤ w32 s → Q (some (1, x)) (enc w t)) ∧ (¬ (w32 4913 ≤ w32 s) → (0 ≤ w32 s ∧ w32 s < 4913) ∧ ((w64 (w 96 (w32 s).toNat) ≤ w64 0 → Ev (d + 5) 214 Q 211 [rA 67, (0, n), (1, x + 0), (9, 0), (0, s + 1), J5, J6, J7] [] (enc w t)) ∧ (¬ (w64 (w 96 (w32 s).toNat) ≤ w64 0) → (MG w m ∧ w 67 35 = wo ∧ gE (idiv s 289) ∧ gE (irem (idiv s 17) 17) ∧ gC m (irem s 17)) ∧ (((isE m wo (idiv s 289).toNat (irem (idiv s 17) 17).toNat (irem s 17).toNat) = false → Ev (d + 5) 214 Q 211 [rA 67, (0, n), (1, x + 0), (9, 0), (0, s + 1), J5, J6, J7] [] (enc w t)) ∧ ((isE m wo (idiv s 289).toNat (irem (idiv s 17) 17).toNat (irem s 17).toNat) = true → (0 ≤ w32 s ∧ w32 s < 4913) ∧ (Ev (d + 5) 214 Q 211 [rA 67, (0, n), (1, x + (w 96 (w32 s).toNat)), (9, 0), (0, s + 1), J5, J6, J7] [] (enc w t))))))))) : Ev (d + 5) 214 Q 211 [rA 67, (0, n), (1, x), (9, 0), (0, s), J5, J6, J7] [] (enc w t) := by
  refine e_ldi (show am_cd 214 211 = (2, 213, 4, 0, []) by decide +kernel) rfl ?_
  refine e_ic (show am_cd 214 213 = (0, 216, 2, 4913, []) by decide +kernel) ?_
  refine e_cmp3 (show am_cd 214 216 = (11, 219, 277, 3, []) by decide +kernel) (fun hc => ?_) (fun hc => ?_)
  · replace h := h.1 hc
    refine e_ldl (show am_cd 214 277 = (2, 278, 2, 1, []) by decide +kernel) rfl ?_
    exact e_retl (show am_cd 214 278 = (36, 279, 1, 0, []) by decide +kernel) (by decide +kernel) h
  · replace h := h.2 hc
    refine e_ldl (show am_cd 214 219 = (2, 220, 2, 1, []) by decide +kernel) rfl ?_
    refine e_lda (v := 67) (show am_cd 214 220 = (2, 221, 0, 2, []) by decide +kernel) rfl ?_
    refine e_getr (a := 67) (r := 96) (show am_cd 214 221 = (18, 224, 1243, 2, [101]) by decide +kernel) (by decide +kernel) (by decide +kernel) rfl ?_
    refine e_ldi (show am_cd 214 224 = (2, 226, 4, 0, []) by decide +kernel) rfl ?_
    refine e_lald (a := 96) (n := 4913) (show am_cd 214 226 = (22, 227, 0, 0, []) by decide +kernel) (by decide +kernel) (by decide +kernel) (by decide +kernel) h.1 ?_
    replace h := h.2
    refine e_lc (show am_cd 214 227 = (1, 228, 0, 0, []) by decide +kernel) ?_
    refine e_lcb5 (show am_cd 214 228 = (9, 229, 0, 0, []) by decide +kernel) (show am_cd 214 229 = (10, 232, 268, 5, []) by decide +kernel) (fun hc => ?_) (fun hc => ?_)
    · replace h := h.1 hc
      refine e_lc (show am_cd 214 268 = (1, 269, 0, 0, []) by decide +kernel) ?_
      refine e_ladd (show am_cd 214 269 = (6, 270, 0, 0, []) by decide +kernel) ?_
      refine e_stl (la2 := [rA 67, (0, n), (1, x + 0), (9, 0), (0, s), J5, J6, J7]) (show am_cd 214 270 = (3, 271, 2, 1, []) by decide +kernel) rfl ?_
      refine e_inc (la2 := [rA 67, (0, n), (1, x + 0), (9, 0), (0, s + 1), J5, J6, J7]) (show am_cd 214 271 = (4, 274, 4, 1, []) by decide +kernel) rfl rfl ?_
      refine e_go (show am_cd 214 274 = (12, 211, 0, 0, []) by decide +kernel) ?_
      exact h
    · replace h := h.2 hc
      refine e_lda (v := 67) (show am_cd 214 232 = (2, 233, 0, 2, []) by decide +kernel) rfl ?_
      refine e_ldi (show am_cd 214 233 = (2, 235, 4, 0, []) by decide +kernel) rfl ?_
      refine e_ic (show am_cd 214 235 = (0, 238, 2, 289, []) by decide +kernel) ?_
      refine e_idiv (show am_cd 214 238 = (5, 239, 9, 0, []) by decide +kernel) (by decide) ?_
      refine e_ldi (show am_cd 214 239 = (2, 241, 4, 0, []) by decide +kernel) rfl ?_
      refine e_ic (show am_cd 214 241 = (0, 243, 1, 17, []) by decide +kernel) ?_
      refine e_idiv (show am_cd 214 243 = (5, 244, 9, 0, []) by decide +kernel) (by decide) ?_
      refine e_ic (show am_cd 214 244 = (0, 246, 1, 17, []) by decide +kernel) ?_
      refine e_irem (show am_cd 214 246 = (5, 247, 10, 0, []) by decide +kernel) (by decide) ?_
      refine e_ldi (show am_cd 214 247 = (2, 249, 4, 0, []) by decide +kernel) rfl ?_
      refine e_ic (show am_cd 214 249 = (0, 251, 1, 17, []) by decide +kernel) ?_
      refine e_irem (show am_cd 214 251 = (5, 252, 10, 0, []) by decide +kernel) (by decide) ?_
      refine e_cV (z := 0) (a := 67) (as := [(0, idiv s 289), (0, irem (idiv s 17) 17), (0, irem s 17)]) (rest := [(1, x)]) (show am_cd 214 252 = (40, 255, 211, 0, [285]) by decide +kernel) (by decide +kernel) rfl rfl (Nat.le_of_ble_eq_true rfl) rfl ?_
      refine Cl.mono (Cl.up (c_isEnd (hw := hw) (d := d) h.1) (by omega)) ?_
      rintro _ _ ⟨rfl, rfl⟩
      refine ⟨fun _ h9 => (by cases h9), ?_⟩
      replace h := h.2
      show Ev _ 214 _ 255 [rA 67, (0, n), (1, x), (9, 0), (0, s), J5, J6, J7] [(0, bI (isE m wo (idiv s 289).toNat (irem (idiv s 17) 17).toNat (irem s 17).toNat)), (1, x)] _
      refine e_ifb0 (show am_cd 214 255 = (10, 258, 268, 0, []) by decide +kernel) (fun hc => ?_) (fun hc => ?_)
      · replace h := h.1 hc
        refine e_lc (show am_cd 214 268 = (1, 269, 0, 0, []) by decide +kernel) ?_
        refine e_ladd (show am_cd 214 269 = (6, 270, 0, 0, []) by decide +kernel) ?_
        refine e_stl (la2 := [rA 67, (0, n), (1, x + 0), (9, 0), (0, s), J5, J6, J7]) (show am_cd 214 270 = (3, 271, 2, 1, []) by decide +kernel) rfl ?_
        refine e_inc (la2 := [rA 67, (0, n), (1, x + 0), (9, 0), (0, s + 1), J5, J6, J7]) (show am_cd 214 271 = (4, 274, 4, 1, []) by decide +kernel) rfl rfl ?_
        refine e_go (show am_cd 214 274 = (12, 211, 0, 0, []) by decide +kernel) ?_
        exact h
      · replace h := h.2 hc
        refine e_lda (v := 67) (show am_cd 214 258 = (2, 259, 0, 2, []) by decide +kernel) rfl ?_
        refine e_getr (a := 67) (r := 96) (show am_cd 214 259 = (18, 262, 1243, 2, [101]) by decide +kernel) (by decide +kernel) (by decide +kernel) rfl ?_
        refine e_ldi (show am_cd 214 262 = (2, 264, 4, 0, []) by decide +kernel) rfl ?_
        refine e_lald (a := 96) (n := 4913) (show am_cd 214 264 = (22, 265, 0, 0, []) by decide +kernel) (by decide +kernel) (by decide +kernel) (by decide +kernel) h.1 ?_
        replace h := h.2
        refine e_go (show am_cd 214 265 = (12, 269, 0, 0, []) by decide +kernel) ?_
        refine e_ladd (show am_cd 214 269 = (6, 270, 0, 0, []) by decide +kernel) ?_
        refine e_stl (la2 := [rA 67, (0, n), (1, x + (w 96 (w32 s).toNat)), (9, 0), (0, s), J5, J6, J7]) (show am_cd 214 270 = (3, 271, 2, 1, []) by decide +kernel) rfl ?_
        refine e_inc (la2 := [rA 67, (0, n), (1, x + (w 96 (w32 s).toNat)), (9, 0), (0, s + 1), J5, J6, J7]) (show am_cd 214 271 = (4, 274, 4, 1, []) by decide +kernel) rfl rfl ?_
        refine e_go (show am_cd 214 274 = (12, 211, 0, 0, []) by decide +kernel) ?_
        exact h

