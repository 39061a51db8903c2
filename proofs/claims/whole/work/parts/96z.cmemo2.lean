/-! The class: answers noted. -/

theorem dyK_tn {t : eT} {kd n : Nat} : dyK (tn t kd n) ((102 + t.2.1 : Nat) : Int) kd ∧ dyL (tn t kd n) ((102 + t.2.1 : Nat) : Int) = n := by
  have hne : ¬ (1 ≤ 102 + t.2.1 ∧ 102 + t.2.1 < 102) := by omega
  unfold dyK dyL
  rw [Int.toNat_natCast, if_neg hne]
  have e : (tn t kd n).1 (102 + t.2.1) = (kd, n) := if_pos rfl
  rw [e]
  have hno : en_no (102 + t.2.1) = true := by
    unfold en_no
    rw [show en_rl.getD (102 + t.2.1) [] = [] by
      rw [List.getD_eq_getElem?_getD, List.getElem?_eq_none_iff.mpr (by show 102 ≤ _; omega)]
      rfl]
  exact ⟨⟨by omega, by show 102 + t.2.1 < 102 + (t.2.1 + 1); omega, rfl, hno⟩, rfl⟩
theorem tn_more {t : eT} {kd n : Nat} : t.2.1 ≤ (tn t kd n).2.1 ∧ ∀ x, x < 102 + t.2.1 → (tn t kd n).1 x = t.1 x := ⟨Nat.le_succ _, fun x hx => if_neg (by omega)⟩
theorem dyK_45 {t : eT} {a : Int} (h : dyK t a 21) : a.toNat ≠ 45 ∧ a.toNat ≠ 37 ∧ 0 < a ∧ a.toNat < 102 + t.2.1 := by
  refine ⟨fun h9 => ?_, fun h9 => ?_, h.1, h.2.1⟩
  · have := h.2.2.1
    rw [h9, if_pos (by decide)] at this
    revert this
    decide
  · have := h.2.2.1
    rw [h9, if_pos (by decide)] at this
    revert this
    decide
/-- where the book of answers stands, after it may have grown -/
def GrQ (w : eW) (t : eT) (w2 : eW) (t2 : eT) : Prop := (t2 = t ∧ w2 45 0 = w 45 0 ∧ w2 45 1 = w 45 1) ∨ (mM w t < 262144 ∧ t2.2.1 = t.2.1 + 2 ∧ t2.2.2 = t.2.2 + 8 * mM w t ∧ mM w2 t2 = 4 * mM w t ∧ w2 45 0 = ((102 + t.2.1 : Nat) : Int) ∧ w2 45 1 = ((102 + t.2.1 + 1 : Nat) : Int))
theorem setSlot {P : Int → Int → Prop} {w : eW} {t : eT} {x : Nat} {T V : Int} (hD : MmD w t) (hP : MeP P w t) (hx : x < mM w t) (hT : T / 4294967296 = w 45 2 ∧ T % 4294967296 < 2147483648 ∧ P (T % 4294967296) V) : MmD (wu (wu w (w 45 0).toNat x T) (w 45 1).toNat x V) t ∧ MeP P (wu (wu w (w 45 0).toNat x T) (w 45 1).toNat x V) t ∧ (∀ a, a ≠ (w 45 0).toNat → a ≠ (w 45 1).toNat → wu (wu w (w 45 0).toNat x T) (w 45 1).toNat x V a = w a) := by
  obtain ⟨⟨k0, k1, l1⟩, hM, hs, hT2, hne⟩ := hD
  have a0 := dyK_45 k0
  have a1 := dyK_45 k1
  have nn : (w 45 0).toNat ≠ (w 45 1).toNat := by omega
  have ro : ∀ a, a ≠ (w 45 0).toNat → a ≠ (w 45 1).toNat → wu (wu w (w 45 0).toNat x T) (w 45 1).toNat x V a = w a := fun a h1 h2 => by rw [wu_row h2, wu_row h1]
  have r45 : wu (wu w (w 45 0).toNat x T) (w 45 1).toNat x V 45 = w 45 := ro 45 (fun h9 => a0.1 h9.symm) (fun h9 => a1.1 h9.symm)
  generalize hw2 : wu (wu w (w 45 0).toNat x T) (w 45 1).toNat x V = w2 at *
  have tg : ∀ j, mTag w2 j = if j = x then T else mTag w j := fun j => by
    unfold mTag
    rw [r45, ← hw2, wu_na _ _ nn]
    by_cases h9 : j = x
    · rw [if_pos h9, h9, wu_eq]
    · rw [if_neg h9, wu_nk _ _ h9]
  have vl : ∀ j, mVal w2 j = if j = x then V else mVal w j := fun j => by
    unfold mVal
    rw [r45, ← hw2]
    by_cases h9 : j = x
    · rw [if_pos h9, h9, wu_eq]
    · rw [if_neg h9, wu_nk _ _ h9, wu_na _ _ (fun h8 => nn h8.symm)]
  have em : mM w2 t = mM w t := by unfold mM; rw [r45]
  refine ⟨⟨⟨by rw [r45]; exact k0, by rw [r45]; exact k1, by rw [r45, em]; exact l1⟩, by rw [em]; exact hM, by rw [r45]; exact hs, fun j hj => ?_, by rw [r45]; exact hne⟩, fun j hj => ?_, ro⟩
  · rw [em] at hj
    rw [tg, r45]
    by_cases h9 : j = x
    · rw [if_pos h9]
      have : T / 4294967296 = w 45 2 := hT.1
      omega
    · rw [if_neg h9]; exact hT2 j hj
  · rw [em] at hj
    rw [tg, vl, r45]
    by_cases h9 : j = x
    · rw [if_pos h9, if_pos h9]; exact fun _ => hT.2
    · rw [if_neg h9, if_neg h9]; exact hP j hj

theorem g_growA {d : Nat} {Q : Option aV → aS → Prop} {w : eW} {t : eT} (h : (0 ≤ w 45 0) ∧ (0 ≤ w 45 1) ∧ (0 ≤ w 45 0) ∧ (dyK t (w 45 0) 20 ∨ dyK t (w 45 0) 21) ∧ (0 ≤ w32 (4 * (dyL t (w 45 0) : Int)) ∧ w32 (4 * (dyL t (w 45 0) : Int)) ≤ 10000000) ∧ (0 ≤ ((102 + t.2.1 : Nat) : Int)) ∧ (0 ≤ w 45 0) ∧ (dyK (tn t 21 (w32 (4 * (dyL t (w 45 0) : Int))).toNat) (w 45 0) 20 ∨ dyK (tn t 21 (w32 (4 * (dyL t (w 45 0) : Int))).toNat) (w 45 0) 21) ∧ (0 ≤ w32 (4 * (dyL (tn t 21 (w32 (4 * (dyL t (w 45 0) : Int))).toNat) (w 45 0) : Int)) ∧ w32 (4 * (dyL (tn t 21 (w32 (4 * (dyL t (w 45 0) : Int))).toNat) (w 45 0) : Int)) ≤ 10000000) ∧ (0 ≤ ((102 + (tn t 21 (w32 (4 * (dyL t (w 45 0) : Int))).toNat).2.1 : Nat) : Int)) ∧ (Ev (d + 2) 48 Q 32 [rA 45, (2, w 45 0), (2, w 45 1), (0, 0), (9, 0)] [] (enc (wu (wz (wu (wz w (102 + t.2.1)) 45 0 ((102 + t.2.1 : Nat) : Int)) (102 + (tn t 21 (w32 (4 * (dyL t (w 45 0) : Int))).toNat).2.1)) 45 1 ((102 + (tn t 21 (w32 (4 * (dyL t (w 45 0) : Int))).toNat).2.1 : Nat) : Int)) (tn (tn t 21 (w32 (4 * (dyL t (w 45 0) : Int))).toNat) 21 (w32 (4 * (dyL (tn t 21 (w32 (4 * (dyL t (w 45 0) : Int))).toNat) (w 45 0) : Int))).toNat)))) : Cl (d + 2) 48 [rA 45] (enc w t) Q := by
  show Ev (d + 2) 48 Q 0 [rA 45, (9, 0), (9, 0), (9, 0), (9, 0)] [] (enc w t)
  refine e_lda (v := 45) (show am_cd 48 0 = (2, 1, 0, 2, []) by decide +kernel) rfl ?_
  refine e_getf (a := 45) (tg := 2) (show am_cd 48 1 = (18, 4, 500, 2, [9]) by decide +kernel) (by decide +kernel) (by decide +kernel) rfl ?_
  refine e_staD (v := w 45 0) (la2 := [rA 45, (2, w 45 0), (9, 0), (9, 0), (9, 0)]) (show am_cd 48 4 = (3, 5, 1, 2, []) by decide +kernel) h.1 rfl ?_
  replace h := h.2
  refine e_lda (v := 45) (show am_cd 48 5 = (2, 6, 0, 2, []) by decide +kernel) rfl ?_
  refine e_getf (a := 45) (tg := 2) (show am_cd 48 6 = (18, 9, 501, 2, [15]) by decide +kernel) (by decide +kernel) (by decide +kernel) rfl ?_
  refine e_staD (v := w 45 1) (la2 := [rA 45, (2, w 45 0), (2, w 45 1), (9, 0), (9, 0)]) (show am_cd 48 9 = (3, 10, 2, 2, []) by decide +kernel) h.1 rfl ?_
  replace h := h.2
  refine e_lda (v := 45) (show am_cd 48 10 = (2, 11, 0, 2, []) by decide +kernel) rfl ?_
  refine e_ic (show am_cd 48 11 = (0, 12, 0, 4, []) by decide +kernel) ?_
  refine e_ldaD (v := w 45 0) (show am_cd 48 12 = (2, 13, 1, 2, []) by decide +kernel) rfl h.1 ?_
  replace h := h.2
  refine e_alenD (show am_cd 48 13 = (27, 14, 0, 0, []) by decide +kernel) h.1 ?_
  replace h := h.2
  refine e_imul (show am_cd 48 14 = (5, 15, 2, 0, []) by decide +kernel) ?_
  refine e_newa (show am_cd 48 15 = (28, 17, 21, 0, []) by decide +kernel) h.1 ?_
  replace h := h.2
  refine e_putr (a := 45) (show am_cd 48 17 = (19, 20, 500, 2, [9]) by decide +kernel) (by decide +kernel) (by decide +kernel) rfl h.1 (by decide +kernel) ?_
  replace h := h.2
  refine e_lda (v := 45) (show am_cd 48 20 = (2, 21, 0, 2, []) by decide +kernel) rfl ?_
  refine e_ic (show am_cd 48 21 = (0, 22, 0, 4, []) by decide +kernel) ?_
  refine e_ldaD (v := w 45 0) (show am_cd 48 22 = (2, 23, 1, 2, []) by decide +kernel) rfl h.1 ?_
  replace h := h.2
  refine e_alenD (show am_cd 48 23 = (27, 24, 0, 0, []) by decide +kernel) h.1 ?_
  replace h := h.2
  refine e_imul (show am_cd 48 24 = (5, 25, 2, 0, []) by decide +kernel) ?_
  refine e_newa (show am_cd 48 25 = (28, 27, 21, 0, []) by decide +kernel) h.1 ?_
  replace h := h.2
  refine e_putr (a := 45) (show am_cd 48 27 = (19, 30, 501, 2, [15]) by decide +kernel) (by decide +kernel) (by decide +kernel) rfl h.1 (by decide +kernel) ?_
  replace h := h.2
  refine e_ic (show am_cd 48 30 = (0, 31, 0, 0, []) by decide +kernel) ?_
  refine e_sti (la2 := [rA 45, (2, w 45 0), (2, w 45 1), (0, 0), (9, 0)]) (show am_cd 48 31 = (3, 32, 3, 0, []) by decide +kernel) rfl ?_
  exact h

theorem g_growB {d : Nat} {Q : Option aV → aS → Prop} {w : eW} {t : eT} {A B i : Int} {J4 : aV} (h : (0 ≤ A) ∧ (dyK t A 20 ∨ dyK t A 21) ∧ ((w32 (dyL t A : Int) ≤ w32 i → Q none (enc w t)) ∧ (¬ (w32 (dyL t A : Int) ≤ w32 i) → (0 ≤ A) ∧ (dyK t A 21 ∧ 0 ≤ w32 i ∧ w32 i < dyL t A) ∧ ((¬ w32 (lushr (w A.toNat (w32 i).toNat) 32) = w32 (w 45 2) → Ev (d + 2) 48 Q 32 [rA 45, (2, A), (2, B), (0, i + 1), (0, (-1))] [] (enc w t)) ∧ (¬ (¬ w32 (lushr (w A.toNat (w32 i).toNat) 32) = w32 (w 45 2)) → (0 ≤ A) ∧ (dyK t A 21 ∧ 0 ≤ w32 i ∧ w32 i < dyL t A) ∧ (MmD w t ∧ (∀ j, j < mM w t → mTag w j / 4294967296 = w 45 2 → mTag w j % 4294967296 < 2147483648)) ∧ (∀ x1, (PlQ w t (w32 (w A.toNat (w32 i).toNat)) x1) → ((w32 x1 = w32 (-1) → Ev (d + 2) 48 Q 32 [rA 45, (2, A), (2, B), (0, i + 1), (0, x1)] [] (enc w t)) ∧ (¬ (w32 x1 = w32 (-1)) → (0 ≤ A) ∧ (dyK t A 21 ∧ 0 ≤ w32 i ∧ w32 i < dyL t A) ∧ (dyK t (w 45 0) 21 ∧ 0 ≤ w32 x1 ∧ w32 x1 < dyL t (w 45 0)) ∧ (0 ≤ B) ∧ (dyK t B 21 ∧ 0 ≤ w32 i ∧ w32 i < dyL t B) ∧ (dyK t ((wu w (w 45 0).toNat (w32 x1).toNat (w A.toNat (w32 i).toNat)) 45 1) 21 ∧ 0 ≤ w32 x1 ∧ w32 x1 < dyL t ((wu w (w 45 0).toNat (w32 x1).toNat (w A.toNat (w32 i).toNat)) 45 1)) ∧ (Ev (d + 2) 48 Q 32 [rA 45, (2, A), (2, B), (0, i + 1), (0, x1)] [] (enc (wu (wu w (w 45 0).toNat (w32 x1).toNat (w A.toNat (w32 i).toNat)) ((wu w (w 45 0).toNat (w32 x1).toNat (w A.toNat (w32 i).toNat)) 45 1).toNat (w32 x1).toNat ((wu w (w 45 0).toNat (w32 x1).toNat (w A.toNat (w32 i).toNat)) B.toNat (w32 i).toNat)) t)))))))))) : Ev (d + 2) 48 Q 32 [rA 45, (2, A), (2, B), (0, i), J4] [] (enc w t) := by
  refine e_ldi (show am_cd 48 32 = (2, 33, 3, 0, []) by decide +kernel) rfl ?_
  refine e_ldaD (v := A) (show am_cd 48 33 = (2, 34, 1, 2, []) by decide +kernel) rfl h.1 ?_
  replace h := h.2
  refine e_alenD (show am_cd 48 34 = (27, 35, 0, 0, []) by decide +kernel) h.1 ?_
  replace h := h.2
  refine e_cmp3 (show am_cd 48 35 = (11, 38, 98, 3, []) by decide +kernel) (fun hc => ?_) (fun hc => ?_)
  · replace h := h.1 hc
    exact e_retv (show am_cd 48 98 = (36, 99, 3, 0, []) by decide +kernel) (by decide +kernel) h
  · replace h := h.2 hc
    refine e_ldaD (v := A) (show am_cd 48 38 = (2, 39, 1, 2, []) by decide +kernel) rfl h.1 ?_
    replace h := h.2
    refine e_ldi (show am_cd 48 39 = (2, 40, 3, 0, []) by decide +kernel) rfl ?_
    refine e_laldD (show am_cd 48 40 = (22, 41, 0, 0, []) by decide +kernel) h.1 ?_
    replace h := h.2
    refine e_ic (show am_cd 48 41 = (0, 43, 1, 32, []) by decide +kernel) ?_
    refine e_lushr (show am_cd 48 43 = (7, 44, 2, 0, []) by decide +kernel) ?_
    refine e_l2i (show am_cd 48 44 = (8, 45, 1, 0, []) by decide +kernel) ?_
    refine e_lda (v := 45) (show am_cd 48 45 = (2, 46, 0, 2, []) by decide +kernel) rfl ?_
    refine e_getf (a := 45) (tg := 0) (show am_cd 48 46 = (18, 49, 502, 0, [18]) by decide +kernel) (by decide +kernel) (by decide +kernel) rfl ?_
    refine e_cmp1 (show am_cd 48 49 = (11, 52, 63, 1, []) by decide +kernel) (fun hc => ?_) (fun hc => ?_)
    · replace h := h.1 hc
      refine e_ic (show am_cd 48 63 = (0, 64, 0, -1, []) by decide +kernel) ?_
      refine e_sti (la2 := [rA 45, (2, A), (2, B), (0, i), (0, (-1))]) (show am_cd 48 64 = (3, 66, 4, 0, []) by decide +kernel) rfl ?_
      refine e_ldi (show am_cd 48 66 = (2, 68, 4, 0, []) by decide +kernel) rfl ?_
      refine e_ic (show am_cd 48 68 = (0, 69, 0, -1, []) by decide +kernel) ?_
      refine e_cmpT (show am_cd 48 69 = (11, 72, 92, 0, []) by decide +kernel) (by decide +kernel) ?_
      refine e_inc (la2 := [rA 45, (2, A), (2, B), (0, i + 1), (0, (-1))]) (show am_cd 48 92 = (4, 95, 3, 1, []) by decide +kernel) rfl rfl ?_
      refine e_go (show am_cd 48 95 = (12, 32, 0, 0, []) by decide +kernel) ?_
      exact h
    · replace h := h.2 hc
      refine e_lda (v := 45) (show am_cd 48 52 = (2, 53, 0, 2, []) by decide +kernel) rfl ?_
      refine e_ldaD (v := A) (show am_cd 48 53 = (2, 54, 1, 2, []) by decide +kernel) rfl h.1 ?_
      replace h := h.2
      refine e_ldi (show am_cd 48 54 = (2, 55, 3, 0, []) by decide +kernel) rfl ?_
      refine e_laldD (show am_cd 48 55 = (22, 56, 0, 0, []) by decide +kernel) h.1 ?_
      replace h := h.2
      refine e_l2i (show am_cd 48 56 = (8, 57, 1, 0, []) by decide +kernel) ?_
      refine e_cV (z := 0) (a := 45) (as := [(0, w A.toNat (w32 i).toNat)]) (rest := []) (show am_cd 48 57 = (40, 60, 45, 0, [25]) by decide +kernel) (by decide +kernel) rfl rfl (Nat.le_of_ble_eq_true rfl) rfl ?_
      refine Cl.mono (Cl.up (c_pl (d := d) h.1) (by omega)) ?_
      rintro _ _ ⟨x1, rfl, rfl, hp⟩
      refine ⟨fun _ h9 => (by cases h9), ?_⟩
      replace h := h.2 x1 hp
      show Ev _ 48 _ 60 [rA 45, (2, A), (2, B), (0, i), J4] [(0, x1)] _
      refine e_go (show am_cd 48 60 = (12, 64, 0, 0, []) by decide +kernel) ?_
      refine e_sti (la2 := [rA 45, (2, A), (2, B), (0, i), (0, x1)]) (show am_cd 48 64 = (3, 66, 4, 0, []) by decide +kernel) rfl ?_
      refine e_ldi (show am_cd 48 66 = (2, 68, 4, 0, []) by decide +kernel) rfl ?_
      refine e_ic (show am_cd 48 68 = (0, 69, 0, -1, []) by decide +kernel) ?_
      refine e_cmp0 (show am_cd 48 69 = (11, 72, 92, 0, []) by decide +kernel) (fun hc => ?_) (fun hc => ?_)
      · replace h := h.1 hc
        refine e_inc (la2 := [rA 45, (2, A), (2, B), (0, i + 1), (0, x1)]) (show am_cd 48 92 = (4, 95, 3, 1, []) by decide +kernel) rfl rfl ?_
        refine e_go (show am_cd 48 95 = (12, 32, 0, 0, []) by decide +kernel) ?_
        exact h
      · replace h := h.2 hc
        refine e_lda (v := 45) (show am_cd 48 72 = (2, 73, 0, 2, []) by decide +kernel) rfl ?_
        refine e_getf (a := 45) (tg := 2) (show am_cd 48 73 = (18, 76, 500, 2, [9]) by decide +kernel) (by decide +kernel) (by decide +kernel) rfl ?_
        refine e_ldi (show am_cd 48 76 = (2, 78, 4, 0, []) by decide +kernel) rfl ?_
        refine e_ldaD (v := A) (show am_cd 48 78 = (2, 79, 1, 2, []) by decide +kernel) rfl h.1 ?_
        replace h := h.2
        refine e_ldi (show am_cd 48 79 = (2, 80, 3, 0, []) by decide +kernel) rfl ?_
        refine e_laldD (show am_cd 48 80 = (22, 81, 0, 0, []) by decide +kernel) h.1 ?_
        replace h := h.2
        refine e_lastD (show am_cd 48 81 = (25, 82, 0, 0, []) by decide +kernel) h.1 ?_
        replace h := h.2
        refine e_lda (v := 45) (show am_cd 48 82 = (2, 83, 0, 2, []) by decide +kernel) rfl ?_
        refine e_getf (a := 45) (tg := 2) (show am_cd 48 83 = (18, 86, 501, 2, [15]) by decide +kernel) (by decide +kernel) (by decide +kernel) rfl ?_
        refine e_ldi (show am_cd 48 86 = (2, 88, 4, 0, []) by decide +kernel) rfl ?_
        refine e_ldaD (v := B) (show am_cd 48 88 = (2, 89, 2, 2, []) by decide +kernel) rfl h.1 ?_
        replace h := h.2
        refine e_ldi (show am_cd 48 89 = (2, 90, 3, 0, []) by decide +kernel) rfl ?_
        refine e_laldD (show am_cd 48 90 = (22, 91, 0, 0, []) by decide +kernel) h.1 ?_
        replace h := h.2
        refine e_lastD (show am_cd 48 91 = (25, 92, 0, 0, []) by decide +kernel) h.1 ?_
        replace h := h.2
        refine e_inc (la2 := [rA 45, (2, A), (2, B), (0, i + 1), (0, x1)]) (show am_cd 48 92 = (4, 95, 3, 1, []) by decide +kernel) rfl rfl ?_
        refine e_go (show am_cd 48 95 = (12, 32, 0, 0, []) by decide +kernel) ?_
        exact h

theorem c_grow {d : Nat} {w : eW} {t : eT} {P : Int → Int → Prop} (hD : MmD w t) (hP : MeP P w t) (hM2 : 4 * mM w t ≤ 262144) : Cl (d + 2) 48 [rA 45] (enc w t) (fun r S2 => ∃ w2 t2, r = none ∧ S2 = enc w2 t2 ∧ MF w t w2 t2 ∧ MmD w2 t2 ∧ MeP P w2 t2 ∧ (t2.2.1 = t.2.1 + 2 ∧ t2.2.2 = t.2.2 + 8 * mM w t ∧ mM w2 t2 = 4 * mM w t ∧ w2 45 0 = ((102 + t.2.1 : Nat) : Int) ∧ w2 45 1 = ((102 + t.2.1 + 1 : Nat) : Int)) ∧ w2 45 3 = w 45 3) := by
  have hD0 := hD
  obtain ⟨⟨k0, k1, l1⟩, hM, hs, hT, hne⟩ := hD
  have a0 := dyK_45 k0
  have a1 := dyK_45 k1
  have eM : dyL t (w 45 0) = mM w t := rfl
  have q1 := tn_more (t := t) (kd := 21) (n := 4 * mM w t)
  obtain ⟨m1, m2⟩ := dyK_more k0 q1.1 q1.2
  rw [eM] at m2
  refine g_growA ?_
  rw [eM, w32_id (x := 4 * (mM w t : Int)) (by omega), show (4 * (mM w t : Int)).toNat = 4 * mM w t by omega, m2, w32_id (x := 4 * (mM w t : Int)) (by omega), show (4 * (mM w t : Int)).toNat = 4 * mM w t by omega]
  refine ⟨by omega, by omega, by omega, Or.inr k0, by omega, by omega, by omega, Or.inr m1, by omega, by omega, ?_⟩
  have ec2 : 102 + (tn t 21 (4 * mM w t)).2.1 = 102 + t.2.1 + 1 := rfl
  rw [ec2]
  have q2 := tn_more (t := tn t 21 (4 * mM w t)) (kd := 21) (n := 4 * mM w t)
  have d1 := dyK_tn (t := t) (kd := 21) (n := 4 * mM w t)
  have d2 := dyK_tn (t := tn t 21 (4 * mM w t)) (kd := 21) (n := 4 * mM w t)
  obtain ⟨d3, d4⟩ := dyK_more d1.1 q2.1 q2.2
  rw [d1.2] at d4
  rw [ec2] at d2
  obtain ⟨A1, A2⟩ := dyK_more m1 q2.1 q2.2
  rw [m2] at A2
  have q12 : ∀ x, x < 102 + t.2.1 → (tn (tn t 21 (4 * mM w t)) 21 (4 * mM w t)).1 x = t.1 x := fun x hx => by rw [q2.2 x (by show x < 102 + (t.2.1 + 1); omega), q1.2 x hx]
  obtain ⟨B1, B2⟩ := dyK_more k1 (t2 := tn (tn t 21 (4 * mM w t)) 21 (4 * mM w t)) (by show t.2.1 ≤ t.2.1 + 1 + 1; omega) q12
  rw [l1] at B2
  generalize ht2 : tn (tn t 21 (4 * mM w t)) 21 (4 * mM w t) = t2 at *
  have tt1 : t2.2.1 = t.2.1 + 2 := by rw [← ht2]; rfl
  have tt2 : t2.2.2 = t.2.2 + 8 * mM w t := by rw [← ht2]; show t.2.2 + 4 * mM w t + 4 * mM w t = _; omega
  generalize hw1 : wu (wz (wu (wz w (102 + t.2.1)) 45 0 ((102 + t.2.1 : Nat) : Int)) (102 + t.2.1 + 1)) 45 1 ((102 + t.2.1 + 1 : Nat) : Int) = w1
  have z : ∀ a k, w1 a k = if a = 45 ∧ k = 1 then ((102 + t.2.1 + 1 : Nat) : Int) else if a = 102 + t.2.1 + 1 then 0 else if a = 45 ∧ k = 0 then ((102 + t.2.1 : Nat) : Int) else if a = 102 + t.2.1 then 0 else w a k := fun a k => by
    rw [← hw1]
    rfl
  have r0 : w1 45 0 = ((102 + t.2.1 : Nat) : Int) := by rw [z, if_neg (by omega), if_neg (by omega), if_pos (by omega)]
  have r1 : w1 45 1 = ((102 + t.2.1 + 1 : Nat) : Int) := by rw [z, if_pos (by omega)]
  have rk : ∀ k, 2 ≤ k → w1 45 k = w 45 k := fun k hk => by rw [z, if_neg (by omega), if_neg (by omega), if_neg (by omega), if_neg (by omega)]
  have ro : ∀ a, a ≠ 45 → a ≠ 102 + t.2.1 → a ≠ 102 + t.2.1 + 1 → w1 a = w a := fun a h1 h2 h3 => by funext k; rw [z, if_neg (by omega), if_neg h3, if_neg (by omega), if_neg h2]
  have zc : ∀ j, w1 (102 + t.2.1) j = 0 := fun j => by rw [z, if_neg (by omega), if_neg (by omega), if_neg (by omega), if_pos rfl]
  have mM1 : mM w1 t2 = 4 * mM w t := by unfold mM; rw [r0]; exact d4
  have mD1 : MmD w1 t2 := by
    refine ⟨⟨by rw [r0]; exact d3, by rw [r1]; exact d2.1, by rw [r1, mM1]; exact d2.2⟩, by rw [mM1]; omega, by rw [rk 2 (by decide)]; exact hs, fun j _ => ?_, by rw [r0, r1]; omega⟩
    unfold mTag
    rw [r0, Int.toNat_natCast, zc, rk 2 (by decide)]
    omega
  have mP1 : MeP P w1 t2 := fun j _ h9 => by
    unfold mTag at h9
    rw [r0, Int.toNat_natCast, zc, rk 2 (by decide)] at h9
    omega
  have fin : ∀ w2, (∀ a, a ≠ 102 + t.2.1 → a ≠ 102 + t.2.1 + 1 → w2 a = w1 a) → MmD w2 t2 → MeP P w2 t2 → MF w t w2 t2 ∧ MmD w2 t2 ∧ MeP P w2 t2 ∧ (t2.2.1 = t.2.1 + 2 ∧ t2.2.2 = t.2.2 + 8 * mM w t ∧ mM w2 t2 = 4 * mM w t ∧ w2 45 0 = ((102 + t.2.1 : Nat) : Int) ∧ w2 45 1 = ((102 + t.2.1 + 1 : Nat) : Int)) ∧ w2 45 3 = w 45 3 := fun w2 h1 h2 h3 => by
    have e45 : w2 45 = w1 45 := h1 45 (by omega) (by omega)
    refine ⟨⟨⟨by omega, q12⟩, fun a g1 g2 g3 g4 => ?_, by rw [e45, rk 2 (by decide)], Or.inr ⟨by rw [e45, r0, Int.toNat_natCast]; omega, by rw [e45, r1, Int.toNat_natCast]; omega⟩⟩, h2, h3, ⟨tt1, tt2, by unfold mM; rw [e45]; exact mM1, by rw [e45, r0], by rw [e45, r1]⟩, by rw [e45, rk 3 (by decide)]⟩
    rw [h1 a (by omega) (by omega), ro a g4 (by omega) (by omega)]
  refine lq2 (σ := eW) (τ := aV) (fun i w2 J => Ev (d + 2) 48 (fun r S2 => ∃ w2 t2, r = none ∧ S2 = enc w2 t2 ∧ MF w t w2 t2 ∧ MmD w2 t2 ∧ MeP P w2 t2 ∧ (t2.2.1 = t.2.1 + 2 ∧ t2.2.2 = t.2.2 + 8 * mM w t ∧ mM w2 t2 = 4 * mM w t ∧ w2 45 0 = ((102 + t.2.1 : Nat) : Int) ∧ w2 45 1 = ((102 + t.2.1 + 1 : Nat) : Int)) ∧ w2 45 3 = w 45 3) 32 [rA 45, (2, w 45 0), (2, w 45 1), (0, (i : Int)), J] [] (enc w2 t2)) (fun i w2 => (∀ a, a ≠ 102 + t.2.1 → a ≠ 102 + t.2.1 + 1 → w2 a = w1 a) ∧ MmD w2 t2 ∧ MeP P w2 t2) (mM w t) ?_ ?_ 0 w1 (9, 0) (Nat.zero_le _) ⟨fun _ _ _ => rfl, mD1, mP1⟩
  · rintro i w2 J hi ⟨h1, h2, h3⟩ hE
    have e45 : w2 45 = w1 45 := h1 45 (by omega) (by omega)
    have eA : w2 (w 45 0).toNat = w (w 45 0).toNat := by rw [h1 _ (by omega) (by omega), ro _ a0.1 (by omega) (by omega)]
    have eB : w2 (w 45 1).toNat = w (w 45 1).toNat := by rw [h1 _ (by omega) (by omega), ro _ a1.1 (by omega) (by omega)]
    have hti := hT i hi
    have e0 : w2 45 0 = ((102 + t.2.1 : Nat) : Int) := by rw [e45, r0]
    have e1 : w2 45 1 = ((102 + t.2.1 + 1 : Nat) : Int) := by rw [e45, r1]
    have e2 : w2 45 2 = w 45 2 := by rw [e45, rk 2 (by decide)]
    have emM : dyL t2 (w2 45 0) = 4 * mM w t := by rw [e0]; exact d4
    have h2d := h2
    obtain ⟨⟨z0, z1, z2⟩, _⟩ := h2d
    refine g_growB ⟨by omega, Or.inr A1, ?_⟩
    rw [A2, w32_id (x := (i : Int)) (by omega), w32_id (x := (mM w t : Int)) (by omega), Int.toNat_natCast, eA, show w (w 45 0).toNat i = mTag w i from rfl, lushr32 (by omega), w32_id (x := mTag w i / 4294967296) (by omega), e2, w32_id (x := w 45 2) (by omega)]
    have hi2 : (0 : Int) ≤ (i : Int) ∧ (i : Int) < (mM w t : Int) := by omega
    refine ⟨fun h9 => by omega, fun _ => ⟨by omega, ⟨A1, by omega, by omega⟩, fun h9 => hE w2 _ ⟨h1, h2, h3⟩, fun h9 => ⟨by omega, ⟨A1, by omega, by omega⟩, ⟨h2, fun j g1 g2 => (h3 j g1 (by rw [e2]; exact g2)).1⟩, fun x hx => ⟨fun h8 => hE w2 _ ⟨h1, h2, h3⟩, fun h8 => ?_⟩⟩⟩⟩
    have h9' := Classical.not_not.mp h9
    rcases hx with rfl | ⟨hb, hq⟩
    · exact absurd rfl h8
    · have em2 : mM w2 t2 = 4 * mM w t := emM
      rw [em2] at hb
      rw [w32_id (x := x) (by omega)]
      have s45 : wu w2 (w2 45 0).toNat x.toNat (mTag w i) 45 1 = w2 45 1 := wu_na _ _ (by rw [e0, Int.toNat_natCast]; omega)
      have sB : wu w2 (w2 45 0).toNat x.toNat (mTag w i) (w 45 1).toNat i = mVal w i := by
        rw [wu_na _ _ (by rw [e0, Int.toNat_natCast]; omega), eB]
        rfl
      rw [s45, sB, z2, em2, emM]
      have hslot := setSlot (P := P) (x := x.toNat) (T := mTag w i) (V := mVal w i) h2 h3 (by rw [em2]; omega) ⟨by rw [e2]; exact h9', hP i hi h9'⟩
      refine ⟨by omega, ⟨A1, by omega, by omega⟩, ⟨z0, by omega, by omega⟩, by omega, ⟨B1, by omega, by rw [B2]; omega⟩, ⟨z1, by omega, by omega⟩, hE _ _ ⟨fun a g1 g2 => ?_, hslot.1, hslot.2.1⟩⟩
      rw [hslot.2.2 a (by rw [e0, Int.toNat_natCast]; exact g1) (by rw [e1, Int.toNat_natCast]; exact g2)]
      exact h1 a g1 g2
  · rintro w2 J ⟨h1, h2, h3⟩
    refine g_growB ⟨by omega, Or.inr A1, fun _ => ⟨w2, t2, rfl, rfl, fin w2 h1 h2 h3⟩, fun h9 => absurd (by rw [A2]; exact Int.le_refl _) h9⟩

theorem g_put {d : Nat} {Q : Option aV → aS → Prop} {w : eW} {t : eT} {k v : Int} (h : (dyK t (w 45 0) 20 ∨ dyK t (w 45 0) 21) ∧ ((w32 (2 * (w 45 3)) < w32 (dyL t (w 45 0) : Int) → Ev (d + 3) 47 Q 29 [rA 45, (0, k), (1, v), (9, 0), (9, 0)] [] (enc w t)) ∧ (¬ (w32 (2 * (w 45 3)) < w32 (dyL t (w 45 0) : Int)) → (dyK t (w 45 0) 20 ∨ dyK t (w 45 0) 21) ∧ ((w32 (dyL t (w 45 0) : Int) < w32 262144 → Cl (d + 2) 48 [rA 45] (enc w t) (fun r S2 => (∀ x, r ≠ some (6, x)) ∧ Ev (d + 3) 47 Q 29 [rA 45, (0, k), (1, v), (9, 0), (9, 0)] (r.toList ++ []) S2)) ∧ (¬ (w32 (dyL t (w 45 0) : Int) < w32 262144) → Q none (enc w t)))))) : Cl (d + 3) 47 [rA 45, (0, k), (1, v)] (enc w t) Q := by
  show Ev (d + 3) 47 Q 0 [rA 45, (0, k), (1, v), (9, 0), (9, 0)] [] (enc w t)
  refine e_ic (show am_cd 47 0 = (0, 1, 0, 2, []) by decide +kernel) ?_
  refine e_lda (v := 45) (show am_cd 47 1 = (2, 2, 0, 2, []) by decide +kernel) rfl ?_
  refine e_getf (a := 45) (tg := 0) (show am_cd 47 2 = (18, 5, 503, 0, [22]) by decide +kernel) (by decide +kernel) (by decide +kernel) rfl ?_
  refine e_imul (show am_cd 47 5 = (5, 6, 2, 0, []) by decide +kernel) ?_
  refine e_lda (v := 45) (show am_cd 47 6 = (2, 7, 0, 2, []) by decide +kernel) rfl ?_
  refine e_getf (a := 45) (tg := 2) (show am_cd 47 7 = (18, 10, 500, 2, [9]) by decide +kernel) (by decide +kernel) (by decide +kernel) rfl ?_
  refine e_alenD (show am_cd 47 10 = (27, 11, 0, 0, []) by decide +kernel) h.1 ?_
  replace h := h.2
  refine e_cmp2 (show am_cd 47 11 = (11, 14, 29, 2, []) by decide +kernel) (fun hc => ?_) (fun hc => ?_)
  · replace h := h.1 hc
    exact h
  · replace h := h.2 hc
    refine e_lda (v := 45) (show am_cd 47 14 = (2, 15, 0, 2, []) by decide +kernel) rfl ?_
    refine e_getf (a := 45) (tg := 2) (show am_cd 47 15 = (18, 18, 500, 2, [9]) by decide +kernel) (by decide +kernel) (by decide +kernel) rfl ?_
    refine e_alenD (show am_cd 47 18 = (27, 19, 0, 0, []) by decide +kernel) h.1 ?_
    replace h := h.2
    refine e_ic (show am_cd 47 19 = (0, 21, 3, 262144, [31]) by decide +kernel) ?_
    refine e_cmp2 (show am_cd 47 21 = (11, 24, 25, 2, []) by decide +kernel) (fun hc => ?_) (fun hc => ?_)
    · replace h := h.1 hc
      refine e_lda (v := 45) (show am_cd 47 25 = (2, 26, 0, 2, []) by decide +kernel) rfl ?_
      refine e_cV (z := 0) (a := 45) (as := []) (rest := []) (show am_cd 47 26 = (40, 29, 48, 0, [32]) by decide +kernel) (by decide +kernel) rfl rfl (Nat.le_of_ble_eq_true rfl) rfl ?_
      exact h
    · replace h := h.2 hc
      exact e_retv (show am_cd 47 24 = (36, 25, 3, 0, []) by decide +kernel) (by decide +kernel) h

theorem g_put1 {d : Nat} {Q : Option aV → aS → Prop} {w : eW} {t : eT} {k v : Int} (h : (MmD w t ∧ (∀ j, j < mM w t → mTag w j / 4294967296 = w 45 2 → mTag w j % 4294967296 < 2147483648)) ∧ (∀ x1, (PlQ w t (w32 k) x1) → ((¬ w32 x1 = w32 (-1) → (dyK t (w 45 0) 21 ∧ 0 ≤ w32 x1 ∧ w32 x1 < dyL t (w 45 0)) ∧ ((w32 (lushr (w (w 45 0).toNat (w32 x1).toNat) 32) = w32 (w 45 2) → (dyK t (w 45 0) 21 ∧ 0 ≤ w32 x1 ∧ w32 x1 < dyL t (w 45 0)) ∧ (dyK t ((wu w (w 45 0).toNat (w32 x1).toNat (lor (lshl (w32 (w 45 2)) 32) (w32 k))) 45 1) 21 ∧ 0 ≤ w32 x1 ∧ w32 x1 < dyL t ((wu w (w 45 0).toNat (w32 x1).toNat (lor (lshl (w32 (w 45 2)) 32) (w32 k))) 45 1)) ∧ (Q none (enc (wu (wu w (w 45 0).toNat (w32 x1).toNat (lor (lshl (w32 (w 45 2)) 32) (w32 k))) ((wu w (w 45 0).toNat (w32 x1).toNat (lor (lshl (w32 (w 45 2)) 32) (w32 k))) 45 1).toNat (w32 x1).toNat v) t))) ∧ (¬ (w32 (lushr (w (w 45 0).toNat (w32 x1).toNat) 32) = w32 (w 45 2)) → (dyK t (w 45 0) 21 ∧ 0 ≤ w32 x1 ∧ w32 x1 < dyL t (w 45 0)) ∧ (dyK t ((wu (wu w 45 3 ((w 45 3) + 1)) (w 45 0).toNat (w32 x1).toNat (lor (lshl (w32 (w 45 2)) 32) (w32 k))) 45 1) 21 ∧ 0 ≤ w32 x1 ∧ w32 x1 < dyL t ((wu (wu w 45 3 ((w 45 3) + 1)) (w 45 0).toNat (w32 x1).toNat (lor (lshl (w32 (w 45 2)) 32) (w32 k))) 45 1)) ∧ (Q none (enc (wu (wu (wu w 45 3 ((w 45 3) + 1)) (w 45 0).toNat (w32 x1).toNat (lor (lshl (w32 (w 45 2)) 32) (w32 k))) ((wu (wu w 45 3 ((w 45 3) + 1)) (w 45 0).toNat (w32 x1).toNat (lor (lshl (w32 (w 45 2)) 32) (w32 k))) 45 1).toNat (w32 x1).toNat v) t))))) ∧ (¬ (¬ w32 x1 = w32 (-1)) → Q none (enc w t))))) : Ev (d + 3) 47 Q 29 [rA 45, (0, k), (1, v), (9, 0), (9, 0)] [] (enc w t) := by
  refine e_lda (v := 45) (show am_cd 47 29 = (2, 30, 0, 2, []) by decide +kernel) rfl ?_
  refine e_ldi (show am_cd 47 30 = (2, 31, 1, 0, []) by decide +kernel) rfl ?_
  refine e_cV (z := 0) (a := 45) (as := [(0, k)]) (rest := []) (show am_cd 47 31 = (40, 34, 45, 0, [25]) by decide +kernel) (by decide +kernel) rfl rfl (Nat.le_of_ble_eq_true rfl) rfl ?_
  refine Cl.mono (Cl.up (c_pl (d := d) h.1) (by omega)) ?_
  rintro _ _ ⟨x1, rfl, rfl, hp⟩
  refine ⟨fun _ h9 => (by cases h9), ?_⟩
  replace h := h.2 x1 hp
  show Ev _ 47 _ 34 [rA 45, (0, k), (1, v), (9, 0), (9, 0)] [(0, x1)] _
  refine e_sti (la2 := [rA 45, (0, k), (1, v), (9, 0), (0, x1)]) (show am_cd 47 34 = (3, 36, 4, 0, []) by decide +kernel) rfl ?_
  refine e_ldi (show am_cd 47 36 = (2, 38, 4, 0, []) by decide +kernel) rfl ?_
  refine e_ic (show am_cd 47 38 = (0, 39, 0, -1, []) by decide +kernel) ?_
  refine e_cmp1 (show am_cd 47 39 = (11, 42, 43, 1, []) by decide +kernel) (fun hc => ?_) (fun hc => ?_)
  · replace h := h.1 hc
    refine e_lda (v := 45) (show am_cd 47 43 = (2, 44, 0, 2, []) by decide +kernel) rfl ?_
    refine e_getf (a := 45) (tg := 2) (show am_cd 47 44 = (18, 47, 500, 2, [9]) by decide +kernel) (by decide +kernel) (by decide +kernel) rfl ?_
    refine e_ldi (show am_cd 47 47 = (2, 49, 4, 0, []) by decide +kernel) rfl ?_
    refine e_laldD (show am_cd 47 49 = (22, 50, 0, 0, []) by decide +kernel) h.1 ?_
    replace h := h.2
    refine e_ic (show am_cd 47 50 = (0, 52, 1, 32, []) by decide +kernel) ?_
    refine e_lushr (show am_cd 47 52 = (7, 53, 2, 0, []) by decide +kernel) ?_
    refine e_l2i (show am_cd 47 53 = (8, 54, 1, 0, []) by decide +kernel) ?_
    refine e_lda (v := 45) (show am_cd 47 54 = (2, 55, 0, 2, []) by decide +kernel) rfl ?_
    refine e_getf (a := 45) (tg := 0) (show am_cd 47 55 = (18, 58, 502, 0, [18]) by decide +kernel) (by decide +kernel) (by decide +kernel) rfl ?_
    refine e_cmp0 (show am_cd 47 58 = (11, 61, 71, 0, []) by decide +kernel) (fun hc => ?_) (fun hc => ?_)
    · replace h := h.1 hc
      refine e_lda (v := 45) (show am_cd 47 71 = (2, 72, 0, 2, []) by decide +kernel) rfl ?_
      refine e_getf (a := 45) (tg := 2) (show am_cd 47 72 = (18, 75, 500, 2, [9]) by decide +kernel) (by decide +kernel) (by decide +kernel) rfl ?_
      refine e_ldi (show am_cd 47 75 = (2, 77, 4, 0, []) by decide +kernel) rfl ?_
      refine e_lda (v := 45) (show am_cd 47 77 = (2, 78, 0, 2, []) by decide +kernel) rfl ?_
      refine e_getf (a := 45) (tg := 0) (show am_cd 47 78 = (18, 81, 502, 0, [18]) by decide +kernel) (by decide +kernel) (by decide +kernel) rfl ?_
      refine e_i2l (show am_cd 47 81 = (8, 82, 0, 0, []) by decide +kernel) ?_
      refine e_ic (show am_cd 47 82 = (0, 84, 1, 32, []) by decide +kernel) ?_
      refine e_lshl (show am_cd 47 84 = (7, 85, 0, 0, []) by decide +kernel) ?_
      refine e_ldi (show am_cd 47 85 = (2, 86, 1, 0, []) by decide +kernel) rfl ?_
      refine e_i2l (show am_cd 47 86 = (8, 87, 0, 0, []) by decide +kernel) ?_
      refine e_lor (show am_cd 47 87 = (6, 88, 2, 0, []) by decide +kernel) ?_
      refine e_lastD (show am_cd 47 88 = (25, 89, 0, 0, []) by decide +kernel) h.1 ?_
      replace h := h.2
      refine e_lda (v := 45) (show am_cd 47 89 = (2, 90, 0, 2, []) by decide +kernel) rfl ?_
      refine e_getf (a := 45) (tg := 2) (show am_cd 47 90 = (18, 93, 501, 2, [15]) by decide +kernel) (by decide +kernel) (by decide +kernel) rfl ?_
      refine e_ldi (show am_cd 47 93 = (2, 95, 4, 0, []) by decide +kernel) rfl ?_
      refine e_ldl (show am_cd 47 95 = (2, 96, 2, 1, []) by decide +kernel) rfl ?_
      refine e_lastD (show am_cd 47 96 = (25, 97, 0, 0, []) by decide +kernel) h.1 ?_
      replace h := h.2
      exact e_retv (show am_cd 47 97 = (36, 98, 3, 0, []) by decide +kernel) (by decide +kernel) h
    · replace h := h.2 hc
      refine e_lda (v := 45) (show am_cd 47 61 = (2, 62, 0, 2, []) by decide +kernel) rfl ?_
      refine e_dup (show am_cd 47 62 = (13, 63, 0, 0, []) by decide +kernel) (by decide) ?_
      refine e_getf (a := 45) (tg := 0) (show am_cd 47 63 = (18, 66, 503, 0, [22]) by decide +kernel) (by decide +kernel) (by decide +kernel) rfl ?_
      refine e_ic (show am_cd 47 66 = (0, 67, 0, 1, []) by decide +kernel) ?_
      refine e_iadd (show am_cd 47 67 = (5, 68, 0, 0, []) by decide +kernel) ?_
      refine e_putf (a := 45) (show am_cd 47 68 = (19, 71, 503, 0, [22]) by decide +kernel) (by decide +kernel) (by decide +kernel) rfl (fun h9 => absurd h9 (by decide)) (fun h9 => absurd h9 (by decide +kernel)) ?_
      refine e_lda (v := 45) (show am_cd 47 71 = (2, 72, 0, 2, []) by decide +kernel) rfl ?_
      refine e_getfE (a := 45) (tg := 2) (v := w 45 0) (show am_cd 47 72 = (18, 75, 500, 2, [9]) by decide +kernel) (by decide +kernel) (by decide +kernel) rfl rfl ?_
      refine e_ldi (show am_cd 47 75 = (2, 77, 4, 0, []) by decide +kernel) rfl ?_
      refine e_lda (v := 45) (show am_cd 47 77 = (2, 78, 0, 2, []) by decide +kernel) rfl ?_
      refine e_getfE (a := 45) (tg := 0) (v := w 45 2) (show am_cd 47 78 = (18, 81, 502, 0, [18]) by decide +kernel) (by decide +kernel) (by decide +kernel) rfl rfl ?_
      refine e_i2l (show am_cd 47 81 = (8, 82, 0, 0, []) by decide +kernel) ?_
      refine e_ic (show am_cd 47 82 = (0, 84, 1, 32, []) by decide +kernel) ?_
      refine e_lshl (show am_cd 47 84 = (7, 85, 0, 0, []) by decide +kernel) ?_
      refine e_ldi (show am_cd 47 85 = (2, 86, 1, 0, []) by decide +kernel) rfl ?_
      refine e_i2l (show am_cd 47 86 = (8, 87, 0, 0, []) by decide +kernel) ?_
      refine e_lor (show am_cd 47 87 = (6, 88, 2, 0, []) by decide +kernel) ?_
      refine e_lastD (show am_cd 47 88 = (25, 89, 0, 0, []) by decide +kernel) h.1 ?_
      replace h := h.2
      refine e_lda (v := 45) (show am_cd 47 89 = (2, 90, 0, 2, []) by decide +kernel) rfl ?_
      refine e_getf (a := 45) (tg := 2) (show am_cd 47 90 = (18, 93, 501, 2, [15]) by decide +kernel) (by decide +kernel) (by decide +kernel) rfl ?_
      refine e_ldi (show am_cd 47 93 = (2, 95, 4, 0, []) by decide +kernel) rfl ?_
      refine e_ldl (show am_cd 47 95 = (2, 96, 2, 1, []) by decide +kernel) rfl ?_
      refine e_lastD (show am_cd 47 96 = (25, 97, 0, 0, []) by decide +kernel) h.1 ?_
      replace h := h.2
      exact e_retv (show am_cd 47 97 = (36, 98, 3, 0, []) by decide +kernel) (by decide +kernel) h
  · replace h := h.2 hc
    exact e_retv (show am_cd 47 42 = (36, 43, 3, 0, []) by decide +kernel) (by decide +kernel) h

theorem c_put1 {d : Nat} {w : eW} {t : eT} {k v : Int} {P : Int → Int → Prop} {Q : Option aV → aS → Prop} (hD : MmD w t) (hP : MeP P w t) (hk : 0 ≤ k ∧ k < 2147483648) (hv : P k v) (hu : 0 ≤ w 45 3 ∧ 2 * w 45 3 < (mM w t : Int))
    (hQ : ∀ w2, MF w t w2 t → MmD w2 t → MeP P w2 t → w2 45 0 = w 45 0 → w2 45 1 = w 45 1 → 0 ≤ w2 45 3 → 2 * w2 45 3 ≤ (mM w t : Int) + 1 → Q none (enc w2 t)) : Ev (d + 3) 47 Q 29 [rA 45, (0, k), (1, v), (9, 0), (9, 0)] [] (enc w t) := by
  have hD0 := hD
  obtain ⟨⟨k0, k1, l1⟩, hM, hs, hT, hne⟩ := hD
  have a0 := dyK_45 k0
  have a1 := dyK_45 k1
  have eM : dyL t (w 45 0) = mM w t := rfl
  refine g_put1 ⟨⟨hD0, fun j h1 h2 => (hP j h1 h2).1⟩, fun x hx => ?_⟩
  rw [w32_id (x := k) (by omega)] at hx
  rcases hx with rfl | ⟨hb, hq⟩
  · exact ⟨fun h9 => absurd rfl h9, fun _ => hQ w (MF.rf _ _) hD0 hP rfl rfl hu.1 (by omega)⟩
  · have ht := hT x.toNat (by omega)
    have tg := tagE (s := w 45 2) (k := k) (by omega) hk
    rw [tg, eM, w32_id (x := x) (by omega), w32_id (x := -1) (by decide), show w (w 45 0).toNat x.toNat = mTag w x.toNat from rfl, lushr32 (by omega), w32_id (x := mTag w x.toNat / 4294967296) (by omega), w32_id (x := w 45 2) (by omega)]
    have T1 : (w 45 2 * 4294967296 + k) / 4294967296 = w 45 2 := by omega
    have T2 : (w 45 2 * 4294967296 + k) % 4294967296 = k := by omega
    have s1 : wu w (w 45 0).toNat x.toNat (w 45 2 * 4294967296 + k) 45 1 = w 45 1 := wu_na _ _ (fun h9 => a0.1 h9.symm)
    have s3 : wu (wu w 45 3 (w 45 3 + 1)) (w 45 0).toNat x.toNat (w 45 2 * 4294967296 + k) 45 1 = w 45 1 := by rw [wu_na _ _ (fun h9 => a0.1 h9.symm)]; rfl
    rw [s1, s3, l1]
    refine ⟨fun _ => ⟨⟨k0, hb⟩, fun h1 => ⟨⟨k0, hb⟩, ⟨k1, hb⟩, ?_⟩, fun h1 => ⟨⟨k0, hb⟩, ⟨k1, hb⟩, ?_⟩⟩, fun h9 => absurd (by omega) h9⟩
    · have hz := setSlot (P := P) (x := x.toNat) (T := w 45 2 * 4294967296 + k) (V := v) hD0 hP (by omega) ⟨T1, by omega, by rw [T2]; exact hv⟩
      have e45 := hz.2.2 45 (fun h9 => a0.1 h9.symm) (fun h9 => a1.1 h9.symm)
      refine hQ _ ⟨⟨Nat.le_refl _, fun _ _ => rfl⟩, fun a _ g2 g3 _ => hz.2.2 a g2 g3, by rw [e45], Or.inl ⟨by rw [e45], by rw [e45], rfl⟩⟩ hz.1 hz.2.1 (by rw [e45]) (by rw [e45]) (by rw [e45]; exact hu.1) (by rw [e45]; omega)
    · have hD1 : MmD (wu w 45 3 (w 45 3 + 1)) t := by
        have e0 : (wu w 45 3 (w 45 3 + 1)) 45 0 = w 45 0 := rfl
        have er : ∀ j, mTag (wu w 45 3 (w 45 3 + 1)) j = mTag w j := fun j => wu_na _ _ a0.1
        exact ⟨⟨k0, k1, l1⟩, hM, hs, fun j hj => by rw [er]; exact hT j hj, hne⟩
      have hP1 : MeP P (wu w 45 3 (w 45 3 + 1)) t := by
        have er : ∀ j, mTag (wu w 45 3 (w 45 3 + 1)) j = mTag w j := fun j => wu_na _ _ a0.1
        have ev : ∀ j, mVal (wu w 45 3 (w 45 3 + 1)) j = mVal w j := fun j => wu_na _ _ a1.1
        intro j hj
        rw [er, ev]
        exact hP j hj
      have hz := setSlot (P := P) (x := x.toNat) (T := w 45 2 * 4294967296 + k) (V := v) hD1 hP1 (by show x.toNat < mM w t; omega) ⟨T1, by omega, by rw [T2]; exact hv⟩
      have e45 := hz.2.2 45 (fun h9 => a0.1 h9.symm) (fun h9 => a1.1 h9.symm)
      have h33 : wu (wu (wu w 45 3 (w 45 3 + 1)) (w 45 0).toNat x.toNat (w 45 2 * 4294967296 + k)) (w 45 1).toNat x.toNat v 45 3 = w 45 3 + 1 := congrFun e45 3
      refine hQ _ ⟨⟨Nat.le_refl _, fun _ _ => rfl⟩, fun a _ g2 g3 g4 => ?_, ?_, Or.inl ⟨?_, ?_, rfl⟩⟩ hz.1 hz.2.1 ?_ ?_ ?_ ?_
      · refine (hz.2.2 a g2 g3).trans ?_
        exact wu_row g4
      · exact congrFun e45 2
      · exact congrFun e45 0
      · exact congrFun e45 1
      · exact congrFun e45 0
      · exact congrFun e45 1
      · rw [h33]; omega
      · rw [h33]; omega
theorem c_put {d : Nat} {w : eW} {t : eT} {k v : Int} {P : Int → Int → Prop} (h : MmD w t ∧ MeP P w t ∧ (0 ≤ k ∧ k < 2147483648) ∧ P k v ∧ (0 ≤ w 45 3 ∧ 2 * w 45 3 ≤ (mM w t : Int) + 1) ∧ (mM w t < 262144 → 4 * mM w t ≤ 262144)) : Cl (d + 3) 47 [rA 45, (0, k), (1, v)] (enc w t) (fun r S2 => ∃ w2 t2, r = none ∧ S2 = enc w2 t2 ∧ MF w t w2 t2 ∧ MmD w2 t2 ∧ MeP P w2 t2 ∧ GrQ w t w2 t2 ∧ 0 ≤ w2 45 3 ∧ 2 * w2 45 3 ≤ (mM w2 t2 : Int) + 1) := by
  obtain ⟨hD, hP, hk, hv, hu, h4⟩ := h
  have hD0 := hD
  obtain ⟨⟨k0, k1, l1⟩, hM, hs, hT, hne⟩ := hD
  have eM : dyL t (w 45 0) = mM w t := rfl
  refine g_put ⟨Or.inr k0, ?_⟩
  rw [eM, w32_id (x := 2 * w 45 3) (by omega), w32_id (x := (mM w t : Int)) (by omega), w32_id (x := 262144) (by decide)]
  refine ⟨fun h1 => c_put1 hD0 hP hk hv (by omega) (fun w2 g1 g2 g3 g4 g5 g6 g7 => ⟨w2, t, rfl, rfl, g1, g2, g3, Or.inl ⟨rfl, g4, g5⟩, g6, by unfold mM at g7 ⊢; rw [g4]; exact g7⟩), fun h1 => ⟨Or.inr k0, fun h2 => ?_, fun h2 => ⟨w, t, rfl, rfl, MF.rf _ _, hD0, hP, Or.inl ⟨rfl, rfl, rfl⟩, hu⟩⟩⟩
  refine (c_grow hD0 hP (h4 (by omega))).mono (fun r S2 ⟨w2, t2, e1, e2, mf, d2, p2, ⟨q1, q2, q3, q4, q5⟩, e3⟩ => ?_)
  subst e1 e2
  refine ⟨fun _ h9 => (by cases h9), c_put1 d2 p2 hk hv ⟨by rw [e3]; exact hu.1, ?_⟩ (fun w3 g1 g2 g3 g4 g5 g6 g7 => ⟨w3, t2, rfl, rfl, mf.tr g1, g2, g3, Or.inr ⟨by omega, q1, q2, by unfold mM; rw [g4]; exact q3, by rw [g4, q4], by rw [g5, q5]⟩, g6, by unfold mM at g7 ⊢; rw [g4]; exact g7⟩)⟩
  rw [e3, q3]
  omega

