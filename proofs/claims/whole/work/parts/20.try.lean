/-! a try of the generator -/
theorem g_t_count {d : Nat} {Q : Option aV → aS → Prop} {w : eW} {t : eT} {x : Int} (h : ((w32 x = 0 → Q (some (0, w 8 6)) (enc w t)) ∧ (w32 x = 1 → Q (some (0, w 8 7)) (enc w t)) ∧ (w32 x = 2 → Q (some (0, w 15 12)) (enc w t)) ∧ (w32 x = 3 → Q (some (0, w 28 8)) (enc w t)) ∧ (w32 x = 4 → Q (some (0, w 48 4)) (enc w t)) ∧ (w32 x = 5 → Q (some (0, w 1 14)) (enc w t)) ∧ (w32 x = 6 → Q (some (0, w 2 5)) (enc w t)) ∧ (w32 x = 7 → Q (some (0, w 8 8)) (enc w t)) ∧ ((w32 x < 0 ∨ 8 ≤ w32 x) → Q (some (0, (-1))) (enc w t)))) : Cl (d) 159 [rA 1, (0, x)] (enc w t) Q := by
  show Ev (d) 159 Q 0 [rA 1, (0, x)] [] (enc w t)
  refine e_ldi (show am_cd 159 0 = (2, 1, 1, 0, []) by decide +kernel) rfl ?_
  refine e_tsw (show am_cd 159 1 = (30, 109, 47, 0, [48, 56, 64, 72, 80, 88, 93, 101]) by decide +kernel) (fun i tg hi hx => ?_) (fun hx => ?_)
  · match i, hi with
    | 0, hi => cases hi; replace h := h.1 (by omega)
      refine e_lda (v := 1) (show am_cd 159 48 = (2, 49, 0, 2, []) by decide +kernel) rfl ?_
      refine e_getr (a := 1) (r := 8) (show am_cd 159 49 = (18, 52, 1101, 2, [19]) by decide +kernel) (by decide +kernel) (by decide +kernel) rfl ?_
      refine e_getf (a := 8) (tg := 0) (show am_cd 159 52 = (18, 55, 6, 0, [145]) by decide +kernel) (by decide +kernel) (by decide +kernel) rfl ?_
      exact e_reti (show am_cd 159 55 = (36, 56, 0, 0, []) by decide +kernel) (by decide +kernel) h
    | 1, hi => cases hi; replace h := h.2.1 (by omega)
      refine e_lda (v := 1) (show am_cd 159 56 = (2, 57, 0, 2, []) by decide +kernel) rfl ?_
      refine e_getr (a := 1) (r := 8) (show am_cd 159 57 = (18, 60, 1101, 2, [19]) by decide +kernel) (by decide +kernel) (by decide +kernel) rfl ?_
      refine e_getf (a := 8) (tg := 0) (show am_cd 159 60 = (18, 63, 7, 0, [162]) by decide +kernel) (by decide +kernel) (by decide +kernel) rfl ?_
      exact e_reti (show am_cd 159 63 = (36, 64, 0, 0, []) by decide +kernel) (by decide +kernel) h
    | 2, hi => cases hi; replace h := h.2.2.1 (by omega)
      refine e_lda (v := 1) (show am_cd 159 64 = (2, 65, 0, 2, []) by decide +kernel) rfl ?_
      refine e_getr (a := 1) (r := 15) (show am_cd 159 65 = (18, 68, 1102, 2, [26]) by decide +kernel) (by decide +kernel) (by decide +kernel) rfl ?_
      refine e_getf (a := 15) (tg := 0) (show am_cd 159 68 = (18, 71, 712, 0, [134]) by decide +kernel) (by decide +kernel) (by decide +kernel) rfl ?_
      exact e_reti (show am_cd 159 71 = (36, 72, 0, 0, []) by decide +kernel) (by decide +kernel) h
    | 3, hi => cases hi; replace h := h.2.2.2.1 (by omega)
      refine e_lda (v := 1) (show am_cd 159 72 = (2, 73, 0, 2, []) by decide +kernel) rfl ?_
      refine e_getr (a := 1) (r := 28) (show am_cd 159 73 = (18, 76, 1103, 2, [33]) by decide +kernel) (by decide +kernel) (by decide +kernel) rfl ?_
      refine e_getf (a := 28) (tg := 0) (show am_cd 159 76 = (18, 79, 308, 0, [202]) by decide +kernel) (by decide +kernel) (by decide +kernel) rfl ?_
      exact e_reti (show am_cd 159 79 = (36, 80, 0, 0, []) by decide +kernel) (by decide +kernel) h
    | 4, hi => cases hi; replace h := h.2.2.2.2.1 (by omega)
      refine e_lda (v := 1) (show am_cd 159 80 = (2, 81, 0, 2, []) by decide +kernel) rfl ?_
      refine e_getr (a := 1) (r := 48) (show am_cd 159 81 = (18, 84, 1106, 2, [54]) by decide +kernel) (by decide +kernel) (by decide +kernel) rfl ?_
      refine e_getf (a := 48) (tg := 0) (show am_cd 159 84 = (18, 87, 204, 0, [140]) by decide +kernel) (by decide +kernel) (by decide +kernel) rfl ?_
      exact e_reti (show am_cd 159 87 = (36, 88, 0, 0, []) by decide +kernel) (by decide +kernel) h
    | 5, hi => cases hi; replace h := h.2.2.2.2.2.1 (by omega)
      refine e_lda (v := 1) (show am_cd 159 88 = (2, 89, 0, 2, []) by decide +kernel) rfl ?_
      refine e_getf (a := 1) (tg := 0) (show am_cd 159 89 = (18, 92, 1114, 0, [242]) by decide +kernel) (by decide +kernel) (by decide +kernel) rfl ?_
      exact e_reti (show am_cd 159 92 = (36, 93, 0, 0, []) by decide +kernel) (by decide +kernel) h
    | 6, hi => cases hi; replace h := h.2.2.2.2.2.2.1 (by omega)
      refine e_lda (v := 1) (show am_cd 159 93 = (2, 94, 0, 2, []) by decide +kernel) rfl ?_
      refine e_getr (a := 1) (r := 2) (show am_cd 159 94 = (18, 97, 1100, 2, [12]) by decide +kernel) (by decide +kernel) (by decide +kernel) rfl ?_
      refine e_getf (a := 2) (tg := 0) (show am_cd 159 97 = (18, 100, 805, 0, [105]) by decide +kernel) (by decide +kernel) (by decide +kernel) rfl ?_
      exact e_reti (show am_cd 159 100 = (36, 101, 0, 0, []) by decide +kernel) (by decide +kernel) h
    | 7, hi => cases hi; replace h := h.2.2.2.2.2.2.2.1 (by omega)
      refine e_lda (v := 1) (show am_cd 159 101 = (2, 102, 0, 2, []) by decide +kernel) rfl ?_
      refine e_getr (a := 1) (r := 8) (show am_cd 159 102 = (18, 105, 1101, 2, [19]) by decide +kernel) (by decide +kernel) (by decide +kernel) rfl ?_
      refine e_getf (a := 8) (tg := 0) (show am_cd 159 105 = (18, 108, 8, 0, [372]) by decide +kernel) (by decide +kernel) (by decide +kernel) rfl ?_
      exact e_reti (show am_cd 159 108 = (36, 109, 0, 0, []) by decide +kernel) (by decide +kernel) h
    | i + 8, hi => cases hi
  · replace h := h.2.2.2.2.2.2.2.2 (by simp only [List.length_cons, List.length_nil] at hx; omega)
    refine e_ic (show am_cd 159 109 = (0, 110, 0, -1, []) by decide +kernel) ?_
    exact e_reti (show am_cd 159 110 = (36, 111, 0, 0, []) by decide +kernel) (by decide +kernel) h

theorem g_t_row {d : Nat} {Q : Option aV → aS → Prop} {w : eW} {t : eT} {x : Int} (h : ((w32 x < 0 → Q (some (6, ((101 + t.2.1 : Nat) : Int))) (enc (wz w (101 + t.2.1)) (tx t))) ∧ (¬ (w32 x < 0) → ((w32 x < w32 (w 1 14) → (0 ≤ w32 x ∧ w32 x < 24) ∧ (Q (some (1, w 66 (w32 x).toNat)) (enc w t))) ∧ (¬ (w32 x < w32 (w 1 14)) → Q (some (6, ((101 + t.2.1 : Nat) : Int))) (enc (wz w (101 + t.2.1)) (tx t))))))) : Cl (d) 160 [rA 1, (0, x)] (enc w t) Q := by
  show Ev (d) 160 Q 0 [rA 1, (0, x)] [] (enc w t)
  refine e_ldi (show am_cd 160 0 = (2, 1, 1, 0, []) by decide +kernel) rfl ?_
  refine e_if2 (show am_cd 160 1 = (10, 4, 12, 2, []) by decide +kernel) (fun hc => ?_) (fun hc => ?_)
  · replace h := h.1 hc
    exact e_thr (show am_cd 160 12 = (38, 15, 0, 0, []) by decide +kernel) h
  · replace h := h.2 hc
    refine e_ldi (show am_cd 160 4 = (2, 5, 1, 0, []) by decide +kernel) rfl ?_
    refine e_lda (v := 1) (show am_cd 160 5 = (2, 6, 0, 2, []) by decide +kernel) rfl ?_
    refine e_getf (a := 1) (tg := 0) (show am_cd 160 6 = (18, 9, 1114, 0, [242]) by decide +kernel) (by decide +kernel) (by decide +kernel) rfl ?_
    refine e_cmp2 (show am_cd 160 9 = (11, 12, 20, 2, []) by decide +kernel) (fun hc => ?_) (fun hc => ?_)
    · replace h := h.1 hc
      refine e_lda (v := 1) (show am_cd 160 20 = (2, 21, 0, 2, []) by decide +kernel) rfl ?_
      refine e_getr (a := 1) (r := 66) (show am_cd 160 21 = (18, 24, 1113, 2, [101]) by decide +kernel) (by decide +kernel) (by decide +kernel) rfl ?_
      refine e_ldi (show am_cd 160 24 = (2, 25, 1, 0, []) by decide +kernel) rfl ?_
      refine e_lald (a := 66) (n := 24) (show am_cd 160 25 = (22, 26, 0, 0, []) by decide +kernel) (by decide +kernel) (by decide +kernel) (by decide +kernel) h.1 ?_
      replace h := h.2
      exact e_retl (show am_cd 160 26 = (36, 27, 1, 0, []) by decide +kernel) (by decide +kernel) h
    · replace h := h.2 hc
      exact e_thr (show am_cd 160 12 = (38, 15, 0, 0, []) by decide +kernel) h

theorem g_t_isFree {d : Nat} {Q : Option aV → aS → Prop} {w : eW} {t : eT} {x : Int} (h : (dyK t (w 45 0) 21 ∧ 0 ≤ w32 x ∧ w32 x < dyL t (w 45 0)) ∧ ((w32 (lushr (w (w 45 0).toNat (w32 x).toNat) 32) = w32 (w 45 2) → Q (some (0, 0)) (enc w t)) ∧ (¬ (w32 (lushr (w (w 45 0).toNat (w32 x).toNat) 32) = w32 (w 45 2)) → Q (some (0, 1)) (enc w t)))) : Cl (d) 44 [rA 45, (0, x)] (enc w t) Q := by
  show Ev (d) 44 Q 0 [rA 45, (0, x)] [] (enc w t)
  refine e_lda (v := 45) (show am_cd 44 0 = (2, 1, 0, 2, []) by decide +kernel) rfl ?_
  refine e_getf (a := 45) (tg := 2) (show am_cd 44 1 = (18, 4, 500, 2, [9]) by decide +kernel) (by decide +kernel) (by decide +kernel) rfl ?_
  refine e_ldi (show am_cd 44 4 = (2, 5, 1, 0, []) by decide +kernel) rfl ?_
  refine e_laldD (show am_cd 44 5 = (22, 6, 0, 0, []) by decide +kernel) h.1 ?_
  replace h := h.2
  refine e_ic (show am_cd 44 6 = (0, 8, 1, 32, []) by decide +kernel) ?_
  refine e_lushr (show am_cd 44 8 = (7, 9, 2, 0, []) by decide +kernel) ?_
  refine e_l2i (show am_cd 44 9 = (8, 10, 1, 0, []) by decide +kernel) ?_
  refine e_lda (v := 45) (show am_cd 44 10 = (2, 11, 0, 2, []) by decide +kernel) rfl ?_
  refine e_getf (a := 45) (tg := 0) (show am_cd 44 11 = (18, 14, 502, 0, [18]) by decide +kernel) (by decide +kernel) (by decide +kernel) rfl ?_
  refine e_cmp0 (show am_cd 44 14 = (11, 17, 21, 0, []) by decide +kernel) (fun hc => ?_) (fun hc => ?_)
  · replace h := h.1 hc
    refine e_ic (show am_cd 44 21 = (0, 22, 0, 0, []) by decide +kernel) ?_
    exact e_retz (show am_cd 44 22 = (36, 23, 0, 0, []) by decide +kernel) (by decide +kernel) (Or.inl rfl) h
  · replace h := h.2 hc
    refine e_ic (show am_cd 44 17 = (0, 18, 0, 1, []) by decide +kernel) ?_
    refine e_go (show am_cd 44 18 = (12, 22, 0, 0, []) by decide +kernel) ?_
    exact e_retz (show am_cd 44 22 = (36, 23, 0, 0, []) by decide +kernel) (by decide +kernel) (Or.inr rfl) h

theorem g_t_mayFollow {d : Nat} {Q : Option aV → aS → Prop} {w : eW} {t : eT} {x : Int} (h : ((w32 x < 0 → Q (some (0, 0)) (enc w t)) ∧ (¬ (w32 x < 0) → ((w32 (w 37 7) ≤ w32 x → Q (some (0, 0)) (enc w t)) ∧ (¬ (w32 (w 37 7) ≤ w32 x) → (dyK t (w 37 1) 21 ∧ 0 ≤ w32 x ∧ w32 x < dyL t (w 37 1)) ∧ (Q (some (0, iand (w (w 37 1).toNat (w32 x).toNat) 131071)) (enc w t))))))) : Cl (d) 39 [rA 37, (0, x)] (enc w t) Q := by
  show Ev (d) 39 Q 0 [rA 37, (0, x)] [] (enc w t)
  refine e_ldi (show am_cd 39 0 = (2, 1, 1, 0, []) by decide +kernel) rfl ?_
  refine e_if2 (show am_cd 39 1 = (10, 4, 25, 2, []) by decide +kernel) (fun hc => ?_) (fun hc => ?_)
  · replace h := h.1 hc
    refine e_ic (show am_cd 39 25 = (0, 26, 0, 0, []) by decide +kernel) ?_
    exact e_reti (show am_cd 39 26 = (36, 27, 0, 0, []) by decide +kernel) (by decide +kernel) h
  · replace h := h.2 hc
    refine e_ldi (show am_cd 39 4 = (2, 5, 1, 0, []) by decide +kernel) rfl ?_
    refine e_lda (v := 37) (show am_cd 39 5 = (2, 6, 0, 2, []) by decide +kernel) rfl ?_
    refine e_getf (a := 37) (tg := 0) (show am_cd 39 6 = (18, 9, 407, 0, [38]) by decide +kernel) (by decide +kernel) (by decide +kernel) rfl ?_
    refine e_cmp3 (show am_cd 39 9 = (11, 12, 25, 3, []) by decide +kernel) (fun hc => ?_) (fun hc => ?_)
    · replace h := h.1 hc
      refine e_ic (show am_cd 39 25 = (0, 26, 0, 0, []) by decide +kernel) ?_
      exact e_reti (show am_cd 39 26 = (36, 27, 0, 0, []) by decide +kernel) (by decide +kernel) h
    · replace h := h.2 hc
      refine e_lda (v := 37) (show am_cd 39 12 = (2, 13, 0, 2, []) by decide +kernel) rfl ?_
      refine e_getf (a := 37) (tg := 2) (show am_cd 39 13 = (18, 16, 401, 2, [15]) by decide +kernel) (by decide +kernel) (by decide +kernel) rfl ?_
      refine e_ldi (show am_cd 39 16 = (2, 17, 1, 0, []) by decide +kernel) rfl ?_
      refine e_laldD (show am_cd 39 17 = (22, 18, 0, 0, []) by decide +kernel) h.1 ?_
      replace h := h.2
      refine e_l2i (show am_cd 39 18 = (8, 19, 1, 0, []) by decide +kernel) ?_
      refine e_ic (show am_cd 39 19 = (0, 21, 3, 131071, [99]) by decide +kernel) ?_
      refine e_iand (show am_cd 39 21 = (5, 22, 3, 0, []) by decide +kernel) ?_
      refine e_go (show am_cd 39 22 = (12, 26, 0, 0, []) by decide +kernel) ?_
      exact e_reti (show am_cd 39 26 = (36, 27, 0, 0, []) by decide +kernel) (by decide +kernel) h

theorem g_t_mcount {d : Nat} {Q : Option aV → aS → Prop} {w : eW} {t : eT} {x : Int} (h : ((w32 x = 0 → Q (some (0, (wu w 67 26 0) 67 0)) (enc (wu w 67 26 0) t)) ∧ (w32 x = 1 → Q (some (0, (wu w 67 26 0) 67 3)) (enc (wu w 67 26 0) t)) ∧ (w32 x = 2 → Q (some (0, (wu w 67 26 0) 67 6)) (enc (wu w 67 26 0) t)) ∧ (w32 x = 3 → Q (some (0, (wu w 67 26 0) 67 12)) (enc (wu w 67 26 0) t)) ∧ (w32 x = 4 → Q (some (0, (wu w 67 26 0) 67 17)) (enc (wu w 67 26 0) t)) ∧ (w32 x = 5 → Q (some (0, (wu w 67 26 0) 67 25)) (enc (wu w 67 26 0) t)) ∧ (w32 x = 6 → Q (some (0, (wu w 67 26 0) 67 23)) (enc (wu w 67 26 0) t)) ∧ (w32 x = 7 → Ev (d) 265 Q 93 [rA 67, (0, x), (0, 0), (0, 0)] [] (enc (wu w 67 26 0) t)) ∧ ((w32 x < 0 ∨ 8 ≤ w32 x) → Q (some (0, (-1))) (enc (wu w 67 26 0) t)))) : Cl (d) 265 [rA 67, (0, x)] (enc w t) Q := by
  show Ev (d) 265 Q 0 [rA 67, (0, x), (9, 0), (9, 0)] [] (enc w t)
  refine e_lda (v := 67) (show am_cd 265 0 = (2, 1, 0, 2, []) by decide +kernel) rfl ?_
  refine e_ic (show am_cd 265 1 = (0, 2, 0, 0, []) by decide +kernel) ?_
  refine e_putf (a := 67) (show am_cd 265 2 = (19, 5, 1226, 0, [113]) by decide +kernel) (by decide +kernel) (by decide +kernel) rfl (fun h9 => absurd h9 (by decide)) (fun h9 => absurd h9 (by decide +kernel)) ?_
  refine e_ic (show am_cd 265 5 = (0, 6, 0, 0, []) by decide +kernel) ?_
  refine e_sti (la2 := [rA 67, (0, x), (0, 0), (9, 0)]) (show am_cd 265 6 = (3, 7, 2, 0, []) by decide +kernel) rfl ?_
  refine e_ldi (show am_cd 265 7 = (2, 8, 1, 0, []) by decide +kernel) rfl ?_
  refine e_tsw (show am_cd 265 8 = (30, 130, 48, 0, [56, 61, 66, 71, 76, 81, 86, 91]) by decide +kernel) (fun i tg hi hx => ?_) (fun hx => ?_)
  · match i, hi with
    | 0, hi => cases hi; replace h := h.1 (by omega)
      refine e_lda (v := 67) (show am_cd 265 56 = (2, 57, 0, 2, []) by decide +kernel) rfl ?_
      refine e_getf (a := 67) (tg := 0) (show am_cd 265 57 = (18, 60, 1200, 0, [168]) by decide +kernel) (by decide +kernel) (by decide +kernel) rfl ?_
      exact e_reti (show am_cd 265 60 = (36, 61, 0, 0, []) by decide +kernel) (by decide +kernel) h
    | 1, hi => cases hi; replace h := h.2.1 (by omega)
      refine e_lda (v := 67) (show am_cd 265 61 = (2, 62, 0, 2, []) by decide +kernel) rfl ?_
      refine e_getf (a := 67) (tg := 0) (show am_cd 265 62 = (18, 65, 1203, 0, [180]) by decide +kernel) (by decide +kernel) (by decide +kernel) rfl ?_
      exact e_reti (show am_cd 265 65 = (36, 66, 0, 0, []) by decide +kernel) (by decide +kernel) h
    | 2, hi => cases hi; replace h := h.2.2.1 (by omega)
      refine e_lda (v := 67) (show am_cd 265 66 = (2, 67, 0, 2, []) by decide +kernel) rfl ?_
      refine e_getf (a := 67) (tg := 0) (show am_cd 265 67 = (18, 70, 1206, 0, [183]) by decide +kernel) (by decide +kernel) (by decide +kernel) rfl ?_
      exact e_reti (show am_cd 265 70 = (36, 71, 0, 0, []) by decide +kernel) (by decide +kernel) h
    | 3, hi => cases hi; replace h := h.2.2.2.1 (by omega)
      refine e_lda (v := 67) (show am_cd 265 71 = (2, 72, 0, 2, []) by decide +kernel) rfl ?_
      refine e_getf (a := 67) (tg := 0) (show am_cd 265 72 = (18, 75, 1212, 0, [186]) by decide +kernel) (by decide +kernel) (by decide +kernel) rfl ?_
      exact e_reti (show am_cd 265 75 = (36, 76, 0, 0, []) by decide +kernel) (by decide +kernel) h
    | 4, hi => cases hi; replace h := h.2.2.2.2.1 (by omega)
      refine e_lda (v := 67) (show am_cd 265 76 = (2, 77, 0, 2, []) by decide +kernel) rfl ?_
      refine e_getf (a := 67) (tg := 0) (show am_cd 265 77 = (18, 80, 1217, 0, [189]) by decide +kernel) (by decide +kernel) (by decide +kernel) rfl ?_
      exact e_reti (show am_cd 265 80 = (36, 81, 0, 0, []) by decide +kernel) (by decide +kernel) h
    | 5, hi => cases hi; replace h := h.2.2.2.2.2.1 (by omega)
      refine e_lda (v := 67) (show am_cd 265 81 = (2, 82, 0, 2, []) by decide +kernel) rfl ?_
      refine e_getf (a := 67) (tg := 0) (show am_cd 265 82 = (18, 85, 1225, 0, [116]) by decide +kernel) (by decide +kernel) (by decide +kernel) rfl ?_
      exact e_reti (show am_cd 265 85 = (36, 86, 0, 0, []) by decide +kernel) (by decide +kernel) h
    | 6, hi => cases hi; replace h := h.2.2.2.2.2.2.1 (by omega)
      refine e_lda (v := 67) (show am_cd 265 86 = (2, 87, 0, 2, []) by decide +kernel) rfl ?_
      refine e_getf (a := 67) (tg := 0) (show am_cd 265 87 = (18, 90, 1223, 0, [119]) by decide +kernel) (by decide +kernel) (by decide +kernel) rfl ?_
      exact e_reti (show am_cd 265 90 = (36, 91, 0, 0, []) by decide +kernel) (by decide +kernel) h
    | 7, hi => cases hi; replace h := h.2.2.2.2.2.2.2.1 (by omega)
      refine e_ic (show am_cd 265 91 = (0, 92, 0, 0, []) by decide +kernel) ?_
      refine e_sti (la2 := [rA 67, (0, x), (0, 0), (0, 0)]) (show am_cd 265 92 = (3, 93, 3, 0, []) by decide +kernel) rfl ?_
      exact h
    | i + 8, hi => cases hi
  · replace h := h.2.2.2.2.2.2.2.2 (by simp only [List.length_cons, List.length_nil] at hx; omega)
    refine e_ic (show am_cd 265 130 = (0, 131, 0, -1, []) by decide +kernel) ?_
    exact e_reti (show am_cd 265 131 = (36, 132, 0, 0, []) by decide +kernel) (by decide +kernel) h

theorem g_t_behind {d : Nat} {Q : Option aV → aS → Prop} {w : eW} {t : eT} {x y : Int} (h : ((w32 x < 0 → ((w32 0 = 0 → Q (some (0, (-1))) (enc w t)) ∧ (¬ (w32 0 = 0) → (dyK t (w 37 6) 20 ∧ 0 ≤ w32 ((x * 16) + y) ∧ w32 ((x * 16) + y) < dyL t (w 37 6)) ∧ (Q (some (0, w (w 37 6).toNat (w32 ((x * 16) + y)).toNat)) (enc w t))))) ∧ (¬ (w32 x < 0) → ((w32 (w 37 7) ≤ w32 x → ((w32 0 = 0 → Q (some (0, (-1))) (enc w t)) ∧ (¬ (w32 0 = 0) → (dyK t (w 37 6) 20 ∧ 0 ≤ w32 ((x * 16) + y) ∧ w32 ((x * 16) + y) < dyL t (w 37 6)) ∧ (Q (some (0, w (w 37 6).toNat (w32 ((x * 16) + y)).toNat)) (enc w t))))) ∧ (¬ (w32 (w 37 7) ≤ w32 x) → ((w32 y < 0 → ((w32 0 = 0 → Q (some (0, (-1))) (enc w t)) ∧ (¬ (w32 0 = 0) → (dyK t (w 37 6) 20 ∧ 0 ≤ w32 ((x * 16) + y) ∧ w32 ((x * 16) + y) < dyL t (w 37 6)) ∧ (Q (some (0, w (w 37 6).toNat (w32 ((x * 16) + y)).toNat)) (enc w t))))) ∧ (¬ (w32 y < 0) → ((w32 16 ≤ w32 y → ((w32 0 = 0 → Q (some (0, (-1))) (enc w t)) ∧ (¬ (w32 0 = 0) → (dyK t (w 37 6) 20 ∧ 0 ≤ w32 ((x * 16) + y) ∧ w32 ((x * 16) + y) < dyL t (w 37 6)) ∧ (Q (some (0, w (w 37 6).toNat (w32 ((x * 16) + y)).toNat)) (enc w t))))) ∧ (¬ (w32 16 ≤ w32 y) → ((w32 1 = 0 → Q (some (0, (-1))) (enc w t)) ∧ (¬ (w32 1 = 0) → (dyK t (w 37 6) 20 ∧ 0 ≤ w32 ((x * 16) + y) ∧ w32 ((x * 16) + y) < dyL t (w 37 6)) ∧ (Q (some (0, w (w 37 6).toNat (w32 ((x * 16) + y)).toNat)) (enc w t))))))))))))) : Cl (d) 41 [rA 37, (0, x), (0, y)] (enc w t) Q := by
  show Ev (d) 41 Q 0 [rA 37, (0, x), (0, y), (9, 0)] [] (enc w t)
  refine e_ldi (show am_cd 41 0 = (2, 1, 1, 0, []) by decide +kernel) rfl ?_
  refine e_if2 (show am_cd 41 1 = (10, 4, 26, 2, []) by decide +kernel) (fun hc => ?_) (fun hc => ?_)
  · replace h := h.1 hc
    refine e_ic (show am_cd 41 26 = (0, 27, 0, 0, []) by decide +kernel) ?_
    refine e_sti (la2 := [rA 37, (0, x), (0, y), (0, 0)]) (show am_cd 41 27 = (3, 28, 3, 0, []) by decide +kernel) rfl ?_
    refine e_ldi (show am_cd 41 28 = (2, 29, 3, 0, []) by decide +kernel) rfl ?_
    refine e_if0 (show am_cd 41 29 = (10, 32, 46, 0, []) by decide +kernel) (fun hc => ?_) (fun hc => ?_)
    · replace h := h.1 hc
      refine e_ic (show am_cd 41 46 = (0, 47, 0, -1, []) by decide +kernel) ?_
      exact e_reti (show am_cd 41 47 = (36, 48, 0, 0, []) by decide +kernel) (by decide +kernel) h
    · replace h := h.2 hc
      refine e_lda (v := 37) (show am_cd 41 32 = (2, 33, 0, 2, []) by decide +kernel) rfl ?_
      refine e_getf (a := 37) (tg := 2) (show am_cd 41 33 = (18, 36, 406, 2, [31]) by decide +kernel) (by decide +kernel) (by decide +kernel) rfl ?_
      refine e_ldi (show am_cd 41 36 = (2, 37, 1, 0, []) by decide +kernel) rfl ?_
      refine e_ic (show am_cd 41 37 = (0, 39, 1, 16, []) by decide +kernel) ?_
      refine e_imul (show am_cd 41 39 = (5, 40, 2, 0, []) by decide +kernel) ?_
      refine e_ldi (show am_cd 41 40 = (2, 41, 2, 0, []) by decide +kernel) rfl ?_
      refine e_iadd (show am_cd 41 41 = (5, 42, 0, 0, []) by decide +kernel) ?_
      refine e_ialdD (show am_cd 41 42 = (21, 43, 0, 0, []) by decide +kernel) h.1 ?_
      replace h := h.2
      refine e_go (show am_cd 41 43 = (12, 47, 0, 0, []) by decide +kernel) ?_
      exact e_reti (show am_cd 41 47 = (36, 48, 0, 0, []) by decide +kernel) (by decide +kernel) h
  · replace h := h.2 hc
    refine e_ldi (show am_cd 41 4 = (2, 5, 1, 0, []) by decide +kernel) rfl ?_
    refine e_lda (v := 37) (show am_cd 41 5 = (2, 6, 0, 2, []) by decide +kernel) rfl ?_
    refine e_getf (a := 37) (tg := 0) (show am_cd 41 6 = (18, 9, 407, 0, [38]) by decide +kernel) (by decide +kernel) (by decide +kernel) rfl ?_
    refine e_cmp3 (show am_cd 41 9 = (11, 12, 26, 3, []) by decide +kernel) (fun hc => ?_) (fun hc => ?_)
    · replace h := h.1 hc
      refine e_ic (show am_cd 41 26 = (0, 27, 0, 0, []) by decide +kernel) ?_
      refine e_sti (la2 := [rA 37, (0, x), (0, y), (0, 0)]) (show am_cd 41 27 = (3, 28, 3, 0, []) by decide +kernel) rfl ?_
      refine e_ldi (show am_cd 41 28 = (2, 29, 3, 0, []) by decide +kernel) rfl ?_
      refine e_if0 (show am_cd 41 29 = (10, 32, 46, 0, []) by decide +kernel) (fun hc => ?_) (fun hc => ?_)
      · replace h := h.1 hc
        refine e_ic (show am_cd 41 46 = (0, 47, 0, -1, []) by decide +kernel) ?_
        exact e_reti (show am_cd 41 47 = (36, 48, 0, 0, []) by decide +kernel) (by decide +kernel) h
      · replace h := h.2 hc
        refine e_lda (v := 37) (show am_cd 41 32 = (2, 33, 0, 2, []) by decide +kernel) rfl ?_
        refine e_getf (a := 37) (tg := 2) (show am_cd 41 33 = (18, 36, 406, 2, [31]) by decide +kernel) (by decide +kernel) (by decide +kernel) rfl ?_
        refine e_ldi (show am_cd 41 36 = (2, 37, 1, 0, []) by decide +kernel) rfl ?_
        refine e_ic (show am_cd 41 37 = (0, 39, 1, 16, []) by decide +kernel) ?_
        refine e_imul (show am_cd 41 39 = (5, 40, 2, 0, []) by decide +kernel) ?_
        refine e_ldi (show am_cd 41 40 = (2, 41, 2, 0, []) by decide +kernel) rfl ?_
        refine e_iadd (show am_cd 41 41 = (5, 42, 0, 0, []) by decide +kernel) ?_
        refine e_ialdD (show am_cd 41 42 = (21, 43, 0, 0, []) by decide +kernel) h.1 ?_
        replace h := h.2
        refine e_go (show am_cd 41 43 = (12, 47, 0, 0, []) by decide +kernel) ?_
        exact e_reti (show am_cd 41 47 = (36, 48, 0, 0, []) by decide +kernel) (by decide +kernel) h
    · replace h := h.2 hc
      refine e_ldi (show am_cd 41 12 = (2, 13, 2, 0, []) by decide +kernel) rfl ?_
      refine e_if2 (show am_cd 41 13 = (10, 16, 26, 2, []) by decide +kernel) (fun hc => ?_) (fun hc => ?_)
      · replace h := h.1 hc
        refine e_ic (show am_cd 41 26 = (0, 27, 0, 0, []) by decide +kernel) ?_
        refine e_sti (la2 := [rA 37, (0, x), (0, y), (0, 0)]) (show am_cd 41 27 = (3, 28, 3, 0, []) by decide +kernel) rfl ?_
        refine e_ldi (show am_cd 41 28 = (2, 29, 3, 0, []) by decide +kernel) rfl ?_
        refine e_if0 (show am_cd 41 29 = (10, 32, 46, 0, []) by decide +kernel) (fun hc => ?_) (fun hc => ?_)
        · replace h := h.1 hc
          refine e_ic (show am_cd 41 46 = (0, 47, 0, -1, []) by decide +kernel) ?_
          exact e_reti (show am_cd 41 47 = (36, 48, 0, 0, []) by decide +kernel) (by decide +kernel) h
        · replace h := h.2 hc
          refine e_lda (v := 37) (show am_cd 41 32 = (2, 33, 0, 2, []) by decide +kernel) rfl ?_
          refine e_getf (a := 37) (tg := 2) (show am_cd 41 33 = (18, 36, 406, 2, [31]) by decide +kernel) (by decide +kernel) (by decide +kernel) rfl ?_
          refine e_ldi (show am_cd 41 36 = (2, 37, 1, 0, []) by decide +kernel) rfl ?_
          refine e_ic (show am_cd 41 37 = (0, 39, 1, 16, []) by decide +kernel) ?_
          refine e_imul (show am_cd 41 39 = (5, 40, 2, 0, []) by decide +kernel) ?_
          refine e_ldi (show am_cd 41 40 = (2, 41, 2, 0, []) by decide +kernel) rfl ?_
          refine e_iadd (show am_cd 41 41 = (5, 42, 0, 0, []) by decide +kernel) ?_
          refine e_ialdD (show am_cd 41 42 = (21, 43, 0, 0, []) by decide +kernel) h.1 ?_
          replace h := h.2
          refine e_go (show am_cd 41 43 = (12, 47, 0, 0, []) by decide +kernel) ?_
          exact e_reti (show am_cd 41 47 = (36, 48, 0, 0, []) by decide +kernel) (by decide +kernel) h
      · replace h := h.2 hc
        refine e_ldi (show am_cd 41 16 = (2, 17, 2, 0, []) by decide +kernel) rfl ?_
        refine e_ic (show am_cd 41 17 = (0, 19, 1, 16, []) by decide +kernel) ?_
        refine e_cmp3 (show am_cd 41 19 = (11, 22, 26, 3, []) by decide +kernel) (fun hc => ?_) (fun hc => ?_)
        · replace h := h.1 hc
          refine e_ic (show am_cd 41 26 = (0, 27, 0, 0, []) by decide +kernel) ?_
          refine e_sti (la2 := [rA 37, (0, x), (0, y), (0, 0)]) (show am_cd 41 27 = (3, 28, 3, 0, []) by decide +kernel) rfl ?_
          refine e_ldi (show am_cd 41 28 = (2, 29, 3, 0, []) by decide +kernel) rfl ?_
          refine e_if0 (show am_cd 41 29 = (10, 32, 46, 0, []) by decide +kernel) (fun hc => ?_) (fun hc => ?_)
          · replace h := h.1 hc
            refine e_ic (show am_cd 41 46 = (0, 47, 0, -1, []) by decide +kernel) ?_
            exact e_reti (show am_cd 41 47 = (36, 48, 0, 0, []) by decide +kernel) (by decide +kernel) h
          · replace h := h.2 hc
            refine e_lda (v := 37) (show am_cd 41 32 = (2, 33, 0, 2, []) by decide +kernel) rfl ?_
            refine e_getf (a := 37) (tg := 2) (show am_cd 41 33 = (18, 36, 406, 2, [31]) by decide +kernel) (by decide +kernel) (by decide +kernel) rfl ?_
            refine e_ldi (show am_cd 41 36 = (2, 37, 1, 0, []) by decide +kernel) rfl ?_
            refine e_ic (show am_cd 41 37 = (0, 39, 1, 16, []) by decide +kernel) ?_
            refine e_imul (show am_cd 41 39 = (5, 40, 2, 0, []) by decide +kernel) ?_
            refine e_ldi (show am_cd 41 40 = (2, 41, 2, 0, []) by decide +kernel) rfl ?_
            refine e_iadd (show am_cd 41 41 = (5, 42, 0, 0, []) by decide +kernel) ?_
            refine e_ialdD (show am_cd 41 42 = (21, 43, 0, 0, []) by decide +kernel) h.1 ?_
            replace h := h.2
            refine e_go (show am_cd 41 43 = (12, 47, 0, 0, []) by decide +kernel) ?_
            exact e_reti (show am_cd 41 47 = (36, 48, 0, 0, []) by decide +kernel) (by decide +kernel) h
        · replace h := h.2 hc
          refine e_ic (show am_cd 41 22 = (0, 23, 0, 1, []) by decide +kernel) ?_
          refine e_go (show am_cd 41 23 = (12, 27, 0, 0, []) by decide +kernel) ?_
          refine e_sti (la2 := [rA 37, (0, x), (0, y), (0, 1)]) (show am_cd 41 27 = (3, 28, 3, 0, []) by decide +kernel) rfl ?_
          refine e_ldi (show am_cd 41 28 = (2, 29, 3, 0, []) by decide +kernel) rfl ?_
          refine e_if0 (show am_cd 41 29 = (10, 32, 46, 0, []) by decide +kernel) (fun hc => ?_) (fun hc => ?_)
          · replace h := h.1 hc
            refine e_ic (show am_cd 41 46 = (0, 47, 0, -1, []) by decide +kernel) ?_
            exact e_reti (show am_cd 41 47 = (36, 48, 0, 0, []) by decide +kernel) (by decide +kernel) h
          · replace h := h.2 hc
            refine e_lda (v := 37) (show am_cd 41 32 = (2, 33, 0, 2, []) by decide +kernel) rfl ?_
            refine e_getf (a := 37) (tg := 2) (show am_cd 41 33 = (18, 36, 406, 2, [31]) by decide +kernel) (by decide +kernel) (by decide +kernel) rfl ?_
            refine e_ldi (show am_cd 41 36 = (2, 37, 1, 0, []) by decide +kernel) rfl ?_
            refine e_ic (show am_cd 41 37 = (0, 39, 1, 16, []) by decide +kernel) ?_
            refine e_imul (show am_cd 41 39 = (5, 40, 2, 0, []) by decide +kernel) ?_
            refine e_ldi (show am_cd 41 40 = (2, 41, 2, 0, []) by decide +kernel) rfl ?_
            refine e_iadd (show am_cd 41 41 = (5, 42, 0, 0, []) by decide +kernel) ?_
            refine e_ialdD (show am_cd 41 42 = (21, 43, 0, 0, []) by decide +kernel) h.1 ?_
            replace h := h.2
            refine e_go (show am_cd 41 43 = (12, 47, 0, 0, []) by decide +kernel) ?_
            exact e_reti (show am_cd 41 47 = (36, 48, 0, 0, []) by decide +kernel) (by decide +kernel) h

