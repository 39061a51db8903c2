/-! The class: arrays copied. -/

theorem g_cpI {d : Nat} {Q : Option aV → aS → Prop} {w : eW} {t : eT} {A n : Int} (h : (0 ≤ A) ∧ (dyK t A 20 ∨ dyK t A 21) ∧ ((¬ w32 n = w32 (dyL t A : Int) → (0 ≤ w32 n ∧ w32 n ≤ 10000000) ∧ (0 ≤ ((102 + t.2.1 : Nat) : Int)) ∧ (0 ≤ A) ∧ (0 ≤ ((102 + t.2.1 : Nat) : Int)) ∧ (0 ≤ A) ∧ (dyK (tn t 20 (w32 n).toNat) A 20 ∨ dyK (tn t 20 (w32 n).toNat) A 21) ∧ (cpP (tn t 20 (w32 n).toNat) A ((102 + t.2.1 : Nat) : Int) (if w32 n < w32 (dyL (tn t 20 (w32 n).toNat) A : Int) then n else (dyL (tn t 20 (w32 n).toNat) A : Int))) ∧ (0 ≤ ((102 + t.2.1 : Nat) : Int)) ∧ (0 ≤ ((102 + t.2.1 : Nat) : Int)) ∧ (Q (some (2, ((102 + t.2.1 : Nat) : Int))) (enc (wc (wz w (102 + t.2.1)) A.toNat ((102 + t.2.1 : Nat) : Int).toNat (w32 (if w32 n < w32 (dyL (tn t 20 (w32 n).toNat) A : Int) then n else (dyL (tn t 20 (w32 n).toNat) A : Int))).toNat) (tn t 20 (w32 n).toNat)))) ∧ (¬ (¬ w32 n = w32 (dyL t A : Int)) → Ev (d + 1) 270 Q 6 [(2, A), (0, n), (9, 0)] [] (enc w t)))) : Cl (d + 1) 270 [(2, A), (0, n)] (enc w t) Q := by
  show Ev (d + 1) 270 Q 0 [(2, A), (0, n), (9, 0)] [] (enc w t)
  refine e_ldi (show am_cd 270 0 = (2, 1, 1, 0, []) by decide +kernel) rfl ?_
  refine e_ldaD (v := A) (show am_cd 270 1 = (2, 2, 0, 2, []) by decide +kernel) rfl h.1 ?_
  replace h := h.2
  refine e_alenD (show am_cd 270 2 = (27, 3, 0, 0, []) by decide +kernel) h.1 ?_
  replace h := h.2
  refine e_cmp1 (show am_cd 270 3 = (11, 6, 14, 1, []) by decide +kernel) (fun hc => ?_) (fun hc => ?_)
  · replace h := h.1 hc
    refine e_ldi (show am_cd 270 14 = (2, 15, 1, 0, []) by decide +kernel) rfl ?_
    refine e_newa (show am_cd 270 15 = (28, 17, 20, 0, []) by decide +kernel) h.1 ?_
    replace h := h.2
    refine e_staD (v := ((102 + t.2.1 : Nat) : Int)) (la2 := [(2, A), (0, n), (2, ((102 + t.2.1 : Nat) : Int))]) (show am_cd 270 17 = (3, 18, 2, 2, []) by decide +kernel) h.1 rfl ?_
    replace h := h.2
    refine e_ldaD (v := A) (show am_cd 270 18 = (2, 19, 0, 2, []) by decide +kernel) rfl h.1 ?_
    replace h := h.2
    refine e_ic (show am_cd 270 19 = (0, 20, 0, 0, []) by decide +kernel) ?_
    refine e_ldaD (v := ((102 + t.2.1 : Nat) : Int)) (show am_cd 270 20 = (2, 21, 2, 2, []) by decide +kernel) rfl h.1 ?_
    replace h := h.2
    refine e_ic (show am_cd 270 21 = (0, 22, 0, 0, []) by decide +kernel) ?_
    refine e_ldaD (v := A) (show am_cd 270 22 = (2, 23, 0, 2, []) by decide +kernel) rfl h.1 ?_
    replace h := h.2
    refine e_alenD (show am_cd 270 23 = (27, 24, 0, 0, []) by decide +kernel) h.1 ?_
    replace h := h.2
    refine e_ldi (show am_cd 270 24 = (2, 25, 1, 0, []) by decide +kernel) rfl ?_
    refine e_min (z := 0) (show am_cd 270 25 = (33, 28, 10, 0, [304]) by decide +kernel) (Nat.le_of_ble_eq_true rfl) ?_
    refine e_acpy (show am_cd 270 28 = (32, 31, 0, 0, [150]) by decide +kernel) (Nat.le_of_ble_eq_true rfl) h.1 ?_
    replace h := h.2
    refine e_ldaD (v := ((102 + t.2.1 : Nat) : Int)) (show am_cd 270 31 = (2, 32, 2, 2, []) by decide +kernel) rfl h.1 ?_
    replace h := h.2
    exact e_reta (show am_cd 270 32 = (36, 33, 2, 0, []) by decide +kernel) (by decide +kernel) h.1 h.2
  · replace h := h.2 hc
    exact h

theorem g_cpL {d : Nat} {Q : Option aV → aS → Prop} {w : eW} {t : eT} {A n : Int} (h : (0 ≤ A) ∧ (dyK t A 20 ∨ dyK t A 21) ∧ ((¬ w32 n = w32 (dyL t A : Int) → (0 ≤ w32 n ∧ w32 n ≤ 10000000) ∧ (0 ≤ ((102 + t.2.1 : Nat) : Int)) ∧ (0 ≤ A) ∧ (0 ≤ ((102 + t.2.1 : Nat) : Int)) ∧ (0 ≤ A) ∧ (dyK (tn t 21 (w32 n).toNat) A 20 ∨ dyK (tn t 21 (w32 n).toNat) A 21) ∧ (cpP (tn t 21 (w32 n).toNat) A ((102 + t.2.1 : Nat) : Int) (if w32 n < w32 (dyL (tn t 21 (w32 n).toNat) A : Int) then n else (dyL (tn t 21 (w32 n).toNat) A : Int))) ∧ (0 ≤ ((102 + t.2.1 : Nat) : Int)) ∧ (0 ≤ ((102 + t.2.1 : Nat) : Int)) ∧ (Q (some (2, ((102 + t.2.1 : Nat) : Int))) (enc (wc (wz w (102 + t.2.1)) A.toNat ((102 + t.2.1 : Nat) : Int).toNat (w32 (if w32 n < w32 (dyL (tn t 21 (w32 n).toNat) A : Int) then n else (dyL (tn t 21 (w32 n).toNat) A : Int))).toNat) (tn t 21 (w32 n).toNat)))) ∧ (¬ (¬ w32 n = w32 (dyL t A : Int)) → Ev (d + 1) 271 Q 6 [(2, A), (0, n), (9, 0)] [] (enc w t)))) : Cl (d + 1) 271 [(2, A), (0, n)] (enc w t) Q := by
  show Ev (d + 1) 271 Q 0 [(2, A), (0, n), (9, 0)] [] (enc w t)
  refine e_ldi (show am_cd 271 0 = (2, 1, 1, 0, []) by decide +kernel) rfl ?_
  refine e_ldaD (v := A) (show am_cd 271 1 = (2, 2, 0, 2, []) by decide +kernel) rfl h.1 ?_
  replace h := h.2
  refine e_alenD (show am_cd 271 2 = (27, 3, 0, 0, []) by decide +kernel) h.1 ?_
  replace h := h.2
  refine e_cmp1 (show am_cd 271 3 = (11, 6, 14, 1, []) by decide +kernel) (fun hc => ?_) (fun hc => ?_)
  · replace h := h.1 hc
    refine e_ldi (show am_cd 271 14 = (2, 15, 1, 0, []) by decide +kernel) rfl ?_
    refine e_newa (show am_cd 271 15 = (28, 17, 21, 0, []) by decide +kernel) h.1 ?_
    replace h := h.2
    refine e_staD (v := ((102 + t.2.1 : Nat) : Int)) (la2 := [(2, A), (0, n), (2, ((102 + t.2.1 : Nat) : Int))]) (show am_cd 271 17 = (3, 18, 2, 2, []) by decide +kernel) h.1 rfl ?_
    replace h := h.2
    refine e_ldaD (v := A) (show am_cd 271 18 = (2, 19, 0, 2, []) by decide +kernel) rfl h.1 ?_
    replace h := h.2
    refine e_ic (show am_cd 271 19 = (0, 20, 0, 0, []) by decide +kernel) ?_
    refine e_ldaD (v := ((102 + t.2.1 : Nat) : Int)) (show am_cd 271 20 = (2, 21, 2, 2, []) by decide +kernel) rfl h.1 ?_
    replace h := h.2
    refine e_ic (show am_cd 271 21 = (0, 22, 0, 0, []) by decide +kernel) ?_
    refine e_ldaD (v := A) (show am_cd 271 22 = (2, 23, 0, 2, []) by decide +kernel) rfl h.1 ?_
    replace h := h.2
    refine e_alenD (show am_cd 271 23 = (27, 24, 0, 0, []) by decide +kernel) h.1 ?_
    replace h := h.2
    refine e_ldi (show am_cd 271 24 = (2, 25, 1, 0, []) by decide +kernel) rfl ?_
    refine e_min (z := 0) (show am_cd 271 25 = (33, 28, 10, 0, [304]) by decide +kernel) (Nat.le_of_ble_eq_true rfl) ?_
    refine e_acpy (show am_cd 271 28 = (32, 31, 0, 0, [150]) by decide +kernel) (Nat.le_of_ble_eq_true rfl) h.1 ?_
    replace h := h.2
    refine e_ldaD (v := ((102 + t.2.1 : Nat) : Int)) (show am_cd 271 31 = (2, 32, 2, 2, []) by decide +kernel) rfl h.1 ?_
    replace h := h.2
    exact e_reta (show am_cd 271 32 = (36, 33, 2, 0, []) by decide +kernel) (by decide +kernel) h.1 h.2
  · replace h := h.2 hc
    exact h

