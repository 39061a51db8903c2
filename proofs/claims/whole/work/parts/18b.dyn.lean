/-! Rows for arrays whose place is not fixed, for switches, for throws, for new arrays. -/
abbrev rA (n : Nat) : aV := (2, (n : Int))
def dyL (t : eT) (a : Int) : Nat := (if 1 ≤ a.toNat ∧ a.toNat < 102 then en_k a.toNat else t.1 a.toNat).2
def dyK (t : eT) (a : Int) (kd : Nat) : Prop := 0 < a ∧ a.toNat < 102 + t.2.1 ∧ (if 1 ≤ a.toNat ∧ a.toNat < 102 then en_k a.toNat else t.1 a.toNat).1 = kd ∧ en_no a.toNat = true
theorem dyK_at {w : eW} {t : eT} {a : Int} {kd : Nat} (h : dyK t a kd) : am_at (enc w t) a kd = true := by
  obtain ⟨h1, h2, h3, h4⟩ := h
  unfold am_at
  simp only [Bool.and_eq_true, decide_eq_true_eq]
  exact ⟨h1, am_pj_lt h2, h3⟩
theorem dyK_ix {w : eW} {t : eT} {a i : Int} (h : 0 ≤ w32 i ∧ w32 i < dyL t a) : am_ix (enc w t) a i = true := by
  unfold am_ix
  simp only [Bool.and_eq_true, decide_eq_true_eq]
  exact h
section EVD
variable {d M pc nx : Nat} {Q : Option aV → aS → Prop} {la st : List aV} {S : aS} {w : eW} {t : eT} {l : List Nat}
theorem e_ldaD {a : Nat} {v : Int} (hc : am_cd M pc = (2, nx, a, 2, l)) (hl : la[a]? = some (2, v)) (h0 : 0 ≤ v) (h : Ev d M Q nx la ((2, v) :: st) S) : Ev d M Q pc la st S := ev_s hc (Nat.le_of_ble_eq_true rfl) (by simp only [am_s1, hl]; exact if_pos ⟨rfl, fun _ => h0⟩) h
theorem e_staD {a : Nat} {v : Int} {la2 : List aV} (hc : am_cd M pc = (3, nx, a, 2, l)) (h0 : 0 ≤ v) (hl : am_set1 la a (2, v) = some la2) (h : Ev d M Q nx la2 st S) : Ev d M Q pc la ((2, v) :: st) S := ev_s hc (Nat.le_of_ble_eq_true rfl) (by simp only [am_s1]; rw [if_pos ⟨rfl, fun _ => h0⟩, if_neg (by decide), hl]; rfl) h
theorem e_ialdD {b0 : Nat} {a i z : Int} (hc : am_cd M pc = (21, nx, b0, z, l)) (hk : dyK t a 20 ∧ 0 ≤ w32 i ∧ w32 i < dyL t a) (h : Ev d M Q nx la ((0, w a.toNat (w32 i).toNat) :: st) (enc w t)) : Ev d M Q pc la ((0, i) :: (2, a) :: st) (enc w t) := by
  refine ev_s hc (Nat.le_of_ble_eq_true rfl) ?_ h
  simp only [am_s1]
  rw [if_pos ⟨dyK_ix hk.2, Or.inl (dyK_at hk.1)⟩]
  simp only [enc, en_noE hk.1.2.2.2, Option.getD_none]
theorem e_laldD {b0 : Nat} {a i z : Int} (hc : am_cd M pc = (22, nx, b0, z, l)) (hk : dyK t a 21 ∧ 0 ≤ w32 i ∧ w32 i < dyL t a) (h : Ev d M Q nx la ((1, w a.toNat (w32 i).toNat) :: st) (enc w t)) : Ev d M Q pc la ((0, i) :: (2, a) :: st) (enc w t) := by
  refine ev_s hc (Nat.le_of_ble_eq_true rfl) ?_ h
  simp only [am_s1]
  rw [if_pos ⟨dyK_ix hk.2, dyK_at hk.1⟩]
  simp only [enc, en_noE hk.1.2.2.2, Option.getD_none]
theorem e_iastD {b0 : Nat} {a i v z : Int} (hc : am_cd M pc = (24, nx, b0, z, l)) (hk : dyK t a 20 ∧ 0 ≤ w32 i ∧ w32 i < dyL t a) (h : Ev d M Q nx la st (enc (wu w a.toNat (w32 i).toNat v) t)) : Ev d M Q pc la ((0, v) :: (0, i) :: (2, a) :: st) (enc w t) := by
  refine ev_s hc (Nat.le_of_ble_eq_true rfl) ?_ h
  simp only [am_s1]
  rw [if_pos ⟨dyK_ix hk.2, dyK_at hk.1⟩, enc_up (en_noE hk.1.2.2.2 _)]
theorem e_lastD {b0 : Nat} {a i v z : Int} (hc : am_cd M pc = (25, nx, b0, z, l)) (hk : dyK t a 21 ∧ 0 ≤ w32 i ∧ w32 i < dyL t a) (h : Ev d M Q nx la st (enc (wu w a.toNat (w32 i).toNat v) t)) : Ev d M Q pc la ((1, v) :: (0, i) :: (2, a) :: st) (enc w t) := by
  refine ev_s hc (Nat.le_of_ble_eq_true rfl) ?_ h
  simp only [am_s1]
  rw [if_pos ⟨dyK_ix hk.2, dyK_at hk.1⟩, enc_up (en_noE hk.1.2.2.2 _)]
theorem e_alenD {b0 : Nat} {a z : Int} (hc : am_cd M pc = (27, nx, b0, z, l)) (hk : dyK t a 20 ∨ dyK t a 21) (h : Ev d M Q nx la ((0, (dyL t a : Int)) :: st) (enc w t)) : Ev d M Q pc la ((2, a) :: st) (enc w t) := by
  refine ev_s hc (Nat.le_of_ble_eq_true rfl) ?_ h
  simp only [am_s1]
  rw [if_pos (by rcases hk with h1 | h1; exact Or.inl (dyK_at h1); exact Or.inr (Or.inl (dyK_at h1)))]
  rfl
theorem e_putr {f a : Nat} {v z : Int} (hc : am_cd M pc = (19, nx, f, z, l)) (ha : en_at a (f / 100) = true) (hr : en_r a (f % 100) = none) (hz : 2 = z.toNat) (h0 : 0 ≤ v) (hb : ¬ am_ty (f / 100) (f % 100) = .boolean) (h : Ev d M Q nx la st (enc (wu w a (f % 100) v) t)) : Ev d M Q pc la ((2, v) :: (2, (a : Int)) :: st) (enc w t) := by
  refine ev_s hc (Nat.le_of_ble_eq_true rfl) ?_ h
  simp only [am_s1]
  rw [if_pos ⟨(en_atE ha).1, hz, fun _ => h0, fun h9 => absurd h9 hb⟩, Int.toNat_natCast, enc_up hr]
/-- a new array's row is of zeros -/
def wz (w : eW) (a : Nat) : eW := fun q j => if q = a then 0 else w q j
def tn (t : eT) (kd n : Nat) : eT := (fun a => if a = 102 + t.2.1 then (kd, n) else t.1 a, t.2.1 + 1, t.2.2 + n)
theorem en_big {a : Nat} (h : 102 ≤ a) (k : Nat) : en_r a k = none := by
  have e : en_rl.getD a [] = [] := by
    rw [List.getD_eq_getElem?_getD, List.getElem?_eq_none_iff.mpr (by have : en_rl.length = 102 := by decide +kernel
                                                                      omega)]
    rfl
  unfold en_r
  rw [e]
  rfl
theorem enc_al {kd n : Nat} : am_al (enc w t) kd n (fun _ => 0) n = enc (wz w (102 + t.2.1)) (tn t kd n) := by
  unfold am_al enc tn wz
  simp only [Prod.mk.injEq, am_pi_big (Nat.le_add_right 102 t.2.1)]
  refine ⟨?_, ?_, rfl, trivial⟩
  · funext q j
    by_cases hq : q = 102 + t.2.1
    · subst hq
      rw [if_pos rfl, if_pos rfl, en_big (by omega)]
      rfl
    · rw [if_neg hq, if_neg hq]
  · funext q
    by_cases hq : q = 102 + t.2.1
    · subst hq
      rw [if_pos rfl, if_neg (by omega), if_pos rfl]
    · rw [if_neg hq]
      by_cases h2 : 1 ≤ q ∧ q < 102
      · rw [if_pos h2, if_pos h2]
      · rw [if_neg h2, if_neg h2, if_neg hq]
theorem e_newa {kd : Nat} {n z : Int} (hc : am_cd M pc = (28, nx, kd, z, l)) (hn : 0 ≤ w32 n ∧ w32 n ≤ 10000000) (h : Ev d M Q nx la ((2, ((102 + t.2.1 : Nat) : Int)) :: st) (enc (wz w (102 + t.2.1)) (tn t kd (w32 n).toNat))) : Ev d M Q pc la ((0, n) :: st) (enc w t) := by
  refine ev_s hc (Nat.le_of_ble_eq_true rfl) ?_ h
  simp only [am_s1]
  rw [if_pos hn, enc_al, show am_pi (enc w t).2.2.1 = 102 + t.2.1 from am_pi_big (Nat.le_add_right 102 t.2.1)]
/-- a throw: one cell more -/
def tx (t : eT) : eT := (fun a => if a = 102 + t.2.1 then (13, 0) else t.1 a, t.2.1 + 1, t.2.2 + 6)
theorem e_thr {a : Nat} {z : Int} (hc : am_cd M pc = (38, nx, a, z, l)) (h : Q (some (6, ((102 + t.2.1 : Nat) : Int))) (enc (wz w (102 + t.2.1)) (tx t))) : Ev d M Q pc la [] (enc w t) := by
  refine ev_r hc (by show ¬ 38 < 36; omega) (Nat.le_of_ble_eq_true rfl) ?_ h
  simp only [am_fi]
  rw [show am_pi (enc w t).2.2.1 = 102 + t.2.1 from am_pi_big (Nat.le_add_right 102 t.2.1)]
  congr 2
  unfold am_al enc tx wz
  simp only [Prod.mk.injEq, am_pi_big (Nat.le_add_right 102 t.2.1)]
  refine ⟨?_, ?_, rfl, trivial⟩
  · funext q j
    by_cases hq : q = 102 + t.2.1
    · subst hq
      rw [if_pos rfl, if_pos rfl, en_big (by omega)]
      rfl
    · rw [if_neg hq, if_neg hq]
  · funext q
    by_cases hq : q = 102 + t.2.1
    · subst hq
      rw [if_pos rfl, if_neg (by omega), if_pos rfl]
    · rw [if_neg hq]
      by_cases h2 : 1 ≤ q ∧ q < 102
      · rw [if_pos h2, if_pos h2]
      · rw [if_neg h2, if_neg h2, if_neg hq]
end EVD
