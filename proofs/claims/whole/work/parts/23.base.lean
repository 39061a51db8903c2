/-! Further rows: reads that are resolved, constants, compares of longs, copies of arrays. -/
section EVK
variable {d M pc nx : Nat} {Q : Option aV → aS → Prop} {la st : List aV} {S : aS} {w : eW} {t : eT} {l : List Nat}
theorem e_getfE {f a tg : Nat} {z v : Int} (hc : am_cd M pc = (18, nx, f, z, l)) (ha : en_at a (f / 100) = true) (hr : en_r a (f % 100) = none) (hz : z.toNat = tg) (hv : w a (f % 100) = v) (h : Ev d M Q nx la ((tg, v) :: st) (enc w t)) : Ev d M Q pc la ((2, (a : Int)) :: st) (enc w t) := e_getf hc ha hr hz (by rw [hv]; exact h)
theorem e_ialdE {a b0 n : Nat} {i z v : Int} (hc : am_cd M pc = (21, nx, b0, z, l)) (ha : en_at a 20 = true) (hr : en_no a = true) (hn : (en_k a).2 = n) (hi : 0 ≤ w32 i ∧ w32 i < n) (hv : w a (w32 i).toNat = v) (h : Ev d M Q nx la ((0, v) :: st) (enc w t)) : Ev d M Q pc la ((0, i) :: (2, (a : Int)) :: st) (enc w t) := e_iald hc ha hr hn hi (by rw [hv]; exact h)
theorem e_ialdK {a b0 n j : Nat} {i z v : Int} (hc : am_cd M pc = (21, nx, b0, z, l)) (ha : en_at a 20 = true) (hr : en_no a = true) (hn : (en_k a).2 = n) (hi : 0 ≤ w32 i ∧ w32 i < n) (hj : (w32 i).toNat = j) (hv : w a j = v) (h : Ev d M Q nx la ((0, v) :: st) (enc w t)) : Ev d M Q pc la ((0, i) :: (2, (a : Int)) :: st) (enc w t) := e_iald hc ha hr hn hi (by rw [hj, hv]; exact h)
theorem e_laldE {a b0 n : Nat} {i z v : Int} (hc : am_cd M pc = (22, nx, b0, z, l)) (ha : en_at a 21 = true) (hr : en_no a = true) (hn : (en_k a).2 = n) (hi : 0 ≤ w32 i ∧ w32 i < n) (hv : w a (w32 i).toNat = v) (h : Ev d M Q nx la ((1, v) :: st) (enc w t)) : Ev d M Q pc la ((0, i) :: (2, (a : Int)) :: st) (enc w t) := e_lald hc ha hr hn hi (by rw [hv]; exact h)
theorem e_laldK {a b0 n j : Nat} {i z v : Int} (hc : am_cd M pc = (22, nx, b0, z, l)) (ha : en_at a 21 = true) (hr : en_no a = true) (hn : (en_k a).2 = n) (hi : 0 ≤ w32 i ∧ w32 i < n) (hj : (w32 i).toNat = j) (hv : w a j = v) (h : Ev d M Q nx la ((1, v) :: st) (enc w t)) : Ev d M Q pc la ((0, i) :: (2, (a : Int)) :: st) (enc w t) := e_lald hc ha hr hn hi (by rw [hj, hv]; exact h)
theorem e_baldE {a b0 n : Nat} {i z v : Int} (hc : am_cd M pc = (23, nx, b0, z, l)) (ha : en_at a 22 = true) (hr : en_no a = true) (hn : (en_k a).2 = n) (hi : 0 ≤ w32 i ∧ w32 i < n) (hv : w a (w32 i).toNat = v) (h : Ev d M Q nx la ((0, v) :: st) (enc w t)) : Ev d M Q pc la ((0, i) :: (2, (a : Int)) :: st) (enc w t) := e_bald hc ha hr hn hi (by rw [hv]; exact h)
theorem e_baldK {a b0 n j : Nat} {i z v : Int} (hc : am_cd M pc = (23, nx, b0, z, l)) (ha : en_at a 22 = true) (hr : en_no a = true) (hn : (en_k a).2 = n) (hi : 0 ≤ w32 i ∧ w32 i < n) (hj : (w32 i).toNat = j) (hv : w a j = v) (h : Ev d M Q nx la ((0, v) :: st) (enc w t)) : Ev d M Q pc la ((0, i) :: (2, (a : Int)) :: st) (enc w t) := e_bald hc ha hr hn hi (by rw [hj, hv]; exact h)
theorem e_iastK {a b0 n j : Nat} {i v z : Int} (hc : am_cd M pc = (24, nx, b0, z, l)) (ha : en_at a 20 = true) (hr : en_no a = true) (hn : (en_k a).2 = n) (hi : 0 ≤ w32 i ∧ w32 i < n) (hj : (w32 i).toNat = j) (h : Ev d M Q nx la st (enc (wu w a j v) t)) : Ev d M Q pc la ((0, v) :: (0, i) :: (2, (a : Int)) :: st) (enc w t) := e_iast hc ha hr hn hi (by rw [hj]; exact h)
theorem e_lastK {a b0 n j : Nat} {i v z : Int} (hc : am_cd M pc = (25, nx, b0, z, l)) (ha : en_at a 21 = true) (hr : en_no a = true) (hn : (en_k a).2 = n) (hi : 0 ≤ w32 i ∧ w32 i < n) (hj : (w32 i).toNat = j) (h : Ev d M Q nx la st (enc (wu w a j v) t)) : Ev d M Q pc la ((1, v) :: (0, i) :: (2, (a : Int)) :: st) (enc w t) := e_last hc ha hr hn hi (by rw [hj]; exact h)
theorem e_bastK {a b0 n j : Nat} {i v z : Int} (hc : am_cd M pc = (26, nx, b0, z, l)) (ha : en_at a 22 = true) (hr : en_no a = true) (hn : (en_k a).2 = n) (hi : 0 ≤ w32 i ∧ w32 i < n) (hj : (w32 i).toNat = j) (h : Ev d M Q nx la st (enc (wu w a j (Int32.ofInt v).toInt8.toInt) t)) : Ev d M Q pc la ((0, v) :: (0, i) :: (2, (a : Int)) :: st) (enc w t) := e_bast hc ha hr hn hi (by rw [hj]; exact h)
theorem e_iok {o0 : Nat} {x y r z : Int} (hc : am_cd M pc = (5, nx, o0, z, l)) (hz : ¬ (9 ≤ o0 ∧ w32 y = 0)) (hr : am_io o0 x y = r) (h : Ev d M Q nx la ((0, r) :: st) S) : Ev d M Q pc la ((0, y) :: (0, x) :: st) S := ev_s hc (Nat.le_of_ble_eq_true rfl) (by simp only [am_s1]; rw [if_neg hz, hr]) h
theorem e_i2lK {x r z : Int} (hc : am_cd M pc = (8, nx, 0, z, l)) (hr : w32 x = r) (h : Ev d M Q nx la ((1, r) :: st) S) : Ev d M Q pc la ((0, x) :: st) S := e_i2l hc (by rw [hr]; exact h)
theorem e_ifT {x k : Int} {tg : Nat} (hc : am_cd M pc = (10, nx, tg, k, l)) (hb : am_cb k (w32 x) 0 = true) (h : Ev d M Q tg la st S) : Ev d M Q pc la ((0, x) :: st) S := ev_s hc (Nat.le_of_ble_eq_true rfl) (by simp only [am_s1]; rw [if_pos hb]) h
theorem e_ifF {x k : Int} {tg : Nat} (hc : am_cd M pc = (10, nx, tg, k, l)) (hb : am_cb k (w32 x) 0 = false) (h : Ev d M Q nx la st S) : Ev d M Q pc la ((0, x) :: st) S := ev_s hc (Nat.le_of_ble_eq_true rfl) (by simp only [am_s1]; rw [if_neg (by rw [hb]; decide)]) h
theorem e_cmpT {x y k : Int} {tg : Nat} (hc : am_cd M pc = (11, nx, tg, k, l)) (hb : am_cb k (w32 x) (w32 y) = true) (h : Ev d M Q tg la st S) : Ev d M Q pc la ((0, y) :: (0, x) :: st) S := ev_s hc (Nat.le_of_ble_eq_true rfl) (by simp only [am_s1]; rw [if_pos hb]) h
theorem e_cmpF {x y k : Int} {tg : Nat} (hc : am_cd M pc = (11, nx, tg, k, l)) (hb : am_cb k (w32 x) (w32 y) = false) (h : Ev d M Q nx la st S) : Ev d M Q pc la ((0, y) :: (0, x) :: st) S := ev_s hc (Nat.le_of_ble_eq_true rfl) (by simp only [am_s1]; rw [if_neg (by rw [hb]; decide)]) h
theorem lc_w (x y : Int) : w32 (if w64 y < w64 x then 1 else if w64 x = w64 y then 0 else -1) = (if w64 y < w64 x then 1 else if w64 x = w64 y then 0 else -1) := by
  refine w32_id ?_
  (repeat' split) <;> omega
theorem e_lcb0 {x y z : Int} {a nx2 tg : Nat} {l2 : List Nat} (hc : am_cd M pc = (9, nx, a, z, l)) (hc2 : am_cd M nx = (10, nx2, tg, 0, l2)) (hT : w64 x = w64 y → Ev d M Q tg la st S) (hF : ¬ (w64 x = w64 y) → Ev d M Q nx2 la st S) : Ev d M Q pc la ((1, y) :: (1, x) :: st) S := by
  refine e_lcmp hc (e_if0 hc2 (fun hb => hT ?_) (fun hb => hF ?_)) <;> rw [lc_w] at hb <;> (revert hb; (repeat' split) <;> omega)
theorem e_lcb1 {x y z : Int} {a nx2 tg : Nat} {l2 : List Nat} (hc : am_cd M pc = (9, nx, a, z, l)) (hc2 : am_cd M nx = (10, nx2, tg, 1, l2)) (hT : ¬ w64 x = w64 y → Ev d M Q tg la st S) (hF : ¬ (¬ w64 x = w64 y) → Ev d M Q nx2 la st S) : Ev d M Q pc la ((1, y) :: (1, x) :: st) S := by
  refine e_lcmp hc (e_if1 hc2 (fun hb => hT ?_) (fun hb => hF ?_)) <;> rw [lc_w] at hb <;> (revert hb; (repeat' split) <;> omega)
theorem e_lcb2 {x y z : Int} {a nx2 tg : Nat} {l2 : List Nat} (hc : am_cd M pc = (9, nx, a, z, l)) (hc2 : am_cd M nx = (10, nx2, tg, 2, l2)) (hT : w64 x < w64 y → Ev d M Q tg la st S) (hF : ¬ (w64 x < w64 y) → Ev d M Q nx2 la st S) : Ev d M Q pc la ((1, y) :: (1, x) :: st) S := by
  refine e_lcmp hc (e_if2 hc2 (fun hb => hT ?_) (fun hb => hF ?_)) <;> rw [lc_w] at hb <;> (revert hb; (repeat' split) <;> omega)
theorem e_lcb3 {x y z : Int} {a nx2 tg : Nat} {l2 : List Nat} (hc : am_cd M pc = (9, nx, a, z, l)) (hc2 : am_cd M nx = (10, nx2, tg, 3, l2)) (hT : w64 y ≤ w64 x → Ev d M Q tg la st S) (hF : ¬ (w64 y ≤ w64 x) → Ev d M Q nx2 la st S) : Ev d M Q pc la ((1, y) :: (1, x) :: st) S := by
  refine e_lcmp hc (e_if3 hc2 (fun hb => hT ?_) (fun hb => hF ?_)) <;> rw [lc_w] at hb <;> (revert hb; (repeat' split) <;> omega)
theorem e_lcb4 {x y z : Int} {a nx2 tg : Nat} {l2 : List Nat} (hc : am_cd M pc = (9, nx, a, z, l)) (hc2 : am_cd M nx = (10, nx2, tg, 4, l2)) (hT : w64 y < w64 x → Ev d M Q tg la st S) (hF : ¬ (w64 y < w64 x) → Ev d M Q nx2 la st S) : Ev d M Q pc la ((1, y) :: (1, x) :: st) S := by
  refine e_lcmp hc (e_if4 hc2 (fun hb => hT ?_) (fun hb => hF ?_)) <;> rw [lc_w] at hb <;> (revert hb; (repeat' split) <;> omega)
theorem e_lcb5 {x y z : Int} {a nx2 tg : Nat} {l2 : List Nat} (hc : am_cd M pc = (9, nx, a, z, l)) (hc2 : am_cd M nx = (10, nx2, tg, 5, l2)) (hT : w64 x ≤ w64 y → Ev d M Q tg la st S) (hF : ¬ (w64 x ≤ w64 y) → Ev d M Q nx2 la st S) : Ev d M Q pc la ((1, y) :: (1, x) :: st) S := by
  refine e_lcmp hc (e_if5 hc2 (fun hb => hT ?_) (fun hb => hF ?_)) <;> rw [lc_w] at hb <;> (revert hb; (repeat' split) <;> omega)
theorem e_reta {x z : Int} (hc : am_cd M pc = (36, nx, 2, z, l)) (hr : (am_m M).2.2.2.1 = some (.array .int) ∨ (am_m M).2.2.2.1 = some (.array .long)) (hx : 0 ≤ x) (h : Q (some (2, x)) S) : Ev d M Q pc la [(2, x)] S := ev_r hc (Nat.lt_irrefl _) (Nat.le_of_ble_eq_true rfl) (by simp only [am_fi]; rw [if_pos ⟨hx, hr⟩]) h
/-- the first n of row a over those of row c -/
def wc (w : eW) (a c n : Nat) : eW := fun q j => if q = c ∧ j < n then w a j else w q j
def cpP (t : eT) (a c n : Int) : Prop := 0 ≤ w32 n ∧ w32 n ≤ dyL t a ∧ w32 n ≤ dyL t c ∧ ((dyK t a 20 ∧ dyK t c 20) ∨ (dyK t a 21 ∧ dyK t c 21)) ∧ ¬ a = c
theorem e_acpy {a c n z : Int} {b0 : Nat} (hc : am_cd M pc = (32, nx, b0, z, l)) (h2 : (st.map fun v => if v.1 = 1 then 2 else 1).sum ≤ 8) (hp : cpP t a c n) (h : Ev (d + 1) M Q nx la st (enc (wc w a.toNat c.toNat (w32 n).toNat) t)) : Ev (d + 1) M Q pc la ((0, n) :: (0, 0) :: (2, c) :: (0, 0) :: (2, a) :: st) (enc w t) := by
  obtain ⟨h3, h4, h5, h6, h7⟩ := hp
  have h0 : w32 0 = 0 := by decide +kernel
  have hna : en_no a.toNat = true := by rcases h6 with h6 | h6 <;> exact h6.1.2.2.2
  have hnc : en_no c.toNat = true := by rcases h6 with h6 | h6 <;> exact h6.2.2.2.2
  refine ev_s1 hc (Nat.le_of_ble_eq_true rfl) ?_ h
  simp only [am_s1]
  rw [if_pos ⟨h3, by omega, by omega, by rw [h0]; show 0 + w32 n ≤ (dyL t a : Int); omega, by rw [h0]; show 0 + w32 n ≤ (dyL t c : Int); omega, by rcases h6 with h6 | h6; exact Or.inl ⟨dyK_at h6.1, dyK_at h6.2⟩; exact Or.inr ⟨dyK_at h6.1, dyK_at h6.2⟩, h7, h2⟩]
  congr 4
  unfold am_cpy enc wc
  simp only [Prod.mk.injEq, and_true]
  funext q j
  rw [h0]
  by_cases hq : q = c.toNat ∧ j < (w32 n).toNat
  · rw [if_pos ⟨hq.1, by omega, by omega⟩, hq.1, en_noE hnc, en_noE hna]
    simp only [Option.getD_none]
    rw [if_pos ⟨trivial, hq.2⟩]
    congr 1
    omega
  · rw [if_neg (fun hz => hq ⟨hz.1, by omega⟩), if_neg hq]
end EVK
theorem w64_w32 (x : Int) : w64 (w32 x) = w32 x := w64_id (by have := w32_w32 x; omega)
theorem wu_row {w : eW} {a k q : Nat} {v : Int} (h : q ≠ a) : wu w a k v q = w q := by
  funext j
  exact wu_na w v h
def bI (b : Bool) : Int := if b then 1 else 0
theorem bI_w (b : Bool) : w32 (bI b) = bI b := by cases b <;> decide +kernel
theorem bI_0 (b : Bool) : (bI b = 0) ↔ b = false := by cases b <;> decide
theorem bI_1 (b : Bool) : (bI b = 1) ↔ b = true := by cases b <;> decide
theorem bI_01 (b : Bool) : bI b = 0 ∨ bI b = 1 := by cases b <;> decide
theorem dyK_fix {t : eT} {a kd : Nat} (h : en_at a kd = true) (hn : en_no a = true) : dyK t (a : Int) kd := by
  have := (en_atE (w := fun _ _ => 0) (t := t) h)
  unfold en_at at h
  simp only [Bool.and_eq_true] at h
  have h3 := Nat.eq_of_beq_eq_true h.2.2
  refine ⟨by omega, by rw [Int.toNat_natCast]; omega, ?_, by rw [Int.toNat_natCast]; exact hn⟩
  rw [Int.toNat_natCast, if_pos ⟨this.2.2.1, this.2.2.2⟩]
  exact h3
theorem dyL_fix {t : eT} {a kd : Nat} (h : en_at a kd = true) : dyL t (a : Int) = (en_k a).2 := by
  have := (en_atE (w := fun _ _ => 0) (t := t) h)
  unfold dyL
  rw [Int.toNat_natCast, if_pos ⟨this.2.2.1, this.2.2.2⟩]
