/-! The cells that the two objects are made of, by their numbers; what is in them is w. -/
def en_kl : List (Nat × Nat) := [(23, 0), (11, 0), (8, 0), (20, 80), (20, 16), (20, 16), (20, 6), (20, 6), (0, 0), (20, 16), (20, 16), (20, 28), (20, 28), (20, 4), (20, 4), (7, 0), (20, 9), (20, 9), (20, 9), (20, 9), (20, 9), (20, 9), (20, 9), (20, 17), (20, 17), (20, 17), (20, 17), (20, 17), (3, 0), (20, 16), (20, 16), (20, 16), (20, 80), (21, 28), (20, 320), (20, 16), (20, 4), (4, 0), (20, 64), (21, 32), (20, 32), (20, 32), (20, 32), (20, 32), (20, 512), (5, 0), (21, 256), (21, 256), (2, 0), (20, 20), (20, 20), (20, 260), (20, 120), (10, 0), (20, 13), (20, 6), (6, 0), (20, 13), (9, 0), (20, 1400), (20, 7), (1, 0), (20, 4), (20, 4), (20, 16), (20, 16), (21, 24), (12, 0), (20, 16), (20, 16), (20, 4), (20, 4), (20, 8), (20, 8), (20, 8), (20, 8), (20, 24), (20, 16), (20, 16), (20, 16), (20, 80), (20, 20), (20, 320), (20, 20), (20, 120), (22, 80), (21, 32), (20, 16), (20, 16), (20, 3), (20, 6), (20, 6), (20, 524288), (21, 524288), (20, 16), (20, 6), (21, 4913), (21, 4913), (20, 201), (21, 28), (21, 1), (20, 28)]
def en_rl : List (List (Option Int)) := [[], [some 2, some 8, some 15, some 28, some 37, some 45, some 48, some 53, some 56, some 58, some 61, some 64, some 65, some 66], [some 3, some 4, some 5, some 6, some 7], [], [], [], [], [], [some 9, some 10, some 11, some 12, some 13, some 14], [], [], [], [], [], [], [some 16, some 17, some 18, some 19, some 20, some 21, some 22, some 23, some 24, some 25, some 26, some 27], [], [], [], [], [], [], [], [], [], [], [], [], [some 29, some 30, some 31, some 32, some 33, some 34, some 35, some 36, none, none, none, some 101], [], [], [], [], [], [], [], [], [some 38], [], [], [], [], [], [], [], [], [], [], [some 49, some 50, some 51, some 52], [], [], [], [], [some 2, some 8, some 28, some 37, some 45, some 48, some 54, some 55], [], [], [some 2, some 8, some 15, some 45, some 57], [], [some 2, some 8, some 37, some 45, some 59, some 60], [], [], [some 8, some 15, some 62, some 63], [], [], [], [], [], [none, some 68, some 69, none, some 70, some 71, none, some 72, some 73, some 74, some 75, some 76, none, some 77, some 78, some 79, some 80, none, some 81, some 82, some 83, some 84, some 85, none, some 86, none, none, none, none, none, some 87, some 88, some 89, some 90, some 91, none, some 92, some 93, none, some 94, none, some 95, none, some 96, some 97, none, none, none, none, none, some 98, none, some 99], [], [], [], [], [], [], [], [], [], [], [], [], [], [], [], [], [], [], [], [], [], [], [], [], [], [], [], [], [], [], [], [], [], []]
def en_k (a : Nat) : Nat × Nat := en_kl.getD a (0, 0)
def en_r (a k : Nat) : Option Int := (en_rl.getD a []).getD k none
abbrev eT : Type := (Nat → Nat × Nat) × Nat × Nat
abbrev eW : Type := Nat → Nat → Int
/-- memory: w in the fixed cells (but for the references between them), t tells of the other cells -/
def enc (w : eW) (t : eT) : aS := (fun a k => (en_r a k).getD (w a k), fun a => if 1 ≤ a ∧ a < 102 then en_k a else t.1 a, 102 + t.2.1, t.2.2)
def wu (w : eW) (a k : Nat) (v : Int) : eW := fun q j => if q = a ∧ j = k then v else w q j
theorem wu_eq (w : eW) (a k : Nat) (v : Int) : wu w a k v a k = v := if_pos ⟨rfl, rfl⟩
theorem wu_ne (w : eW) {a k q j : Nat} (v : Int) (h : ¬ (q = a ∧ j = k)) : wu w a k v q j = w q j := if_neg h
theorem wu_na (w : eW) {a k q j : Nat} (v : Int) (h : q ≠ a) : wu w a k v q j = w q j := if_neg (fun z => h z.1)
theorem wu_nk (w : eW) {a k q j : Nat} (v : Int) (h : j ≠ k) : wu w a k v q j = w q j := if_neg (fun z => h z.2)
def en_at (a kd : Nat) : Bool := Nat.blt 0 a && (Nat.blt a 102 && Nat.beq (en_k a).1 kd)
theorem en_atE {w : eW} {t : eT} {a kd : Nat} (h : en_at a kd = true) : am_at (enc w t) (a : Int) kd = true ∧ ((enc w t).2.1 a) = en_k a ∧ 0 < a ∧ a < 102 := by
  unfold en_at at h
  simp only [Bool.and_eq_true] at h
  obtain ⟨h1, h2, h3⟩ := h
  have h1 : 0 < a := Nat.le_of_ble_eq_true h1
  have h2 : a < 102 := Nat.le_of_ble_eq_true h2
  have h3 := Nat.eq_of_beq_eq_true h3
  have e : (enc w t).2.1 a = en_k a := if_pos ⟨h1, h2⟩
  refine ⟨?_, e, h1, h2⟩
  unfold am_at
  simp only [Bool.and_eq_true, decide_eq_true_eq, Int.toNat_natCast]
  refine ⟨by omega, ?_, by rw [e]; exact h3⟩
  show am_pj a < 102 + t.2.1
  exact am_pj_lt (by omega)
theorem enc_up {w : eW} {t : eT} {a k : Nat} {v : Int} (h : en_r a k = none) : am_up (enc w t) a k v = enc (wu w a k v) t := by
  unfold am_up enc
  simp only
  congr 1
  funext q j
  by_cases hq : q = a ∧ j = k
  · obtain ⟨rfl, rfl⟩ := hq
    simp [h, wu]
  · simp [hq, wu]
def iand (x y : Int) : Int := am_io 3 x y
def ior (x y : Int) : Int := am_io 4 x y
def ixor (x y : Int) : Int := am_io 5 x y
def ishl (x y : Int) : Int := am_io 6 x y
def ishr (x y : Int) : Int := am_io 7 x y
def iushr (x y : Int) : Int := am_io 8 x y
def idiv (x y : Int) : Int := am_io 9 x y
def irem (x y : Int) : Int := am_io 10 x y
def lor (x y : Int) : Int := am_lo 2 x y
def lxor (x y : Int) : Int := am_lo 3 x y
def lshl (x y : Int) : Int := am_ls 0 x y
def lshr (x y : Int) : Int := am_ls 1 x y
def lushr (x y : Int) : Int := am_ls 2 x y
section EVR
variable {d M pc nx : Nat} {Q : Option aV → aS → Prop} {la st : List aV} {S : aS} {w : eW} {t : eT} {l : List Nat}
theorem e_ic {a : Nat} {x : Int} (hc : am_cd M pc = (0, nx, a, x, l)) (h : Ev d M Q nx la ((0, x) :: st) S) : Ev d M Q pc la st S := ev_s hc (Nat.le_of_ble_eq_true rfl) rfl h
theorem e_lc {a : Nat} {x : Int} (hc : am_cd M pc = (1, nx, a, x, l)) (h : Ev d M Q nx la ((1, x) :: st) S) : Ev d M Q pc la st S := ev_s hc (Nat.le_of_ble_eq_true rfl) rfl h
theorem e_ldi {a : Nat} {v : Int} (hc : am_cd M pc = (2, nx, a, 0, l)) (hl : la[a]? = some (0, v)) (h : Ev d M Q nx la ((0, v) :: st) S) : Ev d M Q pc la st S := ev_s hc (Nat.le_of_ble_eq_true rfl) (by simp only [am_s1, hl]; rfl) h
theorem e_ldl {a : Nat} {v : Int} (hc : am_cd M pc = (2, nx, a, 1, l)) (hl : la[a]? = some (1, v)) (h : Ev d M Q nx la ((1, v) :: st) S) : Ev d M Q pc la st S := ev_s hc (Nat.le_of_ble_eq_true rfl) (by simp only [am_s1, hl]; rfl) h
theorem e_lda {a v : Nat} (hc : am_cd M pc = (2, nx, a, 2, l)) (hl : la[a]? = some (2, (v : Int))) (h : Ev d M Q nx la ((2, (v : Int)) :: st) S) : Ev d M Q pc la st S := ev_s hc (Nat.le_of_ble_eq_true rfl) (by simp only [am_s1, hl]; exact if_pos ⟨rfl, fun _ => Int.natCast_nonneg v⟩) h
theorem e_sti {a : Nat} {v : Int} {la2 : List aV} (hc : am_cd M pc = (3, nx, a, 0, l)) (hl : am_set1 la a (0, v) = some la2) (h : Ev d M Q nx la2 st S) : Ev d M Q pc la ((0, v) :: st) S := ev_s hc (Nat.le_of_ble_eq_true rfl) (by simp only [am_s1]; rw [if_pos ⟨rfl, fun h9 => by cases h9⟩, if_neg (by decide), hl]; rfl) h
theorem e_stl {a : Nat} {v : Int} {la2 : List aV} (hc : am_cd M pc = (3, nx, a, 1, l)) (hl : am_set2 la a (1, v) = some la2) (h : Ev d M Q nx la2 st S) : Ev d M Q pc la ((1, v) :: st) S := ev_s hc (Nat.le_of_ble_eq_true rfl) (by simp only [am_s1]; rw [if_pos ⟨rfl, fun h9 => by cases h9⟩, if_pos trivial, hl]; rfl) h
theorem e_sta {a v : Nat} {la2 : List aV} (hc : am_cd M pc = (3, nx, a, 2, l)) (hl : am_set1 la a (2, (v : Int)) = some la2) (h : Ev d M Q nx la2 st S) : Ev d M Q pc la ((2, (v : Int)) :: st) S := ev_s hc (Nat.le_of_ble_eq_true rfl) (by simp only [am_s1]; rw [if_pos ⟨rfl, fun _ => Int.natCast_nonneg v⟩, if_neg (by decide), hl]; rfl) h
theorem e_inc {a : Nat} {v x : Int} {la2 : List aV} (hc : am_cd M pc = (4, nx, a, x, l)) (hl : la[a]? = some (0, v)) (hl2 : am_set1 la a (0, v + x) = some la2) (h : Ev d M Q nx la2 st S) : Ev d M Q pc la st S := ev_s hc (Nat.le_of_ble_eq_true rfl) (by simp only [am_s1, hl]; rw [hl2]; rfl) h
theorem e_iadd {x y : Int} {z : Int} (hc : am_cd M pc = (5, nx, 0, z, l)) (h : Ev d M Q nx la ((0, x + y) :: st) S) : Ev d M Q pc la ((0, y) :: (0, x) :: st) S := ev_s hc (Nat.le_of_ble_eq_true rfl) rfl h
theorem e_isub {x y : Int} {z : Int} (hc : am_cd M pc = (5, nx, 1, z, l)) (h : Ev d M Q nx la ((0, x - y) :: st) S) : Ev d M Q pc la ((0, y) :: (0, x) :: st) S := ev_s hc (Nat.le_of_ble_eq_true rfl) rfl h
theorem e_imul {x y : Int} {z : Int} (hc : am_cd M pc = (5, nx, 2, z, l)) (h : Ev d M Q nx la ((0, x * y) :: st) S) : Ev d M Q pc la ((0, y) :: (0, x) :: st) S := ev_s hc (Nat.le_of_ble_eq_true rfl) rfl h
theorem e_iand {x y : Int} {z : Int} (hc : am_cd M pc = (5, nx, 3, z, l)) (h : Ev d M Q nx la ((0, iand x y) :: st) S) : Ev d M Q pc la ((0, y) :: (0, x) :: st) S := ev_s hc (Nat.le_of_ble_eq_true rfl) rfl h
theorem e_ior {x y : Int} {z : Int} (hc : am_cd M pc = (5, nx, 4, z, l)) (h : Ev d M Q nx la ((0, ior x y) :: st) S) : Ev d M Q pc la ((0, y) :: (0, x) :: st) S := ev_s hc (Nat.le_of_ble_eq_true rfl) rfl h
theorem e_ixor {x y : Int} {z : Int} (hc : am_cd M pc = (5, nx, 5, z, l)) (h : Ev d M Q nx la ((0, ixor x y) :: st) S) : Ev d M Q pc la ((0, y) :: (0, x) :: st) S := ev_s hc (Nat.le_of_ble_eq_true rfl) rfl h
theorem e_ishl {x y : Int} {z : Int} (hc : am_cd M pc = (5, nx, 6, z, l)) (h : Ev d M Q nx la ((0, ishl x y) :: st) S) : Ev d M Q pc la ((0, y) :: (0, x) :: st) S := ev_s hc (Nat.le_of_ble_eq_true rfl) rfl h
theorem e_ishr {x y : Int} {z : Int} (hc : am_cd M pc = (5, nx, 7, z, l)) (h : Ev d M Q nx la ((0, ishr x y) :: st) S) : Ev d M Q pc la ((0, y) :: (0, x) :: st) S := ev_s hc (Nat.le_of_ble_eq_true rfl) rfl h
theorem e_iushr {x y : Int} {z : Int} (hc : am_cd M pc = (5, nx, 8, z, l)) (h : Ev d M Q nx la ((0, iushr x y) :: st) S) : Ev d M Q pc la ((0, y) :: (0, x) :: st) S := ev_s hc (Nat.le_of_ble_eq_true rfl) rfl h
theorem e_idiv {x y : Int} {z : Int} (hc : am_cd M pc = (5, nx, 9, z, l)) (hn : ¬ w32 y = 0) (h : Ev d M Q nx la ((0, idiv x y) :: st) S) : Ev d M Q pc la ((0, y) :: (0, x) :: st) S := ev_s hc (Nat.le_of_ble_eq_true rfl) (by simp only [am_s1]; rw [if_neg (fun h9 => hn h9.2)]; rfl) h
theorem e_irem {x y : Int} {z : Int} (hc : am_cd M pc = (5, nx, 10, z, l)) (hn : ¬ w32 y = 0) (h : Ev d M Q nx la ((0, irem x y) :: st) S) : Ev d M Q pc la ((0, y) :: (0, x) :: st) S := ev_s hc (Nat.le_of_ble_eq_true rfl) (by simp only [am_s1]; rw [if_neg (fun h9 => hn h9.2)]; rfl) h
theorem e_ladd {x y : Int} {z : Int} (hc : am_cd M pc = (6, nx, 0, z, l)) (h : Ev d M Q nx la ((1, x + y) :: st) S) : Ev d M Q pc la ((1, y) :: (1, x) :: st) S := ev_s hc (Nat.le_of_ble_eq_true rfl) rfl h
theorem e_lsub {x y : Int} {z : Int} (hc : am_cd M pc = (6, nx, 1, z, l)) (h : Ev d M Q nx la ((1, x - y) :: st) S) : Ev d M Q pc la ((1, y) :: (1, x) :: st) S := ev_s hc (Nat.le_of_ble_eq_true rfl) rfl h
theorem e_lor {x y : Int} {z : Int} (hc : am_cd M pc = (6, nx, 2, z, l)) (h : Ev d M Q nx la ((1, lor x y) :: st) S) : Ev d M Q pc la ((1, y) :: (1, x) :: st) S := ev_s hc (Nat.le_of_ble_eq_true rfl) rfl h
theorem e_lxor {x y : Int} {z : Int} (hc : am_cd M pc = (6, nx, 3, z, l)) (h : Ev d M Q nx la ((1, lxor x y) :: st) S) : Ev d M Q pc la ((1, y) :: (1, x) :: st) S := ev_s hc (Nat.le_of_ble_eq_true rfl) rfl h
theorem e_lshl {x y : Int} {z : Int} (hc : am_cd M pc = (7, nx, 0, z, l)) (h : Ev d M Q nx la ((1, lshl x y) :: st) S) : Ev d M Q pc la ((0, y) :: (1, x) :: st) S := ev_s hc (Nat.le_of_ble_eq_true rfl) rfl h
theorem e_lshr {x y : Int} {z : Int} (hc : am_cd M pc = (7, nx, 1, z, l)) (h : Ev d M Q nx la ((1, lshr x y) :: st) S) : Ev d M Q pc la ((0, y) :: (1, x) :: st) S := ev_s hc (Nat.le_of_ble_eq_true rfl) rfl h
theorem e_lushr {x y : Int} {z : Int} (hc : am_cd M pc = (7, nx, 2, z, l)) (h : Ev d M Q nx la ((1, lushr x y) :: st) S) : Ev d M Q pc la ((0, y) :: (1, x) :: st) S := ev_s hc (Nat.le_of_ble_eq_true rfl) rfl h
theorem e_i2l {x z : Int} (hc : am_cd M pc = (8, nx, 0, z, l)) (h : Ev d M Q nx la ((1, w32 x) :: st) S) : Ev d M Q pc la ((0, x) :: st) S := ev_s hc (Nat.le_of_ble_eq_true rfl) rfl h
theorem e_l2i {x z : Int} (hc : am_cd M pc = (8, nx, 1, z, l)) (h : Ev d M Q nx la ((0, x) :: st) S) : Ev d M Q pc la ((1, x) :: st) S := ev_s hc (Nat.le_of_ble_eq_true rfl) rfl h
theorem e_i2b {x z : Int} (hc : am_cd M pc = (8, nx, 2, z, l)) (h : Ev d M Q nx la ((0, (Int32.ofInt x).toInt8.toInt) :: st) S) : Ev d M Q pc la ((0, x) :: st) S := ev_s hc (Nat.le_of_ble_eq_true rfl) rfl h
theorem e_lcmp {x y z : Int} {a : Nat} (hc : am_cd M pc = (9, nx, a, z, l)) (h : Ev d M Q nx la ((0, if w64 y < w64 x then 1 else if w64 x = w64 y then 0 else -1) :: st) S) : Ev d M Q pc la ((1, y) :: (1, x) :: st) S := ev_s hc (Nat.le_of_ble_eq_true rfl) rfl h
theorem e_if0 {x : Int} {tg : Nat} (hc : am_cd M pc = (10, nx, tg, 0, l)) (hT : w32 x = 0 → Ev d M Q tg la st S) (hF : ¬ (w32 x = 0) → Ev d M Q nx la st S) : Ev d M Q pc la ((0, x) :: st) S := by
  by_cases hb : w32 x = 0
  · exact ev_s hc (Nat.le_of_ble_eq_true rfl) (by simp only [am_s1]; rw [if_pos (am_cb_0.mpr hb)]) (hT hb)
  · exact ev_s hc (Nat.le_of_ble_eq_true rfl) (by simp only [am_s1]; rw [if_neg (fun z => hb (am_cb_0.mp z))]) (hF hb)
theorem e_cmp0 {x y : Int} {tg : Nat} (hc : am_cd M pc = (11, nx, tg, 0, l)) (hT : w32 x = w32 y → Ev d M Q tg la st S) (hF : ¬ (w32 x = w32 y) → Ev d M Q nx la st S) : Ev d M Q pc la ((0, y) :: (0, x) :: st) S := by
  by_cases hb : w32 x = w32 y
  · exact ev_s hc (Nat.le_of_ble_eq_true rfl) (by simp only [am_s1]; rw [if_pos (am_cb_0.mpr hb)]) (hT hb)
  · exact ev_s hc (Nat.le_of_ble_eq_true rfl) (by simp only [am_s1]; rw [if_neg (fun z => hb (am_cb_0.mp z))]) (hF hb)
theorem e_if1 {x : Int} {tg : Nat} (hc : am_cd M pc = (10, nx, tg, 1, l)) (hT : ¬ w32 x = 0 → Ev d M Q tg la st S) (hF : ¬ (¬ w32 x = 0) → Ev d M Q nx la st S) : Ev d M Q pc la ((0, x) :: st) S := by
  by_cases hb : ¬ w32 x = 0
  · exact ev_s hc (Nat.le_of_ble_eq_true rfl) (by simp only [am_s1]; rw [if_pos (am_cb_1.mpr hb)]) (hT hb)
  · exact ev_s hc (Nat.le_of_ble_eq_true rfl) (by simp only [am_s1]; rw [if_neg (fun z => hb (am_cb_1.mp z))]) (hF hb)
theorem e_cmp1 {x y : Int} {tg : Nat} (hc : am_cd M pc = (11, nx, tg, 1, l)) (hT : ¬ w32 x = w32 y → Ev d M Q tg la st S) (hF : ¬ (¬ w32 x = w32 y) → Ev d M Q nx la st S) : Ev d M Q pc la ((0, y) :: (0, x) :: st) S := by
  by_cases hb : ¬ w32 x = w32 y
  · exact ev_s hc (Nat.le_of_ble_eq_true rfl) (by simp only [am_s1]; rw [if_pos (am_cb_1.mpr hb)]) (hT hb)
  · exact ev_s hc (Nat.le_of_ble_eq_true rfl) (by simp only [am_s1]; rw [if_neg (fun z => hb (am_cb_1.mp z))]) (hF hb)
theorem e_if2 {x : Int} {tg : Nat} (hc : am_cd M pc = (10, nx, tg, 2, l)) (hT : w32 x < 0 → Ev d M Q tg la st S) (hF : ¬ (w32 x < 0) → Ev d M Q nx la st S) : Ev d M Q pc la ((0, x) :: st) S := by
  by_cases hb : w32 x < 0
  · exact ev_s hc (Nat.le_of_ble_eq_true rfl) (by simp only [am_s1]; rw [if_pos (am_cb_2.mpr hb)]) (hT hb)
  · exact ev_s hc (Nat.le_of_ble_eq_true rfl) (by simp only [am_s1]; rw [if_neg (fun z => hb (am_cb_2.mp z))]) (hF hb)
theorem e_cmp2 {x y : Int} {tg : Nat} (hc : am_cd M pc = (11, nx, tg, 2, l)) (hT : w32 x < w32 y → Ev d M Q tg la st S) (hF : ¬ (w32 x < w32 y) → Ev d M Q nx la st S) : Ev d M Q pc la ((0, y) :: (0, x) :: st) S := by
  by_cases hb : w32 x < w32 y
  · exact ev_s hc (Nat.le_of_ble_eq_true rfl) (by simp only [am_s1]; rw [if_pos (am_cb_2.mpr hb)]) (hT hb)
  · exact ev_s hc (Nat.le_of_ble_eq_true rfl) (by simp only [am_s1]; rw [if_neg (fun z => hb (am_cb_2.mp z))]) (hF hb)
theorem e_if3 {x : Int} {tg : Nat} (hc : am_cd M pc = (10, nx, tg, 3, l)) (hT : 0 ≤ w32 x → Ev d M Q tg la st S) (hF : ¬ (0 ≤ w32 x) → Ev d M Q nx la st S) : Ev d M Q pc la ((0, x) :: st) S := by
  by_cases hb : 0 ≤ w32 x
  · exact ev_s hc (Nat.le_of_ble_eq_true rfl) (by simp only [am_s1]; rw [if_pos (am_cb_3.mpr hb)]) (hT hb)
  · exact ev_s hc (Nat.le_of_ble_eq_true rfl) (by simp only [am_s1]; rw [if_neg (fun z => hb (am_cb_3.mp z))]) (hF hb)
theorem e_cmp3 {x y : Int} {tg : Nat} (hc : am_cd M pc = (11, nx, tg, 3, l)) (hT : w32 y ≤ w32 x → Ev d M Q tg la st S) (hF : ¬ (w32 y ≤ w32 x) → Ev d M Q nx la st S) : Ev d M Q pc la ((0, y) :: (0, x) :: st) S := by
  by_cases hb : w32 y ≤ w32 x
  · exact ev_s hc (Nat.le_of_ble_eq_true rfl) (by simp only [am_s1]; rw [if_pos (am_cb_3.mpr hb)]) (hT hb)
  · exact ev_s hc (Nat.le_of_ble_eq_true rfl) (by simp only [am_s1]; rw [if_neg (fun z => hb (am_cb_3.mp z))]) (hF hb)
theorem e_if4 {x : Int} {tg : Nat} (hc : am_cd M pc = (10, nx, tg, 4, l)) (hT : 0 < w32 x → Ev d M Q tg la st S) (hF : ¬ (0 < w32 x) → Ev d M Q nx la st S) : Ev d M Q pc la ((0, x) :: st) S := by
  by_cases hb : 0 < w32 x
  · exact ev_s hc (Nat.le_of_ble_eq_true rfl) (by simp only [am_s1]; rw [if_pos (am_cb_4.mpr hb)]) (hT hb)
  · exact ev_s hc (Nat.le_of_ble_eq_true rfl) (by simp only [am_s1]; rw [if_neg (fun z => hb (am_cb_4.mp z))]) (hF hb)
theorem e_cmp4 {x y : Int} {tg : Nat} (hc : am_cd M pc = (11, nx, tg, 4, l)) (hT : w32 y < w32 x → Ev d M Q tg la st S) (hF : ¬ (w32 y < w32 x) → Ev d M Q nx la st S) : Ev d M Q pc la ((0, y) :: (0, x) :: st) S := by
  by_cases hb : w32 y < w32 x
  · exact ev_s hc (Nat.le_of_ble_eq_true rfl) (by simp only [am_s1]; rw [if_pos (am_cb_4.mpr hb)]) (hT hb)
  · exact ev_s hc (Nat.le_of_ble_eq_true rfl) (by simp only [am_s1]; rw [if_neg (fun z => hb (am_cb_4.mp z))]) (hF hb)
theorem e_if5 {x : Int} {tg : Nat} (hc : am_cd M pc = (10, nx, tg, 5, l)) (hT : w32 x ≤ 0 → Ev d M Q tg la st S) (hF : ¬ (w32 x ≤ 0) → Ev d M Q nx la st S) : Ev d M Q pc la ((0, x) :: st) S := by
  by_cases hb : w32 x ≤ 0
  · exact ev_s hc (Nat.le_of_ble_eq_true rfl) (by simp only [am_s1]; rw [if_pos (am_cb_5.mpr hb)]) (hT hb)
  · exact ev_s hc (Nat.le_of_ble_eq_true rfl) (by simp only [am_s1]; rw [if_neg (fun z => hb (am_cb_5.mp z))]) (hF hb)
theorem e_cmp5 {x y : Int} {tg : Nat} (hc : am_cd M pc = (11, nx, tg, 5, l)) (hT : w32 x ≤ w32 y → Ev d M Q tg la st S) (hF : ¬ (w32 x ≤ w32 y) → Ev d M Q nx la st S) : Ev d M Q pc la ((0, y) :: (0, x) :: st) S := by
  by_cases hb : w32 x ≤ w32 y
  · exact ev_s hc (Nat.le_of_ble_eq_true rfl) (by simp only [am_s1]; rw [if_pos (am_cb_5.mpr hb)]) (hT hb)
  · exact ev_s hc (Nat.le_of_ble_eq_true rfl) (by simp only [am_s1]; rw [if_neg (fun z => hb (am_cb_5.mp z))]) (hF hb)
theorem e_go {a : Nat} {z : Int} (hc : am_cd M pc = (12, nx, a, z, l)) (h : Ev d M Q nx la st S) : Ev d M Q pc la st S := ev_s hc (Nat.le_of_ble_eq_true rfl) rfl h
theorem e_dup {a tg : Nat} {x z : Int} (hc : am_cd M pc = (13, nx, a, z, l)) (ht : ¬ tg = 1) (h : Ev d M Q nx la ((tg, x) :: (tg, x) :: st) S) : Ev d M Q pc la ((tg, x) :: st) S := ev_s hc (Nat.le_of_ble_eq_true rfl) (by simp only [am_s1]; rw [if_neg ht]) h
theorem e_dup2 {a tg ug : Nat} {x y z : Int} (hc : am_cd M pc = (14, nx, a, z, l)) (ht : ¬ (tg = 1 ∨ ug = 1)) (h : Ev d M Q nx la ((tg, x) :: (ug, y) :: (tg, x) :: (ug, y) :: st) S) : Ev d M Q pc la ((tg, x) :: (ug, y) :: st) S := ev_s hc (Nat.le_of_ble_eq_true rfl) (by simp only [am_s1]; rw [if_neg ht]) h
theorem e_dupx {a tg ug : Nat} {x y z : Int} (hc : am_cd M pc = (15, nx, a, z, l)) (ht : ¬ (tg = 1 ∨ ug = 1)) (h : Ev d M Q nx la ((tg, x) :: (ug, y) :: (tg, x) :: st) S) : Ev d M Q pc la ((tg, x) :: (ug, y) :: st) S := ev_s hc (Nat.le_of_ble_eq_true rfl) (by simp only [am_s1]; rw [if_neg ht]) h
theorem e_pop {a tg : Nat} {x z : Int} (hc : am_cd M pc = (16, nx, a, z, l)) (ht : ¬ tg = 1) (h : Ev d M Q nx la st S) : Ev d M Q pc la ((tg, x) :: st) S := ev_s hc (Nat.le_of_ble_eq_true rfl) (by simp only [am_s1]; rw [if_neg ht]) h
theorem e_pop2 {a : Nat} {x z : Int} (hc : am_cd M pc = (17, nx, a, z, l)) (h : Ev d M Q nx la st S) : Ev d M Q pc la ((1, x) :: st) S := ev_s hc (Nat.le_of_ble_eq_true rfl) rfl h
theorem e_getf {f a tg : Nat} {z : Int} (hc : am_cd M pc = (18, nx, f, z, l)) (ha : en_at a (f / 100) = true) (hr : en_r a (f % 100) = none) (hz : z.toNat = tg) (h : Ev d M Q nx la ((tg, w a (f % 100)) :: st) (enc w t)) : Ev d M Q pc la ((2, (a : Int)) :: st) (enc w t) := by
  refine ev_s hc (Nat.le_of_ble_eq_true rfl) ?_ h
  simp only [am_s1]
  rw [if_pos (en_atE ha).1, hz, Int.toNat_natCast]
  simp only [enc, hr, Option.getD_none]
theorem e_getr {f a r : Nat} {z : Int} (hc : am_cd M pc = (18, nx, f, z, l)) (ha : en_at a (f / 100) = true) (hr : en_r a (f % 100) = some (r : Int)) (hz : z.toNat = 2) (h : Ev d M Q nx la ((2, (r : Int)) :: st) (enc w t)) : Ev d M Q pc la ((2, (a : Int)) :: st) (enc w t) := by
  refine ev_s hc (Nat.le_of_ble_eq_true rfl) ?_ h
  simp only [am_s1]
  rw [if_pos (en_atE ha).1, hz, Int.toNat_natCast]
  simp only [enc, hr, Option.getD_some]
theorem e_putf {f a tg : Nat} {v z : Int} (hc : am_cd M pc = (19, nx, f, z, l)) (ha : en_at a (f / 100) = true) (hr : en_r a (f % 100) = none) (hz : tg = z.toNat) (h2 : tg = 2 → 0 ≤ v) (hb : am_ty (f / 100) (f % 100) = .boolean → v = 0 ∨ v = 1) (h : Ev d M Q nx la st (enc (wu w a (f % 100) v) t)) : Ev d M Q pc la ((tg, v) :: (2, (a : Int)) :: st) (enc w t) := by
  refine ev_s hc (Nat.le_of_ble_eq_true rfl) ?_ h
  simp only [am_s1]
  rw [if_pos ⟨(en_atE ha).1, hz, h2, hb⟩, Int.toNat_natCast, enc_up hr]
theorem en_ix {a : Nat} {i : Int} (h1 : en_at a 20 = true ∨ en_at a 21 = true ∨ en_at a 22 = true) (h : 0 ≤ w32 i ∧ w32 i < (en_k a).2) : am_ix (enc w t) (a : Int) i = true := by
  have e : (enc w t).2.1 a = en_k a := by
    rcases h1 with h1 | h1 | h1 <;> exact (en_atE h1).2.1
  unfold am_ix
  simp only [Bool.and_eq_true, decide_eq_true_eq, Int.toNat_natCast]
  rw [e]
  exact h
def en_no (a : Nat) : Bool := match en_rl.getD a [] with
  | [] => true
  | _ => false
theorem en_noE {a : Nat} (h : en_no a = true) (k : Nat) : en_r a k = none := by
  unfold en_no at h
  unfold en_r
  split at h
  · next he => rw [he]; rfl
  · cases h
theorem e_iald {a b0 n : Nat} {i z : Int} (hc : am_cd M pc = (21, nx, b0, z, l)) (ha : en_at a 20 = true) (hr : en_no a = true) (hn : (en_k a).2 = n) (hi : 0 ≤ w32 i ∧ w32 i < n) (h : Ev d M Q nx la ((0, w a (w32 i).toNat) :: st) (enc w t)) : Ev d M Q pc la ((0, i) :: (2, (a : Int)) :: st) (enc w t) := by
  refine ev_s hc (Nat.le_of_ble_eq_true rfl) ?_ h
  simp only [am_s1]
  rw [if_pos ⟨en_ix (Or.inl ha) (by rw [hn]; exact hi), Or.inl (en_atE ha).1⟩, Int.toNat_natCast]
  simp only [enc, en_noE hr, Option.getD_none]
theorem e_lald {a b0 n : Nat} {i z : Int} (hc : am_cd M pc = (22, nx, b0, z, l)) (ha : en_at a 21 = true) (hr : en_no a = true) (hn : (en_k a).2 = n) (hi : 0 ≤ w32 i ∧ w32 i < n) (h : Ev d M Q nx la ((1, w a (w32 i).toNat) :: st) (enc w t)) : Ev d M Q pc la ((0, i) :: (2, (a : Int)) :: st) (enc w t) := by
  refine ev_s hc (Nat.le_of_ble_eq_true rfl) ?_ h
  simp only [am_s1]
  rw [if_pos ⟨en_ix (Or.inr (Or.inl ha)) (by rw [hn]; exact hi), (en_atE ha).1⟩, Int.toNat_natCast]
  simp only [enc, en_noE hr, Option.getD_none]
theorem e_bald {a b0 n : Nat} {i z : Int} (hc : am_cd M pc = (23, nx, b0, z, l)) (ha : en_at a 22 = true) (hr : en_no a = true) (hn : (en_k a).2 = n) (hi : 0 ≤ w32 i ∧ w32 i < n) (h : Ev d M Q nx la ((0, w a (w32 i).toNat) :: st) (enc w t)) : Ev d M Q pc la ((0, i) :: (2, (a : Int)) :: st) (enc w t) := by
  refine ev_s hc (Nat.le_of_ble_eq_true rfl) ?_ h
  simp only [am_s1]
  rw [if_pos ⟨en_ix (Or.inr (Or.inr ha)) (by rw [hn]; exact hi), (en_atE ha).1⟩, Int.toNat_natCast]
  simp only [enc, en_noE hr, Option.getD_none]
theorem e_iast {a b0 n : Nat} {i v z : Int} (hc : am_cd M pc = (24, nx, b0, z, l)) (ha : en_at a 20 = true) (hr : en_no a = true) (hn : (en_k a).2 = n) (hi : 0 ≤ w32 i ∧ w32 i < n) (h : Ev d M Q nx la st (enc (wu w a (w32 i).toNat v) t)) : Ev d M Q pc la ((0, v) :: (0, i) :: (2, (a : Int)) :: st) (enc w t) := by
  refine ev_s hc (Nat.le_of_ble_eq_true rfl) ?_ h
  simp only [am_s1]
  rw [if_pos ⟨en_ix (Or.inl ha) (by rw [hn]; exact hi), (en_atE ha).1⟩, Int.toNat_natCast, enc_up (en_noE hr _)]
theorem e_last {a b0 n : Nat} {i v z : Int} (hc : am_cd M pc = (25, nx, b0, z, l)) (ha : en_at a 21 = true) (hr : en_no a = true) (hn : (en_k a).2 = n) (hi : 0 ≤ w32 i ∧ w32 i < n) (h : Ev d M Q nx la st (enc (wu w a (w32 i).toNat v) t)) : Ev d M Q pc la ((1, v) :: (0, i) :: (2, (a : Int)) :: st) (enc w t) := by
  refine ev_s hc (Nat.le_of_ble_eq_true rfl) ?_ h
  simp only [am_s1]
  rw [if_pos ⟨en_ix (Or.inr (Or.inl ha)) (by rw [hn]; exact hi), (en_atE ha).1⟩, Int.toNat_natCast, enc_up (en_noE hr _)]
theorem e_bast {a b0 n : Nat} {i v z : Int} (hc : am_cd M pc = (26, nx, b0, z, l)) (ha : en_at a 22 = true) (hr : en_no a = true) (hn : (en_k a).2 = n) (hi : 0 ≤ w32 i ∧ w32 i < n) (h : Ev d M Q nx la st (enc (wu w a (w32 i).toNat (Int32.ofInt v).toInt8.toInt) t)) : Ev d M Q pc la ((0, v) :: (0, i) :: (2, (a : Int)) :: st) (enc w t) := by
  refine ev_s hc (Nat.le_of_ble_eq_true rfl) ?_ h
  simp only [am_s1]
  rw [if_pos ⟨en_ix (Or.inr (Or.inr ha)) (by rw [hn]; exact hi), (en_atE ha).1⟩, Int.toNat_natCast, enc_up (en_noE hr _)]
theorem e_alen {a b0 n : Nat} {z : Int} (hc : am_cd M pc = (27, nx, b0, z, l)) (ha : en_at a 20 = true ∨ en_at a 21 = true ∨ en_at a 22 = true) (hn : (en_k a).2 = n) (h : Ev d M Q nx la ((0, (n : Int)) :: st) (enc w t)) : Ev d M Q pc la ((2, (a : Int)) :: st) (enc w t) := by
  refine ev_s hc (Nat.le_of_ble_eq_true rfl) ?_ h
  have e : (enc w t).2.1 a = en_k a := by
    rcases ha with h1 | h1 | h1 <;> exact (en_atE h1).2.1
  simp only [am_s1]
  rw [if_pos (by rcases ha with h1 | h1 | h1; exact Or.inl (en_atE h1).1; exact Or.inr (Or.inl (en_atE h1).1); exact Or.inr (Or.inr (Or.inl (en_atE h1).1))), Int.toNat_natCast, e, hn]
theorem e_reti {x z : Int} (hc : am_cd M pc = (36, nx, 0, z, l)) (hr : (am_m M).2.2.2.1 = some .int) (h : Q (some (0, x)) S) : Ev d M Q pc la [(0, x)] S := ev_r hc (Nat.lt_irrefl _) (Nat.le_of_ble_eq_true rfl) (by simp only [am_fi]; rw [if_pos (Or.inl hr)]) h
theorem e_retz {x z : Int} (hc : am_cd M pc = (36, nx, 0, z, l)) (hr : (am_m M).2.2.2.1 = some .boolean) (hx : x = 0 ∨ x = 1) (h : Q (some (0, x)) S) : Ev d M Q pc la [(0, x)] S := ev_r hc (Nat.lt_irrefl _) (Nat.le_of_ble_eq_true rfl) (by simp only [am_fi]; rw [if_pos (Or.inr ⟨hr, hx⟩)]) h
theorem e_retl {x z : Int} (hc : am_cd M pc = (36, nx, 1, z, l)) (hr : (am_m M).2.2.2.1 = some .long) (h : Q (some (1, x)) S) : Ev d M Q pc la [(1, x)] S := ev_r hc (Nat.lt_irrefl _) (Nat.le_of_ble_eq_true rfl) (by simp only [am_fi]; rw [if_pos hr]) h
theorem e_retv {z : Int} (hc : am_cd M pc = (36, nx, 3, z, l)) (hr : (am_m M).2.2.2.1 = none) (h : Q none S) : Ev d M Q pc la [] S := ev_r hc (Nat.lt_irrefl _) (Nat.le_of_ble_eq_true rfl) (by simp only [am_fi]; rw [if_pos hr]) h
/-- what a call's arguments must be, but for the receiver -/
def en_ar (k : Nat) (as rest : List aV) : Bool := decide ((as.map fun v => v.1) = (am_m k).2.2.2.2.2) && (Nat.ble ((rest.map fun v => if v.1 = 1 then 2 else 1).sum) 8)
def en_nn (vs : List aV) : Prop := ∀ v ∈ vs, v.1 ≤ 2 ∧ (v.1 = 2 → 0 ≤ v.2)
theorem e_cS {k : Nat} {md z : Int} {as rest : List aV} (hc : am_cd M pc = (40, nx, k, md, l)) (hmd : ¬ md = 0) (hst : st = as.reverse ++ rest) (h1 : (as.map fun v => v.1) = (am_m k).2.2.2.2.2) (h2 : (rest.map fun v => if v.1 = 1 then 2 else 1).sum ≤ 8) (h3 : (st.all fun v => decide (v.1 ≤ 2) && (!decide (v.1 = 2) || decide (0 ≤ v.2))) = true) (h : Cl d k as S (fun r S2 => (∀ x, r ≠ some (6, x)) ∧ Ev (d + 1) M Q nx la (r.toList ++ rest) S2)) : Ev (d + 1) M Q pc la st S := by
  refine ev_c hc ?_ h
  have hlen : (am_m k).2.2.2.2.2.length = as.length := by rw [← h1, List.length_map]
  have e1 : (st.take (am_m k).2.2.2.2.2.length).reverse = as := by rw [hlen, hst, List.take_left' (by simp), List.reverse_reverse]
  have e2 : st.drop (am_m k).2.2.2.2.2.length = rest := by rw [hlen, hst, List.drop_left' (by simp)]
  unfold am_ar
  simp only
  rw [e1, e2, if_pos ⟨h1, h2, h3, fun h9 => absurd h9 hmd⟩]
theorem e_cV {k a : Nat} {z : Int} {as rest : List aV} (hc : am_cd M pc = (40, nx, k, 0, l)) (ha : en_at a (am_m k).2.2.2.2.1 = true) (hst : st = ((2, (a : Int)) :: as).reverse ++ rest) (h1 : (((2, (a : Int)) :: as).map fun v => v.1) = (am_m k).2.2.2.2.2) (h2 : (rest.map fun v => if v.1 = 1 then 2 else 1).sum ≤ 8) (h3 : (st.all fun v => decide (v.1 ≤ 2) && (!decide (v.1 = 2) || decide (0 ≤ v.2))) = true) (h : Cl d k ((2, (a : Int)) :: as) (enc w t) (fun r S2 => (∀ x, r ≠ some (6, x)) ∧ Ev (d + 1) M Q nx la (r.toList ++ rest) S2)) : Ev (d + 1) M Q pc la st (enc w t) := by
  refine ev_c hc ?_ h
  have hlen : (am_m k).2.2.2.2.2.length = ((2, (a : Int)) :: as).length := by rw [← h1, List.length_map]
  have e1 : (st.take (am_m k).2.2.2.2.2.length).reverse = (2, (a : Int)) :: as := by rw [hlen, hst, List.take_left' (by simp), List.reverse_reverse]
  have e2 : st.drop (am_m k).2.2.2.2.2.length = rest := by rw [hlen, hst, List.drop_left' (by simp)]
  unfold am_ar
  simp only
  rw [e1, e2, if_pos ⟨h1, h2, h3, fun _ => (en_atE ha).1⟩]
theorem e_max {x y z : Int} (hc : am_cd M pc = (33, nx, 9, z, l)) (h2 : (st.map fun v => if v.1 = 1 then 2 else 1).sum ≤ 8) (h : Ev (d + 1) M Q nx la ((0, if w32 x < w32 y then y else x) :: st) S) : Ev (d + 1) M Q pc la ((0, y) :: (0, x) :: st) S := ev_s1 hc (Nat.le_of_ble_eq_true rfl) (by simp only [am_s1]; rw [if_pos h2]) h
theorem e_min {x y z : Int} (hc : am_cd M pc = (33, nx, 10, z, l)) (h2 : (st.map fun v => if v.1 = 1 then 2 else 1).sum ≤ 8) (h : Ev (d + 1) M Q nx la ((0, if w32 y < w32 x then y else x) :: st) S) : Ev (d + 1) M Q pc la ((0, y) :: (0, x) :: st) S := ev_s1 hc (Nat.le_of_ble_eq_true rfl) (by simp only [am_s1]; rw [if_pos h2]) h
theorem e_minl {x y z : Int} (hc : am_cd M pc = (33, nx, 11, z, l)) (h2 : (st.map fun v => if v.1 = 1 then 2 else 1).sum ≤ 8) (h : Ev (d + 1) M Q nx la ((1, if w64 y < w64 x then y else x) :: st) S) : Ev (d + 1) M Q pc la ((1, y) :: (1, x) :: st) S := ev_s1 hc (Nat.le_of_ble_eq_true rfl) (by simp only [am_s1]; rw [if_pos h2]) h
end EVR
