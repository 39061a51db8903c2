/-! Branches, the stack, the constructor of Object, Math. -/
section AMS
variable {p : Program} {l : Launch} {e : Env} {R : Room} {s : State} {m : MethodId} {args : Array Value} {below : List Frame} {meth : Method} {c : Code} {H : Heap} {locs : List Loc} {cells slots : Nat} {Q : State → Prop}
variable {b sz L : Nat} {xs : Nat → Int32} {D : va_G} {cI cJ cB : ClassId} {M pc : Nat} {la st : List aV} {lr : Array Slot} {S : aS} {c2 : aC}

theorem am_lt0 (x : Int) : Int32.ofInt x < 0 ↔ w32 x < 0 := am_lt x 0
theorem am_0lt (x : Int) : 0 < Int32.ofInt x ↔ 0 < w32 x := am_lt 0 x
theorem am_le0 (x : Int) : Int32.ofInt x ≤ 0 ↔ w32 x ≤ 0 := am_le x 0
theorem am_0le (x : Int) : 0 ≤ Int32.ofInt x ↔ 0 ≤ w32 x := am_le 0 x
theorem am_cb_0 {x y : Int} : am_cb 0 x y = true ↔ x = y := by simp [am_cb]
theorem am_cb_1 {x y : Int} : am_cb 1 x y = true ↔ ¬ x = y := by simp [am_cb]
theorem am_cb_2 {x y : Int} : am_cb 2 x y = true ↔ x < y := by simp [am_cb]
theorem am_cb_3 {x y : Int} : am_cb 3 x y = true ↔ y ≤ x := by simp [am_cb]
theorem am_cb_4 {x y : Int} : am_cb 4 x y = true ↔ y < x := by simp [am_cb]
theorem am_cb_5 {x y : Int} : am_cb 5 x y = true ↔ x ≤ y := by simp [am_cb]

theorem am_i_if_eq {off : Int} {t : Nat} (G : am_G b sz L xs D cI cJ cB p s m args meth c M) (ht : (pc : Int) + off = (t : Int)) (hd : decode (am_m M).2.1 pc = .ok (.ifCond .eq off, 3)) (h : am_s1 (10, pc + 3, t, 0, []) la st S = some c2) (hL : am_LR b sz lr (am_m M).2.2.1 la) (hR : am_Rel b sz L xs D cI cJ cB S H) (hS : va_S (fun q => sz ≤ q) s.heap H locs) (k : am_K p l e R s m args below meth c cells slots Q b sz L xs D cI cJ cB (am_m M).2.2.1 S c2) : W p l e R s m args below meth c H locs cells slots Q (F0 m pc lr (st.map (am_cv b sz))) := by
  simp only [am_s1] at h
  split at h
  · next x r =>
    refine lv_if_eq (x := Int32.ofInt x) G.1 G.2.1 hd ht (fun hc => ?_) (fun hc => ?_)
    · rw [if_pos (am_cb_0.mpr ((am_eq0 x).mp hc))] at h
      cases h
      exact am_same k hL hR hS
    · rw [if_neg (fun z => hc ((am_eq0 x).mpr (am_cb_0.mp z)))] at h
      cases h
      exact am_same k hL hR hS
  · cases h

theorem am_i_icmp_eq {off : Int} {t : Nat} (G : am_G b sz L xs D cI cJ cB p s m args meth c M) (ht : (pc : Int) + off = (t : Int)) (hd : decode (am_m M).2.1 pc = .ok (.if_icmp .eq off, 3)) (h : am_s1 (11, pc + 3, t, 0, []) la st S = some c2) (hL : am_LR b sz lr (am_m M).2.2.1 la) (hR : am_Rel b sz L xs D cI cJ cB S H) (hS : va_S (fun q => sz ≤ q) s.heap H locs) (k : am_K p l e R s m args below meth c cells slots Q b sz L xs D cI cJ cB (am_m M).2.2.1 S c2) : W p l e R s m args below meth c H locs cells slots Q (F0 m pc lr (st.map (am_cv b sz))) := by
  simp only [am_s1] at h
  split at h
  · next y x r =>
    refine lv_icmp_eq (x := Int32.ofInt x) (y := Int32.ofInt y) G.1 G.2.1 hd ht (fun hc => ?_) (fun hc => ?_)
    · rw [if_pos (am_cb_0.mpr ((am_eq x y).mp hc))] at h
      cases h
      exact am_same k hL hR hS
    · rw [if_neg (fun z => hc ((am_eq x y).mpr (am_cb_0.mp z)))] at h
      cases h
      exact am_same k hL hR hS
  · cases h

theorem am_i_if_ne {off : Int} {t : Nat} (G : am_G b sz L xs D cI cJ cB p s m args meth c M) (ht : (pc : Int) + off = (t : Int)) (hd : decode (am_m M).2.1 pc = .ok (.ifCond .ne off, 3)) (h : am_s1 (10, pc + 3, t, 1, []) la st S = some c2) (hL : am_LR b sz lr (am_m M).2.2.1 la) (hR : am_Rel b sz L xs D cI cJ cB S H) (hS : va_S (fun q => sz ≤ q) s.heap H locs) (k : am_K p l e R s m args below meth c cells slots Q b sz L xs D cI cJ cB (am_m M).2.2.1 S c2) : W p l e R s m args below meth c H locs cells slots Q (F0 m pc lr (st.map (am_cv b sz))) := by
  simp only [am_s1] at h
  split at h
  · next x r =>
    refine lv_if_ne (x := Int32.ofInt x) G.1 G.2.1 hd ht (fun hc => ?_) (fun hc => ?_)
    · rw [if_pos (am_cb_1.mpr ((not_congr (am_eq0 x)).mp hc))] at h
      cases h
      exact am_same k hL hR hS
    · rw [if_neg (fun z => am_cb_1.mp z ((am_eq0 x).mp hc))] at h
      cases h
      exact am_same k hL hR hS
  · cases h

theorem am_i_icmp_ne {off : Int} {t : Nat} (G : am_G b sz L xs D cI cJ cB p s m args meth c M) (ht : (pc : Int) + off = (t : Int)) (hd : decode (am_m M).2.1 pc = .ok (.if_icmp .ne off, 3)) (h : am_s1 (11, pc + 3, t, 1, []) la st S = some c2) (hL : am_LR b sz lr (am_m M).2.2.1 la) (hR : am_Rel b sz L xs D cI cJ cB S H) (hS : va_S (fun q => sz ≤ q) s.heap H locs) (k : am_K p l e R s m args below meth c cells slots Q b sz L xs D cI cJ cB (am_m M).2.2.1 S c2) : W p l e R s m args below meth c H locs cells slots Q (F0 m pc lr (st.map (am_cv b sz))) := by
  simp only [am_s1] at h
  split at h
  · next y x r =>
    refine lv_icmp_ne (x := Int32.ofInt x) (y := Int32.ofInt y) G.1 G.2.1 hd ht (fun hc => ?_) (fun hc => ?_)
    · rw [if_pos (am_cb_1.mpr ((not_congr (am_eq x y)).mp hc))] at h
      cases h
      exact am_same k hL hR hS
    · rw [if_neg (fun z => am_cb_1.mp z ((am_eq x y).mp hc))] at h
      cases h
      exact am_same k hL hR hS
  · cases h

theorem am_i_if_lt {off : Int} {t : Nat} (G : am_G b sz L xs D cI cJ cB p s m args meth c M) (ht : (pc : Int) + off = (t : Int)) (hd : decode (am_m M).2.1 pc = .ok (.ifCond .lt off, 3)) (h : am_s1 (10, pc + 3, t, 2, []) la st S = some c2) (hL : am_LR b sz lr (am_m M).2.2.1 la) (hR : am_Rel b sz L xs D cI cJ cB S H) (hS : va_S (fun q => sz ≤ q) s.heap H locs) (k : am_K p l e R s m args below meth c cells slots Q b sz L xs D cI cJ cB (am_m M).2.2.1 S c2) : W p l e R s m args below meth c H locs cells slots Q (F0 m pc lr (st.map (am_cv b sz))) := by
  simp only [am_s1] at h
  split at h
  · next x r =>
    refine lv_if_lt (x := Int32.ofInt x) G.1 G.2.1 hd ht (fun hc => ?_) (fun hc => ?_)
    · rw [if_pos (am_cb_2.mpr ((am_lt0 x).mp hc))] at h
      cases h
      exact am_same k hL hR hS
    · rw [if_neg (fun z => hc ((am_lt0 x).mpr (am_cb_2.mp z)))] at h
      cases h
      exact am_same k hL hR hS
  · cases h

theorem am_i_icmp_lt {off : Int} {t : Nat} (G : am_G b sz L xs D cI cJ cB p s m args meth c M) (ht : (pc : Int) + off = (t : Int)) (hd : decode (am_m M).2.1 pc = .ok (.if_icmp .lt off, 3)) (h : am_s1 (11, pc + 3, t, 2, []) la st S = some c2) (hL : am_LR b sz lr (am_m M).2.2.1 la) (hR : am_Rel b sz L xs D cI cJ cB S H) (hS : va_S (fun q => sz ≤ q) s.heap H locs) (k : am_K p l e R s m args below meth c cells slots Q b sz L xs D cI cJ cB (am_m M).2.2.1 S c2) : W p l e R s m args below meth c H locs cells slots Q (F0 m pc lr (st.map (am_cv b sz))) := by
  simp only [am_s1] at h
  split at h
  · next y x r =>
    refine lv_icmp_lt (x := Int32.ofInt x) (y := Int32.ofInt y) G.1 G.2.1 hd ht (fun hc => ?_) (fun hc => ?_)
    · rw [if_pos (am_cb_2.mpr ((am_lt x y).mp hc))] at h
      cases h
      exact am_same k hL hR hS
    · rw [if_neg (fun z => hc ((am_lt x y).mpr (am_cb_2.mp z)))] at h
      cases h
      exact am_same k hL hR hS
  · cases h

theorem am_i_if_ge {off : Int} {t : Nat} (G : am_G b sz L xs D cI cJ cB p s m args meth c M) (ht : (pc : Int) + off = (t : Int)) (hd : decode (am_m M).2.1 pc = .ok (.ifCond .ge off, 3)) (h : am_s1 (10, pc + 3, t, 3, []) la st S = some c2) (hL : am_LR b sz lr (am_m M).2.2.1 la) (hR : am_Rel b sz L xs D cI cJ cB S H) (hS : va_S (fun q => sz ≤ q) s.heap H locs) (k : am_K p l e R s m args below meth c cells slots Q b sz L xs D cI cJ cB (am_m M).2.2.1 S c2) : W p l e R s m args below meth c H locs cells slots Q (F0 m pc lr (st.map (am_cv b sz))) := by
  simp only [am_s1] at h
  split at h
  · next x r =>
    refine lv_if_ge (x := Int32.ofInt x) G.1 G.2.1 hd ht (fun hc => ?_) (fun hc => ?_)
    · rw [if_pos (am_cb_3.mpr ((am_0le x).mp hc))] at h
      cases h
      exact am_same k hL hR hS
    · rw [if_neg (fun z => hc ((am_0le x).mpr (am_cb_3.mp z)))] at h
      cases h
      exact am_same k hL hR hS
  · cases h

theorem am_i_icmp_ge {off : Int} {t : Nat} (G : am_G b sz L xs D cI cJ cB p s m args meth c M) (ht : (pc : Int) + off = (t : Int)) (hd : decode (am_m M).2.1 pc = .ok (.if_icmp .ge off, 3)) (h : am_s1 (11, pc + 3, t, 3, []) la st S = some c2) (hL : am_LR b sz lr (am_m M).2.2.1 la) (hR : am_Rel b sz L xs D cI cJ cB S H) (hS : va_S (fun q => sz ≤ q) s.heap H locs) (k : am_K p l e R s m args below meth c cells slots Q b sz L xs D cI cJ cB (am_m M).2.2.1 S c2) : W p l e R s m args below meth c H locs cells slots Q (F0 m pc lr (st.map (am_cv b sz))) := by
  simp only [am_s1] at h
  split at h
  · next y x r =>
    refine lv_icmp_ge (x := Int32.ofInt x) (y := Int32.ofInt y) G.1 G.2.1 hd ht (fun hc => ?_) (fun hc => ?_)
    · rw [if_pos (am_cb_3.mpr ((am_le y x).mp hc))] at h
      cases h
      exact am_same k hL hR hS
    · rw [if_neg (fun z => hc ((am_le y x).mpr (am_cb_3.mp z)))] at h
      cases h
      exact am_same k hL hR hS
  · cases h

theorem am_i_if_gt {off : Int} {t : Nat} (G : am_G b sz L xs D cI cJ cB p s m args meth c M) (ht : (pc : Int) + off = (t : Int)) (hd : decode (am_m M).2.1 pc = .ok (.ifCond .gt off, 3)) (h : am_s1 (10, pc + 3, t, 4, []) la st S = some c2) (hL : am_LR b sz lr (am_m M).2.2.1 la) (hR : am_Rel b sz L xs D cI cJ cB S H) (hS : va_S (fun q => sz ≤ q) s.heap H locs) (k : am_K p l e R s m args below meth c cells slots Q b sz L xs D cI cJ cB (am_m M).2.2.1 S c2) : W p l e R s m args below meth c H locs cells slots Q (F0 m pc lr (st.map (am_cv b sz))) := by
  simp only [am_s1] at h
  split at h
  · next x r =>
    refine lv_if_gt (x := Int32.ofInt x) G.1 G.2.1 hd ht (fun hc => ?_) (fun hc => ?_)
    · rw [if_pos (am_cb_4.mpr ((am_0lt x).mp hc))] at h
      cases h
      exact am_same k hL hR hS
    · rw [if_neg (fun z => hc ((am_0lt x).mpr (am_cb_4.mp z)))] at h
      cases h
      exact am_same k hL hR hS
  · cases h

theorem am_i_icmp_gt {off : Int} {t : Nat} (G : am_G b sz L xs D cI cJ cB p s m args meth c M) (ht : (pc : Int) + off = (t : Int)) (hd : decode (am_m M).2.1 pc = .ok (.if_icmp .gt off, 3)) (h : am_s1 (11, pc + 3, t, 4, []) la st S = some c2) (hL : am_LR b sz lr (am_m M).2.2.1 la) (hR : am_Rel b sz L xs D cI cJ cB S H) (hS : va_S (fun q => sz ≤ q) s.heap H locs) (k : am_K p l e R s m args below meth c cells slots Q b sz L xs D cI cJ cB (am_m M).2.2.1 S c2) : W p l e R s m args below meth c H locs cells slots Q (F0 m pc lr (st.map (am_cv b sz))) := by
  simp only [am_s1] at h
  split at h
  · next y x r =>
    refine lv_icmp_gt (x := Int32.ofInt x) (y := Int32.ofInt y) G.1 G.2.1 hd ht (fun hc => ?_) (fun hc => ?_)
    · rw [if_pos (am_cb_4.mpr ((am_lt y x).mp hc))] at h
      cases h
      exact am_same k hL hR hS
    · rw [if_neg (fun z => hc ((am_lt y x).mpr (am_cb_4.mp z)))] at h
      cases h
      exact am_same k hL hR hS
  · cases h

theorem am_i_if_le {off : Int} {t : Nat} (G : am_G b sz L xs D cI cJ cB p s m args meth c M) (ht : (pc : Int) + off = (t : Int)) (hd : decode (am_m M).2.1 pc = .ok (.ifCond .le off, 3)) (h : am_s1 (10, pc + 3, t, 5, []) la st S = some c2) (hL : am_LR b sz lr (am_m M).2.2.1 la) (hR : am_Rel b sz L xs D cI cJ cB S H) (hS : va_S (fun q => sz ≤ q) s.heap H locs) (k : am_K p l e R s m args below meth c cells slots Q b sz L xs D cI cJ cB (am_m M).2.2.1 S c2) : W p l e R s m args below meth c H locs cells slots Q (F0 m pc lr (st.map (am_cv b sz))) := by
  simp only [am_s1] at h
  split at h
  · next x r =>
    refine lv_if_le (x := Int32.ofInt x) G.1 G.2.1 hd ht (fun hc => ?_) (fun hc => ?_)
    · rw [if_pos (am_cb_5.mpr ((am_le0 x).mp hc))] at h
      cases h
      exact am_same k hL hR hS
    · rw [if_neg (fun z => hc ((am_le0 x).mpr (am_cb_5.mp z)))] at h
      cases h
      exact am_same k hL hR hS
  · cases h

theorem am_i_icmp_le {off : Int} {t : Nat} (G : am_G b sz L xs D cI cJ cB p s m args meth c M) (ht : (pc : Int) + off = (t : Int)) (hd : decode (am_m M).2.1 pc = .ok (.if_icmp .le off, 3)) (h : am_s1 (11, pc + 3, t, 5, []) la st S = some c2) (hL : am_LR b sz lr (am_m M).2.2.1 la) (hR : am_Rel b sz L xs D cI cJ cB S H) (hS : va_S (fun q => sz ≤ q) s.heap H locs) (k : am_K p l e R s m args below meth c cells slots Q b sz L xs D cI cJ cB (am_m M).2.2.1 S c2) : W p l e R s m args below meth c H locs cells slots Q (F0 m pc lr (st.map (am_cv b sz))) := by
  simp only [am_s1] at h
  split at h
  · next y x r =>
    refine lv_icmp_le (x := Int32.ofInt x) (y := Int32.ofInt y) G.1 G.2.1 hd ht (fun hc => ?_) (fun hc => ?_)
    · rw [if_pos (am_cb_5.mpr ((am_le x y).mp hc))] at h
      cases h
      exact am_same k hL hR hS
    · rw [if_neg (fun z => hc ((am_le x y).mpr (am_cb_5.mp z)))] at h
      cases h
      exact am_same k hL hR hS
  · cases h

theorem am_i_goto {off : Int} {t : Nat} (G : am_G b sz L xs D cI cJ cB p s m args meth c M) (ht : (pc : Int) + off = (t : Int)) (hd : decode (am_m M).2.1 pc = .ok (.goto off, 3)) (h : am_s1 (12, t, 0, 0, []) la st S = some c2) (hL : am_LR b sz lr (am_m M).2.2.1 la) (hR : am_Rel b sz L xs D cI cJ cB S H) (hS : va_S (fun q => sz ≤ q) s.heap H locs) (k : am_K p l e R s m args below meth c cells slots Q b sz L xs D cI cJ cB (am_m M).2.2.1 S c2) : W p l e R s m args below meth c H locs cells slots Q (F0 m pc lr (st.map (am_cv b sz))) := by
  simp only [am_s1] at h
  cases h
  exact lv_goto G.1 G.2.1 hd ht (am_same k hL hR hS)

theorem am_c1 {v : aV} (h : ¬ v.1 = 1) : (am_cv b sz v).category = 1 := by rw [am_cv_cat, if_neg h]

theorem am_i_dup  (G : am_G b sz L xs D cI cJ cB p s m args meth c M) (hd : decode (am_m M).2.1 pc = .ok (.dup, 1)) (h : am_s1 (13, pc + 1, 0, 0, []) la st S = some c2) (hL : am_LR b sz lr (am_m M).2.2.1 la) (hR : am_Rel b sz L xs D cI cJ cB S H) (hS : va_S (fun q => sz ≤ q) s.heap H locs) (k : am_K p l e R s m args below meth c cells slots Q b sz L xs D cI cJ cB (am_m M).2.2.1 S c2) : W p l e R s m args below meth c H locs cells slots Q (F0 m pc lr (st.map (am_cv b sz))) := by
  simp only [am_s1] at h
  split at h
  · next t x r =>
    split at h
    · cases h
    · next hn =>
      cases h
      exact lv_dup (va := am_cv b sz (t, x)) G.1 G.2.1 hd (am_c1 hn) (am_same k hL hR hS)
  · cases h

theorem am_i_dup2  (G : am_G b sz L xs D cI cJ cB p s m args meth c M) (hd : decode (am_m M).2.1 pc = .ok (.dup2, 1)) (h : am_s1 (14, pc + 1, 0, 0, []) la st S = some c2) (hL : am_LR b sz lr (am_m M).2.2.1 la) (hR : am_Rel b sz L xs D cI cJ cB S H) (hS : va_S (fun q => sz ≤ q) s.heap H locs) (k : am_K p l e R s m args below meth c cells slots Q b sz L xs D cI cJ cB (am_m M).2.2.1 S c2) : W p l e R s m args below meth c H locs cells slots Q (F0 m pc lr (st.map (am_cv b sz))) := by
  simp only [am_s1] at h
  split at h
  · next t x u y r =>
    split at h
    · cases h
    · next hn =>
      cases h
      exact lv_dup2_11 (va := am_cv b sz (t, x)) (vb := am_cv b sz (u, y)) G.1 G.2.1 hd (am_c1 (fun e => hn (Or.inl e))) (am_c1 (fun e => hn (Or.inr e))) (am_same k hL hR hS)
  · cases h

theorem am_i_dup_x1  (G : am_G b sz L xs D cI cJ cB p s m args meth c M) (hd : decode (am_m M).2.1 pc = .ok (.dup_x1, 1)) (h : am_s1 (15, pc + 1, 0, 0, []) la st S = some c2) (hL : am_LR b sz lr (am_m M).2.2.1 la) (hR : am_Rel b sz L xs D cI cJ cB S H) (hS : va_S (fun q => sz ≤ q) s.heap H locs) (k : am_K p l e R s m args below meth c cells slots Q b sz L xs D cI cJ cB (am_m M).2.2.1 S c2) : W p l e R s m args below meth c H locs cells slots Q (F0 m pc lr (st.map (am_cv b sz))) := by
  simp only [am_s1] at h
  split at h
  · next t x u y r =>
    split at h
    · cases h
    · next hn =>
      cases h
      exact lv_dup_x1 (va := am_cv b sz (t, x)) (vb := am_cv b sz (u, y)) G.1 G.2.1 hd (am_c1 (fun e => hn (Or.inl e))) (am_c1 (fun e => hn (Or.inr e))) (am_same k hL hR hS)
  · cases h

theorem am_i_pop  (G : am_G b sz L xs D cI cJ cB p s m args meth c M) (hd : decode (am_m M).2.1 pc = .ok (.pop, 1)) (h : am_s1 (16, pc + 1, 0, 0, []) la st S = some c2) (hL : am_LR b sz lr (am_m M).2.2.1 la) (hR : am_Rel b sz L xs D cI cJ cB S H) (hS : va_S (fun q => sz ≤ q) s.heap H locs) (k : am_K p l e R s m args below meth c cells slots Q b sz L xs D cI cJ cB (am_m M).2.2.1 S c2) : W p l e R s m args below meth c H locs cells slots Q (F0 m pc lr (st.map (am_cv b sz))) := by
  simp only [am_s1] at h
  split at h
  · next t x r =>
    split at h
    · cases h
    · next hn =>
      cases h
      exact lv_pop (va := am_cv b sz (t, x)) G.1 G.2.1 hd (am_c1 hn) (am_same k hL hR hS)
  · cases h

theorem am_i_pop2  (G : am_G b sz L xs D cI cJ cB p s m args meth c M) (hd : decode (am_m M).2.1 pc = .ok (.pop2, 1)) (h : am_s1 (17, pc + 1, 0, 0, []) la st S = some c2) (hL : am_LR b sz lr (am_m M).2.2.1 la) (hR : am_Rel b sz L xs D cI cJ cB S H) (hS : va_S (fun q => sz ≤ q) s.heap H locs) (k : am_K p l e R s m args below meth c cells slots Q b sz L xs D cI cJ cB (am_m M).2.2.1 S c2) : W p l e R s m args below meth c H locs cells slots Q (F0 m pc lr (st.map (am_cv b sz))) := by
  simp only [am_s1] at h
  split at h
  · next x r =>
    cases h
    exact lv_pop2_2 (va := .long (Int64.ofInt x)) G.1 G.2.1 hd rfl (am_same k hL hR hS)
  · cases h

theorem am_i_tsw {dflt lo hi : Int} {offs : Array Int} {len t : Nat} (G : am_G b sz L xs D cI cJ cB p s m args meth c M) (hall : ∀ o ∈ offs.toList, 0 ≤ (pc : Int) + o) (hhi : hi = lo + offs.size - 1) (ht : (pc : Int) + dflt = (t : Int)) (hd : decode (am_m M).2.1 pc = .ok (.tableswitch dflt lo hi offs, len)) (h : am_s1 (30, t, len, lo, offs.toList.map fun o => ((pc : Int) + o).toNat) la st S = some c2) (hL : am_LR b sz lr (am_m M).2.2.1 la) (hR : am_Rel b sz L xs D cI cJ cB S H) (hS : va_S (fun q => sz ≤ q) s.heap H locs) (k : am_K p l e R s m args below meth c cells slots Q b sz L xs D cI cJ cB (am_m M).2.2.1 S c2) : W p l e R s m args below meth c H locs cells slots Q (F0 m pc lr (st.map (am_cv b sz))) := by
  simp only [am_s1] at h
  split at h
  · next x r =>
    have hx : (Int32.ofInt x).toInt = w32 x := rfl
    split at h
    · next hlt =>
      cases h
      exact lv_tableOut (x := Int32.ofInt x) G.1 G.2.1 hd (Or.inl hlt) ht (am_same k hL hR hS)
    · next hge =>
      rw [List.getElem?_map, Array.getElem?_toList] at h
      cases ho : offs[(w32 x - lo).toNat]? with
      | some o =>
        rw [ho] at h
        simp only [Option.map_some] at h
        cases h
        have hlt := (Array.getElem?_eq_some_iff.mp ho).1
        have hpos := hall o (Array.mem_toList_iff.mpr (Array.mem_of_getElem? ho))
        exact lv_tableIn (x := Int32.ofInt x) G.1 G.2.1 hd (by rw [hx]; exact hge) (by rw [hx]; omega) (by rw [hx]; exact ho) (Int.toNat_of_nonneg hpos).symm (am_same k hL hR hS)
      | none =>
        rw [ho] at h
        simp only [Option.map_none] at h
        cases h
        have hle := Array.getElem?_eq_none_iff.mp ho
        exact lv_tableOut (x := Int32.ofInt x) G.1 G.2.1 hd (Or.inr (by rw [hx]; omega)) ht (am_same k hL hR hS)
  · cases h

theorem am_cats (r : List aV) : ((r.map (am_cv b sz)).map fun v => v.category).sum = (r.map fun v => if v.1 = 1 then 2 else 1).sum := by
  rw [List.map_map]
  congr 1
  apply List.map_congr_left
  intro v _
  exact am_cv_cat
theorem am_math : Cond.initialized "java/lang/Math" ∈ am_tb := am_wAt_mem (p := 147) (by decide +kernel)
theorem am_oinit : Cond.code objectInit ⟨#[0xb1]⟩ 1 none ∈ am_tb := am_tbO (am_in_1 (List.mem_of_getElem? (show tables_1_1[29]? = _ from rfl))) rfl
theorem am_oinst : Cond.instanceMethod objectInit ∈ am_tb := am_wAt_mem (p := 160) (by decide +kernel)
theorem am_lmw {o n md k : Nat} (h : am_lk (o * 1000 + n) am_lm = some (md, k)) : ∃ ps, am_mw ((o * 1000 + n, md, k), ps) = true := by
  have hm := am_lk_mem h
  obtain ⟨i, hi, he⟩ := List.mem_iff_getElem.mp hm
  have hlen : am_lm.length = am_lp.length := by decide +kernel
  have hl2 : am_lm.length ≤ 360 := by decide +kernel
  have hip : i < am_lp.length := by omega
  refine ⟨am_lp[i], ?_⟩
  have key : (am_lm.zip am_lp)[i]? = some ((o * 1000 + n, md, k), am_lp[i]) := by
    rw [List.getElem?_eq_getElem (by rw [List.length_zip]; omega), List.getElem_zip, he]
  have ck : ∀ a, a ≤ i → i < a + 30 → (((am_lm.zip am_lp).drop a |>.take 30).all am_mw = true) → am_mw ((o * 1000 + n, md, k), am_lp[i]) = true := by
    intro a h1 h2 h3
    refine List.all_eq_true.mp h3 _ (List.mem_of_getElem? (i := i - a) ?_)
    rw [List.getElem?_take_of_lt (by omega), List.getElem?_drop, show a + (i - a) = i by omega]
    exact key
  have hi2 : i < 360 := by omega
  rcases (show i < 30 ∨ (30 ≤ i ∧ i < 60) ∨ (60 ≤ i ∧ i < 90) ∨ (90 ≤ i ∧ i < 120) ∨ (120 ≤ i ∧ i < 150) ∨ (150 ≤ i ∧ i < 180) ∨ (180 ≤ i ∧ i < 210) ∨ (210 ≤ i ∧ i < 240) ∨ (240 ≤ i ∧ i < 270) ∨ (270 ≤ i ∧ i < 300) ∨ (300 ≤ i ∧ i < 330) ∨ (330 ≤ i ∧ i < 360) by omega) with h | h | h | h | h | h | h | h | h | h | h | h
  · exact ck 0 (by omega) (by omega) am_l0_0
  · exact ck 30 (by omega) (by omega) am_l0_30
  · exact ck 60 (by omega) (by omega) am_l0_60
  · exact ck 90 (by omega) (by omega) am_l0_90
  · exact ck 120 (by omega) (by omega) am_l0_120
  · exact ck 150 (by omega) (by omega) am_l0_150
  · exact ck 180 (by omega) (by omega) am_l0_180
  · exact ck 210 (by omega) (by omega) am_l0_210
  · exact ck 240 (by omega) (by omega) am_l0_240
  · exact ck 270 (by omega) (by omega) am_l0_270
  · exact ck 300 (by omega) (by omega) am_l0_300
  · exact ck 330 (by omega) (by omega) am_l0_330

theorem am_i_objinit {n k2 : Nat} (G : am_G b sz L xs D cI cJ cB p s m args meth c M) (hk : am_lk ((am_m M).2.2.2.2.1 * 1000 + n) am_lm = some (6, k2)) (hn : n < 1000) (hfr : 1 ≤ R.frames) (hlo : 60 ≤ R.locals) (hcc : cells ≤ R.cells) (hss : slots ≤ R.slots) (hd : decode (am_m M).2.1 pc = .ok (.invokespecial n, 3)) (h : am_s1 (31, pc + 3, 0, 0, [n]) la st S = some c2) (hL : am_LR b sz lr (am_m M).2.2.1 la) (hR : am_Rel b sz L xs D cI cJ cB S H) (hS : va_S (fun q => sz ≤ q) s.heap H locs) (k : am_K p l e R s m args below meth c cells slots Q b sz L xs D cI cJ cB (am_m M).2.2.1 S c2) : W p l e R s m args below meth c H locs cells slots Q (F0 m pc lr (st.map (am_cv b sz))) := by
  simp only [am_s1] at h
  split at h
  · next a r =>
    split at h
    · next hc =>
      cases h
      obtain ⟨ps, hps⟩ := am_lmw hk
      have hl : Cond.methodLink (am_own (am_m M).2.2.2.2.1) n objectInit ∈ am_tb := by
        unfold am_mw at hps
        split at hps <;> first | (next e1 => cases e1; done) | (cases hps; done) | skip
        next e1 =>
          cases e1
          have := am_wAt_mem hps
          rw [(am_key hn).1, (am_key hn).2] at this
          exact this
      show W p l e R s m args below meth c H locs cells slots Q (F0 m pc lr (am_cv b sz (2, a) :: r.map (am_cv b sz)))
      rw [am_cv2 hc.1]
      refine W.objInit G.1 G.2.1 G.2.2.2.1 (G.2.2.2.2.1 _ hl) (G.2.2.2.2.1 _ am_oinst) (G.2.2.2.2.1 _ am_oinit) rfl ?_ rfl hd hfr ?_ (am_same k hL hR hS)
      · rw [G.2.2.1]; exact hL.2.1
      · have := am_cats (b := b) (sz := sz) r
        show 2 * 0 + _ + 12 ≤ _
        rw [this]
        omega
    · cases h
  · cases h

theorem am_mmax_st : Cond.static Lib.Math.max.name ∈ am_tb := am_wAt_mem (p := 1105) (by decide +kernel)
theorem am_mmax_cd : Cond.code Lib.Math.max.name Lib.Math.max.code 2 (some .int) ∈ am_tb := am_wAt_mem (p := 1106) (by decide +kernel)
theorem am_i_mmax {n k2 : Nat} (G : am_G b sz L xs D cI cJ cB p s m args meth c M) (hk : am_lk ((am_m M).2.2.2.2.1 * 1000 + n) am_lm = some (9, k2)) (hn : n < 1000) (hfr : 1 ≤ R.frames) (hlo : 60 ≤ R.locals) (hcc : cells ≤ R.cells) (hss : slots ≤ R.slots) (hd : decode (am_m M).2.1 pc = .ok (.invokestatic n, 3)) (h : am_s1 (33, pc + 3, 9, 0, [n]) la st S = some c2) (hL : am_LR b sz lr (am_m M).2.2.1 la) (hR : am_Rel b sz L xs D cI cJ cB S H) (hS : va_S (fun q => sz ≤ q) s.heap H locs) (k : am_K p l e R s m args below meth c cells slots Q b sz L xs D cI cJ cB (am_m M).2.2.1 S c2) : W p l e R s m args below meth c H locs cells slots Q (F0 m pc lr (st.map (am_cv b sz))) := by
  simp only [am_s1] at h
  split at h
  · next y x r e0 =>
    split at h
    · next hc =>
      cases h
      obtain ⟨ps, hps⟩ := am_lmw hk
      have hl : Cond.methodLink (am_own (am_m M).2.2.2.2.1) n Lib.Math.max.name ∈ am_tb := by
        unfold am_mw at hps
        split at hps <;> first | (next e1 => cases e1; done) | (cases hps; done) | skip
        next e1 =>
          cases e1
          have := am_wAt_mem hps
          rw [(am_key hn).1, (am_key hn).2] at this
          exact this
      have e1 : Int32.ofInt (if w32 x < w32 y then y else x) = if Int32.ofInt x < Int32.ofInt y then Int32.ofInt y else Int32.ofInt x := by
        by_cases hq : w32 x < w32 y
        · rw [if_pos hq, if_pos ((am_lt x y).mpr hq)]
        · rw [if_neg hq, if_neg (fun hz => hq ((am_lt x y).mp hz))]
      refine va_mmax (x := Int32.ofInt x) (y := Int32.ofInt y) G.1 G.2.1 (by rw [G.2.2.1]; exact hL.2.1.symm) G.2.2.2.1 (G.2.2.2.2.1 _ hl) (G.2.2.2.2.1 _ am_mmax_st) (G.2.2.2.2.1 _ am_math) (G.2.2.2.2.1 _ am_mmax_cd) hfr ?_ hcc hss hd ?_
      · rw [am_cats]; omega
      · rw [← e1]
        exact am_same k hL hR hS
    · cases h
  · next e1 => cases e1
  · next e1 => cases e1
  · cases h

theorem am_mmin_st : Cond.static Lib.Math.min.name ∈ am_tb := am_wAt_mem (p := 851) (by decide +kernel)
theorem am_mmin_cd : Cond.code Lib.Math.min.name Lib.Math.min.code 2 (some .int) ∈ am_tb := am_wAt_mem (p := 852) (by decide +kernel)
theorem am_i_mmin {n k2 : Nat} (G : am_G b sz L xs D cI cJ cB p s m args meth c M) (hk : am_lk ((am_m M).2.2.2.2.1 * 1000 + n) am_lm = some (10, k2)) (hn : n < 1000) (hfr : 1 ≤ R.frames) (hlo : 60 ≤ R.locals) (hcc : cells ≤ R.cells) (hss : slots ≤ R.slots) (hd : decode (am_m M).2.1 pc = .ok (.invokestatic n, 3)) (h : am_s1 (33, pc + 3, 10, 0, [n]) la st S = some c2) (hL : am_LR b sz lr (am_m M).2.2.1 la) (hR : am_Rel b sz L xs D cI cJ cB S H) (hS : va_S (fun q => sz ≤ q) s.heap H locs) (k : am_K p l e R s m args below meth c cells slots Q b sz L xs D cI cJ cB (am_m M).2.2.1 S c2) : W p l e R s m args below meth c H locs cells slots Q (F0 m pc lr (st.map (am_cv b sz))) := by
  simp only [am_s1] at h
  split at h
  · next e1 => cases e1
  · next y x r e0 =>
    split at h
    · next hc =>
      cases h
      obtain ⟨ps, hps⟩ := am_lmw hk
      have hl : Cond.methodLink (am_own (am_m M).2.2.2.2.1) n Lib.Math.min.name ∈ am_tb := by
        unfold am_mw at hps
        split at hps <;> first | (next e1 => cases e1; done) | (cases hps; done) | skip
        next e1 =>
          cases e1
          have := am_wAt_mem hps
          rw [(am_key hn).1, (am_key hn).2] at this
          exact this
      have e1 : Int32.ofInt (if w32 y < w32 x then y else x) = if Int32.ofInt y < Int32.ofInt x then Int32.ofInt y else Int32.ofInt x := by
        by_cases hq : w32 y < w32 x
        · rw [if_pos hq, if_pos ((am_lt y x).mpr hq)]
        · rw [if_neg hq, if_neg (fun hz => hq ((am_lt y x).mp hz))]
      refine va_mmin (x := Int32.ofInt x) (y := Int32.ofInt y) G.1 G.2.1 (by rw [G.2.2.1]; exact hL.2.1.symm) G.2.2.2.1 (G.2.2.2.2.1 _ hl) (G.2.2.2.2.1 _ am_mmin_st) (G.2.2.2.2.1 _ am_math) (G.2.2.2.2.1 _ am_mmin_cd) hfr ?_ hcc hss hd ?_
      · rw [am_cats]; omega
      · rw [← e1]
        exact am_same k hL hR hS
    · cases h
  · next e1 => cases e1
  · cases h

theorem am_mminl_st : Cond.static Lib.MathLoose.min_long.x ∈ am_tb := am_wAt_mem (p := 1938) (by decide +kernel)
theorem am_mminl_cd : Cond.code Lib.MathLoose.min_long.x Lib.MathLoose.min_long.code 4 (some .long) ∈ am_tb := am_wAt_mem (p := 1939) (by decide +kernel)
theorem am_i_mminl {n k2 : Nat} (G : am_G b sz L xs D cI cJ cB p s m args meth c M) (hk : am_lk ((am_m M).2.2.2.2.1 * 1000 + n) am_lm = some (11, k2)) (hn : n < 1000) (hfr : 1 ≤ R.frames) (hlo : 60 ≤ R.locals) (hcc : cells ≤ R.cells) (hss : slots ≤ R.slots) (hd : decode (am_m M).2.1 pc = .ok (.invokestatic n, 3)) (h : am_s1 (33, pc + 3, 11, 0, [n]) la st S = some c2) (hL : am_LR b sz lr (am_m M).2.2.1 la) (hR : am_Rel b sz L xs D cI cJ cB S H) (hS : va_S (fun q => sz ≤ q) s.heap H locs) (k : am_K p l e R s m args below meth c cells slots Q b sz L xs D cI cJ cB (am_m M).2.2.1 S c2) : W p l e R s m args below meth c H locs cells slots Q (F0 m pc lr (st.map (am_cv b sz))) := by
  simp only [am_s1] at h
  split at h
  · next e1 => cases e1
  · next e1 => cases e1
  · next y x r e0 =>
    split at h
    · next hc =>
      cases h
      obtain ⟨ps, hps⟩ := am_lmw hk
      have hl : Cond.methodLink (am_own (am_m M).2.2.2.2.1) n Lib.MathLoose.min_long.x ∈ am_tb := by
        unfold am_mw at hps
        split at hps <;> first | (next e1 => cases e1; done) | (cases hps; done) | skip
        next e1 =>
          cases e1
          have := am_wAt_mem hps
          rw [(am_key hn).1, (am_key hn).2] at this
          exact this
      have e1 : Int64.ofInt (if w64 y < w64 x then y else x) = if Int64.ofInt y < Int64.ofInt x then Int64.ofInt y else Int64.ofInt x := by
        by_cases hq : w64 y < w64 x
        · rw [if_pos hq, if_pos (Int64.lt_iff_toInt_lt.mpr hq)]
        · rw [if_neg hq, if_neg (fun hz => hq (Int64.lt_iff_toInt_lt.mp hz))]
      refine va_mmin_long (x := Int64.ofInt x) (y := Int64.ofInt y) G.1 G.2.1 (by rw [G.2.2.1]; exact hL.2.1.symm) G.2.2.2.1 (G.2.2.2.2.1 _ hl) (G.2.2.2.2.1 _ am_mminl_st) (G.2.2.2.2.1 _ am_math) (G.2.2.2.2.1 _ am_mminl_cd) hfr ?_ hcc hss hd ?_
      · rw [am_cats]; omega
      · rw [← e1]
        exact am_same k hL hR hS
    · cases h
  · cases h

end AMS
