/-! Each step of the abstract machine is the machine's: steps without the heap. -/
/-- the two statics that a throw reads -/
def am_Zs (sz : Nat) (U : State) (H : Heap) : Prop := vx_Zq Bundle.tN "UNASSIGNED_STACK" Bundle.steD (fun q => sz ≤ q) U H ∧ vx_Zq Bundle.tN "SUPPRESSED_SENTINEL" Bundle.listD (fun q => sz ≤ q) U H
/-- what holds in a frame: the machine, the code, the words, the classes, the script -/
def am_G (b sz L : Nat) (xs : Nat → Int32) (D : va_G) (cI cJ cB : ClassId) (p : Program) (s : State) (m : MethodId) (args : Array Value) (meth : Method) (c : Code) (M : Nat) : Prop :=
  p.tables.exec = Jvm.exec ∧ c.code = (am_m M).2.1 ∧ c.maxLocals = (am_m M).2.2.1 ∧ s.vm.findClass (am_own (am_m M).2.2.2.2.1) = some m.cls ∧ (∀ w ∈ am_tb, w.before args s = true) ∧ va_K D am_cl [(cI, .int), (cJ, .long), (cB, .byte)] s ∧ va_X b L xs s s.heap ∧ b < sz ∧ sz ≤ s.heap.size ∧ ((am_m M).1.name = "<init>" → meth.name = "<init>") ∧ M < 277 ∧ am_Zs sz s s.heap
def am_K (p : Program) (l : Launch) (e : Env) (R : Room) (s : State) (m : MethodId) (args : Array Value) (below : List Frame) (meth : Method) (c : Code) (cells slots : Nat) (Q : State → Prop) (b sz L : Nat) (xs : Nat → Int32) (D : va_G) (cI cJ cB : ClassId) (nL : Nat) (S : aS) (c2 : aC) : Prop :=
  ∀ (lr : Array Slot) (H : Heap) (locs : List Loc), am_LR b sz lr nL c2.2.1 → am_Rel b sz L xs D cI cJ cB c2.2.2.2 H → va_S (fun q => sz ≤ q) s.heap H locs → W p l e R s m args below meth c H locs (cells + (c2.2.2.2.2.2.1 - S.2.2.1)) (slots + (c2.2.2.2.2.2.2 - S.2.2.2)) Q (F0 m c2.1 lr (c2.2.2.1.map (am_cv b sz)))
theorem am_e0 (x y : Int) : Int32.ofInt (am_io 0 x y) = Int32.ofInt x + Int32.ofInt y := Int32.ofInt_add x y
theorem am_e1 (x y : Int) : Int32.ofInt (am_io 1 x y) = Int32.ofInt x - Int32.ofInt y := Int32.ofInt_sub x y
theorem am_e2 (x y : Int) : Int32.ofInt (am_io 2 x y) = Int32.ofInt x * Int32.ofInt y := Int32.ofInt_mul x y
theorem am_e3 (x y : Int) : Int32.ofInt (am_io 3 x y) = Int32.ofInt x &&& Int32.ofInt y := Int32.ofInt_toInt _
theorem am_e4 (x y : Int) : Int32.ofInt (am_io 4 x y) = Int32.ofInt x ||| Int32.ofInt y := Int32.ofInt_toInt _
theorem am_e5 (x y : Int) : Int32.ofInt (am_io 5 x y) = Int32.ofInt x ^^^ Int32.ofInt y := Int32.ofInt_toInt _
theorem am_e6 (x y : Int) : Int32.ofInt (am_io 6 x y) = Int32.ofInt x <<< (Int32.ofInt y &&& 31) := Int32.ofInt_toInt _
theorem am_e7 (x y : Int) : Int32.ofInt (am_io 7 x y) = Int32.ofInt x >>> (Int32.ofInt y &&& 31) := Int32.ofInt_toInt _
theorem am_e8 (x y : Int) : Int32.ofInt (am_io 8 x y) = ((Int32.ofInt x).toUInt32 >>> ((Int32.ofInt y).toUInt32 &&& Int32.toUInt32 31)).toInt32 := Int32.ofInt_toInt _
theorem am_e9 (x y : Int) : Int32.ofInt (am_io 9 x y) = Int32.ofInt x / Int32.ofInt y := Int32.ofInt_toInt _
theorem am_e10 (x y : Int) : Int32.ofInt (am_io 10 x y) = Int32.ofInt x - Int32.ofInt x / Int32.ofInt y * Int32.ofInt y := Int32.ofInt_toInt _
theorem am_f_0 (x y : Int) : Int64.ofInt (am_lo 0 x y) = Int64.ofInt x + Int64.ofInt y := Int64.ofInt_add x y
theorem am_f_1 (x y : Int) : Int64.ofInt (am_lo 1 x y) = Int64.ofInt x - Int64.ofInt y := Int64.ofInt_sub x y
theorem am_f_2 (x y : Int) : Int64.ofInt (am_lo 2 x y) = Int64.ofInt x ||| Int64.ofInt y := Int64.ofInt_toInt _
theorem am_f_3 (x y : Int) : Int64.ofInt (am_lo 3 x y) = Int64.ofInt x ^^^ Int64.ofInt y := Int64.ofInt_toInt _
theorem am_g_0 (x y : Int) : Int64.ofInt x <<< ((Int32.ofInt y).toInt64 &&& 63) = Int64.ofInt (am_ls 0 x y) := (Int64.ofInt_toInt _).symm
theorem am_g_1 (x y : Int) : Int64.ofInt x >>> ((Int32.ofInt y).toInt64 &&& 63) = Int64.ofInt (am_ls 1 x y) := (Int64.ofInt_toInt _).symm
theorem am_g_2 (x y : Int) : ((Int64.ofInt x).toUInt64 >>> ((Int32.ofInt y).toInt64.toUInt64 &&& Int64.toUInt64 63)).toInt64 = Int64.ofInt (am_ls 2 x y) := (Int64.ofInt_toInt _).symm
theorem am_b8 {n : Int} (h : -128 ≤ n ∧ n ≤ 127) : n.bmod Int8.size = n := by
  rw [show Int8.size = 256 from rfl]
  exact Int.bmod_eq_of_le (by omega) (by omega)
theorem am_b16 {n : Int} (h : -32768 ≤ n ∧ n ≤ 32767) : n.bmod Int16.size = n := by
  rw [show Int16.size = 65536 from rfl]
  exact Int.bmod_eq_of_le (by omega) (by omega)
theorem am_b32 {n : Int} (h : -2147483648 ≤ n ∧ n ≤ 2147483647) : n.bmod Int32.size = n := by
  rw [show Int32.size = 4294967296 from rfl]
  exact Int.bmod_eq_of_le (by omega) (by omega)
theorem am_byte {n : Int} (h : -128 ≤ n ∧ n ≤ 127) : (Int8.ofInt n).toInt32 = Int32.ofInt n := by
  rw [← Int32.toInt_inj, Int8.toInt_toInt32, Int8.toInt_ofInt, Int32.toInt_ofInt, am_b8 h, am_b32 (by omega)]
theorem am_short {n : Int} (h : -32768 ≤ n ∧ n ≤ 32767) : (Int16.ofInt n).toInt32 = Int32.ofInt n := by
  rw [← Int32.toInt_inj, Int16.toInt_toInt32, Int16.toInt_ofInt, Int32.toInt_ofInt, am_b16 h, am_b32 (by omega)]
theorem am_eq0 (x : Int) : Int32.ofInt x = 0 ↔ w32 x = 0 := by
  rw [← Int32.toInt_inj]; rfl
theorem am_eq (x y : Int) : Int32.ofInt x = Int32.ofInt y ↔ w32 x = w32 y := by
  rw [← Int32.toInt_inj]; rfl
theorem am_lt (x y : Int) : Int32.ofInt x < Int32.ofInt y ↔ w32 x < w32 y := Int32.lt_iff_toInt_lt
theorem am_le (x y : Int) : Int32.ofInt x ≤ Int32.ofInt y ↔ w32 x ≤ w32 y := Int32.le_iff_toInt_le

section AMS
variable {p : Program} {l : Launch} {e : Env} {R : Room} {s : State} {m : MethodId} {args : Array Value} {below : List Frame} {meth : Method} {c : Code} {H : Heap} {locs : List Loc} {cells slots : Nat} {Q : State → Prop}
variable {b sz L : Nat} {xs : Nat → Int32} {D : va_G} {cI cJ cB : ClassId} {M pc : Nat} {la st : List aV} {lr : Array Slot} {S : aS} {c2 : aC}

theorem am_same {pc2 : Nat} {la2 st2 : List aV} (k : am_K p l e R s m args below meth c cells slots Q b sz L xs D cI cJ cB (am_m M).2.2.1 S (pc2, la2, st2, S)) (hL : am_LR b sz lr (am_m M).2.2.1 la2) (hR : am_Rel b sz L xs D cI cJ cB S H) (hS : va_S (fun q => sz ≤ q) s.heap H locs) : W p l e R s m args below meth c H locs cells slots Q (F0 m pc2 lr (st2.map (am_cv b sz))) := by
  have k1 := k lr H locs hL hR hS
  simp only [Nat.sub_self, Nat.add_zero] at k1
  exact k1

theorem am_i_iadd (G : am_G b sz L xs D cI cJ cB p s m args meth c M) (hd : decode (am_m M).2.1 pc = .ok (.iadd, 1)) (h : am_s1 (5, pc + 1, 0, 0, []) la st S = some c2) (hL : am_LR b sz lr (am_m M).2.2.1 la) (hR : am_Rel b sz L xs D cI cJ cB S H) (hS : va_S (fun q => sz ≤ q) s.heap H locs) (k : am_K p l e R s m args below meth c cells slots Q b sz L xs D cI cJ cB (am_m M).2.2.1 S c2) : W p l e R s m args below meth c H locs cells slots Q (F0 m pc lr (st.map (am_cv b sz))) := by
  simp only [am_s1] at h
  split at h
  · next y x r =>
    rw [if_neg (by omega)] at h
    cases h
    refine lv_iadd (x := Int32.ofInt x) (y := Int32.ofInt y) G.1 G.2.1 hd ?_
    rw [← am_e0]
    exact am_same k hL hR hS
  · cases h

theorem am_i_isub (G : am_G b sz L xs D cI cJ cB p s m args meth c M) (hd : decode (am_m M).2.1 pc = .ok (.isub, 1)) (h : am_s1 (5, pc + 1, 1, 0, []) la st S = some c2) (hL : am_LR b sz lr (am_m M).2.2.1 la) (hR : am_Rel b sz L xs D cI cJ cB S H) (hS : va_S (fun q => sz ≤ q) s.heap H locs) (k : am_K p l e R s m args below meth c cells slots Q b sz L xs D cI cJ cB (am_m M).2.2.1 S c2) : W p l e R s m args below meth c H locs cells slots Q (F0 m pc lr (st.map (am_cv b sz))) := by
  simp only [am_s1] at h
  split at h
  · next y x r =>
    rw [if_neg (by omega)] at h
    cases h
    refine lv_isub (x := Int32.ofInt x) (y := Int32.ofInt y) G.1 G.2.1 hd ?_
    rw [← am_e1]
    exact am_same k hL hR hS
  · cases h

theorem am_i_imul (G : am_G b sz L xs D cI cJ cB p s m args meth c M) (hd : decode (am_m M).2.1 pc = .ok (.imul, 1)) (h : am_s1 (5, pc + 1, 2, 0, []) la st S = some c2) (hL : am_LR b sz lr (am_m M).2.2.1 la) (hR : am_Rel b sz L xs D cI cJ cB S H) (hS : va_S (fun q => sz ≤ q) s.heap H locs) (k : am_K p l e R s m args below meth c cells slots Q b sz L xs D cI cJ cB (am_m M).2.2.1 S c2) : W p l e R s m args below meth c H locs cells slots Q (F0 m pc lr (st.map (am_cv b sz))) := by
  simp only [am_s1] at h
  split at h
  · next y x r =>
    rw [if_neg (by omega)] at h
    cases h
    refine lv_imul (x := Int32.ofInt x) (y := Int32.ofInt y) G.1 G.2.1 hd ?_
    rw [← am_e2]
    exact am_same k hL hR hS
  · cases h

theorem am_i_iand (G : am_G b sz L xs D cI cJ cB p s m args meth c M) (hd : decode (am_m M).2.1 pc = .ok (.iand, 1)) (h : am_s1 (5, pc + 1, 3, 0, []) la st S = some c2) (hL : am_LR b sz lr (am_m M).2.2.1 la) (hR : am_Rel b sz L xs D cI cJ cB S H) (hS : va_S (fun q => sz ≤ q) s.heap H locs) (k : am_K p l e R s m args below meth c cells slots Q b sz L xs D cI cJ cB (am_m M).2.2.1 S c2) : W p l e R s m args below meth c H locs cells slots Q (F0 m pc lr (st.map (am_cv b sz))) := by
  simp only [am_s1] at h
  split at h
  · next y x r =>
    rw [if_neg (by omega)] at h
    cases h
    refine lv_iand (x := Int32.ofInt x) (y := Int32.ofInt y) G.1 G.2.1 hd ?_
    rw [← am_e3]
    exact am_same k hL hR hS
  · cases h

theorem am_i_ior (G : am_G b sz L xs D cI cJ cB p s m args meth c M) (hd : decode (am_m M).2.1 pc = .ok (.ior, 1)) (h : am_s1 (5, pc + 1, 4, 0, []) la st S = some c2) (hL : am_LR b sz lr (am_m M).2.2.1 la) (hR : am_Rel b sz L xs D cI cJ cB S H) (hS : va_S (fun q => sz ≤ q) s.heap H locs) (k : am_K p l e R s m args below meth c cells slots Q b sz L xs D cI cJ cB (am_m M).2.2.1 S c2) : W p l e R s m args below meth c H locs cells slots Q (F0 m pc lr (st.map (am_cv b sz))) := by
  simp only [am_s1] at h
  split at h
  · next y x r =>
    rw [if_neg (by omega)] at h
    cases h
    refine lv_ior (x := Int32.ofInt x) (y := Int32.ofInt y) G.1 G.2.1 hd ?_
    rw [← am_e4]
    exact am_same k hL hR hS
  · cases h

theorem am_i_ixor (G : am_G b sz L xs D cI cJ cB p s m args meth c M) (hd : decode (am_m M).2.1 pc = .ok (.ixor, 1)) (h : am_s1 (5, pc + 1, 5, 0, []) la st S = some c2) (hL : am_LR b sz lr (am_m M).2.2.1 la) (hR : am_Rel b sz L xs D cI cJ cB S H) (hS : va_S (fun q => sz ≤ q) s.heap H locs) (k : am_K p l e R s m args below meth c cells slots Q b sz L xs D cI cJ cB (am_m M).2.2.1 S c2) : W p l e R s m args below meth c H locs cells slots Q (F0 m pc lr (st.map (am_cv b sz))) := by
  simp only [am_s1] at h
  split at h
  · next y x r =>
    rw [if_neg (by omega)] at h
    cases h
    refine lv_ixor (x := Int32.ofInt x) (y := Int32.ofInt y) G.1 G.2.1 hd ?_
    rw [← am_e5]
    exact am_same k hL hR hS
  · cases h

theorem am_i_ishl (G : am_G b sz L xs D cI cJ cB p s m args meth c M) (hd : decode (am_m M).2.1 pc = .ok (.ishl, 1)) (h : am_s1 (5, pc + 1, 6, 0, []) la st S = some c2) (hL : am_LR b sz lr (am_m M).2.2.1 la) (hR : am_Rel b sz L xs D cI cJ cB S H) (hS : va_S (fun q => sz ≤ q) s.heap H locs) (k : am_K p l e R s m args below meth c cells slots Q b sz L xs D cI cJ cB (am_m M).2.2.1 S c2) : W p l e R s m args below meth c H locs cells slots Q (F0 m pc lr (st.map (am_cv b sz))) := by
  simp only [am_s1] at h
  split at h
  · next y x r =>
    rw [if_neg (by omega)] at h
    cases h
    refine lv_ishl (x := Int32.ofInt x) (y := Int32.ofInt y) G.1 G.2.1 hd ?_
    rw [← am_e6]
    exact am_same k hL hR hS
  · cases h

theorem am_i_ishr (G : am_G b sz L xs D cI cJ cB p s m args meth c M) (hd : decode (am_m M).2.1 pc = .ok (.ishr, 1)) (h : am_s1 (5, pc + 1, 7, 0, []) la st S = some c2) (hL : am_LR b sz lr (am_m M).2.2.1 la) (hR : am_Rel b sz L xs D cI cJ cB S H) (hS : va_S (fun q => sz ≤ q) s.heap H locs) (k : am_K p l e R s m args below meth c cells slots Q b sz L xs D cI cJ cB (am_m M).2.2.1 S c2) : W p l e R s m args below meth c H locs cells slots Q (F0 m pc lr (st.map (am_cv b sz))) := by
  simp only [am_s1] at h
  split at h
  · next y x r =>
    rw [if_neg (by omega)] at h
    cases h
    refine lv_ishr (x := Int32.ofInt x) (y := Int32.ofInt y) G.1 G.2.1 hd ?_
    rw [← am_e7]
    exact am_same k hL hR hS
  · cases h

theorem am_i_iushr (G : am_G b sz L xs D cI cJ cB p s m args meth c M) (hd : decode (am_m M).2.1 pc = .ok (.iushr, 1)) (h : am_s1 (5, pc + 1, 8, 0, []) la st S = some c2) (hL : am_LR b sz lr (am_m M).2.2.1 la) (hR : am_Rel b sz L xs D cI cJ cB S H) (hS : va_S (fun q => sz ≤ q) s.heap H locs) (k : am_K p l e R s m args below meth c cells slots Q b sz L xs D cI cJ cB (am_m M).2.2.1 S c2) : W p l e R s m args below meth c H locs cells slots Q (F0 m pc lr (st.map (am_cv b sz))) := by
  simp only [am_s1] at h
  split at h
  · next y x r =>
    rw [if_neg (by omega)] at h
    cases h
    refine lv_iushr (x := Int32.ofInt x) (y := Int32.ofInt y) G.1 G.2.1 hd rfl ?_
    rw [← am_e8]
    exact am_same k hL hR hS
  · cases h

theorem am_i_idiv (G : am_G b sz L xs D cI cJ cB p s m args meth c M) (hd : decode (am_m M).2.1 pc = .ok (.idiv, 1)) (h : am_s1 (5, pc + 1, 9, 0, []) la st S = some c2) (hL : am_LR b sz lr (am_m M).2.2.1 la) (hR : am_Rel b sz L xs D cI cJ cB S H) (hS : va_S (fun q => sz ≤ q) s.heap H locs) (k : am_K p l e R s m args below meth c cells slots Q b sz L xs D cI cJ cB (am_m M).2.2.1 S c2) : W p l e R s m args below meth c H locs cells slots Q (F0 m pc lr (st.map (am_cv b sz))) := by
  simp only [am_s1] at h
  split at h
  · next y x r =>
    split at h
    · cases h
    · next hne =>
      cases h
      refine lv_idiv (x := Int32.ofInt x) (y := Int32.ofInt y) G.1 G.2.1 hd (fun e0 => hne ⟨by omega, (am_eq0 y).mp e0⟩) ?_
      rw [← am_e9]
      exact am_same k hL hR hS
  · cases h

theorem am_i_irem (G : am_G b sz L xs D cI cJ cB p s m args meth c M) (hd : decode (am_m M).2.1 pc = .ok (.irem, 1)) (h : am_s1 (5, pc + 1, 10, 0, []) la st S = some c2) (hL : am_LR b sz lr (am_m M).2.2.1 la) (hR : am_Rel b sz L xs D cI cJ cB S H) (hS : va_S (fun q => sz ≤ q) s.heap H locs) (k : am_K p l e R s m args below meth c cells slots Q b sz L xs D cI cJ cB (am_m M).2.2.1 S c2) : W p l e R s m args below meth c H locs cells slots Q (F0 m pc lr (st.map (am_cv b sz))) := by
  simp only [am_s1] at h
  split at h
  · next y x r =>
    split at h
    · cases h
    · next hne =>
      cases h
      refine lv_irem (x := Int32.ofInt x) (y := Int32.ofInt y) G.1 G.2.1 hd (fun e0 => hne ⟨by omega, (am_eq0 y).mp e0⟩) ?_
      rw [← am_e10]
      exact am_same k hL hR hS
  · cases h

theorem am_i_ladd (G : am_G b sz L xs D cI cJ cB p s m args meth c M) (hd : decode (am_m M).2.1 pc = .ok (.ladd, 1)) (h : am_s1 (6, pc + 1, 0, 0, []) la st S = some c2) (hL : am_LR b sz lr (am_m M).2.2.1 la) (hR : am_Rel b sz L xs D cI cJ cB S H) (hS : va_S (fun q => sz ≤ q) s.heap H locs) (k : am_K p l e R s m args below meth c cells slots Q b sz L xs D cI cJ cB (am_m M).2.2.1 S c2) : W p l e R s m args below meth c H locs cells slots Q (F0 m pc lr (st.map (am_cv b sz))) := by
  simp only [am_s1] at h
  split at h
  · next y x r =>
    cases h
    refine lv_ladd (x := Int64.ofInt x) (y := Int64.ofInt y) G.1 G.2.1 hd ?_
    rw [← am_f_0]
    exact am_same k hL hR hS
  · cases h

theorem am_i_lsub (G : am_G b sz L xs D cI cJ cB p s m args meth c M) (hd : decode (am_m M).2.1 pc = .ok (.lsub, 1)) (h : am_s1 (6, pc + 1, 1, 0, []) la st S = some c2) (hL : am_LR b sz lr (am_m M).2.2.1 la) (hR : am_Rel b sz L xs D cI cJ cB S H) (hS : va_S (fun q => sz ≤ q) s.heap H locs) (k : am_K p l e R s m args below meth c cells slots Q b sz L xs D cI cJ cB (am_m M).2.2.1 S c2) : W p l e R s m args below meth c H locs cells slots Q (F0 m pc lr (st.map (am_cv b sz))) := by
  simp only [am_s1] at h
  split at h
  · next y x r =>
    cases h
    refine lv_lsub (x := Int64.ofInt x) (y := Int64.ofInt y) G.1 G.2.1 hd ?_
    rw [← am_f_1]
    exact am_same k hL hR hS
  · cases h

theorem am_i_lor (G : am_G b sz L xs D cI cJ cB p s m args meth c M) (hd : decode (am_m M).2.1 pc = .ok (.lor, 1)) (h : am_s1 (6, pc + 1, 2, 0, []) la st S = some c2) (hL : am_LR b sz lr (am_m M).2.2.1 la) (hR : am_Rel b sz L xs D cI cJ cB S H) (hS : va_S (fun q => sz ≤ q) s.heap H locs) (k : am_K p l e R s m args below meth c cells slots Q b sz L xs D cI cJ cB (am_m M).2.2.1 S c2) : W p l e R s m args below meth c H locs cells slots Q (F0 m pc lr (st.map (am_cv b sz))) := by
  simp only [am_s1] at h
  split at h
  · next y x r =>
    cases h
    refine lv_lor (x := Int64.ofInt x) (y := Int64.ofInt y) G.1 G.2.1 hd ?_
    rw [← am_f_2]
    exact am_same k hL hR hS
  · cases h

theorem am_i_lxor (G : am_G b sz L xs D cI cJ cB p s m args meth c M) (hd : decode (am_m M).2.1 pc = .ok (.lxor, 1)) (h : am_s1 (6, pc + 1, 3, 0, []) la st S = some c2) (hL : am_LR b sz lr (am_m M).2.2.1 la) (hR : am_Rel b sz L xs D cI cJ cB S H) (hS : va_S (fun q => sz ≤ q) s.heap H locs) (k : am_K p l e R s m args below meth c cells slots Q b sz L xs D cI cJ cB (am_m M).2.2.1 S c2) : W p l e R s m args below meth c H locs cells slots Q (F0 m pc lr (st.map (am_cv b sz))) := by
  simp only [am_s1] at h
  split at h
  · next y x r =>
    cases h
    refine lv_lxor (x := Int64.ofInt x) (y := Int64.ofInt y) G.1 G.2.1 hd ?_
    rw [← am_f_3]
    exact am_same k hL hR hS
  · cases h

theorem am_i_lshl (G : am_G b sz L xs D cI cJ cB p s m args meth c M) (hd : decode (am_m M).2.1 pc = .ok (.lshl, 1)) (h : am_s1 (7, pc + 1, 0, 0, []) la st S = some c2) (hL : am_LR b sz lr (am_m M).2.2.1 la) (hR : am_Rel b sz L xs D cI cJ cB S H) (hS : va_S (fun q => sz ≤ q) s.heap H locs) (k : am_K p l e R s m args below meth c cells slots Q b sz L xs D cI cJ cB (am_m M).2.2.1 S c2) : W p l e R s m args below meth c H locs cells slots Q (F0 m pc lr (st.map (am_cv b sz))) := by
  simp only [am_s1] at h
  split at h
  · next y x r =>
    cases h
    exact lv_lshl (x := Int64.ofInt x) (y := Int32.ofInt y) G.1 G.2.1 hd (am_g_0 x y) (am_same k hL hR hS)
  · cases h

theorem am_i_lshr (G : am_G b sz L xs D cI cJ cB p s m args meth c M) (hd : decode (am_m M).2.1 pc = .ok (.lshr, 1)) (h : am_s1 (7, pc + 1, 1, 0, []) la st S = some c2) (hL : am_LR b sz lr (am_m M).2.2.1 la) (hR : am_Rel b sz L xs D cI cJ cB S H) (hS : va_S (fun q => sz ≤ q) s.heap H locs) (k : am_K p l e R s m args below meth c cells slots Q b sz L xs D cI cJ cB (am_m M).2.2.1 S c2) : W p l e R s m args below meth c H locs cells slots Q (F0 m pc lr (st.map (am_cv b sz))) := by
  simp only [am_s1] at h
  split at h
  · next y x r =>
    cases h
    exact lv_lshr (x := Int64.ofInt x) (y := Int32.ofInt y) G.1 G.2.1 hd (am_g_1 x y) (am_same k hL hR hS)
  · cases h

theorem am_i_lushr (G : am_G b sz L xs D cI cJ cB p s m args meth c M) (hd : decode (am_m M).2.1 pc = .ok (.lushr, 1)) (h : am_s1 (7, pc + 1, 2, 0, []) la st S = some c2) (hL : am_LR b sz lr (am_m M).2.2.1 la) (hR : am_Rel b sz L xs D cI cJ cB S H) (hS : va_S (fun q => sz ≤ q) s.heap H locs) (k : am_K p l e R s m args below meth c cells slots Q b sz L xs D cI cJ cB (am_m M).2.2.1 S c2) : W p l e R s m args below meth c H locs cells slots Q (F0 m pc lr (st.map (am_cv b sz))) := by
  simp only [am_s1] at h
  split at h
  · next y x r =>
    cases h
    exact lv_lushr (x := Int64.ofInt x) (y := Int32.ofInt y) G.1 G.2.1 hd (am_g_2 x y) (am_same k hL hR hS)
  · cases h

end AMS
