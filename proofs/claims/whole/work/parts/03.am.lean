/-! THE ABSTRACT MACHINE: values are numbers with a tag (0 int, 1 long, 2 reference, below 0: null, 9: nothing), ints and longs not yet wrapped; memory is a function of cell and slot; the k-th cell that is made has the number am_pi k, 0 is the script. -/
/-- the number of the cell that is made k-th (the 36th, a row that the first class did not have, is number 101) -/
def am_pi (k : Nat) : Nat := if k = 36 then 101 else if 36 < k ∧ k < 102 then k - 1 else k
/-- which cell in the order of making a number is -/
def am_pj (a : Nat) : Nat := if a = 101 then 36 else if 35 < a ∧ a < 101 then a + 1 else a
theorem am_pj_pi (k : Nat) : am_pj (am_pi k) = k := by
  unfold am_pj am_pi
  by_cases h1 : k = 36
  · subst h1; rfl
  · rw [if_neg h1]
    by_cases h2 : 36 < k ∧ k < 102
    · rw [if_pos h2, if_neg (by omega), if_pos (by omega)]; omega
    · rw [if_neg h2, if_neg (by omega), if_neg (by omega)]
theorem am_pi_pj (a : Nat) : am_pi (am_pj a) = a := by
  unfold am_pj am_pi
  by_cases h1 : a = 101
  · subst h1; rfl
  · rw [if_neg h1]
    by_cases h2 : 35 < a ∧ a < 101
    · rw [if_pos h2, if_neg (by omega), if_pos (by omega)]; omega
    · rw [if_neg h2, if_neg (by omega), if_neg (by omega)]
theorem am_pj_pos {a : Nat} (h : 0 < a) : 0 < am_pj a := by
  unfold am_pj
  split
  · omega
  · split <;> omega
theorem am_pi_pos {k : Nat} (h : 0 < k) : 0 < am_pi k := by
  unfold am_pi
  split
  · omega
  · split <;> omega
theorem am_pi_big {k : Nat} (h : 102 ≤ k) : am_pi k = k := by
  unfold am_pi
  rw [if_neg (by omega), if_neg (by omega)]
theorem am_pj_lt {a n : Nat} (h : a < 102 + n) : am_pj a < 102 + n := by
  unfold am_pj
  split
  · omega
  · split <;> omega
abbrev aV : Type := Nat × Int
abbrev aS : Type := (Nat → Nat → Int) × (Nat → Nat × Nat) × Nat × Nat
abbrev aI : Type := Nat × Nat × Nat × Int × List Nat
abbrev aC : Type := Nat × List aV × List aV × aS
def w32 (x : Int) : Int := (Int32.ofInt x).toInt
def w64 (x : Int) : Int := (Int64.ofInt x).toInt
def am_lk2 {α : Type} (own k : Nat) (l : List (Nat × α)) : Option α := if k < 1000 then am_lk (own * 1000 + k) l else none
def am_bad : aI := (99, 0, 0, 0, [])
def am_cc (c : ClassFile.Cond) : Int := match c with
  | .eq => 0 | .ne => 1 | .lt => 2 | .ge => 3 | .gt => 4 | .le => 5
def am_tg (t : FieldType) : Nat := match t with
  | .int => 0 | .boolean => 0 | .long => 1 | _ => 2
def am_jump (pc : Nat) (off : Int) (k : Nat → aI) : aI := if 0 ≤ (pc : Int) + off then k ((pc : Int) + off).toNat else am_bad
/-- 'throw new NoSuchElementException()' in the class -/
def am_thr (M pc own k c : Nat) : Bool := decide (own = 11) && (decide (k = 306) && (decide (c = 13) && (decide (decode (am_m M).2.1 (pc + 3) = .ok (.dup, 1)) && (decide (decode (am_m M).2.1 (pc + 4) = .ok (.invokespecial 308, 3)) && decide (decode (am_m M).2.1 (pc + 7) = .ok (.athrow, 1))))))
/-- the instruction at a place, its links looked up -/
def am_tr (M pc own : Nat) : Instr → Nat → aI
  | .iconst n, 1 => (0, pc + 1, 0, n, [])
  | .bipush n, 2 => if -128 ≤ n ∧ n ≤ 127 then (0, pc + 2, 1, n, []) else am_bad
  | .sipush n, 3 => if -32768 ≤ n ∧ n ≤ 32767 then (0, pc + 3, 2, n, []) else am_bad
  | .ldc k, 2 => match am_lk2 own k am_ld with
    | some v => (0, pc + 2, 3, v, [k])
    | none => am_bad
  | .ldc_w k, 3 => match am_lk2 own k am_ld with
    | some v => (0, pc + 3, 4, v, [k])
    | none => am_bad
  | .lconst n, 1 => (1, pc + 1, 0, (n.val : Int), [])
  | .ldc2_w k, 3 => match am_lk2 own k am_ll with
    | some v => (1, pc + 3, 1, v, [k])
    | none => am_bad
  | .iload i, 2 => (2, pc + 2, i, 0, [])
  | .iload_n i, 1 => (2, pc + 1, i.val, 0, [])
  | .lload i, 2 => (2, pc + 2, i, 1, [])
  | .lload_n i, 1 => (2, pc + 1, i.val, 1, [])
  | .aload i, 2 => (2, pc + 2, i, 2, [])
  | .aload_n i, 1 => (2, pc + 1, i.val, 2, [])
  | .istore i, 2 => (3, pc + 2, i, 0, [])
  | .istore_n i, 1 => (3, pc + 1, i.val, 0, [])
  | .lstore i, 2 => (3, pc + 2, i, 1, [])
  | .lstore_n i, 1 => (3, pc + 1, i.val, 1, [])
  | .astore i, 2 => (3, pc + 2, i, 2, [])
  | .astore_n i, 1 => (3, pc + 1, i.val, 2, [])
  | .iinc i n, 3 => (4, pc + 3, i, n, [])
  | .iadd, 1 => (5, pc + 1, 0, 0, [])
  | .isub, 1 => (5, pc + 1, 1, 0, [])
  | .imul, 1 => (5, pc + 1, 2, 0, [])
  | .iand, 1 => (5, pc + 1, 3, 0, [])
  | .ior, 1 => (5, pc + 1, 4, 0, [])
  | .ixor, 1 => (5, pc + 1, 5, 0, [])
  | .ishl, 1 => (5, pc + 1, 6, 0, [])
  | .ishr, 1 => (5, pc + 1, 7, 0, [])
  | .iushr, 1 => (5, pc + 1, 8, 0, [])
  | .idiv, 1 => (5, pc + 1, 9, 0, [])
  | .irem, 1 => (5, pc + 1, 10, 0, [])
  | .ladd, 1 => (6, pc + 1, 0, 0, [])
  | .lsub, 1 => (6, pc + 1, 1, 0, [])
  | .lor, 1 => (6, pc + 1, 2, 0, [])
  | .lxor, 1 => (6, pc + 1, 3, 0, [])
  | .lshl, 1 => (7, pc + 1, 0, 0, [])
  | .lshr, 1 => (7, pc + 1, 1, 0, [])
  | .lushr, 1 => (7, pc + 1, 2, 0, [])
  | .i2l, 1 => (8, pc + 1, 0, 0, [])
  | .l2i, 1 => (8, pc + 1, 1, 0, [])
  | .i2b, 1 => (8, pc + 1, 2, 0, [])
  | .lcmp, 1 => (9, pc + 1, 0, 0, [])
  | .ifCond c off, 3 => am_jump pc off fun t => (10, pc + 3, t, am_cc c, [])
  | .if_icmp c off, 3 => am_jump pc off fun t => (11, pc + 3, t, am_cc c, [])
  | .goto off, 3 => am_jump pc off fun t => (12, t, 0, 0, [])
  | .dup, 1 => (13, pc + 1, 0, 0, [])
  | .dup2, 1 => (14, pc + 1, 0, 0, [])
  | .dup_x1, 1 => (15, pc + 1, 0, 0, [])
  | .pop, 1 => (16, pc + 1, 0, 0, [])
  | .pop2, 1 => (17, pc + 1, 0, 0, [])
  | .getfield k, 3 => match am_lk2 own k am_ft with
    | some f => (18, pc + 3, f, am_tg (am_ty (f / 100) (f % 100)), [k])
    | none => am_bad
  | .putfield k, 3 => match am_lk2 own k am_ft with
    | some f => if (am_T (f / 100) (f % 100)).2.2.2 = false then (19, pc + 3, f, am_tg (am_ty (f / 100) (f % 100)), [k]) else if own = f / 100 ∧ (am_m M).1.name = "<init>" then (20, pc + 3, f, am_tg (am_ty (f / 100) (f % 100)), [k]) else am_bad
    | none => am_bad
  | .iaload, 1 => (21, pc + 1, 0, 0, [])
  | .laload, 1 => (22, pc + 1, 0, 0, [])
  | .baload, 1 => (23, pc + 1, 0, 0, [])
  | .iastore, 1 => (24, pc + 1, 0, 0, [])
  | .lastore, 1 => (25, pc + 1, 0, 0, [])
  | .bastore, 1 => (26, pc + 1, 0, 0, [])
  | .arraylength, 1 => (27, pc + 1, 0, 0, [])
  | .newarray .int, 2 => (28, pc + 2, 20, 0, [])
  | .newarray .long, 2 => (28, pc + 2, 21, 0, [])
  | .newarray .byte, 2 => (28, pc + 2, 22, 0, [])
  | .new k, 3 => match am_lk2 own k am_lc with
    | some c => if c < 13 then (29, pc + 3, c, 0, [k]) else if am_thr M pc own k c then (38, pc + 3, 0, 0, []) else am_bad
    | none => am_bad
  | .tableswitch dflt lo hi offs, len => if (offs.toList.all fun o => decide (0 ≤ (pc : Int) + o)) ∧ hi = lo + offs.size - 1 then am_jump pc dflt fun t => (30, t, len, lo, offs.toList.map fun o => ((pc : Int) + o).toNat) else am_bad
  | .invokespecial k, 3 => match am_lk2 own k am_lm with
    | some (md, m2) => if md = 6 then (31, pc + 3, 0, 0, [k]) else if md = 2 ∨ md = 5 then (40, pc + 3, m2, md, [k]) else am_bad
    | none => am_bad
  | .invokestatic k, 3 => match am_lk2 own k am_lm with
    | some (md, m2) => if md = 7 then (32, pc + 3, 0, 0, [k]) else if md = 8 then (41, pc + 3, m2, md, [k]) else if md = 9 ∨ md = 10 ∨ md = 11 then (33, pc + 3, md, 0, [k]) else if md = 1 ∨ md = 4 then (40, pc + 3, m2, md, [k]) else am_bad
    | none => am_bad
  | .invokevirtual k, 3 => match am_lk2 own k am_lm with
    | some (md, m2) => if md = 0 then (40, pc + 3, m2, md, [k]) else am_bad
    | none => am_bad
  | .ireturn, 1 => (36, pc + 1, 0, 0, [])
  | .lreturn, 1 => (36, pc + 1, 1, 0, [])
  | .areturn, 1 => (36, pc + 1, 2, 0, [])
  | .return_, 1 => (36, pc + 1, 3, 0, [])
  | _, _ => am_bad
def am_cd (M pc : Nat) : aI := match decode (am_m M).2.1 pc with
  | .ok (i, len) => am_tr M pc (am_m M).2.2.2.2.1 i len
  | _ => am_bad
/-- operations on ints -/
def am_io (o : Nat) (x y : Int) : Int := match o with
  | 0 => x + y
  | 1 => x - y
  | 2 => x * y
  | 3 => (Int32.ofInt x &&& Int32.ofInt y).toInt
  | 4 => (Int32.ofInt x ||| Int32.ofInt y).toInt
  | 5 => (Int32.ofInt x ^^^ Int32.ofInt y).toInt
  | 6 => (Int32.ofInt x <<< (Int32.ofInt y &&& 31)).toInt
  | 7 => (Int32.ofInt x >>> (Int32.ofInt y &&& 31)).toInt
  | 8 => ((Int32.ofInt x).toUInt32 >>> ((Int32.ofInt y).toUInt32 &&& Int32.toUInt32 31)).toInt32.toInt
  | 9 => (Int32.ofInt x / Int32.ofInt y).toInt
  | _ => (Int32.ofInt x - Int32.ofInt x / Int32.ofInt y * Int32.ofInt y).toInt
def am_lo (o : Nat) (x y : Int) : Int := match o with
  | 0 => x + y
  | 1 => x - y
  | 2 => (Int64.ofInt x ||| Int64.ofInt y).toInt
  | _ => (Int64.ofInt x ^^^ Int64.ofInt y).toInt
def am_ls (o : Nat) (x y : Int) : Int := match o with
  | 0 => (Int64.ofInt x <<< ((Int32.ofInt y).toInt64 &&& 63)).toInt
  | 1 => (Int64.ofInt x >>> ((Int32.ofInt y).toInt64 &&& 63)).toInt
  | _ => ((Int64.ofInt x).toUInt64 >>> ((Int32.ofInt y).toInt64.toUInt64 &&& Int64.toUInt64 63)).toInt64.toInt
def am_cb (c : Int) (x y : Int) : Bool := if c = 0 then decide (x = y) else if c = 1 then !decide (x = y) else if c = 2 then decide (x < y) else if c = 3 then !decide (x < y) else if c = 4 then decide (y < x) else !decide (y < x)
def am_up (S : aS) (a k : Nat) (x : Int) : aS := (fun q j => if q = a ∧ j = k then x else S.1 q j, S.2)
def am_al (S : aS) (kd n : Nat) (df : Nat → Int) (sl : Nat) : aS := (fun q j => if q = am_pi S.2.2.1 then df j else S.1 q j, fun q => if q = am_pi S.2.2.1 then (kd, n) else S.2.1 q, S.2.2.1 + 1, S.2.2.2 + sl)
def am_cpy (S : aS) (a sp c dp n : Nat) : aS := (fun q j => if q = c ∧ dp ≤ j ∧ j < dp + n then S.1 a (sp + (j - dp)) else S.1 q j, S.2)
/-- a cell of a kind at an address that has been made -/
def am_at (S : aS) (a : Int) (kd : Nat) : Bool := decide (0 < a) && (decide (am_pj a.toNat < S.2.2.1) && decide ((S.2.1 a.toNat).1 = kd))
def am_ix (S : aS) (a i : Int) : Bool := decide (0 ≤ w32 i) && decide (w32 i < (S.2.1 a.toNat).2)
def am_df (c : Nat) (k : Nat) : Int := if am_tg (am_ty c k) = 2 then -1 else 0
def am_set1 (ls : List aV) (i : Nat) (v : aV) : Option (List aV) := if i < ls.length ∧ (i = 0 ∨ ¬ (ls.getD (i - 1) (9, 0)).1 = 1) then some (ls.set i v) else none
def am_set2 (ls : List aV) (i : Nat) (v : aV) : Option (List aV) := if i + 1 < ls.length ∧ (i = 0 ∨ ¬ (ls.getD (i - 1) (9, 0)).1 = 1) then some ((ls.set i v).set (i + 1) (9, 0)) else none
/-- one step that is no call and no end -/
def am_s1 (i : aI) (ls st : List aV) (S : aS) : Option aC := match i with
  | (0, nx, _, x, _) => some (nx, ls, (0, x) :: st, S)
  | (1, nx, _, x, _) => some (nx, ls, (1, x) :: st, S)
  | (2, nx, a, x, _) => match ls[a]? with
    | some (t, v) => if t = x.toNat ∧ (t = 2 → 0 ≤ v) then some (nx, ls, (t, v) :: st, S) else none
    | none => none
  | (3, nx, a, x, _) => match st with
    | (t, v) :: r => if t = x.toNat ∧ (t = 2 → 0 ≤ v) then (if t = 1 then (am_set2 ls a (t, v)).map (fun l => (nx, l, r, S)) else (am_set1 ls a (t, v)).map (fun l => (nx, l, r, S))) else none
    | [] => none
  | (4, nx, a, x, _) => match ls[a]? with
    | some (0, v) => (am_set1 ls a (0, v + x)).map (fun l => (nx, l, st, S))
    | _ => none
  | (5, nx, o, _, _) => match st with
    | (0, y) :: (0, x) :: r => if 9 ≤ o ∧ w32 y = 0 then none else some (nx, ls, (0, am_io o x y) :: r, S)
    | _ => none
  | (6, nx, o, _, _) => match st with
    | (1, y) :: (1, x) :: r => some (nx, ls, (1, am_lo o x y) :: r, S)
    | _ => none
  | (7, nx, o, _, _) => match st with
    | (0, y) :: (1, x) :: r => some (nx, ls, (1, am_ls o x y) :: r, S)
    | _ => none
  | (8, nx, o, _, _) => match o, st with
    | 0, (0, x) :: r => some (nx, ls, (1, w32 x) :: r, S)
    | 1, (1, x) :: r => some (nx, ls, (0, x) :: r, S)
    | 2, (0, x) :: r => some (nx, ls, (0, (Int32.ofInt x).toInt8.toInt) :: r, S)
    | _, _ => none
  | (9, nx, _, _, _) => match st with
    | (1, y) :: (1, x) :: r => some (nx, ls, (0, if w64 y < w64 x then 1 else if w64 x = w64 y then 0 else -1) :: r, S)
    | _ => none
  | (10, nx, t, k, _) => match st with
    | (0, x) :: r => if am_cb k (w32 x) 0 then some (t, ls, r, S) else some (nx, ls, r, S)
    | _ => none
  | (11, nx, t, k, _) => match st with
    | (0, y) :: (0, x) :: r => if am_cb k (w32 x) (w32 y) then some (t, ls, r, S) else some (nx, ls, r, S)
    | _ => none
  | (12, t, _, _, _) => some (t, ls, st, S)
  | (13, nx, _, _, _) => match st with
    | (t, x) :: r => if t = 1 then none else some (nx, ls, (t, x) :: (t, x) :: r, S)
    | _ => none
  | (14, nx, _, _, _) => match st with
    | (t, x) :: (u, y) :: r => if t = 1 ∨ u = 1 then none else some (nx, ls, (t, x) :: (u, y) :: (t, x) :: (u, y) :: r, S)
    | _ => none
  | (15, nx, _, _, _) => match st with
    | (t, x) :: (u, y) :: r => if t = 1 ∨ u = 1 then none else some (nx, ls, (t, x) :: (u, y) :: (t, x) :: r, S)
    | _ => none
  | (16, nx, _, _, _) => match st with
    | (t, _) :: r => if t = 1 then none else some (nx, ls, r, S)
    | _ => none
  | (17, nx, _, _, _) => match st with
    | (1, _) :: r => some (nx, ls, r, S)
    | _ => none
  | (18, nx, f, x, _) => match st with
    | (2, a) :: r => if am_at S a (f / 100) then some (nx, ls, (x.toNat, S.1 a.toNat (f % 100)) :: r, S) else none
    | _ => none
  | (19, nx, f, x, _) => match st with
    | (t, v) :: (2, a) :: r => if am_at S a (f / 100) ∧ t = x.toNat ∧ (t = 2 → 0 ≤ v) ∧ (am_ty (f / 100) (f % 100) = .boolean → v = 0 ∨ v = 1) then some (nx, ls, r, am_up S a.toNat (f % 100) v) else none
    | _ => none
  | (20, nx, f, x, _) => match st with
    | (t, v) :: (2, a) :: r => if am_at S a (f / 100) ∧ t = x.toNat ∧ (t = 2 → 0 ≤ v) ∧ (am_ty (f / 100) (f % 100) = .boolean → v = 0 ∨ v = 1) then some (nx, ls, r, am_up S a.toNat (f % 100) v) else none
    | _ => none
  | (21, nx, _, _, _) => match st with
    | (0, i) :: (2, a) :: r => if am_ix S a i ∧ (am_at S a 20 ∨ a = 0) then some (nx, ls, (0, S.1 a.toNat (w32 i).toNat) :: r, S) else none
    | _ => none
  | (22, nx, _, _, _) => match st with
    | (0, i) :: (2, a) :: r => if am_ix S a i ∧ am_at S a 21 then some (nx, ls, (1, S.1 a.toNat (w32 i).toNat) :: r, S) else none
    | _ => none
  | (23, nx, _, _, _) => match st with
    | (0, i) :: (2, a) :: r => if am_ix S a i ∧ am_at S a 22 then some (nx, ls, (0, S.1 a.toNat (w32 i).toNat) :: r, S) else none
    | _ => none
  | (24, nx, _, _, _) => match st with
    | (0, v) :: (0, i) :: (2, a) :: r => if am_ix S a i ∧ am_at S a 20 then some (nx, ls, r, am_up S a.toNat (w32 i).toNat v) else none
    | _ => none
  | (25, nx, _, _, _) => match st with
    | (1, v) :: (0, i) :: (2, a) :: r => if am_ix S a i ∧ am_at S a 21 then some (nx, ls, r, am_up S a.toNat (w32 i).toNat v) else none
    | _ => none
  | (26, nx, _, _, _) => match st with
    | (0, v) :: (0, i) :: (2, a) :: r => if am_ix S a i ∧ am_at S a 22 then some (nx, ls, r, am_up S a.toNat (w32 i).toNat (Int32.ofInt v).toInt8.toInt) else none
    | _ => none
  | (27, nx, _, _, _) => match st with
    | (2, a) :: r => if am_at S a 20 ∨ am_at S a 21 ∨ am_at S a 22 ∨ a = 0 then some (nx, ls, (0, ((S.2.1 a.toNat).2 : Int)) :: r, S) else none
    | _ => none
  | (28, nx, kd, _, _) => match st with
    | (0, n) :: r => if 0 ≤ w32 n ∧ w32 n ≤ 10000000 then some (nx, ls, (2, (am_pi S.2.2.1 : Int)) :: r, am_al S kd (w32 n).toNat (fun _ => 0) (w32 n).toNat) else none
    | _ => none
  | (29, nx, c, _, _) => some (nx, ls, (2, (am_pi S.2.2.1 : Int)) :: st, am_al S c 0 (am_df c) (am_nF c))
  | (30, d, _, lo, l) => match st with
    | (0, x) :: r => if w32 x < lo then some (d, ls, r, S) else match l[(w32 x - lo).toNat]? with
      | some t => some (t, ls, r, S)
      | none => some (d, ls, r, S)
    | _ => none
  | (31, nx, _, _, _) => match st with
    | (2, a) :: r => if 0 ≤ a ∧ (r.map fun v => if v.1 = 1 then 2 else 1).sum ≤ 8 then some (nx, ls, r, S) else none
    | _ => none
  | (32, nx, _, _, _) => match st with
    | (0, n) :: (0, dp) :: (2, c) :: (0, sp) :: (2, a) :: r => if 0 ≤ w32 n ∧ 0 ≤ w32 dp ∧ 0 ≤ w32 sp ∧ w32 sp + w32 n ≤ (S.2.1 a.toNat).2 ∧ w32 dp + w32 n ≤ (S.2.1 c.toNat).2 ∧ ((am_at S a 20 ∧ am_at S c 20) ∨ (am_at S a 21 ∧ am_at S c 21)) ∧ ¬ a = c ∧ (r.map fun v => if v.1 = 1 then 2 else 1).sum ≤ 8 then some (nx, ls, r, am_cpy S a.toNat (w32 sp).toNat c.toNat (w32 dp).toNat (w32 n).toNat) else none
    | _ => none
  | (33, nx, md, _, _) => match md, st with
    | 9, (0, y) :: (0, x) :: r => if (r.map fun v => if v.1 = 1 then 2 else 1).sum ≤ 8 then some (nx, ls, (0, if w32 x < w32 y then y else x) :: r, S) else none
    | 10, (0, y) :: (0, x) :: r => if (r.map fun v => if v.1 = 1 then 2 else 1).sum ≤ 8 then some (nx, ls, (0, if w32 y < w32 x then y else x) :: r, S) else none
    | 11, (1, y) :: (1, x) :: r => if (r.map fun v => if v.1 = 1 then 2 else 1).sum ≤ 8 then some (nx, ls, (1, if w64 y < w64 x then y else x) :: r, S) else none
    | _, _ => none
  | _ => none
/-- the locals of a method as it begins -/
def am_en (M : Nat) (as : List aV) : List aV := (as.flatMap fun v => if v.1 = 1 then [v, (9, 0)] else [v]) ++ List.replicate ((am_m M).2.2.1 - (as.flatMap fun v => if v.1 = 1 then [v, (9, 0)] else [v]).length) (9, 0)
/-- what a method that has come to its end answers -/
def am_fi (M : Nat) (i : aI) (st : List aV) (S : aS) : Option (Option aV × aS) := match i with
  | (36, _, 0, _, _) => match st with
    | [(0, x)] => if (am_m M).2.2.2.1 = some .int ∨ ((am_m M).2.2.2.1 = some .boolean ∧ (x = 0 ∨ x = 1)) then some (some (0, x), S) else none
    | _ => none
  | (36, _, 1, _, _) => match st with
    | [(1, x)] => if (am_m M).2.2.2.1 = some .long then some (some (1, x), S) else none
    | _ => none
  | (36, _, 2, _, _) => match st with
    | [(2, x)] => if 0 ≤ x ∧ ((am_m M).2.2.2.1 = some (.array .int) ∨ (am_m M).2.2.2.1 = some (.array .long)) then some (some (2, x), S) else none
    | _ => none
  | (36, _, 3, _, _) => match st with
    | [] => if (am_m M).2.2.2.1 = none then some (none, S) else none
    | _ => none
  | (38, _, _, _, _) => match st with
    | [] => some (some (6, (am_pi S.2.2.1 : Int)), am_al S 13 0 (fun _ => 0) 6)
    | _ => none
  | _ => none
/-- a call's arguments (the first one first) and what is below them -/
def am_ar (i : aI) (st : List aV) (S : aS) : Option (List aV × List aV) :=
  if ((st.take (am_m i.2.2.1).2.2.2.2.2.length).reverse.map fun v => v.1) = (am_m i.2.2.1).2.2.2.2.2 ∧ ((st.drop (am_m i.2.2.1).2.2.2.2.2.length).map fun v => if v.1 = 1 then 2 else 1).sum ≤ 8 ∧ (st.all fun v => decide (v.1 ≤ 2) && (!decide (v.1 = 2) || decide (0 ≤ v.2))) ∧ (i.2.2.2.1 = 0 → am_at S ((st.take (am_m i.2.2.1).2.2.2.2.2.length).reverse.getD 0 (9, 0)).2 (am_m i.2.2.1).2.2.2.2.1) then some ((st.take (am_m i.2.2.1).2.2.2.2.2.length).reverse, st.drop (am_m i.2.2.1).2.2.2.2.2.length) else none
/-- the law's own helpers: the row that takes the answer lies on top -/
def am_a4 (k : Nat) (st : List aV) (S : aS) : Option (List aV × Int × List aV) := match st with
  | (2, o) :: r => if ((r.take (am_m k).2.2.2.2.2.length).reverse.map fun v => v.1) = (am_m k).2.2.2.2.2 ∧ ((r.drop (am_m k).2.2.2.2.2.length).map fun v => if v.1 = 1 then 2 else 1).sum ≤ 8 ∧ (r.all fun v => decide (v.1 ≤ 2) && (!decide (v.1 = 2) || decide (0 ≤ v.2))) ∧ am_at S ((r.take (am_m k).2.2.2.2.2.length).reverse.getD 0 (9, 0)).2 11 = true ∧ am_at S o 21 = true ∧ 0 < (S.2.1 o.toNat).2 then some ((r.take (am_m k).2.2.2.2.2.length).reverse, o, r.drop (am_m k).2.2.2.2.2.length) else none
  | _ => none
def am_b4 (o : Int) (r : Option aV) (S : aS) : Option (aV × aS) := match r with
  | some (6, _) => some ((0, 1), S)
  | some (0, x) => if am_at S o 21 ∧ 0 < (S.2.1 o.toNat).2 then some ((0, 0), am_up S o.toNat 0 (w32 x)) else none
  | some (1, x) => if am_at S o 21 ∧ 0 < (S.2.1 o.toNat).2 then some ((0, 0), am_up S o.toNat 0 x) else none
  | _ => none
/-- up to n steps, d frames deep: where a method comes to its end -/
def am_run : Nat → Nat → Nat → Nat → List aV → List aV → aS → Option aC
  | 0, _, _, _, _, _, _ => none
  | n + 1, d, M, pc, ls, st, S =>
    if (am_cd M pc).1 < 36 then
      if 31 ≤ (am_cd M pc).1 ∧ d = 0 then none else
      match am_s1 (am_cd M pc) ls st S with
      | some (pc2, ls2, st2, S2) => am_run n d M pc2 ls2 st2 S2
      | none => none
    else if (am_cd M pc).1 < 39 then some (pc, ls, st, S)
    else if (am_cd M pc).1 = 40 then
      match d with
      | 0 => none
      | d + 1 => match am_ar (am_cd M pc) st S with
        | none => none
        | some (as, rest) => match am_run n d (am_cd M pc).2.2.1 0 (am_en (am_cd M pc).2.2.1 as) [] S with
          | none => none
          | some (p1, _, t1, S1) => match am_fi (am_cd M pc).2.2.1 (am_cd (am_cd M pc).2.2.1 p1) t1 S1 with
            | some (some (6, _), _) => none
            | some (v, S2) => am_run n (d + 1) M (am_cd M pc).2.1 ls (v.toList ++ rest) S2
            | none => none
    else if (am_cd M pc).1 = 41 then
      if d < 8 then none else match am_a4 (am_cd M pc).2.2.1 st S with
        | none => none
        | some (as, o, rest) => match am_run n (d - 8) (am_cd M pc).2.2.1 0 (am_en (am_cd M pc).2.2.1 as) [] S with
          | none => none
          | some (p1, _, t1, S1) => match am_fi (am_cd M pc).2.2.1 (am_cd (am_cd M pc).2.2.1 p1) t1 S1 with
            | none => none
            | some (r, S2) => match am_b4 o r S2 with
              | none => none
              | some (v, S3) => am_run n d M (am_cd M pc).2.1 ls (v :: rest) S3
    else none
