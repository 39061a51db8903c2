/-! One step, whichever. -/
section AMS
variable {p : Program} {l : Launch} {e : Env} {R : Room} {s : State} {m : MethodId} {args : Array Value} {below : List Frame} {meth : Method} {c : Code} {H : Heap} {locs : List Loc} {cells slots : Nat} {Q : State → Prop}
variable {b sz L : Nat} {xs : Nat → Int32} {D : va_G} {cI cJ cB : ClassId} {M pc : Nat} {la st : List aV} {lr : Array Slot} {S : aS} {c2 : aC}

theorem am_s1_bad : am_s1 am_bad la st S = none := rfl
theorem am_no {P : Prop} (h : am_bad.1 < 36 ∧ am_s1 am_bad la st S = some c2) : P := by
  have := h.2
  rw [am_s1_bad] at this
  cases this
theorem am_lk2E {α : Type} {o k : Nat} {l : List (Nat × α)} {v : α} (h : am_lk2 o k l = some v) : k < 1000 ∧ am_lk (o * 1000 + k) l = some v := by
  unfold am_lk2 at h
  split at h
  · next hk => exact ⟨hk, h⟩
  · cases h

theorem am_step (G : am_G b sz L xs D cI cJ cB p s m args meth c M) (hC : s.heap.size + cells = sz + (S.2.2.1 - 1)) (hroom : cells + (c2.2.2.2.2.2.1 - S.2.2.1) ≤ R.cells ∧ slots + (c2.2.2.2.2.2.2 - S.2.2.2) ≤ R.slots) (hfr : 31 ≤ (am_cd M pc).1 → 1 ≤ R.frames ∧ 60 ≤ R.locals) (hlt : (am_cd M pc).1 < 36) (h : am_s1 (am_cd M pc) la st S = some c2) (hL : am_LR b sz lr (am_m M).2.2.1 la) (hR : am_Rel b sz L xs D cI cJ cB S H) (hS : va_S (fun q => sz ≤ q) s.heap H locs) (k : am_K p l e R s m args below meth c cells slots Q b sz L xs D cI cJ cB (am_m M).2.2.1 S c2) : W p l e R s m args below meth c H locs cells slots Q (F0 m pc lr (st.map (am_cv b sz))) := by
  have hcc : cells ≤ R.cells := by have := hroom.1; omega
  have hss : slots ≤ R.slots := by have := hroom.2; omega
  have hh : (am_cd M pc).1 < 36 ∧ am_s1 (am_cd M pc) la st S = some c2 := ⟨hlt, h⟩
  cases hdec : decode (am_m M).2.1 pc with
  | error er =>
    have hcd : am_cd M pc = am_bad := by unfold am_cd; rw [hdec]
    rw [hcd] at hh
    exact am_no hh
  | ok q =>
  obtain ⟨i, len⟩ := q
  have hcd : am_cd M pc = am_tr M pc (am_m M).2.2.2.2.1 i len := by unfold am_cd; rw [hdec]
  rw [hcd] at hh
  cases i with
  | iadd =>
    rcases len with _ | _ | len
    · exact am_no hh
    · exact am_i_iadd G hdec hh.2 hL hR hS k
    · exact am_no hh
  | isub =>
    rcases len with _ | _ | len
    · exact am_no hh
    · exact am_i_isub G hdec hh.2 hL hR hS k
    · exact am_no hh
  | imul =>
    rcases len with _ | _ | len
    · exact am_no hh
    · exact am_i_imul G hdec hh.2 hL hR hS k
    · exact am_no hh
  | iand =>
    rcases len with _ | _ | len
    · exact am_no hh
    · exact am_i_iand G hdec hh.2 hL hR hS k
    · exact am_no hh
  | ior =>
    rcases len with _ | _ | len
    · exact am_no hh
    · exact am_i_ior G hdec hh.2 hL hR hS k
    · exact am_no hh
  | ixor =>
    rcases len with _ | _ | len
    · exact am_no hh
    · exact am_i_ixor G hdec hh.2 hL hR hS k
    · exact am_no hh
  | ishl =>
    rcases len with _ | _ | len
    · exact am_no hh
    · exact am_i_ishl G hdec hh.2 hL hR hS k
    · exact am_no hh
  | ishr =>
    rcases len with _ | _ | len
    · exact am_no hh
    · exact am_i_ishr G hdec hh.2 hL hR hS k
    · exact am_no hh
  | iushr =>
    rcases len with _ | _ | len
    · exact am_no hh
    · exact am_i_iushr G hdec hh.2 hL hR hS k
    · exact am_no hh
  | idiv =>
    rcases len with _ | _ | len
    · exact am_no hh
    · exact am_i_idiv G hdec hh.2 hL hR hS k
    · exact am_no hh
  | irem =>
    rcases len with _ | _ | len
    · exact am_no hh
    · exact am_i_irem G hdec hh.2 hL hR hS k
    · exact am_no hh
  | ladd =>
    rcases len with _ | _ | len
    · exact am_no hh
    · exact am_i_ladd G hdec hh.2 hL hR hS k
    · exact am_no hh
  | lsub =>
    rcases len with _ | _ | len
    · exact am_no hh
    · exact am_i_lsub G hdec hh.2 hL hR hS k
    · exact am_no hh
  | lor =>
    rcases len with _ | _ | len
    · exact am_no hh
    · exact am_i_lor G hdec hh.2 hL hR hS k
    · exact am_no hh
  | lxor =>
    rcases len with _ | _ | len
    · exact am_no hh
    · exact am_i_lxor G hdec hh.2 hL hR hS k
    · exact am_no hh
  | lshl =>
    rcases len with _ | _ | len
    · exact am_no hh
    · exact am_i_lshl G hdec hh.2 hL hR hS k
    · exact am_no hh
  | lshr =>
    rcases len with _ | _ | len
    · exact am_no hh
    · exact am_i_lshr G hdec hh.2 hL hR hS k
    · exact am_no hh
  | lushr =>
    rcases len with _ | _ | len
    · exact am_no hh
    · exact am_i_lushr G hdec hh.2 hL hR hS k
    · exact am_no hh
  | i2l =>
    rcases len with _ | _ | len
    · exact am_no hh
    · exact am_i_i2l G hdec hh.2 hL hR hS k
    · exact am_no hh
  | l2i =>
    rcases len with _ | _ | len
    · exact am_no hh
    · exact am_i_l2i G hdec hh.2 hL hR hS k
    · exact am_no hh
  | i2b =>
    rcases len with _ | _ | len
    · exact am_no hh
    · exact am_i_i2b G hdec hh.2 hL hR hS k
    · exact am_no hh
  | lcmp =>
    rcases len with _ | _ | len
    · exact am_no hh
    · exact am_i_lcmp G hdec hh.2 hL hR hS k
    · exact am_no hh
  | dup =>
    rcases len with _ | _ | len
    · exact am_no hh
    · exact am_i_dup G hdec hh.2 hL hR hS k
    · exact am_no hh
  | dup2 =>
    rcases len with _ | _ | len
    · exact am_no hh
    · exact am_i_dup2 G hdec hh.2 hL hR hS k
    · exact am_no hh
  | dup_x1 =>
    rcases len with _ | _ | len
    · exact am_no hh
    · exact am_i_dup_x1 G hdec hh.2 hL hR hS k
    · exact am_no hh
  | pop =>
    rcases len with _ | _ | len
    · exact am_no hh
    · exact am_i_pop G hdec hh.2 hL hR hS k
    · exact am_no hh
  | pop2 =>
    rcases len with _ | _ | len
    · exact am_no hh
    · exact am_i_pop2 G hdec hh.2 hL hR hS k
    · exact am_no hh
  | iaload =>
    rcases len with _ | _ | len
    · exact am_no hh
    · exact am_i_iaload G hC hdec hh.2 hL hR hS k
    · exact am_no hh
  | laload =>
    rcases len with _ | _ | len
    · exact am_no hh
    · exact am_i_laload G hC hdec hh.2 hL hR hS k
    · exact am_no hh
  | baload =>
    rcases len with _ | _ | len
    · exact am_no hh
    · exact am_i_baload G hC hdec hh.2 hL hR hS k
    · exact am_no hh
  | iastore =>
    rcases len with _ | _ | len
    · exact am_no hh
    · exact am_i_iastore G hC hdec hh.2 hL hR hS k
    · exact am_no hh
  | lastore =>
    rcases len with _ | _ | len
    · exact am_no hh
    · exact am_i_lastore G hC hdec hh.2 hL hR hS k
    · exact am_no hh
  | bastore =>
    rcases len with _ | _ | len
    · exact am_no hh
    · exact am_i_bastore G hC hdec hh.2 hL hR hS k
    · exact am_no hh
  | arraylength =>
    rcases len with _ | _ | len
    · exact am_no hh
    · exact am_i_alen G hC hdec hh.2 hL hR hS k
    · exact am_no hh
  | iconst n =>
    rcases len with _ | _ | len
    · exact am_no hh
    · exact am_i_iconst G hdec hh.2 hL hR hS k
    · exact am_no hh
  | lconst n =>
    rcases len with _ | _ | len
    · exact am_no hh
    · exact am_i_lconst G hdec hh.2 hL hR hS k
    · exact am_no hh
  | bipush n =>
    rcases len with _ | _ | _ | len
    · exact am_no hh
    · exact am_no hh
    · by_cases hn : -128 ≤ n ∧ n ≤ 127
      · have h1 : am_s1 (if -128 ≤ n ∧ n ≤ 127 then (0, pc + 2, 1, n, []) else am_bad) la st S = some c2 := hh.2
        rw [if_pos hn] at h1
        exact am_i_bipush G hn hdec h1 hL hR hS k
      · have h1 : am_s1 (if -128 ≤ n ∧ n ≤ 127 then (0, pc + 2, 1, n, []) else am_bad) la st S = some c2 := hh.2
        rw [if_neg hn] at h1
        cases h1
    · exact am_no hh
  | sipush n =>
    rcases len with _ | _ | _ | _ | len
    · exact am_no hh
    · exact am_no hh
    · exact am_no hh
    · by_cases hn : -32768 ≤ n ∧ n ≤ 32767
      · have h1 : am_s1 (if -32768 ≤ n ∧ n ≤ 32767 then (0, pc + 3, 2, n, []) else am_bad) la st S = some c2 := hh.2
        rw [if_pos hn] at h1
        exact am_i_sipush G hn hdec h1 hL hR hS k
      · have h1 : am_s1 (if -32768 ≤ n ∧ n ≤ 32767 then (0, pc + 3, 2, n, []) else am_bad) la st S = some c2 := hh.2
        rw [if_neg hn] at h1
        cases h1
    · exact am_no hh
  | ldc n =>
    rcases len with _ | _ | _ | len
    · exact am_no hh
    · exact am_no hh
    · have h1 : am_s1 (match am_lk2 (am_m M).2.2.2.2.1 n am_ld with | some v => (0, pc + 2, 3, v, [n]) | none => am_bad) la st S = some c2 := hh.2
      cases hk : am_lk2 (am_m M).2.2.2.2.1 n am_ld with
      | none => rw [hk] at h1; cases h1
      | some v =>
        rw [hk] at h1
        obtain ⟨hk1, hk2⟩ := am_lk2E hk
        exact am_i_ldc G hk2 hk1 hdec h1 hL hR hS k
    · exact am_no hh
  | ldc_w n =>
    rcases len with _ | _ | _ | _ | len
    · exact am_no hh
    · exact am_no hh
    · exact am_no hh
    · have h1 : am_s1 (match am_lk2 (am_m M).2.2.2.2.1 n am_ld with | some v => (0, pc + 3, 4, v, [n]) | none => am_bad) la st S = some c2 := hh.2
      cases hk : am_lk2 (am_m M).2.2.2.2.1 n am_ld with
      | none => rw [hk] at h1; cases h1
      | some v =>
        rw [hk] at h1
        obtain ⟨hk1, hk2⟩ := am_lk2E hk
        exact am_i_ldc_w G hk2 hk1 hdec h1 hL hR hS k
    · exact am_no hh
  | ldc2_w n =>
    rcases len with _ | _ | _ | _ | len
    · exact am_no hh
    · exact am_no hh
    · exact am_no hh
    · have h1 : am_s1 (match am_lk2 (am_m M).2.2.2.2.1 n am_ll with | some v => (1, pc + 3, 1, v, [n]) | none => am_bad) la st S = some c2 := hh.2
      cases hk : am_lk2 (am_m M).2.2.2.2.1 n am_ll with
      | none => rw [hk] at h1; cases h1
      | some v =>
        rw [hk] at h1
        obtain ⟨hk1, hk2⟩ := am_lk2E hk
        exact am_i_ldc2_w G hk2 hk1 hdec h1 hL hR hS k
    · exact am_no hh
  | iload i =>
    rcases len with _ | _ | _ | len
    · exact am_no hh
    · exact am_no hh
    · exact am_i_iload G hdec hh.2 hL hR hS k
    · exact am_no hh
  | iload_n i =>
    rcases len with _ | _ | len
    · exact am_no hh
    · exact am_i_iload_n G hdec hh.2 hL hR hS k
    · exact am_no hh
  | istore i =>
    rcases len with _ | _ | _ | len
    · exact am_no hh
    · exact am_no hh
    · exact am_i_istore G hdec hh.2 hL hR hS k
    · exact am_no hh
  | istore_n i =>
    rcases len with _ | _ | len
    · exact am_no hh
    · exact am_i_istore_n G hdec hh.2 hL hR hS k
    · exact am_no hh
  | lload i =>
    rcases len with _ | _ | _ | len
    · exact am_no hh
    · exact am_no hh
    · exact am_i_lload G hdec hh.2 hL hR hS k
    · exact am_no hh
  | lload_n i =>
    rcases len with _ | _ | len
    · exact am_no hh
    · exact am_i_lload_n G hdec hh.2 hL hR hS k
    · exact am_no hh
  | lstore i =>
    rcases len with _ | _ | _ | len
    · exact am_no hh
    · exact am_no hh
    · exact am_i_lstore G hdec hh.2 hL hR hS k
    · exact am_no hh
  | lstore_n i =>
    rcases len with _ | _ | len
    · exact am_no hh
    · exact am_i_lstore_n G hdec hh.2 hL hR hS k
    · exact am_no hh
  | aload i =>
    rcases len with _ | _ | _ | len
    · exact am_no hh
    · exact am_no hh
    · exact am_i_aload G hdec hh.2 hL hR hS k
    · exact am_no hh
  | aload_n i =>
    rcases len with _ | _ | len
    · exact am_no hh
    · exact am_i_aload_n G hdec hh.2 hL hR hS k
    · exact am_no hh
  | astore i =>
    rcases len with _ | _ | _ | len
    · exact am_no hh
    · exact am_no hh
    · exact am_i_astore G hdec hh.2 hL hR hS k
    · exact am_no hh
  | astore_n i =>
    rcases len with _ | _ | len
    · exact am_no hh
    · exact am_i_astore_n G hdec hh.2 hL hR hS k
    · exact am_no hh
  | iinc i n =>
    rcases len with _ | _ | _ | _ | len
    · exact am_no hh
    · exact am_no hh
    · exact am_no hh
    · exact am_i_iinc G hdec hh.2 hL hR hS k
    · exact am_no hh
  | ifCond cnd off =>
    rcases len with _ | _ | _ | _ | len
    · exact am_no hh
    · exact am_no hh
    · exact am_no hh
    · have h1 : am_s1 (am_jump pc off fun t => (10, pc + 3, t, am_cc cnd, [])) la st S = some c2 := hh.2
      unfold am_jump at h1
      by_cases h0 : 0 ≤ (pc : Int) + off
      · rw [if_pos h0] at h1
        have ht : (pc : Int) + off = ((((pc : Int) + off).toNat : Nat) : Int) := (Int.toNat_of_nonneg h0).symm
        cases cnd
        · exact am_i_if_eq G ht hdec h1 hL hR hS k
        · exact am_i_if_ne G ht hdec h1 hL hR hS k
        · exact am_i_if_lt G ht hdec h1 hL hR hS k
        · exact am_i_if_ge G ht hdec h1 hL hR hS k
        · exact am_i_if_gt G ht hdec h1 hL hR hS k
        · exact am_i_if_le G ht hdec h1 hL hR hS k
      · rw [if_neg h0] at h1
        cases h1
    · exact am_no hh
  | if_icmp cnd off =>
    rcases len with _ | _ | _ | _ | len
    · exact am_no hh
    · exact am_no hh
    · exact am_no hh
    · have h1 : am_s1 (am_jump pc off fun t => (11, pc + 3, t, am_cc cnd, [])) la st S = some c2 := hh.2
      unfold am_jump at h1
      by_cases h0 : 0 ≤ (pc : Int) + off
      · rw [if_pos h0] at h1
        have ht : (pc : Int) + off = ((((pc : Int) + off).toNat : Nat) : Int) := (Int.toNat_of_nonneg h0).symm
        cases cnd
        · exact am_i_icmp_eq G ht hdec h1 hL hR hS k
        · exact am_i_icmp_ne G ht hdec h1 hL hR hS k
        · exact am_i_icmp_lt G ht hdec h1 hL hR hS k
        · exact am_i_icmp_ge G ht hdec h1 hL hR hS k
        · exact am_i_icmp_gt G ht hdec h1 hL hR hS k
        · exact am_i_icmp_le G ht hdec h1 hL hR hS k
      · rw [if_neg h0] at h1
        cases h1
    · exact am_no hh
  | goto off =>
    rcases len with _ | _ | _ | _ | len
    · exact am_no hh
    · exact am_no hh
    · exact am_no hh
    · have h1 : am_s1 (am_jump pc off fun t => (12, t, 0, 0, [])) la st S = some c2 := hh.2
      unfold am_jump at h1
      by_cases h0 : 0 ≤ (pc : Int) + off
      · rw [if_pos h0] at h1
        have ht : (pc : Int) + off = ((((pc : Int) + off).toNat : Nat) : Int) := (Int.toNat_of_nonneg h0).symm
        exact am_i_goto G ht hdec h1 hL hR hS k
      · rw [if_neg h0] at h1
        cases h1
    · exact am_no hh
  | getfield n =>
    rcases len with _ | _ | _ | _ | len
    · exact am_no hh
    · exact am_no hh
    · exact am_no hh
    · have h1 : am_s1 (match am_lk2 (am_m M).2.2.2.2.1 n am_ft with | some v => (18, pc + 3, v, (am_tg (am_ty (v / 100) (v % 100)) : Int), [n]) | none => am_bad) la st S = some c2 := hh.2
      cases hk : am_lk2 (am_m M).2.2.2.2.1 n am_ft with
      | none => rw [hk] at h1; cases h1
      | some v =>
        rw [hk] at h1
        obtain ⟨hk1, hk2⟩ := am_lk2E hk
        exact am_i_getfield G hk2 hk1 hC hdec h1 hL hR hS k
    · exact am_no hh
  | putfield n =>
    rcases len with _ | _ | _ | _ | len
    · exact am_no hh
    · exact am_no hh
    · exact am_no hh
    · have h1 : am_s1 (match am_lk2 (am_m M).2.2.2.2.1 n am_ft with | some f => (if (am_T (f / 100) (f % 100)).2.2.2 = false then (19, pc + 3, f, (am_tg (am_ty (f / 100) (f % 100)) : Int), [n]) else if (am_m M).2.2.2.2.1 = f / 100 ∧ (am_m M).1.name = "<init>" then (20, pc + 3, f, (am_tg (am_ty (f / 100) (f % 100)) : Int), [n]) else am_bad) | none => am_bad) la st S = some c2 := hh.2
      cases hk : am_lk2 (am_m M).2.2.2.2.1 n am_ft with
      | none => rw [hk] at h1; cases h1
      | some f =>
        rw [hk] at h1
        obtain ⟨hk1, hk2⟩ := am_lk2E hk
        dsimp only at h1
        by_cases hf : (am_T (f / 100) (f % 100)).2.2.2 = false
        · rw [if_pos hf] at h1
          exact am_i_putfield G hk2 hk1 hf hC hdec h1 hL hR hS k
        · rw [if_neg hf] at h1
          by_cases ho : (am_m M).2.2.2.2.1 = f / 100 ∧ (am_m M).1.name = "<init>"
          · rw [if_pos ho] at h1
            exact am_i_putfin G hk2 hk1 (Bool.not_eq_false _ ▸ hf) ho.1 ho.2 hC hdec h1 hL hR hS k
          · rw [if_neg ho] at h1
            cases h1
    · exact am_no hh
  | newarray ty =>
    cases ty
    · exact am_no hh
    · exact am_no hh
    · exact am_no hh
    · exact am_no hh
    · rcases len with _ | _ | _ | len
      · exact am_no hh
      · exact am_no hh
      · exact am_i_newb G hroom hC hdec hh.2 hL hR hS k
      · exact am_no hh
    · exact am_no hh
    · rcases len with _ | _ | _ | len
      · exact am_no hh
      · exact am_no hh
      · exact am_i_newi G hroom hC hdec hh.2 hL hR hS k
      · exact am_no hh
    · rcases len with _ | _ | _ | len
      · exact am_no hh
      · exact am_no hh
      · exact am_i_newl G hroom hC hdec hh.2 hL hR hS k
      · exact am_no hh
  | new n =>
    rcases len with _ | _ | _ | _ | len
    · exact am_no hh
    · exact am_no hh
    · exact am_no hh
    · have h1 : (match am_lk2 (am_m M).2.2.2.2.1 n am_lc with | some c0 => (if c0 < 13 then (29, pc + 3, c0, 0, [n]) else if am_thr M pc (am_m M).2.2.2.2.1 n c0 then (38, pc + 3, 0, 0, []) else am_bad) | none => am_bad : aI).1 < 36 ∧ am_s1 (match am_lk2 (am_m M).2.2.2.2.1 n am_lc with | some c0 => (if c0 < 13 then (29, pc + 3, c0, 0, [n]) else if am_thr M pc (am_m M).2.2.2.2.1 n c0 then (38, pc + 3, 0, 0, []) else am_bad) | none => am_bad) la st S = some c2 := hh
      cases hk : am_lk2 (am_m M).2.2.2.2.1 n am_lc with
      | none => rw [hk] at h1; exact am_no h1
      | some c0 =>
        rw [hk] at h1
        obtain ⟨hk1, hk2⟩ := am_lk2E hk
        dsimp only at h1
        by_cases hc : c0 < 13
        · rw [if_pos hc] at h1
          exact am_i_new G hk2 hk1 hc hroom hC hdec h1.2 hL hR hS k
        · rw [if_neg hc] at h1
          by_cases ht : am_thr M pc (am_m M).2.2.2.2.1 n c0 = true
          · rw [if_pos ht] at h1
            exact absurd h1.1 (by show ¬ 38 < 36; omega)
          · rw [if_neg ht] at h1
            exact am_no h1
    · exact am_no hh
  | tableswitch dflt lo hi offs =>
    have h1 : am_s1 (if (offs.toList.all fun o => decide (0 ≤ (pc : Int) + o)) ∧ hi = lo + offs.size - 1 then am_jump pc dflt fun t => (30, t, len, lo, offs.toList.map fun o => ((pc : Int) + o).toNat) else am_bad) la st S = some c2 := hh.2
    by_cases hc : (offs.toList.all fun o => decide (0 ≤ (pc : Int) + o)) ∧ hi = lo + offs.size - 1
    · rw [if_pos hc] at h1
      unfold am_jump at h1
      by_cases h0 : 0 ≤ (pc : Int) + dflt
      · rw [if_pos h0] at h1
        exact am_i_tsw G (fun o ho => of_decide_eq_true (List.all_eq_true.mp hc.1 o ho)) hc.2 (Int.toNat_of_nonneg h0).symm hdec h1 hL hR hS k
      · rw [if_neg h0] at h1
        cases h1
    · rw [if_neg hc] at h1
      cases h1
  | invokespecial n =>
    rcases len with _ | _ | _ | _ | len
    · exact am_no hh
    · exact am_no hh
    · exact am_no hh
    · have h1 : (match am_lk2 (am_m M).2.2.2.2.1 n am_lm with | some (md, m2) => (if md = 6 then (31, pc + 3, 0, 0, [n]) else if md = 2 ∨ md = 5 then (40, pc + 3, m2, (md : Int), [n]) else am_bad) | none => am_bad : aI).1 < 36 ∧ am_s1 (match am_lk2 (am_m M).2.2.2.2.1 n am_lm with | some (md, m2) => (if md = 6 then (31, pc + 3, 0, 0, [n]) else if md = 2 ∨ md = 5 then (40, pc + 3, m2, (md : Int), [n]) else am_bad) | none => am_bad) la st S = some c2 := hh
      cases hk : am_lk2 (am_m M).2.2.2.2.1 n am_lm with
      | none => rw [hk] at h1; exact am_no h1
      | some q =>
        obtain ⟨md, m2⟩ := q
        rw [hk] at h1
        obtain ⟨hk1, hk2⟩ := am_lk2E hk
        dsimp only at h1
        by_cases h6 : md = 6
        · subst h6
          rw [if_pos rfl] at h1
          obtain ⟨f1, f2⟩ := hfr (by rw [hcd]; show 31 ≤ (match am_lk2 (am_m M).2.2.2.2.1 n am_lm with | some (md, m2) => (if md = 6 then (31, pc + 3, 0, 0, [n]) else if md = 2 ∨ md = 5 then (40, pc + 3, m2, (md : Int), [n]) else am_bad) | none => am_bad : aI).1; rw [hk]; exact Nat.le_refl 31)
          exact am_i_objinit G hk2 hk1 f1 f2 hcc hss hdec h1.2 hL hR hS k
        · rw [if_neg h6] at h1
          by_cases h2 : md = 2 ∨ md = 5
          · rw [if_pos h2] at h1
            exact absurd h1.1 (by show ¬ 40 < 36; omega)
          · rw [if_neg h2] at h1
            exact am_no h1
    · exact am_no hh
  | invokestatic n =>
    rcases len with _ | _ | _ | _ | len
    · exact am_no hh
    · exact am_no hh
    · exact am_no hh
    · have h1 : (match am_lk2 (am_m M).2.2.2.2.1 n am_lm with | some (md, m2) => (if md = 7 then (32, pc + 3, 0, 0, [n]) else if md = 8 then (41, pc + 3, m2, (md : Int), [n]) else if md = 9 ∨ md = 10 ∨ md = 11 then (33, pc + 3, md, 0, [n]) else if md = 1 ∨ md = 4 then (40, pc + 3, m2, (md : Int), [n]) else am_bad) | none => am_bad : aI).1 < 36 ∧ am_s1 (match am_lk2 (am_m M).2.2.2.2.1 n am_lm with | some (md, m2) => (if md = 7 then (32, pc + 3, 0, 0, [n]) else if md = 8 then (41, pc + 3, m2, (md : Int), [n]) else if md = 9 ∨ md = 10 ∨ md = 11 then (33, pc + 3, md, 0, [n]) else if md = 1 ∨ md = 4 then (40, pc + 3, m2, (md : Int), [n]) else am_bad) | none => am_bad) la st S = some c2 := hh
      cases hk : am_lk2 (am_m M).2.2.2.2.1 n am_lm with
      | none => rw [hk] at h1; exact am_no h1
      | some q =>
        obtain ⟨md, m2⟩ := q
        rw [hk] at h1
        obtain ⟨hk1, hk2⟩ := am_lk2E hk
        dsimp only at h1
        by_cases h7 : md = 7
        · subst h7
          rw [if_pos rfl] at h1
          obtain ⟨f1, f2⟩ := hfr (by rw [hcd]; show 31 ≤ (match am_lk2 (am_m M).2.2.2.2.1 n am_lm with | some (md, m2) => (if md = 7 then (32, pc + 3, 0, 0, [n]) else if md = 8 then (41, pc + 3, m2, (md : Int), [n]) else if md = 9 ∨ md = 10 ∨ md = 11 then (33, pc + 3, md, 0, [n]) else if md = 1 ∨ md = 4 then (40, pc + 3, m2, (md : Int), [n]) else am_bad) | none => am_bad : aI).1; rw [hk]; exact Nat.le_of_ble_eq_true rfl)
          exact am_i_acopy G hk2 hk1 f1 f2 hC hdec h1.2 hL hR hS k
        · rw [if_neg h7] at h1
          by_cases h8 : md = 8
          · rw [if_pos h8] at h1
            exact absurd h1.1 (by show ¬ 41 < 36; omega)
          · rw [if_neg h8] at h1
            by_cases h9 : md = 9 ∨ md = 10 ∨ md = 11
            · rw [if_pos h9] at h1
              rcases h9 with rfl | rfl | rfl
              · obtain ⟨f1, f2⟩ := hfr (by rw [hcd]; show 31 ≤ (match am_lk2 (am_m M).2.2.2.2.1 n am_lm with | some (md, m2) => (if md = 7 then (32, pc + 3, 0, 0, [n]) else if md = 8 then (41, pc + 3, m2, (md : Int), [n]) else if md = 9 ∨ md = 10 ∨ md = 11 then (33, pc + 3, md, 0, [n]) else if md = 1 ∨ md = 4 then (40, pc + 3, m2, (md : Int), [n]) else am_bad) | none => am_bad : aI).1; rw [hk]; exact Nat.le_of_ble_eq_true rfl)
                exact am_i_mmax G hk2 hk1 f1 f2 hcc hss hdec h1.2 hL hR hS k
              · obtain ⟨f1, f2⟩ := hfr (by rw [hcd]; show 31 ≤ (match am_lk2 (am_m M).2.2.2.2.1 n am_lm with | some (md, m2) => (if md = 7 then (32, pc + 3, 0, 0, [n]) else if md = 8 then (41, pc + 3, m2, (md : Int), [n]) else if md = 9 ∨ md = 10 ∨ md = 11 then (33, pc + 3, md, 0, [n]) else if md = 1 ∨ md = 4 then (40, pc + 3, m2, (md : Int), [n]) else am_bad) | none => am_bad : aI).1; rw [hk]; exact Nat.le_of_ble_eq_true rfl)
                exact am_i_mmin G hk2 hk1 f1 f2 hcc hss hdec h1.2 hL hR hS k
              · obtain ⟨f1, f2⟩ := hfr (by rw [hcd]; show 31 ≤ (match am_lk2 (am_m M).2.2.2.2.1 n am_lm with | some (md, m2) => (if md = 7 then (32, pc + 3, 0, 0, [n]) else if md = 8 then (41, pc + 3, m2, (md : Int), [n]) else if md = 9 ∨ md = 10 ∨ md = 11 then (33, pc + 3, md, 0, [n]) else if md = 1 ∨ md = 4 then (40, pc + 3, m2, (md : Int), [n]) else am_bad) | none => am_bad : aI).1; rw [hk]; exact Nat.le_of_ble_eq_true rfl)
                exact am_i_mminl G hk2 hk1 f1 f2 hcc hss hdec h1.2 hL hR hS k
            · rw [if_neg h9] at h1
              by_cases h2 : md = 1 ∨ md = 4
              · rw [if_pos h2] at h1
                exact absurd h1.1 (by show ¬ 40 < 36; omega)
              · rw [if_neg h2] at h1
                exact am_no h1
    · exact am_no hh
  | invokevirtual n =>
    rcases len with _ | _ | _ | _ | len
    · exact am_no hh
    · exact am_no hh
    · exact am_no hh
    · have h1 : (match am_lk2 (am_m M).2.2.2.2.1 n am_lm with | some (md, m2) => (if md = 0 then (40, pc + 3, m2, (md : Int), [n]) else am_bad) | none => am_bad : aI).1 < 36 ∧ am_s1 (match am_lk2 (am_m M).2.2.2.2.1 n am_lm with | some (md, m2) => (if md = 0 then (40, pc + 3, m2, (md : Int), [n]) else am_bad) | none => am_bad) la st S = some c2 := hh
      cases hk : am_lk2 (am_m M).2.2.2.2.1 n am_lm with
      | none => rw [hk] at h1; exact am_no h1
      | some q =>
        obtain ⟨md, m2⟩ := q
        rw [hk] at h1
        obtain ⟨hk1, hk2⟩ := am_lk2E hk
        dsimp only at h1
        by_cases h0 : md = 0
        · rw [if_pos h0] at h1
          exact absurd h1.1 (by show ¬ 40 < 36; omega)
        · rw [if_neg h0] at h1
          exact am_no h1
    · exact am_no hh
  | ireturn =>
    rcases len with _ | _ | len
    · exact am_no hh
    · exact absurd hh.1 (by show ¬ 36 < 36; omega)
    · exact am_no hh
  | lreturn =>
    rcases len with _ | _ | len
    · exact am_no hh
    · exact absurd hh.1 (by show ¬ 36 < 36; omega)
    · exact am_no hh
  | areturn =>
    rcases len with _ | _ | len
    · exact am_no hh
    · exact absurd hh.1 (by show ¬ 36 < 36; omega)
    · exact am_no hh
  | return_ =>
    rcases len with _ | _ | len
    · exact am_no hh
    · exact absurd hh.1 (by show ¬ 36 < 36; omega)
    · exact am_no hh
  | _ => exact am_no hh
end AMS
