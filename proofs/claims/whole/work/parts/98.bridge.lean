/-! THE CLAIM OUT OF ONE WALK OF THE LAW'S BODY. Your part is whole_start (and what it stands on); all else here is the same for every law, but numbers. -/
def R_law : String := "FormSpellerLaw"
def lw_P (b : Addr) (xs : List Int32) (args : Array Value) (s : State) : Prop := args = #[.ref b] ∧ s.IntsAt b xs ∧ xs.length ≤ 2048 ∧ (Jvm.Cond.and given_1 narrow_1).before args s = true
def lw_Q (_ : Array Value) (s : State) (o : Outcome) (t : State) : Prop := o = .returned (some (.int 1)) ∧ Framed s o t [] 601024 7293034
def lw_Z (below : List Frame) (a : Array Value) (s : State) : State → Prop := fun t => ∃ o, t.status = .running ∧ Ended t below o ∧ lw_Q a s o t
/-- the law's own end, with 1 on the stack, nothing written that was there before, its room as the claim has it -/
theorem lw_ret {p : Program} {l : Launch} {e : Env} {s : State} {m : MethodId} {below : List Frame} {meth : Method} {c : Code} {b : Nat} (hx : p.tables.exec = Jvm.exec) (hb : c.code = code) (hr : meth.sig.returnType = ret) (hlocks : meth.locks = false) {pc : Nat} {H : Heap} {ls : Array Slot} (hdg : decode code pc = .ok (.ireturn, 1)) : W p l e room_1 s m #[Value.ref b] below meth c H [] 601024 7293034 (lw_Z below #[Value.ref b] s) (F0 m pc ls [.int 1]) := by
  intro T hT X
  obtain ⟨fs, hret, hrun, hended, hW, hframe⟩ := X.leave (v := some (.int 1)) (hlocks := hlocks) (fun h => by rw [hr] at h; cases h)
  have hmeth' : T.vm.method? m = some meth := X.method'
  refine ⟨T.setFrames fs, ?_, .returned (some (.int 1)), hrun, hended, rfl, ⟨_, rfl⟩, hW, hframe⟩
  jvm_step X.here [X.here.top, hx, hb, hdg, hmeth', hr, ret, narrow_b1]
  (try refine ⟨rfl, ?_⟩); (try refine ⟨rfl, ?_⟩)
  first | (intro acts; rw [hret _ acts rfl rfl rfl]) | rw [hret _ _ rfl rfl rfl]
  exact Steps.refl _
/-- what holds at the law's entry: the machine, the code, the tables' words (any of lw_tbl by 'hts w (by decide +kernel)'), the script of L ints xs at the cell b, what the Statement gives of the start (any of its parts by flat_of_before) -/
def lw_At (p : Program) (s : State) (m : MethodId) (meth : Method) (c : Code) (b L : Nat) (xs : Nat → Int32) : Prop :=
  p.tables.exec = Jvm.exec ∧ c.code = code ∧ meth.sig.returnType = ret ∧ c.maxLocals = 8 ∧ s.vm.findClass R_law = some m.cls ∧ (∀ w ∈ lw_tbl, w.before #[Value.ref b] s = true) ∧ va_X b L xs s s.heap ∧ b < s.heap.size ∧ meth.locks = false ∧ (Jvm.Cond.and given_1 narrow_1).before #[Value.ref b] s = true

/-- the abstract memory at the law's start: the script alone -/
def S0 (L : Nat) (xs : Nat → Int32) : aS := (fun a j => if a = 0 then (xs j).toInt else 0, fun _ => (23, L), 1, 0)
theorem br_arr {s : State} {args : Array Value} {ty : FieldType} (h : (Cond.arrayClass ty).before args s = true) (hty : ty = .int ∨ ty = .long ∨ ty = .byte) : ∃ cA, ArrOfT s cA ty ∧ va_RA s cA ty := by
  obtain ⟨cA, kA, comp, h1, h2, h3⟩ := Cond.arrayClass_spec h
  refine ⟨cA, fun n z => ⟨fun k h => (by cases h), kA, h2, comp, h3⟩, ?_⟩
  rcases hty with rfl | rfl | rfl <;> exact h1
theorem br_K {s : State} {args : Array Value} (hts : ∀ w ∈ lw_tbl, w.before args s = true) : ∃ (D : va_G) (cI cJ cB : ClassId), va_K D am_cl [(cI, .int), (cJ, .long), (cB, .byte)] s := by
  have htb : ∀ w ∈ am_tb, w.before args s = true := fun w hw => hts w (List.mem_filter.mp hw).1
  have hk : ∀ c : Nat, ∃ r : ClassId × (Nat → Nat), ∀ q, am_cl[c]? = some q → u_Kn s q.1 q.2.1 q.2.2 r.1 r.2 := by
    intro c
    by_cases h13 : c < 13
    · obtain ⟨cC, iS, h⟩ := u_known (n := am_nF c) htb (am_lay c h13) (htb _ (am_insw h13).1)
      refine ⟨(cC, iS), fun q hq => ?_⟩
      rw [am_cl_at c h13] at hq
      cases hq
      exact h
    · by_cases h14 : c = 13
      · subst h14
        obtain ⟨cC, iS, h⟩ := u_known (C := am_N) (T := am_Nt) (N := 0) (n := 6) htb (fun w hw => by cases hw) (htb _ (am_at0 _ (by decide +kernel)))
        refine ⟨(cC, iS), fun q hq => ?_⟩
        rw [am_cl13] at hq
        cases hq
        exact h
      · refine ⟨(0, fun _ => 0), fun q hq => ?_⟩
        have hc : c < 14 := (List.getElem?_eq_some_iff.mp hq).1
        omega
  obtain ⟨f, hf⟩ := Classical.axiomOfChoice hk
  obtain ⟨cI, hI⟩ := br_arr (htb _ am_ac_int) (Or.inl rfl)
  obtain ⟨cJ, hJ⟩ := br_arr (htb _ am_ac_long) (Or.inr (Or.inl rfl))
  obtain ⟨cB, hB⟩ := br_arr (htb _ am_ac_byte) (Or.inr (Or.inr rfl))
  refine ⟨(fun c => (f c).1, fun c => (f c).2), cI, cJ, cB, fun c q hq => hf c q hq, fun k q hq => ?_⟩
  match k, hq with
  | 0, hq => cases hq; exact hI
  | 1, hq => cases hq; exact hJ
  | 2, hq => cases hq; exact hB
theorem br_fi {k : Nat} {i : aI} {st : List aV} {S S2 : aS} {x : Int} (h : am_fi k i st S = some (some (0, x), S2)) : (∃ nx z w, i = (36, nx, 0, z, w)) ∧ st = [(0, x)] := by
  unfold am_fi at h
  split at h
  · split at h
    · split at h
      · cases h; exact ⟨⟨_, _, _, rfl⟩, rfl⟩
      · cases h
    · cases h
  · split at h
    · split at h <;> cases h
    · cases h
  · split at h
    · split at h <;> cases h
    · cases h
  · split at h
    · split at h <;> cases h
    · cases h
  · split at h <;> cases h
  · cases h
theorem br_Rel {b L : Nat} {xs : Nat → Int32} {D : va_G} {cI cJ cB : ClassId} {H : Heap} : am_Rel b H.size L xs D cI cJ cB (S0 L xs) H := by
  refine ⟨fun k q hq => ?_, rfl, Nat.le_refl _, rfl, fun j _ => ?_⟩
  · cases hq
  · show Int32.ofInt (if (0 : Nat) = 0 then (xs j).toInt else 0) = xs j
    rw [if_pos rfl]
    exact Int32.ofInt_toInt _
set_option maxHeartbeats 2000000 in
/-- the walk of the law's body out of a run of the abstract machine -/
theorem whole_of {p : Program} {e : Env} {s : State} {m : MethodId} {below : List Frame} {meth : Method} {c : Code} (l : Launch) (hflags : l.flags = flags0) {b L : Nat} {xs : Nat → Int32} (hlaw : ∃ (n d : Nat) (c2 : aC) (S2 : aS), d ≤ 1000 ∧ am_run n d 272 0 (am_en 272 [(2, 0)]) [] (S0 L xs) = some c2 ∧ am_fi 272 (am_cd 272 c2.1) c2.2.2.1 c2.2.2.2 = some (some (0, 1), S2) ∧ S2.2.2.1 ≤ 601025 ∧ S2.2.2.2 ≤ 7293034) (C0 : lw_At p s m meth c b L xs) : W p l e room_1 s m #[Value.ref b] below meth c s.heap [] 0 0 (lw_Z below #[Value.ref b] s) (entryFrame m ([Value.ref b] : List Value).toArray 8) := by
  obtain ⟨n, d, c2, S2, hd, hrun, hfi, ht1, ht2⟩ := hlaw
  obtain ⟨hx, hb, hr, hml, hown, hts, hX, hbl, hlocks, hgv⟩ := C0
  obtain ⟨D, cI, cJ, cB, hK⟩ := br_K hts
  have hflat := flat_of_before _ hgv
  have hZ : am_Zs s.heap.size s s.heap := by
    have hU : (Cond.laysStatic "java/lang/Throwable" "UNASSIGNED_STACK" "[Ljava/lang/StackTraceElement;").before #[Value.ref b] s = true := hts _ (List.mem_of_getElem? (i := 1351) (by decide +kernel))
    have hN : (Cond.laysStatic "java/lang/Throwable" "SUPPRESSED_SENTINEL" "Ljava/util/List;").before #[Value.ref b] s = true := hts _ (List.mem_of_getElem? (i := 1353) (by decide +kernel))
    have hI : (Cond.initialized "java/lang/Throwable").before #[Value.ref b] s = true := hts _ (List.mem_of_getElem? (i := 150) (by decide +kernel))
    have hrU : (Cond.isRef (.static "java/lang/Throwable" "UNASSIGNED_STACK" "[Ljava/lang/StackTraceElement;")).before #[Value.ref b] s = true := hflat _ (by decide +kernel)
    have hrN : (Cond.isRef (.static "java/lang/Throwable" "SUPPRESSED_SENTINEL" "Ljava/util/List;")).before #[Value.ref b] s = true := hflat _ (by decide +kernel)
    exact ⟨vx_Zqof hU hI hrU (fun a h1 h2 => by omega), vx_Zqof hN hI hrN (fun a h1 h2 => by omega)⟩
  have G : am_G b s.heap.size L xs D cI cJ cB p s m #[Value.ref b] meth c 272 := ⟨hx, hb, hml, hown, fun w hw => hts w (List.mem_filter.mp hw).1, hK, hX, hbl, Nat.le_refl _, fun hn => absurd hn (by decide +kernel), by omega, hZ⟩
  obtain ⟨lr, he, hL⟩ := am_entry (b := b) (sz := s.heap.size) (k := 272) (as := [(2, 0)]) (m := m) (Nat.le_of_ble_eq_true rfl)
  have he2 : entryFrame m ([Value.ref b] : List Value).toArray 8 = F0 m 0 lr [] := he
  rw [he2]
  have hfm := am_fi_mono hfi
  have hrm := am_run_mono _ _ _ _ _ _ _ _ hrun
  have f1 := hfm.1
  have f2 := hfm.2
  refine am_walk n p l e room_1 s m #[Value.ref b] below meth c s.heap [] 0 0 _ b s.heap.size L xs D cI cJ cB 272 0 (am_en 272 [(2, 0)]) [] lr (S0 L xs) c2 d hrun hflags G rfl ?_ ?_ hL br_Rel va_S.rf ?_
  · show 0 + (c2.2.2.2.2.2.1 - 1) ≤ 601024 ∧ 0 + (c2.2.2.2.2.2.2 - 0) ≤ 7293034
    omega
  · show d ≤ 2048 ∧ 60 * d ≤ 84000
    omega
  · intro lr2 H2 locs2 hL2 hR2 hS2
    refine va_forget (fun q hq => hS2.2.2 q hq) ?_
    refine W.widen (k := 601024) (n := 7293034) (by show 0 + (c2.2.2.2.2.2.1 - 1) ≤ 601024; omega) (by show 0 + (c2.2.2.2.2.2.2 - 0) ≤ 7293034; omega) ?_
    obtain ⟨⟨nx, z, w, hcd⟩, hst⟩ := br_fi hfi
    have hdec : decode (am_m 272).2.1 c2.1 = .ok (.ireturn, 1) := by
      rcases am_cdE hcd with ⟨-, hd1⟩ | ⟨h9, -⟩ | ⟨h9, -⟩ | ⟨h9, -⟩
      · exact hd1
      · cases h9
      · cases h9
      · cases h9
    rw [hst]
    exact lw_ret hx hb hr hlocks hdec
