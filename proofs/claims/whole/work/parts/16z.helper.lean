/-! The four helpers of the law. -/
section AMS
variable {p : Program} {l : Launch} {e : Env} {R : Room} {s : State} {m : MethodId} {args : Array Value} {below : List Frame} {meth : Method} {c : Code} {H : Heap} {locs : List Loc} {cells slots : Nat} {Q : State → Prop}
variable {b sz L : Nat} {xs : Nat → Int32} {D : va_G} {cI cJ cB : ClassId} {M pc : Nat} {la st : List aV} {lr : Array Slot} {S : aS} {c2 : aC}

theorem am_flt (hfl : l.flags = flags0) : l.stackTraces = false := by
  unfold Launch.stackTraces
  rw [hfl]
  decide +kernel
theorem am_b4_0 {o x : Int} : am_b4 o (some (0, x)) S = if am_at S o 21 = true ∧ 0 < (S.2.1 o.toNat).2 then some ((0, 0), am_up S o.toNat 0 (w32 x)) else none := rfl
theorem am_b4_1 {o x : Int} : am_b4 o (some (1, x)) S = if am_at S o 21 = true ∧ 0 < (S.2.1 o.toNat).2 then some ((0, 0), am_up S o.toNat 0 x) else none := rfl
theorem am_fi_ret {k : Nat} {i : aI} {tT : List aV} {ST S2 : aS} {r : Option aV} (h : am_fi k i tT ST = some (r, S2)) (h6 : ∀ x, r ≠ some (6, x)) {ty : FieldType} (hty : (am_m k).2.2.2.1 = some ty) : ∃ x, r = some (if ty = .long then 1 else if ty = .int then 0 else if ty = .boolean then 0 else 2, x) := by
  unfold am_fi at h
  split at h <;> (repeat' split at h) <;> first
    | (cases h; done)
    | (cases h; exact absurd rfl (h6 _))
    | (next hc => cases h; rw [hty] at hc; rcases hc with hc | hc; cases hc; exact ⟨_, rfl⟩; cases hc.1; exact ⟨_, rfl⟩)
    | (next hc => cases h; rw [hty] at hc; cases hc; exact ⟨_, rfl⟩)
    | (next hc => cases h; rw [hty] at hc; rcases hc.2 with hc | hc <;> (cases hc; exact ⟨_, rfl⟩))
    | (next hc => cases h; rw [hty] at hc; cases hc)
/-- a step that leaves the memory -/
theorem am_stS {i : aI} {pc2 : Nat} {la2 st2 : List aV} (G : am_G b sz L xs D cI cJ cB p s m args meth c M) (hC : s.heap.size + cells = sz + (S.2.2.1 - 1)) (hcr : cells ≤ R.cells ∧ slots ≤ R.slots) (hcd : am_cd M pc = i) (ho : i.1 < 31) (hs : am_s1 i la st S = some (pc2, la2, st2, S)) (hL : am_LR b sz lr (am_m M).2.2.1 la) (hR : am_Rel b sz L xs D cI cJ cB S H) (hS : va_S (fun q => sz ≤ q) s.heap H locs)
    (k : ∀ (lr2 : Array Slot) (H2 : Heap) (locs2 : List Loc), am_LR b sz lr2 (am_m M).2.2.1 la2 → am_Rel b sz L xs D cI cJ cB S H2 → va_S (fun q => sz ≤ q) s.heap H2 locs2 → W p l e R s m args below meth c H2 locs2 cells slots Q (F0 m pc2 lr2 (st2.map (am_cv b sz)))) : W p l e R s m args below meth c H locs cells slots Q (F0 m pc lr (st.map (am_cv b sz))) := by
  refine am_step (c2 := (pc2, la2, st2, S)) G hC ?_ (fun h31 => ?_) (by rw [hcd]; omega) (by rw [hcd]; exact hs) hL hR hS ?_
  · dsimp only
    rw [Nat.sub_self, Nat.sub_self]
    exact hcr
  · rw [hcd] at h31
    omega
  · intro lr2 H2 locs2 a1 a2 a3
    dsimp only at a1 a2 ⊢
    rw [Nat.sub_self, Nat.sub_self]
    exact k lr2 H2 locs2 a1 a2 a3

theorem am_hw_kept : Cond.codeWith (am_m 273).1 (am_m 273).2.1 (am_m 273).2.2.1 (am_m 273).2.2.2.1 [(0, 10, 13, 13)] ∈ am_tb := am_tbO (am_in_5 (List.mem_of_getElem? (show tables_1_5[226]? = _ from rfl))) rfl
set_option maxHeartbeats 2000000 in
theorem am_h_kept {n d : Nat} {a o p0 p1 : Int} {S2 S3 ST : aS} {pT : Nat} {lT tT : List aV} {r : Option aV} {v : aV} (hW : am_Walk n) (hfl : l.flags = flags0) (ha : am_at S a 11 = true) (ho : am_at S o 21 = true) (hrun : am_run n d 152 0 (am_en 152 [(2, a), (0, p0), (0, p1)]) [] S = some (pT, lT, tT, ST)) (hfi : am_fi 152 (am_cd 152 pT) tT ST = some (r, S2)) (hb4 : am_b4 o r S2 = some (v, S3)) : Met l (am_m 273).1 [Cond.codeWith (am_m 273).1 (am_m 273).2.1 (am_m 273).2.2.1 (am_m 273).2.2.2.1 [(0, 10, 13, 13)]] { frames := d + 7, cells := S3.2.2.1 - S.2.2.1, slots := S3.2.2.2 - S.2.2.2, locals := 60 * d + 420 } (am_Pc b sz L xs D cI cJ cB [(2, a), (0, p0), (0, p1), (2, o)] S) (am_Qc b sz L xs D cI cJ cB (some v) S3) (S3.2.2.1 - S.2.2.1) (S3.2.2.2 - S.2.2.2) (fun q => sz ≤ q) := by
  refine va_MetW (cc := (am_m 273).2.1) (maxL := (am_m 273).2.2.1) (ret := (am_m 273).2.2.2.1) (hh := [(0, 10, 13, 13)]) (by decide +kernel) rfl ?_
  intro p e s m args below meth c s₁ B hml hv
  obtain ⟨rfl, hTB, hK, hX, hb, hR, hZ⟩ := hv
  have htab : c.exceptionTable.toList = tableOf [(0, 10, 13, 13)] := vx_table (x := yL_law) B (am_vm (s := s) am_hw_kept rfl (hTB _ am_hw_kept))
  have h1 := hR.2.2.1
  have hsz : sz ≤ s.heap.size := by rw [hR.2.1]; omega
  obtain ⟨a0, a1, a2, a3⟩ := am_atE ha
  obtain ⟨o0, o1, o2, o3⟩ := am_atE ho
  have hown : s.vm.findClass RL = some m.cls := findClass_of_methodNamed B.named
  have G : am_G b sz L xs D cI cJ cB p s m (List.map (am_cv b sz) [(2, a), (0, p0), (0, p1), (2, o)]).toArray meth c 273 := ⟨B.exec, B.bytes, hml, hown, fun w hw => am_vm (s := s) hw rfl (hTB w hw), hK, hX, hb, hsz, fun hn => (name_of_methodNamed B.named B.method).1.trans hn, by omega, hZ⟩
  obtain ⟨lr, he, hL⟩ := am_entry (b := b) (sz := sz) (k := 273) (as := [(2, a), (0, p0), (0, p1), (2, o)]) (m := m) (Nat.le_of_ble_eq_true rfl)
  rw [he]
  have hr := B.returns
  have hlocks := B.notSynchronized
  have m1 := am_run_mono _ _ _ _ _ _ _ _ hrun
  have m2 := am_fi_mono hfi
  have m3 := am_b4_mono hb4
  dsimp only at m1
  have n1 := m1.1
  have n2 := m1.2
  have n3 := m2.1
  have n4 := m2.2
  have n5 := m3.1
  have n6 := m3.2
  have hC : s.heap.size + 0 = sz + (S.2.2.1 - 1) := by rw [hR.2.1]; rfl
  have hL : am_LR b sz lr (am_m 273).2.2.1 [(2, a), (0, p0), (0, p1), (2, o), (9, 0)] := hL
  have hS : va_S (fun q => sz ≤ q) s.heap s.heap [] := va_S.rf
  refine am_stS (st := []) (st2 := [(2, o)]) (la2 := [(2, a), (0, p0), (0, p1), (2, o), (9, 0)]) G hC ⟨Nat.zero_le _, Nat.zero_le _⟩ (show am_cd 273 0 = (2, 1, 3, 2, []) by decide +kernel) (Nat.le_of_ble_eq_true rfl) (by simp only [am_s1]; exact if_pos ⟨rfl, fun _ => by omega⟩) hL hR hS ?_
  intro lr H locs hL hR hS
  refine am_stS (st := [(2, o)]) (st2 := [(0, 0), (2, o)]) (la2 := [(2, a), (0, p0), (0, p1), (2, o), (9, 0)]) G hC ⟨Nat.zero_le _, Nat.zero_le _⟩ (show am_cd 273 1 = (0, 2, 0, 0, []) by decide +kernel) (Nat.le_of_ble_eq_true rfl) rfl hL hR hS ?_
  intro lr H locs hL hR hS
  refine am_stS (st := [(0, 0), (2, o)]) (st2 := [(2, a), (0, 0), (2, o)]) (la2 := [(2, a), (0, p0), (0, p1), (2, o), (9, 0)]) G hC ⟨Nat.zero_le _, Nat.zero_le _⟩ (show am_cd 273 2 = (2, 3, 0, 2, []) by decide +kernel) (Nat.le_of_ble_eq_true rfl) (by simp only [am_s1]; exact if_pos ⟨rfl, fun _ => by omega⟩) hL hR hS ?_
  intro lr H locs hL hR hS
  refine am_stS (st := [(2, a), (0, 0), (2, o)]) (st2 := [(0, p0), (2, a), (0, 0), (2, o)]) (la2 := [(2, a), (0, p0), (0, p1), (2, o), (9, 0)]) G hC ⟨Nat.zero_le _, Nat.zero_le _⟩ (show am_cd 273 3 = (2, 4, 1, 0, []) by decide +kernel) (Nat.le_of_ble_eq_true rfl) rfl hL hR hS ?_
  intro lr H locs hL hR hS
  refine am_stS (st := [(0, p0), (2, a), (0, 0), (2, o)]) (st2 := [(0, p1), (0, p0), (2, a), (0, 0), (2, o)]) (la2 := [(2, a), (0, p0), (0, p1), (2, o), (9, 0)]) G hC ⟨Nat.zero_le _, Nat.zero_le _⟩ (show am_cd 273 4 = (2, 5, 2, 0, []) by decide +kernel) (Nat.le_of_ble_eq_true rfl) rfl hL hR hS ?_
  intro lr H locs hL hR hS
  have hlk : am_lk ((am_m 273).2.2.2.2.1 * 1000 + 7) am_lm = some (0, 152) := by decide +kernel
  obtain ⟨pls, hps⟩ := am_lmw hlk
  have hM := am_vmet (b := b) (sz := sz) (L := L) (xs := xs) (D := D) (cI := cI) (cJ := cJ) (cB := cB) (l := l) hW hfl (am_flt hfl) (by decide) hrun hfi rfl
  have hfix : CallFix p m c (am_m 273).2.1 (am_m 273).2.2.1 s (List.map (am_cv b sz) [(2, a), (0, p0), (0, p1), (2, o)]).toArray am_tb (am_own (am_m 273).2.2.2.2.1) := ⟨G.1, G.2.1, G.2.2.1, G.2.2.2.1, G.2.2.2.2.1⟩
  have hpre := am_pre (as := [(2, a), (0, p0), (0, p1)]) G hR hS
  unfold am_mw at hps
  split at hps <;> first | (next e1 => cases e1; done) | (cases hps; done) | skip
  next e1 =>
  cases e1
  simp only [Bool.and_eq_true, decide_eq_true_eq] at hps
  obtain ⟨w0, w1, w2, w3, w4, w5⟩ := hps
  have hl : Cond.methodLink (am_own (am_m 273).2.2.2.2.1) 7 (am_m 152).1 ∈ am_tb := am_wAt_mem w0
  have heq := am_ws_get (b := b) (sz := sz) (cI := cI) (cJ := cJ) (cB := cB) a1 a2
  obtain ⟨rr, g1, cell, q1, q2, q3, q4⟩ := (show va_at D am_cl (sz + (am_pj a.toNat - 1), .inr (_, _)) H by rw [← am_ceO a3 (by decide)]; exact hR.1 _ _ heq)
  have hfc := (G.2.2.2.2.2.1.1 _ _ (am_cl_at 11 (by decide))).2.1
  have hpv : PreV s H (am_own 11) (sz + (am_pj a.toNat - 1)) (am_Pc b sz L xs D cI cJ cB [(2, a), (0, p0), (0, p1)] S) (List.map (am_cv b sz) [(0, p0), (0, p1)]) := by
    refine ⟨am_blind, ⟨cell, q1, by rw [q3]; rfl, by rw [q2]; exact hfc⟩, fun U hU hw => ?_⟩
    have := hpre U hU hw
    rw [List.map_cons, am_ref a0] at this
    exact this
  obtain ⟨i1, i2, i3, i4, i5, i6, i7⟩ := am_m1E (k := 152) (by decide)
  have hcode := am_code (k := 152) (by decide)
  have hcw : CallW (headSpec [Cond.codeWith (am_m 273).1 (am_m 273).2.1 (am_m 273).2.2.1 (am_m 273).2.2.2.1 [(0, 10, 13, 13)]] { frames := d + 7, cells := S3.2.2.1 - S.2.2.1, slots := S3.2.2.2 - S.2.2.2, locals := 60 * d + 420 }).room s (List.map (am_cv b sz) [(2, a), (0, p0), (0, p1), (2, o)]).toArray (am_own (am_m 273).2.2.2.2.1) (am_own 11) 7 (am_m 152).1 (am_m 152).2.1 (am_m 152).2.2.1 (am_m 152).2.2.2.1 (am_wl 152) (am_rv d S S2) (S2.2.2.1 - S.2.2.1) (S2.2.2.2 - S.2.2.2) 2 := by
    refine ⟨⟨rfl, rfl, Nat.le_refl _, ?_, fun w hw a' U hW2 => ?_, List.mem_cons_self, G.2.2.2.2.1 _ hcode, G.2.2.2.2.1 _ i1, ⟨i4, i5⟩, fun sig hs => ?_, G.2.2.2.2.1 _ hl⟩, G.2.2.2.2.1 _ (am_wAt_mem w1), G.2.2.2.2.1 _ (am_wAt_mem w2)⟩
    · show 8 + ((am_m 152).2.2.1 + 11) + (60 * d + 360) ≤ 60 * d + 420
      omega
    · rw [List.mem_singleton.mp hw]
      exact am_mv hcode hW2 (G.2.2.2.2.1 _ hcode)
    · unfold am_np at w3
      rw [hs] at w3
      exact (Option.some.inj w3).symm
  have hrunV := vx_runV (p := p) (l := l) (e := e) (below := below) (meth := meth) (locs := locs) (cells := 0) (slots := 0) (g := F0 m 5 lr (List.map (am_cv b sz) [(0, p1), (0, p0), (2, a), (0, 0), (2, o)])) (rest := List.map (am_cv b sz) [(0, 0), (2, o)]) hfix hM hcw hpv rfl rfl hL.2.1 (by
    show List.map (am_cv b sz) [(0, p1), (0, p0), (2, a), (0, 0), (2, o)] = _
    simp only [List.map_cons, List.map_nil, am_ref a0]
    rfl) (am_room8 (Nat.le_of_ble_eq_true rfl)) (show decode (am_m 273).2.1 5 = .ok (.invokevirtual 7, 3) by decide +kernel) (by
    show 0 + (S2.2.2.1 - S.2.2.1) ≤ S3.2.2.1 - S.2.2.1 ∧ 0 + (S2.2.2.2 - S.2.2.2) ≤ S3.2.2.2 - S.2.2.2
    omega)
  intro T hT X
  rcases hrunV T hT X with ⟨v0, st₀, t, T', L1, h0, X', hL1, e1, e2, ⟨h6, hv0, hrel, hz, hkp⟩, st⟩ | ⟨q, st₀, t, T', L1, E, ce, h0, X', hL1, e1, e2, ⟨rfl, ⟨x6, rfl⟩, hrel, hz, hkp⟩, hce, hcv, hcc, st⟩
  · rw [h0] at hz hkp
    have hR2 : am_Rel b sz L xs D cI cJ cB S2 T'.heap := by rw [e1]; exact hrel
    have hS2 : va_S (fun q => sz ≤ q) s.heap T'.heap (locs ++ L1) := ⟨Nat.le_trans hS.1 (by rw [e1]; exact hz), fun q h1 h2 => by rw [e1, hkp q (Nat.lt_of_lt_of_le h1 hS.1) h2]; exact hS.2.1 q h1 h2, fun q hq => by
      rcases List.mem_append.mp hq with h | h
      · exact hS.2.2 q h
      · exact hL1 q h⟩
    have hrx : ∃ x, r = some (0, x) ∧ v = (0, 0) ∧ S3 = am_up S2 o.toNat 0 (w32 x) ∧ am_at S2 o 21 = true ∧ 0 < (S2.2.1 o.toNat).2 := by
      have hret := am_fi_ret hfi h6 (show (am_m 152).2.2.2.1 = some .int by decide +kernel)
      obtain ⟨x, hx⟩ := hret
      have hx : r = some (0, x) := hx
      subst hx
      rw [am_b4_0] at hb4
      split at hb4
      · next hc =>
        cases hb4
        exact ⟨x, rfl, rfl, rfl, hc.1, hc.2⟩
      · cases hb4
    obtain ⟨x, rfl, rfl, rfl, ho2, hlen⟩ := hrx
    have hv1 : v0 = some (am_cv b sz (0, x)) := by injection hv0
    subst hv1
    have hC2 : s.heap.size + (S2.2.2.1 - S.2.2.1) = sz + (S2.2.2.1 - 1) := by omega
    have key : W p l e (headSpec [Cond.codeWith (am_m 273).1 (am_m 273).2.1 (am_m 273).2.2.1 (am_m 273).2.2.2.1 [(0, 10, 13, 13)]] { frames := d + 7, cells := S2.2.2.1 - S.2.2.1, slots := S2.2.2.2 - S.2.2.2, locals := 60 * d + 420 }).room s m (List.map (am_cv b sz) [(2, a), (0, p0), (0, p1), (2, o)]).toArray below meth c T'.heap (locs ++ L1) (S2.2.2.1 - S.2.2.1) (S2.2.2.2 - S.2.2.2) (MQ below (am_Qc b sz L xs D cI cJ cB (some (0, 0)) (am_up S2 o.toNat 0 (w32 x))) (List.map (am_cv b sz) [(2, a), (0, p0), (0, p1), (2, o)]).toArray s (S2.2.2.1 - S.2.2.1) (S2.2.2.2 - S.2.2.2) (fun q => sz ≤ q)) (F0 m 8 lr (List.map (am_cv b sz) [(0, x), (0, 0), (2, o)])) := by
      generalize T'.heap = H5 at hR2 hS2 ⊢
      generalize locs ++ L1 = locs5 at hS2 ⊢
      refine am_stS (S := S2) (st := [(0, x), (0, 0), (2, o)]) (st2 := [(1, w32 x), (0, 0), (2, o)]) (la2 := [(2, a), (0, p0), (0, p1), (2, o), (9, 0)]) G hC2 ⟨Nat.le_refl _, Nat.le_refl _⟩ (show am_cd 273 8 = (8, 9, 0, 0, []) by decide +kernel) (Nat.le_of_ble_eq_true rfl) rfl hL hR2 hS2 ?_
      intro lr H5 locs5 hL hR2 hS2
      refine am_step (S := S2) (st := [(1, w32 x), (0, 0), (2, o)]) (c2 := (10, [(2, a), (0, p0), (0, p1), (2, o), (9, 0)], [], am_up S2 o.toNat 0 (w32 x))) G hC2 (by simp only [am_up, Nat.sub_self, Nat.add_zero]; exact ⟨Nat.le_refl _, Nat.le_refl _⟩) (fun h31 => absurd h31 (by rw [show am_cd 273 9 = (25, 10, 0, 0, []) by decide +kernel]; exact Nat.not_le_of_lt (Nat.le_of_ble_eq_true rfl))) (by rw [show am_cd 273 9 = (25, 10, 0, 0, []) by decide +kernel]; exact Nat.le_of_ble_eq_true rfl) (by
        rw [show am_cd 273 9 = (25, 10, 0, 0, []) by decide +kernel]
        simp only [am_s1]
        rw [if_pos ⟨by unfold am_ix; simp only [Bool.and_eq_true, decide_eq_true_eq]; exact ⟨by decide, by show (0 : Int) < _; omega⟩, ho2⟩]
        rfl) hL hR2 hS2 ?_
      intro lr H5 locs5 hL hR2 hS2
      dsimp only at hL hR2 ⊢
      rw [show (am_up S2 o.toNat 0 (w32 x)).2 = S2.2 from rfl, Nat.sub_self, Nat.sub_self, Nat.add_zero, Nat.add_zero]
      have hC3 : s.heap.size + (S2.2.2.1 - S.2.2.1) = sz + ((am_up S2 o.toNat 0 (w32 x)).2.2.1 - 1) := hC2
      refine am_stS (S := am_up S2 o.toNat 0 (w32 x)) (st := []) (st2 := []) (la2 := [(2, a), (0, p0), (0, p1), (2, o), (9, 0)]) G hC3 ⟨Nat.le_refl _, Nat.le_refl _⟩ (show am_cd 273 10 = (12, 17, 0, 0, []) by decide +kernel) (Nat.le_of_ble_eq_true rfl) rfl hL hR2 hS2 ?_
      intro lr H5 locs5 hL hR2 hS2
      refine am_stS (S := am_up S2 o.toNat 0 (w32 x)) (st := []) (st2 := [(0, 0)]) (la2 := [(2, a), (0, p0), (0, p1), (2, o), (9, 0)]) G hC3 ⟨Nat.le_refl _, Nat.le_refl _⟩ (show am_cd 273 17 = (0, 18, 0, 0, []) by decide +kernel) (Nat.le_of_ble_eq_true rfl) rfl hL hR2 hS2 ?_
      intro lr H5 locs5 hL hR2 hS2
      exact am_fin (tT := [(0, 0)]) (pT := 18) (k := 273) B.exec B.bytes hr hlocks (by rw [show am_cd 273 18 = (36, 19, 0, 0, []) by decide +kernel]; rfl) (fun x h9 => (by cases h9)) hR2 hS2
    have X2 := X'
    rw [Nat.zero_add, Nat.zero_add] at X2
    obtain ⟨t2, k1, k2⟩ := key T' rfl X2
    exact ⟨t2, st t2 k1, k2⟩
  · rw [h0] at hz hkp
    have hb5 : v = (0, 1) ∧ S3 = S2 := by
      unfold am_b4 at hb4
      cases hb4
      exact ⟨rfl, rfl⟩
    obtain ⟨rfl, rfl⟩ := hb5
    have hR2 : am_Rel b sz L xs D cI cJ cB S3 T'.heap := by rw [e1]; exact hrel
    have hS2 : va_S (fun q => sz ≤ q) s.heap T'.heap (locs ++ L1) := ⟨Nat.le_trans hS.1 (by rw [e1]; exact hz), fun q h1 h2 => by rw [e1, hkp q (Nat.lt_of_lt_of_le h1 hS.1) h2]; exact hS.2.1 q h1 h2, fun q hq => by
      rcases List.mem_append.mp hq with h | h
      · exact hS.2.2 q h
      · exact hL1 q h⟩
    have key : vx_W p l e (headSpec [Cond.codeWith (am_m 273).1 (am_m 273).2.1 (am_m 273).2.2.1 (am_m 273).2.2.2.1 [(0, 10, 13, 13)]] { frames := d + 7, cells := S3.2.2.1 - S.2.2.1, slots := S3.2.2.2 - S.2.2.2, locals := 60 * d + 420 }).room s m (List.map (am_cv b sz) [(2, a), (0, p0), (0, p1), (2, o)]).toArray below meth c T'.heap (locs ++ L1) (S3.2.2.1 - S.2.2.1) (S3.2.2.2 - S.2.2.2) (MQ below (am_Qc b sz L xs D cI cJ cB (some (0, 1)) S3) (List.map (am_cv b sz) [(2, a), (0, p0), (0, p1), (2, o)]).toArray s (S3.2.2.1 - S.2.2.1) (S3.2.2.2 - S.2.2.2) (fun q => sz ≤ q)) (F0 m 5 lr (List.map (am_cv b sz) [(0, 0), (2, o)])) q := by
      refine vx_catch (own := RL) (name := am_N) (E := am_N) (ce := ce) hown [] ((tableOf [(0, 10, 13, 13)]).getD 0 default) [] (by rw [htab]; rfl) (fun z hz => nomatch hz) (by decide +kernel) (by decide +kernel) (G.2.2.2.2.1 _ (am_tbO (by decide +kernel) rfl)) (G.2.2.2.2.1 _ (am_tbO (by decide +kernel) rfl)) (by rw [e1]; exact hce) hcv hcc ?_
      refine lv_astore (x := q) G.1 G.2.1 (show decode (am_m 273).2.1 13 = .ok (.astore 4, 2) by decide +kernel) hL.2 (by decide +kernel) rfl (fun lr2 hn => ?_)
      refine lv_iconst (v := 1) G.1 G.2.1 (show decode (am_m 273).2.1 15 = .ok (.iconst 1, 1) by decide +kernel) rfl ?_
      exact W.iret (v := 1) B.exec B.bytes hr (fun t2 ht hw => ⟨rfl, by rw [ht]; exact hR2, hS2.F ht⟩) hS2.2.2 (show decode (am_m 273).2.1 16 = .ok (.ireturn, 1) by decide +kernel)
    have X2 := X'
    rw [Nat.zero_add, Nat.zero_add] at X2
    obtain ⟨t2, k1, k2⟩ := key T' rfl X2
    exact ⟨t2, st.trans k1, k2⟩
theorem am_hw_side : Cond.codeWith (am_m 274).1 (am_m 274).2.1 (am_m 274).2.2.1 (am_m 274).2.2.2.1 [(0, 12, 15, 13)] ∈ am_tb := am_tbO (am_in_6 (List.mem_of_getElem? (show tables_1_6[59]? = _ from rfl))) rfl
set_option maxHeartbeats 2000000 in
theorem am_h_side {n d : Nat} {a o p0 p1 p2 : Int} {S2 S3 ST : aS} {pT : Nat} {lT tT : List aV} {r : Option aV} {v : aV} (hW : am_Walk n) (hfl : l.flags = flags0) (ha : am_at S a 11 = true) (ho : am_at S o 21 = true) (hrun : am_run n d 153 0 (am_en 153 [(2, a), (0, p0), (0, p1), (0, p2)]) [] S = some (pT, lT, tT, ST)) (hfi : am_fi 153 (am_cd 153 pT) tT ST = some (r, S2)) (hb4 : am_b4 o r S2 = some (v, S3)) : Met l (am_m 274).1 [Cond.codeWith (am_m 274).1 (am_m 274).2.1 (am_m 274).2.2.1 (am_m 274).2.2.2.1 [(0, 12, 15, 13)]] { frames := d + 7, cells := S3.2.2.1 - S.2.2.1, slots := S3.2.2.2 - S.2.2.2, locals := 60 * d + 420 } (am_Pc b sz L xs D cI cJ cB [(2, a), (0, p0), (0, p1), (0, p2), (2, o)] S) (am_Qc b sz L xs D cI cJ cB (some v) S3) (S3.2.2.1 - S.2.2.1) (S3.2.2.2 - S.2.2.2) (fun q => sz ≤ q) := by
  refine va_MetW (cc := (am_m 274).2.1) (maxL := (am_m 274).2.2.1) (ret := (am_m 274).2.2.2.1) (hh := [(0, 12, 15, 13)]) (by decide +kernel) rfl ?_
  intro p e s m args below meth c s₁ B hml hv
  obtain ⟨rfl, hTB, hK, hX, hb, hR, hZ⟩ := hv
  have htab : c.exceptionTable.toList = tableOf [(0, 12, 15, 13)] := vx_table (x := yL_law) B (am_vm (s := s) am_hw_side rfl (hTB _ am_hw_side))
  have h1 := hR.2.2.1
  have hsz : sz ≤ s.heap.size := by rw [hR.2.1]; omega
  obtain ⟨a0, a1, a2, a3⟩ := am_atE ha
  obtain ⟨o0, o1, o2, o3⟩ := am_atE ho
  have hown : s.vm.findClass RL = some m.cls := findClass_of_methodNamed B.named
  have G : am_G b sz L xs D cI cJ cB p s m (List.map (am_cv b sz) [(2, a), (0, p0), (0, p1), (0, p2), (2, o)]).toArray meth c 274 := ⟨B.exec, B.bytes, hml, hown, fun w hw => am_vm (s := s) hw rfl (hTB w hw), hK, hX, hb, hsz, fun hn => (name_of_methodNamed B.named B.method).1.trans hn, by omega, hZ⟩
  obtain ⟨lr, he, hL⟩ := am_entry (b := b) (sz := sz) (k := 274) (as := [(2, a), (0, p0), (0, p1), (0, p2), (2, o)]) (m := m) (Nat.le_of_ble_eq_true rfl)
  rw [he]
  have hr := B.returns
  have hlocks := B.notSynchronized
  have m1 := am_run_mono _ _ _ _ _ _ _ _ hrun
  have m2 := am_fi_mono hfi
  have m3 := am_b4_mono hb4
  dsimp only at m1
  have n1 := m1.1
  have n2 := m1.2
  have n3 := m2.1
  have n4 := m2.2
  have n5 := m3.1
  have n6 := m3.2
  have hC : s.heap.size + 0 = sz + (S.2.2.1 - 1) := by rw [hR.2.1]; rfl
  have hL : am_LR b sz lr (am_m 274).2.2.1 [(2, a), (0, p0), (0, p1), (0, p2), (2, o), (9, 0)] := hL
  have hS : va_S (fun q => sz ≤ q) s.heap s.heap [] := va_S.rf
  refine am_stS (st := []) (st2 := [(2, o)]) (la2 := [(2, a), (0, p0), (0, p1), (0, p2), (2, o), (9, 0)]) G hC ⟨Nat.zero_le _, Nat.zero_le _⟩ (show am_cd 274 0 = (2, 2, 4, 2, []) by decide +kernel) (Nat.le_of_ble_eq_true rfl) (by simp only [am_s1]; exact if_pos ⟨rfl, fun _ => by omega⟩) hL hR hS ?_
  intro lr H locs hL hR hS
  refine am_stS (st := [(2, o)]) (st2 := [(0, 0), (2, o)]) (la2 := [(2, a), (0, p0), (0, p1), (0, p2), (2, o), (9, 0)]) G hC ⟨Nat.zero_le _, Nat.zero_le _⟩ (show am_cd 274 2 = (0, 3, 0, 0, []) by decide +kernel) (Nat.le_of_ble_eq_true rfl) rfl hL hR hS ?_
  intro lr H locs hL hR hS
  refine am_stS (st := [(0, 0), (2, o)]) (st2 := [(2, a), (0, 0), (2, o)]) (la2 := [(2, a), (0, p0), (0, p1), (0, p2), (2, o), (9, 0)]) G hC ⟨Nat.zero_le _, Nat.zero_le _⟩ (show am_cd 274 3 = (2, 4, 0, 2, []) by decide +kernel) (Nat.le_of_ble_eq_true rfl) (by simp only [am_s1]; exact if_pos ⟨rfl, fun _ => by omega⟩) hL hR hS ?_
  intro lr H locs hL hR hS
  refine am_stS (st := [(2, a), (0, 0), (2, o)]) (st2 := [(0, p0), (2, a), (0, 0), (2, o)]) (la2 := [(2, a), (0, p0), (0, p1), (0, p2), (2, o), (9, 0)]) G hC ⟨Nat.zero_le _, Nat.zero_le _⟩ (show am_cd 274 4 = (2, 5, 1, 0, []) by decide +kernel) (Nat.le_of_ble_eq_true rfl) rfl hL hR hS ?_
  intro lr H locs hL hR hS
  refine am_stS (st := [(0, p0), (2, a), (0, 0), (2, o)]) (st2 := [(0, p1), (0, p0), (2, a), (0, 0), (2, o)]) (la2 := [(2, a), (0, p0), (0, p1), (0, p2), (2, o), (9, 0)]) G hC ⟨Nat.zero_le _, Nat.zero_le _⟩ (show am_cd 274 5 = (2, 6, 2, 0, []) by decide +kernel) (Nat.le_of_ble_eq_true rfl) rfl hL hR hS ?_
  intro lr H locs hL hR hS
  refine am_stS (st := [(0, p1), (0, p0), (2, a), (0, 0), (2, o)]) (st2 := [(0, p2), (0, p1), (0, p0), (2, a), (0, 0), (2, o)]) (la2 := [(2, a), (0, p0), (0, p1), (0, p2), (2, o), (9, 0)]) G hC ⟨Nat.zero_le _, Nat.zero_le _⟩ (show am_cd 274 6 = (2, 7, 3, 0, []) by decide +kernel) (Nat.le_of_ble_eq_true rfl) rfl hL hR hS ?_
  intro lr H locs hL hR hS
  have hlk : am_lk ((am_m 274).2.2.2.2.1 * 1000 + 15) am_lm = some (0, 153) := by decide +kernel
  obtain ⟨pls, hps⟩ := am_lmw hlk
  have hM := am_vmet (b := b) (sz := sz) (L := L) (xs := xs) (D := D) (cI := cI) (cJ := cJ) (cB := cB) (l := l) hW hfl (am_flt hfl) (by decide) hrun hfi rfl
  have hfix : CallFix p m c (am_m 274).2.1 (am_m 274).2.2.1 s (List.map (am_cv b sz) [(2, a), (0, p0), (0, p1), (0, p2), (2, o)]).toArray am_tb (am_own (am_m 274).2.2.2.2.1) := ⟨G.1, G.2.1, G.2.2.1, G.2.2.2.1, G.2.2.2.2.1⟩
  have hpre := am_pre (as := [(2, a), (0, p0), (0, p1), (0, p2)]) G hR hS
  unfold am_mw at hps
  split at hps <;> first | (next e1 => cases e1; done) | (cases hps; done) | skip
  next e1 =>
  cases e1
  simp only [Bool.and_eq_true, decide_eq_true_eq] at hps
  obtain ⟨w0, w1, w2, w3, w4, w5⟩ := hps
  have hl : Cond.methodLink (am_own (am_m 274).2.2.2.2.1) 15 (am_m 153).1 ∈ am_tb := am_wAt_mem w0
  have heq := am_ws_get (b := b) (sz := sz) (cI := cI) (cJ := cJ) (cB := cB) a1 a2
  obtain ⟨rr, g1, cell, q1, q2, q3, q4⟩ := (show va_at D am_cl (sz + (am_pj a.toNat - 1), .inr (_, _)) H by rw [← am_ceO a3 (by decide)]; exact hR.1 _ _ heq)
  have hfc := (G.2.2.2.2.2.1.1 _ _ (am_cl_at 11 (by decide))).2.1
  have hpv : PreV s H (am_own 11) (sz + (am_pj a.toNat - 1)) (am_Pc b sz L xs D cI cJ cB [(2, a), (0, p0), (0, p1), (0, p2)] S) (List.map (am_cv b sz) [(0, p0), (0, p1), (0, p2)]) := by
    refine ⟨am_blind, ⟨cell, q1, by rw [q3]; rfl, by rw [q2]; exact hfc⟩, fun U hU hw => ?_⟩
    have := hpre U hU hw
    rw [List.map_cons, am_ref a0] at this
    exact this
  obtain ⟨i1, i2, i3, i4, i5, i6, i7⟩ := am_m1E (k := 153) (by decide)
  have hcode := am_code (k := 153) (by decide)
  have hcw : CallW (headSpec [Cond.codeWith (am_m 274).1 (am_m 274).2.1 (am_m 274).2.2.1 (am_m 274).2.2.2.1 [(0, 12, 15, 13)]] { frames := d + 7, cells := S3.2.2.1 - S.2.2.1, slots := S3.2.2.2 - S.2.2.2, locals := 60 * d + 420 }).room s (List.map (am_cv b sz) [(2, a), (0, p0), (0, p1), (0, p2), (2, o)]).toArray (am_own (am_m 274).2.2.2.2.1) (am_own 11) 15 (am_m 153).1 (am_m 153).2.1 (am_m 153).2.2.1 (am_m 153).2.2.2.1 (am_wl 153) (am_rv d S S2) (S2.2.2.1 - S.2.2.1) (S2.2.2.2 - S.2.2.2) 3 := by
    refine ⟨⟨rfl, rfl, Nat.le_refl _, ?_, fun w hw a' U hW2 => ?_, List.mem_cons_self, G.2.2.2.2.1 _ hcode, G.2.2.2.2.1 _ i1, ⟨i4, i5⟩, fun sig hs => ?_, G.2.2.2.2.1 _ hl⟩, G.2.2.2.2.1 _ (am_wAt_mem w1), G.2.2.2.2.1 _ (am_wAt_mem w2)⟩
    · show 8 + ((am_m 153).2.2.1 + 11) + (60 * d + 360) ≤ 60 * d + 420
      omega
    · rw [List.mem_singleton.mp hw]
      exact am_mv hcode hW2 (G.2.2.2.2.1 _ hcode)
    · unfold am_np at w3
      rw [hs] at w3
      exact (Option.some.inj w3).symm
  have hrunV := vx_runV (p := p) (l := l) (e := e) (below := below) (meth := meth) (locs := locs) (cells := 0) (slots := 0) (g := F0 m 7 lr (List.map (am_cv b sz) [(0, p2), (0, p1), (0, p0), (2, a), (0, 0), (2, o)])) (rest := List.map (am_cv b sz) [(0, 0), (2, o)]) hfix hM hcw hpv rfl rfl hL.2.1 (by
    show List.map (am_cv b sz) [(0, p2), (0, p1), (0, p0), (2, a), (0, 0), (2, o)] = _
    simp only [List.map_cons, List.map_nil, am_ref a0]
    rfl) (am_room8 (Nat.le_of_ble_eq_true rfl)) (show decode (am_m 274).2.1 7 = .ok (.invokevirtual 15, 3) by decide +kernel) (by
    show 0 + (S2.2.2.1 - S.2.2.1) ≤ S3.2.2.1 - S.2.2.1 ∧ 0 + (S2.2.2.2 - S.2.2.2) ≤ S3.2.2.2 - S.2.2.2
    omega)
  intro T hT X
  rcases hrunV T hT X with ⟨v0, st₀, t, T', L1, h0, X', hL1, e1, e2, ⟨h6, hv0, hrel, hz, hkp⟩, st⟩ | ⟨q, st₀, t, T', L1, E, ce, h0, X', hL1, e1, e2, ⟨rfl, ⟨x6, rfl⟩, hrel, hz, hkp⟩, hce, hcv, hcc, st⟩
  · rw [h0] at hz hkp
    have hR2 : am_Rel b sz L xs D cI cJ cB S2 T'.heap := by rw [e1]; exact hrel
    have hS2 : va_S (fun q => sz ≤ q) s.heap T'.heap (locs ++ L1) := ⟨Nat.le_trans hS.1 (by rw [e1]; exact hz), fun q h1 h2 => by rw [e1, hkp q (Nat.lt_of_lt_of_le h1 hS.1) h2]; exact hS.2.1 q h1 h2, fun q hq => by
      rcases List.mem_append.mp hq with h | h
      · exact hS.2.2 q h
      · exact hL1 q h⟩
    have hrx : ∃ x, r = some (0, x) ∧ v = (0, 0) ∧ S3 = am_up S2 o.toNat 0 (w32 x) ∧ am_at S2 o 21 = true ∧ 0 < (S2.2.1 o.toNat).2 := by
      have hret := am_fi_ret hfi h6 (show (am_m 153).2.2.2.1 = some .int by decide +kernel)
      obtain ⟨x, hx⟩ := hret
      have hx : r = some (0, x) := hx
      subst hx
      rw [am_b4_0] at hb4
      split at hb4
      · next hc =>
        cases hb4
        exact ⟨x, rfl, rfl, rfl, hc.1, hc.2⟩
      · cases hb4
    obtain ⟨x, rfl, rfl, rfl, ho2, hlen⟩ := hrx
    have hv1 : v0 = some (am_cv b sz (0, x)) := by injection hv0
    subst hv1
    have hC2 : s.heap.size + (S2.2.2.1 - S.2.2.1) = sz + (S2.2.2.1 - 1) := by omega
    have key : W p l e (headSpec [Cond.codeWith (am_m 274).1 (am_m 274).2.1 (am_m 274).2.2.1 (am_m 274).2.2.2.1 [(0, 12, 15, 13)]] { frames := d + 7, cells := S2.2.2.1 - S.2.2.1, slots := S2.2.2.2 - S.2.2.2, locals := 60 * d + 420 }).room s m (List.map (am_cv b sz) [(2, a), (0, p0), (0, p1), (0, p2), (2, o)]).toArray below meth c T'.heap (locs ++ L1) (S2.2.2.1 - S.2.2.1) (S2.2.2.2 - S.2.2.2) (MQ below (am_Qc b sz L xs D cI cJ cB (some (0, 0)) (am_up S2 o.toNat 0 (w32 x))) (List.map (am_cv b sz) [(2, a), (0, p0), (0, p1), (0, p2), (2, o)]).toArray s (S2.2.2.1 - S.2.2.1) (S2.2.2.2 - S.2.2.2) (fun q => sz ≤ q)) (F0 m 10 lr (List.map (am_cv b sz) [(0, x), (0, 0), (2, o)])) := by
      generalize T'.heap = H5 at hR2 hS2 ⊢
      generalize locs ++ L1 = locs5 at hS2 ⊢
      refine am_stS (S := S2) (st := [(0, x), (0, 0), (2, o)]) (st2 := [(1, w32 x), (0, 0), (2, o)]) (la2 := [(2, a), (0, p0), (0, p1), (0, p2), (2, o), (9, 0)]) G hC2 ⟨Nat.le_refl _, Nat.le_refl _⟩ (show am_cd 274 10 = (8, 11, 0, 0, []) by decide +kernel) (Nat.le_of_ble_eq_true rfl) rfl hL hR2 hS2 ?_
      intro lr H5 locs5 hL hR2 hS2
      refine am_step (S := S2) (st := [(1, w32 x), (0, 0), (2, o)]) (c2 := (12, [(2, a), (0, p0), (0, p1), (0, p2), (2, o), (9, 0)], [], am_up S2 o.toNat 0 (w32 x))) G hC2 (by simp only [am_up, Nat.sub_self, Nat.add_zero]; exact ⟨Nat.le_refl _, Nat.le_refl _⟩) (fun h31 => absurd h31 (by rw [show am_cd 274 11 = (25, 12, 0, 0, []) by decide +kernel]; exact Nat.not_le_of_lt (Nat.le_of_ble_eq_true rfl))) (by rw [show am_cd 274 11 = (25, 12, 0, 0, []) by decide +kernel]; exact Nat.le_of_ble_eq_true rfl) (by
        rw [show am_cd 274 11 = (25, 12, 0, 0, []) by decide +kernel]
        simp only [am_s1]
        rw [if_pos ⟨by unfold am_ix; simp only [Bool.and_eq_true, decide_eq_true_eq]; exact ⟨by decide, by show (0 : Int) < _; omega⟩, ho2⟩]
        rfl) hL hR2 hS2 ?_
      intro lr H5 locs5 hL hR2 hS2
      dsimp only at hL hR2 ⊢
      rw [show (am_up S2 o.toNat 0 (w32 x)).2 = S2.2 from rfl, Nat.sub_self, Nat.sub_self, Nat.add_zero, Nat.add_zero]
      have hC3 : s.heap.size + (S2.2.2.1 - S.2.2.1) = sz + ((am_up S2 o.toNat 0 (w32 x)).2.2.1 - 1) := hC2
      refine am_stS (S := am_up S2 o.toNat 0 (w32 x)) (st := []) (st2 := []) (la2 := [(2, a), (0, p0), (0, p1), (0, p2), (2, o), (9, 0)]) G hC3 ⟨Nat.le_refl _, Nat.le_refl _⟩ (show am_cd 274 12 = (12, 19, 0, 0, []) by decide +kernel) (Nat.le_of_ble_eq_true rfl) rfl hL hR2 hS2 ?_
      intro lr H5 locs5 hL hR2 hS2
      refine am_stS (S := am_up S2 o.toNat 0 (w32 x)) (st := []) (st2 := [(0, 0)]) (la2 := [(2, a), (0, p0), (0, p1), (0, p2), (2, o), (9, 0)]) G hC3 ⟨Nat.le_refl _, Nat.le_refl _⟩ (show am_cd 274 19 = (0, 20, 0, 0, []) by decide +kernel) (Nat.le_of_ble_eq_true rfl) rfl hL hR2 hS2 ?_
      intro lr H5 locs5 hL hR2 hS2
      exact am_fin (tT := [(0, 0)]) (pT := 20) (k := 274) B.exec B.bytes hr hlocks (by rw [show am_cd 274 20 = (36, 21, 0, 0, []) by decide +kernel]; rfl) (fun x h9 => (by cases h9)) hR2 hS2
    have X2 := X'
    rw [Nat.zero_add, Nat.zero_add] at X2
    obtain ⟨t2, k1, k2⟩ := key T' rfl X2
    exact ⟨t2, st t2 k1, k2⟩
  · rw [h0] at hz hkp
    have hb5 : v = (0, 1) ∧ S3 = S2 := by
      unfold am_b4 at hb4
      cases hb4
      exact ⟨rfl, rfl⟩
    obtain ⟨rfl, rfl⟩ := hb5
    have hR2 : am_Rel b sz L xs D cI cJ cB S3 T'.heap := by rw [e1]; exact hrel
    have hS2 : va_S (fun q => sz ≤ q) s.heap T'.heap (locs ++ L1) := ⟨Nat.le_trans hS.1 (by rw [e1]; exact hz), fun q h1 h2 => by rw [e1, hkp q (Nat.lt_of_lt_of_le h1 hS.1) h2]; exact hS.2.1 q h1 h2, fun q hq => by
      rcases List.mem_append.mp hq with h | h
      · exact hS.2.2 q h
      · exact hL1 q h⟩
    have key : vx_W p l e (headSpec [Cond.codeWith (am_m 274).1 (am_m 274).2.1 (am_m 274).2.2.1 (am_m 274).2.2.2.1 [(0, 12, 15, 13)]] { frames := d + 7, cells := S3.2.2.1 - S.2.2.1, slots := S3.2.2.2 - S.2.2.2, locals := 60 * d + 420 }).room s m (List.map (am_cv b sz) [(2, a), (0, p0), (0, p1), (0, p2), (2, o)]).toArray below meth c T'.heap (locs ++ L1) (S3.2.2.1 - S.2.2.1) (S3.2.2.2 - S.2.2.2) (MQ below (am_Qc b sz L xs D cI cJ cB (some (0, 1)) S3) (List.map (am_cv b sz) [(2, a), (0, p0), (0, p1), (0, p2), (2, o)]).toArray s (S3.2.2.1 - S.2.2.1) (S3.2.2.2 - S.2.2.2) (fun q => sz ≤ q)) (F0 m 7 lr (List.map (am_cv b sz) [(0, 0), (2, o)])) q := by
      refine vx_catch (own := RL) (name := am_N) (E := am_N) (ce := ce) hown [] ((tableOf [(0, 12, 15, 13)]).getD 0 default) [] (by rw [htab]; rfl) (fun z hz => nomatch hz) (by decide +kernel) (by decide +kernel) (G.2.2.2.2.1 _ (am_tbO (by decide +kernel) rfl)) (G.2.2.2.2.1 _ (am_tbO (by decide +kernel) rfl)) (by rw [e1]; exact hce) hcv hcc ?_
      refine lv_astore (x := q) G.1 G.2.1 (show decode (am_m 274).2.1 15 = .ok (.astore 5, 2) by decide +kernel) hL.2 (by decide +kernel) rfl (fun lr2 hn => ?_)
      refine lv_iconst (v := 1) G.1 G.2.1 (show decode (am_m 274).2.1 17 = .ok (.iconst 1, 1) by decide +kernel) rfl ?_
      exact W.iret (v := 1) B.exec B.bytes hr (fun t2 ht hw => ⟨rfl, by rw [ht]; exact hR2, hS2.F ht⟩) hS2.2.2 (show decode (am_m 274).2.1 18 = .ok (.ireturn, 1) by decide +kernel)
    have X2 := X'
    rw [Nat.zero_add, Nat.zero_add] at X2
    obtain ⟨t2, k1, k2⟩ := key T' rfl X2
    exact ⟨t2, st.trans k1, k2⟩
theorem am_hw_word : Cond.codeWith (am_m 275).1 (am_m 275).2.1 (am_m 275).2.2.1 (am_m 275).2.2.2.1 [(0, 10, 13, 13)] ∈ am_tb := am_tbO (am_in_6 (List.mem_of_getElem? (show tables_1_6[69]? = _ from rfl))) rfl
set_option maxHeartbeats 2000000 in
theorem am_h_word {n d : Nat} {a o p0 p1 : Int} {S2 S3 ST : aS} {pT : Nat} {lT tT : List aV} {r : Option aV} {v : aV} (hW : am_Walk n) (hfl : l.flags = flags0) (ha : am_at S a 11 = true) (ho : am_at S o 21 = true) (hrun : am_run n d 154 0 (am_en 154 [(2, a), (0, p0), (0, p1)]) [] S = some (pT, lT, tT, ST)) (hfi : am_fi 154 (am_cd 154 pT) tT ST = some (r, S2)) (hb4 : am_b4 o r S2 = some (v, S3)) : Met l (am_m 275).1 [Cond.codeWith (am_m 275).1 (am_m 275).2.1 (am_m 275).2.2.1 (am_m 275).2.2.2.1 [(0, 10, 13, 13)]] { frames := d + 7, cells := S3.2.2.1 - S.2.2.1, slots := S3.2.2.2 - S.2.2.2, locals := 60 * d + 420 } (am_Pc b sz L xs D cI cJ cB [(2, a), (0, p0), (0, p1), (2, o)] S) (am_Qc b sz L xs D cI cJ cB (some v) S3) (S3.2.2.1 - S.2.2.1) (S3.2.2.2 - S.2.2.2) (fun q => sz ≤ q) := by
  refine va_MetW (cc := (am_m 275).2.1) (maxL := (am_m 275).2.2.1) (ret := (am_m 275).2.2.2.1) (hh := [(0, 10, 13, 13)]) (by decide +kernel) rfl ?_
  intro p e s m args below meth c s₁ B hml hv
  obtain ⟨rfl, hTB, hK, hX, hb, hR, hZ⟩ := hv
  have htab : c.exceptionTable.toList = tableOf [(0, 10, 13, 13)] := vx_table (x := yL_law) B (am_vm (s := s) am_hw_word rfl (hTB _ am_hw_word))
  have h1 := hR.2.2.1
  have hsz : sz ≤ s.heap.size := by rw [hR.2.1]; omega
  obtain ⟨a0, a1, a2, a3⟩ := am_atE ha
  obtain ⟨o0, o1, o2, o3⟩ := am_atE ho
  have hown : s.vm.findClass RL = some m.cls := findClass_of_methodNamed B.named
  have G : am_G b sz L xs D cI cJ cB p s m (List.map (am_cv b sz) [(2, a), (0, p0), (0, p1), (2, o)]).toArray meth c 275 := ⟨B.exec, B.bytes, hml, hown, fun w hw => am_vm (s := s) hw rfl (hTB w hw), hK, hX, hb, hsz, fun hn => (name_of_methodNamed B.named B.method).1.trans hn, by omega, hZ⟩
  obtain ⟨lr, he, hL⟩ := am_entry (b := b) (sz := sz) (k := 275) (as := [(2, a), (0, p0), (0, p1), (2, o)]) (m := m) (Nat.le_of_ble_eq_true rfl)
  rw [he]
  have hr := B.returns
  have hlocks := B.notSynchronized
  have m1 := am_run_mono _ _ _ _ _ _ _ _ hrun
  have m2 := am_fi_mono hfi
  have m3 := am_b4_mono hb4
  dsimp only at m1
  have n1 := m1.1
  have n2 := m1.2
  have n3 := m2.1
  have n4 := m2.2
  have n5 := m3.1
  have n6 := m3.2
  have hC : s.heap.size + 0 = sz + (S.2.2.1 - 1) := by rw [hR.2.1]; rfl
  have hL : am_LR b sz lr (am_m 275).2.2.1 [(2, a), (0, p0), (0, p1), (2, o), (9, 0)] := hL
  have hS : va_S (fun q => sz ≤ q) s.heap s.heap [] := va_S.rf
  refine am_stS (st := []) (st2 := [(2, o)]) (la2 := [(2, a), (0, p0), (0, p1), (2, o), (9, 0)]) G hC ⟨Nat.zero_le _, Nat.zero_le _⟩ (show am_cd 275 0 = (2, 1, 3, 2, []) by decide +kernel) (Nat.le_of_ble_eq_true rfl) (by simp only [am_s1]; exact if_pos ⟨rfl, fun _ => by omega⟩) hL hR hS ?_
  intro lr H locs hL hR hS
  refine am_stS (st := [(2, o)]) (st2 := [(0, 0), (2, o)]) (la2 := [(2, a), (0, p0), (0, p1), (2, o), (9, 0)]) G hC ⟨Nat.zero_le _, Nat.zero_le _⟩ (show am_cd 275 1 = (0, 2, 0, 0, []) by decide +kernel) (Nat.le_of_ble_eq_true rfl) rfl hL hR hS ?_
  intro lr H locs hL hR hS
  refine am_stS (st := [(0, 0), (2, o)]) (st2 := [(2, a), (0, 0), (2, o)]) (la2 := [(2, a), (0, p0), (0, p1), (2, o), (9, 0)]) G hC ⟨Nat.zero_le _, Nat.zero_le _⟩ (show am_cd 275 2 = (2, 3, 0, 2, []) by decide +kernel) (Nat.le_of_ble_eq_true rfl) (by simp only [am_s1]; exact if_pos ⟨rfl, fun _ => by omega⟩) hL hR hS ?_
  intro lr H locs hL hR hS
  refine am_stS (st := [(2, a), (0, 0), (2, o)]) (st2 := [(0, p0), (2, a), (0, 0), (2, o)]) (la2 := [(2, a), (0, p0), (0, p1), (2, o), (9, 0)]) G hC ⟨Nat.zero_le _, Nat.zero_le _⟩ (show am_cd 275 3 = (2, 4, 1, 0, []) by decide +kernel) (Nat.le_of_ble_eq_true rfl) rfl hL hR hS ?_
  intro lr H locs hL hR hS
  refine am_stS (st := [(0, p0), (2, a), (0, 0), (2, o)]) (st2 := [(0, p1), (0, p0), (2, a), (0, 0), (2, o)]) (la2 := [(2, a), (0, p0), (0, p1), (2, o), (9, 0)]) G hC ⟨Nat.zero_le _, Nat.zero_le _⟩ (show am_cd 275 4 = (2, 5, 2, 0, []) by decide +kernel) (Nat.le_of_ble_eq_true rfl) rfl hL hR hS ?_
  intro lr H locs hL hR hS
  have hlk : am_lk ((am_m 275).2.2.2.2.1 * 1000 + 19) am_lm = some (0, 154) := by decide +kernel
  obtain ⟨pls, hps⟩ := am_lmw hlk
  have hM := am_vmet (b := b) (sz := sz) (L := L) (xs := xs) (D := D) (cI := cI) (cJ := cJ) (cB := cB) (l := l) hW hfl (am_flt hfl) (by decide) hrun hfi rfl
  have hfix : CallFix p m c (am_m 275).2.1 (am_m 275).2.2.1 s (List.map (am_cv b sz) [(2, a), (0, p0), (0, p1), (2, o)]).toArray am_tb (am_own (am_m 275).2.2.2.2.1) := ⟨G.1, G.2.1, G.2.2.1, G.2.2.2.1, G.2.2.2.2.1⟩
  have hpre := am_pre (as := [(2, a), (0, p0), (0, p1)]) G hR hS
  unfold am_mw at hps
  split at hps <;> first | (next e1 => cases e1; done) | (cases hps; done) | skip
  next e1 =>
  cases e1
  simp only [Bool.and_eq_true, decide_eq_true_eq] at hps
  obtain ⟨w0, w1, w2, w3, w4, w5⟩ := hps
  have hl : Cond.methodLink (am_own (am_m 275).2.2.2.2.1) 19 (am_m 154).1 ∈ am_tb := am_wAt_mem w0
  have heq := am_ws_get (b := b) (sz := sz) (cI := cI) (cJ := cJ) (cB := cB) a1 a2
  obtain ⟨rr, g1, cell, q1, q2, q3, q4⟩ := (show va_at D am_cl (sz + (am_pj a.toNat - 1), .inr (_, _)) H by rw [← am_ceO a3 (by decide)]; exact hR.1 _ _ heq)
  have hfc := (G.2.2.2.2.2.1.1 _ _ (am_cl_at 11 (by decide))).2.1
  have hpv : PreV s H (am_own 11) (sz + (am_pj a.toNat - 1)) (am_Pc b sz L xs D cI cJ cB [(2, a), (0, p0), (0, p1)] S) (List.map (am_cv b sz) [(0, p0), (0, p1)]) := by
    refine ⟨am_blind, ⟨cell, q1, by rw [q3]; rfl, by rw [q2]; exact hfc⟩, fun U hU hw => ?_⟩
    have := hpre U hU hw
    rw [List.map_cons, am_ref a0] at this
    exact this
  obtain ⟨i1, i2, i3, i4, i5, i6, i7⟩ := am_m1E (k := 154) (by decide)
  have hcode := am_code (k := 154) (by decide)
  have hcw : CallW (headSpec [Cond.codeWith (am_m 275).1 (am_m 275).2.1 (am_m 275).2.2.1 (am_m 275).2.2.2.1 [(0, 10, 13, 13)]] { frames := d + 7, cells := S3.2.2.1 - S.2.2.1, slots := S3.2.2.2 - S.2.2.2, locals := 60 * d + 420 }).room s (List.map (am_cv b sz) [(2, a), (0, p0), (0, p1), (2, o)]).toArray (am_own (am_m 275).2.2.2.2.1) (am_own 11) 19 (am_m 154).1 (am_m 154).2.1 (am_m 154).2.2.1 (am_m 154).2.2.2.1 (am_wl 154) (am_rv d S S2) (S2.2.2.1 - S.2.2.1) (S2.2.2.2 - S.2.2.2) 2 := by
    refine ⟨⟨rfl, rfl, Nat.le_refl _, ?_, fun w hw a' U hW2 => ?_, List.mem_cons_self, G.2.2.2.2.1 _ hcode, G.2.2.2.2.1 _ i1, ⟨i4, i5⟩, fun sig hs => ?_, G.2.2.2.2.1 _ hl⟩, G.2.2.2.2.1 _ (am_wAt_mem w1), G.2.2.2.2.1 _ (am_wAt_mem w2)⟩
    · show 8 + ((am_m 154).2.2.1 + 11) + (60 * d + 360) ≤ 60 * d + 420
      omega
    · rw [List.mem_singleton.mp hw]
      exact am_mv hcode hW2 (G.2.2.2.2.1 _ hcode)
    · unfold am_np at w3
      rw [hs] at w3
      exact (Option.some.inj w3).symm
  have hrunV := vx_runV (p := p) (l := l) (e := e) (below := below) (meth := meth) (locs := locs) (cells := 0) (slots := 0) (g := F0 m 5 lr (List.map (am_cv b sz) [(0, p1), (0, p0), (2, a), (0, 0), (2, o)])) (rest := List.map (am_cv b sz) [(0, 0), (2, o)]) hfix hM hcw hpv rfl rfl hL.2.1 (by
    show List.map (am_cv b sz) [(0, p1), (0, p0), (2, a), (0, 0), (2, o)] = _
    simp only [List.map_cons, List.map_nil, am_ref a0]
    rfl) (am_room8 (Nat.le_of_ble_eq_true rfl)) (show decode (am_m 275).2.1 5 = .ok (.invokevirtual 19, 3) by decide +kernel) (by
    show 0 + (S2.2.2.1 - S.2.2.1) ≤ S3.2.2.1 - S.2.2.1 ∧ 0 + (S2.2.2.2 - S.2.2.2) ≤ S3.2.2.2 - S.2.2.2
    omega)
  intro T hT X
  rcases hrunV T hT X with ⟨v0, st₀, t, T', L1, h0, X', hL1, e1, e2, ⟨h6, hv0, hrel, hz, hkp⟩, st⟩ | ⟨q, st₀, t, T', L1, E, ce, h0, X', hL1, e1, e2, ⟨rfl, ⟨x6, rfl⟩, hrel, hz, hkp⟩, hce, hcv, hcc, st⟩
  · rw [h0] at hz hkp
    have hR2 : am_Rel b sz L xs D cI cJ cB S2 T'.heap := by rw [e1]; exact hrel
    have hS2 : va_S (fun q => sz ≤ q) s.heap T'.heap (locs ++ L1) := ⟨Nat.le_trans hS.1 (by rw [e1]; exact hz), fun q h1 h2 => by rw [e1, hkp q (Nat.lt_of_lt_of_le h1 hS.1) h2]; exact hS.2.1 q h1 h2, fun q hq => by
      rcases List.mem_append.mp hq with h | h
      · exact hS.2.2 q h
      · exact hL1 q h⟩
    have hrx : ∃ x, r = some (0, x) ∧ v = (0, 0) ∧ S3 = am_up S2 o.toNat 0 (w32 x) ∧ am_at S2 o 21 = true ∧ 0 < (S2.2.1 o.toNat).2 := by
      have hret := am_fi_ret hfi h6 (show (am_m 154).2.2.2.1 = some .int by decide +kernel)
      obtain ⟨x, hx⟩ := hret
      have hx : r = some (0, x) := hx
      subst hx
      rw [am_b4_0] at hb4
      split at hb4
      · next hc =>
        cases hb4
        exact ⟨x, rfl, rfl, rfl, hc.1, hc.2⟩
      · cases hb4
    obtain ⟨x, rfl, rfl, rfl, ho2, hlen⟩ := hrx
    have hv1 : v0 = some (am_cv b sz (0, x)) := by injection hv0
    subst hv1
    have hC2 : s.heap.size + (S2.2.2.1 - S.2.2.1) = sz + (S2.2.2.1 - 1) := by omega
    have key : W p l e (headSpec [Cond.codeWith (am_m 275).1 (am_m 275).2.1 (am_m 275).2.2.1 (am_m 275).2.2.2.1 [(0, 10, 13, 13)]] { frames := d + 7, cells := S2.2.2.1 - S.2.2.1, slots := S2.2.2.2 - S.2.2.2, locals := 60 * d + 420 }).room s m (List.map (am_cv b sz) [(2, a), (0, p0), (0, p1), (2, o)]).toArray below meth c T'.heap (locs ++ L1) (S2.2.2.1 - S.2.2.1) (S2.2.2.2 - S.2.2.2) (MQ below (am_Qc b sz L xs D cI cJ cB (some (0, 0)) (am_up S2 o.toNat 0 (w32 x))) (List.map (am_cv b sz) [(2, a), (0, p0), (0, p1), (2, o)]).toArray s (S2.2.2.1 - S.2.2.1) (S2.2.2.2 - S.2.2.2) (fun q => sz ≤ q)) (F0 m 8 lr (List.map (am_cv b sz) [(0, x), (0, 0), (2, o)])) := by
      generalize T'.heap = H5 at hR2 hS2 ⊢
      generalize locs ++ L1 = locs5 at hS2 ⊢
      refine am_stS (S := S2) (st := [(0, x), (0, 0), (2, o)]) (st2 := [(1, w32 x), (0, 0), (2, o)]) (la2 := [(2, a), (0, p0), (0, p1), (2, o), (9, 0)]) G hC2 ⟨Nat.le_refl _, Nat.le_refl _⟩ (show am_cd 275 8 = (8, 9, 0, 0, []) by decide +kernel) (Nat.le_of_ble_eq_true rfl) rfl hL hR2 hS2 ?_
      intro lr H5 locs5 hL hR2 hS2
      refine am_step (S := S2) (st := [(1, w32 x), (0, 0), (2, o)]) (c2 := (10, [(2, a), (0, p0), (0, p1), (2, o), (9, 0)], [], am_up S2 o.toNat 0 (w32 x))) G hC2 (by simp only [am_up, Nat.sub_self, Nat.add_zero]; exact ⟨Nat.le_refl _, Nat.le_refl _⟩) (fun h31 => absurd h31 (by rw [show am_cd 275 9 = (25, 10, 0, 0, []) by decide +kernel]; exact Nat.not_le_of_lt (Nat.le_of_ble_eq_true rfl))) (by rw [show am_cd 275 9 = (25, 10, 0, 0, []) by decide +kernel]; exact Nat.le_of_ble_eq_true rfl) (by
        rw [show am_cd 275 9 = (25, 10, 0, 0, []) by decide +kernel]
        simp only [am_s1]
        rw [if_pos ⟨by unfold am_ix; simp only [Bool.and_eq_true, decide_eq_true_eq]; exact ⟨by decide, by show (0 : Int) < _; omega⟩, ho2⟩]
        rfl) hL hR2 hS2 ?_
      intro lr H5 locs5 hL hR2 hS2
      dsimp only at hL hR2 ⊢
      rw [show (am_up S2 o.toNat 0 (w32 x)).2 = S2.2 from rfl, Nat.sub_self, Nat.sub_self, Nat.add_zero, Nat.add_zero]
      have hC3 : s.heap.size + (S2.2.2.1 - S.2.2.1) = sz + ((am_up S2 o.toNat 0 (w32 x)).2.2.1 - 1) := hC2
      refine am_stS (S := am_up S2 o.toNat 0 (w32 x)) (st := []) (st2 := []) (la2 := [(2, a), (0, p0), (0, p1), (2, o), (9, 0)]) G hC3 ⟨Nat.le_refl _, Nat.le_refl _⟩ (show am_cd 275 10 = (12, 17, 0, 0, []) by decide +kernel) (Nat.le_of_ble_eq_true rfl) rfl hL hR2 hS2 ?_
      intro lr H5 locs5 hL hR2 hS2
      refine am_stS (S := am_up S2 o.toNat 0 (w32 x)) (st := []) (st2 := [(0, 0)]) (la2 := [(2, a), (0, p0), (0, p1), (2, o), (9, 0)]) G hC3 ⟨Nat.le_refl _, Nat.le_refl _⟩ (show am_cd 275 17 = (0, 18, 0, 0, []) by decide +kernel) (Nat.le_of_ble_eq_true rfl) rfl hL hR2 hS2 ?_
      intro lr H5 locs5 hL hR2 hS2
      exact am_fin (tT := [(0, 0)]) (pT := 18) (k := 275) B.exec B.bytes hr hlocks (by rw [show am_cd 275 18 = (36, 19, 0, 0, []) by decide +kernel]; rfl) (fun x h9 => (by cases h9)) hR2 hS2
    have X2 := X'
    rw [Nat.zero_add, Nat.zero_add] at X2
    obtain ⟨t2, k1, k2⟩ := key T' rfl X2
    exact ⟨t2, st t2 k1, k2⟩
  · rw [h0] at hz hkp
    have hb5 : v = (0, 1) ∧ S3 = S2 := by
      unfold am_b4 at hb4
      cases hb4
      exact ⟨rfl, rfl⟩
    obtain ⟨rfl, rfl⟩ := hb5
    have hR2 : am_Rel b sz L xs D cI cJ cB S3 T'.heap := by rw [e1]; exact hrel
    have hS2 : va_S (fun q => sz ≤ q) s.heap T'.heap (locs ++ L1) := ⟨Nat.le_trans hS.1 (by rw [e1]; exact hz), fun q h1 h2 => by rw [e1, hkp q (Nat.lt_of_lt_of_le h1 hS.1) h2]; exact hS.2.1 q h1 h2, fun q hq => by
      rcases List.mem_append.mp hq with h | h
      · exact hS.2.2 q h
      · exact hL1 q h⟩
    have key : vx_W p l e (headSpec [Cond.codeWith (am_m 275).1 (am_m 275).2.1 (am_m 275).2.2.1 (am_m 275).2.2.2.1 [(0, 10, 13, 13)]] { frames := d + 7, cells := S3.2.2.1 - S.2.2.1, slots := S3.2.2.2 - S.2.2.2, locals := 60 * d + 420 }).room s m (List.map (am_cv b sz) [(2, a), (0, p0), (0, p1), (2, o)]).toArray below meth c T'.heap (locs ++ L1) (S3.2.2.1 - S.2.2.1) (S3.2.2.2 - S.2.2.2) (MQ below (am_Qc b sz L xs D cI cJ cB (some (0, 1)) S3) (List.map (am_cv b sz) [(2, a), (0, p0), (0, p1), (2, o)]).toArray s (S3.2.2.1 - S.2.2.1) (S3.2.2.2 - S.2.2.2) (fun q => sz ≤ q)) (F0 m 5 lr (List.map (am_cv b sz) [(0, 0), (2, o)])) q := by
      refine vx_catch (own := RL) (name := am_N) (E := am_N) (ce := ce) hown [] ((tableOf [(0, 10, 13, 13)]).getD 0 default) [] (by rw [htab]; rfl) (fun z hz => nomatch hz) (by decide +kernel) (by decide +kernel) (G.2.2.2.2.1 _ (am_tbO (by decide +kernel) rfl)) (G.2.2.2.2.1 _ (am_tbO (by decide +kernel) rfl)) (by rw [e1]; exact hce) hcv hcc ?_
      refine lv_astore (x := q) G.1 G.2.1 (show decode (am_m 275).2.1 13 = .ok (.astore 4, 2) by decide +kernel) hL.2 (by decide +kernel) rfl (fun lr2 hn => ?_)
      refine lv_iconst (v := 1) G.1 G.2.1 (show decode (am_m 275).2.1 15 = .ok (.iconst 1, 1) by decide +kernel) rfl ?_
      exact W.iret (v := 1) B.exec B.bytes hr (fun t2 ht hw => ⟨rfl, by rw [ht]; exact hR2, hS2.F ht⟩) hS2.2.2 (show decode (am_m 275).2.1 16 = .ok (.ireturn, 1) by decide +kernel)
    have X2 := X'
    rw [Nat.zero_add, Nat.zero_add] at X2
    obtain ⟨t2, k1, k2⟩ := key T' rfl X2
    exact ⟨t2, st.trans k1, k2⟩
theorem am_hw_row : Cond.codeWith (am_m 276).1 (am_m 276).2.1 (am_m 276).2.2.1 (am_m 276).2.2.2.1 [(0, 8, 11, 13)] ∈ am_tb := am_tbO (am_in_6 (List.mem_of_getElem? (show tables_1_6[80]? = _ from rfl))) rfl
set_option maxHeartbeats 2000000 in
theorem am_h_row {n d : Nat} {a o p0 : Int} {S2 S3 ST : aS} {pT : Nat} {lT tT : List aV} {r : Option aV} {v : aV} (hW : am_Walk n) (hfl : l.flags = flags0) (ha : am_at S a 11 = true) (ho : am_at S o 21 = true) (hrun : am_run n d 160 0 (am_en 160 [(2, a), (0, p0)]) [] S = some (pT, lT, tT, ST)) (hfi : am_fi 160 (am_cd 160 pT) tT ST = some (r, S2)) (hb4 : am_b4 o r S2 = some (v, S3)) : Met l (am_m 276).1 [Cond.codeWith (am_m 276).1 (am_m 276).2.1 (am_m 276).2.2.1 (am_m 276).2.2.2.1 [(0, 8, 11, 13)]] { frames := d + 7, cells := S3.2.2.1 - S.2.2.1, slots := S3.2.2.2 - S.2.2.2, locals := 60 * d + 420 } (am_Pc b sz L xs D cI cJ cB [(2, a), (0, p0), (2, o)] S) (am_Qc b sz L xs D cI cJ cB (some v) S3) (S3.2.2.1 - S.2.2.1) (S3.2.2.2 - S.2.2.2) (fun q => sz ≤ q) := by
  refine va_MetW (cc := (am_m 276).2.1) (maxL := (am_m 276).2.2.1) (ret := (am_m 276).2.2.2.1) (hh := [(0, 8, 11, 13)]) (by decide +kernel) rfl ?_
  intro p e s m args below meth c s₁ B hml hv
  obtain ⟨rfl, hTB, hK, hX, hb, hR, hZ⟩ := hv
  have htab : c.exceptionTable.toList = tableOf [(0, 8, 11, 13)] := vx_table (x := yL_law) B (am_vm (s := s) am_hw_row rfl (hTB _ am_hw_row))
  have h1 := hR.2.2.1
  have hsz : sz ≤ s.heap.size := by rw [hR.2.1]; omega
  obtain ⟨a0, a1, a2, a3⟩ := am_atE ha
  obtain ⟨o0, o1, o2, o3⟩ := am_atE ho
  have hown : s.vm.findClass RL = some m.cls := findClass_of_methodNamed B.named
  have G : am_G b sz L xs D cI cJ cB p s m (List.map (am_cv b sz) [(2, a), (0, p0), (2, o)]).toArray meth c 276 := ⟨B.exec, B.bytes, hml, hown, fun w hw => am_vm (s := s) hw rfl (hTB w hw), hK, hX, hb, hsz, fun hn => (name_of_methodNamed B.named B.method).1.trans hn, by omega, hZ⟩
  obtain ⟨lr, he, hL⟩ := am_entry (b := b) (sz := sz) (k := 276) (as := [(2, a), (0, p0), (2, o)]) (m := m) (Nat.le_of_ble_eq_true rfl)
  rw [he]
  have hr := B.returns
  have hlocks := B.notSynchronized
  have m1 := am_run_mono _ _ _ _ _ _ _ _ hrun
  have m2 := am_fi_mono hfi
  have m3 := am_b4_mono hb4
  dsimp only at m1
  have n1 := m1.1
  have n2 := m1.2
  have n3 := m2.1
  have n4 := m2.2
  have n5 := m3.1
  have n6 := m3.2
  have hC : s.heap.size + 0 = sz + (S.2.2.1 - 1) := by rw [hR.2.1]; rfl
  have hL : am_LR b sz lr (am_m 276).2.2.1 [(2, a), (0, p0), (2, o), (9, 0)] := hL
  have hS : va_S (fun q => sz ≤ q) s.heap s.heap [] := va_S.rf
  refine am_stS (st := []) (st2 := [(2, o)]) (la2 := [(2, a), (0, p0), (2, o), (9, 0)]) G hC ⟨Nat.zero_le _, Nat.zero_le _⟩ (show am_cd 276 0 = (2, 1, 2, 2, []) by decide +kernel) (Nat.le_of_ble_eq_true rfl) (by simp only [am_s1]; exact if_pos ⟨rfl, fun _ => by omega⟩) hL hR hS ?_
  intro lr H locs hL hR hS
  refine am_stS (st := [(2, o)]) (st2 := [(0, 0), (2, o)]) (la2 := [(2, a), (0, p0), (2, o), (9, 0)]) G hC ⟨Nat.zero_le _, Nat.zero_le _⟩ (show am_cd 276 1 = (0, 2, 0, 0, []) by decide +kernel) (Nat.le_of_ble_eq_true rfl) rfl hL hR hS ?_
  intro lr H locs hL hR hS
  refine am_stS (st := [(0, 0), (2, o)]) (st2 := [(2, a), (0, 0), (2, o)]) (la2 := [(2, a), (0, p0), (2, o), (9, 0)]) G hC ⟨Nat.zero_le _, Nat.zero_le _⟩ (show am_cd 276 2 = (2, 3, 0, 2, []) by decide +kernel) (Nat.le_of_ble_eq_true rfl) (by simp only [am_s1]; exact if_pos ⟨rfl, fun _ => by omega⟩) hL hR hS ?_
  intro lr H locs hL hR hS
  refine am_stS (st := [(2, a), (0, 0), (2, o)]) (st2 := [(0, p0), (2, a), (0, 0), (2, o)]) (la2 := [(2, a), (0, p0), (2, o), (9, 0)]) G hC ⟨Nat.zero_le _, Nat.zero_le _⟩ (show am_cd 276 3 = (2, 4, 1, 0, []) by decide +kernel) (Nat.le_of_ble_eq_true rfl) rfl hL hR hS ?_
  intro lr H locs hL hR hS
  have hlk : am_lk ((am_m 276).2.2.2.2.1 * 1000 + 22) am_lm = some (0, 160) := by decide +kernel
  obtain ⟨pls, hps⟩ := am_lmw hlk
  have hM := am_vmet (b := b) (sz := sz) (L := L) (xs := xs) (D := D) (cI := cI) (cJ := cJ) (cB := cB) (l := l) hW hfl (am_flt hfl) (by decide) hrun hfi rfl
  have hfix : CallFix p m c (am_m 276).2.1 (am_m 276).2.2.1 s (List.map (am_cv b sz) [(2, a), (0, p0), (2, o)]).toArray am_tb (am_own (am_m 276).2.2.2.2.1) := ⟨G.1, G.2.1, G.2.2.1, G.2.2.2.1, G.2.2.2.2.1⟩
  have hpre := am_pre (as := [(2, a), (0, p0)]) G hR hS
  unfold am_mw at hps
  split at hps <;> first | (next e1 => cases e1; done) | (cases hps; done) | skip
  next e1 =>
  cases e1
  simp only [Bool.and_eq_true, decide_eq_true_eq] at hps
  obtain ⟨w0, w1, w2, w3, w4, w5⟩ := hps
  have hl : Cond.methodLink (am_own (am_m 276).2.2.2.2.1) 22 (am_m 160).1 ∈ am_tb := am_wAt_mem w0
  have heq := am_ws_get (b := b) (sz := sz) (cI := cI) (cJ := cJ) (cB := cB) a1 a2
  obtain ⟨rr, g1, cell, q1, q2, q3, q4⟩ := (show va_at D am_cl (sz + (am_pj a.toNat - 1), .inr (_, _)) H by rw [← am_ceO a3 (by decide)]; exact hR.1 _ _ heq)
  have hfc := (G.2.2.2.2.2.1.1 _ _ (am_cl_at 11 (by decide))).2.1
  have hpv : PreV s H (am_own 11) (sz + (am_pj a.toNat - 1)) (am_Pc b sz L xs D cI cJ cB [(2, a), (0, p0)] S) (List.map (am_cv b sz) [(0, p0)]) := by
    refine ⟨am_blind, ⟨cell, q1, by rw [q3]; rfl, by rw [q2]; exact hfc⟩, fun U hU hw => ?_⟩
    have := hpre U hU hw
    rw [List.map_cons, am_ref a0] at this
    exact this
  obtain ⟨i1, i2, i3, i4, i5, i6, i7⟩ := am_m1E (k := 160) (by decide)
  have hcode := am_code (k := 160) (by decide)
  have hcw : CallW (headSpec [Cond.codeWith (am_m 276).1 (am_m 276).2.1 (am_m 276).2.2.1 (am_m 276).2.2.2.1 [(0, 8, 11, 13)]] { frames := d + 7, cells := S3.2.2.1 - S.2.2.1, slots := S3.2.2.2 - S.2.2.2, locals := 60 * d + 420 }).room s (List.map (am_cv b sz) [(2, a), (0, p0), (2, o)]).toArray (am_own (am_m 276).2.2.2.2.1) (am_own 11) 22 (am_m 160).1 (am_m 160).2.1 (am_m 160).2.2.1 (am_m 160).2.2.2.1 (am_wl 160) (am_rv d S S2) (S2.2.2.1 - S.2.2.1) (S2.2.2.2 - S.2.2.2) 1 := by
    refine ⟨⟨rfl, rfl, Nat.le_refl _, ?_, fun w hw a' U hW2 => ?_, List.mem_cons_self, G.2.2.2.2.1 _ hcode, G.2.2.2.2.1 _ i1, ⟨i4, i5⟩, fun sig hs => ?_, G.2.2.2.2.1 _ hl⟩, G.2.2.2.2.1 _ (am_wAt_mem w1), G.2.2.2.2.1 _ (am_wAt_mem w2)⟩
    · show 8 + ((am_m 160).2.2.1 + 11) + (60 * d + 360) ≤ 60 * d + 420
      omega
    · rw [List.mem_singleton.mp hw]
      exact am_mv hcode hW2 (G.2.2.2.2.1 _ hcode)
    · unfold am_np at w3
      rw [hs] at w3
      exact (Option.some.inj w3).symm
  have hrunV := vx_runV (p := p) (l := l) (e := e) (below := below) (meth := meth) (locs := locs) (cells := 0) (slots := 0) (g := F0 m 4 lr (List.map (am_cv b sz) [(0, p0), (2, a), (0, 0), (2, o)])) (rest := List.map (am_cv b sz) [(0, 0), (2, o)]) hfix hM hcw hpv rfl rfl hL.2.1 (by
    show List.map (am_cv b sz) [(0, p0), (2, a), (0, 0), (2, o)] = _
    simp only [List.map_cons, List.map_nil, am_ref a0]
    rfl) (am_room8 (Nat.le_of_ble_eq_true rfl)) (show decode (am_m 276).2.1 4 = .ok (.invokevirtual 22, 3) by decide +kernel) (by
    show 0 + (S2.2.2.1 - S.2.2.1) ≤ S3.2.2.1 - S.2.2.1 ∧ 0 + (S2.2.2.2 - S.2.2.2) ≤ S3.2.2.2 - S.2.2.2
    omega)
  intro T hT X
  rcases hrunV T hT X with ⟨v0, st₀, t, T', L1, h0, X', hL1, e1, e2, ⟨h6, hv0, hrel, hz, hkp⟩, st⟩ | ⟨q, st₀, t, T', L1, E, ce, h0, X', hL1, e1, e2, ⟨rfl, ⟨x6, rfl⟩, hrel, hz, hkp⟩, hce, hcv, hcc, st⟩
  · rw [h0] at hz hkp
    have hR2 : am_Rel b sz L xs D cI cJ cB S2 T'.heap := by rw [e1]; exact hrel
    have hS2 : va_S (fun q => sz ≤ q) s.heap T'.heap (locs ++ L1) := ⟨Nat.le_trans hS.1 (by rw [e1]; exact hz), fun q h1 h2 => by rw [e1, hkp q (Nat.lt_of_lt_of_le h1 hS.1) h2]; exact hS.2.1 q h1 h2, fun q hq => by
      rcases List.mem_append.mp hq with h | h
      · exact hS.2.2 q h
      · exact hL1 q h⟩
    have hrx : ∃ x, r = some (1, x) ∧ v = (0, 0) ∧ S3 = am_up S2 o.toNat 0 (x) ∧ am_at S2 o 21 = true ∧ 0 < (S2.2.1 o.toNat).2 := by
      have hret := am_fi_ret hfi h6 (show (am_m 160).2.2.2.1 = some .long by decide +kernel)
      obtain ⟨x, hx⟩ := hret
      have hx : r = some (1, x) := hx
      subst hx
      rw [am_b4_1] at hb4
      split at hb4
      · next hc =>
        cases hb4
        exact ⟨x, rfl, rfl, rfl, hc.1, hc.2⟩
      · cases hb4
    obtain ⟨x, rfl, rfl, rfl, ho2, hlen⟩ := hrx
    have hv1 : v0 = some (am_cv b sz (1, x)) := by injection hv0
    subst hv1
    have hC2 : s.heap.size + (S2.2.2.1 - S.2.2.1) = sz + (S2.2.2.1 - 1) := by omega
    have key : W p l e (headSpec [Cond.codeWith (am_m 276).1 (am_m 276).2.1 (am_m 276).2.2.1 (am_m 276).2.2.2.1 [(0, 8, 11, 13)]] { frames := d + 7, cells := S2.2.2.1 - S.2.2.1, slots := S2.2.2.2 - S.2.2.2, locals := 60 * d + 420 }).room s m (List.map (am_cv b sz) [(2, a), (0, p0), (2, o)]).toArray below meth c T'.heap (locs ++ L1) (S2.2.2.1 - S.2.2.1) (S2.2.2.2 - S.2.2.2) (MQ below (am_Qc b sz L xs D cI cJ cB (some (0, 0)) (am_up S2 o.toNat 0 (x))) (List.map (am_cv b sz) [(2, a), (0, p0), (2, o)]).toArray s (S2.2.2.1 - S.2.2.1) (S2.2.2.2 - S.2.2.2) (fun q => sz ≤ q)) (F0 m 7 lr (List.map (am_cv b sz) [(1, x), (0, 0), (2, o)])) := by
      generalize T'.heap = H5 at hR2 hS2 ⊢
      generalize locs ++ L1 = locs5 at hS2 ⊢
      refine am_step (S := S2) (st := [(1, x), (0, 0), (2, o)]) (c2 := (8, [(2, a), (0, p0), (2, o), (9, 0)], [], am_up S2 o.toNat 0 (x))) G hC2 (by simp only [am_up, Nat.sub_self, Nat.add_zero]; exact ⟨Nat.le_refl _, Nat.le_refl _⟩) (fun h31 => absurd h31 (by rw [show am_cd 276 7 = (25, 8, 0, 0, []) by decide +kernel]; exact Nat.not_le_of_lt (Nat.le_of_ble_eq_true rfl))) (by rw [show am_cd 276 7 = (25, 8, 0, 0, []) by decide +kernel]; exact Nat.le_of_ble_eq_true rfl) (by
        rw [show am_cd 276 7 = (25, 8, 0, 0, []) by decide +kernel]
        simp only [am_s1]
        rw [if_pos ⟨by unfold am_ix; simp only [Bool.and_eq_true, decide_eq_true_eq]; exact ⟨by decide, by show (0 : Int) < _; omega⟩, ho2⟩]
        rfl) hL hR2 hS2 ?_
      intro lr H5 locs5 hL hR2 hS2
      dsimp only at hL hR2 ⊢
      rw [show (am_up S2 o.toNat 0 (x)).2 = S2.2 from rfl, Nat.sub_self, Nat.sub_self, Nat.add_zero, Nat.add_zero]
      have hC3 : s.heap.size + (S2.2.2.1 - S.2.2.1) = sz + ((am_up S2 o.toNat 0 (x)).2.2.1 - 1) := hC2
      refine am_stS (S := am_up S2 o.toNat 0 (x)) (st := []) (st2 := []) (la2 := [(2, a), (0, p0), (2, o), (9, 0)]) G hC3 ⟨Nat.le_refl _, Nat.le_refl _⟩ (show am_cd 276 8 = (12, 14, 0, 0, []) by decide +kernel) (Nat.le_of_ble_eq_true rfl) rfl hL hR2 hS2 ?_
      intro lr H5 locs5 hL hR2 hS2
      refine am_stS (S := am_up S2 o.toNat 0 (x)) (st := []) (st2 := [(0, 0)]) (la2 := [(2, a), (0, p0), (2, o), (9, 0)]) G hC3 ⟨Nat.le_refl _, Nat.le_refl _⟩ (show am_cd 276 14 = (0, 15, 0, 0, []) by decide +kernel) (Nat.le_of_ble_eq_true rfl) rfl hL hR2 hS2 ?_
      intro lr H5 locs5 hL hR2 hS2
      exact am_fin (tT := [(0, 0)]) (pT := 15) (k := 276) B.exec B.bytes hr hlocks (by rw [show am_cd 276 15 = (36, 16, 0, 0, []) by decide +kernel]; rfl) (fun x h9 => (by cases h9)) hR2 hS2
    have X2 := X'
    rw [Nat.zero_add, Nat.zero_add] at X2
    obtain ⟨t2, k1, k2⟩ := key T' rfl X2
    exact ⟨t2, st t2 k1, k2⟩
  · rw [h0] at hz hkp
    have hb5 : v = (0, 1) ∧ S3 = S2 := by
      unfold am_b4 at hb4
      cases hb4
      exact ⟨rfl, rfl⟩
    obtain ⟨rfl, rfl⟩ := hb5
    have hR2 : am_Rel b sz L xs D cI cJ cB S3 T'.heap := by rw [e1]; exact hrel
    have hS2 : va_S (fun q => sz ≤ q) s.heap T'.heap (locs ++ L1) := ⟨Nat.le_trans hS.1 (by rw [e1]; exact hz), fun q h1 h2 => by rw [e1, hkp q (Nat.lt_of_lt_of_le h1 hS.1) h2]; exact hS.2.1 q h1 h2, fun q hq => by
      rcases List.mem_append.mp hq with h | h
      · exact hS.2.2 q h
      · exact hL1 q h⟩
    have key : vx_W p l e (headSpec [Cond.codeWith (am_m 276).1 (am_m 276).2.1 (am_m 276).2.2.1 (am_m 276).2.2.2.1 [(0, 8, 11, 13)]] { frames := d + 7, cells := S3.2.2.1 - S.2.2.1, slots := S3.2.2.2 - S.2.2.2, locals := 60 * d + 420 }).room s m (List.map (am_cv b sz) [(2, a), (0, p0), (2, o)]).toArray below meth c T'.heap (locs ++ L1) (S3.2.2.1 - S.2.2.1) (S3.2.2.2 - S.2.2.2) (MQ below (am_Qc b sz L xs D cI cJ cB (some (0, 1)) S3) (List.map (am_cv b sz) [(2, a), (0, p0), (2, o)]).toArray s (S3.2.2.1 - S.2.2.1) (S3.2.2.2 - S.2.2.2) (fun q => sz ≤ q)) (F0 m 4 lr (List.map (am_cv b sz) [(0, 0), (2, o)])) q := by
      refine vx_catch (own := RL) (name := am_N) (E := am_N) (ce := ce) hown [] ((tableOf [(0, 8, 11, 13)]).getD 0 default) [] (by rw [htab]; rfl) (fun z hz => nomatch hz) (by decide +kernel) (by decide +kernel) (G.2.2.2.2.1 _ (am_tbO (by decide +kernel) rfl)) (G.2.2.2.2.1 _ (am_tbO (by decide +kernel) rfl)) (by rw [e1]; exact hce) hcv hcc ?_
      refine lv_astore_n (x := q) G.1 G.2.1 (show decode (am_m 276).2.1 11 = .ok (.astore_n 3, 1) by decide +kernel) rfl hL.2 (by decide +kernel) rfl (fun lr2 hn => ?_)
      refine lv_iconst (v := 1) G.1 G.2.1 (show decode (am_m 276).2.1 12 = .ok (.iconst 1, 1) by decide +kernel) rfl ?_
      exact W.iret (v := 1) B.exec B.bytes hr (fun t2 ht hw => ⟨rfl, by rw [ht]; exact hR2, hS2.F ht⟩) hS2.2.2 (show decode (am_m 276).2.1 13 = .ok (.ireturn, 1) by decide +kernel)
    have X2 := X'
    rw [Nat.zero_add, Nat.zero_add] at X2
    obtain ⟨t2, k1, k2⟩ := key T' rfl X2
    exact ⟨t2, st.trans k1, k2⟩
theorem am_cd41 (h : (am_cd M pc).1 = 41) : ∃ (i k : Nat), am_cd M pc = (41, pc + 3, k, 8, [i]) ∧ am_lk ((am_m M).2.2.2.2.1 * 1000 + i) am_lm = some (8, k) ∧ i < 1000 ∧ decode (am_m M).2.1 pc = .ok (.invokestatic i, 3) := by
  unfold am_cd at h ⊢
  split at h
  · next i len hd =>
    rw [hd]
    try dsimp only
    unfold am_tr at h ⊢
    split at h <;> first
      | (cases h; done)
      | (unfold am_jump at h; split at h <;> cases h; done)
      | (split at h <;> (try unfold am_jump at h) <;> (repeat' split at h) <;> cases h; done)
      | skip
    next k =>
      split at h
      · next md m2 hk =>
        obtain ⟨hk1, hk2⟩ := am_lk2E hk
        split at h
        · cases h
        · next h7 =>
          split at h
          · next h8 =>
            subst h8
            rw [if_neg h7, if_pos rfl]
            exact ⟨k, m2, rfl, hk2, hk1, rfl⟩
          · split at h
            · cases h
            · split at h <;> cases h
      · cases h
  · cases h
theorem am_a4E {k : Nat} {as rest : List aV} {o : Int} (h : am_a4 k st S = some (as, o, rest)) : st = (as ++ [(2, o)]).reverse ++ rest ∧ (as.map fun v => v.1) = (am_m k).2.2.2.2.2 ∧ (rest.map fun v => if v.1 = 1 then 2 else 1).sum ≤ 8 ∧ am_at S (as.getD 0 (9, 0)).2 11 = true ∧ am_at S o 21 = true := by
  unfold am_a4 at h
  split at h
  · next o2 r =>
    split at h
    · next hc =>
      cases h
      obtain ⟨h1, h2, h3, h4, h5, h6⟩ := hc
      refine ⟨?_, h1, h2, h4, h5⟩
      rw [List.reverse_append, List.reverse_reverse]
      simp
    · cases h
  · cases h
theorem am_h8 : am_lm.all (fun q => !decide (q.2.1 = 8) || (decide (q = (14106, 8, 152)) || (decide (q = (14115, 8, 153)) || (decide (q = (14119, 8, 154)) || decide (q = (14143, 8, 160)))))) = true := by decide +kernel
set_option maxHeartbeats 2000000 in
theorem am_ext : am_Ext := by
  intro n hW p l e R s m args below meth c H locs cells slots Q b sz L xs D cI cJ cB M pc la st lr S d as rest lT tT o pT ST S2 S3 r v hfl G hC h41 ha4 hrun hfi hb4 hfr hroom hL hR hS kk
  obtain ⟨i, k, hcd, hlk, hi, hd⟩ := am_cd41 h41
  rw [hcd] at ha4 hrun hfi kk
  dsimp only at ha4 hrun hfi kk
  obtain ⟨hst, htag, hcat, har, hao⟩ := am_a4E ha4
  have hfix : CallFix p m c (am_m M).2.1 (am_m M).2.2.1 s args am_tb (am_own (am_m M).2.2.2.2.1) := ⟨G.1, G.2.1, G.2.2.1, G.2.2.2.1, G.2.2.2.2.1⟩
  have hpre := am_pre (as := as ++ [(2, o)]) G hR hS
  have hpsS : PreS s H (am_Pc b sz L xs D cI cJ cB (as ++ [(2, o)]) S) ((as ++ [(2, o)]).map (am_cv b sz)) := ⟨am_blind, hpre⟩
  have hstk : (F0 m pc lr (st.map (am_cv b sz))).stack = ((as ++ [(2, o)]).map (am_cv b sz)).reverse ++ rest.map (am_cv b sz) := by
    show st.map (am_cv b sz) = _
    rw [hst, List.map_append, List.map_reverse]
  have h8 := List.all_eq_true.mp am_h8 _ (am_lk_mem hlk)
  simp only [decide_true, Bool.not_true, Bool.false_or, Bool.or_eq_true, decide_eq_true_eq] at h8
  have hMl := am_own_lt
  refine am_after (rest := rest) (r := some v) (S2 := S3) (mc := S3.2.2.1 - S.2.2.1) (ms := S3.2.2.2 - S.2.2.2) (ar := ((as ++ [(2, o)]).map (am_cv b sz)).toArray) ?_ hS kk
  have hbase : ∀ (j : Nat) (hh : List (Nat × Nat × Nat × Nat)) (np : Nat), am_own (am_m M).2.2.2.2.1 = RL → (am_m j).1.cls = RL → (parseMethodDescriptor (am_m j).1.desc).map (fun d => d.parameters.length) = some np → (am_m j).2.2.1 ≤ 30 → Cond.codeWith (am_m j).1 (am_m j).2.1 (am_m j).2.2.1 (am_m j).2.2.2.1 hh ∈ am_tb → Cond.methodLink RL i (am_m j).1 ∈ am_tb → Cond.static (am_m j).1 ∈ am_tb → Cond.initialized RL ∈ am_tb → vx_CSW R s args (am_own (am_m M).2.2.2.2.1) i (am_m j).1 (am_m j).2.1 (am_m j).2.2.1 (am_m j).2.2.2.1 hh [Cond.codeWith (am_m j).1 (am_m j).2.1 (am_m j).2.2.1 (am_m j).2.2.2.1 hh] { frames := d + 7, cells := S3.2.2.1 - S.2.2.1, slots := S3.2.2.2 - S.2.2.2, locals := 60 * d + 420 } (S3.2.2.1 - S.2.2.1) (S3.2.2.2 - S.2.2.2) np := by
    intro j hh np ho hcl hpn hml hcw hlw hsw hiw
    refine ⟨⟨rfl, rfl, by show d + 7 + 1 ≤ R.frames; omega, by show 8 + ((am_m j).2.2.1 + 11) + (60 * d + 420) ≤ R.locals; omega, fun w hw a' U hW2 => ?_, List.mem_cons_self⟩, G.2.2.2.2.1 _ hcw, by rw [hcl]; exact G.2.2.2.2.1 _ hiw, by rw [hcl]; decide, fun sig hs => ?_, by rw [ho]; exact G.2.2.2.2.1 _ hlw, G.2.2.2.2.1 _ hsw⟩
    · rw [List.mem_singleton.mp hw]
      exact am_mv hcw hW2 (G.2.2.2.2.1 _ hcw)
    · rw [hs] at hpn
      exact (Option.some.inj hpn).symm
  have hown : ∀ key, (am_m M).2.2.2.2.1 * 1000 + i = key → key / 1000 = 14 → (am_m M).2.2.2.2.1 = 14 := by
    intro key h1 h2
    omega
  rcases h8 with h8 | h8 | h8 | h8
  · injection h8 with e1 e2
    injection e2 with e3 e4
    subst e4
    have ho := hown _ e1 (by decide)
    have hi2 : i = 106 := by omega
    subst hi2
    have ho2 : am_own (am_m M).2.2.2.2.1 = RL := by rw [ho]; rfl
    have hsig : (am_m 152).2.2.2.2.2 = [2, 0, 0] := by decide +kernel
    rw [hsig] at htag
    match as, htag with
    | [(t, a), (tp0, p0), (tp1, p1)], htag =>
    simp only [List.map_cons, List.map_nil, List.cons.injEq, and_true] at htag
    obtain ⟨rfl, rfl, rfl⟩ := htag
    have hM := am_h_kept (b := b) (sz := sz) (L := L) (xs := xs) (D := D) (cI := cI) (cJ := cJ) (cB := cB) (l := l) hW hfl har hao hrun hfi hb4
    exact vx_runSW (g := F0 m pc lr (st.map (am_cv b sz))) hfix hM (hbase 273 [(0, 10, 13, 13)] 4 ho2 (by decide +kernel) (by decide +kernel) (by decide +kernel) am_hw_kept (am_wAt_mem (p := 1316) (by decide +kernel)) (am_wAt_mem (p := 1317) (by decide +kernel)) (am_tbO (by decide +kernel) rfl)) hpsS rfl rfl hL.2.1 hstk (am_room8 hcat) hd hroom
  · injection h8 with e1 e2
    injection e2 with e3 e4
    subst e4
    have ho := hown _ e1 (by decide)
    have hi2 : i = 115 := by omega
    subst hi2
    have ho2 : am_own (am_m M).2.2.2.2.1 = RL := by rw [ho]; rfl
    have hsig : (am_m 153).2.2.2.2.2 = [2, 0, 0, 0] := by decide +kernel
    rw [hsig] at htag
    match as, htag with
    | [(t, a), (tp0, p0), (tp1, p1), (tp2, p2)], htag =>
    simp only [List.map_cons, List.map_nil, List.cons.injEq, and_true] at htag
    obtain ⟨rfl, rfl, rfl, rfl⟩ := htag
    have hM := am_h_side (b := b) (sz := sz) (L := L) (xs := xs) (D := D) (cI := cI) (cJ := cJ) (cB := cB) (l := l) hW hfl har hao hrun hfi hb4
    exact vx_runSW (g := F0 m pc lr (st.map (am_cv b sz))) hfix hM (hbase 274 [(0, 12, 15, 13)] 5 ho2 (by decide +kernel) (by decide +kernel) (by decide +kernel) am_hw_side (am_wAt_mem (p := 1389) (by decide +kernel)) (am_wAt_mem (p := 1390) (by decide +kernel)) (am_tbO (by decide +kernel) rfl)) hpsS rfl rfl hL.2.1 hstk (am_room8 hcat) hd hroom
  · injection h8 with e1 e2
    injection e2 with e3 e4
    subst e4
    have ho := hown _ e1 (by decide)
    have hi2 : i = 119 := by omega
    subst hi2
    have ho2 : am_own (am_m M).2.2.2.2.1 = RL := by rw [ho]; rfl
    have hsig : (am_m 154).2.2.2.2.2 = [2, 0, 0] := by decide +kernel
    rw [hsig] at htag
    match as, htag with
    | [(t, a), (tp0, p0), (tp1, p1)], htag =>
    simp only [List.map_cons, List.map_nil, List.cons.injEq, and_true] at htag
    obtain ⟨rfl, rfl, rfl⟩ := htag
    have hM := am_h_word (b := b) (sz := sz) (L := L) (xs := xs) (D := D) (cI := cI) (cJ := cJ) (cB := cB) (l := l) hW hfl har hao hrun hfi hb4
    exact vx_runSW (g := F0 m pc lr (st.map (am_cv b sz))) hfix hM (hbase 275 [(0, 10, 13, 13)] 4 ho2 (by decide +kernel) (by decide +kernel) (by decide +kernel) am_hw_word (am_wAt_mem (p := 1399) (by decide +kernel)) (am_wAt_mem (p := 1400) (by decide +kernel)) (am_tbO (by decide +kernel) rfl)) hpsS rfl rfl hL.2.1 hstk (am_room8 hcat) hd hroom
  · injection h8 with e1 e2
    injection e2 with e3 e4
    subst e4
    have ho := hown _ e1 (by decide)
    have hi2 : i = 143 := by omega
    subst hi2
    have ho2 : am_own (am_m M).2.2.2.2.1 = RL := by rw [ho]; rfl
    have hsig : (am_m 160).2.2.2.2.2 = [2, 0] := by decide +kernel
    rw [hsig] at htag
    match as, htag with
    | [(t, a), (tp0, p0)], htag =>
    simp only [List.map_cons, List.map_nil, List.cons.injEq, and_true] at htag
    obtain ⟨rfl, rfl⟩ := htag
    have hM := am_h_row (b := b) (sz := sz) (L := L) (xs := xs) (D := D) (cI := cI) (cJ := cJ) (cB := cB) (l := l) hW hfl har hao hrun hfi hb4
    exact vx_runSW (g := F0 m pc lr (st.map (am_cv b sz))) hfix hM (hbase 276 [(0, 8, 11, 13)] 3 ho2 (by decide +kernel) (by decide +kernel) (by decide +kernel) am_hw_row (am_wAt_mem (p := 1410) (by decide +kernel)) (am_wAt_mem (p := 1411) (by decide +kernel)) (am_tbO (by decide +kernel) rfl)) hpsS rfl rfl hL.2.1 hstk (am_room8 hcat) hd hroom

end AMS
theorem am_walk : ∀ n, am_Walk n := am_walk_open am_ext
