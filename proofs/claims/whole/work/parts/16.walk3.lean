/-! Calls, and the walk by induction. -/
section AMS
variable {p : Program} {l : Launch} {e : Env} {R : Room} {s : State} {m : MethodId} {args : Array Value} {below : List Frame} {meth : Method} {c : Code} {H : Heap} {locs : List Loc} {cells slots : Nat} {Q : State → Prop}
variable {b sz L : Nat} {xs : Nat → Int32} {D : va_G} {cI cJ cB : ClassId} {M pc : Nat} {la st : List aV} {lr : Array Slot} {S : aS} {c2 : aC}

theorem am_l1E {o i md k : Nat} (h : am_lk (o * 1000 + i) am_lm = some (md, k)) : k < 272 := by
  have h1 := List.all_eq_true.mp am_l1 _ (am_lk_mem h)
  simp only [Bool.and_eq_true, decide_eq_true_eq] at h1
  exact h1.1
theorem am_arE {i : aI} {as rest : List aV} (h : am_ar i st S = some (as, rest)) : st = as.reverse ++ rest ∧ (as.map fun v => v.1) = (am_m i.2.2.1).2.2.2.2.2 ∧ (rest.map fun v => if v.1 = 1 then 2 else 1).sum ≤ 8 ∧ (∀ v ∈ as, v.1 = 2 → 0 ≤ v.2) ∧ (i.2.2.2.1 = 0 → am_at S (as.getD 0 (9, 0)).2 (am_m i.2.2.1).2.2.2.2.1 = true) := by
  unfold am_ar at h
  split at h
  · next hc =>
    cases h
    obtain ⟨h1, h2, h3, h4⟩ := hc
    refine ⟨by rw [List.reverse_reverse, List.take_append_drop], h1, h2, fun v hv ht => ?_, h4⟩
    have hm : v ∈ st := List.mem_of_mem_take (List.mem_reverse.mp hv)
    have := List.all_eq_true.mp h3 v hm
    simp only [Bool.and_eq_true, decide_eq_true_eq, Bool.or_eq_true, Bool.not_eq_true', decide_eq_false_iff_not] at this
    rcases this.2 with h5 | h5
    · exact absurd ht h5
    · exact h5
  · cases h
theorem am_pre {as : List aV} (G : am_G b sz L xs D cI cJ cB p s m args meth c M) (hR : am_Rel b sz L xs D cI cJ cB S H) (hS : va_S (fun q => sz ≤ q) s.heap H locs) : ∀ U : State, U.heap = H → s.WarmedH U.vm → am_Pc b sz L xs D cI cJ cB as S (as.map (am_cv b sz)).toArray U := by
  intro U hU hW
  refine ⟨rfl, fun w hw => am_mv hw hW (G.2.2.2.2.1 w hw), va_K.moved hW.alike G.2.2.2.2.2.1, am_X_moved G.2.2.2.2.2.2.1 hW.alike ?_, G.2.2.2.2.2.2.2.1, by rw [hU]; exact hR, ?_⟩
  rotate_left
  · rw [hU]
    exact ⟨vx_Zq.moved hW.alike (G.2.2.2.2.2.2.2.2.2.2.2.1.kept hS.2.1), vx_Zq.moved hW.alike (G.2.2.2.2.2.2.2.2.2.2.2.2.kept hS.2.1)⟩
  rw [hU]
  have h1 := G.2.2.2.2.2.2.2.1
  have h2 := G.2.2.2.2.2.2.2.2.1
  exact hS.2.1 b (by omega) (by omega)
theorem am_callB {own md index k d : Nat} {S2 : aS} (G : am_G b sz L xs D cI cJ cB p s m args meth c M) (hk : k < 272) (hfr : d + 1 ≤ R.frames ∧ 60 * (d + 1) ≤ R.locals) {n : Nat} (hn : am_np k = some n) (hl : Cond.methodLink (am_own own) index (am_m k).1 ∈ am_tb) : CallB R s args (am_own own) index (am_m k).1 (am_m k).2.1 (am_m k).2.2.1 (am_m k).2.2.2.1 (am_wl k) (am_rm d S S2) (S2.2.2.1 - S.2.2.1) (S2.2.2.2 - S.2.2.2) n := by
  obtain ⟨h1, h2, h3, h4, h5, h6, h7⟩ := am_m1E hk
  have hcode := am_code hk
  refine ⟨rfl, rfl, hfr.1, ?_, fun w hw a' U hW => ?_, List.mem_cons_self, G.2.2.2.2.1 _ hcode, G.2.2.2.2.1 _ h1, ⟨h4, h5⟩, fun sig hs => ?_, G.2.2.2.2.1 _ hl⟩
  · show 8 + ((am_m k).2.2.1 + 11) + 60 * d ≤ R.locals
    omega
  · rw [List.mem_singleton.mp hw]
    exact am_mv hcode hW (G.2.2.2.2.1 _ hcode)
  · unfold am_np at hn
    rw [hs] at hn
    exact (Option.some.inj hn).symm
theorem am_callN {own index k d : Nat} {S2 : aS} (G : am_G b sz L xs D cI cJ cB p s m args meth c M) (hk : k < 272) (hfr : d + 1 ≤ R.frames ∧ 60 * (d + 1) ≤ R.locals) {n : Nat} (hn : am_np k = some n) (hl : Cond.methodLinkNest (am_own own) index (am_m k).1 "FormSpeller" ∈ am_tb) : va_CN R s args (am_own own) index (am_m k).1 "FormSpeller" (am_m k).2.1 (am_m k).2.2.1 (am_m k).2.2.2.1 (am_wl k) (am_rm d S S2) (S2.2.2.1 - S.2.2.1) (S2.2.2.2 - S.2.2.2) n := by
  obtain ⟨h1, h2, h3, h4, h5, h6, h7⟩ := am_m1E hk
  have hcode := am_code hk
  refine ⟨⟨rfl, rfl, hfr.1, ?_, fun w hw a' U hW => ?_, List.mem_cons_self⟩, G.2.2.2.2.1 _ hcode, G.2.2.2.2.1 _ h1, ⟨h4, h5⟩, fun sig hs => ?_, G.2.2.2.2.1 _ hl⟩
  · show 8 + ((am_m k).2.2.1 + 11) + 60 * d ≤ R.locals
    omega
  · rw [List.mem_singleton.mp hw]
    exact am_mv hcode hW (G.2.2.2.2.1 _ hcode)
  · unfold am_np at hn
    rw [hs] at hn
    exact (Option.some.inj hn).symm
theorem am_room8 {rest st0 : List aV} (h : (rest.map fun v => if v.1 = 1 then 2 else 1).sum ≤ 8) : 2 * (F0 m pc lr (st0.map (am_cv b sz))).monitorRoom + ((rest.map (am_cv b sz)).map fun v => v.category).sum ≤ 8 := by
  rw [am_cats]
  show 2 * 0 + _ ≤ 8
  omega
/-- a call: the callee's run and the run behind it -/
theorem am_call {n d k md i : Nat} {as rest : List aV} {S2 ST : aS} {pT : Nat} {lT tT : List aV} {r : Option aV} (hW : am_Walk n) (hfl : l.flags = flags0) (G : am_G b sz L xs D cI cJ cB p s m args meth c M) (hcd : am_cd M pc = (40, pc + 3, k, (md : Int), [i])) (hlk : am_lk ((am_m M).2.2.2.2.1 * 1000 + i) am_lm = some (md, k)) (hi : i < 1000)
    (hdc : (decode (am_m M).2.1 pc = .ok (.invokevirtual i, 3) ∧ md = 0) ∨ (decode (am_m M).2.1 pc = .ok (.invokestatic i, 3) ∧ (md = 1 ∨ md = 4)) ∨ (decode (am_m M).2.1 pc = .ok (.invokespecial i, 3) ∧ (md = 2 ∨ md = 5)))
    (har : am_ar (am_cd M pc) st S = some (as, rest)) (hrun : am_run n d k 0 (am_en k as) [] S = some (pT, lT, tT, ST)) (hfi : am_fi k (am_cd k pT) tT ST = some (r, S2)) (h6 : ∀ x, r ≠ some (6, x)) (hfr : d + 1 ≤ R.frames ∧ 60 * (d + 1) ≤ R.locals) (hroom : cells + (S2.2.2.1 - S.2.2.1) ≤ R.cells ∧ slots + (S2.2.2.2 - S.2.2.2) ≤ R.slots)
    (hL : am_LR b sz lr (am_m M).2.2.1 la) (hR : am_Rel b sz L xs D cI cJ cB S H) (hS : va_S (fun q => sz ≤ q) s.heap H locs)
    (kk : ∀ (H1 : Heap) (locs1 : List Loc), am_Rel b sz L xs D cI cJ cB S2 H1 → va_S (fun q => sz ≤ q) s.heap H1 locs1 → W p l e R s m args below meth c H1 locs1 (cells + (S2.2.2.1 - S.2.2.1)) (slots + (S2.2.2.2 - S.2.2.2)) Q (F0 m (pc + 3) lr ((r.toList ++ rest).map (am_cv b sz)))) : W p l e R s m args below meth c H locs cells slots Q (F0 m pc lr (st.map (am_cv b sz))) := by
  have hk := am_l1E hlk
  obtain ⟨hst, htag, hcat, hnn, hrecv⟩ := am_arE har
  rw [hcd] at htag hrecv
  dsimp only at htag hrecv
  have hM : Met l (am_m k).1 (am_wl k) (am_rm d S S2) (am_Pc b sz L xs D cI cJ cB as S) (am_Qc b sz L xs D cI cJ cB r S2) (S2.2.2.1 - S.2.2.1) (S2.2.2.2 - S.2.2.2) (fun q => sz ≤ q) := am_met hW hfl hk hrun hfi h6 htag
  obtain ⟨ps, hps⟩ := am_lmw hlk
  have hfix : CallFix p m c (am_m M).2.1 (am_m M).2.2.1 s args am_tb (am_own (am_m M).2.2.2.2.1) := ⟨G.1, G.2.1, G.2.2.1, G.2.2.2.1, G.2.2.2.2.1⟩
  have hpre := am_pre (as := as) G hR hS
  have hsize : (F0 m pc lr (st.map (am_cv b sz))).locals.size = (am_m M).2.2.1 := hL.2.1
  refine am_after (rest := rest) (r := r) (S2 := S2) (mc := S2.2.2.1 - S.2.2.1) (ms := S2.2.2.2 - S.2.2.2) (ar := (as.map (am_cv b sz)).toArray) ?_ hS kk
  rcases hdc with ⟨hd, rfl⟩ | ⟨hd, hmd⟩ | ⟨hd, hmd⟩
  · -- virtual
    unfold am_mw at hps
    split at hps <;> first | (next e1 => cases e1; done) | (cases hps; done) | skip
    next e1 =>
      cases e1
      simp only [Bool.and_eq_true, decide_eq_true_eq] at hps
      obtain ⟨w0, w1, w2, w3, w4, w5⟩ := hps
      have hl := am_wAt_mem w0
      rw [(am_key hi).1, (am_key hi).2] at hl
      obtain ⟨a0, a1, a2, a3⟩ := am_atE (hrecv rfl)
      match as, htag with
      | [], htag => rw [← htag] at w4; exact absurd w4 (by decide)
      | (t, a) :: as2, htag =>
      have ht : t = 2 := by rw [← htag] at w4; exact w4
      subst ht
      have a0 : 0 < a := a0
      have he := am_ws_get (b := b) (sz := sz) (cI := cI) (cJ := cJ) (cB := cB) a1 a2
      obtain ⟨rr, g1, cell, q1, q2, q3, q4⟩ := (show va_at D am_cl (sz + (am_pj a.toNat - 1), .inr (_, _)) H by rw [← am_ceO a3 w5]; exact hR.1 _ _ he)
      have hfc := (G.2.2.2.2.2.1.1 _ _ (am_cl_at _ w5)).2.1
      have hpv : PreV s H (am_own (am_m k).2.2.2.2.1) (sz + (am_pj a.toNat - 1)) (am_Pc b sz L xs D cI cJ cB ((2, a) :: as2) S) (as2.map (am_cv b sz)) := by
        refine ⟨am_blind, ⟨cell, q1, by rw [q3]; rfl, by rw [q2]; exact hfc⟩, fun U hU hw => ?_⟩
        have := hpre U hU hw
        rw [List.map_cons, am_ref a0] at this
        exact this
      have hn : (am_m k).2.2.2.2.2.length - 1 = (as2.map (am_cv b sz)).length := by
        rw [← htag]
        simp
      rw [hn] at w3
      have hcw : CallW R s args (am_own (am_m M).2.2.2.2.1) (am_own (am_m k).2.2.2.2.1) i (am_m k).1 (am_m k).2.1 (am_m k).2.2.1 (am_m k).2.2.2.1 (am_wl k) (am_rm d S S2) (S2.2.2.1 - S.2.2.1) (S2.2.2.2 - S.2.2.2) (as2.map (am_cv b sz)).length := ⟨am_callB (md := 0) G hk hfr w3 hl, G.2.2.2.2.1 _ (am_wAt_mem w1), G.2.2.2.2.1 _ (am_wAt_mem w2)⟩
      have hrunV := va_runV (p := p) (l := l) (e := e) (below := below) (meth := meth) (locs := locs) (cells := cells) (slots := slots) (g := F0 m pc lr (st.map (am_cv b sz))) (rest := rest.map (am_cv b sz)) hfix hM hcw hpv rfl rfl hsize (by
        show st.map (am_cv b sz) = _
        rw [hst, List.map_append, List.map_reverse, List.map_cons, am_ref a0, List.reverse_cons, List.append_assoc]
        rfl) (am_room8 hcat) hd hroom
      rw [List.map_cons, am_ref a0]
      exact hrunV
  · -- static
    have hpsS : PreS s H (am_Pc b sz L xs D cI cJ cB as S) (as.map (am_cv b sz)) := ⟨am_blind, hpre⟩
    have hstk : (F0 m pc lr (st.map (am_cv b sz))).stack = (as.map (am_cv b sz)).reverse ++ rest.map (am_cv b sz) := by
      show st.map (am_cv b sz) = _
      rw [hst, List.map_append, List.map_reverse]
    rcases hmd with rfl | rfl
    · unfold am_mw at hps
      split at hps <;> first | (next e1 => cases e1; done) | (cases hps; done) | skip
      next e1 =>
        cases e1
        simp only [Bool.and_eq_true, decide_eq_true_eq] at hps
        obtain ⟨w0, w1, w3⟩ := hps
        have hl := am_wAt_mem w0
        rw [(am_key hi).1, (am_key hi).2] at hl
        have hn : (am_m k).2.2.2.2.2.length = (as.map (am_cv b sz)).length := by rw [← htag]; simp
        rw [hn] at w3
        exact va_runS (g := F0 m pc lr (st.map (am_cv b sz))) hfix hM ⟨am_callB (md := 0) G hk hfr w3 hl, G.2.2.2.2.1 _ (am_wAt_mem w1)⟩ hpsS rfl rfl hsize hstk (am_room8 hcat) hd hroom
    · unfold am_mw at hps
      split at hps <;> first | (next e1 => cases e1; done) | (cases hps; done) | skip
      next e1 =>
        cases e1
        simp only [Bool.and_eq_true, decide_eq_true_eq] at hps
        obtain ⟨w0, w1, w3⟩ := hps
        have hl := am_wAt_mem w0
        rw [(am_key hi).1, (am_key hi).2] at hl
        have hn : (am_m k).2.2.2.2.2.length = (as.map (am_cv b sz)).length := by rw [← htag]; simp
        rw [hn] at w3
        exact va_runSN (g := F0 m pc lr (st.map (am_cv b sz))) hfix hM ⟨am_callN G hk hfr w3 hl, G.2.2.2.2.1 _ (am_wAt_mem w1), trivial⟩ hpsS rfl rfl hsize hstk (am_room8 hcat) hd hroom
  · -- constructors
    have hcons : ∀ (w4 : (am_m k).2.2.2.2.2.getD 0 9 = 2), ∃ a as2, as = (2, a) :: as2 ∧ 0 ≤ a := by
      intro w4
      match as, htag, hnn with
      | [], htag, _ => rw [← htag] at w4; exact absurd w4 (by decide)
      | (t, a) :: as2, htag, hnn =>
        have ht : t = 2 := by rw [← htag] at w4; exact w4
        subst ht
        exact ⟨a, as2, rfl, hnn (2, a) List.mem_cons_self rfl⟩
    rcases hmd with rfl | rfl
    · unfold am_mw at hps
      split at hps <;> first | (next e1 => cases e1; done) | (cases hps; done) | skip
      next e1 =>
        cases e1
        simp only [Bool.and_eq_true, decide_eq_true_eq] at hps
        obtain ⟨w0, w1, w3, w4, w5, w6⟩ := hps
        have hl := am_wAt_mem w0
        rw [(am_key hi).1, (am_key hi).2] at hl
        obtain ⟨a, as2, rfl, h0⟩ := hcons w4
        have hn : (am_m k).2.2.2.2.2.length - 1 = (as2.map (am_cv b sz)).length := by rw [← htag]; simp
        rw [hn] at w3
        have hcb := am_callB (S := S) (S2 := S2) (md := 0) G hk hfr w3 hl
        rw [w6] at hcb
        have hpsS : PreS s H (am_Pc b sz L xs D cI cJ cB ((2, a) :: as2) S) (.ref (am_ph b sz a.toNat) :: as2.map (am_cv b sz)) := ⟨am_blind, fun U hU hw => by have := hpre U hU hw; rw [List.map_cons, am_cv2 h0] at this; exact this⟩
        have hrunI := va_runI (g := F0 m pc lr (st.map (am_cv b sz))) (rest := rest.map (am_cv b sz)) (p := p) (l := l) (e := e) (below := below) (meth := meth) (locs := locs) (cells := cells) (slots := slots) hfix hM ⟨hcb, w5, G.2.2.2.2.1 _ (am_wAt_mem w1)⟩ hpsS rfl rfl hsize (by
          show st.map (am_cv b sz) = _
          rw [hst, List.map_append, List.map_reverse, List.map_cons, am_cv2 h0, List.reverse_cons, List.append_assoc]
          rfl) (am_room8 hcat) hd hroom
        rw [List.map_cons, am_cv2 h0]
        exact hrunI
    · unfold am_mw at hps
      split at hps <;> first | (next e1 => cases e1; done) | (cases hps; done) | skip
      next e1 =>
        cases e1
        simp only [Bool.and_eq_true, decide_eq_true_eq] at hps
        obtain ⟨w0, w1, w3, w4, w5, w6⟩ := hps
        have hl := am_wAt_mem w0
        rw [(am_key hi).1, (am_key hi).2] at hl
        obtain ⟨a, as2, rfl, h0⟩ := hcons w4
        have hn : (am_m k).2.2.2.2.2.length - 1 = (as2.map (am_cv b sz)).length := by rw [← htag]; simp
        rw [hn] at w3
        have hcb := am_callN (S := S) (S2 := S2) G hk hfr w3 hl
        rw [w6] at hcb
        have hpsS : PreS s H (am_Pc b sz L xs D cI cJ cB ((2, a) :: as2) S) (.ref (am_ph b sz a.toNat) :: as2.map (am_cv b sz)) := ⟨am_blind, fun U hU hw => by have := hpre U hU hw; rw [List.map_cons, am_cv2 h0] at this; exact this⟩
        have hrunI := va_runIN (g := F0 m pc lr (st.map (am_cv b sz))) (rest := rest.map (am_cv b sz)) (p := p) (l := l) (e := e) (below := below) (meth := meth) (locs := locs) (cells := cells) (slots := slots) hfix hM ⟨hcb, w5, G.2.2.2.2.1 _ (am_wAt_mem w1)⟩ hpsS rfl rfl hsize (by
          show st.map (am_cv b sz) = _
          rw [hst, List.map_append, List.map_reverse, List.map_cons, am_cv2 h0, List.reverse_cons, List.append_assoc]
          rfl) (am_room8 hcat) hd hroom
        rw [List.map_cons, am_cv2 h0]
        exact hrunI

end AMS
/-- what is still owed of the law's helpers (a call that may throw, caught there): their step -/
def am_Ext : Prop := ∀ (n : Nat), am_Walk n → ∀ (p : Program) (l : Launch) (e : Env) (R : Jvm.Room) (s : State) (m : MethodId) (args : Array Value) (below : List Frame) (meth : Method) (c : Code) (H : Heap) (locs : List Loc) (cells slots : Nat) (Q : State → Prop) (b sz L : Nat) (xs : Nat → Int32) (D : va_G) (cI cJ cB : ClassId) (M pc : Nat) (la st : List aV) (lr : Array Slot) (S : aS) (d : Nat) (as rest lT tT : List aV) (o : Int) (pT : Nat) (ST S2 S3 : aS) (r : Option aV) (v : aV),
  l.flags = flags0 → am_G b sz L xs D cI cJ cB p s m args meth c M → s.heap.size + cells = sz + (S.2.2.1 - 1) → (am_cd M pc).1 = 41 → am_a4 (am_cd M pc).2.2.1 st S = some (as, o, rest) → am_run n d (am_cd M pc).2.2.1 0 (am_en (am_cd M pc).2.2.1 as) [] S = some (pT, lT, tT, ST) → am_fi (am_cd M pc).2.2.1 (am_cd (am_cd M pc).2.2.1 pT) tT ST = some (r, S2) → am_b4 o r S2 = some (v, S3) → (d + 8 ≤ R.frames ∧ 60 * (d + 8) ≤ R.locals) → (cells + (S3.2.2.1 - S.2.2.1) ≤ R.cells ∧ slots + (S3.2.2.2 - S.2.2.2) ≤ R.slots) → am_LR b sz lr (am_m M).2.2.1 la → am_Rel b sz L xs D cI cJ cB S H → va_S (fun q => sz ≤ q) s.heap H locs →
  (∀ (H1 : Heap) (locs1 : List Loc), am_Rel b sz L xs D cI cJ cB S3 H1 → va_S (fun q => sz ≤ q) s.heap H1 locs1 → W p l e R s m args below meth c H1 locs1 (cells + (S3.2.2.1 - S.2.2.1)) (slots + (S3.2.2.2 - S.2.2.2)) Q (F0 m (am_cd M pc).2.1 lr ((v :: rest).map (am_cv b sz)))) → W p l e R s m args below meth c H locs cells slots Q (F0 m pc lr (st.map (am_cv b sz)))
theorem am_walk_open (hX : am_Ext) : ∀ n, am_Walk n := by
  intro n
  induction n with
  | zero => intro p l e R s m args below meth c H locs cells slots Q b sz L xs D cI cJ cB M pc la st lr S c2 d h; cases h
  | succ n ih =>
    intro p l e R s m args below meth c H locs cells slots Q b sz L xs D cI cJ cB M pc la st lr S c2 d h hfl G hC hroom hfr hL hR hS k
    have h1 := hR.2.2.1
    unfold am_run at h
    split at h
    · next hlt =>
      split at h
      · cases h
      · next hd0 =>
        split at h
        · next pc2 la2 st2 S2 hs1 =>
          have m1 := am_s1_mono hs1
          have m2 := am_run_mono _ _ _ _ _ _ _ _ h
          dsimp only at m1
          refine am_step G hC ?_ (fun h31 => ?_) hlt hs1 hL hR hS ?_
          · dsimp only
            have := m2.1
            have := m2.2
            omega
          · have : ¬ d = 0 := fun e0 => hd0 ⟨h31, e0⟩
            omega
          · intro lr1 H1 locs1 hL1 hR1 hS1
            dsimp only at hL1 hR1 ⊢
            refine ih p l e R s m args below meth c H1 locs1 _ _ Q b sz L xs D cI cJ cB M pc2 la2 st2 lr1 S2 c2 d h hfl G ?_ ?_ hfr hL1 hR1 hS1 (am_K_shift m1.1 m1.2 m2.1 m2.2 k)
            · have := m1.1
              omega
            · have := m1.1
              have := m1.2
              have := m2.1
              have := m2.2
              omega
        · cases h
    · split at h
      · cases h
        have k1 := k lr H locs hL hR hS
        simp only [Nat.sub_self, Nat.add_zero] at k1
        exact k1
      · split at h
        · next h40 =>
          split at h
          · cases h
          · next d =>
            split at h
            · cases h
            · next as rest har =>
              split at h
              · cases h
              · next pT lT tT ST hrun =>
                split at h
                · cases h
                · next v S2 hno hfi =>
                  obtain ⟨i, kk, md, hcd, hlk, hi, hdc⟩ := am_cd40 h40
                  have m1 := am_run_mono _ _ _ _ _ _ _ _ hrun
                  have m2 := am_fi_mono hfi
                  have m3 := am_run_mono _ _ _ _ _ _ _ _ h
                  rw [hcd] at hrun hfi h
                  dsimp only at hrun hfi h m1
                  have a1 := m1.1
                  have a2 := m1.2
                  have a3 := m2.1
                  have a4 := m2.2
                  have a5 := m3.1
                  have a6 := m3.2
                  refine am_call (n := n) (d := d) ih hfl G hcd hlk hi hdc har hrun hfi (fun x e0 => ?_) hfr ?_ hL hR hS ?_
                  · subst e0
                    exact hno x rfl
                  · omega
                  · intro H1 locs1 hR1 hS1
                    exact ih p l e R s m args below meth c H1 locs1 _ _ Q b sz L xs D cI cJ cB M (pc + 3) la _ lr S2 c2 (d + 1) h hfl G (by omega) (by omega) hfr hL hR1 hS1 (am_K_shift (by omega) (by omega) a5 a6 k)
                · cases h
        · split at h
          · next h41 =>
            split at h
            · cases h
            · next hd8 =>
              split at h
              · cases h
              · next as o rest ha4 =>
                split at h
                · cases h
                · next pT lT tT ST hrun =>
                  split at h
                  · cases h
                  · next r S2 hfi =>
                    split at h
                    · cases h
                    · next v S3 hb4 =>
                      have m1 := am_run_mono _ _ _ _ _ _ _ _ hrun
                      have m2 := am_fi_mono hfi
                      have m4 := am_b4_mono hb4
                      have m3 := am_run_mono _ _ _ _ _ _ _ _ h
                      dsimp only at m1
                      have a1 := m1.1
                      have a2 := m1.2
                      have a3 := m2.1
                      have a4 := m2.2
                      have a5 := m3.1
                      have a6 := m3.2
                      have a7 := m4.1
                      have a8 := m4.2
                      refine hX n ih p l e R s m args below meth c H locs cells slots Q b sz L xs D cI cJ cB M pc la st lr S (d - 8) as rest lT tT o pT ST S2 S3 r v hfl G hC h41 ha4 hrun hfi hb4 (by omega) (by omega) hL hR hS ?_
                      intro H1 locs1 hR1 hS1
                      exact ih p l e R s m args below meth c H1 locs1 _ _ Q b sz L xs D cI cJ cB M _ la _ lr S3 c2 d h hfl G (by omega) (by omega) hfr hL hR1 hS1 (am_K_shift (by omega) (by omega) a5 a6 k)
          · cases h

