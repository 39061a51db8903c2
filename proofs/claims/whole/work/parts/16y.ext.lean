/-! The law's helpers: a call that may throw, caught there. -/
section AMT
variable {p : Program} {l : Launch} {e : Env} {R : Room} {s : State} {m : MethodId} {args : Array Value} {below : List Frame} {meth : Method} {c : Code} {H : Heap} {locs : List Loc} {cells slots : Nat} {Q : State → Prop}
variable {mc ms : Nat} {free : Addr → Prop} {A0 A1 : Nat → Prop} {H0 : Heap} {a : Array Value} {ls : Array Slot} {st0 rest : List Value}
variable {Qc : Array Value → State → Outcome → State → Prop} {XC : String → State → State → Prop}
set_option maxHeartbeats 1000000 in
theorem am_throw0 {cc : ByteArray} {pc : Nat} (hexec : p.tables.exec = Jvm.exec) (hb : c.code = cc) (hl : l.stackTraces = false) {own cls : String} {names : List String} {ik ic mc ms : Nat} {A : Nat → Prop}
    (hown : s.vm.findClass own = some m.cls) (hcls : Bundle.fit cls = true) (hnames : ∀ n ∈ names, Bundle.fit n = true)
    (hk : (Cond.classLink own ik cls).before args s = true) (hini : (Cond.initialized cls).before args s = true) (hat : ∀ w ∈ vx_at0 own ic cls names, w.before args s = true)
    (hgood : ∀ w ∈ Cond.classLink own ik cls :: Cond.initialized cls :: vx_at0 own ic cls names, vx_ot w = true)
    (hU : vx_Zq Bundle.tN "UNASSIGNED_STACK" Bundle.steD A s s.heap) (hN : vx_Zq Bundle.tN "SUPPRESSED_SENTINEL" Bundle.listD A s s.heap) (hS : va_S A s.heap H locs) (hsize : ls.size = c.maxLocals)
    (d0 : decode cc pc = .ok (.new ik, 3)) (d3 : decode cc (pc + 3) = .ok (.dup, 1)) (d4 : decode cc (pc + 4) = .ok (.invokespecial ic, 3)) (d7 : decode cc (pc + 7) = .ok (.athrow, 1))
    (hout : ∀ x ∈ c.exceptionTable.toList, covers x (pc + 7) = false)
    (hRframes : names.length + 3 < R.frames) (hRlocals : (rest.map fun v => v.category).sum + (13 * (names.length + 1) + 42) ≤ R.locals) (hRcells : cells + 1 ≤ R.cells) (hRslots : slots + 6 ≤ R.slots) (hlocks : meth.locks = false)
    (hx : ∀ t : State, s.vm.Alike t.vm → t.heap.size = H.size + 1 → (∀ q : Nat, q < H.size → t.heap[q]? = H[q]?) → (∃ ce : Cell, t.heap[H.size]? = some ce ∧ ce.vm = .none ∧ s.vm.findClass cls = some ce.cls) → XC cls s t)
    (hf : ∀ z ∈ locs, free z.base) (hc : cells + 1 ≤ mc) (hs : slots + 6 ≤ ms) :
    W p l e R s m args below meth c H locs cells slots (vx_MQ below Qc XC args s mc ms free) (F0 m pc ls rest) := by
  intro T hT X
  have htr : e.platform.stackTraces = false := (show e.platform.stackTraces = l.stackTraces by rw [X.admits.platform]).trans hl
  have Y := vx_rebase X (R' := { frames := R.frames, locals := R.locals, cells := 1, slots := 6 }) (Nat.le_refl _) (Nat.le_refl _) hRcells hRslots
  obtain ⟨s', hA⟩ : ∃ z, z = (T.setVm s.vm).setFrames (.invoking m args :: below) := ⟨_, rfl⟩
  rw [← hA] at Y
  have hvm : s'.vm = s.vm := by rw [hA]; rfl
  have hhp : s'.heap = H := by rw [hA]; exact hT
  have hW0 : s.WarmedH s'.vm := by rw [hvm]; exact State.WarmedH.refl s
  have hat' : ∀ w ∈ vx_at0 own ic cls names, w.before args s' = true := fun w hw => vx_ot_at hW0 hvm.symm (hgood w (List.mem_cons_of_mem _ (List.mem_cons_of_mem _ hw))) (hat w hw)
  have hk' : (Cond.classLink own ik cls).before args s' = true := vx_ot_at hW0 hvm.symm (hgood _ List.mem_cons_self) hk
  have hini' : (Cond.initialized cls).before args s' = true := vx_ot_at hW0 hvm.symm (hgood _ (List.mem_cons_of_mem _ List.mem_cons_self)) hini
  have hU' : vx_Zq Bundle.tN "UNASSIGNED_STACK" Bundle.steD A s' s'.heap := by rw [hhp]; exact vx_Zq.moved hW0.alike (hU.kept hS.2.1)
  have hN' : vx_Zq Bundle.tN "SUPPRESSED_SENTINEL" Bundle.listD A s' s'.heap := by rw [hhp]; exact vx_Zq.moved hW0.alike (hN.kept hS.2.1)
  have h : ∀ w ∈ Bundle.ownAtoms0 own ic cls names, w.before args s' = true := vx_own hat' (vx_isRefq hU'.1) (vx_isRefq hN'.1) hU'.2.word hN'.2.word
  have hown' : s'.vm.findClass own = some m.cls := by rw [hvm]; exact hown
  have hins : (Cond.instantiable cls 6).before args s' = true := h _ (by simp [Bundle.ownAtoms0])
  obtain ⟨vm₁, cX, kX, hfX, hkX, -, -, X₁, st1⟩ := Y.newCold hexec (own := own) (C := cls) (index := ik) (n := 6) hown' hk' hins hini'
    (g := F0 m pc ls rest) rfl (by rw [hb]; exact d0) (Nat.le_refl _) (Nat.le_refl _)
  generalize hT1 : (T.setVm vm₁).pushCell { cls := cX, slots := kX.instanceTypes.map defaultValue, vm := .none } = T1 at X₁ st1
  have hcat : (Value.ref T.heap.size).category = 1 := rfl
  have hcellA : T1.heap[T.heap.size]? = some (freshCell cX kX) := by rw [← hT1]; exact State.heap_pushCell_size _ _
  have d3' : decode c.code (pc + 3) = .ok (.dup, 1) := by rw [hb]; exact d3
  obtain ⟨U, hsteps, hrun, hend, hW, hsame, ce, hce, hO⟩ := X₁.ctorThrow0 hexec htr (own := own) (cls := cls) (names := names) (ic := ic) hown' hcls hnames h (fun x hx => nomatch hx) hfX hkX hcellA (by rw [hhp, hT]; exact Nat.le_refl _)
    (g := { method := m, pc := pc + 4, locals := ls, stack := .ref T.heap.size :: .ref T.heap.size :: rest, locked := none }) rfl hsize rfl rfl (rest := rest) rfl
    (by rw [hb]; exact d4) (by rw [hb]; exact d7) hout hRframes (by simp only [List.map_cons, List.sum_cons, hcat]; omega) hlocks
  obtain ⟨f1, f2⟩ := vx_frame hsame
  rw [hhp] at f1 f2
  have hWs : s.WarmedH U.vm := State.WarmedH.trans hW0 hW
  have hcl : s.vm.findClass cls = some ce.cls := by
    have h9 := hO.cls
    rw [hvm] at h9
    exact h9
  have hsz1 : U.heap.size = H.size + 1 := by
    have g1 : T.heap.size < U.heap.size := (Array.getElem?_eq_some_iff.mp hce).1
    have g2 : U.heap.size ≤ s'.heap.size + (0 + 1) := hsame.2.2.1
    rw [hhp] at g2
    rw [hT] at g1
    omega
  have hall : s.sameButNew ({ U with vm := s.vm } : State) locs mc ms := by
    subst hA
    obtain ⟨e1, e2⟩ := hsame
    rw [State.setFrames_setFrames] at e1
    have h2 : (T.setVm s.vm).sameButNew ({ U with vm := s.vm } : State) [] (0 + 1) (0 + 6) := ⟨e1, e2⟩
    have h3 := X.same.trans h2
    rw [List.append_nil] at h3
    exact h3.mono hc hs
  refine ⟨U, ?_, .threw T.heap.size, hrun, hend, Or.inr ⟨T.heap.size, rfl, cls, ce, locs, hx U hWs.alike hsz1 (fun q hq => f2 q hq (fun z hz => nomatch hz)) ⟨ce, by rw [← hT]; exact hce, hO.vm, hcl⟩, hce, hO.vm, hcl, hWs, hall, hf⟩⟩
  refine st1 _ ?_
  show Steps p.tables e below (T1.setTop { method := m, pc := pc + 3, locals := ls, stack := .ref T.heap.size :: rest, locked := none }) _
  jvm_step X₁.here [X₁.here.top, hexec, d3', Value.category]
  exact hsteps
end AMT
section AMS
variable {p : Program} {l : Launch} {e : Env} {R : Room} {s : State} {m : MethodId} {args : Array Value} {below : List Frame} {meth : Method} {c : Code} {H : Heap} {locs : List Loc} {cells slots : Nat} {Q : State → Prop}
variable {b sz L : Nat} {xs : Nat → Int32} {D : va_G} {cI cJ cB : ClassId} {M pc : Nat} {la st : List aV} {lr : Array Slot} {S : aS} {c2 : aC}

theorem am_cd38 {k pT : Nat} (h : (am_cd k pT).1 = 38) : ∃ n, decode (am_m k).2.1 pT = .ok (.new n, 3) ∧ am_lk ((am_m k).2.2.2.2.1 * 1000 + n) am_lc = some 13 ∧ n = 306 ∧ (am_m k).2.2.2.2.1 = 11 ∧ decode (am_m k).2.1 (pT + 3) = .ok (.dup, 1) ∧ decode (am_m k).2.1 (pT + 4) = .ok (.invokespecial 308, 3) ∧ decode (am_m k).2.1 (pT + 7) = .ok (.athrow, 1) := by
  unfold am_cd at h
  split at h
  · next i len hd =>
    rw [hd]
    unfold am_tr at h
    split at h <;> first
      | (cases h; done)
      | (unfold am_jump at h; split at h <;> cases h; done)
      | (split at h <;> (try unfold am_jump at h) <;> (repeat' split at h) <;> cases h; done)
      | skip
    · next n =>
      split at h
      · next c0 hk =>
        obtain ⟨hk1, hk2⟩ := am_lk2E hk
        split at h
        · cases h
        · split at h
          · next ht =>
            unfold am_thr at ht
            simp only [Bool.and_eq_true, decide_eq_true_eq] at ht
            obtain ⟨t1, t2, t3, t4, t5, t6⟩ := ht
            subst t3
            exact ⟨n, rfl, hk2, t2, t1, t4, t5, t6⟩
          · cases h
      · cases h
  · cases h
def am_XC (b sz L : Nat) (xs : Nat → Int32) (D : va_G) (cI cJ cB : ClassId) (r : Option aV) (S2 : aS) : String → State → State → Prop := fun E st t => E = am_N ∧ (∃ x, r = some (6, x)) ∧ am_Rel b sz L xs D cI cJ cB S2 t.heap ∧ va_F (fun q => sz ≤ q) st t
def am_QN (b sz L : Nat) (xs : Nat → Int32) (D : va_G) (cI cJ cB : ClassId) (r : Option aV) (S2 : aS) : Array Value → State → Outcome → State → Prop := fun a st o t => (∀ x, r ≠ some (6, x)) ∧ am_Qc b sz L xs D cI cJ cB r S2 a st o t
def am_rv (d : Nat) (S S2 : aS) : Jvm.Room := { frames := d + 6, cells := S2.2.2.1 - S.2.2.1, slots := S2.2.2.2 - S.2.2.2, locals := 60 * d + 360 }
abbrev am_sup : List String := ["java/lang/RuntimeException", "java/lang/Exception"]
theorem am_at0 : ∀ w ∈ vx_at0 RX11 308 am_N am_sup, w ∈ am_tb := by
  intro w hw
  exact am_tbO ((by decide +kernel : ∀ w ∈ vx_at0 RX11 308 am_N am_sup, w ∈ lw_tbl) w hw) ((by decide +kernel : ∀ w ∈ vx_at0 RX11 308 am_N am_sup, am_isS w = false) w hw)
theorem am_ot0 : ∀ w ∈ Cond.classLink RX11 306 am_N :: Cond.initialized am_N :: vx_at0 RX11 308 am_N am_sup, vx_ot w = true := by decide +kernel
theorem am_Nini : Cond.initialized am_N ∈ am_tb := am_tbO (by decide +kernel) rfl
theorem am_Nlink : Cond.classLink RX11 306 am_N ∈ am_tb := am_tbO (by decide +kernel) rfl
theorem am_Nfit : Bundle.fit am_N = true ∧ ∀ n ∈ am_sup, Bundle.fit n = true := by decide +kernel
theorem am_cl13 : am_cl[13]? = some (am_N, am_Nt, 0) := rfl
set_option maxHeartbeats 1000000 in
theorem am_vmet {n d k : Nat} {as : List aV} {S2 ST : aS} {pT : Nat} {lT tT : List aV} {r : Option aV} (hW : am_Walk n) (hfl : l.flags = flags0) (htr : l.stackTraces = false) (hk : k < 272) (hrun : am_run n d k 0 (am_en k as) [] S = some (pT, lT, tT, ST)) (hfi : am_fi k (am_cd k pT) tT ST = some (r, S2)) (has : (as.map fun v => v.1) = (am_m k).2.2.2.2.2) : vx_Met l (am_m k).1 (am_wl k) (am_rv d S S2) (am_Pc b sz L xs D cI cJ cB as S) (am_QN b sz L xs D cI cJ cB r S2) (am_XC b sz L xs D cI cJ cB r S2) (S2.2.2.1 - S.2.2.1) (S2.2.2.2 - S.2.2.2) (fun q => sz ≤ q) := by
  obtain ⟨-, hcls, hpl, -⟩ := am_m1E hk
  refine vx_ofW (cc := (am_m k).2.1) (maxL := (am_m k).2.2.1) (ret := (am_m k).2.2.2.1) hpl rfl ?_
  intro p e s m args below meth c s₁ B hml hnot hv
  obtain ⟨rfl, hTB, hK, hX, hb, hR, hZ⟩ := hv
  have h1 := hR.2.2.1
  have hsz : sz ≤ s.heap.size := by rw [hR.2.1]; omega
  have hG : am_G b sz L xs D cI cJ cB p s m (as.map (am_cv b sz)).toArray meth c k := ⟨B.exec, B.bytes, hml, by rw [← hcls]; exact findClass_of_methodNamed B.named, fun w hw => am_vm (s := s) hw rfl (hTB w hw), hK, hX, hb, hsz, fun hn => (name_of_methodNamed B.named B.method).1.trans hn, by omega, hZ⟩
  have hlen : (am_fl as).length ≤ (am_m k).2.2.1 := by
    rw [am_fl_sz, has]
    exact of_decide_eq_true (List.all_eq_true.mp am_szs k (List.mem_range.mpr (by omega)))
  obtain ⟨lr, he, hL⟩ := am_entry (b := b) (sz := sz) (k := k) (as := as) (m := m) hlen
  rw [he]
  have hr := B.returns
  have hlocks := B.notSynchronized
  have hmono := am_run_mono _ _ _ _ _ _ _ _ hrun
  have hfm := am_fi_mono hfi
  have hfm1 := hfm.1
  have hfm2 := hfm.2
  have hmo1 := hmono.1
  have hmo2 := hmono.2
  dsimp only at hmo1 hmo2
  refine hW p l e (headSpec (am_wl k) (am_rv d S S2)).room s m _ below meth c s.heap [] 0 0 _ b sz L xs D cI cJ cB k 0 (am_en k as) [] lr S (pT, lT, tT, ST) d hrun hfl hG (by rw [hR.2.1]; rfl) ?_ ⟨by show d ≤ d + 6; omega, by show 60 * d ≤ 60 * d + 360; omega⟩ hL hR va_S.rf ?_
  · show 0 + (ST.2.2.1 - S.2.2.1) ≤ S2.2.2.1 - S.2.2.1 ∧ 0 + (ST.2.2.2 - S.2.2.2) ≤ S2.2.2.2 - S.2.2.2
    omega
  · intro lr2 H2 locs2 hL2 hR2 hS2
    dsimp only at hL2 hR2 ⊢
    rw [Nat.zero_add, Nat.zero_add]
    by_cases h6 : ∃ x, r = some (6, x)
    · -- thrown
      have h38 : (am_cd k pT).1 = 38 ∧ tT = [] ∧ S2 = am_al ST 13 0 (fun _ => 0) 6 := by
        obtain ⟨x, rfl⟩ := h6
        unfold am_fi at hfi
        split at hfi <;> (repeat' split at hfi) <;> first
          | (cases hfi; done)
          | (next hcd => cases hfi; exact ⟨by rw [hcd], rfl, rfl⟩)
          | (cases hfi; rename_i hcd _; exact ⟨by rw [hcd], rfl, rfl⟩)
          | (cases hfi; rename_i hcd; exact ⟨by rw [hcd], rfl, rfl⟩)
      obtain ⟨h38, rfl, hS2e⟩ := h38
      obtain ⟨n0, d0, hlk, rfl, hown, d3, d4, d7⟩ := am_cd38 h38
      have ho : am_own (am_m k).2.2.2.2.1 = RX11 := by rw [hown]; rfl
      have hfc : s.vm.findClass RX11 = some m.cls := by rw [← ho]; exact hG.2.2.2.1
      have e1 : S2.2.2.1 - S.2.2.1 = (ST.2.2.1 - S.2.2.1) + 1 := by rw [hS2e]; simp only [am_al]; omega
      have e2 : S2.2.2.2 - S.2.2.2 = (ST.2.2.2 - S.2.2.2) + 6 := by rw [hS2e]; simp only [am_al]; omega
      refine am_throw0 (cls := am_N) (names := am_sup) (ik := 306) (ic := 308) (rest := []) B.exec B.bytes htr hfc am_Nfit.1 am_Nfit.2 (hG.2.2.2.2.1 _ am_Nlink) (hG.2.2.2.2.1 _ am_Nini) (fun w hw => hG.2.2.2.2.1 _ (am_at0 w hw)) am_ot0 hZ.1 hZ.2 hS2 (by rw [hml]; exact hL2.2.1) d0 d3 d4 d7 (fun x hx => (hnot x hx).elim) ?_ ?_ ?_ ?_ hlocks ?_ hS2.2.2 (by omega) (by omega)
      · show 2 + 3 < d + 6
        omega
      · show 0 + (13 * (2 + 1) + 42) ≤ 60 * d + 360
        omega
      · show ST.2.2.1 - S.2.2.1 + 1 ≤ S2.2.2.1 - S.2.2.1
        omega
      · show ST.2.2.2 - S.2.2.2 + 6 ≤ S2.2.2.2 - S.2.2.2
        omega
      · intro t hal hsz1 hold ⟨ce, hce, hcv, hcc⟩
        have h1T := hR2.2.2.1
        have hsz2 := hR2.2.1
        have hfcN := (hK.1 13 _ am_cl13).2.1
        have hcls2 : ce.cls = D.1 13 := Option.some.inj (hcc.symm.trans hfcN)
        refine ⟨rfl, h6, ?_, Nat.le_trans hS2.1 (by omega), fun q hq hA => ?_⟩
        · rw [hS2e]
          refine am_alRel hR2 (by omega) ?_
          refine va_P.app (hR2.1.kept (fun k0 q hq => hold q.1 ((hR2.1 k0 q hq).lt))) (fun k0 q hq => ?_)
          have hz : k0 < 1 := (List.getElem?_eq_some_iff.mp hq).1
          rw [show k0 = 0 by omega] at hq
          cases hq
          have hk13 : am_ce b sz cI cJ cB (am_al ST 13 0 (fun _ => 0) 6) (am_pi ST.2.2.1) = .inr (13, []) := by
            unfold am_ce
            simp only [am_al, if_true]
            rfl
          rw [hk13]
          refine ⟨_, am_cl13, ce, ?_, hcls2, hcv, fun k1 hk1 => absurd hk1 (Nat.not_lt_zero _)⟩
          rw [show sz + (ST.2.2.1 - 1) = H2.size by omega]
          exact hce
        · rw [hold q (by have := hS2.1; omega)]
          exact hS2.2.1 q hq hA
    · have h6n : ∀ x, r ≠ some (6, x) := fun x hx => h6 ⟨x, hx⟩
      have hS2e : ST = S2 := am_fi_same hfi h6n
      refine vx_ret ?_
      subst hS2e
      have hw := am_fin (b := b) (sz := sz) (L := L) (xs := xs) (D := D) (cI := cI) (cJ := cJ) (cB := cB) (R := (headSpec (am_wl k) (am_rv d S ST)).room) (m := m) (lr := lr2) (l := l) (e := e) (below := below) (args := (as.map (am_cv b sz)).toArray) (cells := ST.2.2.1 - S.2.2.1) (slots := ST.2.2.2 - S.2.2.2) B.exec B.bytes hr hlocks hfi h6n hR2 hS2
      intro T hT X
      obtain ⟨t2, a1, o, b1, b2, b3, b4⟩ := hw T hT X
      exact ⟨t2, a1, o, b1, b2, ⟨h6n, b3⟩, b4⟩

end AMS
