/-! The walk. -/
section AMS
variable {p : Program} {l : Launch} {e : Env} {R : Room} {s : State} {m : MethodId} {args : Array Value} {below : List Frame} {meth : Method} {c : Code} {H : Heap} {locs : List Loc} {cells slots : Nat} {Q : State → Prop}
variable {b sz L : Nat} {xs : Nat → Int32} {D : va_G} {cI cJ cB : ClassId} {M pc : Nat} {la st : List aV} {lr : Array Slot} {S : aS} {c2 : aC}

theorem am_K_shift {S2 : aS} {nL : Nat} (h1 : S.2.2.1 ≤ S2.2.2.1) (h2 : S.2.2.2 ≤ S2.2.2.2) (h3 : S2.2.2.1 ≤ c2.2.2.2.2.2.1) (h4 : S2.2.2.2 ≤ c2.2.2.2.2.2.2) (k : am_K p l e R s m args below meth c cells slots Q b sz L xs D cI cJ cB nL S c2) : am_K p l e R s m args below meth c (cells + (S2.2.2.1 - S.2.2.1)) (slots + (S2.2.2.2 - S.2.2.2)) Q b sz L xs D cI cJ cB nL S2 c2 := by
  intro lr1 H1 locs1 a1 a2 a3
  have k1 := k lr1 H1 locs1 a1 a2 a3
  rw [show cells + (S2.2.2.1 - S.2.2.1) + (c2.2.2.2.2.2.1 - S2.2.2.1) = cells + (c2.2.2.2.2.2.1 - S.2.2.1) by omega, show slots + (S2.2.2.2 - S.2.2.2) + (c2.2.2.2.2.2.2 - S2.2.2.2) = slots + (c2.2.2.2.2.2.2 - S.2.2.2) by omega]
  exact k1
theorem am_fi_same {k : Nat} {i : aI} {tT : List aV} {ST S2 : aS} {r : Option aV} (h : am_fi k i tT ST = some (r, S2)) (h6 : ∀ x, r ≠ some (6, x)) : ST = S2 := by
  unfold am_fi at h
  split at h <;> (repeat' split at h) <;> first
    | (cases h; done)
    | (cases h; rfl)
    | (cases h; exact absurd rfl (h6 _))
theorem am_fin {k pT : Nat} {tT : List aV} {ST S2 : aS} {r : Option aV} (hex0 : p.tables.exec = Jvm.exec) (hb : c.code = (am_m k).2.1) (hr : meth.sig.returnType = (am_m k).2.2.2.1) (hlocks : meth.locks = false) (hfi : am_fi k (am_cd k pT) tT ST = some (r, S2)) (h6 : ∀ x, r ≠ some (6, x)) (hR2 : am_Rel b sz L xs D cI cJ cB ST H) (hS2 : va_S (fun q => sz ≤ q) s.heap H locs) : W p l e R s m args below meth c H locs cells slots (MQ below (am_Qc b sz L xs D cI cJ cB r S2) args s cells slots (fun q => sz ≤ q)) (F0 m pT lr (tT.map (am_cv b sz))) := by
  unfold am_fi at hfi
  split at hfi
  · next hcd =>
    rcases am_cdE hcd with ⟨-, hd⟩ | ⟨e1, hd⟩ | ⟨e1, hd⟩ | ⟨e1, hd⟩
    · split at hfi
      · next x =>
        split at hfi
        · next hc =>
          cases hfi
          rcases hc with hc | ⟨hc, hx⟩
          · rw [hc] at hr
            exact W.iret (v := Int32.ofInt x) hex0 hb hr (fun t ht hw => ⟨rfl, by rw [ht]; exact hR2, hS2.F ht⟩) hS2.2.2 hd
          · rw [hc] at hr
            exact W.zret (v := Int32.ofInt x) hex0 hb hr (by rcases hx with rfl | rfl <;> rfl) (fun t ht hw => ⟨rfl, by rw [ht]; exact hR2, hS2.F ht⟩) hS2.2.2 hd
        · cases hfi
      · cases hfi
    · cases e1
    · cases e1
    · cases e1
  · next hcd =>
    rcases am_cdE hcd with ⟨e1, hd⟩ | ⟨-, hd⟩ | ⟨e1, hd⟩ | ⟨e1, hd⟩
    · cases e1
    · split at hfi
      · next x =>
        split at hfi
        · next hc =>
          cases hfi
          rw [hc] at hr
          exact W.lret (v := Int64.ofInt x) hex0 hb hr (fun t ht hw => ⟨rfl, by rw [ht]; exact hR2, hS2.F ht⟩) hS2.2.2 hd
        · cases hfi
      · cases hfi
    · cases e1
    · cases e1
  · next hcd =>
    rcases am_cdE hcd with ⟨e1, hd⟩ | ⟨e1, hd⟩ | ⟨-, hd⟩ | ⟨e1, hd⟩
    · cases e1
    · cases e1
    · split at hfi
      · next x =>
        split at hfi
        · next hc =>
          cases hfi
          have hq : ∀ t : State, t.heap = H → s.WarmedH t.vm → am_Qc b sz L xs D cI cJ cB (some (2, x)) ST args s (.returned (some (am_cv b sz (2, x)))) t := fun t ht hw => ⟨rfl, by rw [ht]; exact hR2, hS2.F ht⟩
          rcases hc.2 with hc2 | hc2
          · rw [hc2] at hr
            exact W.aret hex0 hb hr (Or.inr ⟨_, rfl⟩) (Or.inr ⟨_, am_cv2 hc.1⟩) hq hS2.2.2 hd
          · rw [hc2] at hr
            exact W.aret hex0 hb hr (Or.inr ⟨_, rfl⟩) (Or.inr ⟨_, am_cv2 hc.1⟩) hq hS2.2.2 hd
        · cases hfi
      · cases hfi
    · cases e1
  · next hcd =>
    rcases am_cdE hcd with ⟨e1, hd⟩ | ⟨e1, hd⟩ | ⟨e1, hd⟩ | ⟨-, hd⟩
    · cases e1
    · cases e1
    · cases e1
    · split at hfi
      · split at hfi
        · next hc =>
          cases hfi
          rw [hc] at hr
          exact W.vret hex0 hb hr (fun t ht hw => ⟨rfl, by rw [ht]; exact hR2, hS2.F ht⟩) hS2.2.2 hd
        · cases hfi
      · cases hfi
  · split at hfi
    · cases hfi
      exact absurd rfl (h6 _)
    · cases hfi
  · cases hfi
theorem am_met {n d k : Nat} {as : List aV} {S2 ST : aS} {pT : Nat} {lT tT : List aV} {r : Option aV} (hW : am_Walk n) (hfl : l.flags = flags0) (hk : k < 272) (hrun : am_run n d k 0 (am_en k as) [] S = some (pT, lT, tT, ST)) (hfi : am_fi k (am_cd k pT) tT ST = some (r, S2)) (h6 : ∀ x, r ≠ some (6, x)) (has : (as.map fun v => v.1) = (am_m k).2.2.2.2.2) : Met l (am_m k).1 (am_wl k) (am_rm d S S2) (am_Pc b sz L xs D cI cJ cB as S) (am_Qc b sz L xs D cI cJ cB r S2) (S2.2.2.1 - S.2.2.1) (S2.2.2.2 - S.2.2.2) (fun q => sz ≤ q) := by
  obtain ⟨-, hcls, hpl, -⟩ := am_m1E hk
  refine Met.ofW (cc := (am_m k).2.1) (maxL := (am_m k).2.2.1) (ret := (am_m k).2.2.2.1) hpl rfl ?_
  intro p e s m args below meth c s₁ B hml hv
  obtain ⟨rfl, hTB, hK, hX, hb, hR, hZ⟩ := hv
  have h1 := hR.2.2.1
  have hsz : sz ≤ s.heap.size := by rw [hR.2.1]; omega
  have hG : am_G b sz L xs D cI cJ cB p s m (as.map (am_cv b sz)).toArray meth c k := ⟨B.exec, B.bytes, hml, by rw [← hcls]; exact findClass_of_methodNamed B.named, fun w hw => am_vm (s := s) hw rfl (hTB w hw), hK, hX, hb, hsz, fun hn => (name_of_methodNamed B.named B.method).1.trans hn, by omega, hZ⟩
  have hlen : (am_fl as).length ≤ (am_m k).2.2.1 := by
    rw [am_fl_sz, has]
    exact of_decide_eq_true (List.all_eq_true.mp am_szs k (List.mem_range.mpr (by omega)))
  obtain ⟨lr, he, hL⟩ := am_entry (b := b) (sz := sz) (k := k) (as := as) (m := m) hlen
  rw [he]
  have hr := B.returns
  have hlocks := B.notSynchronized
  have hmono := am_run_mono _ _ _ _ _ _ _ _ hrun
  have hfm := am_fi_mono hfi
  refine hW p l e (headSpec (am_wl k) (am_rm d S S2)).room s m _ below meth c s.heap [] 0 0 _ b sz L xs D cI cJ cB k 0 (am_en k as) [] lr S (pT, lT, tT, ST) d hrun hfl hG (by rw [hR.2.1]; rfl) ?_ ⟨Nat.le_refl _, Nat.le_refl _⟩ hL hR va_S.rf ?_
  · show 0 + (ST.2.2.1 - S.2.2.1) ≤ S2.2.2.1 - S.2.2.1 ∧ 0 + (ST.2.2.2 - S.2.2.2) ≤ S2.2.2.2 - S.2.2.2
    have hfm1 := hfm.1
    have hfm2 := hfm.2
    omega
  · intro lr2 H2 locs2 hL2 hR2 hS2
    dsimp only at hL2 hR2 ⊢
    rw [Nat.zero_add, Nat.zero_add]
    have hS2e : ST = S2 := am_fi_same hfi h6
    rw [← hS2e]
    exact am_fin B.exec B.bytes hr hlocks (by rw [← hS2e] at hfi; exact hfi) h6 hR2 hS2
theorem am_cd40 (h : (am_cd M pc).1 = 40) : ∃ (i k md : Nat), am_cd M pc = (40, pc + 3, k, (md : Int), [i]) ∧ am_lk ((am_m M).2.2.2.2.1 * 1000 + i) am_lm = some (md, k) ∧ i < 1000 ∧ ((decode (am_m M).2.1 pc = .ok (.invokevirtual i, 3) ∧ md = 0) ∨ (decode (am_m M).2.1 pc = .ok (.invokestatic i, 3) ∧ (md = 1 ∨ md = 4)) ∨ (decode (am_m M).2.1 pc = .ok (.invokespecial i, 3) ∧ (md = 2 ∨ md = 5))) := by
  unfold am_cd at h ⊢
  split at h
  · next i len hd =>
    rw [hd]
    try dsimp only
    unfold am_tr at h ⊢
    split at h <;> first
      | (cases h; done)
      | (unfold am_jump at h; split at h <;> cases h; done)
      | (split at h <;> (try unfold am_jump at h) <;> (repeat' split at h) <;> cases h; done)
      | skip
    · next k =>
      split at h
      · next md m2 hk =>
        obtain ⟨hk1, hk2⟩ := am_lk2E hk
        split at h
        · cases h
        · next h6 =>
          split at h
          · next h2 =>
            rw [if_neg h6, if_pos h2]
            exact ⟨k, m2, md, rfl, hk2, hk1, Or.inr (Or.inr ⟨rfl, h2⟩)⟩
          · cases h
      · cases h
    · next k =>
      split at h
      · next md m2 hk =>
        obtain ⟨hk1, hk2⟩ := am_lk2E hk
        split at h
        · cases h
        · next h7 =>
          split at h
          · cases h
          · next h8 =>
            split at h
            · cases h
            · next h9 =>
              split at h
              · next h2 =>
                rw [if_neg h7, if_neg h8, if_neg h9, if_pos h2]
                exact ⟨k, m2, md, rfl, hk2, hk1, Or.inr (Or.inl ⟨rfl, h2⟩)⟩
              · cases h
      · cases h
    · next k =>
      split at h
      · next md m2 hk =>
        obtain ⟨hk1, hk2⟩ := am_lk2E hk
        split at h
        · next h0 =>
          rw [if_pos h0]
          exact ⟨k, m2, md, rfl, hk2, hk1, Or.inl ⟨rfl, h0⟩⟩
        · cases h
      · cases h
  · cases h

end AMS
