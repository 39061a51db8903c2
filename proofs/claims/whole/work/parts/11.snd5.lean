/-! New cells, and the copying of arrays. -/
section AMS
variable {p : Program} {l : Launch} {e : Env} {R : Room} {s : State} {m : MethodId} {args : Array Value} {below : List Frame} {meth : Method} {c : Code} {H : Heap} {locs : List Loc} {cells slots : Nat} {Q : State → Prop}
variable {b sz L : Nat} {xs : Nat → Int32} {D : va_G} {cI cJ cB : ClassId} {M pc : Nat} {la st : List aV} {lr : Array Slot} {S : aS} {c2 : aC}

theorem am_ws_len : (am_ws b sz cI cJ cB S).length = S.2.2.1 - 1 := by
  unfold am_ws
  rw [List.length_map, List.length_range]
theorem am_newq {q : Nat} {en : va_E} {H1 : Heap} (h1 : 1 ≤ S.2.2.1) (hP : va_P D am_cl (am_ws b sz cI cJ cB S ++ [(q, en)]) H1) (hD : va_D (fun q => sz ≤ q) (am_ws b sz cI cJ cB S ++ [(q, en)])) (hz : H1.size ≤ sz + S.2.2.1) : q = sz + (S.2.2.1 - 1) ∧ H1.size = sz + S.2.2.1 := by
  have hlast : (am_ws b sz cI cJ cB S ++ [(q, en)])[S.2.2.1 - 1]? = some (q, en) := by
    rw [List.getElem?_append_right (by rw [am_ws_len]; exact Nat.le_refl _), am_ws_len, Nat.sub_self]
    rfl
  have hq : q < H1.size := (hP _ _ hlast).lt
  have hs : sz ≤ q := hD.2 _ _ hlast
  have key : q = sz + (S.2.2.1 - 1) := by
    apply Nat.le_antisymm (by omega)
    apply Nat.le_of_not_lt
    intro hlt
    have hj : q - sz + 1 < S.2.2.1 := by omega
    have hg := am_ws_get (b := b) (sz := sz) (cI := cI) (cJ := cJ) (cB := cB) (S := S) (a := am_pi (q - sz + 1)) (am_pi_pos (by omega)) (by rw [am_pj_pi]; exact hj)
    have hg2 : (am_ws b sz cI cJ cB S ++ [(q, en)])[q - sz]? = some (sz + (q - sz), am_ce b sz cI cJ cB S (am_pi (q - sz + 1))) := by
      rw [List.getElem?_append_left (by rw [am_ws_len]; omega)]
      rw [am_pj_pi] at hg
      exact hg
    have := hD.1 _ _ _ _ hg2 hlast (show sz + (q - sz) = q by omega)
    omega
  exact ⟨key, by omega⟩
theorem am_alRel {kd n sl : Nat} {df : Nat → Int} {H1 : Heap} (hR : am_Rel b sz L xs D cI cJ cB S H) (hz : H1.size = sz + S.2.2.1) (hP : va_P D am_cl (am_ws b sz cI cJ cB S ++ [(sz + (S.2.2.1 - 1), am_ce b sz cI cJ cB (am_al S kd n df sl) (am_pi S.2.2.1))]) H1) : am_Rel b sz L xs D cI cJ cB (am_al S kd n df sl) H1 := by
  have h1 := hR.2.2.1
  refine ⟨by rw [am_ws_al h1]; exact hP, ?_, by simp [am_al], ?_, fun j hj => ?_⟩
  · show H1.size = sz + (S.2.2.1 + 1 - 1)
    omega
  · have : ¬ 0 = am_pi S.2.2.1 := by have := am_pi_pos (k := S.2.2.1) (by omega); omega
    simp only [am_al, this, if_false]
    exact hR.2.2.2.1
  · have : ¬ 0 = am_pi S.2.2.1 := by have := am_pi_pos (k := S.2.2.1) (by omega); omega
    simp only [am_al, this, if_false]
    exact hR.2.2.2.2 j hj
theorem am_alK {kd n sl pc2 q : Nat} {df : Nat → Int} {st2 : List aV} {en : va_E} {H1 : Heap} {locs1 : List Loc} (hC : s.heap.size + cells = sz + (S.2.2.1 - 1)) (k : am_K p l e R s m args below meth c cells slots Q b sz L xs D cI cJ cB (am_m M).2.2.1 S (pc2, la, (2, (am_pi S.2.2.1 : Int)) :: st2, am_al S kd n df sl)) (hL : am_LR b sz lr (am_m M).2.2.1 la) (hR : am_Rel b sz L xs D cI cJ cB S H) (he : en = am_ce b sz cI cJ cB (am_al S kd n df sl) (am_pi S.2.2.1)) (hP : va_P D am_cl (am_ws b sz cI cJ cB S ++ [(q, en)]) H1) (hD : va_D (fun q => sz ≤ q) (am_ws b sz cI cJ cB S ++ [(q, en)])) (hS : va_S (fun q => sz ≤ q) s.heap H1 locs1) : W p l e R s m args below meth c H1 locs1 (cells + 1) (slots + sl) Q (F0 m pc2 lr (.ref q :: st2.map (am_cv b sz))) := by
  intro T hT X
  have hle : T.heap.size ≤ s.heap.size + (cells + 1) := X.same.2.2.1
  rw [hT] at hle
  have h1 := hR.2.2.1
  obtain ⟨rfl, hz⟩ := am_newq h1 hP hD (by omega)
  subst he
  have k1 := k lr H1 locs1 hL (am_alRel hR hz hP) hS
  have e1 : (am_al S kd n df sl).2.2.1 - S.2.2.1 = 1 := by simp [am_al]
  have e2 : (am_al S kd n df sl).2.2.2 - S.2.2.2 = sl := by simp [am_al]
  dsimp only at k1
  rw [e1, e2, List.map_cons, am_ref (show (0 : Int) < (am_pi S.2.2.1 : Int) by have := am_pi_pos (k := S.2.2.1) (by omega); omega), Int.toNat_natCast, am_pj_pi] at k1
  exact k1 T hT X

theorem am_ac_int : Cond.arrayClass .int ∈ am_tb := am_wAt_mem (p := 229) (by decide +kernel)
theorem am_i_newi  (G : am_G b sz L xs D cI cJ cB p s m args meth c M) (hroom : cells + (c2.2.2.2.2.2.1 - S.2.2.1) ≤ R.cells ∧ slots + (c2.2.2.2.2.2.2 - S.2.2.2) ≤ R.slots) (hC : s.heap.size + cells = sz + (S.2.2.1 - 1)) (hd : decode (am_m M).2.1 pc = .ok (.newarray .int, 2)) (h : am_s1 (28, pc + 2, 20, 0, []) la st S = some c2) (hL : am_LR b sz lr (am_m M).2.2.1 la) (hR : am_Rel b sz L xs D cI cJ cB S H) (hS : va_S (fun q => sz ≤ q) s.heap H locs) (k : am_K p l e R s m args below meth c cells slots Q b sz L xs D cI cJ cB (am_m M).2.2.1 S c2) : W p l e R s m args below meth c H locs cells slots Q (F0 m pc lr (st.map (am_cv b sz))) := by
  simp only [am_s1] at h
  split at h
  · next n r =>
    split at h
    · next hn =>
      cases h
      have hsz := G.2.2.2.2.2.2.2.2.1
      have hrc : cells + 1 ≤ R.cells := by have := hroom.1; simp [am_al] at this; omega
      have hrs : slots + (w32 n).toNat ≤ R.slots := by have := hroom.2; simp [am_al] at this; omega
      refine va_newa (n := Int32.ofInt n) (N' := (w32 n).toNat) (a0 := ((w32 n).toNat, .inl fun _ => 0)) (atype := .int) (ty := .int) G.1 G.2.1 (G.2.2.2.2.1 _ am_ac_int) rfl G.2.2.2.2.2.1 hR.1 am_ws_D hS (fun q hq => by omega) (fun _ => rfl) (fun hlt => by have := (am_lt0 n).mp hlt; omega) rfl ?_ hrc hrs hd (fun q cA H1 hK1 hP1 hD1 hS1 => ?_)
      · have e1 : componentBytes .int = 4 := rfl
        rw [e1]
        omega
      · have hcA : cA = cI := by
          have q1 := (hK1.2 3 (cA, .int) rfl).2
          have q2 := (G.2.2.2.2.2.1.2 0 (cI, .int) rfl).2
          exact Option.some.inj ((show s.vm.findClass _ = some cA from q1).symm.trans (show s.vm.findClass _ = some cI from q2))
        subst hcA
        refine am_alK hC k hL hR ?_ hP1 hD1 hS1
        rw [am_ceI (by simp [am_al])]
        simp only [am_al, if_true]
        rfl
    · cases h
  · cases h

theorem am_ac_long : Cond.arrayClass .long ∈ am_tb := am_wAt_mem (p := 418) (by decide +kernel)
theorem am_i_newl  (G : am_G b sz L xs D cI cJ cB p s m args meth c M) (hroom : cells + (c2.2.2.2.2.2.1 - S.2.2.1) ≤ R.cells ∧ slots + (c2.2.2.2.2.2.2 - S.2.2.2) ≤ R.slots) (hC : s.heap.size + cells = sz + (S.2.2.1 - 1)) (hd : decode (am_m M).2.1 pc = .ok (.newarray .long, 2)) (h : am_s1 (28, pc + 2, 21, 0, []) la st S = some c2) (hL : am_LR b sz lr (am_m M).2.2.1 la) (hR : am_Rel b sz L xs D cI cJ cB S H) (hS : va_S (fun q => sz ≤ q) s.heap H locs) (k : am_K p l e R s m args below meth c cells slots Q b sz L xs D cI cJ cB (am_m M).2.2.1 S c2) : W p l e R s m args below meth c H locs cells slots Q (F0 m pc lr (st.map (am_cv b sz))) := by
  simp only [am_s1] at h
  split at h
  · next n r =>
    split at h
    · next hn =>
      cases h
      have hsz := G.2.2.2.2.2.2.2.2.1
      have hrc : cells + 1 ≤ R.cells := by have := hroom.1; simp [am_al] at this; omega
      have hrs : slots + (w32 n).toNat ≤ R.slots := by have := hroom.2; simp [am_al] at this; omega
      refine va_newa (n := Int32.ofInt n) (N' := (w32 n).toNat) (a0 := ((w32 n).toNat, .inr (.inl fun _ => 0))) (atype := .long) (ty := .long) G.1 G.2.1 (G.2.2.2.2.1 _ am_ac_long) rfl G.2.2.2.2.2.1 hR.1 am_ws_D hS (fun q hq => by omega) (fun _ => rfl) (fun hlt => by have := (am_lt0 n).mp hlt; omega) rfl ?_ hrc hrs hd (fun q cA H1 hK1 hP1 hD1 hS1 => ?_)
      · have e1 : componentBytes .long = 8 := rfl
        rw [e1]
        omega
      · have hcA : cA = cJ := by
          have q1 := (hK1.2 3 (cA, .long) rfl).2
          have q2 := (G.2.2.2.2.2.1.2 1 (cJ, .long) rfl).2
          exact Option.some.inj ((show s.vm.findClass _ = some cA from q1).symm.trans (show s.vm.findClass _ = some cJ from q2))
        subst hcA
        refine am_alK hC k hL hR ?_ hP1 hD1 hS1
        rw [am_ceJ (by simp [am_al])]
        simp only [am_al, if_true]
        rfl
    · cases h
  · cases h

theorem am_ac_byte : Cond.arrayClass .byte ∈ am_tb := am_wAt_mem (p := 1584) (by decide +kernel)
theorem am_i_newb  (G : am_G b sz L xs D cI cJ cB p s m args meth c M) (hroom : cells + (c2.2.2.2.2.2.1 - S.2.2.1) ≤ R.cells ∧ slots + (c2.2.2.2.2.2.2 - S.2.2.2) ≤ R.slots) (hC : s.heap.size + cells = sz + (S.2.2.1 - 1)) (hd : decode (am_m M).2.1 pc = .ok (.newarray .byte, 2)) (h : am_s1 (28, pc + 2, 22, 0, []) la st S = some c2) (hL : am_LR b sz lr (am_m M).2.2.1 la) (hR : am_Rel b sz L xs D cI cJ cB S H) (hS : va_S (fun q => sz ≤ q) s.heap H locs) (k : am_K p l e R s m args below meth c cells slots Q b sz L xs D cI cJ cB (am_m M).2.2.1 S c2) : W p l e R s m args below meth c H locs cells slots Q (F0 m pc lr (st.map (am_cv b sz))) := by
  simp only [am_s1] at h
  split at h
  · next n r =>
    split at h
    · next hn =>
      cases h
      have hsz := G.2.2.2.2.2.2.2.2.1
      have hrc : cells + 1 ≤ R.cells := by have := hroom.1; simp [am_al] at this; omega
      have hrs : slots + (w32 n).toNat ≤ R.slots := by have := hroom.2; simp [am_al] at this; omega
      refine va_newa (n := Int32.ofInt n) (N' := (w32 n).toNat) (a0 := ((w32 n).toNat, .inl fun _ => 0)) (atype := .byte) (ty := .byte) G.1 G.2.1 (G.2.2.2.2.1 _ am_ac_byte) rfl G.2.2.2.2.2.1 hR.1 am_ws_D hS (fun q hq => by omega) (fun _ => rfl) (fun hlt => by have := (am_lt0 n).mp hlt; omega) rfl ?_ hrc hrs hd (fun q cA H1 hK1 hP1 hD1 hS1 => ?_)
      · have e1 : componentBytes .byte = 1 := rfl
        rw [e1]
        omega
      · have hcA : cA = cB := by
          have q1 := (hK1.2 3 (cA, .byte) rfl).2
          have q2 := (G.2.2.2.2.2.1.2 2 (cB, .byte) rfl).2
          exact Option.some.inj ((show s.vm.findClass _ = some cA from q1).symm.trans (show s.vm.findClass _ = some cB from q2))
        subst hcA
        refine am_alK hC k hL hR ?_ hP1 hD1 hS1
        rw [am_ceB (by simp [am_al])]
        simp only [am_al, if_true]
        rfl
    · cases h
  · cases h

theorem am_lcw {o n c0 : Nat} (h : am_lk (o * 1000 + n) am_lc = some c0) (hn : n < 1000) : Cond.classLink (am_own o) n (am_own c0) ∈ am_tb := by
  obtain ⟨q, hq⟩ := am_zip am_lc0 (by decide +kernel) _ (am_lk_mem h)
  have := am_wAt_mem hq
  rw [(am_key hn).1, (am_key hn).2] at this
  exact this
theorem am_insw {c0 : Nat} (hc : c0 < 13) : Cond.instantiable (am_own c0) (am_nF c0) ∈ am_tb ∧ Cond.initialized (am_own c0) ∈ am_tb := by
  have h1 := List.all_eq_true.mp am_ins0 c0 (List.mem_range.mpr hc)
  simp only [Bool.and_eq_true] at h1
  exact ⟨am_wAt_mem h1.1, am_wAt_mem h1.2⟩
theorem am_dflt {c0 k0 : Nat} (hc : c0 < 13) (hk : k0 < am_nF c0) : defaultValue (am_ty c0 k0) = am_cv b sz (am_tg (am_ty c0 k0), am_df c0 k0) := by
  have h1 := List.all_eq_true.mp (List.all_eq_true.mp am_tyk c0 (List.mem_range.mpr hc)) k0 (List.mem_range.mpr hk)
  unfold am_df
  cases hty : am_ty c0 k0 with
  | int => rfl
  | boolean => rfl
  | long => rfl
  | object C => rfl
  | array C => rfl
  | _ => rw [hty] at h1; cases h1

theorem am_i_new {n c0 : Nat} (G : am_G b sz L xs D cI cJ cB p s m args meth c M) (hk : am_lk ((am_m M).2.2.2.2.1 * 1000 + n) am_lc = some c0) (hn : n < 1000) (hc0 : c0 < 13) (hroom : cells + (c2.2.2.2.2.2.1 - S.2.2.1) ≤ R.cells ∧ slots + (c2.2.2.2.2.2.2 - S.2.2.2) ≤ R.slots) (hC : s.heap.size + cells = sz + (S.2.2.1 - 1)) (hd : decode (am_m M).2.1 pc = .ok (.new n, 3)) (h : am_s1 (29, pc + 3, c0, 0, [n]) la st S = some c2) (hL : am_LR b sz lr (am_m M).2.2.1 la) (hR : am_Rel b sz L xs D cI cJ cB S H) (hS : va_S (fun q => sz ≤ q) s.heap H locs) (k : am_K p l e R s m args below meth c cells slots Q b sz L xs D cI cJ cB (am_m M).2.2.1 S c2) : W p l e R s m args below meth c H locs cells slots Q (F0 m pc lr (st.map (am_cv b sz))) := by
  simp only [am_s1] at h
  cases h
  have hsz := G.2.2.2.2.2.2.2.2.1
  have hrc : cells + 1 ≤ R.cells := by have := hroom.1; simp [am_al] at this; omega
  have hrs : slots + am_nF c0 ≤ R.slots := by have := hroom.2; simp [am_al] at this; omega
  refine va_new (fs := (List.range (am_nF c0)).map fun k => am_cv b sz (am_tg (am_ty c0 k), am_df c0 k)) G.1 G.2.1 G.2.2.2.2.1 (am_lay _ hc0) (am_ty c0) (am_ty_ok _ hc0) G.2.2.2.1 (G.2.2.2.2.1 _ (am_lcw hk hn)) (G.2.2.2.2.1 _ (am_insw hc0).1) (G.2.2.2.2.1 _ (am_insw hc0).2) G.2.2.2.2.2.1 hR.1 am_ws_D hS (fun q hq => by omega) (am_cl_at _ hc0) (fun j hj => ?_) hrc hrs hd (fun q H1 hP1 hD1 hS1 => ?_)
  · rw [am_dflt (b := b) (sz := sz) hc0 hj]
    unfold vp_V
    rw [List.getD_eq_getElem?_getD, List.getElem?_map, List.getElem?_range hj]
    rfl
  · refine am_alK hC k hL hR ?_ hP1 hD1 hS1
    rw [am_ceO (by simp [am_al]) hc0]
    simp only [am_al, if_true]

theorem am_sys : Cond.initialized "java/lang/System" ∈ am_tb := am_wAt_mem (p := 148) (by decide +kernel)
theorem am_sysS : Cond.static arraycopyName ∈ am_tb := am_wAt_mem (p := 933) (by decide +kernel)
theorem am_sysN : Cond.native arraycopyName ∈ am_tb := am_wAt_mem (p := 934) (by decide +kernel)
theorem am_nfw : nativeFrameWords "java/lang/System" "arraycopy" 5 ≤ 40 := by decide +kernel
theorem am_cpyRel {a sp a1 dp n : Nat} {H1 : Heap} (hR : am_Rel b sz L xs D cI cJ cB S H) (h0 : 0 < a1) (hz : H1.size = sz + (S.2.2.1 - 1)) (hP : va_P D am_cl ((am_ws b sz cI cJ cB S).set (am_pj a1 - 1) (sz + (am_pj a1 - 1), am_ce b sz cI cJ cB (am_cpy S a sp a1 dp n) a1)) H1) : am_Rel b sz L xs D cI cJ cB (am_cpy S a sp a1 dp n) H1 := by
  refine ⟨?_, hz, hR.2.2.1, hR.2.2.2.1, fun j hj => ?_⟩
  · rw [am_ws_set (S := S) (S2 := am_cpy S a sp a1 dp n) (a := a1) rfl h0 (fun q j hq => by simp [am_cpy, hq])]
    exact hP
  · have : ¬ (0 = a1 ∧ dp ≤ j ∧ j < dp + n) := by omega
    simp only [am_cpy, this, if_false]
    exact hR.2.2.2.2 j hj
theorem am_cpyK {a sp a1 dp n pc2 : Nat} {st2 : List aV} {H1 : Heap} {locs1 : List Loc} (hC : s.heap.size + cells = sz + (S.2.2.1 - 1)) (hsz : sz ≤ s.heap.size) (h0 : 0 < a1) (k : am_K p l e R s m args below meth c cells slots Q b sz L xs D cI cJ cB (am_m M).2.2.1 S (pc2, la, st2, am_cpy S a sp a1 dp n)) (hL : am_LR b sz lr (am_m M).2.2.1 la) (hR : am_Rel b sz L xs D cI cJ cB S H) (hP : va_P D am_cl ((am_ws b sz cI cJ cB S).set (am_pj a1 - 1) (sz + (am_pj a1 - 1), am_ce b sz cI cJ cB (am_cpy S a sp a1 dp n) a1)) H1) (hS : va_S (fun q => sz ≤ q) s.heap H1 locs1) : W p l e R s m args below meth c H1 locs1 cells slots Q (F0 m pc2 lr (st2.map (am_cv b sz))) := by
  refine am_size (S := am_cpy S a sp a1 dp n) (b := b) (D := D) (cI := cI) (cJ := cJ) (cB := cB) hC hR.2.2.1 hsz ?_ hS (fun hz => ?_)
  · rw [am_ws_set (S := S) (S2 := am_cpy S a sp a1 dp n) (a := a1) rfl h0 (fun q j hq => by simp [am_cpy, hq])]
    exact hP
  · have k1 := k lr H1 locs1 hL (am_cpyRel hR h0 hz hP) hS
    simp only [am_cpy, Nat.sub_self, Nat.add_zero] at k1
    exact k1

theorem am_i_acopy {n0 k2 : Nat} (G : am_G b sz L xs D cI cJ cB p s m args meth c M) (hk : am_lk ((am_m M).2.2.2.2.1 * 1000 + n0) am_lm = some (7, k2)) (hn : n0 < 1000) (hfr : 1 ≤ R.frames) (hlo : 60 ≤ R.locals) (hC : s.heap.size + cells = sz + (S.2.2.1 - 1)) (hd : decode (am_m M).2.1 pc = .ok (.invokestatic n0, 3)) (h : am_s1 (32, pc + 3, 0, 0, [n0]) la st S = some c2) (hL : am_LR b sz lr (am_m M).2.2.1 la) (hR : am_Rel b sz L xs D cI cJ cB S H) (hS : va_S (fun q => sz ≤ q) s.heap H locs) (k : am_K p l e R s m args below meth c cells slots Q b sz L xs D cI cJ cB (am_m M).2.2.1 S c2) : W p l e R s m args below meth c H locs cells slots Q (F0 m pc lr (st.map (am_cv b sz))) := by
  simp only [am_s1] at h
  split at h
  · next n dp cc sp a r =>
    split at h
    · next hc =>
      cases h
      obtain ⟨ps, hps⟩ := am_lmw hk
      have hl : Cond.methodLink (am_own (am_m M).2.2.2.2.1) n0 arraycopyName ∈ am_tb := by
        unfold am_mw at hps
        split at hps <;> first | (next e1 => cases e1; done) | (cases hps; done) | skip
        next e1 =>
          cases e1
          have := am_wAt_mem hps
          rw [(am_key hn).1, (am_key hn).2] at this
          exact this
      obtain ⟨n1, n2, n3, n4, n5, hab, hne, hcat⟩ := hc
      show W p l e R s m args below meth c H locs cells slots Q (F0 m pc lr (.int (Int32.ofInt n) :: .int (Int32.ofInt dp) :: am_cv b sz (2, cc) :: .int (Int32.ofInt sp) :: am_cv b sz (2, a) :: r.map (am_cv b sz)))
      rcases hab with hb | hb
      · obtain ⟨a0, a1, a2, a3⟩ := am_atE hb.1
        obtain ⟨d0, d1, d2, d3⟩ := am_atE hb.2
        have he := am_ws_get (b := b) (sz := sz) (cI := cI) (cJ := cJ) (cB := cB) a1 a2
        rw [am_ceI a3] at he
        have he2 := am_ws_get (b := b) (sz := sz) (cI := cI) (cJ := cJ) (cB := cB) d1 d2
        rw [am_ceI d3] at he2
        rw [am_ref a0, am_ref d0]
        refine va_copyi (ty := .int) (sp := Int32.ofInt sp) (dp := Int32.ofInt dp) (n := Int32.ofInt n) G.1 G.2.1 (by rw [G.2.2.1]; exact hL.2.1.symm) G.2.2.2.1 (G.2.2.2.2.1 _ hl) (G.2.2.2.2.1 _ am_sysN) (G.2.2.2.2.1 _ am_sysS) (G.2.2.2.2.1 _ am_sys) G.2.2.2.2.2.1 hR.1 am_ws_D hS (am_pj a.toNat - 1) (am_pj cc.toNat - 1) 0 0 he he2 rfl rfl rfl (fun hlt => by have := (am_lt0 sp).mp hlt; omega) (fun hlt => by have := (am_lt0 dp).mp hlt; omega) (fun hlt => by have := (am_lt0 n).mp hlt; omega) ?_ ?_ (fun _ _ => rfl) hfr ?_ hd (fun H1 locs1 hP1 hD1 hS1 => ?_)
        · show (w32 sp).toNat + (w32 n).toNat ≤ _
          omega
        · show (w32 dp).toNat + (w32 n).toNat ≤ _
          omega
        · rw [am_cats]
          have := am_nfw
          omega
        · refine am_cpyK hC G.2.2.2.2.2.2.2.2.1 d1 k hL hR ?_ hS1
          have e1 : am_ce b sz cI cJ cB (am_cpy S a.toNat (w32 sp).toNat cc.toNat (w32 dp).toNat (w32 n).toNat) cc.toNat = .inl (cI, (S.2.1 cc.toNat).2, .inl (va_cpy (fun j => Int32.ofInt (S.1 a.toNat j)) (fun j => Int32.ofInt (S.1 cc.toNat j)) (w32 sp).toNat (w32 dp).toNat (w32 n).toNat)) := by
            rw [am_ceI (S := am_cpy S a.toNat (w32 sp).toNat cc.toNat (w32 dp).toNat (w32 n).toNat) d3]
            simp only [am_cpy, true_and]
            congr 4
            funext q
            unfold va_cpy
            split <;> rfl
          rw [e1]
          exact hP1
      · obtain ⟨a0, a1, a2, a3⟩ := am_atE hb.1
        obtain ⟨d0, d1, d2, d3⟩ := am_atE hb.2
        have he := am_ws_get (b := b) (sz := sz) (cI := cI) (cJ := cJ) (cB := cB) a1 a2
        rw [am_ceJ a3] at he
        have he2 := am_ws_get (b := b) (sz := sz) (cI := cI) (cJ := cJ) (cB := cB) d1 d2
        rw [am_ceJ d3] at he2
        rw [am_ref a0, am_ref d0]
        refine va_copyl (ty := .long) (sp := Int32.ofInt sp) (dp := Int32.ofInt dp) (n := Int32.ofInt n) G.1 G.2.1 (by rw [G.2.2.1]; exact hL.2.1.symm) G.2.2.2.1 (G.2.2.2.2.1 _ hl) (G.2.2.2.2.1 _ am_sysN) (G.2.2.2.2.1 _ am_sysS) (G.2.2.2.2.1 _ am_sys) G.2.2.2.2.2.1 hR.1 am_ws_D hS (am_pj a.toNat - 1) (am_pj cc.toNat - 1) 1 1 he he2 rfl rfl rfl (fun hlt => by have := (am_lt0 sp).mp hlt; omega) (fun hlt => by have := (am_lt0 dp).mp hlt; omega) (fun hlt => by have := (am_lt0 n).mp hlt; omega) ?_ ?_ (fun _ _ => rfl) hfr ?_ hd (fun H1 locs1 hP1 hD1 hS1 => ?_)
        · show (w32 sp).toNat + (w32 n).toNat ≤ _
          omega
        · show (w32 dp).toNat + (w32 n).toNat ≤ _
          omega
        · rw [am_cats]
          have := am_nfw
          omega
        · refine am_cpyK hC G.2.2.2.2.2.2.2.2.1 d1 k hL hR ?_ hS1
          have e1 : am_ce b sz cI cJ cB (am_cpy S a.toNat (w32 sp).toNat cc.toNat (w32 dp).toNat (w32 n).toNat) cc.toNat = .inl (cJ, (S.2.1 cc.toNat).2, .inr (.inl (va_cpy (fun j => Int64.ofInt (S.1 a.toNat j)) (fun j => Int64.ofInt (S.1 cc.toNat j)) (w32 sp).toNat (w32 dp).toNat (w32 n).toNat))) := by
            rw [am_ceJ (S := am_cpy S a.toNat (w32 sp).toNat cc.toNat (w32 dp).toNat (w32 n).toNat) d3]
            simp only [am_cpy, true_and]
            congr 5
            funext q
            unfold va_cpy
            split <;> rfl
          rw [e1]
          exact hP1
    · cases h
  · cases h

end AMS
