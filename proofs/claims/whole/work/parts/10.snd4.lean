/-! The heap: fields, arrays, new cells. -/
section AMS
variable {p : Program} {l : Launch} {e : Env} {R : Room} {s : State} {m : MethodId} {args : Array Value} {below : List Frame} {meth : Method} {c : Code} {H : Heap} {locs : List Loc} {cells slots : Nat} {Q : State → Prop}
variable {b sz L : Nat} {xs : Nat → Int32} {D : va_G} {cI cJ cB : ClassId} {M pc : Nat} {la st : List aV} {lr : Array Slot} {S : aS} {c2 : aC}

theorem am_atE {a : Int} {kd : Nat} (h : am_at S a kd = true) : 0 < a ∧ 0 < a.toNat ∧ am_pj a.toNat < S.2.2.1 ∧ (S.2.1 a.toNat).1 = kd := by
  unfold am_at at h
  simp only [Bool.and_eq_true, decide_eq_true_eq] at h
  obtain ⟨h1, h2, h3⟩ := h
  exact ⟨h1, by omega, h2, h3⟩
theorem am_ref {a : Int} (h : 0 < a) : am_cv b sz (2, a) = .ref (sz + (am_pj a.toNat - 1)) := by
  rw [am_cv2 (by omega)]
  unfold am_ph
  rw [if_neg (by omega)]
theorem am_ceO {a c0 : Nat} (h : (S.2.1 a).1 = c0) (hc : c0 < 13) : am_ce b sz cI cJ cB S a = .inr (c0, (List.range (am_nF c0)).map fun k => am_cv b sz (am_tg (am_ty c0 k), S.1 a k)) := by
  unfold am_ce
  rw [h, if_neg (by omega), if_neg (by omega), if_neg (by omega)]
theorem am_ceI {a : Nat} (h : (S.2.1 a).1 = 20) : am_ce b sz cI cJ cB S a = .inl (cI, (S.2.1 a).2, .inl fun j => Int32.ofInt (S.1 a j)) := by
  unfold am_ce
  rw [h, if_pos rfl]
theorem am_ceJ {a : Nat} (h : (S.2.1 a).1 = 21) : am_ce b sz cI cJ cB S a = .inl (cJ, (S.2.1 a).2, .inr (.inl fun j => Int64.ofInt (S.1 a j))) := by
  unfold am_ce
  rw [h, if_neg (by omega), if_pos rfl]
theorem am_ceB {a : Nat} (h : (S.2.1 a).1 = 22) : am_ce b sz cI cJ cB S a = .inl (cB, (S.2.1 a).2, .inl fun j => Int32.ofInt (S.1 a j)) := by
  unfold am_ce
  rw [h, if_neg (by omega), if_neg (by omega), if_pos rfl]
theorem am_ftw {o n f : Nat} (h : am_lk (o * 1000 + n) am_ft = some f) (hn : n < 1000) : Cond.fieldLink (am_own o) n (am_T (f / 100) (f % 100)).1 (am_T (f / 100) (f % 100)).2.1 (am_T (f / 100) (f % 100)).2.2.1 ∈ am_tb ∧ f / 100 < 13 ∧ f % 100 < am_nF (f / 100) ∧ (am_T (f / 100) (f % 100)).1 = am_own (f / 100) := by
  have hm := am_lk_mem h
  obtain ⟨q, hq⟩ := am_zip am_f0 (by decide +kernel) _ hm
  have hw := am_wAt_mem hq
  have h1 := List.all_eq_true.mp am_f1 _ hm
  simp only [Bool.and_eq_true, decide_eq_true_eq] at h1
  unfold am_fw at hw
  simp only [(am_key hn).1, (am_key hn).2] at hw
  exact ⟨hw, h1.1, h1.2.1, h1.2.2.1⟩
/-- the heap's size, out of the count of new cells -/
theorem am_size {H1 : Heap} {locs1 : List Loc} {g : JFrame} (hC : s.heap.size + cells = sz + (S.2.2.1 - 1)) (h1 : 1 ≤ S.2.2.1) (hsz : sz ≤ s.heap.size) (hP : va_P D am_cl (am_ws b sz cI cJ cB S) H1) (hS : va_S (fun q => sz ≤ q) s.heap H1 locs1) (k : H1.size = sz + (S.2.2.1 - 1) → W p l e R s m args below meth c H1 locs1 cells slots Q g) : W p l e R s m args below meth c H1 locs1 cells slots Q g := by
  intro T hT X
  refine k ?_ T hT X
  have hle : T.heap.size ≤ s.heap.size + cells := X.same.2.2.1
  rw [hT] at hle
  by_cases h2 : S.2.2.1 = 1
  · have := hS.1
    omega
  · have := (hP _ _ (am_ws_get (a := am_pi (S.2.2.1 - 1)) (am_pi_pos (by omega)) (by rw [am_pj_pi]; omega))).lt
    have e1 : (sz + (am_pj (am_pi (S.2.2.1 - 1)) - 1), am_ce b sz cI cJ cB S (am_pi (S.2.2.1 - 1))).1 = sz + (S.2.2.1 - 1 - 1) := by rw [am_pj_pi]
    rw [e1] at this
    omega

theorem am_i_getfield {n f : Nat} (G : am_G b sz L xs D cI cJ cB p s m args meth c M) (hk : am_lk ((am_m M).2.2.2.2.1 * 1000 + n) am_ft = some f) (hn : n < 1000) (hC : s.heap.size + cells = sz + (S.2.2.1 - 1)) (hd : decode (am_m M).2.1 pc = .ok (.getfield n, 3)) (h : am_s1 (18, pc + 3, f, (am_tg (am_ty (f / 100) (f % 100)) : Int), [n]) la st S = some c2) (hL : am_LR b sz lr (am_m M).2.2.1 la) (hR : am_Rel b sz L xs D cI cJ cB S H) (hS : va_S (fun q => sz ≤ q) s.heap H locs) (k : am_K p l e R s m args below meth c cells slots Q b sz L xs D cI cJ cB (am_m M).2.2.1 S c2) : W p l e R s m args below meth c H locs cells slots Q (F0 m pc lr (st.map (am_cv b sz))) := by
  simp only [am_s1] at h
  split at h
  · next a r =>
    split at h
    · next ha =>
      cases h
      obtain ⟨hw, hc, hf, -⟩ := am_ftw hk hn
      obtain ⟨a0, a1, a2, a3⟩ := am_atE ha
      have he := am_ws_get (b := b) (sz := sz) (cI := cI) (cJ := cJ) (cB := cB) a1 a2
      rw [am_ceO a3 hc] at he
      show W p l e R s m args below meth c H locs cells slots Q (F0 m pc lr (am_cv b sz (2, a) :: r.map (am_cv b sz)))
      rw [am_ref a0]
      exact va_get (v := am_cv b sz (am_tg (am_ty (f / 100) (f % 100)), S.1 a.toNat (f % 100))) G.1 G.2.1 G.2.2.2.2.1 (am_lay _ hc) G.2.2.2.1 G.2.2.2.2.2.1 hR.1 (am_pj a.toNat - 1) he (am_cl_at _ hc) (f % 100) hf (G.2.2.2.2.1 _ hw) (fun _ h9 => h9) (by rw [List.getElem?_map, List.getElem?_range hf]; rfl) hd (am_same k hL hR hS)
    · cases h
  · cases h

theorem am_fits {c0 f0 : Nat} {v : Int} {t : Nat} (hc : c0 < 13) (hf : f0 < am_nF c0) (ht : t = am_tg (am_ty c0 f0)) (h2 : t = 2 → 0 ≤ v) (hb : am_ty c0 f0 = .boolean → v = 0 ∨ v = 1) : narrow (am_ty c0 f0) (am_cv b sz (t, v)) = am_cv b sz (t, v) ∧ fits (am_ty c0 f0) (am_cv b sz (t, v)) = true := by
  have h1 := List.all_eq_true.mp (List.all_eq_true.mp am_tyk c0 (List.mem_range.mpr hc)) f0 (List.mem_range.mpr hf)
  cases hty : am_ty c0 f0 with
  | int =>
    rw [hty] at ht; subst ht
    exact ⟨rfl, rfl⟩
  | boolean =>
    rw [hty] at ht; subst ht
    rcases hb hty with rfl | rfl <;> exact ⟨rfl, rfl⟩
  | long =>
    rw [hty] at ht; subst ht
    exact ⟨rfl, rfl⟩
  | object C =>
    rw [hty] at ht; subst ht
    rw [show am_tg (.object C) = 2 from rfl, am_cv2 (h2 rfl)]
    exact ⟨rfl, rfl⟩
  | array C =>
    rw [hty] at ht; subst ht
    rw [show am_tg (.array C) = 2 from rfl, am_cv2 (h2 rfl)]
    exact ⟨rfl, rfl⟩
  | _ => rw [hty] at h1; cases h1
theorem am_upRel {a k0 : Nat} {v : Int} {H1 : Heap} (hR : am_Rel b sz L xs D cI cJ cB S H) (h0 : 0 < a) (hz : H1.size = sz + (S.2.2.1 - 1)) (hP : va_P D am_cl ((am_ws b sz cI cJ cB S).set (am_pj a - 1) (sz + (am_pj a - 1), am_ce b sz cI cJ cB (am_up S a k0 v) a)) H1) : am_Rel b sz L xs D cI cJ cB (am_up S a k0 v) H1 := by
  refine ⟨?_, hz, hR.2.2.1, hR.2.2.2.1, fun j hj => ?_⟩
  · rw [am_ws_set (S := S) (S2 := am_up S a k0 v) (a := a) rfl h0 (fun q j hq => by simp [am_up, hq])]
    exact hP
  · have : ¬ (0 = a ∧ j = k0) := by omega
    simp only [am_up, this, if_false]
    exact hR.2.2.2.2 j hj
theorem am_ceOup {a c0 f0 : Nat} {v : Int} (h : (S.2.1 a).1 = c0) (hc : c0 < 13) (hf : f0 < am_nF c0) : am_ce b sz cI cJ cB (am_up S a f0 v) a = .inr (c0, ((List.range (am_nF c0)).map fun k => am_cv b sz (am_tg (am_ty c0 k), S.1 a k)).set f0 (am_cv b sz (am_tg (am_ty c0 f0), v))) := by
  rw [am_ceO (S := am_up S a f0 v) h hc]
  congr 2
  apply List.ext_getElem?
  intro j
  rw [List.getElem?_set, List.length_map, List.length_range]
  by_cases hj : f0 = j
  · subst hj
    rw [if_pos rfl, if_pos hf, List.getElem?_map, List.getElem?_range hf]
    simp [am_up]
  · rw [if_neg hj, List.getElem?_map, List.getElem?_map]
    by_cases hl : j < am_nF c0
    · rw [List.getElem?_range hl]
      have : ¬ j = f0 := fun e => hj e.symm
      simp [am_up, this]
    · rw [List.getElem?_eq_none_iff.mpr (by rw [List.length_range]; omega)]
      rfl
theorem am_upK {a k0 pc2 : Nat} {v : Int} {st2 : List aV} {H1 : Heap} {locs1 : List Loc} (hC : s.heap.size + cells = sz + (S.2.2.1 - 1)) (hsz : sz ≤ s.heap.size) (h0 : 0 < a) (k : am_K p l e R s m args below meth c cells slots Q b sz L xs D cI cJ cB (am_m M).2.2.1 S (pc2, la, st2, am_up S a k0 v)) (hL : am_LR b sz lr (am_m M).2.2.1 la) (hR : am_Rel b sz L xs D cI cJ cB S H) (hP : va_P D am_cl ((am_ws b sz cI cJ cB S).set (am_pj a - 1) (sz + (am_pj a - 1), am_ce b sz cI cJ cB (am_up S a k0 v) a)) H1) (hS : va_S (fun q => sz ≤ q) s.heap H1 locs1) : W p l e R s m args below meth c H1 locs1 cells slots Q (F0 m pc2 lr (st2.map (am_cv b sz))) := by
  refine am_size (S := am_up S a k0 v) (b := b) (D := D) (cI := cI) (cJ := cJ) (cB := cB) hC hR.2.2.1 hsz ?_ hS (fun hz => ?_)
  · rw [am_ws_set (S := S) (S2 := am_up S a k0 v) (a := a) rfl h0 (fun q j hq => by simp [am_up, hq])]
    exact hP
  · have k1 := k lr H1 locs1 hL (am_upRel hR h0 hz hP) hS
    simp only [am_up, Nat.sub_self, Nat.add_zero] at k1
    exact k1

theorem am_i_putfield {n f : Nat} (G : am_G b sz L xs D cI cJ cB p s m args meth c M) (hk : am_lk ((am_m M).2.2.2.2.1 * 1000 + n) am_ft = some f) (hn : n < 1000) (hfin : (am_T (f / 100) (f % 100)).2.2.2 = false) (hC : s.heap.size + cells = sz + (S.2.2.1 - 1)) (hd : decode (am_m M).2.1 pc = .ok (.putfield n, 3)) (h : am_s1 (19, pc + 3, f, (am_tg (am_ty (f / 100) (f % 100)) : Int), [n]) la st S = some c2) (hL : am_LR b sz lr (am_m M).2.2.1 la) (hR : am_Rel b sz L xs D cI cJ cB S H) (hS : va_S (fun q => sz ≤ q) s.heap H locs) (k : am_K p l e R s m args below meth c cells slots Q b sz L xs D cI cJ cB (am_m M).2.2.1 S c2) : W p l e R s m args below meth c H locs cells slots Q (F0 m pc lr (st.map (am_cv b sz))) := by
  simp only [am_s1] at h
  split at h
  · next t v a r =>
    split at h
    · next ha =>
      cases h
      obtain ⟨hw, hc, hf, hdecl⟩ := am_ftw hk hn
      obtain ⟨a0, a1, a2, a3⟩ := am_atE ha.1
      have ht : t = am_tg (am_ty (f / 100) (f % 100)) := ha.2.1
      have hfit := am_fits (b := b) (sz := sz) hc hf ht ha.2.2.1 ha.2.2.2
      have he := am_ws_get (b := b) (sz := sz) (cI := cI) (cJ := cJ) (cB := cB) a1 a2
      rw [am_ceO a3 hc] at he
      show W p l e R s m args below meth c H locs cells slots Q (F0 m pc lr (am_cv b sz (t, v) :: am_cv b sz (2, a) :: r.map (am_cv b sz)))
      rw [am_ref a0]
      refine va_put (v := am_cv b sz (t, v)) G.1 G.2.1 G.2.2.2.2.1 (am_lay _ hc) (am_ty (f / 100)) (am_ty_ok _ hc) (am_nm _ hc) G.2.2.2.1 G.2.2.2.2.2.1 hR.1 am_ws_D hS (am_pj a.toNat - 1) he (am_cl_at _ hc) (f % 100) hf (G.2.2.2.2.1 _ hw) (fun _ h9 => h9) hfin (am_ty_ok _ hc _ hf) hfit.1 hfit.2 (by rw [List.length_map, List.length_range]; exact hf) hd (fun H1 locs1 hP1 hD1 hS1 => ?_)
      refine am_upK hC G.2.2.2.2.2.2.2.2.1 a1 k hL hR ?_ hS1
      rw [am_ceOup a3 hc hf, ← ht]
      exact hP1
    · cases h
  · cases h

theorem am_i_putfin {n f : Nat} (G : am_G b sz L xs D cI cJ cB p s m args meth c M) (hk : am_lk ((am_m M).2.2.2.2.1 * 1000 + n) am_ft = some f) (hn : n < 1000) (hfin : (am_T (f / 100) (f % 100)).2.2.2 = true) (hown : (am_m M).2.2.2.2.1 = f / 100) (hini : (am_m M).1.name = "<init>") (hC : s.heap.size + cells = sz + (S.2.2.1 - 1)) (hd : decode (am_m M).2.1 pc = .ok (.putfield n, 3)) (h : am_s1 (20, pc + 3, f, (am_tg (am_ty (f / 100) (f % 100)) : Int), [n]) la st S = some c2) (hL : am_LR b sz lr (am_m M).2.2.1 la) (hR : am_Rel b sz L xs D cI cJ cB S H) (hS : va_S (fun q => sz ≤ q) s.heap H locs) (k : am_K p l e R s m args below meth c cells slots Q b sz L xs D cI cJ cB (am_m M).2.2.1 S c2) : W p l e R s m args below meth c H locs cells slots Q (F0 m pc lr (st.map (am_cv b sz))) := by
  simp only [am_s1] at h
  split at h
  · next t v a r =>
    split at h
    · next ha =>
      cases h
      obtain ⟨hw, hc, hf, hdecl⟩ := am_ftw hk hn
      obtain ⟨a0, a1, a2, a3⟩ := am_atE ha.1
      have ht : t = am_tg (am_ty (f / 100) (f % 100)) := ha.2.1
      have hfit := am_fits (b := b) (sz := sz) hc hf ht ha.2.2.1 ha.2.2.2
      have he := am_ws_get (b := b) (sz := sz) (cI := cI) (cJ := cJ) (cB := cB) a1 a2
      rw [am_ceO a3 hc] at he
      show W p l e R s m args below meth c H locs cells slots Q (F0 m pc lr (am_cv b sz (t, v) :: am_cv b sz (2, a) :: r.map (am_cv b sz)))
      rw [am_ref a0]
      refine va_putF (v := am_cv b sz (t, v)) G.1 G.2.1 G.2.2.2.2.1 (am_lay _ hc) (am_ty (f / 100)) (am_ty_ok _ hc) (am_nm _ hc) G.2.2.2.1 G.2.2.2.2.2.1 hR.1 am_ws_D hS (am_pj a.toNat - 1) he (am_cl_at _ hc) (f % 100) hf (G.2.2.2.2.1 _ hw) (fun _ h9 => h9) hfin (G.2.2.2.2.2.2.2.2.2.1 hini) (by rw [hdecl, hown]) (am_ty_ok _ hc _ hf) hfit.1 hfit.2 (by rw [List.length_map, List.length_range]; exact hf) hd (fun H1 locs1 hP1 hD1 hS1 => ?_)
      refine am_upK hC G.2.2.2.2.2.2.2.2.1 a1 k hL hR ?_ hS1
      rw [am_ceOup a3 hc hf, ← ht]
      exact hP1
    · cases h
  · cases h

theorem am_ixE {a i : Int} (h : am_ix S a i = true) : vp_in (Int32.ofInt i) (S.2.1 a.toNat).2 ∧ (Int32.ofInt i).toNatClampNeg = (w32 i).toNat := by
  unfold am_ix at h
  simp only [Bool.and_eq_true, decide_eq_true_eq] at h
  exact ⟨vp_in_iff.mpr h, rfl⟩

theorem am_i_iaload  (G : am_G b sz L xs D cI cJ cB p s m args meth c M) (hC : s.heap.size + cells = sz + (S.2.2.1 - 1)) (hd : decode (am_m M).2.1 pc = .ok (.iaload, 1)) (h : am_s1 (21, pc + 1, 0, 0, []) la st S = some c2) (hL : am_LR b sz lr (am_m M).2.2.1 la) (hR : am_Rel b sz L xs D cI cJ cB S H) (hS : va_S (fun q => sz ≤ q) s.heap H locs) (k : am_K p l e R s m args below meth c cells slots Q b sz L xs D cI cJ cB (am_m M).2.2.1 S c2) : W p l e R s m args below meth c H locs cells slots Q (F0 m pc lr (st.map (am_cv b sz))) := by
  simp only [am_s1] at h
  split at h
  · next i a r =>
    split at h
    · next ha =>
      cases h
      obtain ⟨hin, hix⟩ := am_ixE ha.1
      rcases ha.2 with h2 | h2
      · obtain ⟨a0, a1, a2, a3⟩ := am_atE h2
        have he := am_ws_get (b := b) (sz := sz) (cI := cI) (cJ := cJ) (cB := cB) a1 a2
        rw [am_ceI a3] at he
        show W p l e R s m args below meth c H locs cells slots Q (F0 m pc lr (.int (Int32.ofInt i) :: am_cv b sz (2, a) :: r.map (am_cv b sz)))
        rw [am_ref a0]
        exact va_iald G.1 G.2.1 G.2.2.2.2.2.1 hR.1 (am_pj a.toNat - 1) 0 he rfl hin hd (am_same k hL hR hS)
      · subst h2
        have hX := G.2.2.2.2.2.2.1
        have hsz := G.2.2.2.2.2.2.2.2.1
        have hb := G.2.2.2.2.2.2.2.1
        have hl : (S.2.1 (0 : Int).toNat).2 = L := by rw [show (0 : Int).toNat = 0 from rfl, hR.2.2.2.1]
        rw [hl] at hin
        refine va_sld G.1 G.2.1 hX (by omega) (by omega) hS hin hd ?_
        have hj : (w32 i).toNat < L := by
          have := (vp_in_iff.mp hin)
          have e1 : (Int32.ofInt i).toInt = w32 i := rfl
          omega
        rw [hix, ← hR.2.2.2.2 _ hj]
        exact am_same k hL hR hS
    · cases h
  · cases h

theorem am_i_laload  (G : am_G b sz L xs D cI cJ cB p s m args meth c M) (hC : s.heap.size + cells = sz + (S.2.2.1 - 1)) (hd : decode (am_m M).2.1 pc = .ok (.laload, 1)) (h : am_s1 (22, pc + 1, 0, 0, []) la st S = some c2) (hL : am_LR b sz lr (am_m M).2.2.1 la) (hR : am_Rel b sz L xs D cI cJ cB S H) (hS : va_S (fun q => sz ≤ q) s.heap H locs) (k : am_K p l e R s m args below meth c cells slots Q b sz L xs D cI cJ cB (am_m M).2.2.1 S c2) : W p l e R s m args below meth c H locs cells slots Q (F0 m pc lr (st.map (am_cv b sz))) := by
  simp only [am_s1] at h
  split at h
  · next i a r =>
    split at h
    · next ha =>
      cases h
      obtain ⟨hin, hix⟩ := am_ixE ha.1
      obtain ⟨a0, a1, a2, a3⟩ := am_atE ha.2
      have he := am_ws_get (b := b) (sz := sz) (cI := cI) (cJ := cJ) (cB := cB) a1 a2
      rw [am_ceJ a3] at he
      show W p l e R s m args below meth c H locs cells slots Q (F0 m pc lr (.int (Int32.ofInt i) :: am_cv b sz (2, a) :: r.map (am_cv b sz)))
      rw [am_ref a0]
      exact va_lald G.1 G.2.1 G.2.2.2.2.2.1 hR.1 (am_pj a.toNat - 1) 1 he rfl hin hd (am_same k hL hR hS)
    · cases h
  · cases h

theorem am_i_baload  (G : am_G b sz L xs D cI cJ cB p s m args meth c M) (hC : s.heap.size + cells = sz + (S.2.2.1 - 1)) (hd : decode (am_m M).2.1 pc = .ok (.baload, 1)) (h : am_s1 (23, pc + 1, 0, 0, []) la st S = some c2) (hL : am_LR b sz lr (am_m M).2.2.1 la) (hR : am_Rel b sz L xs D cI cJ cB S H) (hS : va_S (fun q => sz ≤ q) s.heap H locs) (k : am_K p l e R s m args below meth c cells slots Q b sz L xs D cI cJ cB (am_m M).2.2.1 S c2) : W p l e R s m args below meth c H locs cells slots Q (F0 m pc lr (st.map (am_cv b sz))) := by
  simp only [am_s1] at h
  split at h
  · next i a r =>
    split at h
    · next ha =>
      cases h
      obtain ⟨hin, hix⟩ := am_ixE ha.1
      obtain ⟨a0, a1, a2, a3⟩ := am_atE ha.2
      have he := am_ws_get (b := b) (sz := sz) (cI := cI) (cJ := cJ) (cB := cB) a1 a2
      rw [am_ceB a3] at he
      show W p l e R s m args below meth c H locs cells slots Q (F0 m pc lr (.int (Int32.ofInt i) :: am_cv b sz (2, a) :: r.map (am_cv b sz)))
      rw [am_ref a0]
      exact va_bald G.1 G.2.1 G.2.2.2.2.2.1 hR.1 (am_pj a.toNat - 1) 2 he rfl hin hd (am_same k hL hR hS)
    · cases h
  · cases h

theorem am_ceIup {a j : Nat} {v : Int} (h : (S.2.1 a).1 = 20) : am_ce b sz cI cJ cB (am_up S a j v) a = .inl (cI, (S.2.1 a).2, .inl (upd (fun j => Int32.ofInt (S.1 a j)) j (Int32.ofInt v))) := by
  rw [am_ceI (S := am_up S a j v) h]
  simp only [am_up]
  congr 4
  funext q
  by_cases hq : q = j
  · simp [upd, hq]
  · simp [upd, hq]
theorem am_ceBup {a j : Nat} {v : Int} (h : (S.2.1 a).1 = 22) : am_ce b sz cI cJ cB (am_up S a j v) a = .inl (cB, (S.2.1 a).2, .inl (upd (fun j => Int32.ofInt (S.1 a j)) j (Int32.ofInt v))) := by
  rw [am_ceB (S := am_up S a j v) h]
  simp only [am_up]
  congr 4
  funext q
  by_cases hq : q = j
  · simp [upd, hq]
  · simp [upd, hq]
theorem am_ceJup {a j : Nat} {v : Int} (h : (S.2.1 a).1 = 21) : am_ce b sz cI cJ cB (am_up S a j v) a = .inl (cJ, (S.2.1 a).2, .inr (.inl (vp_updL (fun j => Int64.ofInt (S.1 a j)) j (Int64.ofInt v)))) := by
  rw [am_ceJ (S := am_up S a j v) h]
  simp only [am_up]
  congr 5
  funext q
  by_cases hq : q = j
  · simp [vp_updL, hq]
  · simp [vp_updL, hq]

theorem am_i_iastore  (G : am_G b sz L xs D cI cJ cB p s m args meth c M) (hC : s.heap.size + cells = sz + (S.2.2.1 - 1)) (hd : decode (am_m M).2.1 pc = .ok (.iastore, 1)) (h : am_s1 (24, pc + 1, 0, 0, []) la st S = some c2) (hL : am_LR b sz lr (am_m M).2.2.1 la) (hR : am_Rel b sz L xs D cI cJ cB S H) (hS : va_S (fun q => sz ≤ q) s.heap H locs) (k : am_K p l e R s m args below meth c cells slots Q b sz L xs D cI cJ cB (am_m M).2.2.1 S c2) : W p l e R s m args below meth c H locs cells slots Q (F0 m pc lr (st.map (am_cv b sz))) := by
  simp only [am_s1] at h
  split at h
  · next v i a r =>
    split at h
    · next ha =>
      cases h
      obtain ⟨hin, hix⟩ := am_ixE ha.1
      obtain ⟨a0, a1, a2, a3⟩ := am_atE ha.2
      have he := am_ws_get (b := b) (sz := sz) (cI := cI) (cJ := cJ) (cB := cB) a1 a2
      rw [am_ceI a3] at he
      show W p l e R s m args below meth c H locs cells slots Q (F0 m pc lr (am_cv b sz (0, v) :: .int (Int32.ofInt i) :: am_cv b sz (2, a) :: r.map (am_cv b sz)))
      rw [am_ref a0]
      refine va_iast G.1 G.2.1 G.2.2.2.2.2.1 hR.1 am_ws_D hS (am_pj a.toNat - 1) 0 he rfl hin hd (fun H1 locs1 hP1 hD1 hS1 => ?_)
      refine am_upK hC G.2.2.2.2.2.2.2.2.1 a1 k hL hR ?_ hS1
      rw [← hix]
      rw [am_ceIup a3]
      exact hP1
    · cases h
  · cases h

theorem am_i_lastore  (G : am_G b sz L xs D cI cJ cB p s m args meth c M) (hC : s.heap.size + cells = sz + (S.2.2.1 - 1)) (hd : decode (am_m M).2.1 pc = .ok (.lastore, 1)) (h : am_s1 (25, pc + 1, 0, 0, []) la st S = some c2) (hL : am_LR b sz lr (am_m M).2.2.1 la) (hR : am_Rel b sz L xs D cI cJ cB S H) (hS : va_S (fun q => sz ≤ q) s.heap H locs) (k : am_K p l e R s m args below meth c cells slots Q b sz L xs D cI cJ cB (am_m M).2.2.1 S c2) : W p l e R s m args below meth c H locs cells slots Q (F0 m pc lr (st.map (am_cv b sz))) := by
  simp only [am_s1] at h
  split at h
  · next v i a r =>
    split at h
    · next ha =>
      cases h
      obtain ⟨hin, hix⟩ := am_ixE ha.1
      obtain ⟨a0, a1, a2, a3⟩ := am_atE ha.2
      have he := am_ws_get (b := b) (sz := sz) (cI := cI) (cJ := cJ) (cB := cB) a1 a2
      rw [am_ceJ a3] at he
      show W p l e R s m args below meth c H locs cells slots Q (F0 m pc lr (am_cv b sz (1, v) :: .int (Int32.ofInt i) :: am_cv b sz (2, a) :: r.map (am_cv b sz)))
      rw [am_ref a0]
      refine va_last G.1 G.2.1 G.2.2.2.2.2.1 hR.1 am_ws_D hS (am_pj a.toNat - 1) 1 he rfl hin hd (fun H1 locs1 hP1 hD1 hS1 => ?_)
      refine am_upK hC G.2.2.2.2.2.2.2.2.1 a1 k hL hR ?_ hS1
      rw [← hix]
      rw [am_ceJup a3]
      exact hP1
    · cases h
  · cases h

theorem am_i_bastore  (G : am_G b sz L xs D cI cJ cB p s m args meth c M) (hC : s.heap.size + cells = sz + (S.2.2.1 - 1)) (hd : decode (am_m M).2.1 pc = .ok (.bastore, 1)) (h : am_s1 (26, pc + 1, 0, 0, []) la st S = some c2) (hL : am_LR b sz lr (am_m M).2.2.1 la) (hR : am_Rel b sz L xs D cI cJ cB S H) (hS : va_S (fun q => sz ≤ q) s.heap H locs) (k : am_K p l e R s m args below meth c cells slots Q b sz L xs D cI cJ cB (am_m M).2.2.1 S c2) : W p l e R s m args below meth c H locs cells slots Q (F0 m pc lr (st.map (am_cv b sz))) := by
  simp only [am_s1] at h
  split at h
  · next v i a r =>
    split at h
    · next ha =>
      cases h
      obtain ⟨hin, hix⟩ := am_ixE ha.1
      obtain ⟨a0, a1, a2, a3⟩ := am_atE ha.2
      have he := am_ws_get (b := b) (sz := sz) (cI := cI) (cJ := cJ) (cB := cB) a1 a2
      rw [am_ceB a3] at he
      show W p l e R s m args below meth c H locs cells slots Q (F0 m pc lr (am_cv b sz (0, v) :: .int (Int32.ofInt i) :: am_cv b sz (2, a) :: r.map (am_cv b sz)))
      rw [am_ref a0]
      refine va_bast G.1 G.2.1 G.2.2.2.2.2.1 hR.1 am_ws_D hS (am_pj a.toNat - 1) 2 he rfl hin hd (fun H1 locs1 hP1 hD1 hS1 => ?_)
      refine am_upK hC G.2.2.2.2.2.2.2.2.1 a1 k hL hR ?_ hS1
      rw [← hix]
      rw [am_ceBup a3]
      have e1 : Int32.ofInt (Int32.ofInt v).toInt8.toInt = vp_nar .byte (Int32.ofInt v) := by
        rw [vp_nar_byte, ← Int32.toInt_inj, Int8.toInt_toInt32, Int32.toInt_ofInt, am_b32]
        have h1 := Int8.le_toInt (Int32.ofInt v).toInt8
        have h2 := Int8.toInt_lt (Int32.ofInt v).toInt8
        omega
      rw [e1]
      exact hP1
    · cases h
  · cases h

theorem am_i_alen  (G : am_G b sz L xs D cI cJ cB p s m args meth c M) (hC : s.heap.size + cells = sz + (S.2.2.1 - 1)) (hd : decode (am_m M).2.1 pc = .ok (.arraylength, 1)) (h : am_s1 (27, pc + 1, 0, 0, []) la st S = some c2) (hL : am_LR b sz lr (am_m M).2.2.1 la) (hR : am_Rel b sz L xs D cI cJ cB S H) (hS : va_S (fun q => sz ≤ q) s.heap H locs) (k : am_K p l e R s m args below meth c cells slots Q b sz L xs D cI cJ cB (am_m M).2.2.1 S c2) : W p l e R s m args below meth c H locs cells slots Q (F0 m pc lr (st.map (am_cv b sz))) := by
  simp only [am_s1] at h
  split at h
  · next a r =>
    split at h
    · next ha =>
      cases h
      have fin : ∀ (h0 : 0 < a) (t0 : Nat) (cA : ClassId) (x : vp_A) (ty : FieldType), (am_ws b sz cI cJ cB S)[am_pj a.toNat - 1]? = some (sz + (am_pj a.toNat - 1), .inl (cA, x)) → [(cI, FieldType.int), (cJ, .long), (cB, .byte)][t0]? = some (cA, ty) → x.1 = (S.2.1 a.toNat).2 → W p l e R s m args below meth c H locs cells slots Q (F0 m pc lr (am_cv b sz (2, a) :: r.map (am_cv b sz))) := by
        intro h0 t0 cA x ty he ht hx
        rw [am_ref h0]
        exact va_alen (v := Int32.ofInt ((S.2.1 a.toNat).2 : Int)) G.1 G.2.1 G.2.2.2.2.2.1 hR.1 (am_pj a.toNat - 1) t0 he ht (by rw [hx]; exact (Int32.ofInt_eq_ofNat).symm) hd (am_same k hL hR hS)
      rcases ha with h2 | h2 | h2 | h2
      · obtain ⟨a0, a1, a2, a3⟩ := am_atE h2
        exact fin a0 0 _ _ _ (by rw [am_ws_get a1 a2, am_ceI a3]) rfl rfl
      · obtain ⟨a0, a1, a2, a3⟩ := am_atE h2
        exact fin a0 1 _ _ _ (by rw [am_ws_get a1 a2, am_ceJ a3]) rfl rfl
      · obtain ⟨a0, a1, a2, a3⟩ := am_atE h2
        exact fin a0 2 _ _ _ (by rw [am_ws_get a1 a2, am_ceB a3]) rfl rfl
      · subst h2
        have hX := G.2.2.2.2.2.2.1
        have hsz := G.2.2.2.2.2.2.2.2.1
        have hb := G.2.2.2.2.2.2.2.1
        have hl : (S.2.1 (0 : Int).toNat).2 = L := by rw [show (0 : Int).toNat = 0 from rfl, hR.2.2.2.1]
        refine va_slen (b := b) G.1 G.2.1 hX (by omega) (by omega) hS hd ?_
        have k1 := am_same k hL hR hS
        rw [hl] at k1
        rw [show Int32.ofNat L = Int32.ofInt (L : Int) from (Int32.ofInt_eq_ofNat).symm]
        exact k1
    · cases h
  · cases h

end AMS
