/-! Calls: a method's contract out of its run, and the whole walk. -/
def am_isN : Cond → Bool
  | .methodLinkNest _ _ _ _ => true
  | .arrayClass _ => true
  | _ => false
theorem am_wk : am_tb.all (fun w => am_isN w || (w.onTables && w.keepsFace)) = true := by decide +kernel
theorem am_mv {w : Cond} {args a' : Array Value} {s U : State} (hw : w ∈ am_tb) (hW : s.WarmedH U.vm) (h : w.before args s = true) : w.before a' U = true := by
  have h1 := List.all_eq_true.mp am_wk w hw
  simp only [Bool.and_eq_true, Bool.or_eq_true] at h1
  rcases h1 with h2 | h2
  · cases w with
    | methodLinkNest a i x hh => exact va_Nw.use rfl (va_Nw.warmM hW (va_Nw.of (A := args) rfl h))
    | arrayClass ty => exact word_at hW (Or.inr ⟨ty, rfl⟩) h
    | _ => cases h2
  · exact va_tabs h2.1 (rfl : (s.setVm U.vm).vm = U.vm) (Cond.before_shiftedFace (State.Shifted.of_warmed hW) w h2.2 h)
theorem am_vm {w : Cond} {args a' : Array Value} {s U : State} (hw : w ∈ am_tb) (hv : s.vm = U.vm) (h : w.before args s = true) : w.before a' U = true := by
  have h1 := List.all_eq_true.mp am_wk w hw
  simp only [Bool.and_eq_true, Bool.or_eq_true] at h1
  rcases h1 with h2 | h2
  · have hs : s.setVm U.vm = s := by rw [← hv]; rfl
    cases w with
    | methodLinkNest a i x hh => exact va_tabs rfl hv h
    | arrayClass ty =>
      have h3 : (Cond.arrayClass ty).before args (s.setVm U.vm) = true := by rw [hs]; exact h
      exact h3
    | _ => cases h2
  · exact va_tabs h2.1 hv h
def am_Pc (b sz L : Nat) (xs : Nat → Int32) (D : va_G) (cI cJ cB : ClassId) (as : List aV) (S : aS) : Array Value → State → Prop := fun v U =>
  v = (as.map (am_cv b sz)).toArray ∧ (∀ w ∈ am_tb, w.before #[] U = true) ∧ va_K D am_cl [(cI, .int), (cJ, .long), (cB, .byte)] U ∧ va_X b L xs U U.heap ∧ b < sz ∧ am_Rel b sz L xs D cI cJ cB S U.heap ∧ am_Zs sz U U.heap
def am_Qc (b sz L : Nat) (xs : Nat → Int32) (D : va_G) (cI cJ cB : ClassId) (r : Option aV) (S2 : aS) : Array Value → State → Outcome → State → Prop := fun _ st o t =>
  o = .returned (r.map (am_cv b sz)) ∧ am_Rel b sz L xs D cI cJ cB S2 t.heap ∧ va_F (fun q => sz ≤ q) st t
def am_rm (d : Nat) (S S2 : aS) : Jvm.Room := { frames := d, cells := S2.2.2.1 - S.2.2.1, slots := S2.2.2.2 - S.2.2.2, locals := 60 * d }
def am_wl (k : Nat) : List Cond := [.code (am_m k).1 (am_m k).2.1 (am_m k).2.2.1 (am_m k).2.2.2.1]
theorem am_blind {b sz L : Nat} {xs : Nat → Int32} {D : va_G} {cI cJ cB : ClassId} {as : List aV} {S : aS} : FrameBlind (am_Pc b sz L xs D cI cJ cB as S) := by
  intro a U g mk h
  obtain ⟨h1, h2, h3, h4, h5, h6, h7⟩ := h
  refine ⟨h1, fun w hw => am_vm (s := U) hw rfl (h2 w hw), va_K.moved (u := U) (U := U.calling g mk a) (Vm.Alike.refl U.vm) h3, ?_, h5, h6, vx_Zq.moved (u := U) (U := U.calling g mk a) (Vm.Alike.refl U.vm) h7.1, vx_Zq.moved (u := U) (U := U.calling g mk a) (Vm.Alike.refl U.vm) h7.2⟩
  obtain ⟨scr, q1, q2, q3, q4, q5⟩ := h4
  exact ⟨scr, q1, State.isArrayOf_alike (s := U) (T := U.calling g mk a) (Vm.Alike.refl U.vm) q2, q3, q4, q5⟩
theorem am_X_moved {b L : Nat} {xs : Nat → Int32} {s U : State} (h : va_X b L xs s s.heap) (hW : s.vm.Alike U.vm) (hH : U.heap[b]? = s.heap[b]?) : va_X b L xs U U.heap := by
  obtain ⟨scr, q1, q2, q3, q4, q5⟩ := h
  exact ⟨scr, by rw [hH]; exact q1, State.isArrayOf_alike hW q2, q3, q4, q5⟩
-- the beginning of a method
def am_fl (as : List aV) : List aV := as.flatMap fun v => if v.1 = 1 then [v, (9, 0)] else [v]
theorem am_fl_args {b sz : Nat} : ∀ (as : List aV) (off i : Nat) (v : aV), (am_fl as)[i]? = some v → v.1 ≤ 2 → (off + i, am_cv b sz v) ∈ lv_args off (as.map (am_cv b sz)) := by
  intro as
  induction as with
  | nil => intro off i v h _; simp [am_fl] at h
  | cons w as ih =>
    intro off i v h hv
    have hf : am_fl (w :: as) = (if w.1 = 1 then [w, (9, 0)] else [w]) ++ am_fl as := by simp [am_fl]
    rw [hf] at h
    rw [List.map_cons]
    show _ ∈ (off, am_cv b sz w) :: lv_args (if (am_cv b sz w).category = 2 then off + 2 else off + 1) (as.map (am_cv b sz))
    rw [am_cv_cat]
    by_cases hw : w.1 = 1
    · rw [if_pos hw] at h ⊢
      rw [if_pos rfl]
      match i, h with
      | 0, h => cases h; exact List.mem_cons_self
      | 1, h => cases h; exact absurd hv (by decide)
      | i + 2, h =>
        have := ih (off + 2) i v h hv
        rw [show off + (i + 2) = off + 2 + i by omega]
        exact List.mem_cons_of_mem _ this
    · rw [if_neg hw] at h ⊢
      rw [if_neg (by decide)]
      match i, h with
      | 0, h => cases h; exact List.mem_cons_self
      | i + 1, h =>
        have := ih (off + 1) i v h hv
        rw [show off + (i + 1) = off + 1 + i by omega]
        exact List.mem_cons_of_mem _ this
theorem am_fl_len {b sz : Nat} (as : List aV) : (lg_sl (as.map (am_cv b sz))).length = (am_fl as).length := by
  induction as with
  | nil => rfl
  | cons w as ih =>
    have hf : am_fl (w :: as) = (if w.1 = 1 then [w, (9, 0)] else [w]) ++ am_fl as := by simp [am_fl]
    have hg : lg_sl ((w :: as).map (am_cv b sz)) = (if (am_cv b sz w).category = 2 then [.val (am_cv b sz w), .second] else [.val (am_cv b sz w)]) ++ lg_sl (as.map (am_cv b sz)) := by simp [lg_sl]
    rw [hf, hg, List.length_append, List.length_append, ih, am_cv_cat]
    by_cases hw : w.1 = 1
    · rw [if_pos hw, if_pos rfl, if_pos hw]; rfl
    · rw [if_neg hw, if_neg (by decide), if_neg hw]; rfl
theorem am_entry {b sz k : Nat} {as : List aV} {m : MethodId} (hl : (am_fl as).length ≤ (am_m k).2.2.1) : ∃ lr, entryFrame m (as.map (am_cv b sz)).toArray (am_m k).2.2.1 = F0 m 0 lr [] ∧ am_LR b sz lr (am_m k).2.2.1 (am_en k as) := by
  have hl2 : (lg_sl (as.map (am_cv b sz))).length ≤ (am_m k).2.2.1 := by rw [am_fl_len]; exact hl
  refine ⟨_, lg_entry_eq m _ _, am_LR.to ?_ (lv_entry _ hl2) ?_⟩
  · show (am_fl as ++ List.replicate ((am_m k).2.2.1 - (am_fl as).length) (9, 0)).length = _
    rw [List.length_append, List.length_replicate]
    omega
  · intro q hq
    obtain ⟨v, hv, ht, hq2⟩ := am_asc_mem.mp hq
    have hv : (am_fl as ++ List.replicate ((am_m k).2.2.1 - (am_fl as).length) (9, 0))[q.1]? = some v := hv
    by_cases hlt : q.1 < (am_fl as).length
    · rw [List.getElem?_append_left hlt] at hv
      have := am_fl_args (b := b) (sz := sz) as 0 q.1 v hv ht
      rw [Nat.zero_add, ← hq2] at this
      exact this
    · rw [List.getElem?_append_right (by omega), List.getElem?_replicate] at hv
      split at hv
      · cases hv; exact absurd ht (by decide)
      · cases hv
def am_sz (ts : List Nat) : Nat := (ts.map fun t => if t = 1 then 2 else 1).sum
theorem am_szs : (List.range 273).all (fun k => decide (am_sz (am_m k).2.2.2.2.2 ≤ (am_m k).2.2.1)) = true := by decide +kernel
theorem am_fl_sz (as : List aV) : (am_fl as).length = am_sz (as.map fun v => v.1) := by
  induction as with
  | nil => rfl
  | cons w as ih =>
    have hf : am_fl (w :: as) = (if w.1 = 1 then [w, (9, 0)] else [w]) ++ am_fl as := by simp [am_fl]
    rw [hf, List.length_append, ih]
    unfold am_sz
    rw [List.map_cons, List.map_cons, List.sum_cons]
    by_cases hw : w.1 = 1
    · rw [if_pos hw, if_pos hw]; rfl
    · rw [if_neg hw, if_neg hw]; rfl
