/-! The contract of a method out of its run; the walk by induction. -/
theorem am_s1_mono {i : aI} {la st : List aV} {S : aS} {c2 : aC} (h : am_s1 i la st S = some c2) : S.2.2.1 ≤ c2.2.2.2.2.2.1 ∧ S.2.2.2 ≤ c2.2.2.2.2.2.2 := by
  unfold am_s1 at h
  split at h <;> (repeat' split at h) <;> first
    | (cases h; done)
    | (cases h; exact ⟨Nat.le_refl _, Nat.le_refl _⟩)
    | (cases h; exact ⟨Nat.le_succ _, Nat.le_add_right _ _⟩)
    | (obtain ⟨l2, -, rfl⟩ := Option.map_eq_some_iff.mp h; exact ⟨Nat.le_refl _, Nat.le_refl _⟩)
theorem am_fi_mono {M : Nat} {i : aI} {st : List aV} {S S2 : aS} {v : Option aV} (h : am_fi M i st S = some (v, S2)) : S.2.2.1 ≤ S2.2.2.1 ∧ S.2.2.2 ≤ S2.2.2.2 := by
  unfold am_fi at h
  split at h <;> (repeat' split at h) <;> first
    | (cases h; done)
    | (cases h; exact ⟨Nat.le_refl _, Nat.le_refl _⟩)
    | (cases h; exact ⟨Nat.le_succ _, Nat.le_add_right _ _⟩)
theorem am_b4_mono {o : Int} {r : Option aV} {S S2 : aS} {v : aV} (h : am_b4 o r S = some (v, S2)) : S.2.2.1 ≤ S2.2.2.1 ∧ S.2.2.2 ≤ S2.2.2.2 := by
  unfold am_b4 at h
  split at h <;> (repeat' split at h) <;> first
    | (cases h; done)
    | (cases h; exact ⟨Nat.le_refl _, Nat.le_refl _⟩)
theorem am_run_mono : ∀ (n d M pc : Nat) (la st : List aV) (S : aS) (c2 : aC), am_run n d M pc la st S = some c2 → S.2.2.1 ≤ c2.2.2.2.2.2.1 ∧ S.2.2.2 ≤ c2.2.2.2.2.2.2 := by
  intro n
  induction n with
  | zero => intro d M pc la st S c2 h; cases h
  | succ n ih =>
    intro d M pc la st S c2 h
    unfold am_run at h
    split at h
    · split at h
      · cases h
      · split at h
        · next pc2 la2 st2 S2 h1 =>
          have a1 := am_s1_mono h1
          have a2 := ih _ _ _ _ _ _ _ h
          exact ⟨Nat.le_trans a1.1 a2.1, Nat.le_trans a1.2 a2.2⟩
        · cases h
    · split at h
      · cases h; exact ⟨Nat.le_refl _, Nat.le_refl _⟩
      · split at h
        · split at h
          · cases h
          · split at h
            · cases h
            · split at h
              · cases h
              · next p1 l1 t1 S1 h1 =>
                split at h
                · cases h
                · next v S2 hno h2 =>
                  have a1 := ih _ _ _ _ _ _ _ h1
                  have a2 := am_fi_mono h2
                  have a3 := ih _ _ _ _ _ _ _ h
                  exact ⟨Nat.le_trans a1.1 (Nat.le_trans a2.1 a3.1), Nat.le_trans a1.2 (Nat.le_trans a2.2 a3.2)⟩
                · cases h
        · split at h
          · split at h
            · cases h
            · split at h
              · cases h
              · split at h
                · cases h
                · next p1 l1 t1 S1 h1 =>
                  split at h
                  · cases h
                  · next r S2 h2 =>
                    split at h
                    · cases h
                    · next v S3 h3 =>
                      have a1 := ih _ _ _ _ _ _ _ h1
                      have a2 := am_fi_mono h2
                      have a4 := am_b4_mono h3
                      have a3 := ih _ _ _ _ _ _ _ h
                      exact ⟨Nat.le_trans a1.1 (Nat.le_trans a2.1 (Nat.le_trans a4.1 a3.1)), Nat.le_trans a1.2 (Nat.le_trans a2.2 (Nat.le_trans a4.2 a3.2))⟩
          · cases h

section AMS
variable {p : Program} {l : Launch} {e : Env} {R : Room} {s : State} {m : MethodId} {args : Array Value} {below : List Frame} {meth : Method} {c : Code} {H : Heap} {locs : List Loc} {cells slots : Nat} {Q : State → Prop}
variable {b sz L : Nat} {xs : Nat → Int32} {D : va_G} {cI cJ cB : ClassId} {M pc : Nat} {la st : List aV} {lr : Array Slot} {S : aS} {c2 : aC}

theorem am_after {rest st0 : List aV} {r : Option aV} {S2 : aS} {mc ms : Nat} {ar : Array Value} (hr : va_Run p l e R s m args below meth c H locs cells slots mc ms (F0 m pc lr (st0.map (am_cv b sz))) (rest.map (am_cv b sz)) (am_Qc b sz L xs D cI cJ cB r S2 ar) (fun q => sz ≤ q)) (hS : va_S (fun q => sz ≤ q) s.heap H locs)
    (kk : ∀ (H1 : Heap) (locs1 : List Loc), am_Rel b sz L xs D cI cJ cB S2 H1 → va_S (fun q => sz ≤ q) s.heap H1 locs1 → W p l e R s m args below meth c H1 locs1 (cells + mc) (slots + ms) Q (F0 m (pc + 3) lr ((r.toList ++ rest).map (am_cv b sz)))) : W p l e R s m args below meth c H locs cells slots Q (F0 m pc lr (st0.map (am_cv b sz))) := by
  intro T hT X
  obtain ⟨v, st₀, t, T', L1, h0, X', hL, e1, e2, ⟨hv, hrel, hz, hk⟩, st⟩ := hr T hT X
  rw [h0] at hz hk
  have hv1 : v = r.map (am_cv b sz) := by injection hv
  obtain ⟨t2, a1, b1⟩ := kk T'.heap (locs ++ L1) (by rw [e1]; exact hrel) ⟨Nat.le_trans hS.1 (by rw [e1]; exact hz), fun q h1 h2 => by rw [e1, hk q (Nat.lt_of_lt_of_le h1 hS.1) h2]; exact hS.2.1 q h1 h2, fun q hq => by
      rcases List.mem_append.mp hq with h | h
      · exact hS.2.2 q h
      · exact hL q h⟩ T' rfl X'
  refine ⟨t2, st t2 ?_, b1⟩
  have e3 : v.toList ++ rest.map (am_cv b sz) = (r.toList ++ rest).map (am_cv b sz) := by
    rw [hv1, List.map_append]
    cases r <;> rfl
  have e4 : ({ (F0 m pc lr (st0.map (am_cv b sz))) with pc := (F0 m pc lr (st0.map (am_cv b sz))).pc + 3, stack := v.toList ++ rest.map (am_cv b sz) } : JFrame) = F0 m (pc + 3) lr ((r.toList ++ rest).map (am_cv b sz)) := by rw [← e3]
  rw [e4]
  exact a1
/-- the statement of the walk at n -/
def am_Walk (n : Nat) : Prop := ∀ (p : Program) (l : Launch) (e : Env) (R : Jvm.Room) (s : State) (m : MethodId) (args : Array Value) (below : List Frame) (meth : Method) (c : Code) (H : Heap) (locs : List Loc) (cells slots : Nat) (Q : State → Prop) (b sz L : Nat) (xs : Nat → Int32) (D : va_G) (cI cJ cB : ClassId) (M pc : Nat) (la st : List aV) (lr : Array Slot) (S : aS) (c2 : aC) (d : Nat),
  am_run n d M pc la st S = some c2 → l.flags = flags0 → am_G b sz L xs D cI cJ cB p s m args meth c M → s.heap.size + cells = sz + (S.2.2.1 - 1) → (cells + (c2.2.2.2.2.2.1 - S.2.2.1) ≤ R.cells ∧ slots + (c2.2.2.2.2.2.2 - S.2.2.2) ≤ R.slots) → (d ≤ R.frames ∧ 60 * d ≤ R.locals) → am_LR b sz lr (am_m M).2.2.1 la → am_Rel b sz L xs D cI cJ cB S H → va_S (fun q => sz ≤ q) s.heap H locs → am_K p l e R s m args below meth c cells slots Q b sz L xs D cI cJ cB (am_m M).2.2.1 S c2 → W p l e R s m args below meth c H locs cells slots Q (F0 m pc lr (st.map (am_cv b sz)))
theorem am_m1E {k : Nat} (hk : k < 272) : Cond.initialized (am_m k).1.cls ∈ am_tb ∧ (am_m k).1.cls = am_own (am_m k).2.2.2.2.1 ∧ plainName (am_m k).1.cls = true ∧ (am_m k).1.cls ≠ "java/lang/invoke/MethodHandle" ∧ (am_m k).1.cls ≠ "java/lang/invoke/VarHandle" ∧ (am_m k).2.2.2.2.1 < 18 ∧ (am_m k).2.2.1 ≤ 30 := by
  have h := List.all_eq_true.mp am_m1 k (List.mem_range.mpr hk)
  simp only [Bool.and_eq_true, decide_eq_true_eq] at h
  exact ⟨am_wAt_mem h.1, h.2.1, h.2.2.1, h.2.2.2.1, h.2.2.2.2.1, h.2.2.2.2.2.1, h.2.2.2.2.2.2⟩
theorem am_cdE {M pc : Nat} {nx a : Nat} {x : Int} {w : List Nat} (h : am_cd M pc = (36, nx, a, x, w)) : (a = 0 ∧ decode (am_m M).2.1 pc = .ok (.ireturn, 1)) ∨ (a = 1 ∧ decode (am_m M).2.1 pc = .ok (.lreturn, 1)) ∨ (a = 2 ∧ decode (am_m M).2.1 pc = .ok (.areturn, 1)) ∨ (a = 3 ∧ decode (am_m M).2.1 pc = .ok (.return_, 1)) := by
  unfold am_cd at h
  split at h
  · next i len hd =>
    rw [hd]
    unfold am_tr at h
    split at h <;> first
      | (cases h; done)
      | (cases h; exact Or.inl ⟨rfl, rfl⟩)
      | (cases h; exact Or.inr (Or.inl ⟨rfl, rfl⟩))
      | (cases h; exact Or.inr (Or.inr (Or.inl ⟨rfl, rfl⟩)))
      | (cases h; exact Or.inr (Or.inr (Or.inr ⟨rfl, rfl⟩)))
      | (unfold am_jump at h; split at h <;> cases h; done)
      | ((repeat' split at h) <;> cases h; done)
      | (split at h <;> (try unfold am_jump at h) <;> (repeat' split at h) <;> cases h; done)
  · cases h

end AMS
