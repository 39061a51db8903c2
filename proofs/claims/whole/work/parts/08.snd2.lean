/-! Constants, loads, stores, branches. -/
section AMS
variable {p : Program} {l : Launch} {e : Env} {R : Room} {s : State} {m : MethodId} {args : Array Value} {below : List Frame} {meth : Method} {c : Code} {H : Heap} {locs : List Loc} {cells slots : Nat} {Q : State → Prop}
variable {b sz L : Nat} {xs : Nat → Int32} {D : va_G} {cI cJ cB : ClassId} {M pc : Nat} {la st : List aV} {lr : Array Slot} {S : aS} {c2 : aC}

theorem am_i_iconst {n : Int} (G : am_G b sz L xs D cI cJ cB p s m args meth c M) (hd : decode (am_m M).2.1 pc = .ok (.iconst n, 1)) (h : am_s1 (0, pc + 1, 0, n, []) la st S = some c2) (hL : am_LR b sz lr (am_m M).2.2.1 la) (hR : am_Rel b sz L xs D cI cJ cB S H) (hS : va_S (fun q => sz ≤ q) s.heap H locs) (k : am_K p l e R s m args below meth c cells slots Q b sz L xs D cI cJ cB (am_m M).2.2.1 S c2) : W p l e R s m args below meth c H locs cells slots Q (F0 m pc lr (st.map (am_cv b sz))) := by
  simp only [am_s1] at h
  cases h
  exact lv_iconst (n := n) (v := Int32.ofInt n) G.1 G.2.1 hd rfl (am_same k hL hR hS)

theorem am_i_bipush {n : Int} (G : am_G b sz L xs D cI cJ cB p s m args meth c M) (hn : -128 ≤ n ∧ n ≤ 127) (hd : decode (am_m M).2.1 pc = .ok (.bipush n, 2)) (h : am_s1 (0, pc + 2, 1, n, []) la st S = some c2) (hL : am_LR b sz lr (am_m M).2.2.1 la) (hR : am_Rel b sz L xs D cI cJ cB S H) (hS : va_S (fun q => sz ≤ q) s.heap H locs) (k : am_K p l e R s m args below meth c cells slots Q b sz L xs D cI cJ cB (am_m M).2.2.1 S c2) : W p l e R s m args below meth c H locs cells slots Q (F0 m pc lr (st.map (am_cv b sz))) := by
  simp only [am_s1] at h
  cases h
  exact lv_bipush (n := n) (v := Int32.ofInt n) G.1 G.2.1 hd (am_byte hn) (am_same k hL hR hS)

theorem am_i_sipush {n : Int} (G : am_G b sz L xs D cI cJ cB p s m args meth c M) (hn : -32768 ≤ n ∧ n ≤ 32767) (hd : decode (am_m M).2.1 pc = .ok (.sipush n, 3)) (h : am_s1 (0, pc + 3, 2, n, []) la st S = some c2) (hL : am_LR b sz lr (am_m M).2.2.1 la) (hR : am_Rel b sz L xs D cI cJ cB S H) (hS : va_S (fun q => sz ≤ q) s.heap H locs) (k : am_K p l e R s m args below meth c cells slots Q b sz L xs D cI cJ cB (am_m M).2.2.1 S c2) : W p l e R s m args below meth c H locs cells slots Q (F0 m pc lr (st.map (am_cv b sz))) := by
  simp only [am_s1] at h
  cases h
  exact lv_sipush (n := n) (v := Int32.ofInt n) G.1 G.2.1 hd (am_short hn) (am_same k hL hR hS)

theorem am_i_lconst {n : Fin 2} (G : am_G b sz L xs D cI cJ cB p s m args meth c M) (hd : decode (am_m M).2.1 pc = .ok (.lconst n, 1)) (h : am_s1 (1, pc + 1, 0, (n.val : Int), []) la st S = some c2) (hL : am_LR b sz lr (am_m M).2.2.1 la) (hR : am_Rel b sz L xs D cI cJ cB S H) (hS : va_S (fun q => sz ≤ q) s.heap H locs) (k : am_K p l e R s m args below meth c cells slots Q b sz L xs D cI cJ cB (am_m M).2.2.1 S c2) : W p l e R s m args below meth c H locs cells slots Q (F0 m pc lr (st.map (am_cv b sz))) := by
  simp only [am_s1] at h
  cases h
  exact lv_lconst (n := n) (v := Int64.ofInt (n.val : Int)) G.1 G.2.1 hd (by obtain ⟨n, hn⟩ := n; rcases (show n = 0 ∨ n = 1 by omega) with rfl | rfl <;> rfl) (am_same k hL hR hS)

theorem am_key {o k : Nat} (hk : k < 1000) : (o * 1000 + k) / 1000 = o ∧ (o * 1000 + k) % 1000 = k := by omega

theorem am_ldw {o k : Nat} {v : Int} (h : am_lk (o * 1000 + k) am_ld = some v) (hk : k < 1000) : Cond.constant (am_own o) k (Int32.ofInt v) ∈ am_tb := by
  obtain ⟨q, hq⟩ := am_zip am_ld0 (by decide) _ (am_lk_mem h)
  have := am_wAt_mem hq
  rw [(am_key hk).1, (am_key hk).2] at this
  exact this
theorem am_llw {o k : Nat} {v : Int} (h : am_lk (o * 1000 + k) am_ll = some v) (hk : k < 1000) : Cond.constantLong (am_own o) k (Int64.ofInt v) ∈ am_tb := by
  obtain ⟨q, hq⟩ := am_zip am_ll0 (by decide) _ (am_lk_mem h)
  have := am_wAt_mem hq
  rw [(am_key hk).1, (am_key hk).2] at this
  exact this

theorem am_i_ldc {n : Nat} {v : Int} (G : am_G b sz L xs D cI cJ cB p s m args meth c M) (hk : am_lk ((am_m M).2.2.2.2.1 * 1000 + n) am_ld = some v) (hn : n < 1000) (hd : decode (am_m M).2.1 pc = .ok (.ldc n, 2)) (h : am_s1 (0, pc + 2, 3, v, [n]) la st S = some c2) (hL : am_LR b sz lr (am_m M).2.2.1 la) (hR : am_Rel b sz L xs D cI cJ cB S H) (hS : va_S (fun q => sz ≤ q) s.heap H locs) (k : am_K p l e R s m args below meth c cells slots Q b sz L xs D cI cJ cB (am_m M).2.2.1 S c2) : W p l e R s m args below meth c H locs cells slots Q (F0 m pc lr (st.map (am_cv b sz))) := by
  simp only [am_s1] at h
  cases h
  exact lv_ldc G.1 G.2.1 G.2.2.2.1 (G.2.2.2.2.1 _ (am_ldw hk hn)) hd (am_same k hL hR hS)

theorem am_i_ldc_w {n : Nat} {v : Int} (G : am_G b sz L xs D cI cJ cB p s m args meth c M) (hk : am_lk ((am_m M).2.2.2.2.1 * 1000 + n) am_ld = some v) (hn : n < 1000) (hd : decode (am_m M).2.1 pc = .ok (.ldc_w n, 3)) (h : am_s1 (0, pc + 3, 4, v, [n]) la st S = some c2) (hL : am_LR b sz lr (am_m M).2.2.1 la) (hR : am_Rel b sz L xs D cI cJ cB S H) (hS : va_S (fun q => sz ≤ q) s.heap H locs) (k : am_K p l e R s m args below meth c cells slots Q b sz L xs D cI cJ cB (am_m M).2.2.1 S c2) : W p l e R s m args below meth c H locs cells slots Q (F0 m pc lr (st.map (am_cv b sz))) := by
  simp only [am_s1] at h
  cases h
  exact lv_ldcw G.1 G.2.1 G.2.2.2.1 (G.2.2.2.2.1 _ (am_ldw hk hn)) hd (am_same k hL hR hS)

theorem am_i_ldc2_w {n : Nat} {v : Int} (G : am_G b sz L xs D cI cJ cB p s m args meth c M) (hk : am_lk ((am_m M).2.2.2.2.1 * 1000 + n) am_ll = some v) (hn : n < 1000) (hd : decode (am_m M).2.1 pc = .ok (.ldc2_w n, 3)) (h : am_s1 (1, pc + 3, 1, v, [n]) la st S = some c2) (hL : am_LR b sz lr (am_m M).2.2.1 la) (hR : am_Rel b sz L xs D cI cJ cB S H) (hS : va_S (fun q => sz ≤ q) s.heap H locs) (k : am_K p l e R s m args below meth c cells slots Q b sz L xs D cI cJ cB (am_m M).2.2.1 S c2) : W p l e R s m args below meth c H locs cells slots Q (F0 m pc lr (st.map (am_cv b sz))) := by
  simp only [am_s1] at h
  cases h
  exact lv_ldc2 G.1 G.2.1 G.2.2.2.1 (G.2.2.2.2.1 _ (am_llw hk hn)) hd (am_same k hL hR hS)

theorem am_cv2 {x : Int} (h : 0 ≤ x) : am_cv b sz (2, x) = .ref (am_ph b sz x.toNat) := if_neg (by omega)

theorem am_i_iload {i : Nat} (G : am_G b sz L xs D cI cJ cB p s m args meth c M) (hd : decode (am_m M).2.1 pc = .ok (.iload i, 2)) (h : am_s1 (2, pc + 2, i, 0, []) la st S = some c2) (hL : am_LR b sz lr (am_m M).2.2.1 la) (hR : am_Rel b sz L xs D cI cJ cB S H) (hS : va_S (fun q => sz ≤ q) s.heap H locs) (k : am_K p l e R s m args below meth c cells slots Q b sz L xs D cI cJ cB (am_m M).2.2.1 S c2) : W p l e R s m args below meth c H locs cells slots Q (F0 m pc lr (st.map (am_cv b sz))) := by
  simp only [am_s1] at h
  split at h
  · next t v hv =>
    split at h
    · next ht =>
      cases h
      obtain rfl : t = 0 := ht.1
      exact lv_iload G.1 G.2.1 hd (hL.at hv (Nat.le_of_ble_eq_true rfl)) (am_same k hL hR hS)
    · cases h
  · cases h

theorem am_i_iload_n {i : Fin 4} (G : am_G b sz L xs D cI cJ cB p s m args meth c M) (hd : decode (am_m M).2.1 pc = .ok (.iload_n i, 1)) (h : am_s1 (2, pc + 1, i.val, 0, []) la st S = some c2) (hL : am_LR b sz lr (am_m M).2.2.1 la) (hR : am_Rel b sz L xs D cI cJ cB S H) (hS : va_S (fun q => sz ≤ q) s.heap H locs) (k : am_K p l e R s m args below meth c cells slots Q b sz L xs D cI cJ cB (am_m M).2.2.1 S c2) : W p l e R s m args below meth c H locs cells slots Q (F0 m pc lr (st.map (am_cv b sz))) := by
  simp only [am_s1] at h
  split at h
  · next t v hv =>
    split at h
    · next ht =>
      cases h
      obtain rfl : t = 0 := ht.1
      exact lv_iload_n G.1 G.2.1 hd rfl (hL.at hv (Nat.le_of_ble_eq_true rfl)) (am_same k hL hR hS)
    · cases h
  · cases h

theorem am_i_lload {i : Nat} (G : am_G b sz L xs D cI cJ cB p s m args meth c M) (hd : decode (am_m M).2.1 pc = .ok (.lload i, 2)) (h : am_s1 (2, pc + 2, i, 1, []) la st S = some c2) (hL : am_LR b sz lr (am_m M).2.2.1 la) (hR : am_Rel b sz L xs D cI cJ cB S H) (hS : va_S (fun q => sz ≤ q) s.heap H locs) (k : am_K p l e R s m args below meth c cells slots Q b sz L xs D cI cJ cB (am_m M).2.2.1 S c2) : W p l e R s m args below meth c H locs cells slots Q (F0 m pc lr (st.map (am_cv b sz))) := by
  simp only [am_s1] at h
  split at h
  · next t v hv =>
    split at h
    · next ht =>
      cases h
      obtain rfl : t = 1 := ht.1
      exact lv_lload G.1 G.2.1 hd (hL.at hv (Nat.le_of_ble_eq_true rfl)) (am_same k hL hR hS)
    · cases h
  · cases h

theorem am_i_lload_n {i : Fin 4} (G : am_G b sz L xs D cI cJ cB p s m args meth c M) (hd : decode (am_m M).2.1 pc = .ok (.lload_n i, 1)) (h : am_s1 (2, pc + 1, i.val, 1, []) la st S = some c2) (hL : am_LR b sz lr (am_m M).2.2.1 la) (hR : am_Rel b sz L xs D cI cJ cB S H) (hS : va_S (fun q => sz ≤ q) s.heap H locs) (k : am_K p l e R s m args below meth c cells slots Q b sz L xs D cI cJ cB (am_m M).2.2.1 S c2) : W p l e R s m args below meth c H locs cells slots Q (F0 m pc lr (st.map (am_cv b sz))) := by
  simp only [am_s1] at h
  split at h
  · next t v hv =>
    split at h
    · next ht =>
      cases h
      obtain rfl : t = 1 := ht.1
      exact lv_lload_n G.1 G.2.1 hd rfl (hL.at hv (Nat.le_of_ble_eq_true rfl)) (am_same k hL hR hS)
    · cases h
  · cases h

theorem am_i_aload {i : Nat} (G : am_G b sz L xs D cI cJ cB p s m args meth c M) (hd : decode (am_m M).2.1 pc = .ok (.aload i, 2)) (h : am_s1 (2, pc + 2, i, 2, []) la st S = some c2) (hL : am_LR b sz lr (am_m M).2.2.1 la) (hR : am_Rel b sz L xs D cI cJ cB S H) (hS : va_S (fun q => sz ≤ q) s.heap H locs) (k : am_K p l e R s m args below meth c cells slots Q b sz L xs D cI cJ cB (am_m M).2.2.1 S c2) : W p l e R s m args below meth c H locs cells slots Q (F0 m pc lr (st.map (am_cv b sz))) := by
  simp only [am_s1] at h
  split at h
  · next t v hv =>
    split at h
    · next ht =>
      cases h
      obtain rfl : t = 2 := ht.1
      have h0 : 0 ≤ v := ht.2 rfl
      refine lv_aload (x := am_ph b sz v.toNat) G.1 G.2.1 hd (by rw [← am_cv2 h0]; exact hL.at hv (Nat.le_of_ble_eq_true rfl)) ?_
      rw [← am_cv2 h0]
      exact am_same k hL hR hS
    · cases h
  · cases h

theorem am_i_aload_n {i : Fin 4} (G : am_G b sz L xs D cI cJ cB p s m args meth c M) (hd : decode (am_m M).2.1 pc = .ok (.aload_n i, 1)) (h : am_s1 (2, pc + 1, i.val, 2, []) la st S = some c2) (hL : am_LR b sz lr (am_m M).2.2.1 la) (hR : am_Rel b sz L xs D cI cJ cB S H) (hS : va_S (fun q => sz ≤ q) s.heap H locs) (k : am_K p l e R s m args below meth c cells slots Q b sz L xs D cI cJ cB (am_m M).2.2.1 S c2) : W p l e R s m args below meth c H locs cells slots Q (F0 m pc lr (st.map (am_cv b sz))) := by
  simp only [am_s1] at h
  split at h
  · next t v hv =>
    split at h
    · next ht =>
      cases h
      obtain rfl : t = 2 := ht.1
      have h0 : 0 ≤ v := ht.2 rfl
      refine lv_aload_n (x := am_ph b sz v.toNat) G.1 G.2.1 hd rfl (by rw [← am_cv2 h0]; exact hL.at hv (Nat.le_of_ble_eq_true rfl)) ?_
      rw [← am_cv2 h0]
      exact am_same k hL hR hS
    · cases h
  · cases h

theorem am_set1_LR {nL i : Nat} {v : aV} {la2 : List aV} {lr2 : Array Slot} (hL : am_LR b sz lr nL la) (h : am_set1 la i v = some la2) (hv : v.1 ≤ 2) (hn : lv_has lr2 nL ((i, am_cv b sz v) :: (am_asc b sz la).filter (fun q => !(q.1 == i) && !(q.1 + 1 == i && q.2.category == 2)))) : am_LR b sz lr2 nL la2 := by
  unfold am_set1 at h
  split at h
  · next hc =>
    cases h
    refine am_LR.to (by rw [List.length_set]; exact hL.1) hn (fun q hq => ?_)
    obtain ⟨w, hw, ht, hq2⟩ := am_asc_mem.mp hq
    rw [List.getElem?_set] at hw
    split at hw
    · next e =>
      subst e
      rw [if_pos hc.1] at hw
      cases hw
      rw [List.mem_cons]
      left
      rw [← hq2]
    · next e =>
      rw [List.mem_cons]
      right
      refine List.mem_filter.mpr ⟨am_asc_mem.mpr ⟨w, hw, ht, hq2⟩, ?_⟩
      simp only [Bool.and_eq_true, Bool.not_eq_true', beq_eq_false_iff_ne, ne_eq, Bool.and_eq_false_imp, beq_iff_eq]
      refine ⟨fun h1 => e h1.symm, fun h1 => ?_⟩
      rcases hc.2 with h0 | h0
      · omega
      · have e2 : la.getD (i - 1) (9, 0) = w := by
          rw [show i - 1 = q.1 by omega, List.getD_eq_getElem?_getD, hw]
          rfl
        rw [e2] at h0
        rw [hq2, am_cv_cat, if_neg h0]
        decide
  · cases h
theorem am_set2_LR {nL i : Nat} {v : aV} {la2 : List aV} {lr2 : Array Slot} (hL : am_LR b sz lr nL la) (h : am_set2 la i v = some la2) (hv : v.1 ≤ 2) (hn : lv_has lr2 nL ((i, am_cv b sz v) :: (am_asc b sz la).filter (fun q => !(q.1 == i) && (!(q.1 == i + 1) && !(q.1 + 1 == i && q.2.category == 2))))) : am_LR b sz lr2 nL la2 := by
  unfold am_set2 at h
  split at h
  · next hc =>
    cases h
    refine am_LR.to (by rw [List.length_set, List.length_set]; exact hL.1) hn (fun q hq => ?_)
    obtain ⟨w, hw, ht, hq2⟩ := am_asc_mem.mp hq
    rw [List.getElem?_set, List.length_set] at hw
    split at hw
    · next e =>
      rw [if_pos hc.1] at hw
      cases hw
      exact absurd ht (by decide)
    · next e1 =>
      rw [List.getElem?_set] at hw
      split at hw
      · next e =>
        subst e
        rw [if_pos (by omega)] at hw
        cases hw
        rw [List.mem_cons]
        left
        rw [← hq2]
      · next e =>
        rw [List.mem_cons]
        right
        refine List.mem_filter.mpr ⟨am_asc_mem.mpr ⟨w, hw, ht, hq2⟩, ?_⟩
        simp only [Bool.and_eq_true, Bool.not_eq_true', beq_eq_false_iff_ne, ne_eq, Bool.and_eq_false_imp, beq_iff_eq]
        refine ⟨fun h1 => e h1.symm, fun h1 => e1 h1.symm, fun h1 => ?_⟩
        rcases hc.2 with h0 | h0
        · omega
        · have e2 : la.getD (i - 1) (9, 0) = w := by
            rw [show i - 1 = q.1 by omega, List.getD_eq_getElem?_getD, hw]
            rfl
          rw [e2] at h0
          rw [hq2, am_cv_cat, if_neg h0]
          decide
  · cases h
theorem am_set1_lt {i : Nat} {v : aV} {la2 : List aV} (h : am_set1 la i v = some la2) : i < la.length := by
  unfold am_set1 at h
  split at h
  · next hc => exact hc.1
  · cases h
theorem am_set2_lt {i : Nat} {v : aV} {la2 : List aV} (h : am_set2 la i v = some la2) : i + 1 < la.length := by
  unfold am_set2 at h
  split at h
  · next hc => exact hc.1
  · cases h

theorem am_i_istore {i : Nat} (G : am_G b sz L xs D cI cJ cB p s m args meth c M) (hd : decode (am_m M).2.1 pc = .ok (.istore i, 2)) (h : am_s1 (3, pc + 2, i, 0, []) la st S = some c2) (hL : am_LR b sz lr (am_m M).2.2.1 la) (hR : am_Rel b sz L xs D cI cJ cB S H) (hS : va_S (fun q => sz ≤ q) s.heap H locs) (k : am_K p l e R s m args below meth c cells slots Q b sz L xs D cI cJ cB (am_m M).2.2.1 S c2) : W p l e R s m args below meth c H locs cells slots Q (F0 m pc lr (st.map (am_cv b sz))) := by
  simp only [am_s1] at h
  split at h
  · next t v r =>
    split at h
    · next ht =>
      obtain rfl : t = 0 := ht.1
      rw [if_neg (by decide)] at h
      obtain ⟨l2, hl2, rfl⟩ := Option.map_eq_some_iff.mp h
      exact lv_istore (x := Int32.ofInt v) G.1 G.2.1 hd hL.2 (by rw [← hL.1]; exact am_set1_lt hl2) rfl (fun lr2 hn => am_same k (am_set1_LR hL hl2 (Nat.le_of_ble_eq_true rfl) hn) hR hS)
    · cases h
  · cases h

theorem am_i_istore_n {i : Fin 4} (G : am_G b sz L xs D cI cJ cB p s m args meth c M) (hd : decode (am_m M).2.1 pc = .ok (.istore_n i, 1)) (h : am_s1 (3, pc + 1, i.val, 0, []) la st S = some c2) (hL : am_LR b sz lr (am_m M).2.2.1 la) (hR : am_Rel b sz L xs D cI cJ cB S H) (hS : va_S (fun q => sz ≤ q) s.heap H locs) (k : am_K p l e R s m args below meth c cells slots Q b sz L xs D cI cJ cB (am_m M).2.2.1 S c2) : W p l e R s m args below meth c H locs cells slots Q (F0 m pc lr (st.map (am_cv b sz))) := by
  simp only [am_s1] at h
  split at h
  · next t v r =>
    split at h
    · next ht =>
      obtain rfl : t = 0 := ht.1
      rw [if_neg (by decide)] at h
      obtain ⟨l2, hl2, rfl⟩ := Option.map_eq_some_iff.mp h
      exact lv_istore_n (x := Int32.ofInt v) G.1 G.2.1 hd rfl hL.2 (by rw [← hL.1]; exact am_set1_lt hl2) rfl (fun lr2 hn => am_same k (am_set1_LR hL hl2 (Nat.le_of_ble_eq_true rfl) hn) hR hS)
    · cases h
  · cases h

theorem am_i_lstore {i : Nat} (G : am_G b sz L xs D cI cJ cB p s m args meth c M) (hd : decode (am_m M).2.1 pc = .ok (.lstore i, 2)) (h : am_s1 (3, pc + 2, i, 1, []) la st S = some c2) (hL : am_LR b sz lr (am_m M).2.2.1 la) (hR : am_Rel b sz L xs D cI cJ cB S H) (hS : va_S (fun q => sz ≤ q) s.heap H locs) (k : am_K p l e R s m args below meth c cells slots Q b sz L xs D cI cJ cB (am_m M).2.2.1 S c2) : W p l e R s m args below meth c H locs cells slots Q (F0 m pc lr (st.map (am_cv b sz))) := by
  simp only [am_s1] at h
  split at h
  · next t v r =>
    split at h
    · next ht =>
      obtain rfl : t = 1 := ht.1
      rw [if_pos rfl] at h
      obtain ⟨l2, hl2, rfl⟩ := Option.map_eq_some_iff.mp h
      exact lv_lstore (x := Int64.ofInt v) G.1 G.2.1 hd hL.2 (by rw [← hL.1]; exact am_set2_lt hl2) rfl (fun lr2 hn => am_same k (am_set2_LR hL hl2 (Nat.le_of_ble_eq_true rfl) hn) hR hS)
    · cases h
  · cases h

theorem am_i_lstore_n {i : Fin 4} (G : am_G b sz L xs D cI cJ cB p s m args meth c M) (hd : decode (am_m M).2.1 pc = .ok (.lstore_n i, 1)) (h : am_s1 (3, pc + 1, i.val, 1, []) la st S = some c2) (hL : am_LR b sz lr (am_m M).2.2.1 la) (hR : am_Rel b sz L xs D cI cJ cB S H) (hS : va_S (fun q => sz ≤ q) s.heap H locs) (k : am_K p l e R s m args below meth c cells slots Q b sz L xs D cI cJ cB (am_m M).2.2.1 S c2) : W p l e R s m args below meth c H locs cells slots Q (F0 m pc lr (st.map (am_cv b sz))) := by
  simp only [am_s1] at h
  split at h
  · next t v r =>
    split at h
    · next ht =>
      obtain rfl : t = 1 := ht.1
      rw [if_pos rfl] at h
      obtain ⟨l2, hl2, rfl⟩ := Option.map_eq_some_iff.mp h
      exact lv_lstore_n (x := Int64.ofInt v) G.1 G.2.1 hd rfl hL.2 (by rw [← hL.1]; exact am_set2_lt hl2) rfl (fun lr2 hn => am_same k (am_set2_LR hL hl2 (Nat.le_of_ble_eq_true rfl) hn) hR hS)
    · cases h
  · cases h

theorem am_i_astore {i : Nat} (G : am_G b sz L xs D cI cJ cB p s m args meth c M) (hd : decode (am_m M).2.1 pc = .ok (.astore i, 2)) (h : am_s1 (3, pc + 2, i, 2, []) la st S = some c2) (hL : am_LR b sz lr (am_m M).2.2.1 la) (hR : am_Rel b sz L xs D cI cJ cB S H) (hS : va_S (fun q => sz ≤ q) s.heap H locs) (k : am_K p l e R s m args below meth c cells slots Q b sz L xs D cI cJ cB (am_m M).2.2.1 S c2) : W p l e R s m args below meth c H locs cells slots Q (F0 m pc lr (st.map (am_cv b sz))) := by
  simp only [am_s1] at h
  split at h
  · next t v r =>
    split at h
    · next ht =>
      obtain rfl : t = 2 := ht.1
      rw [if_neg (by decide)] at h
      obtain ⟨l2, hl2, rfl⟩ := Option.map_eq_some_iff.mp h
      have h0 : 0 ≤ v := ht.2 rfl
      show W p l e R s m args below meth c H locs cells slots Q (F0 m pc lr (am_cv b sz (2, v) :: r.map (am_cv b sz)))
      rw [am_cv2 h0]
      exact lv_astore (x := am_ph b sz v.toNat) G.1 G.2.1 hd hL.2 (by rw [← hL.1]; exact am_set1_lt hl2) rfl (fun lr2 hn => am_same k (am_set1_LR hL hl2 (Nat.le_of_ble_eq_true rfl) (by rw [am_cv2 h0]; exact hn)) hR hS)
    · cases h
  · cases h

theorem am_i_astore_n {i : Fin 4} (G : am_G b sz L xs D cI cJ cB p s m args meth c M) (hd : decode (am_m M).2.1 pc = .ok (.astore_n i, 1)) (h : am_s1 (3, pc + 1, i.val, 2, []) la st S = some c2) (hL : am_LR b sz lr (am_m M).2.2.1 la) (hR : am_Rel b sz L xs D cI cJ cB S H) (hS : va_S (fun q => sz ≤ q) s.heap H locs) (k : am_K p l e R s m args below meth c cells slots Q b sz L xs D cI cJ cB (am_m M).2.2.1 S c2) : W p l e R s m args below meth c H locs cells slots Q (F0 m pc lr (st.map (am_cv b sz))) := by
  simp only [am_s1] at h
  split at h
  · next t v r =>
    split at h
    · next ht =>
      obtain rfl : t = 2 := ht.1
      rw [if_neg (by decide)] at h
      obtain ⟨l2, hl2, rfl⟩ := Option.map_eq_some_iff.mp h
      have h0 : 0 ≤ v := ht.2 rfl
      show W p l e R s m args below meth c H locs cells slots Q (F0 m pc lr (am_cv b sz (2, v) :: r.map (am_cv b sz)))
      rw [am_cv2 h0]
      exact lv_astore_n (x := am_ph b sz v.toNat) G.1 G.2.1 hd rfl hL.2 (by rw [← hL.1]; exact am_set1_lt hl2) rfl (fun lr2 hn => am_same k (am_set1_LR hL hl2 (Nat.le_of_ble_eq_true rfl) (by rw [am_cv2 h0]; exact hn)) hR hS)
    · cases h
  · cases h

theorem am_i_iinc {i : Nat} {n : Int} (G : am_G b sz L xs D cI cJ cB p s m args meth c M) (hd : decode (am_m M).2.1 pc = .ok (.iinc i n, 3)) (h : am_s1 (4, pc + 3, i, n, []) la st S = some c2) (hL : am_LR b sz lr (am_m M).2.2.1 la) (hR : am_Rel b sz L xs D cI cJ cB S H) (hS : va_S (fun q => sz ≤ q) s.heap H locs) (k : am_K p l e R s m args below meth c cells slots Q b sz L xs D cI cJ cB (am_m M).2.2.1 S c2) : W p l e R s m args below meth c H locs cells slots Q (F0 m pc lr (st.map (am_cv b sz))) := by
  simp only [am_s1] at h
  split at h
  · next v hv =>
    obtain ⟨l2, hl2, rfl⟩ := Option.map_eq_some_iff.mp h
    have hmem : (i, Value.int (Int32.ofInt v)) ∈ am_asc b sz la := am_asc_mem.mpr ⟨(0, v), hv, Nat.le_of_ble_eq_true rfl, rfl⟩
    obtain ⟨j, hj⟩ := List.getElem?_of_mem hmem
    exact lv_iinc (v := Int32.ofInt (v + n)) G.1 G.2.1 hd hL.2 hj (Int32.ofInt_add v n).symm (by rw [← hL.1]; exact am_set1_lt hl2) rfl (fun lr2 hn => am_same k (am_set1_LR hL hl2 (Nat.le_of_ble_eq_true rfl) hn) hR hS)
  · cases h

theorem am_i_i2l  (G : am_G b sz L xs D cI cJ cB p s m args meth c M) (hd : decode (am_m M).2.1 pc = .ok (.i2l, 1)) (h : am_s1 (8, pc + 1, 0, 0, []) la st S = some c2) (hL : am_LR b sz lr (am_m M).2.2.1 la) (hR : am_Rel b sz L xs D cI cJ cB S H) (hS : va_S (fun q => sz ≤ q) s.heap H locs) (k : am_K p l e R s m args below meth c cells slots Q b sz L xs D cI cJ cB (am_m M).2.2.1 S c2) : W p l e R s m args below meth c H locs cells slots Q (F0 m pc lr (st.map (am_cv b sz))) := by
  simp only [am_s1] at h
  split at h
  · next x r e0 =>
    cases h
    refine lv_i2l (x := Int32.ofInt x) (v := Int64.ofInt (w32 x)) G.1 G.2.1 hd ?_ (am_same k hL hR hS)
    rw [← Int64.toInt_inj, Int32.toInt_toInt64, w32, Int64.toInt_ofInt]
    rw [Int.bmod_eq_of_le]
    · have := Int32.le_toInt (Int32.ofInt x); have e1 : (Int64.size : Int) = 18446744073709551616 := rfl; omega
    · have := Int32.toInt_lt (Int32.ofInt x); have e1 : (Int64.size : Int) = 18446744073709551616 := rfl; omega
  · next e1 => cases e1
  · next e1 => cases e1
  · cases h

theorem am_i_l2i  (G : am_G b sz L xs D cI cJ cB p s m args meth c M) (hd : decode (am_m M).2.1 pc = .ok (.l2i, 1)) (h : am_s1 (8, pc + 1, 1, 0, []) la st S = some c2) (hL : am_LR b sz lr (am_m M).2.2.1 la) (hR : am_Rel b sz L xs D cI cJ cB S H) (hS : va_S (fun q => sz ≤ q) s.heap H locs) (k : am_K p l e R s m args below meth c cells slots Q b sz L xs D cI cJ cB (am_m M).2.2.1 S c2) : W p l e R s m args below meth c H locs cells slots Q (F0 m pc lr (st.map (am_cv b sz))) := by
  simp only [am_s1] at h
  split at h
  · next e1 => cases e1
  · next x r e0 =>
    cases h
    refine lv_l2i (x := Int64.ofInt x) (v := Int32.ofInt x) G.1 G.2.1 hd Int64.toInt32_ofInt (am_same k hL hR hS)
  · next e1 => cases e1
  · cases h

theorem am_i_i2b  (G : am_G b sz L xs D cI cJ cB p s m args meth c M) (hd : decode (am_m M).2.1 pc = .ok (.i2b, 1)) (h : am_s1 (8, pc + 1, 2, 0, []) la st S = some c2) (hL : am_LR b sz lr (am_m M).2.2.1 la) (hR : am_Rel b sz L xs D cI cJ cB S H) (hS : va_S (fun q => sz ≤ q) s.heap H locs) (k : am_K p l e R s m args below meth c cells slots Q b sz L xs D cI cJ cB (am_m M).2.2.1 S c2) : W p l e R s m args below meth c H locs cells slots Q (F0 m pc lr (st.map (am_cv b sz))) := by
  simp only [am_s1] at h
  split at h
  · next e1 => cases e1
  · next e1 => cases e1
  · next x r e0 =>
    cases h
    refine lv_i2b (x := Int32.ofInt x) (v := Int32.ofInt (Int32.ofInt x).toInt8.toInt) G.1 G.2.1 hd ?_ (am_same k hL hR hS)
    rw [← Int32.toInt_inj, Int8.toInt_toInt32, Int32.toInt_ofInt, am_b32]
    have h1 := Int8.le_toInt (Int32.ofInt x).toInt8
    have h2 := Int8.toInt_lt (Int32.ofInt x).toInt8
    omega
  · cases h

theorem am_i_lcmp  (G : am_G b sz L xs D cI cJ cB p s m args meth c M) (hd : decode (am_m M).2.1 pc = .ok (.lcmp, 1)) (h : am_s1 (9, pc + 1, 0, 0, []) la st S = some c2) (hL : am_LR b sz lr (am_m M).2.2.1 la) (hR : am_Rel b sz L xs D cI cJ cB S H) (hS : va_S (fun q => sz ≤ q) s.heap H locs) (k : am_K p l e R s m args below meth c cells slots Q b sz L xs D cI cJ cB (am_m M).2.2.1 S c2) : W p l e R s m args below meth c H locs cells slots Q (F0 m pc lr (st.map (am_cv b sz))) := by
  simp only [am_s1] at h
  split at h
  · next y x r =>
    cases h
    refine W.lcmp (x := Int64.ofInt x) (y := Int64.ofInt y) G.1 G.2.1 hd ?_
    have k1 := am_same k hL hR hS
    have e1 : Int32.ofInt (if w64 y < w64 x then 1 else if w64 x = w64 y then 0 else -1) = lg_cmp (Int64.ofInt x) (Int64.ofInt y) := by
      unfold lg_cmp
      simp only [gt_iff_lt, Int64.lt_iff_toInt_lt, ← Int64.toInt_inj]
      by_cases h1 : w64 y < w64 x
      · rw [if_pos h1, if_pos (show (Int64.ofInt y).toInt < (Int64.ofInt x).toInt from h1)]; rfl
      · rw [if_neg h1, if_neg (show ¬ (Int64.ofInt y).toInt < (Int64.ofInt x).toInt from h1)]
        by_cases h2 : w64 x = w64 y
        · rw [if_pos h2, if_pos (show (Int64.ofInt x).toInt = (Int64.ofInt y).toInt from h2)]; rfl
        · rw [if_neg h2, if_neg (show ¬ (Int64.ofInt x).toInt = (Int64.ofInt y).toInt from h2)]; rfl
    rw [← e1]
    exact k1
  · cases h

end AMS
