/-! The class: unlike spellings: put, addBehind, addSilent. -/

/-- where a row (its last pair first) leads -/
def RcR (m : eW) (l : List Int) : List Nat → Option (Nat × t3)
  | [] => some (0, (16, 16, 16))
  | p :: x => match RcR m l x with
    | none => none
    | some (i, g) => if decide (p < 16) && (spP m l i &&& mfG m g).testBit p then some (spB m i p, gN g p) else none
def SpS (w : eW) (n : Nat) (G : Nat → Prop) (L : List Nat) : Prop := (L.Nodup ∧ ∀ c ∈ L, G c) ∧ w 60 n = (L.length : Int) ∧ ∀ k, k < L.length → w 59 (200 * n + k) = ((L.getD k 0 : Nat) : Int)
def GRm (G : Nat → Prop) : Prop := (∀ L : List Nat, L.Nodup → (∀ c ∈ L, G c) → L.length ≤ 189) ∧ ∀ c, G c → c < 100000
def VFr (n : Nat) (w w2 : eW) : Prop := (∀ a, a < 37 ∨ (47 < a ∧ a < 102) → a ≠ 59 → a ≠ 60 → w2 a = w a) ∧ (∀ j, j ≠ n → w2 60 j = w 60 j) ∧ ∀ k, ¬ (200 * n ≤ k ∧ k < 200 * n + 200) → w2 59 k = w 59 k
theorem VFr.rf (n : Nat) (w : eW) : VFr n w w := ⟨fun _ _ _ _ => rfl, fun _ _ => rfl, fun _ _ => rfl⟩
theorem VFr.tr {n : Nat} {w a b : eW} (h : VFr n w a) (h2 : VFr n a b) : VFr n w b := ⟨fun q h3 h4 h5 => by rw [h2.1 q h3 h4 h5, h.1 q h3 h4 h5], fun j hj => by rw [h2.2.1 j hj, h.2.1 j hj], fun k hk => by rw [h2.2.2 k hk, h.2.2 k hk]⟩
theorem VFr.lo {n : Nat} {w w2 : eW} (h : Lo w w2) : VFr n w w2 := ⟨fun a ha _ _ => h a ha, fun j _ => by rw [h 60 (by omega)], fun k _ => by rw [h 59 (by omega)]⟩
theorem SpS.cg {w w2 : eW} {n : Nat} {G : Nat → Prop} {L : List Nat} (h : SpS w n G L) (e1 : w2 60 = w 60) (e2 : w2 59 = w 59) : SpS w2 n G L := by
  unfold SpS
  rw [e1, e2]
  exact h
theorem SpS.fr {w w2 : eW} {n j : Nat} {G : Nat → Prop} {L : List Nat} (h : SpS w j G L) (hl : L.length ≤ 200) (f : VFr n w w2) (hj : j ≠ n) : SpS w2 j G L := by
  obtain ⟨h1, h2, h3⟩ := h
  refine ⟨h1, by rw [f.2.1 j hj]; exact h2, fun k hk => ?_⟩
  rw [f.2.2 _ (by omega)]; exact h3 k hk
theorem WCx.v {m : eW} {Pm : Int → Int → Prop} {w0 : eW} {b : Nat × Nat} {N : Nat} {KY : Nat → Int} {w w2 : eW} {t : eT} (h : WCx m Pm w0 b N KY w t) (e : ∀ a, a ≠ 58 → a ≠ 59 → a ≠ 60 → w2 a = w a) : WCx m Pm w0 b N KY w2 t := by
  obtain ⟨i, mc, ma, ⟨n1, n2⟩, ky⟩ := h
  have hH : Hi w w2 := fun a ha => e a (by omega) (by omega) (by omega)
  have e37 := hH 37 (by omega)
  have er : ∀ a ∈ dyRef w, w2 a.toNat = w a.toNat := fun a ha => hH _ (by have := mc.1.1.2.1 a ha; omega)
  obtain ⟨i1, i2, i3, i4, i5, i6, i7, i8⟩ := @dyRef_i w
  have eK : mK w2 = mK w := by funext s; unfold mK; rw [e37, er _ i1]
  refine ⟨fun a ha => by rw [e a (by omega) (by omega) (by omega)]; exact i a ha, mc.hi hH, ma.ext eK ?_ ?_ ?_ (by rw [e37]), ⟨by rw [e37]; exact n1, by rw [e37]; exact n2⟩, fun s => by rw [eK]; exact ky s⟩
  · unfold mA; rw [e37, er _ i6]
  · unfold mD; rw [e37, er _ i4]
  · unfold mTl; rw [e37, er _ i5]
theorem getD_mem {L : List Nat} {k : Nat} (h : k < L.length) : L.getD k 0 ∈ L := by
  rw [List.getD_eq_getElem?_getD, List.getElem?_eq_getElem h]
  exact List.getElem_mem h
theorem mem_getD {L : List Nat} {x : Nat} (h : x ∈ L) : ∃ k, k < L.length ∧ L.getD k 0 = x := by
  obtain ⟨k, hk, e⟩ := List.getElem_of_mem h
  exact ⟨k, hk, by rw [List.getD_eq_getElem?_getD, List.getElem?_eq_getElem hk]; exact e⟩
theorem SpS.app {w : eW} {n c : Nat} {G : Nat → Prop} {L : List Nat} (h : SpS w n G L) (hc : G c) (hn : c ∉ L) : SpS (wu (wu w 59 (200 * n + L.length) (c : Int)) 60 n ((L.length : Int) + 1)) n G (L ++ [c]) := by
  obtain ⟨⟨h0, h1⟩, h2, h3⟩ := h
  refine ⟨⟨List.nodup_append.mpr ⟨h0, List.nodup_cons.mpr ⟨List.not_mem_nil, List.nodup_nil⟩, fun a ha x hx => ?_⟩, fun x hx => ?_⟩, ?_, fun k hk => ?_⟩
  · rw [List.mem_singleton] at hx
    intro h9
    rw [h9, hx] at ha
    exact hn ha
  · rcases List.mem_append.mp hx with h9 | h9
    · exact h1 x h9
    · rw [List.mem_singleton] at h9; rw [h9]; exact hc
  · rw [wu_eq, List.length_append]; rfl
  · rw [List.length_append] at hk
    have hk : k < L.length + 1 := hk
    rw [wu_na _ _ (by decide)]
    by_cases h9 : k = L.length
    · rw [h9, wu_eq, getD_n]
    · rw [wu_nk _ _ (by omega), getD_l (by omega)]; exact h3 k (by omega)
/-- of all spots to which a row leads it is noted how few letters go on from there -/
def NtA (m : eW) (l : List Int) (N : Nat) (KY : Nat → Int) (w : eW) (t : eT) : Prop := ∀ (i s : Nat) (g : t3), (∃ x, RcR m l x = some (i, g)) → ¬ mfG m g = 0 → s < N → KY s = ((kyG m g : Nat) : Int) → Fnd w t ((s * 7 + i : Nat) : Int)
def WCn (m : eW) (l : List Int) (w0 : eW) (b : Nat × Nat) (N : Nat) (KY : Nat → Int) (w : eW) (t : eT) : Prop := WCx m (flP m l N KY) w0 b N KY w t ∧ NtA m l N KY w t
theorem fnd_v {m : eW} {b : Nat × Nat} {w w2 : eW} {t : eT} (hD : DynQ w t b m) (e : ∀ a, a ≠ 58 → a ≠ 59 → a ≠ 60 → w2 a = w a) (q : Int) : Fnd w2 t q = Fnd w t q := by
  have h7 := hD.1.2.1 _ (@dyRef_i w).2.2.2.2.2.2.1
  have e45 := e 45 (by decide) (by decide) (by decide)
  exact (bk_cong (t := t) (show w2 45 2 = w 45 2 by rw [e45]) (show w2 45 0 = w 45 0 by rw [e45]) (e _ (by omega) (by omega) (by omega))).2.2.1 q
theorem WCn.v {m : eW} {l : List Int} {w0 : eW} {b : Nat × Nat} {N : Nat} {KY : Nat → Int} {w w2 : eW} {t : eT} (h : WCn m l w0 b N KY w t) (e : ∀ a, a ≠ 58 → a ≠ 59 → a ≠ 60 → w2 a = w a) : WCn m l w0 b N KY w2 t := ⟨h.1.v e, fun i s g h1 h2 h3 h4 => by rw [fnd_v h.1.2.1.1 e]; exact h.2 i s g h1 h2 h3 h4⟩
def PuR (m : eW) (l : List Int) (w0 : eW) (b : Nat × Nat) (N : Nat) (KY : Nat → Int) (γ : Nat × t3 × (Nat → Prop) × List Nat) (nn sa ii : Int) (w : eW) (t : eT) : Prop := (spA m l γ.1 γ.2.1 ∧ ii = (γ.1 : Int) ∧ Sta N KY m γ.2.1 sa ∧ ∀ s : Nat, sa = (s : Int) → Fnd w t ((s * 7 + γ.1 : Nat) : Int)) ∧ WCn m l w0 b N KY w t ∧ (0 ≤ nn ∧ nn ≤ 6) ∧ GRm γ.2.2.1 ∧ SpS w nn.toNat γ.2.2.1 γ.2.2.2 ∧ ∀ s : Nat, sa = (s : Int) → s < N → nn.toNat + fwl m l γ.1 γ.2.1 ≤ 6 → γ.2.2.1 (s * 7 + γ.1)
def PuO (m : eW) (l : List Int) (w0 : eW) (b : Nat × Nat) (N : Nat) (KY : Nat → Int) (γ : Nat × t3 × (Nat → Prop) × List Nat) (nn sa _ : Int) (w : eW) (_ : eT) (w2 : eW) (t2 : eT) : Prop := WCn m l w0 b N KY w2 t2 ∧ VFr nn.toNat w w2 ∧ ∃ M : List Nat, SpS w2 nn.toNat γ.2.2.1 (γ.2.2.2 ++ M) ∧ (∀ c ∈ M, ∃ s : Nat, sa = (s : Int) ∧ s < N ∧ c = s * 7 + γ.1 ∧ nn.toNat + fwl m l γ.1 γ.2.1 ≤ 6) ∧ ∀ s : Nat, sa = (s : Int) → nn.toNat + fwl m l γ.1 γ.2.1 ≤ 6 → s * 7 + γ.1 ∈ γ.2.2.2 ++ M
theorem c_vput {d : Nat} {m : eW} {l : List Int} (hl : LtO l) {w0 : eW} {b : Nat × Nat} {N : Nat} {KY : Nat → Int} (γ : Nat × t3 × (Nat → Prop) × List Nat) (nn sa ii : Int) (w : eW) (t : eT) (h : PuR m l w0 b N KY γ nn sa ii w t) : Cl (d + 21) 99 [rA 58, (0, nn), (0, sa), (0, ii)] (enc w t) (fun r S2 => ∃ w2 t2, r = none ∧ S2 = enc w2 t2 ∧ PuO m l w0 b N KY γ nn sa ii w t w2 t2) := by
  obtain ⟨i, g, G, L⟩ := γ
  obtain ⟨⟨hA, rfl, hs, hfn⟩, hc, hn, hG, hS, hgd⟩ := h
  replace hA : spA m l i g := hA
  replace hs : Sta N KY m g sa := hs
  replace hfn : ∀ s : Nat, sa = (s : Int) → Fnd w t ((s * 7 + i : Nat) : Int) := hfn
  replace hS : SpS w nn.toNat G L := hS
  replace hG : GRm G := hG
  obtain ⟨n, rfl⟩ : ∃ n : Nat, nn = (n : Int) := ⟨nn.toNat, by omega⟩
  rw [Int.toNat_natCast] at hS hgd
  replace hgd : ∀ s : Nat, sa = (s : Int) → s < N → n + fwl m l i g ≤ 6 → G (s * 7 + i) := hgd
  have hL := hG.1 L hS.1.1 hS.1.2
  have hf2 : fwl m l i g ≤ 1000 := fwF_1000 14 i g
  have hi6 : i ≤ l.length := hA.1
  have hl6 := hl.1.2
  have rg := hc.1.rg
  have hNl := rg.2.2.2
  refine g_vput0 (m := m) (b := b) (P := flP m l N KY) ?_
  rw [w32_id (x := (-1 : Int)) (by omega), w32_id (x := ((n : Nat) : Int)) (by omega), Int.toNat_natCast, hS.2.1, w32_id (x := (200 : Int)) (by omega), w32_id (x := (L.length : Int)) (by omega)]
  rcases hs with ⟨rfl, hz⟩ | ⟨s, hs, rfl, hky⟩
  · refine ⟨fun _ => ⟨w, t, rfl, rfl, hc, VFr.rf _ _, [], ?_, (fun c hc => by cases hc), fun s h9 => by omega⟩, fun h9 => absurd (w32_id (by omega)) h9⟩
    show SpS w ((n : Int)).toNat G (L ++ [])
    rw [List.append_nil, Int.toNat_natCast]; exact hS
  rw [w32_id (x := (s : Int)) (by omega), show (s : Int) * 7 + (i : Int) = ((s * 7 + i : Nat) : Int) by omega]
  have hsame : ((n : Nat) + fwl m l i g ≤ 6 → s * 7 + i ∈ L) → ∃ w2 t2, (none : Option aV) = none ∧ enc w t = enc w2 t2 ∧ PuO m l w0 b N KY (i, g, G, L) (n : Int) (s : Int) (i : Int) w t w2 t2 := fun h9 => by
    refine ⟨w, t, rfl, rfl, hc, VFr.rf _ _, [], ?_, (fun c hc => by cases hc), fun s2 h8 h7 => ?_⟩
    · show SpS w ((n : Int)).toNat G (L ++ [])
      rw [List.append_nil, Int.toNat_natCast]; exact hS
    · show s2 * 7 + i ∈ L ++ []
      rw [List.append_nil, show s2 = s by omega]
      rw [Int.toNat_natCast] at h7
      exact h9 h7
  refine ⟨fun h9 => by omega, fun _ => ⟨by omega, fun h9 => by omega, fun _ => ⟨⟨hc.1.2.1, by omega, by omega⟩, fun x1 hx1 => ?_⟩⟩⟩
  have hx : x1 = ((fwl m l i g : Nat) : Int) := by
    rcases hx1 with ⟨_, h9⟩ | ⟨h1, _⟩
    · exact absurd (hfn s rfl) h9
    · exact h1 i s g hA hs hky rfl
  subst hx
  rw [w64_id (x := (n : Int) + ((fwl m l i g : Nat) : Int)) (by omega), w64_id (x := (6 : Int)) (by omega)]
  refine ⟨fun h9 => ?_, fun h9 => hsame (fun h8 => by omega)⟩
  have hal : n + fwl m l i g ≤ 6 := by omega
  have hGc := hgd s rfl hs hal
  have hcb := hG.2 _ hGc
  suffices hk : ∀ (k j : Nat), j + k = L.length → (∀ q, q < j → L.getD q 0 ≠ s * 7 + i) → Ev (d + 21) 99 (fun r S2 => ∃ w2 t2, r = none ∧ S2 = enc w2 t2 ∧ PuO m l w0 b N KY (i, g, G, L) (n : Int) (s : Int) (i : Int) w t w2 t2) 48 [rA 58, (0, (n : Int)), (0, (s : Int)), (0, (i : Int)), (0, ((s * 7 + i : Nat) : Int)), (0, (j : Int))] [] (enc w t) from hk L.length 0 (by omega) (fun q hq => by omega)
  intro k
  induction k with
  | zero =>
    intro j hj hno
    refine g_vput1 ?_
    rw [w32_id (x := ((n : Nat) : Int)) (by omega), Int.toNat_natCast, hS.2.1, show (j : Int) = (L.length : Int) by omega, w32_id (x := (n : Int) * 200 + (L.length : Int)) (by omega), show ((n : Int) * 200 + (L.length : Int)).toNat = 200 * n + L.length by omega]
    have hnL : s * 7 + i ∉ L := fun h9 => by
      obtain ⟨q, q1, q2⟩ := mem_getD h9
      exact hno q (by omega) q2
    refine ⟨by omega, fun _ => ⟨by omega, by omega, by omega, by omega, ?_⟩, fun h9 => absurd (Int.le_refl _) h9⟩
    have hS4 := hS.app hGc hnL
    have e4 : ∀ a, a ≠ 58 → a ≠ 59 → a ≠ 60 → wu (wu w 59 (200 * n + L.length) ((s * 7 + i : Nat) : Int)) 60 n ((L.length : Int) + 1) a = w a := fun a _ h2 h3 => by rw [wu_row h3, wu_row h2]
    refine ⟨_, t, rfl, rfl, hc.v e4, ?_, [s * 7 + i], by rw [Int.toNat_natCast]; exact hS4, fun c hc => ?_, fun s2 h8 _ => ?_⟩
    · rw [Int.toNat_natCast]
      refine ⟨fun a _ h2 h3 => by rw [wu_row h3, wu_row h2], fun j hj => by rw [wu_nk _ _ hj, wu_na _ _ (by decide)], fun k hk => ?_⟩
      rw [wu_na _ _ (by decide), wu_nk _ _ (by omega)]
    · rw [List.mem_singleton] at hc
      rw [Int.toNat_natCast]
      exact ⟨s, rfl, hs, hc, hal⟩
    · rw [show s2 = s by omega]
      exact List.mem_append_right _ (List.mem_singleton.mpr rfl)
  | succ k ih =>
    intro j hj hno
    have hLj := getD_mem (show j < L.length by omega)
    have hb := hG.2 _ (hS.1.2 _ hLj)
    refine g_vput1 ?_
    rw [w32_id (x := ((n : Nat) : Int)) (by omega), Int.toNat_natCast, hS.2.1, w32_id (x := (j : Int)) (by omega), w32_id (x := (L.length : Int)) (by omega), w32_id (x := (n : Int) * 200 + (j : Int)) (by omega), show ((n : Int) * 200 + (j : Int)).toNat = 200 * n + j by omega, hS.2.2 j (by omega), w32_id (x := ((L.getD j 0 : Nat) : Int)) (by omega), w32_id (x := ((s * 7 + i : Nat) : Int)) (by omega)]
    refine ⟨by omega, fun h9 => by omega, fun _ => ⟨by omega, fun h8 => ?_, fun h8 => ?_⟩⟩
    · rw [show ((j : Int) + 1) = ((j + 1 : Nat) : Int) by omega]
      refine ih (j + 1) (by omega) (fun q hq => ?_)
      by_cases h7 : q = j
      · rw [h7]; omega
      · exact hno q (by omega)
    · refine hsame (fun _ => ?_)
      have : L.getD j 0 = s * 7 + i := by have := Classical.not_not.mp h8; omega
      rw [← this]; exact hLj
