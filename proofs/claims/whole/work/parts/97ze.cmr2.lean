/-! The class: makeRoom (2). -/

def wcp (w : eW) (N a L : Nat) : eW := fun q j => if q = N then (if j < L then w a j else 0) else w q j
theorem wc_wz {w : eW} {N a L : Nat} (h : a ≠ N) : wc (wz w N) a N L = wcp w N a L := by
  funext q j
  unfold wc wz wcp
  by_cases h1 : q = N
  · by_cases h2 : j < L
    · rw [if_pos ⟨h1, h2⟩, if_pos h1, if_pos h2, if_neg h]
    · rw [if_neg (fun h9 => h2 h9.2), if_pos h1, if_pos h1, if_neg h2]
  · rw [if_neg (fun h9 => h1 h9.1), if_neg h1, if_neg h1]
theorem wcp_na {w : eW} {N a L q : Nat} (h : q ≠ N) : wcp w N a L q = w q := by
  funext j
  unfold wcp
  rw [if_neg h]
theorem wcp_at {w : eW} {N a L j : Nat} (h : j < L) : wcp w N a L N j = w a j := by
  unfold wcp
  rw [if_pos rfl, if_pos h]
theorem wz_na {w : eW} {N q : Nat} (h : q ≠ N) : wz w N q = w q := by
  funext j
  unfold wz
  rw [if_neg h]

theorem c_cpI {d : Nat} {w : eW} {t : eT} {A n : Int} (hk : dyK t A 20) (h1 : (dyL t A : Int) < n) (h2 : n ≤ 10000000) : Cl (d + 1) 270 [(2, A), (0, n)] (enc w t) (fun r S2 => r = some (2, ((102 + t.2.1 : Nat) : Int)) ∧ S2 = enc (wcp w (102 + t.2.1) A.toNat (dyL t A)) (tn t 20 n.toNat)) := by
  have hA := hk.1
  have hlt := hk.2.1
  obtain ⟨k2, l2⟩ := dyK_more hk (tn_more (t := t) (kd := 20) (n := n.toNat)).1 (tn_more (t := t) (kd := 20) (n := n.toNat)).2
  refine g_cpI ?_
  rw [w32_id (x := n) (by omega), w32_id (x := (dyL t A : Int)) (by omega), l2, w32_id (x := (dyL t A : Int)) (by omega), if_neg (by omega), w32_id (x := (dyL t A : Int)) (by omega), Int.toNat_natCast, Int.toNat_natCast]
  refine ⟨by omega, Or.inl hk, fun _ => ⟨by omega, by omega, by omega, by omega, by omega, Or.inl k2, ⟨by rw [w32_id (by omega)]; omega, by rw [w32_id (by omega), l2]; exact Int.le_refl _, by rw [w32_id (by omega), dyK_tn.2]; omega, Or.inl ⟨k2, dyK_tn.1⟩, by omega⟩, by omega, by omega, rfl, ?_⟩, fun h9 => absurd (by omega) h9⟩
  rw [wc_wz (by omega)]

theorem c_cpL {d : Nat} {w : eW} {t : eT} {A n : Int} (hk : dyK t A 21) (h1 : (dyL t A : Int) < n) (h2 : n ≤ 10000000) : Cl (d + 1) 271 [(2, A), (0, n)] (enc w t) (fun r S2 => r = some (2, ((102 + t.2.1 : Nat) : Int)) ∧ S2 = enc (wcp w (102 + t.2.1) A.toNat (dyL t A)) (tn t 21 n.toNat)) := by
  have hA := hk.1
  have hlt := hk.2.1
  obtain ⟨k2, l2⟩ := dyK_more hk (tn_more (t := t) (kd := 21) (n := n.toNat)).1 (tn_more (t := t) (kd := 21) (n := n.toNat)).2
  refine g_cpL ?_
  rw [w32_id (x := n) (by omega), w32_id (x := (dyL t A : Int)) (by omega), l2, w32_id (x := (dyL t A : Int)) (by omega), if_neg (by omega), w32_id (x := (dyL t A : Int)) (by omega), Int.toNat_natCast, Int.toNat_natCast]
  refine ⟨by omega, Or.inr hk, fun _ => ⟨by omega, by omega, by omega, by omega, by omega, Or.inr k2, ⟨by rw [w32_id (by omega)]; omega, by rw [w32_id (by omega), l2]; exact Int.le_refl _, by rw [w32_id (by omega), dyK_tn.2]; omega, Or.inr ⟨k2, dyK_tn.1⟩, by omega⟩, by omega, by omega, rfl, ?_⟩, fun h9 => absurd (by omega) h9⟩
  rw [wc_wz (by omega)]

/-- what makeRoom leaves -/
def MrQ (N : Nat) (w : eW) (t : eT) (w2 : eW) (t2 : eT) : Prop := (∀ a, a ≠ 37 → a < 102 + t.2.1 → w2 a = w a) ∧ (∀ k, k = 0 ∨ 7 ≤ k → w2 37 k = w 37 k) ∧ (∀ i, 1 ≤ i → i ≤ 4 → ∀ s, s < N → w2 (w2 37 i).toNat s = w (w 37 i).toNat s) ∧ (∀ s, s < 16 * N → w2 (w2 37 6).toNat s = w (w 37 6).toNat s) ∧ t.2.1 ≤ t2.2.1 ∧ ∀ x, x < 102 + t.2.1 → t2.1 x = t.1 x

def mkd (k : Nat) : Nat := if k = 1 then 21 else 20
def mln (k R : Nat) : Nat := if k = 6 then 16 * R else R
def msl (i R : Nat) : Nat := if i = 6 then 21 * R else i * R
/-- the first i of the six arrays are made anew -/
def mG (i R N : Nat) (w : eW) (t : eT) (w' : eW) (t' : eT) : Prop := (t'.2.1 = t.2.1 + i ∧ t'.2.2 = t.2.2 + msl i R) ∧ (∀ x, x < 102 + t.2.1 → t'.1 x = t.1 x) ∧ (∀ q, q ≠ 37 → q < 102 + t.2.1 → w' q = w q) ∧ (∀ k, k = 0 ∨ i < k → w' 37 k = w 37 k) ∧ ∀ k, 1 ≤ k → k ≤ i → w' 37 k = ((101 + t.2.1 + k : Nat) : Int) ∧ (dyK t' ((101 + t.2.1 + k : Nat) : Int) (mkd k) ∧ dyL t' ((101 + t.2.1 + k : Nat) : Int) = mln k R) ∧ (k ≠ 5 → ∀ s, s < mln k N → w' (101 + t.2.1 + k) s = w (w 37 k).toNat s)
theorem mG.z (R N : Nat) (w : eW) (t : eT) : mG 0 R N w t w t := ⟨⟨rfl, by unfold msl; rw [if_neg (by decide), Nat.zero_mul]; rfl⟩, fun _ _ => rfl, fun _ _ _ => rfl, fun _ _ => rfl, fun k h1 h2 => by omega⟩
theorem mG.nxt {i R N : Nat} {w w' w2 : eW} {t t' : eT} (h : mG i R N w t w' t') (hi : i < 6) (o1 : ∀ q, q ≠ 37 → q ≠ 102 + t'.2.1 → w2 q = w' q) (o2 : w2 37 (i + 1) = ((102 + t'.2.1 : Nat) : Int)) (o3 : ∀ k, k ≠ i + 1 → w2 37 k = w' 37 k) (o4 : i + 1 ≠ 5 → ∀ s, s < mln (i + 1) N → w2 (102 + t'.2.1) s = w (w 37 (i + 1)).toNat s) : mG (i + 1) R N w t w2 (tn t' (mkd (i + 1)) (mln (i + 1) R)) := by
  obtain ⟨⟨h1, h1b⟩, h2, h3, h4, h5⟩ := h
  have mo := tn_more (t := t') (kd := mkd (i + 1)) (n := mln (i + 1) R)
  have kn := dyK_tn (t := t') (kd := mkd (i + 1)) (n := mln (i + 1) R)
  have en : 102 + t'.2.1 = 101 + t.2.1 + (i + 1) := by omega
  refine ⟨⟨by show t'.2.1 + 1 = _; omega, ?_⟩, fun x hx => ?_, fun q h6 h7 => ?_, fun k hk => ?_, fun k k1 k2 => ?_⟩
  · show t'.2.2 + mln (i + 1) R = _
    rw [h1b]
    unfold mln msl
    rw [if_neg (show ¬ i = 6 by omega)]
    by_cases h9 : i + 1 = 6
    · have : i = 5 := by omega
      rw [if_pos h9, if_pos h9, this]; omega
    · rw [if_neg h9, if_neg h9, Nat.succ_mul]; omega
  · rw [mo.2 x (by omega)]; exact h2 x hx
  · rw [o1 q h6 (by omega)]; exact h3 q h6 h7
  · rw [o3 k (by omega)]; exact h4 k (by omega)
  · by_cases h9 : k = i + 1
    · rw [h9, ← en]
      exact ⟨o2, kn, o4⟩
    · obtain ⟨g1, g2, g3⟩ := h5 k k1 (by omega)
      obtain ⟨g4, g5⟩ := dyK_more g2.1 mo.1 mo.2
      refine ⟨by rw [o3 k h9]; exact g1, ⟨g4, by rw [g5]; exact g2.2⟩, fun h8 s hs => ?_⟩
      rw [o1 _ (by omega) (by omega)]
      exact g3 h8 s hs
theorem mG.cp {i R N A L : Nat} {w w' : eW} {t t' : eT} (h : mG i R N w t w' t') (hi : i < 6) (hA : w 37 (i + 1) = (A : Int)) (h37 : A ≠ 37) (hlt : A < 102 + t.2.1) (hL : L = mln (i + 1) N) : mG (i + 1) R N w t (wu (wcp w' (102 + t'.2.1) A L) 37 (i + 1) ((102 + t'.2.1 : Nat) : Int)) (tn t' (mkd (i + 1)) (mln (i + 1) R)) := by
  have h1 := h.1.1
  refine h.nxt hi (fun q h2 h3 => by rw [wu_row h2, wcp_na h3]) (by rw [wu_eq]) (fun k hk => by rw [wu_nk _ _ hk, wcp_na (by omega)]) (fun _ s hs => ?_)
  rw [wu_row (by omega), wcp_at (by omega), hA, Int.toNat_natCast, h.2.2.1 A h37 hlt]
theorem mG.nw {R N : Nat} {w w' : eW} {t t' : eT} (h : mG 4 R N w t w' t') : mG 5 R N w t (wu (wz w' (102 + t'.2.1)) 37 5 ((102 + t'.2.1 : Nat) : Int)) (tn t' 20 R) := by
  have h1 := h.1.1
  exact h.nxt (by decide) (fun q h2 h3 => by rw [wu_row h2, wz_na h3]) (by rw [wu_eq]) (fun k hk => by rw [wu_nk _ _ hk, wz_na (by omega)]) (fun h9 => absurd rfl h9)
theorem mG.fin {N R : Nat} {w w6 : eW} {t t6 : eT} {b : Nat × Nat} (hD : DyI w t) (hR : RmI w t b) (h : mG 6 R N w t w6 t6) (eN : dyL t (w 37 1) = N) (hb : N < R ∧ R = min (2 * N) 4369) : MrQ N w t w6 t6 ∧ DyI w6 t6 ∧ RmI w6 t6 b ∧ N < dyL t6 (w6 37 1) := by
  obtain ⟨d1, d2, ⟨R0, hRR, a1, _⟩, M, hM, hM2, a7, a8⟩ := hD
  rw [a1.2] at eN
  obtain ⟨⟨h1, h1b⟩, h2, h3, h4, h5⟩ := h
  have w45 : w6 45 = w 45 := h3 45 (by decide) (by omega)
  obtain ⟨f1, k1, c1⟩ := h5 1 (by decide) (by decide)
  obtain ⟨f2, k2, c2⟩ := h5 2 (by decide) (by decide)
  obtain ⟨f3, k3, c3⟩ := h5 3 (by decide) (by decide)
  obtain ⟨f4, k4, c4⟩ := h5 4 (by decide) (by decide)
  obtain ⟨f5, k5, _⟩ := h5 5 (by decide) (by decide)
  obtain ⟨f6, k6, c6⟩ := h5 6 (by decide) (by decide)
  obtain ⟨k7, l7⟩ := dyK_more a7.1 (t2 := t6) (by omega) h2
  obtain ⟨k8, l8⟩ := dyK_more a8.1 (t2 := t6) (by omega) h2
  have di := dyRef_i (w := w)
  have u7 := d2 _ di.2.2.2.2.2.2.1
  have u8 := d2 _ di.2.2.2.2.2.2.2
  have v7 := a7.1.2.1
  have v8 := a8.1.2.1
  have hne : ¬ w 45 0 = w 45 1 := by
    intro h9
    unfold dyRef at d1
    rw [h9] at d1
    simp at d1
  clear d1
  refine ⟨⟨h3, fun k hk => h4 k (by omega), fun i i1 i2 s hs => ?_, fun s hs => ?_, by omega, h2⟩, ⟨?_, ?_, ⟨R, by omega, ?_, ?_, ?_, ?_, ?_, ?_⟩, M, hM, hM2, ?_, ?_⟩, ⟨by have := hR.1; unfold msl at h1b; rw [if_pos rfl] at h1b; omega, ?_⟩, ?_⟩
  · obtain ⟨g1, _, g3⟩ := h5 i i1 (by omega)
    rw [g1, Int.toNat_natCast]
    exact g3 (by omega) s (by unfold mln; rw [if_neg (by omega)]; exact hs)
  · rw [f6, Int.toNat_natCast]
    exact c6 (by decide) s hs
  · unfold dyRef
    rw [f1, f2, f3, f4, f5, f6, w45]
    simp only [List.nodup_cons, List.mem_cons, List.not_mem_nil, or_false, not_or, List.nodup_nil, and_true]
    refine ⟨⟨?_, ?_, ?_, ?_, ?_, ?_, ?_⟩, ⟨?_, ?_, ?_, ?_, ?_, ?_⟩, ⟨?_, ?_, ?_, ?_, ?_⟩, ⟨?_, ?_, ?_, ?_⟩, ⟨?_, ?_, ?_⟩, ⟨?_, ?_⟩, hne, ?_⟩ <;> first | omega | simp
  · unfold dyRef
    rw [f1, f2, f3, f4, f5, f6, w45]
    intro a ha
    simp only [List.mem_cons, List.not_mem_nil, or_false] at ha
    omega
  · rw [f1]; exact k1
  · rw [f2]; exact k2
  · rw [f3]; exact k3
  · rw [f4]; exact k4
  · rw [f5]; exact k5
  · rw [f6]; exact k6
  · rw [w45]; exact ⟨k7, by rw [l7]; exact a7.2⟩
  · rw [w45]; exact ⟨k8, by rw [l8]; exact a8.2⟩
  · have h9 := hR.2
    unfold msl at h1b
    rw [if_pos rfl] at h1b
    rw [a1.2, a7.2] at h9
    have e1 : dyL t6 (w6 37 1) = R := by rw [f1]; exact k1.2
    rw [e1, w45, l7, a7.2, h1b]
    have : mcS R0 + 21 * R ≤ mcS R := by
      unfold mcS
      (repeat' split) <;> omega
    omega
  · have e1 : dyL t6 (w6 37 1) = R := by rw [f1]; exact k1.2
    omega
theorem c_mr {d N : Nat} {w : eW} {t : eT} {b : Nat × Nat} (hD : DyI w t) (hR : RmI w t b) (hN : w 37 7 = (N : Int)) (hNR : N ≤ dyL t (w 37 1)) (hN2 : N < 4369) : Cl (d + 2) 35 [rA 37] (enc w t) (fun r S2 => ∃ w2 t2, r = none ∧ S2 = enc w2 t2 ∧ MrQ N w t w2 t2 ∧ DyI w2 t2 ∧ RmI w2 t2 b ∧ N < dyL t2 (w2 37 1)) := by
  have hD0 := hD
  obtain ⟨_, d2, ⟨R, hRR, a1, a2, a3, a4, a5, a6⟩, _⟩ := hD
  have di := dyRef_i (w := w)
  have hA : ∀ a ∈ dyRef w, ¬ a = 37 := fun a ha h9 => by have := d2 a ha; omega
  rw [a1.2] at hNR
  refine g_mr0 ?_
  rw [hN, a1.2, w32_id (x := (R : Int)) (by omega), w32_id (x := (N : Int)) (by omega), w32_id (x := 4369) (by decide), w32_id (x := 2 * (R : Int)) (by omega)]
  refine ⟨Or.inr a1.1, fun hg => ⟨Or.inr a1.1, by have := a1.1.1; omega, ?_⟩, fun hg => ⟨w, t, rfl, rfl, ⟨fun _ _ _ => rfl, fun _ _ => rfl, fun _ _ _ _ _ => rfl, fun _ _ => rfl, Nat.le_refl _, fun _ _ => rfl⟩, hD0, hR, by rw [a1.2]; omega⟩⟩
  have eNR : R = N := by omega
  rw [eNR] at a1 a2 a3 a4 a6 hRR
  clear a5 d2 hg hNR
  obtain ⟨R2, eR2, hR2⟩ : ∃ R2 : Nat, (if (4369 : Int) < 2 * (R : Int) then 4369 else 2 * (R : Int)) = (R2 : Int) ∧ R2 = min (2 * N) 4369 := by
    refine ⟨min (2 * N) 4369, ?_, rfl⟩
    split <;> omega
  rw [eR2]
  clear eR2 eNR
  have hb : N < R2 ∧ R2 = min (2 * N) 4369 := by omega
  have hbb : N < R2 ∧ R2 ≤ 4369 := by omega
  have step : ∀ {i kd L : Nat} {w' : eW} {t' : eT}, mG i R2 N w t w' t' → i < 6 → dyK t (w 37 (i + 1)) kd ∧ dyL t (w 37 (i + 1)) = mln (i + 1) N → kd = mkd (i + 1) → (dyK t' (w 37 (i + 1)) kd ∧ dyL t' (w 37 (i + 1)) = mln (i + 1) N) ∧ 0 ≤ w 37 (i + 1) := fun h hi hk _ => by
    obtain ⟨g1, g2⟩ := dyK_more hk.1 (by have := h.1.1; omega) h.2.1
    exact ⟨⟨g1, by rw [g2]; exact hk.2⟩, Int.le_of_lt hk.1.1⟩
  have copy : ∀ {i kd : Nat} {w' : eW} {t' : eT}, mG i R2 N w t w' t' → i < 6 → dyK t (w 37 (i + 1)) kd → w 37 (i + 1) ∈ dyRef w → mG (i + 1) R2 N w t (wu (wcp w' (102 + t'.2.1) (w 37 (i + 1)).toNat (mln (i + 1) N)) 37 (i + 1) ((102 + t'.2.1 : Nat) : Int)) (tn t' (mkd (i + 1)) (mln (i + 1) R2)) := fun {i kd w' t'} h hi hk hm => by
    have h9 := hA _ hm
    have h8 := hk.1
    exact h.cp hi (by omega) (by omega) hk.2.1 rfl
  have G0 := mG.z R2 N w t
  -- keys
  refine (c_cpL (w := w) a1.1 (by rw [a1.2]; omega) (by omega)).mono ?_
  rintro _ _ ⟨rfl, rfl⟩
  rw [a1.2, Int.toNat_natCast]
  refine ⟨fun _ h9 => (by cases h9), ?_⟩
  have G1 : mG 1 R2 N w t (wu (wcp w (102 + t.2.1) (w 37 1).toNat N) 37 1 ((102 + t.2.1 : Nat) : Int)) (tn t 21 R2) := copy (i := 0) G0 (by decide) a1.1 di.1
  refine g_mr1 ?_
  rw [wcp_na (show 37 ≠ 102 + t.2.1 by omega)]
  generalize wu (wcp w (102 + t.2.1) (w 37 1).toNat N) 37 1 ((102 + t.2.1 : Nat) : Int) = w1 at G1 ⊢
  generalize tn t 21 R2 = t1 at G1 ⊢
  obtain ⟨b2, z2⟩ := step (L := 0) G1 (by decide) a2 rfl
  have b2 : dyK t1 (w 37 2) 20 ∧ dyL t1 (w 37 2) = N := b2
  refine ⟨by omega, z2, ?_⟩
  refine (c_cpI (w := w1) b2.1 (by rw [b2.2]; omega) (by omega)).mono ?_
  rintro _ _ ⟨rfl, rfl⟩
  rw [b2.2, Int.toNat_natCast]
  refine ⟨fun _ h9 => (by cases h9), ?_⟩
  have G2 : mG 2 R2 N w t (wu (wcp w1 (102 + t1.2.1) (w 37 2).toNat N) 37 2 ((102 + t1.2.1 : Nat) : Int)) (tn t1 20 R2) := copy (i := 1) G1 (by decide) a2.1 di.2.1
  refine g_mr2 ?_
  rw [wcp_na (show 37 ≠ 102 + t1.2.1 by omega), G1.2.2.2.1 3 (by decide)]
  clear G1
  generalize wu (wcp w1 (102 + t1.2.1) (w 37 2).toNat N) 37 2 ((102 + t1.2.1 : Nat) : Int) = w2 at G2 ⊢
  generalize tn t1 20 R2 = t2 at G2 ⊢
  obtain ⟨b3, z3⟩ := step (L := 0) G2 (by decide) a3 rfl
  have b3 : dyK t2 (w 37 3) 20 ∧ dyL t2 (w 37 3) = N := b3
  refine ⟨by omega, z3, ?_⟩
  refine (c_cpI (w := w2) b3.1 (by rw [b3.2]; omega) (by omega)).mono ?_
  rintro _ _ ⟨rfl, rfl⟩
  rw [b3.2, Int.toNat_natCast]
  refine ⟨fun _ h9 => (by cases h9), ?_⟩
  have G3 : mG 3 R2 N w t (wu (wcp w2 (102 + t2.2.1) (w 37 3).toNat N) 37 3 ((102 + t2.2.1 : Nat) : Int)) (tn t2 20 R2) := copy (i := 2) G2 (by decide) a3.1 di.2.2.1
  refine g_mr3 ?_
  rw [wcp_na (show 37 ≠ 102 + t2.2.1 by omega), G2.2.2.2.1 4 (by decide)]
  clear G2
  generalize wu (wcp w2 (102 + t2.2.1) (w 37 3).toNat N) 37 3 ((102 + t2.2.1 : Nat) : Int) = w3 at G3 ⊢
  generalize tn t2 20 R2 = t3 at G3 ⊢
  obtain ⟨b4, z4⟩ := step (L := 0) G3 (by decide) a4 rfl
  have b4 : dyK t3 (w 37 4) 20 ∧ dyL t3 (w 37 4) = N := b4
  refine ⟨by omega, z4, ?_⟩
  refine (c_cpI (w := w3) b4.1 (by rw [b4.2]; omega) (by omega)).mono ?_
  rintro _ _ ⟨rfl, rfl⟩
  rw [b4.2, Int.toNat_natCast]
  refine ⟨fun _ h9 => (by cases h9), ?_⟩
  have G4 : mG 4 R2 N w t (wu (wcp w3 (102 + t3.2.1) (w 37 4).toNat N) 37 4 ((102 + t3.2.1 : Nat) : Int)) (tn t3 20 R2) := copy (i := 3) G3 (by decide) a4.1 di.2.2.2.1
  refine g_mr4 ?_
  clear G3
  generalize wu (wcp w3 (102 + t3.2.1) (w 37 4).toNat N) 37 4 ((102 + t3.2.1 : Nat) : Int) = w4 at G4 ⊢
  generalize tn t3 20 R2 = t4 at G4 ⊢
  have G5 := G4.nw
  rw [wz_na (show 37 ≠ 102 + t4.2.1 by omega), G4.2.2.2.1 6 (by decide), w32_id (x := (R2 : Int)) (by omega), Int.toNat_natCast]
  clear G4
  generalize wu (wz w4 (102 + t4.2.1)) 37 5 ((102 + t4.2.1 : Nat) : Int) = w5 at G5 ⊢
  have n4 : 0 ≤ ((102 + t4.2.1 : Nat) : Int) := by omega
  generalize tn t4 20 R2 = t5 at G5 ⊢
  obtain ⟨b6, z6⟩ := step (L := 0) G5 (by decide) a6 rfl
  have b6 : dyK t5 (w 37 6) 20 ∧ dyL t5 (w 37 6) = 16 * N := b6
  refine ⟨by omega, by omega, n4, z6, ?_⟩
  refine (c_cpI (w := w5) b6.1 (by rw [b6.2]; omega) (by omega)).mono ?_
  rintro _ _ ⟨rfl, rfl⟩
  rw [b6.2, show ((R2 : Int) * 16).toNat = 16 * R2 by omega]
  refine ⟨fun _ h9 => (by cases h9), ?_⟩
  have G6 : mG 6 R2 N w t (wu (wcp w5 (102 + t5.2.1) (w 37 6).toNat (16 * N)) 37 6 ((102 + t5.2.1 : Nat) : Int)) (tn t5 20 (16 * R2)) := copy (i := 5) G5 (by decide) a6.1 di.2.2.2.2.2.1
  refine g_mr5 ⟨by omega, _, _, rfl, rfl, ?_⟩
  exact mG.fin hD0 hR G6 a1.2 hb

