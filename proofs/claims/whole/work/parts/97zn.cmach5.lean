/-! The class: the machine is built. -/

def MtQ (w : eW) (t : eT) (m : eW) (N : Nat) (f : Nat → t3) (r : Option aV) (S2 : aS) : Prop := ∃ w2, r = none ∧ S2 = enc w2 t ∧ TlI w w2 ∧ ∀ s, s < N → mTl w2 s = ((fsN (pE m f s) 7 0 : Nat) : Int)
theorem tl_wu {w w1 : eW} (h : TlI w w1) (e : w1 37 = w 37) (h37 : (w 37 5).toNat ≠ 37) (s : Nat) (v : Int) : TlI w (wu w1 (w1 37 5).toNat s v) ∧ ∀ u, mTl (wu w1 (w1 37 5).toNat s v) u = if u = s then v else mTl w1 u := by
  refine ⟨fun a ha => ?_, fun u => ?_⟩
  · rw [wu_row (by rw [e]; exact ha)]; exact h a ha
  · unfold mTl
    rw [wu_row (q := 37) (by rw [e]; exact Ne.symm h37), wu_at]
theorem mt_in {d : Nat} {w : eW} {t : eT} {m : eW} {b : Nat × Nat} {N : Nat} {f : Nat → t3} {D : Nat → Nat} (h : SoI w m t b N f D) (hb : BdM w m N f D (16 * N)) (n : Nat) (hn : n + 1 ≤ 6) (hout : ∀ (w1 : eW) (J : aV), TlI w w1 → (∀ u, u < N → mTl w1 u = ((tv (pE m f u) (n + 1) : Nat) : Int)) → Ev (d + 3) 36 (MtQ w t m N f) 38 [rA 37, (0, ((n + 2 : Nat) : Int)), J] [] (enc w1 t)) : ∀ (k s : Nat) (w1 : eW), s + k = N → TlI w w1 → (∀ u, u < N → mTl w1 u = ((tv (pE m f u) (if u < s then n + 1 else n) : Nat) : Int)) → Ev (d + 3) 36 (MtQ w t m N f) 46 [rA 37, (0, ((n + 1 : Nat) : Int)), (0, (s : Int))] [] (enc w1 t) := by
  intro k
  induction k with
  | zero =>
    intro s w1 hs ht hm
    have rg := ((h.tl ht).1).rg
    refine g_mt3 ?_
    rw [rg.2.1, show (s : Int) = (N : Int) by omega]
    refine ⟨fun _ => ?_, fun h9 => absurd (Int.le_refl _) h9⟩
    rw [show (((n + 1 : Nat) : Int) + 1) = ((n + 2 : Nat) : Int) by omega]
    refine hout w1 _ ht (fun u hu => ?_)
    have := hm u hu
    rw [if_pos (by omega)] at this
    exact this
  | succ k ih =>
    intro s w1 hs ht hm
    obtain ⟨h1, fr, e37, e6⟩ := h.tl ht
    have rg := h1.rg
    have hl := h1.2.2.2.1
    have x5 := h1.2.2.1.1.ds.2.2.2.2.2.1
    obtain ⟨_, _, ⟨R, hR, ⟨k1, l1⟩, _, _, _, ⟨k5, l5⟩, _⟩, _⟩ := h1.2.2.1.1
    rw [l1] at hl
    have hNl := rg.2.2.2
    have hms := hm s (by omega)
    rw [if_neg (by omega)] at hms
    have tb := tv_le (pE m f s) (n := n) (by omega)
    obtain ⟨t1, t2⟩ := tv_s (p := pE m f s) hn
    have hnext : ∀ w3, TlI w w3 → (∀ u, u < N → u ≠ s → mTl w3 u = mTl w1 u) → mTl w3 s = ((tv (pE m f s) (n + 1) : Nat) : Int) → Ev (d + 3) 36 (MtQ w t m N f) 46 [rA 37, (0, ((n + 1 : Nat) : Int)), (0, (s : Int) + 1)] [] (enc w3 t) := fun w3 a1 a2 a3 => by
      rw [show ((s : Int) + 1) = ((s + 1 : Nat) : Int) by omega]
      refine ih (s + 1) w3 (by omega) a1 (fun u hu => ?_)
      by_cases h9 : u = s
      · rw [h9, if_pos (by omega)]; exact a3
      · rw [a2 u hu h9, hm u hu]
        by_cases h8 : u < s
        · rw [if_pos h8, if_pos (by omega)]
        · rw [if_neg h8, if_neg (by omega)]
    have hb1 : BdM w1 m N f D (16 * N) := hb.cg (fun j => by rw [e37, e6])
    refine g_mt3 ?_
    rw [rg.2.1, w32_id (x := (N : Int)) (by omega), w32_id (x := (s : Int)) (by omega), w32_id (x := ((n + 1 : Nat) : Int)) (by omega), Int.toNat_natCast]
    show (_ → _) ∧ (_ → (_ ∧ _ ∧ _) ∧ ((w32 (mTl w1 s) ≤ _ → _) ∧ (¬ (w32 (mTl w1 s) ≤ _) → _)))
    rw [hms, w32_id (x := ((tv (pE m f s) n : Nat) : Int)) (by omega)]
    refine ⟨fun h9 => by omega, fun _ => ⟨⟨k5, by omega, by omega⟩, fun h9 => ?_, fun h9 => ?_⟩⟩
    · exact hnext w1 ht (fun _ _ _ => rfl) (by rw [t1 (by omega)]; exact hms)
    · obtain ⟨t3, t4, t5⟩ := t2 (by omega)
      rw [show (((n + 1 : Nat) : Int) - 1) = (n : Int) by omega]
      refine ((c_ltt (d := d) rg (by omega) (fun p hp => arcR hb1 (by omega) hp) (fun u hu => ?_) (by omega)).up (by omega)).mono ?_
      · have := tv_le (pE m f u) (n := if u < s then n + 1 else n) (by split <;> omega)
        rw [hm u hu]; omega
      · rintro _ _ ⟨rfl, rfl⟩
        refine ⟨fun _ h8 => (by cases h8), ?_⟩
        rw [lead h.1.2.2.1 h.1.2.2.2 hb1 (by omega) (fun u hu => ?_) t3]
        · refine g_mt3b ?_
          cases h8 : pE m f s (n + 1)
          · refine ⟨fun _ => ?_, fun h7 => absurd (by decide) h7⟩
            exact hnext w1 ht (fun _ _ _ => rfl) (by rw [t5, h8, hms, t4]; rfl)
          · refine ⟨fun h7 => absurd h7 (by decide), fun _ => ⟨⟨k5, by rw [w32_id (by omega)]; omega, by rw [w32_id (by omega)]; omega⟩, ?_⟩⟩
            rw [w32_id (x := (s : Int)) (by omega), Int.toNat_natCast]
            obtain ⟨c1, c2⟩ := tl_wu ht e37 (by rw [← e37]; exact x5.n.1.1.symm) s ((n + 1 : Nat) : Int)
            exact hnext _ c1 (fun u _ h6 => by rw [c2 u, if_neg h6]) (by rw [c2 s, if_pos rfl, t5, h8, if_pos rfl])
        · rw [hm u hu]
          have := tv_is (p := pE m f u) (n := if u < s then n + 1 else n) (k := n) (by split <;> omega) (by split <;> omega)
          rw [← this]
          omega
theorem mt_out {d : Nat} {w : eW} {t : eT} {m : eW} {b : Nat × Nat} {N : Nat} {f : Nat → t3} {D : Nat → Nat} (h : SoI w m t b N f D) (hb : BdM w m N f D (16 * N)) : ∀ (k n : Nat) (w1 : eW) (J : aV), n + k = 6 → TlI w w1 → (∀ u, u < N → mTl w1 u = ((tv (pE m f u) n : Nat) : Int)) → Ev (d + 3) 36 (MtQ w t m N f) 38 [rA 37, (0, ((n + 1 : Nat) : Int)), J] [] (enc w1 t) := by
  intro k
  induction k with
  | zero =>
    intro n w1 J hn ht hm
    have : n = 6 := by omega
    subst this
    refine g_mt2 ⟨fun _ => ⟨w1, rfl, rfl, ht, fun s hs => ?_⟩, fun h9 => absurd (by decide) h9⟩
    rw [hm s hs, tv_6]
  | succ k ih =>
    intro n w1 J hn ht hm
    refine g_mt2 ?_
    rw [w32_id (x := 6) (by omega), w32_id (x := ((n + 1 : Nat) : Int)) (by omega)]
    refine ⟨fun h9 => by omega, fun _ => ?_⟩
    refine mt_in h hb n (by omega) (fun w2 J2 a1 a2 => ih (n + 1) w2 J2 (by omega) a1 a2) N 0 w1 (by omega) ht (fun u hu => ?_)
    rw [if_neg (by omega)]
    exact hm u hu
theorem c_mt {d : Nat} {w : eW} {t : eT} {m : eW} {b : Nat × Nat} {N : Nat} {f : Nat → t3} {D : Nat → Nat} (h : SoI w m t b N f D) (hb : BdM w m N f D (16 * N)) : Cl (d + 3) 36 [rA 37] (enc w t) (MtQ w t m N f) := by
  refine g_mt0 ?_
  suffices hk : ∀ (k s : Nat) (w1 : eW) (J : aV), s + k = N → TlI w w1 → (∀ u, u < s → mTl w1 u = ((tv (pE m f u) 0 : Nat) : Int)) → Ev (d + 3) 36 (MtQ w t m N f) 2 [rA 37, (0, (s : Int)), J] [] (enc w1 t) from hk N 0 w _ (by omega) (fun _ _ => rfl) (fun u hu => by omega)
  intro k
  induction k with
  | zero =>
    intro s w1 J hs ht hm
    have rg := ((h.tl ht).1).rg
    obtain ⟨_, _, ⟨R, hR, _, _, _, _, ⟨k5, l5⟩, _⟩, _⟩ := rg.1
    refine g_mt1 (Int.le_of_lt k5.1) ?_
    rw [rg.2.1, show (s : Int) = (N : Int) by omega]
    refine ⟨fun _ => ?_, fun h9 => absurd (Int.le_refl _) h9⟩
    exact mt_out h hb 6 0 w1 J (by omega) ht (fun u hu => hm u (by omega))
  | succ k ih =>
    intro s w1 J hs ht hm
    obtain ⟨h1, fr, e37, e6⟩ := h.tl ht
    have rg := h1.rg
    have hl := h1.2.2.2.1
    have x5 := h1.2.2.1.1.ds.2.2.2.2.2.1
    obtain ⟨_, _, ⟨R, hR, ⟨k1, l1⟩, _, _, _, ⟨k5, l5⟩, _⟩, _⟩ := h1.2.2.1.1
    rw [l1] at hl
    have hNl := rg.2.2.2
    refine g_mt1 (Int.le_of_lt k5.1) ?_
    rw [rg.2.1, w32_id (x := (N : Int)) (by omega), w32_id (x := (s : Int)) (by omega)]
    refine ⟨fun h9 => by omega, fun _ => ?_⟩
    refine ((c_meU (d := d) (m := m) (f s) ⟨⟨by rw [rg.2.1, Int.toNat_natCast]; exact rg, by omega, by rw [rg.2.1]; omega⟩, by rw [Int.toNat_natCast]; exact (h1.2.1.2.1 s (by omega)).1⟩).up (by omega)).mono ?_
    rintro _ _ ⟨x, rfl, rfl, rfl⟩
    refine ⟨fun _ h8 => (by cases h8), ?_⟩
    refine g_mt1b (A := w1 37 5) ?_
    rw [w32_id (x := (s : Int)) (by omega), Int.toNat_natCast]
    have hnext : ∀ v : Int, v = ((tv (pE m f s) 0 : Nat) : Int) → Ev (d + 3) 36 (MtQ w t m N f) 2 [rA 37, (0, (s : Int) + 1), J] [] (enc (wu w1 (w1 37 5).toNat s v) t) := fun v hv => by
      obtain ⟨c1, c2⟩ := tl_wu ht e37 (by rw [← e37]; exact x5.n.1.1.symm) s v
      rw [show ((s : Int) + 1) = ((s + 1 : Nat) : Int) by omega]
      refine ih (s + 1) _ J (by omega) c1 (fun u hu => ?_)
      rw [c2 u]
      by_cases h9 : u = s
      · rw [if_pos h9, h9]; exact hv
      · rw [if_neg h9]; exact hm u (by omega)
    have e0 : tv (pE m f s) 0 = if pE m f s 0 then 0 else 7 := by
      rcases tv_c (pE m f s) 0 with ⟨q, q1, q2, _, q4⟩ | ⟨q2, q4⟩
      · have : q = 0 := by omega
        subst this
        rw [q4, q2]; rfl
      · rw [q4, q2 0 (by omega)]; rfl
    have e1 : isE m (-1) (f s).1 (f s).2.1 (f s).2.2 = pE m f s 0 := rfl
    rw [e1]
    cases h8 : pE m f s 0
    · refine ⟨fun _ => ⟨⟨k5, by omega, by omega⟩, hnext _ (by rw [e0, h8]; rfl)⟩, fun h7 => absurd (by decide) h7⟩
    · refine ⟨fun h7 => absurd h7 (by decide), fun _ => ⟨⟨k5, by omega, by omega⟩, hnext _ (by rw [e0, h8]; rfl)⟩⟩
theorem bd_out {d : Nat} {w0 : eW} {t0 : eT} {m : eW} {b : Nat × Nat} : ∀ (k S : Nat) (w : eW) (t : eT) (N : Nat) (f : Nat → t3) (D : Nat → Nat) (J J2 J3 : aV), S + k = 4370 → SoI w m t b N f D → FrS w0 t0 w t → BdM w m N f D (16 * S) → S ≤ N → Ev (d + 5) 33 (BdE w0 t0 m b) 31 [rA 37, rA 15, (0, (S : Int)), J, J2, J3] [] (enc w t) := by
  intro k
  induction k with
  | zero =>
    intro S w t N f D J J2 J3 hk h _ _ hS
    have := h.rg.2.2.2
    omega
  | succ k ih =>
    intro S w t N f D J J2 J3 hk h hf hb hS
    have rg := h.rg
    have hNl := rg.2.2.2
    refine g_bd1 (m := m) ?_
    rw [rg.2.1, w32_id (x := (N : Int)) (by omega), w32_id (x := (S : Int)) (by omega), w32_id (x := (4369 : Int)) (by omega), Int.toNat_natCast, Int.toNat_natCast]
    refine ⟨fun h9 => ?_, fun h9 => ⟨fun h8 => by omega, fun _ => ⟨⟨rg, by omega, by omega⟩, ?_⟩⟩⟩
    · have : S = N := by omega
      rw [this] at hb
      refine ((c_mt (d := d) h hb).up (by omega)).mono ?_
      rintro _ _ ⟨w2, rfl, rfl, a1, a2⟩
      refine ⟨fun _ h8 => (by cases h8), g_bd1b (m := m) ?_⟩
      obtain ⟨h1, fr, e37, e6⟩ := h.tl a1
      exact ⟨w2, t, N, f, D, rfl, rfl, h1, hf.tr fr, hb.cg (fun j => by rw [e37, e6]), a2⟩
    · rintro x1 rfl
      refine bd_in S (fun w2 t2 N2 f2 D2 J4 J5 J6 c1 c2 c3 c4 => ih (S + 1) w2 t2 N2 f2 D2 J4 J5 J6 (by omega) c1 c2 c3 c4) 16 0 w t N f D J3 (by omega) h hf hb (by omega) ?_
      rw [(h.2.1.2.1 S (by omega)).1]
      exact ky_mf
def bdW (w : eW) : eW := wfl (wu (wu w 37 8 0) 37 7 0) 38 64 (-1)
theorem c_bd {d : Nat} {w : eW} {t : eT} {m : eW} {b : Nat × Nat} (hI : LN w m ∧ RC w m ∧ WFp m ∧ WFr m) (hd : DB w t b) : Cl (d + 5) 33 [rA 37, rA 15] (enc w t) (BdE (bdW w) t m b) := by
  have ds := hd.1.ds
  obtain ⟨_, x1, x2, x3, x4, x5, x6, x7, x8⟩ := ds
  have ef : ∀ a, a ≠ 37 → a ≠ 38 → bdW w a = w a := fun a h1 h2 => by
    unfold bdW
    rw [wfl_na h2, wu_row h1, wu_row h1]
  have e37 : ∀ k, k ≠ 7 → k ≠ 8 → bdW w 37 k = w 37 k := fun k h1 h2 => by
    unfold bdW
    rw [wfl_na (by decide), wu_nk _ _ h1, wu_nk _ _ h2]
  have lo : Lo w (bdW w) := fun a ha => ef a (by omega) (by omega)
  have e7 : bdW w 37 7 = 0 := by unfold bdW; rw [wfl_na (by decide), wu_eq]
  have hS : SoI (bdW w) m t b 0 (fun _ => (16, 16, 16)) (fun _ => 0) := by
    refine ⟨⟨hI.1.lo lo, hI.2.1.lo lo, hI.2.2⟩, ⟨e7, fun s hs => by omega, fun h hh => ?_⟩, hd.cg (fun k h1 h2 => e37 k (by omega) (by omega)) (ef 45 (by omega) (by omega)) (ef _ ?_ ?_), Nat.zero_le _, fun s hs => by omega, fun i j hi => by omega⟩
    · unfold bdW lsB
      rw [wfl_at hh]
    · exact x7.n.1.1.symm
    · exact x7.n.1.2.1.symm
  refine g_bd0 (m := m) ⟨by unfold fxA; decide +kernel, ⟨hS.1.1, hI.2.2⟩, ?_⟩
  refine ((c_so (d := d) (z := 0) (g := (16, 16, 16)) hS (tri_start m) (Nat.le_refl _) rfl).up (by omega)).mono ?_
  rintro _ _ ⟨y, w2, t2, rfl, rfl, hq⟩
  refine ⟨fun _ h8 => (by cases h8), g_bd0b (m := m) ?_⟩
  rcases hq with ⟨z0, _⟩ | ⟨z0, ⟨s2, z1, _⟩, _⟩ | ⟨z0, rfl, z1, z2, z3, z4⟩
  · exact absurd z0 (mf_start hI.2.2.1 hI.2.2.2)
  · omega
  · refine bd_out 4370 0 w2 t2 1 _ _ _ _ _ (by omega) z2 z3 ⟨⟨fUp_n, dU_n, Nat.le_refl _⟩, fun i j h1 h2 => ?_, fun _ u hu => ?_, fun u hu => ?_, fun u hu h0 => by omega, fun j hj => by omega⟩ (by omega)
    · rw [show j = 0 by omega, show i = 0 by omega]; exact Nat.le_refl _
    · rw [show u = 0 by omega]; exact Nat.le_succ _
    · rw [show u = 0 by omega, dU_n]; exact Nat.le_refl _
theorem bd_MaC {w m : eW} {t : eT} {b : Nat × Nat} {N : Nat} {f : Nat → t3} {D : Nat → Nat} (h : SoI w m t b N f D) (hb : BdM w m N f D (16 * N)) (ht : ∀ s, s < N → mTl w s = ((fsN (pE m f s) 7 0 : Nat) : Int)) : MaC w m := by
  have rg := h.rg
  obtain ⟨m1, m2, m3⟩ := h.2.1
  have hn : mN w = N := by unfold mN; rw [m1, Int.toNat_natCast]
  obtain ⟨⟨b0, b01, b02⟩, b2, b3, b4, b5, b6⟩ := id hb
  have s0 := m2 0 (by omega)
  refine ⟨⟨by omega, by rw [hn]; exact m1, ?_⟩, ?_, fun s hs => ?_, fun s hs => ?_⟩
  · rw [s0.1, b0]; rfl
  · rw [s0.2.2.1, b01]; rfl
  · rw [hn] at hs ⊢
    have ms := m2 s hs
    refine ⟨(f s).1, (f s).2.1, (f s).2.2, h.2.2.2.2.1 s hs, ms.1, fun d hd => ?_, ht s hs⟩
    have ha := arcA hb hs hd
    show if (mfG m (f s)).testBit d then (if mfG m (gN (f s) d) = 0 then _ else _) else _
    by_cases h1 : (mfG m (f s)).testBit d = true
    · rw [if_pos h1] at ha ⊢
      by_cases h2 : mfG m (gN (f s) d) = 0
      · rw [if_pos h2] at ha ⊢; exact ha
      · rw [if_neg h2] at ha ⊢
        obtain ⟨s2, a1, a2, a3, a4⟩ := ha
        refine ⟨s2, a1, a2, ?_, ?_⟩
        · rw [(m2 s2 a1).1, a3]; rfl
        · rw [(m2 s2 a1).2.2.1, ms.2.2.1]; omega
    · rw [if_neg h1] at ha ⊢; exact ha
  · rw [hn] at hs ⊢
    have ms := m2 s hs
    have := b4 s hs
    have := rg.2.2.2
    refine ⟨by rw [ms.2.2.1]; omega, by rw [ms.2.2.1]; omega, fun h0 => ?_⟩
    obtain ⟨j, j1, j2, j3⟩ := b5 s hs h0
    refine ⟨j / 16, j % 16, by omega, by omega, ?_, ?_⟩
    · unfold mA
      rw [show 16 * (j / 16) + j % 16 = j by omega]; exact j2
    · rw [ms.2.2.1, (m2 (j / 16) (by omega)).2.2.1, j3]; omega
