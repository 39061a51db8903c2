/-! The class: stateOf (4). -/

theorem dyX.n {A : Nat} (h : dyX A) : (37 ≠ A ∧ 38 ≠ A ∧ 45 ≠ A) ∧ ∀ a, (a < 37 ∨ (47 < a ∧ a < 102)) → a ≠ A := by
  unfold dyX at h
  exact ⟨⟨by omega, by omega, by omega⟩, fun a ha => by omega⟩
theorem wF_look {w : eW} {N K T D L : Nat} {k x z : Int} {bk : Nat} (a1 : K ≠ L) (a2 : K ≠ T) (a3 : K ≠ D) (a4 : L ≠ T) (a5 : L ≠ D) (a6 : T ≠ D) (hK : 37 ≠ K ∧ 38 ≠ K) (hL : 37 ≠ L ∧ 38 ≠ L) (hT : 37 ≠ T ∧ 38 ≠ T) (hD : 37 ≠ D ∧ 38 ≠ D) : (∀ j, j ≠ 7 → wF w N K T D L k x z bk 37 j = w 37 j) ∧ wF w N K T D L k x z bk 37 7 = ((N + 1 : Nat) : Int) ∧ (∀ j, wF w N K T D L k x z bk 38 j = if j = bk then (N : Int) else w 38 j) ∧ (∀ s, wF w N K T D L k x z bk K s = if s = N then k else w K s) ∧ (∀ s, wF w N K T D L k x z bk T s = if s = N then x else w T s) ∧ (∀ s, wF w N K T D L k x z bk D s = if s = N then z else w D s) ∧ ∀ s, wF w N K T D L k x z bk L s = if s = N then w 38 bk else w L s := by
  unfold wF
  have n1 : (37 : Nat) ≠ 38 := by decide
  have n2 : (38 : Nat) ≠ 37 := by decide
  refine ⟨fun j hj => ?_, ?_, fun j => ?_, fun s => ?_, fun s => ?_, fun s => ?_, fun s => ?_⟩
  · rw [wu_nk _ _ hj, wu_row n1, wu_row hL.1, wu_row hD.1, wu_row hT.1, wu_row hK.1]
  · rw [wu_eq]; omega
  · rw [wu_row n2, wu_at, wu_row hL.2, wu_row hD.2, wu_row hT.2, wu_row hK.2]
  · rw [wu_row hK.1.symm, wu_row hK.2.symm, wu_row a1, wu_row a3, wu_row a2, wu_at]
  · rw [wu_row hT.1.symm, wu_row hT.2.symm, wu_row a4.symm, wu_row a6, wu_at, wu_row a2.symm]
  · rw [wu_row hD.1.symm, wu_row hD.2.symm, wu_row a5.symm, wu_at, wu_row a6.symm, wu_row a3.symm]
  · rw [wu_row hL.1.symm, wu_row hL.2.symm, wu_at, wu_row a5, wu_row a4, wu_row a1.symm]
theorem app_ok {N : Nat} {w : eW} {t : eT} {b : Nat × Nat} {m : eW} {f : Nat → t3} {D : Nat → Nat} {g : t3} {k x : Int} {z bk : Nat} (h : DB w t b) (hm : MB w m N f D) (hk : k = ((kyG m g : Nat) : Int)) (hx : x = ((trG m g : Nat) : Int)) (hb : bkF k = (bk : Int)) (hb2 : bk < 64) {w2 : eW} (hw : w2 = wF w N (w 37 1).toNat (w 37 3).toNat (w 37 4).toNat (w 37 2).toNat k x (z : Int) bk) : DB w2 t b ∧ MB w2 m (N + 1) (fUp f N g) (dU D N z) ∧ FrS w t w2 t ∧ (∀ j, 1 ≤ j → j ≤ 6 → w2 37 j = w 37 j) ∧ w2 (w 37 6).toNat = w (w 37 6).toNat := by
  have ds := h.1.ds
  obtain ⟨⟨⟨p1, p2, p3, p4, p5, p6, p7⟩, ⟨q1, q2, q3, q4, q5, q6⟩, ⟨r1, r2, r3, r4, r5⟩, ⟨s1, s2, s3, s4⟩, _⟩, x1, x2, x3, x4, x5, x6, x7, x8⟩ := ds
  replace x1 := x1.n
  replace x2 := x2.n
  replace x3 := x3.n
  replace x4 := x4.n
  replace x6 := x6.n
  replace x7 := x7.n
  replace x8 := x8.n
  clear x5
  obtain ⟨m1, m2, m3⟩ := hm
  obtain ⟨e37, e7, e38, eK, eT, eD, eL⟩ := wF_look (w := w) (N := N) (k := k) (x := x) (z := (z : Int)) (bk := bk) p1 p2 p3 q1 q2 r1 ⟨x1.1.1, x1.1.2.1⟩ ⟨x2.1.1, x2.1.2.1⟩ ⟨x3.1.1, x3.1.2.1⟩ ⟨x4.1.1, x4.1.2.1⟩
  rw [← hw] at e37 e7 e38 eK eT eD eL
  have rw' : ∀ a, a ≠ (w 37 1).toNat → a ≠ (w 37 3).toNat → a ≠ (w 37 4).toNat → a ≠ (w 37 2).toNat → a ≠ 38 → a ≠ 37 → w2 a = w a := fun a h1 h2 h3 h4 h5 h6 => by
    rw [hw]; exact wF_row h1 h2 h3 h4 h5 h6
  have e45 : w2 45 = w 45 := rw' 45 x1.1.2.2 x3.1.2.2 x4.1.2.2 x2.1.2.2 (by decide) (by decide)
  have e450 : w2 (w 45 0).toNat = w (w 45 0).toNat := rw' _ (Ne.symm p6) (Ne.symm r4) (Ne.symm s3) (Ne.symm q5) x7.1.2.1.symm x7.1.1.symm
  have e451 : w2 (w 45 1).toNat = w (w 45 1).toNat := rw' _ (Ne.symm p7) (Ne.symm r5) (Ne.symm s4) (Ne.symm q6) x8.1.2.1.symm x8.1.1.symm
  have e6 : w2 (w 37 6).toNat = w (w 37 6).toNat := rw' _ (Ne.symm p5) (Ne.symm r3) (Ne.symm s2) (Ne.symm q4) x6.1.2.1.symm x6.1.1.symm
  have lo : Lo w w2 := fun a ha => rw' a (x1.2 a ha) (x3.2 a ha) (x4.2 a ha) (x2.2 a ha) (by omega) (by omega)
  clear rw' hw x1 x2 x3 x4 x6 x7 x8
  have hbk : bkS m (fUp f N g) N = (bk : Int) := by unfold bkS; rw [fUp_n, ← hk]; exact hb
  have hbo : ∀ u, u < N → bkS m (fUp f N g) u = bkS m f u := fun u hu => by unfold bkS; rw [fUp_o (by omega)]
  refine ⟨h.cg (fun j h1 h2 => e37 j (by omega)) e45 e450, ⟨e7, fun s hs => ?_, fun h9 hh => ?_⟩, FrS.cg lo e45 e450 e451 (e37 8 (by decide)), fun j h1 h2 => e37 j (by omega), e6⟩
  · unfold mK mT mD mL
    rw [e37 1 (by decide), e37 2 (by decide), e37 3 (by decide), e37 4 (by decide), eK s, eT s, eD s, eL s]
    by_cases h1 : s = N
    · rw [if_pos h1, if_pos h1, if_pos h1, if_pos h1, h1, fUp_n, dU_n, hbk, lsB_c _ N hbo]
      exact ⟨hk, hx, rfl, m3 bk hb2⟩
    · rw [if_neg h1, if_neg h1, if_neg h1, if_neg h1, fUp_o h1, dU_o h1, hbo s (by omega), lsB_c _ s (fun u hu => hbo u (by omega))]
      exact m2 s (by omega)
  · rw [e38 h9]
    unfold lsB
    rw [hbk, lsB_c _ N hbo]
    by_cases h1 : h9 = bk
    · rw [if_pos h1, if_pos (by omega)]
    · rw [if_neg h1, if_neg (by omega)]; exact m3 h9 hh
def SoI (w m : eW) (t : eT) (b : Nat × Nat) (N : Nat) (f : Nat → t3) (D : Nat → Nat) : Prop := (LN w m ∧ RC w m ∧ WFp m ∧ WFr m) ∧ MB w m N f D ∧ DB w t b ∧ N ≤ dyL t (w 37 1) ∧ KDi m N f
/-- what stateOf leaves -/
def SoQ (m : eW) (b : Nat × Nat) (N : Nat) (f : Nat → t3) (D : Nat → Nat) (g : t3) (z : Nat) (w : eW) (t : eT) (y : Int) (w2 : eW) (t2 : eT) : Prop := (mfG m g = 0 ∧ y = -1 ∧ w2 = w ∧ t2 = t) ∨ (mfG m g ≠ 0 ∧ (∃ s : Nat, s < N ∧ y = (s : Int) ∧ kyG m (f s) = kyG m g) ∧ w2 = w ∧ t2 = t) ∨ (mfG m g ≠ 0 ∧ y = (N : Int) ∧ (∀ s, s < N → kyG m (f s) ≠ kyG m g) ∧ SoI w2 m t2 b (N + 1) (fUp f N g) (dU D N z) ∧ FrS w t w2 t2 ∧ ∀ j, j < 16 * N → w2 (w2 37 6).toNat j = w (w 37 6).toNat j)
theorem so_app {d : Nat} {w : eW} {t : eT} {x y k s i : Int} {m : eW} {b : Nat × Nat} {N : Nat} {f : Nat → t3} {D : Nat → Nat} {g : t3} {z : Nat} (h : SoI w m t b N f D) (hg : triG m g) (hk : k = ((kyG m g : Nat) : Int)) (hx : x = ((trG m g : Nat) : Int)) (h0 : mfG m g ≠ 0) (hn : ∀ s, s < N → kyG m (f s) ≠ kyG m g) : Ev (d + 3) 34 (fun r S2 => ∃ y w2 t2, r = some (0, y) ∧ S2 = enc w2 t2 ∧ SoQ m b N f D g z w t y w2 t2) 130 [rA 37, rA 15, (0, x), (0, (z : Int)), (0, y), (1, k), (9, 0), (0, bkF k), (0, s), (0, i)] [] (enc w t) := by
  obtain ⟨⟨hL, hC, hp, hr⟩, hm, hd, hl, hK⟩ := h
  have hK2 := hK.up hg hn
  have hN := hK2.le hp
  have b1 := bkF_b k
  refine g_so3 (m := m) ⟨fun _ => ?_, fun h9 => ?_⟩
  · refine (c_mr (d := d) hd.1 hd.2.1 hm.1 hl (by omega)).mono ?_
    rintro _ _ ⟨w2, t2, rfl, rfl, hq, d2, r2, hl2⟩
    refine ⟨fun _ h9 => (by cases h9), ?_⟩
    obtain ⟨o1, o2, o3⟩ := mr_ok hd hm hq d2 r2
    refine so_run m d2 o2.1 hl2 (by omega) ⟨b1.1, b1.2⟩ ?_
    obtain ⟨c1, c2, c3, c4, c5⟩ := app_ok (z := z) (bk := (bkF k).toNat) o1 o2 hk hx (by omega) (by omega) rfl
    generalize wF w2 N (w2 37 1).toNat (w2 37 3).toNat (w2 37 4).toNat (w2 37 2).toNat k x (z : Int) (bkF k).toNat = w3 at *
    refine ⟨_, w3, t2, rfl, rfl, Or.inr (Or.inr ⟨h0, rfl, hn, ⟨⟨(hL.lo o3.1).lo c3.1, (hC.lo o3.1).lo c3.1, hp, hr⟩, c2, c1, ?_, hK2⟩, o3.tr c3, fun j hj => ?_⟩)⟩
    · rw [c4 1 (by omega) (by omega)]; omega
    · rw [c4 6 (by omega) (by omega), c5]
      exact hq.2.2.2.1 j hj
  · rw [hm.1, w32_id (by omega), w32_id (by omega)] at h9
    omega
theorem so_loop {d : Nat} {w : eW} {t : eT} {x y k : Int} {m : eW} {b : Nat × Nat} {N : Nat} {f : Nat → t3} {D : Nat → Nat} {g : t3} {z : Nat} (h : SoI w m t b N f D) (hg : triG m g) (hk : k = ((kyG m g : Nat) : Int)) (hx : x = ((trG m g : Nat) : Int)) (h0 : mfG m g ≠ 0) : ∀ (B n i : Nat), n < B → n ≤ N → i + n ≤ N → (∀ u, n ≤ u → u < N → kyG m (f u) ≠ kyG m g) → Ev (d + 3) 34 (fun r S2 => ∃ y w2 t2, r = some (0, y) ∧ S2 = enc w2 t2 ∧ SoQ m b N f D g z w t y w2 t2) 84 [rA 37, rA 15, (0, x), (0, (z : Int)), (0, y), (1, k), (9, 0), (0, bkF k), (0, lsB (bkS m f) n (bkF k)), (0, (i : Int))] [] (enc w t) := by
  intro B
  induction B with
  | zero => intro n i h1; omega
  | succ B ih =>
    intro n i h1 h2 h3 hn
    have hle := h.2.2.2.2.le h.1.2.2.1
    have lb := lsB_b (bkS m f) (bkF k) n
    have hkb : ∀ g : t3, kyG m g < 9000000000 := fun g => by
      have a1 : nxB m g.2.1 g.2.2 < 256 := bts8 _ h.1.2.2.2
      have a2 : frB m g.2.2 < 256 := bts8 _ h.1.2.2.2
      have a3 := mfB_lt m g.1 g.2.1 g.2.2
      unfold kyG kyT
      omega
    have hb : ∀ u, kyG m (f u) = kyG m g → bkS m f u = bkF k := fun u hu => by unfold bkS; rw [hu, hk]
    have ek : ∀ g : t3, w64 ((kyG m g : Nat) : Int) = ((kyG m g : Nat) : Int) := fun g => w64_id (by have := hkb g; omega)
    refine g_so2 (m := m) ?_
    rw [h.2.1.1, w32_id (x := (N : Int)) (by omega), w32_id (x := (i : Int)) (by omega), w32_id (x := lsB (bkS m f) n (bkF k)) (by omega), w32_id (x := (-1 : Int)) (by omega)]
    refine ⟨fun h9 => ?_, fun h9 => ⟨fun h8 => ?_, fun h8 => ?_⟩⟩
    · exact so_app h hg hk hx h0 (fun s hs => hn s (by omega) hs)
    · refine so_app h hg hk hx h0 (fun s hs he => ?_)
      by_cases h7 : n ≤ s
      · exact hn s h7 hs he
      · exact lsB_s (bkS m f) (bkF k) n s (by omega) (by omega) (hb s he)
    · obtain ⟨u, hu⟩ : ∃ u : Nat, lsB (bkS m f) n (bkF k) = (u : Int) := ⟨(lsB (bkS m f) n (bkF k)).toNat, by omega⟩
      rw [hu] at lb ⊢
      rw [Int.toNat_natCast]
      obtain ⟨e1, e2, e3, e4⟩ := h.2.1.2.1 u (by omega)
      obtain ⟨_, _, ⟨R, hR, ⟨k1, l1⟩, ⟨k2, l2⟩, _⟩, _⟩ := h.2.2.1.1
      have hl := h.2.2.2.1
      rw [l1] at hl
      rw [l1, l2]
      refine ⟨⟨k1, by omega, by omega⟩, fun h7 => ⟨⟨k2, by omega, by omega⟩, ?_⟩, fun h7 => ?_⟩
      · have e4 : w (w 37 2).toNat u = _ := e4
        have e1 : w (w 37 1).toNat u = _ := e1
        rw [e1, hk, ek, ek] at h7
        rw [e4, lsB_v (bkS m f) (bkF k) n u hu]
        have := ih u (i + 1) (by omega) (by omega) (by omega) (fun v h5 h6 he => by
          by_cases h4 : n ≤ v
          · exact hn v h4 h6 he
          · by_cases h3 : v = u
            · rw [h3] at he; exact h7 (by rw [he])
            · exact lsB_s (bkS m f) (bkF k) n v (by omega) (by omega) (hb v he))
        rw [show ((i : Int) + 1) = ((i + 1 : Nat) : Int) by omega]
        exact this
      · have e1 : w (w 37 1).toNat u = _ := e1
        rw [e1, hk, ek, ek] at h7
        have h7 : ((kyG m (f u) : Nat) : Int) = ((kyG m g : Nat) : Int) := Classical.not_not.mp h7
        exact ⟨_, w, t, rfl, rfl, Or.inr (Or.inl ⟨h0, ⟨u, by omega, rfl, by omega⟩, rfl, rfl⟩)⟩
theorem c_so {d : Nat} {w : eW} {t : eT} {x : Int} {m : eW} {b : Nat × Nat} {N : Nat} {f : Nat → t3} {D : Nat → Nat} {g : t3} {z : Nat} (h : SoI w m t b N f D) (hg : triG m g) (hg2 : gL g ≤ 16) (hx : x = ((trG m g : Nat) : Int)) : Cl (d + 3) 34 [rA 37, rA 15, (0, x), (0, (z : Int))] (enc w t) (fun r S2 => ∃ y w2 t2, r = some (0, y) ∧ S2 = enc w2 t2 ∧ SoQ m b N f D g z w t y w2 t2) := by
  obtain ⟨e1, e2⟩ := so_key h.1.1 h.1.2.2.2 hx hg2
  have hmf : mfG m g < 131072 := mfB_lt m g.1 g.2.1 g.2.2
  have e3 : w32 ((mfG m g : Nat) : Int) = ((mfG m g : Nat) : Int) := w32_id (by omega)
  refine g_so0 (m := m) ⟨g, ⟨h.1.1, h.1.2.1, h.1.2.2.1, h.1.2.2.2, hx, hg2⟩, ?_⟩
  rintro x2 rfl
  rw [e2, e1, w32_id (x := ((gL g : Nat) : Int)) (by omega), e3]
  refine ⟨fun h9 => ⟨by omega, ?_⟩, fun h9 => ?_⟩
  · have b1 := bkF_b ((kyG m g : Nat) : Int)
    have ew : w32 (bkF ((kyG m g : Nat) : Int)) = bkF ((kyG m g : Nat) : Int) := w32_id (by omega)
    refine g_so1 (m := m) ?_
    show (0 ≤ w32 (bkF ((kyG m g : Nat) : Int)) ∧ w32 (bkF ((kyG m g : Nat) : Int)) < 64) ∧ Ev (d + 3) 34 _ 84 [rA 37, rA 15, (0, x), (0, (z : Int)), (0, ((mfG m g : Nat) : Int)), (1, ((kyG m g : Nat) : Int)), (9, 0), (0, bkF ((kyG m g : Nat) : Int)), (0, w 38 (w32 (bkF ((kyG m g : Nat) : Int))).toNat), (0, 0)] [] (enc w t)
    rw [ew, h.2.1.2.2 _ (by omega)]
    refine ⟨by omega, ?_⟩
    rw [Int.toNat_of_nonneg b1.1]
    exact so_loop h hg rfl hx (by omega) (N + 1) N 0 (by omega) (by omega) (by omega) (fun u h1 h2 => by omega)
  · exact ⟨_, w, t, rfl, rfl, Or.inl ⟨by omega, rfl, rfl, rfl⟩⟩
