/-! The class: twice. -/

theorem tw1_z (L : List Nat) (a : Nat) : ∀ q, (∀ z, a ≤ z → z < a + q → L.count z = 0) → tw1 L (a + q) = tw1 L a := by
  intro q
  induction q with
  | zero => intro _; rfl
  | succ q ih =>
    intro h
    rw [show a + (q + 1) = (a + q) + 1 by omega, tw1_s, h (a + q) (by omega) (by omega), ih (fun z h1 h2 => h z h1 (by omega))]
    rfl
theorem TwB.mo {s : (Nat → Nat) × (Nat → Nat → Nat)} {B C : Nat} (h : TwB s B) (hc : B ≤ C) : TwB s C := ⟨fun g => Nat.le_trans (h.1 g) hc, fun e k => Nat.le_trans (h.2 e k) hc⟩
def tlF (D : Nat) (w w2 : eW) : Prop := Fc [34, 35, 101] [(28, 9), (28, 10)] w w2 ∧ (∀ j, j < 80 * (D + 1) → w2 34 j = w 34 j) ∧ ∀ j, j < 4 * (D + 1) → w2 35 j = w 35 j
theorem tlF.rf (D : Nat) (w : eW) : tlF D w w := ⟨Fc.rf _ _ _, fun _ _ => rfl, fun _ _ => rfl⟩
theorem tlF.tr {D : Nat} {w a b : eW} (h : tlF D w a) (h2 : tlF D a b) : tlF D w b := ⟨h.1.tr h2.1, fun j hj => by rw [h2.2.1 j hj, h.2.1 j hj], fun j hj => by rw [h2.2.2 j hj, h.2.2 j hj]⟩
theorem tlF.up {D : Nat} {w a : eW} (h : tlF (D + 1) w a) : tlF D w a := ⟨h.1, fun j hj => h.2.1 j (by omega), fun j hj => h.2.2 j (by omega)⟩
theorem tlF.of {D : Nat} {w a : eW} (h : gwF D w a) : tlF D w a := ⟨h.1.mo (by decide) (by decide), h.2⟩
theorem TwD.tl {w w2 m : eW} {D : Nat} {s : (Nat → Nat) × (Nat → Nat → Nat)} (h : TwD w m D s) (he : WFe m) (hf : tlF D w w2) : TwD w2 m D s := by
  have hn := he.nE16
  refine ⟨fun g hg => by rw [hf.2.2 _ (by omega)]; exact h.1 g hg, fun e k h1 h2 => ?_⟩
  have := (he.fm h1).2.1
  rw [hf.2.1 _ (by omega)]
  exact h.2 e k h1 h2
theorem XC.tl {w w2 m : eW} {D : Nat} (h : XC w m) (hf : tlF D w w2) : XC w2 m := h.fc hf.1 (by decide) (by decide)
theorem c_tl28 {d n : Nat} {m : eW} {L : List Nat} (he : WFe m) (hn : n ≤ 4) : ∀ (r D y : Nat) (s : (Nat → Nat) × (Nat → Nat → Nat)) (w : eW) (t : eT), D + (r + 1) = n → XC w m → TwD w m D s → TwB s (16 ^ D) → (∀ z, z / 27 ^ (r + 1) = y → L.count z = tT m s (dg (r + 1) z)) → y < 27 ^ D → w 28 9 = ((tw1 L (y * 27 ^ (r + 1))).1 : Int) → w 28 10 = ((tw1 L (y * 27 ^ (r + 1))).2 : Int) → Cl (d + r + 2) 28 [rA 28, (0, (D : Int)), (0, (n : Int))] (enc w t) (fun q S2 => ∃ w2, q = none ∧ S2 = enc w2 t ∧ tlF D w w2 ∧ w2 28 9 = ((tw1 L ((y + 1) * 27 ^ (r + 1))).1 : Int) ∧ w2 28 10 = ((tw1 L ((y + 1) * 27 ^ (r + 1))).2 : Int)) := by
  intro r
  induction r with
  | zero =>
    intro D y s w t hD hX hT hB hc hy h9 h10
    have hp : 16 ^ D ≤ 65536 := Nat.le_trans (Nat.pow_le_pow_right (n := 16) (j := 4) (by decide) (by omega)) (by decide)
    have hp2 : 27 ^ D ≤ 19683 := Nat.le_trans (Nat.pow_le_pow_right (n := 27) (j := 3) (by decide) (by omega)) (by decide)
    have e27 : (27 : Nat) ^ (0 + 1) = 27 := rfl
    rw [e27, show y * 27 = 27 * y by omega] at h9 h10
    rw [e27, show (y + 1) * 27 = 27 * y + 27 by omega]
    have hcc : ∀ c, c < 27 → L.count (27 * y + c) = tT m (nxs m s c) [] := fun c hc27 => by
      rw [hc (27 * y + c) (by rw [e27]; omega), ← tT_s he]
      show tT m s [(27 * y + c) / 27 ^ 0 % 27] = tT m s [c]
      rw [show (27 * y + c) / 27 ^ 0 % 27 = c by rw [Nat.pow_zero, Nat.div_one]; omega]
    refine g_tl0 (d := d + 0 + 1) (m := m) ⟨fun _ => ?_, fun h8 => absurd (by rw [w32_id (by omega), w32_id (by omega)]; omega) h8⟩
    refine (c_wl29 (d := d) hX he hT (hB.mo hp) (by omega) (by omega) hcc h9 h10).mono ?_
    rintro q S2 ⟨w2, rfl, rfl, f, e1, e2⟩
    refine ⟨fun _ h8 => (by cases h8), g_tl2 (m := m) ⟨w2, rfl, rfl, ⟨f.mo (by decide) (by decide), fun j _ => by rw [f.row (a := 34) (by decide) (by decide)], fun j _ => by rw [f.row (a := 35) (by decide) (by decide)]⟩, e1, e2⟩⟩
  | succ r ih =>
    intro D y s w t hD hX hT hB hc hy h9 h10
    have hp : 16 ^ D ≤ 65536 := Nat.le_trans (Nat.pow_le_pow_right (n := 16) (j := 4) (by decide) (by omega)) (by decide)
    refine g_tl0 (d := d + (r + 1) + 1) (m := m) ⟨fun h8 => absurd h8 (by rw [w32_id (by omega), w32_id (by omega)]; omega), fun _ => ⟨fun _ => ?_, fun h8 => absurd (by rw [w32_id (by omega), w32_id (by omega)]; omega) h8⟩⟩
    refine (c_lb30 (d := d + (r + 1)) hX he hT (hB.mo hp) (by omega)).mono ?_
    rintro q S2 ⟨Y, rfl, rfl, hY⟩
    refine ⟨fun _ h8 => (by cases h8), ?_⟩
    have hYb := hY.1
    have e1 : (y + 1) * 27 ^ (r + 1 + 1) = (27 * y + 27) * 27 ^ (r + 1) := by rw [Nat.pow_succ 27 (r + 1), show 27 * y + 27 = (y + 1) * 27 by omega, Nat.mul_assoc, Nat.mul_comm 27]
    have e0 : y * 27 ^ (r + 1 + 1) = (27 * y + 0) * 27 ^ (r + 1) := by
      show y * 27 ^ (r + 1 + 1) = 27 * y * 27 ^ (r + 1)
      rw [Nat.pow_succ 27 (r + 1), Nat.mul_comm (27 ^ (r + 1)) 27, ← Nat.mul_assoc, Nat.mul_comm y 27]
    rw [e0] at h9 h10
    rw [e1]
    refine g_tl3 (m := m) ?_
    refine lq1 (σ := eW) (fun c w1 => Ev (d + (r + 1) + 1 + 1) 28 (fun q S2 => ∃ w2, q = none ∧ S2 = enc w2 t ∧ tlF D w w2 ∧ w2 28 9 = ((tw1 L ((27 * y + 27) * 27 ^ (r + 1))).1 : Int) ∧ w2 28 10 = ((tw1 L ((27 * y + 27) * 27 ^ (r + 1))).2 : Int)) 29 [rA 28, (0, (D : Int)), (0, (n : Int)), (0, (Y : Int)), (0, (c : Int) + 1)] [] (enc w1 t)) (fun c w1 => tlF D w w1 ∧ w1 28 9 = ((tw1 L ((27 * y + c) * 27 ^ (r + 1))).1 : Int) ∧ w1 28 10 = ((tw1 L ((27 * y + c) * 27 ^ (r + 1))).2 : Int)) 27 ?_ ?_ 0 w (Nat.zero_le _) ⟨tlF.rf _ _, h9, h10⟩
    · rintro c w1 hc27 ⟨f1, g9, g10⟩ hE
      have hdv : ∀ z, z / 27 ^ (r + 1) = 27 * y + c → L.count z = tT m (nxs m s c) (dg (r + 1) z) := by
        intro z hz
        rw [hc z (by rw [Nat.pow_succ 27 (r + 1), ← Nat.div_div_eq_div_mul, hz]; omega), ← tT_s he]
        show tT m s ((z / 27 ^ (r + 1) % 27) :: dg (r + 1) z) = _
        rw [hz, show (27 * y + c) % 27 = c by omega]
      refine g_tl1 (m := m) ⟨fun h8 => absurd h8 (by rw [w32_id (by omega), w32_id (by omega)]; omega), fun _ => ?_⟩
      rw [show (c : Int) + 1 = ((c + 1 : Nat) : Int) from rfl, bb_i (by omega) (by omega)]
      cases hb : Y.testBit (c + 1) with
      | false =>
        refine ⟨fun _ => hE w1 ⟨f1, ?_⟩, fun h8 => absurd rfl h8⟩
        have e2 : (27 * y + (c + 1)) * 27 ^ (r + 1) = (27 * y + c) * 27 ^ (r + 1) + 27 ^ (r + 1) := by rw [show 27 * y + (c + 1) = 27 * y + c + 1 by omega, Nat.succ_mul]
        rw [e2, tw1_z L _ (27 ^ (r + 1)) (fun z h1 h2 => by
          rw [hdv z (Nat.div_eq_of_lt_le h1 (by rw [Nat.succ_mul]; exact h2)), tT_z (lb_z hY hb) he])]
        exact ⟨g9, g10⟩
      | true =>
        refine ⟨fun h8 => absurd h8 (by decide), fun _ => ?_⟩
        refine (c_gw31 (d := d + (r + 1)) (c := c) (hX.tl f1) he (hT.tl he f1) (by omega) hc27).mono ?_
        rintro q S2 ⟨w2, rfl, rfl, f2, hT2⟩
        refine ⟨fun _ h8 => (by cases h8), g_tl4 (m := m) ?_⟩
        have f12 : tlF D w w2 := f1.tr (tlF.of f2)
        have hy2 : 27 * y + c < 27 ^ (D + 1) := by rw [Nat.pow_succ]; omega
        have hB2 : TwB (nxs m s c) (16 ^ (D + 1)) := by rw [Nat.pow_succ, Nat.mul_comm]; exact hB.nxt he
        have hrec := ih (D + 1) (27 * y + c) (nxs m s c) w2 t (by omega) (hX.tl f12) hT2 hB2 hdv hy2 (by rw [f2.1 28 9 (by decide) (by decide)]; exact g9) (by rw [f2.1 28 10 (by decide) (by decide)]; exact g10)
        refine hrec.mono ?_
        rintro q S2 ⟨w3, rfl, rfl, f3, k9, k10⟩
        exact ⟨fun _ h8 => (by cases h8), g_tl5 (m := m) (hE w3 ⟨f12.tr f3.up, k9, k10⟩)⟩
    · rintro w1 ⟨f1, g9, g10⟩
      exact g_tl1 (m := m) ⟨fun _ => ⟨w1, rfl, rfl, f1, g9, g10⟩, fun h8 => absurd (by decide) h8⟩
theorem CI.tw {w w2 : eW} {t : eT} {b : Nat × Nat} {m : eW} {ks : kT} {rl rl2 tx : List Int} (h : CI w t b m ks rl tx) (f : Fc [34, 35, 101, 66] [(28, 9), (28, 10), (1, 14)] w w2) (hz : ZC w2) (hL : TlC w2 rl2) : CI w2 t b m ks rl2 tx := by
  obtain ⟨⟨⟨hT, h6⟩, hA, hS⟩, ⟨hC, hN⟩, ⟨hX, hH⟩, hK, _, hD⟩ := h
  exact ⟨⟨⟨hT.fc f (by decide) (by decide), by rw [f 2 6 (by decide) (by decide)]; exact h6⟩, hA.fc f (by decide) (by decide), hS.fc f (by decide) (by decide)⟩, ⟨hC.fc f (by decide) (by decide), hN.fc f (by decide) (by decide)⟩, ⟨hX.fc f (by decide) (by decide), by rw [f.row (a := 36) (by decide) (by decide)]; exact hH.1, by rw [f.row (a := 36) (by decide) (by decide)]; exact hH.2.1, hz⟩, hK.fc f (by decide) (by decide), hL, hD.fc f (by decide) (by decide)⟩
theorem k_twice {d : Nat} {w : eW} {t : eT} {b : Nat × Nat} {m : eW} {ks : kT} {rl tl' : List Int} {n : Int} (h : CI w t b m ks rl tl') (he : WFe m) (on : okI n) : Cl (d + 8) 156 [rA 1, (0, n)] (enc w t) (AnC w m b ks (twiceR m rl n) tl' (0, twiceV m n)) := by
  have on' : -2147483648 ≤ n ∧ n ≤ 2147483647 := on
  unfold twiceR twiceV
  refine g_ctw (d := d + 7) (m := m) ?_
  rw [w32_id on', w32_id (x := 1) (by decide), w32_id (x := 4) (by decide)]
  refine ⟨fun h1 => ?_, fun h1 => ⟨fun h2 => ?_, fun h2 => ?_⟩⟩
  · rw [if_neg (by omega), if_neg (by omega)]
    exact ⟨w, t, rfl, rfl, fun _ _ _ => rfl, h⟩
  · rw [if_pos ⟨by omega, h2⟩, if_pos ⟨by omega, h2⟩]
    obtain ⟨n, rfl⟩ := Int.eq_ofNat_of_zero_le (show 0 ≤ n by omega)
    rw [Int.toNat_natCast]
    obtain ⟨r, rfl⟩ : ∃ r, n = r + 1 := ⟨n - 1, by omega⟩
    have hz := h.2.2.1.2.2.2
    refine g_sd (d := d + 6) (m := m) ?_
    obtain ⟨w1, hw1⟩ : ∃ w1, w1 = wu (wu (wu w 28 9 0) 28 10 0) 35 0 1 := ⟨_, rfl⟩
    rw [← hw1]
    have f1 : Fc [34, 35, 101] [(28, 9), (28, 10)] w w1 := by
      rw [hw1]
      exact ((Fc.pf (by decide)).tr (Fc.pf (by decide))).tr (Fc.pr (by decide))
    have hX1 : XC w1 m := h.2.2.1.1.fc f1 (by decide) (by decide)
    have z34 : ∀ j, j < 80 → w1 34 j = 0 := fun j hj => by
      rw [hw1, wu_na _ _ (by decide), wu_na _ _ (by decide), wu_na _ _ (by decide)]
      exact hz.2 j hj
    have z35 : ∀ g, 1 ≤ g → g < 4 → w1 35 g = 0 := fun g h1 h2 => by
      rw [hw1, wu_nk _ _ (by omega), wu_na _ _ (by decide), wu_na _ _ (by decide)]
      exact hz.1 g h1 h2
    have hT1 : TwD w1 m 0 tw0 := by
      have hn := he.nE16
      refine ⟨fun g hg => ?_, fun e k h3 h4 => ?_⟩
      · rw [show 4 * 0 + g = g by omega]
        show _ = (((if g = 0 then 1 else 0 : Nat)) : Int)
        by_cases h5 : g = 0
        · rw [h5, hw1, wu_eq]; rfl
        · rw [z35 g (by omega) hg, if_neg h5]; rfl
      · have := (he.fm h3).2.1
        rw [z34 _ (by omega)]
        rfl
    have h9 : w1 28 9 = ((tw1 (tl m (r + 1) 0 0) (0 * 27 ^ (r + 1))).1 : Int) := by
      rw [Nat.zero_mul, hw1, wu_na _ _ (by decide), wu_nk _ _ (by decide), wu_eq]
      rfl
    have h10 : w1 28 10 = ((tw1 (tl m (r + 1) 0 0) (0 * 27 ^ (r + 1))).2 : Int) := by
      rw [Nat.zero_mul, hw1, wu_na _ _ (by decide), wu_eq]
      rfl
    have hB0 : TwB tw0 (16 ^ 0) := ⟨fun g => by show (if g = 0 then 1 else 0) ≤ 1; split <;> omega, fun e k => Nat.zero_le _⟩
    have hrec := c_tl28 (d := d + 4 - r) (L := tl m (r + 1) 0 0) he (show r + 1 ≤ 4 by omega) r 0 0 tw0 w1 t (by omega) hX1 hT1 hB0 (fun z hz => by
      rw [tl_cnt he 5 (r + 1) 0 0 z (by omega) (by omega), if_pos hz, tT_0 he]
      rfl) (by decide) h9 h10
    rw [show d + 4 - r + r + 2 = d + 6 by omega, Nat.zero_add, Nat.one_mul] at hrec
    refine hrec.mono ?_
    rintro q S2 ⟨w2, rfl, rfl, f2, k9, k10⟩
    refine ⟨fun _ h8 => (by cases h8), g_sd1 (m := m) ⟨fun _ h8 => (by cases h8), g_ctw1 (m := m) ⟨by rw [wu_eq]; decide, ?_⟩⟩⟩
    have hlen : (tl m (r + 1) 0 0).length ≤ 65536 := Nat.le_trans (tlL_len he 5 (r + 1) 0 0) (Nat.le_trans (Nat.pow_le_pow_right (n := 16) (j := 4) (by decide) (by omega)) (by decide))
    have hb2 := (tw1_b (tl m (r + 1) 0 0) (27 ^ (r + 1))).2
    have f2' : Fc [34, 35, 101] [(28, 9), (28, 10)] w w2 := f1.tr f2.1
    rw [k10, w32_id (by omega)]
    obtain ⟨T4, f4⟩ := TlC.tell (((tw1 (tl m (r + 1) 0 0) (27 ^ (r + 1))).2 : Nat) : Int) (TlC.zero w2) (by decide)
    have f3 : Fc [] [(1, 14)] w2 (wu w2 1 14 0) := Fc.pf (by decide)
    have fC : Fc [34, 35, 101, 66] [(28, 9), (28, 10), (1, 14)] w (tlW (wu w2 1 14 0) (((tw1 (tl m (r + 1) 0 0) (27 ^ (r + 1))).2 : Nat) : Int)) := ((f2'.mo (by decide) (by decide)).tr (f3.mo (by decide) (by decide))).tr (f4.mo (by decide) (by decide))
    rw [f4 28 9 (by decide) (by decide), f3 28 9 (by decide) (by decide), k9]
    refine AnC.of fC (by decide) (by decide) (h.tw fC ⟨fun g h1 h2 => ?_, fun j hj => ?_⟩ T4)
    · rw [f4.row (a := 35) (by decide) (by decide), f3.row (a := 35) (by decide) (by decide), f2.2.2 g (by omega)]
      exact z35 g h1 h2
    · rw [f4.row (a := 34) (by decide) (by decide), f3.row (a := 34) (by decide) (by decide), f2.2.1 j (by omega)]
      exact z34 j hj
  · rw [if_neg (by omega), if_neg (by omega)]
    exact ⟨w, t, rfl, rfl, fun _ _ _ => rfl, h⟩

