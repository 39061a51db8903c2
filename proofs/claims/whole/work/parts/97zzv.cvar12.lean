/-! The class: unlike spellings: goOn (2). -/

def upF (f : Nat → Nat) (y v : Nat) : Nat → Nat := fun z => if z = y then v else f z
theorem upF_s (f : Nat → Nat) (y v : Nat) : sm (upF f y v) (y + 1) = sm f y + v := by
  show sm (upF f y v) y + upF f y v y = _
  rw [sm_congr (f := upF f y v) (g := f) (fun i hi => by unfold upF; rw [if_neg (by omega)])]
  unfold upF
  rw [if_pos rfl]
theorem c_go {d : Nat} {m : eW} (hp : WFp m) (hr : WFr m) {l : List Int} (hl : LtO l) {w0 : eW} (hT0 : TlL w0 m l) {b : Nat × Nat} {N : Nat} {KY : Nat → Int} (hNl : N ≤ 4369) (hKD : ∀ s s2, s < N → s2 < N → KY s = KY s2 → s = s2) : ∀ (k : Nat) (γ : List Int × List Nat) (nn : Int) (w : eW) (t : eT), GoR m l w0 b N KY k γ nn w t → Cl (d + k + 30) 92 [rA 58, (0, nn)] (enc w t) (fun r S2 => ∃ w2 t2, r = none ∧ S2 = enc w2 t2 ∧ GoO m l w0 b N KY k γ nn w t w2 t2) := by
  have hl6 := hl.1.2
  -- the head: pairs without lower sign, and whether there is a whole one
  have hhead : ∀ (D : Nat) (Q : Option aV → aS → Prop) (σ : List Int) (L : List Nat) (w : eW) (t : eT), σ.length ≤ 6 → WCn m l w0 b N KY w t → LvP m l N KY σ L w → (∀ (w1 : eW) (t1 : eT) (e : Nat) (L1 : List Nat), WCn m l w0 b N KY w1 t1 → GFr σ.length w w1 → Lvl m l N KY σ L1 w1 → w1 58 6 = w 58 6 + (e : Int) → (TS m l σ [] ∧ e = 1 ∨ ¬ TS m l σ [] ∧ e = 0) → Ev (d + D + 30) 92 Q 23 [rA 58, (0, (σ.length : Int)), (9, 0), (9, 0)] [] (enc w1 t1)) → Cl (d + D + 30) 92 [rA 58, (0, (σ.length : Int))] (enc w t) Q := by
    intro D Q σ L w t hs6 hc hL hfin
    have hG := room hp hl hNl hKD (n := σ.length) (σ := σ)
    refine g_go0 (d := d + D) (m := m) (l := l) (b := b) (γS := Nat) (PRS := fun _ nn w' t' => nn = (σ.length : Int) ∧ w' = w ∧ t' = t) (POS := fun _ _ w' t' w2 t2 => AsO m l w0 b N KY σ.length (GV m l N KY σ.length (Rch m l σ)) L w w2 t2) (fun _ nn w' t' h => ?_) (γW := List Nat) (PRW := fun L1 nn w' t' => nn = (σ.length : Int) ∧ WCn m l w0 b N KY w' t' ∧ Lvl m l N KY σ L1 w') (POW := fun _ _ w' t' x w2 t2 => w2 = w' ∧ t2 = t' ∧ ((x = 1 ∧ TS m l σ []) ∨ (x = 0 ∧ ¬ TS m l σ []))) (fun L1 nn w' t' h => ?_) ?_
    · obtain ⟨rfl, rfl, rfl⟩ := h
      refine (c_ads (d := d) hp hr hl hT0 hs6 (fun i g p r1 r2 r3 => ?_) (fun i g r1 => r1.elim fun x hx => ⟨x, hx.1⟩) hG hc hL.1).up (by omega)
      have := r1.s hp r2 r3
      obtain ⟨c1, _⟩ := bit_p hp hl r2 r3.1
      have h27 : m 69 p = 27 := by
        have h9 := r3.2
        rw [(by_t hp c1).2.1] at h9
        exact of_decide_eq_true h9
      rw [if_pos h27] at this
      exact this
    · obtain ⟨rfl, h1, h2⟩ := h
      refine ((c_hw (d := d) hp hr hl hT0 hs6 hG h1.1 h2.1 h2.2).up (by omega)).mono ?_
      rintro _ _ ⟨x, rfl, rfl, hx⟩
      exact ⟨x, w', t', rfl, rfl, rfl, rfl, hx⟩
    · refine ⟨0, ⟨rfl, rfl, rfl⟩, ?_⟩
      rintro w2 t3 ⟨b1, b2, M, b3, b4⟩
      have hLv : Lvl m l N KY σ (L ++ M) w2 := ⟨b3, hL.2 M b4⟩
      have e58 : w2 58 6 = w 58 6 := by rw [b2.1 58 (by omega) (by omega) (by omega)]
      refine ⟨L ++ M, ⟨rfl, b1, hLv⟩, ?_⟩
      rintro x5 w6 t7 ⟨rfl, rfl, hx⟩
      refine ⟨fun h8 => ?_, fun h8 => ?_⟩
      · rcases hx with ⟨rfl, _⟩ | ⟨rfl, h7⟩
        · exact absurd h8 (by decide)
        · exact hfin w6 t7 0 (L ++ M) b1 b2.g hLv (by rw [e58]; omega) (Or.inr ⟨h7, rfl⟩)
      · rcases hx with ⟨rfl, h7⟩ | ⟨rfl, _⟩
        · have f1 : GFr (σ.length + 1) w6 (wu w6 58 6 (w6 58 6 + 1)) := ⟨fun a _ h1 _ _ => wu_row h1, fun j _ => wu_na _ _ (by decide), fun k _ => wu_na _ _ (by decide), fun k hk => wu_nk _ _ hk⟩
          have hlen := hG.1 _ b3.1.1 b3.1.2
          exact hfin _ t7 1 (L ++ M) (b1.v (fun a h1 _ _ => wu_row h1)) (b2.g.tr f1.dn) (hLv.g (by omega) f1) (by rw [wu_eq, e58]; rfl) (Or.inl ⟨h7, rfl⟩)
        · exact absurd (by decide) h8
  intro k
  induction k with
  | zero =>
    rintro ⟨σ, L⟩ nn w t ⟨rfl, hk, hc, hL, hf1, hf2⟩
    replace hk : σ.length + 0 = 6 := hk
    replace hL : LvP m l N KY σ L w := hL
    show Cl (d + 0 + 30) 92 [rA 58, (0, (σ.length : Int))] (enc w t) (fun r S2 => ∃ w2 t2, r = none ∧ S2 = enc w2 t2 ∧ GoO m l w0 b N KY 0 (σ, L) (σ.length : Int) w t w2 t2)
    refine hhead 0 _ σ L w t (by omega) hc hL (fun w1 t1 e L1 a1 a2 _ a3 a4 => ?_)
    refine g_go1 (d := d + 0) (m := m) (l := l) (b := b) (γL := Nat) (PRL := fun _ _ _ _ => False) (POL := fun _ _ _ _ _ _ _ => True) (fun g nn w t h => h.elim) ?_
    rw [w32_id (x := (σ.length : Int)) (by omega), w32_id (x := (6 : Int)) (by omega)]
    refine ⟨fun h9 => by omega, fun _ => ⟨w1, t1, rfl, rfl, a1, a2, e, a4, ?_⟩⟩
    rw [a3]
    have : e ≤ 1 := by rcases a4 with h | h <;> omega
    omega
  | succ k ih =>
    rintro ⟨σ, L⟩ nn w t ⟨rfl, hk, hc, hL, hf1, hf2⟩
    replace hk : σ.length + (k + 1) = 6 := hk
    replace hL : LvP m l N KY σ L w := hL
    show Cl (d + (k + 1) + 30) 92 [rA 58, (0, (σ.length : Int))] (enc w t) (fun r S2 => ∃ w2 t2, r = none ∧ S2 = enc w2 t2 ∧ GoO m l w0 b N KY (k + 1) (σ, L) (σ.length : Int) w t w2 t2)
    have hG := room hp hl hNl hKD (n := σ.length) (σ := σ)
    refine hhead (k + 1) _ σ L w t (by omega) hc hL (fun wb tb e L1 hcb hfb hLb hb6 he => ?_)
    have he1 : e ≤ 1 := by rcases he with h | h <;> omega
    have hlen := hG.1 _ hLb.1.1.1 hLb.1.1.2
    -- the loop over the letters
    have hloop : ∀ (le : Nat), le < 268435456 → (∀ (s i : Nat) (g : t3) (p : Nat), s * 7 + i ∈ L1 → s < N → spA m l i g → KY s = ((kyG m g : Nat) : Int) → p < 16 → (spP m l i &&& mfG m g).testBit p = true → le.testBit (cdI (m 69 p)).toNat = true) → ∀ (j y : Nat) (w1 : eW) (t1 : eT) (f : Nat → Nat), y + j = 27 → WCn m l w0 b N KY w1 t1 → GFr (σ.length + 1) wb w1 → (∀ z : Nat, z < y → Cnt k (fun t => TS m l σ ((z : Int) :: t)) (f z)) → w1 58 6 = min (w 58 6 + ((e + sm f y : Nat) : Int)) 201 → Ev (d + (k + 1) + 30) 92 (fun r S2 => ∃ w2 t2, r = none ∧ S2 = enc w2 t2 ∧ GoO m l w0 b N KY (k + 1) (σ, L) (σ.length : Int) w t w2 t2) 38 [rA 58, (0, (σ.length : Int)), (0, (le : Int)), (0, ((y + 1 : Nat) : Int))] [] (enc w1 t1) := fun le hle hbt => by
      have hsum : ∀ f : Nat → Nat, (∀ z : Nat, z < 27 → Cnt k (fun t => TS m l σ ((z : Int) :: t)) (f z)) → Cnt (k + 1) (TS m l σ) (e + sm f 27) := fun f hf => by
        refine ⟨f, hf, ?_⟩
        rcases he with ⟨h1, h2⟩ | ⟨h1, h2⟩
        · exact Or.inl ⟨h1, by rw [h2]⟩
        · exact Or.inr ⟨h1, by rw [h2, Nat.zero_add]⟩
      intro j
      induction j with
      | zero =>
        intro y w1 t1 f hy a1 a2 a3 a4
        have : y = 27 := by omega
        subst this
        refine g_go2 (d := d + (k + 1)) (m := m) (l := l) (b := b) (γP := Nat) (PRP := fun _ _ _ _ _ => False) (POP := fun _ _ _ _ _ _ _ => True) (γG := Nat) (PRG := fun _ _ _ _ => False) (POG := fun _ _ _ _ _ _ => True) (fun _ _ _ _ _ h => h.elim) (fun _ _ _ _ h => h.elim) ?_
        exact ⟨fun _ => ⟨w1, t1, rfl, rfl, a1, hfb.tr a2.dn, _, hsum f a3, a4⟩, fun h9 => absurd (by decide) h9⟩
      | succ j ihj =>
        intro y w1 t1 f hy a1 a2 a3 a4
        have hL1 := hLb.g (by omega) a2
        refine g_go2 (d := d + (k + 1)) (m := m) (l := l) (b := b) (fun γ b1 b2 w t h => (c_stp (d := d) hp hr hl hT0 (b := b) hKD γ b1 b2 w t h).up (by omega)) ih ?_
        have hw6 : 0 ≤ w1 58 6 ∧ w1 58 6 ≤ 201 := by omega
        rw [w32_id (x := 28) (by omega), w32_id (x := ((y + 1 : Nat) : Int)) (by omega), w32_id (x := 200) (by omega), w32_id (x := w1 58 6) (by omega)]
        refine ⟨fun h9 => by omega, fun _ => ⟨fun h9 => ?_, fun h9 => ?_⟩⟩
        · -- full
          have hx : ∃ f2 : Nat → Nat, (∀ z : Nat, Cnt k (fun t => TS m l σ ((z : Int) :: t)) (f2 z)) := ⟨fun z => Classical.choose (Cnt_ex k (fun t => TS m l σ ((z : Int) :: t))), fun z => Classical.choose_spec (Cnt_ex k (fun t => TS m l σ ((z : Int) :: t)))⟩
          obtain ⟨f2, hf2'⟩ := hx
          refine ⟨w1, t1, rfl, rfl, a1, hfb.tr a2.dn, _, hsum (fun z => if z < y then f z else f2 z) (fun z _ => ?_), ?_⟩
          · show Cnt k _ (if z < y then f z else f2 z)
            split
            · next h => exact a3 z h
            · exact hf2' z
          · have h1 : sm f y = sm (fun z => if z < y then f z else f2 z) y := sm_congr (fun i hi => by rw [if_pos hi])
            have h2 := sm_mono (f := fun z => if z < y then f z else f2 z) (p := y) (27 - y)
            rw [show y + (27 - y) = 27 by omega] at h2
            rw [h1] at a4
            omega
        · have hnext : ∀ (w2 : eW) (t2 : eT) (v : Nat), WCn m l w0 b N KY w2 t2 → GFr (σ.length + 1) w1 w2 → Cnt k (fun t => TS m l σ ((y : Int) :: t)) v → w2 58 6 = min (w1 58 6 + (v : Int)) 201 → Ev (d + (k + 1) + 30) 92 (fun r S2 => ∃ w2 t2, r = none ∧ S2 = enc w2 t2 ∧ GoO m l w0 b N KY (k + 1) (σ, L) (σ.length : Int) w t w2 t2) 38 [rA 58, (0, (σ.length : Int)), (0, (le : Int)), (0, ((y + 1 : Nat) : Int) + 1)] [] (enc w2 t2) := fun w2 t2 v c1 c2 c3 c4 => by
            rw [show (((y + 1 : Nat) : Int) + 1) = ((y + 1 + 1 : Nat) : Int) by omega]
            refine ihj (y + 1) w2 t2 (upF f y v) (by omega) c1 (a2.tr c2) (fun z hz => ?_) ?_
            · by_cases h8 : z = y
              · rw [h8]; show Cnt k _ (upF f y v y); unfold upF; rw [if_pos rfl]; exact c3
              · unfold upF; rw [if_neg h8]; exact a3 z (by omega)
            · rw [upF_s, c4, a4]; omega
          have hbit : w32 (iand (ishr (le : Int) ((y + 1 : Nat) : Int)) 1) = if le.testBit (y + 1) then 1 else 0 := by
            rw [i_bit (by omega) (by omega)]
            unfold bt
            rw [Int.toNat_natCast, Int.toNat_natCast]
            cases le.testBit (y + 1) with
            | true => exact w32_id (by decide)
            | false => exact w32_id (by decide)
          rw [hbit]
          cases hb : le.testBit (y + 1) with
          | false =>
            refine ⟨fun _ => hnext w1 t1 0 a1 (GFr.rf _ _) (Cnt_0 k _ (fun t ht => ?_)) (by omega), fun h8 => absurd rfl h8⟩
            obtain ⟨s, i, g, p, q1, q2, q3, q4, q5, q6, q7, q8⟩ := TS_cons hp hl hL1.2 ht
            have := hbt s i g p q3 q1 q4 q2 q5 q6
            have e1 : (cdI (m 69 p)).toNat = y + 1 := by unfold cdI; rw [if_neg q8, q7]; omega
            rw [e1, hb] at this; cases this
          | true =>
            refine ⟨fun h8 => absurd h8 (by decide), fun _ => ⟨(σ, L1, y), ⟨rfl, by show σ.length < 6; omega, ⟨rfl, by show y < 27; omega⟩, a1, hL1⟩, ?_⟩⟩
            rintro w2 t3 ⟨b1, b2, L2, b3⟩
            replace b2 : VFr (σ.length + 1) w1 w2 := b2
            replace b3 : LvP m l N KY ((y : Int) :: σ) L2 w2 := b3
            have hG2 := room hp hl hNl hKD (n := σ.length + 1) (σ := (y : Int) :: σ)
            have hS2 : SpS w2 (σ.length + 1) (GV m l N KY (σ.length + 1) (Rch m l ((y : Int) :: σ))) L2 := b3.1
            have hlen2 := hG2.1 _ hS2.1.1 hS2.1.2
            have e58 : w2 58 6 = w1 58 6 := by rw [b2.1 58 (by omega) (by omega) (by omega)]
            rw [show ((σ.length : Int) + 1) = ((σ.length + 1 : Nat) : Int) by omega, w32_id (x := ((σ.length + 1 : Nat) : Int)) (by omega), Int.toNat_natCast, hS2.2.1, w32_id (x := (L2.length : Int)) (by omega)]
            refine ⟨by omega, fun h8 => ?_, fun h8 => ⟨((y : Int) :: σ, L2), ⟨rfl, by show σ.length + 1 + k = 6; omega, b1, b3, by rw [e58]; omega, by rw [e58]; omega⟩, ?_⟩⟩
            · have hnil : L2 = [] := List.length_eq_zero_iff.mp (by omega)
              have hcom := b3.2 [] (fun s i g h7 => by rw [hnil] at h7; cases h7)
              refine hnext w2 t3 0 b1 b2.g (Cnt_0 k _ (fun t ht => ?_)) (by rw [e58]; omega)
              obtain ⟨i, g, x, q1, q2, _⟩ := TS_sp hp hl (TS_c.mp ht)
              obtain ⟨s, _, _, q5⟩ := hcom i g q1 q2
              rw [hnil] at q5; cases q5
            · rintro w5 t6 ⟨c1, c2, c, c3, c4⟩
              replace c2 : GFr (σ.length + 1) w2 w5 := c2
              replace c3 : Cnt k (TS m l ((y : Int) :: σ)) c := c3
              exact hnext w5 t6 c c1 (b2.g.tr c2) (Cnt_cg k _ _ c (fun t => TS_c.symm) c3) (by rw [c4, e58])
    refine g_go1 (d := d + (k + 1)) (m := m) (l := l) (b := b) (γL := Nat) (PRL := fun _ nn w' t' => nn = (σ.length : Int) ∧ w' = wb ∧ t' = tb) (POL := fun _ _ w' t' x w2 t2 => w2 = wb ∧ t2 = tb ∧ ∃ le : Nat, x = (le : Int) ∧ le < 268435456 ∧ ∀ (s i : Nat) (g : t3) (p : Nat), s * 7 + i ∈ L1 → s < N → spA m l i g → KY s = ((kyG m g : Nat) : Int) → p < 16 → (spP m l i &&& mfG m g).testBit p = true → le.testBit (cdI (m 69 p)).toNat = true) (fun _ nn w' t' h => ?_) ?_
    · obtain ⟨rfl, rfl, rfl⟩ := h
      refine ((c_lbv (d := d) hp hr hl hT0 (by omega) hlen hcb.1 hLb.1).up (by omega)).mono ?_
      rintro _ _ ⟨x, rfl, rfl, hx1, hx2⟩
      exact ⟨(x : Int), w', t', rfl, rfl, rfl, rfl, x, rfl, hx1, hx2⟩
    · rw [w32_id (x := (σ.length : Int)) (by omega), w32_id (x := (6 : Int)) (by omega)]
      refine ⟨fun _ => ⟨0, ⟨rfl, rfl, rfl⟩, ?_⟩, fun h9 => by omega⟩
      rintro x2 w3 t4 ⟨rfl, rfl, le, rfl, hx1, hx2⟩
      exact hloop le hx1 hx2 27 0 w3 t4 (fun _ => 0) (by omega) hcb (GFr.rf _ _) (fun z hz => by omega) (by rw [hb6]; show _ = min (w 58 6 + ((e + 0 : Nat) : Int)) 201; omega)
