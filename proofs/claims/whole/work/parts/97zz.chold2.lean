/-! The class: holds, never. -/

def hL (m : eW) (wt : Nat) : Nat → Nat → t3 → kT
  | 0, z, g => if decide (z = 1) && isE m (-1) g.1 g.2.1 g.2.2 then [([], [])] else []
  | n + 1, z, g => lsD (fun p => if (allB m &&& mfG m g).testBit p then (hL m wt n (if p = wt then 1 else z) (gN g p)).map (fun x => (p :: x.1, x.2)) else []) 16
theorem lsD_len_le {α : Type} {f : Nat → List α} {c : Nat} : ∀ n, (∀ i, i < n → (f i).length ≤ c) → (lsD f n).length ≤ n * c := by
  intro n h
  rw [lsD_len]
  exact sm_bound h
theorem hL_len {m : eW} {wt : Nat} : ∀ (n z : Nat) (g : t3), (hL m wt n z g).length ≤ 16 ^ n := by
  intro n
  induction n with
  | zero => intro z g; unfold hL; split <;> decide
  | succ n ih =>
    intro z g
    unfold hL
    rw [Nat.pow_succ, Nat.mul_comm]
    refine lsD_len_le 16 (fun p _ => ?_)
    split
    · rw [List.length_map]; exact ih _ _
    · exact Nat.zero_le _
theorem lsD_mem2 {α : Type} {f : Nat → List α} {x : α} : ∀ {n : Nat}, x ∈ lsD f n → ∃ i, i < n ∧ x ∈ f i := by
  intro n
  induction n with
  | zero => intro h; cases h
  | succ n ih =>
    intro h
    unfold lsD at h
    rcases List.mem_append.mp h with h1 | h1
    · obtain ⟨i, i1, i2⟩ := ih h1
      exact ⟨i, by omega, i2⟩
    · exact ⟨n, by omega, h1⟩
theorem hL_el {m : eW} {wt : Nat} : ∀ (n z : Nat) (g : t3) (x : List Nat × List Nat), x ∈ hL m wt n z g → x.1.length = n ∧ x.2 = [] := by
  intro n
  induction n with
  | zero =>
    intro z g x h
    unfold hL at h
    split at h
    · rw [List.mem_singleton] at h; rw [h]; exact ⟨rfl, rfl⟩
    · cases h
  | succ n ih =>
    intro z g x h
    unfold hL at h
    obtain ⟨p, _, h2⟩ := lsD_mem2 h
    split at h2
    · obtain ⟨y, y1, y2⟩ := List.mem_map.mp h2
      obtain ⟨z1, z2⟩ := ih _ _ y y1
      rw [← y2]
      exact ⟨by show y.1.length + 1 = n + 1; omega, z2⟩
    · cases h2
theorem lsD_tk1 {α : Type} {f : Nat → List α} {i : Nat} (h0 : ∀ j, j < i → f j = []) (h1 : f i ≠ []) : ∀ n, i < n → (lsD f n).take 1 = (f i).take 1 := by
  intro n
  induction n with
  | zero => intro h; omega
  | succ n ih =>
    intro h
    unfold lsD
    by_cases h2 : i = n
    · rw [← h2, lsD_nil i h0, List.nil_append]
    · rw [List.take_append, ih (by omega)]
      have hl : 1 ≤ (lsD f n).length := by
        have h3 := ih (by omega)
        cases h4 : lsD f n with
        | nil =>
          rw [h4] at h3
          cases h5 : f i with
          | nil => exact absurd h5 h1
          | cons x xs => rw [h5] at h3; cases h3
        | cons x xs => show 1 ≤ xs.length + 1; omega
      rw [show 1 - (lsD f n).length = 0 by omega, List.take_zero, List.append_nil]
theorem hL_hB {m : eW} (hp : WFp m) {wt : Nat} : ∀ (n z : Nat) (g : t3), (hB m wt n z g.1 g.2.1 g.2.2 = false → hL m wt n z g = []) ∧ (hB m wt n z g.1 g.2.1 g.2.2 = true → (hL m wt n z g).take 1 = [(hpt m wt n z g.1 g.2.1 g.2.2, [])]) := by
  have hn16 : nP m ≤ 16 := by have := hp.1; unfold nP; omega
  intro n
  induction n with
  | zero =>
    intro z g
    unfold hB hL hpt
    refine ⟨fun h => by rw [h]; rfl, fun h => by rw [h]; rfl⟩
  | succ n ih =>
    intro z g
    have hf : ∀ p, p < 16 → ((decide (p < nP m) && goes m (-1) g.1 g.2.1 g.2.2 p && hB m wt n (if p = wt then 1 else z) g.2.1 g.2.2 p) = false → (if (allB m &&& mfG m g).testBit p then (hL m wt n (if p = wt then 1 else z) (gN g p)).map (fun x => (p :: x.1, x.2)) else ([] : kT)) = []) := fun p hp16 h => by
      rw [all_mf hp hp16]
      cases h1 : decide (p < nP m) && goes m (-1) g.1 g.2.1 g.2.2 p with
      | false => rfl
      | true =>
        rw [h1, Bool.true_and] at h
        rw [if_pos rfl, (ih (if p = wt then 1 else z) (gN g p)).1 h]; rfl
    refine ⟨fun h => ?_, fun h => ?_⟩
    · unfold hL
      refine lsD_nil 16 (fun p hp16 => hf p hp16 ?_)
      cases h1 : decide (p < nP m) && goes m (-1) g.1 g.2.1 g.2.2 p && hB m wt n (if p = wt then 1 else z) g.2.1 g.2.2 p with
      | false => rfl
      | true =>
        exfalso
        obtain ⟨h2, h3⟩ := Bool.and_eq_true_iff.mp h1
        obtain ⟨h4, h5⟩ := Bool.and_eq_true_iff.mp h2
        unfold hB at h
        rw [an_iff.mpr ⟨p, of_decide_eq_true h4, by rw [h5, h3]; rfl⟩] at h
        cases h
    · obtain ⟨q1, q2, q3, q4⟩ := hnx_ok h
      unfold hL hpt
      generalize hnx m wt n z g.1 g.2.1 g.2.2 = i at *
      have e1 : (if (allB m &&& mfG m g).testBit i then (hL m wt n (if i = wt then 1 else z) (gN g i)).map (fun x => (i :: x.1, x.2)) else ([] : kT)) = (hL m wt n (if i = wt then 1 else z) (gN g i)).map (fun x => (i :: x.1, x.2)) := by
        rw [all_mf hp (by omega), decide_eq_true q1, q2]; rfl
      have e2 := (ih (if i = wt then 1 else z) (gN g i)).2 q3
      rw [lsD_tk1 (i := i) (fun j hj => hf j (by omega) (by
        have := q4 j hj
        rw [decide_eq_true (show j < nP m by omega), Bool.true_and]; exact this)) (by
        rw [e1]
        intro h9
        rw [List.map_eq_nil_iff] at h9
        rw [h9] at e2
        cases e2) 16 (by omega), e1, ← List.map_take, e2]
      rfl
def hwW (st : Nat) : Bool := decide (st = 1)
def hwP (m : eW) (st : Nat) : Nat := if st ≤ 1 then 0 else allB m
def hwB (wt st p : Nat) : Nat := if p = wt then 2 * ((st - 2) / 2) + 1 else st - 2
def hwA (m : eW) (st : Nat) (g : t3) : Prop := st ≤ 13 ∧ triG m g
def hwM (st : Nat) (_ : t3) : Nat := st / 2
def hwL (m : eW) (wt st : Nat) (g : t3) : kT := hL m wt (st / 2) (st % 2) g
theorem ws_hold {m : eW} (hp : WFp m) (wt : Nat) : WSy m hwW (hwP m) (hwB wt) noE noJ (hwA m) hwM (hwL m wt) := by
  intro st g hA
  obtain ⟨hA1, hA2⟩ := hA
  have hb : (hwL m wt st g).length < 1000000000000000000 := by
    have h1 := hL_len (m := m) (wt := wt) (st / 2) (st % 2) g
    have h2 : 16 ^ (st / 2) ≤ 16 ^ 6 := Nat.pow_le_pow_right (by decide) (by omega)
    have h3 : 16 ^ 6 = 16777216 := by decide
    unfold hwL
    omega
  refine ⟨⟨⟨by omega, ?_, by unfold noE; decide⟩, hb⟩, fun p hp16 h1 h2 => ?_, fun e _ h1 => ?_, ?_⟩
  · unfold hwP
    split
    · decide
    · exact allB_lt hp
  · unfold hwP at h1
    by_cases h0 : st ≤ 1
    · rw [if_pos h0, Nat.zero_testBit] at h1; cases h1
    · rw [if_neg h0, allB_t] at h1
      unfold hwA hwB hwM
      exact ⟨⟨by split <;> omega, triG_nx hp hA2 (of_decide_eq_true h1)⟩, by split <;> omega⟩
  · rw [noE_t] at h1; cases h1
  · rw [lsD_nil (f := fun e => if (noE st).testBit e = true then _ else []) 16 (fun e _ => by rw [noE_t, if_neg (by decide)]), List.append_nil]
    unfold hwW hwP hwL
    by_cases h0 : st ≤ 1
    · rw [lsD_nil 16 (fun e _ => by rw [if_pos h0, Nat.zero_and, Nat.zero_testBit, if_neg (by decide)]), List.append_nil, show st / 2 = 0 by omega, show st % 2 = st by omega]
      rfl
    · rw [decide_eq_false (show ¬ (st = 1) by omega), Bool.false_and, if_neg (by decide), List.nil_append]
      obtain ⟨n, hn⟩ : ∃ n, st / 2 = n + 1 := ⟨st / 2 - 1, by omega⟩
      rw [hn]
      show lsD _ 16 = _
      refine lsD_cg 16 (fun p _ => ?_)
      rw [if_neg h0]
      have e : hL m wt (hwB wt st p / 2) (hwB wt st p % 2) (gN g p) = hL m wt n (if p = wt then 1 else st % 2) (gN g p) := by
        unfold hwB
        by_cases h9 : p = wt
        · rw [if_pos h9, if_pos h9, show (2 * ((st - 2) / 2) + 1) / 2 = n by omega, show (2 * ((st - 2) / 2) + 1) % 2 = 1 by omega]
        · rw [if_neg h9, if_neg h9, show (st - 2) / 2 = n by omega, show (st - 2) % 2 = st % 2 by omega]
      rw [e]
theorem or1 {x : Nat} : x ||| 1 = 2 * (x / 2) + 1 := by
  refine Nat.eq_of_testBit_eq (fun i => ?_)
  rw [Nat.testBit_or]
  cases i with
  | zero => rw [Nat.testBit_zero, Nat.testBit_zero, Nat.testBit_zero, show (2 * (x / 2) + 1) % 2 = 1 by omega]; simp
  | succ i =>
    rw [Nat.testBit_succ, Nat.testBit_succ, Nat.testBit_succ, show (2 * (x / 2) + 1) / 2 = x / 2 by omega, show 1 / 2 = 0 from rfl, Nat.zero_testBit, Bool.or_false]
theorem wh_hold {d : Nat} {m w0 : eW} (hp : WFp m) (hA0 : AC w0 m) (hk : w0 53 8 = 1) {wt : Nat} (hwt : w0 53 10 = (wt : Int)) (hw2 : wt < 16) : WHy d m hwW (hwP m) (hwB wt) noE noJ (hwA m) w0 := by
  refine ⟨fun a w t h => ?_, fun a w t h => ?_, fun a p w t h => ?_, wh_ent (Or.inr (Or.inl hk)), wh_no⟩
  · refine Cl.up (d := d + 4) (g_iw ?_) (by omega)
    obtain ⟨⟨st, g, hA, rfl⟩, hi⟩ := h
    have hA : st ≤ 13 := hA.1
    unfold hwW
    rw [hi 53 (by omega), hk, w32_id (x := 1) (by omega), w32_id (x := (st : Int)) (by omega), Int.toNat_natCast]
    refine ⟨fun h9 => by omega, fun _ => ⟨fun h9 => ⟨_, rfl, rfl, ?_⟩, fun h9 => ⟨_, rfl, rfl, ?_⟩⟩, fun h9 => by omega, fun h9 => by omega, fun h9 => by omega⟩
    · rw [decide_eq_false (by omega)]; rfl
    · rw [decide_eq_true (by omega)]; rfl
  · refine Cl.up (d := d + 5) (g_pa (m := m) ?_) (by omega)
    obtain ⟨⟨st, g, hA, rfl⟩, hi⟩ := h
    have hA : st ≤ 13 := hA.1
    unfold hwP
    rw [hi 53 (by omega), hk, w32_id (x := 1) (by omega), w32_id (x := (st : Int)) (by omega), Int.toNat_natCast]
    refine ⟨fun h9 => by omega, fun _ => ⟨fun h9 => ⟨_, rfl, rfl, ?_⟩, fun h9 => ⟨⟨hA0.lo9 (fun a h1 h2 => hi a (by omega)), hp⟩, _, rfl, rfl, ?_⟩⟩, fun h9 => by omega, fun h9 => by omega, fun h9 => by omega⟩
    · rw [if_pos (by omega)]; rfl
    · rw [if_neg (by omega)]; rfl
  · refine Cl.up (d := d + 5) (g_sb (m := m) ?_) (by omega)
    obtain ⟨⟨st, g, q, hA, rfl, rfl, hq, h1, h2⟩, hi⟩ := h
    have hA : st ≤ 13 := hA.1
    unfold hwP at h1
    unfold hwB
    have h0 : ¬ (st ≤ 1) := fun h0 => by rw [if_pos h0, Nat.zero_testBit] at h1; cases h1
    rw [hi 53 (by omega), hk, hwt, w32_id (x := 1) (by omega), w32_id (x := (q : Int)) (by omega), w32_id (x := (wt : Int)) (by omega), Int.toNat_natCast, Int.toNat_natCast]
    refine ⟨fun h9 => by omega, fun _ => ⟨fun h9 => ⟨_, rfl, rfl, ?_⟩, fun h9 => ⟨_, rfl, rfl, ?_⟩⟩, fun h9 => by omega, fun h9 => by omega, fun h9 => by omega⟩
    · rw [if_neg (by omega), i_or (by omega) (by omega)]
      show (((((st : Int) - 2).toNat ||| 0 : Nat)) : Int) = _
      rw [Nat.or_zero]; omega
    · rw [if_pos (by omega), i_or (by omega) (by omega)]
      show (((((st : Int) - 2).toNat ||| 1 : Nat)) : Int) = _
      rw [or1, show ((st : Int) - 2).toNat = st - 2 by omega]
theorem WCx.base {m : eW} {Pm : Int → Int → Prop} {w0 : eW} {b : Nat × Nat} {N : Nat} {KY : Nat → Int} {w w2 : eW} {t : eT} (h : WCx m Pm w0 b N KY w t) (e : Hi w w2) : WCx m Pm w2 b N KY w2 t := by
  obtain ⟨i, mc, ma, ⟨n1, n2⟩, ky⟩ := h
  have e37 := e 37 (by omega)
  have er : ∀ a ∈ dyRef w, w2 a.toNat = w a.toNat := fun a ha => e _ (by have := mc.1.1.2.1 a ha; omega)
  obtain ⟨i1, i2, i3, i4, i5, i6, i7, i8⟩ := @dyRef_i w
  have eK : mK w2 = mK w := by funext s; unfold mK; rw [e37, er _ i1]
  refine ⟨fun _ _ => rfl, mc.hi e, ma.ext eK ?_ ?_ ?_ (by rw [e37]), ⟨by rw [e37]; exact n1, by rw [e37]; exact n2⟩, fun s => by rw [eK]; exact ky s⟩
  · unfold mA; rw [e37, er _ i6]
  · unfold mD; rw [e37, er _ i4]
  · unfold mTl; rw [e37, er _ i5]
theorem dq_ma {w m : eW} {t : eT} {b : Nat × Nat} (hD : DynQ w t b m) (h0 : w 37 8 = 0) : RgM w t (w 37 7).toNat ∧ MaC w m := by
  rcases hD.2.2.2 with h1 | ⟨_, h2, h3, _⟩
  · rw [h0] at h1; omega
  · obtain ⟨_, _, ⟨R, hR, ⟨k1, l1⟩, _⟩, _⟩ := id hD.1
    have h3 : (w 37 7).toNat ≤ dyL t (w 37 1) := h3
    have := h2.1.2.1
    exact ⟨⟨hD.1, by omega, h3, by omega⟩, h2⟩
theorem PaC.nil {w : eW} : PaC w [] [] := ⟨⟨by decide, fun k hk => absurd hk (Nat.not_lt_zero k)⟩, by decide, fun k hk => absurd hk (Nat.not_lt_zero k)⟩
theorem k_holds {d : Nat} {w : eW} {t : eT} {b : Nat × Nat} {m : eW} {ks : kT} {rl tl : List Int} {p : Int} (h : CI w t b m ks rl tl) (hpo : okI p) (hp : WFp m) (hr : WFr m) (hb : b.2 + 1 < 1000000000) : Cl (d + 100) 140 [rA 1, (0, p)] (enc w t) (AnC w m (b.1, b.2 + 1) (holdsK m ks p) rl tl (0, holdsV m p)) := by
  have hp2 : -2147483648 ≤ p ∧ p ≤ 2147483647 := hpo
  have hn16 : nP m ≤ 16 := by have := hp.1; unfold nP; omega
  have hDQ := DynP_Q.mp h.2.2.2.2.2
  have e86 : w 8 6 = (nP m : Int) := by rw [h.1.2.1.1]; have := hp.1; unfold nP; omega
  have fin : (¬ (0 ≤ p ∧ p < nP m)) → AnC w m (b.1, b.2 + 1) (holdsK m ks p) rl tl (0, holdsV m p) (some (0, -1)) (enc w t) := fun h9 => by
    have e1 : holdsV m p = -1 := by unfold holdsV; rw [if_neg h9]
    have e2 : holdsK m ks p = ks := by unfold holdsK; rw [if_neg h9]
    rw [e1, e2]
    exact AnC.lo h (Lo.rf _) (hDQ.le (Nat.le_succ _))
  refine g_chold2 (m := m) (b := b) (fun γ a1 a2 a3 a4 w t h => (c_liG (d := d) (ws_hold hp p.toNat) hp hr (b := (b.1, b.2 + 1)) (M := 1) (by decide) γ a1 a2 a3 a4 w t h).up (by omega)) ?_
  rw [w32_id (x := p) (by omega), e86, w32_id (x := (nP m : Int)) (by omega)]
  refine ⟨fun h9 => fin (by omega), fun h9 => ⟨fun h8 => ⟨⟨⟨h.2.1.2, h.2.1.1, hp, hr⟩, hDQ⟩, ?_⟩, fun h8 => fin (by omega)⟩⟩
  rintro w1 t2 ⟨lo, hD1, h0⟩
  refine ⟨⟨dq_ma hD1 h0, ⟨hp, hr⟩, by omega, h8⟩, ?_⟩
  rintro x3 rfl
  have hfl := fw_le m p.toNat
  rw [w32_id (x := ((fw m p.toNat : Nat) : Int)) (by omega), w32_id (x := 6) (by omega)]
  have hin : 0 ≤ p ∧ p < nP m := by omega
  refine ⟨fun h6 => ⟨by omega, ?_⟩, fun h6 => ?_⟩
  · obtain ⟨c1, c2, c3, _⟩ := wc_beg (Pm := wyP m (hwA m) (hwL m p.toNat) (mN w1) (mK w1)) hD1 h0 hb (hi53 w1 1 (if (1 : Int) = 1 then 1 else 20))
    have lo2 : ∀ a, a < 37 ∨ (47 < a ∧ a < 102) → a ≠ 53 → a ≠ 48 → wu (wu (begW w1 1) 53 10 p) 48 4 0 a = w a := fun a ha h53 h48 => by
      rw [wu_row h48, wu_row h53, begW_o (by omega) h53, lo a ha]
    have hHi : Hi (begW w1 1) (wu (wu (begW w1 1) 53 10 p) 48 4 0) := fun a ha => by rw [wu_row (by omega), wu_row (by omega)]
    have c4 := WCx.base c1 hHi
    generalize hw0 : wu (wu (begW w1 1) 53 10 p) 48 4 0 = w0 at *
    have e8 : w0 53 8 = 1 := by rw [← hw0, wu_row (by decide), wu_nk _ _ (by decide)]; exact (begW_8 (w := w1) (k := 1)).1
    have e9 : w0 53 9 = ((1 : Nat) : Int) := by rw [← hw0, wu_row (by decide), wu_nk _ _ (by decide), (begW_8 (w := w1) (k := 1)).2, if_pos rfl]; rfl
    have e10 : w0 53 10 = ((p.toNat : Nat) : Int) := by rw [← hw0, wu_row (by decide), wu_eq]; omega
    have kz : KC w0 [] := by rw [← hw0]; exact KC.zero _
    have hL2 : hwL m p.toNat (2 * fw m p.toNat) (16, 16, 16) = hL m p.toNat (fw m p.toNat) 0 (16, 16, 16) := by
      unfold hwL
      rw [show 2 * fw m p.toNat / 2 = fw m p.toNat by omega, show 2 * fw m p.toNat % 2 = 0 by omega]
    refine ⟨(w0, mN w1, mK w1, 2 * fw m p.toNat, (16, 16, 16), [], [], []), ⟨wh_hold hp (h.1.2.1.lo9 (fun a h1 h2 => lo2 a (by omega) (by omega) (by omega))) e8 e10 (by omega), e9, ⟨⟨show 2 * fw m p.toNat ≤ 13 by omega, tri_start m⟩, by show 2 * ((fw m p.toNat : Nat) : Int) = ((2 * fw m p.toNat : Nat) : Int); omega, c2, by show 2 * fw m p.toNat / 2 < 31; omega, by show 2 * fw m p.toNat / 2 ≤ 30; omega, c4⟩, ⟨kz, Nat.zero_le _⟩, ⟨rfl, rfl, PaC.nil⟩, fun x hx => ?_⟩, ?_⟩
    · have hx : x ∈ hwL m p.toNat (2 * fw m p.toNat) (16, 16, 16) := hx
      rw [hL2] at hx
      obtain ⟨y1, y2⟩ := hL_el _ _ _ x hx
      rw [y1, y2]
      show 0 + fw m p.toNat ≤ 13 ∧ 0 + 0 ≤ 6
      omega
    · rintro w5 t6 ⟨d1, d2, d3, d4⟩
      have d3 : KC w5 (adK 1 [] [] [] (hwL m p.toNat (2 * fw m p.toNat) (16, 16, 16))) := d3
      have hk : adK 1 [] [] [] (hwL m p.toNat (2 * fw m p.toNat) (16, 16, 16)) = [(hpt m p.toNat (fw m p.toNat) 0 16 16 16, [])] := by
        rw [hL2]
        unfold adK
        have := (hL_hB hp (wt := p.toNat) (fw m p.toNat) 0 (16, 16, 16)).2 (fw_hB (by omega))
        rw [List.nil_append, show (fun x : List Nat × List Nat => (([] : List Nat) ++ x.1, ([] : List Nat) ++ x.2)) = (fun x => x) from rfl, List.map_id']
        exact this
      have e1 : holdsV m p = ((fw m p.toNat : Nat) : Int) := by unfold holdsV; rw [if_pos hin, if_neg (by omega)]
      have e2 : holdsK m ks p = [(hpt m p.toNat (fw m p.toNat) 0 16 16 16, [])] := by unfold holdsK; rw [if_pos hin, if_neg (by omega)]
      rw [e1, e2, ← hk]
      have lo3 : ∀ a, a < 37 ∨ (55 < a ∧ a < 102) → w5 a = w a := fun a ha => by rw [d2 a (by omega), lo2 a (by omega) (by omega) (by omega)]
      have lk : LoK w w5 := fun a ha h1 _ h48 h53 _ _ _ => lo3 a (by
        have : ¬ (48 ≤ a ∧ a ≤ 55) := fun h9 => by
          have h10 : a = 48 ∨ a = 49 ∨ a = 50 ∨ a = 51 ∨ a = 52 ∨ a = 53 ∨ a = 54 ∨ a = 55 := by omega
          rcases h10 with h10 | h10 | h10 | h10 | h10 | h10 | h10 | h10 <;> rw [h10] at h1 <;> first | omega | exact absurd h1 (by decide)
        omega)
      exact ⟨w5, t6, rfl, rfl, fun a h1 h2 => lo3 a (by omega), h.lok lk d1.2.1.1 ⟨by unfold TC TI; rw [lo3 2 (by omega), lo3 3 (by omega)]; exact h.1.1.1, by rw [lo3 2 (by omega)]; exact h.1.1.2⟩ d3 (by unfold TlC; rw [lo3 1 (by omega), lo3 66 (by omega)]; exact h.2.2.2.2.1)⟩
  · have e1 : holdsV m p = -2 := by unfold holdsV; rw [if_pos hin, if_pos (by omega)]
    have e2 : holdsK m ks p = ks := by unfold holdsK; rw [if_pos hin, if_pos (by omega)]
    rw [e1, e2]
    exact AnC.lo h lo (hD1.le (Nat.le_succ _))
theorem k_never {d : Nat} {w : eW} {t : eT} {b : Nat × Nat} {m : eW} {ks : kT} {rl tl : List Int} (h : CI w t b m ks rl tl) (hp : WFp m) (hr : WFr m) : Cl (d + 10) 141 [rA 1] (enc w t) (AnC w m b ks rl tl (0, (neverV m : Int))) := by
  have hn16 : nP m ≤ 16 := by have := hp.1; unfold nP; omega
  have hDQ := DynP_Q.mp h.2.2.2.2.2
  refine g_cnev0 (m := m) (b := b) ⟨⟨⟨h.2.1.2, h.2.1.1, hp, hr⟩, hDQ⟩, ?_⟩
  rintro w1 t2 ⟨lo, hD1, h0⟩
  have e86 : w1 8 6 = (nP m : Int) := by rw [lo 8 (by omega), h.1.2.1.1]; have := hp.1; unfold nP; omega
  suffices hk : ∀ (k p : Nat), p + k = nP m → Ev (d + 10) 141 (AnC w m b ks rl tl (0, (neverV m : Int))) 8 [rA 1, (0, ((bts (fun p => decide (fw m p = 7)) p : Nat) : Int)), (0, (p : Int))] [] (enc w1 t2) from hk (nP m) 0 (by omega)
  intro k
  induction k with
  | zero =>
    intro p hpk
    refine g_cnev1 (m := m) (b := b) ?_
    rw [e86, show (p : Int) = (nP m : Int) by omega, show p = nP m by omega]
    exact ⟨fun _ => AnC.lo h lo hD1, fun h9 => absurd (Int.le_refl _) h9⟩
  | succ k ih =>
    intro p hpk
    refine g_cnev1 (m := m) (b := b) ?_
    have hfl := fw_le m p
    rw [e86, w32_id (x := (nP m : Int)) (by omega), w32_id (x := (p : Int)) (by omega)]
    refine ⟨fun h9 => by omega, fun _ => ⟨⟨dq_ma hD1 h0, ⟨hp, hr⟩, by omega, by omega⟩, ?_⟩⟩
    rintro x1 rfl
    rw [Int.toNat_natCast, w32_id (x := ((fw m p : Nat) : Int)) (by omega), w32_id (x := 6) (by omega), show ((p : Int) + 1) = ((p + 1 : Nat) : Int) by omega]
    have := ih (p + 1) (by omega)
    unfold bts at this
    refine ⟨fun h9 => ?_, fun h9 => ?_⟩
    · rw [if_neg (by rw [decide_eq_false (by omega)]; decide), Nat.or_zero] at this
      exact this
    · rw [if_pos (by rw [decide_eq_true (by omega)])] at this
      rw [bts_setI (by omega)]
      exact this
