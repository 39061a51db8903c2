/-! The class: rows. -/

theorem c_wyG {d : Nat} {m : eW} {W : Nat → Bool} {P : Nat → Nat} {B : Nat → Nat → Nat} {E : Nat → Nat} {I : Nat → Nat → Nat} {A : Nat → t3 → Prop} {μ : Nat → t3 → Nat} {L : Nat → t3 → kT} (hS : WSy m W P B E I A μ L) (hp : WFp m) (hr : WFr m) {b : Nat × Nat} (γ : eW × Nat × (Nat → Int) × Nat × t3) (a1 a2 a3 : Int) (w : eW) (t : eT) (h : WHy d m W P B E I A γ.1 ∧ WyR m A μ (wyP m A L γ.2.1 γ.2.2.1) γ.1 b γ.2.1 γ.2.2.1 31 γ.2.2.2 a1 a2 a3 w t) : Cl (d + 41) 105 [rA 53, (0, a1), (0, a2), (0, a3)] (enc w t) (fun r S2 => ∃ x w2 t2, r = some (1, x) ∧ S2 = enc w2 t2 ∧ WyO m L (wyP m A L γ.2.1 γ.2.2.1) b γ.2.2.2 a1 a2 a3 w t x w2 t2) := c_wy hS hp hr h.1 31 γ.2.2.2 a1 a2 a3 w t h.2
theorem c_liG {d : Nat} {m : eW} {W : Nat → Bool} {P : Nat → Nat} {B : Nat → Nat → Nat} {E : Nat → Nat} {I : Nat → Nat → Nat} {A : Nat → t3 → Prop} {μ : Nat → t3 → Nat} {L : Nat → t3 → kT} (hS : WSy m W P B E I A μ L) (hp : WFp m) (hr : WFr m) {b : Nat × Nat} {M : Nat} (hM : 1 ≤ M ∧ M ≤ 20) (γ : eW × Nat × (Nat → Int) × Nat × t3 × kT × List Nat × List Nat) (a1 a2 a3 a4 : Int) (w : eW) (t : eT) (h : WHy d m W P B E I A γ.1 ∧ γ.1 53 9 = (M : Int) ∧ LiR m A μ L (wyP m A L γ.2.1 γ.2.2.1) γ.1 b γ.2.1 γ.2.2.1 M 31 γ.2.2.2 a1 a2 a3 a4 w t) : Cl (d + 81) 106 [rA 53, (0, a1), (0, a2), (0, a3), (0, a4)] (enc w t) (fun r S2 => ∃ w2 t2, r = none ∧ S2 = enc w2 t2 ∧ LiO m L (wyP m A L γ.2.1 γ.2.2.1) γ.1 b γ.2.1 γ.2.2.1 M γ.2.2.2 a1 a2 a3 a4 w t w2 t2) := c_li hS hp hr h.1 hM h.2.1 31 γ.2.2.2 a1 a2 a3 a4 w t h.2.2
def allB (m : eW) : Nat := 2 ^ nP m - 1
theorem allB_t {m : eW} {p : Nat} : (allB m).testBit p = decide (p < nP m) := by
  unfold allB
  exact Nat.testBit_two_pow_sub_one _ _
theorem allB_lt {m : eW} (hp : WFp m) : allB m < 65536 := by
  have hn : nP m ≤ 16 := by have := hp.1; unfold nP; omega
  have h1 : 2 ^ nP m ≤ 2 ^ 16 := Nat.pow_le_pow_right (by decide) hn
  have h2 : 2 ^ 16 = 65536 := by decide
  have := Nat.two_pow_pos (nP m)
  unfold allB
  omega
/-- the pairs that may come here -/
theorem all_mf {m : eW} (hp : WFp m) {g : t3} {p : Nat} (hp16 : p < 16) : (allB m &&& mfG m g).testBit p = (decide (p < nP m) && goes m (-1) g.1 g.2.1 g.2.2 p) := by
  rw [Nat.testBit_and, allB_t, mf_tb (by omega), if_neg (by omega)]
  cases decide (p < nP m) <;> rfl
def lR (m : eW) : Nat → t3 → kT
  | 0, g => if isE m (-1) g.1 g.2.1 g.2.2 then [([], [])] else []
  | n + 1, g => lsD (fun p => if (allB m &&& mfG m g).testBit p then (lR m n (gN g p)).map (fun x => (p :: x.1, x.2)) else []) 16
theorem lR_len {m : eW} (hp : WFp m) : ∀ (n : Nat) (g : t3), (lR m n g).length = cR m (-1) n g.1 g.2.1 g.2.2 := by
  have hn : nP m ≤ 16 := by have := hp.1; unfold nP; omega
  intro n
  induction n with
  | zero => intro g; unfold lR cR; split <;> rfl
  | succ n ih =>
    intro g
    unfold lR cR
    rw [lsD_len, sm_ext hn (fun p h1 h2 => by rw [all_mf hp h2, decide_eq_false (by omega), Bool.false_and, if_neg (by decide)]; rfl)]
    refine sm_congr (fun p h1 => ?_)
    rw [all_mf hp (by omega), decide_eq_true h1, Bool.true_and]
    split
    · rw [List.length_map, ih]; rfl
    · rfl
def rwW (st : Nat) : Bool := decide (st = 0)
def rwP (m : eW) (st : Nat) : Nat := if st = 0 then 0 else allB m
def rwB (st _ : Nat) : Nat := st - 1
def noE (_ : Nat) : Nat := 0
def noJ (_ _ : Nat) : Nat := 0
def rwA (m : eW) (st : Nat) (g : t3) : Prop := st ≤ 8 ∧ triG m g
def rwM (st : Nat) (_ : t3) : Nat := st
theorem noE_t {st e : Nat} : (noE st).testBit e = false := Nat.zero_testBit e
theorem ws_rows {m : eW} (hp : WFp m) : WSy m rwW (rwP m) rwB noE noJ (rwA m) rwM (lR m) := by
  have hn : nP m ≤ 16 := by have := hp.1; unfold nP; omega
  intro st g hA
  have hb : (lR m st g).length < 1000000000000000000 := by
    rw [lR_len hp]
    have h1 := cR_le hn (-1) st g.1 g.2.1 g.2.2
    have h2 : 16 ^ st ≤ 16 ^ 8 := Nat.pow_le_pow_right (by decide) hA.1
    have h3 : 16 ^ 8 = 4294967296 := by decide
    omega
  obtain ⟨hA1, hA2⟩ := hA
  refine ⟨⟨⟨by omega, ?_, by unfold noE; decide⟩, hb⟩, fun p hp16 h1 h2 => ?_, fun e _ h1 => ?_, ?_⟩
  · unfold rwP
    split
    · decide
    · exact allB_lt hp
  · unfold rwP at h1
    by_cases h0 : st = 0
    · rw [if_pos h0, Nat.zero_testBit] at h1; cases h1
    · rw [if_neg h0, allB_t] at h1
      unfold rwA rwB rwM
      exact ⟨⟨by omega, triG_nx hp hA2 (of_decide_eq_true h1)⟩, by omega⟩
  · rw [noE_t] at h1; cases h1
  · rw [lsD_nil (f := fun e => if (noE st).testBit e = true then _ else []) 16 (fun e _ => by rw [noE_t, if_neg (by decide)]), List.append_nil]
    unfold rwW rwP rwB
    cases st with
    | zero =>
      rw [lsD_nil 16 (fun e _ => by rw [if_pos rfl, Nat.zero_and, Nat.zero_testBit, if_neg (by decide)]), List.append_nil]
      rfl
    | succ n =>
      rw [if_neg (by rw [decide_eq_false (by omega), Bool.false_and]; decide), List.nil_append]
      show lsD _ 16 = _
      refine lsD_cg 16 (fun p _ => ?_)
      rw [if_neg (show ¬ (n + 1 = 0) by omega)]; rfl
theorem wh_ent {d : Nat} {A : Nat → t3 → Prop} {w0 : eW} (hk : w0 53 8 = 0 ∨ w0 53 8 = 1 ∨ w0 53 8 = 2 ∨ w0 53 8 = 3) (a : Int) (w : eW) (t : eT) (h : wR1 A w0 a w) : Cl (d + 8) 115 [rA 53, (0, a)] (enc w t) (fun r S2 => ∃ x, r = some (0, x) ∧ S2 = enc w t ∧ x = ((noE a.toNat : Nat) : Int)) := by
  refine Cl.up (d := d + 3) (g_ea ?_) (by omega)
  have e : w 53 8 = w0 53 8 := by rw [h.2 53 (by omega)]
  rw [e]
  refine ⟨fun h9 => ?_, fun _ => ⟨_, rfl, rfl, rfl⟩⟩
  exfalso
  rcases hk with h1 | h1 | h1 | h1 <;> rw [h1] at h9 <;> exact absurd h9 (by decide)
theorem wh_no {d : Nat} {A : Nat → t3 → Prop} {w0 : eW} (a p : Int) (w : eW) (t : eT) (h : wR3 noE A w0 a p w) : Cl (d + 8) 116 [rA 53, (0, a), (0, p)] (enc w t) (fun r S2 => ∃ x, r = some (0, x) ∧ S2 = enc w t ∧ x = ((noJ a.toNat p.toNat : Nat) : Int)) := by
  obtain ⟨⟨st, g, q, _, _, _, _, h1⟩, _⟩ := h
  rw [noE_t] at h1; cases h1
theorem wh_rows {d : Nat} {m w0 : eW} (hp : WFp m) (hA0 : AC w0 m) (hk : w0 53 8 = 0) : WHy d m rwW (rwP m) rwB noE noJ (rwA m) w0 := by
  refine ⟨fun a w t h => ?_, fun a w t h => ?_, fun a p w t h => ?_, wh_ent (Or.inl hk), wh_no⟩
  · refine Cl.up (d := d + 4) (g_iw ?_) (by omega)
    obtain ⟨⟨st, g, hA, rfl⟩, hi⟩ := h
    have hA : st ≤ 8 := hA.1
    unfold rwW
    rw [hi 53 (by omega), hk, w32_id (x := 0) (by omega), w32_id (x := (st : Int)) (by omega), Int.toNat_natCast]
    refine ⟨fun _ => ⟨fun h9 => ⟨_, rfl, rfl, ?_⟩, fun h9 => ⟨_, rfl, rfl, ?_⟩⟩, fun h9 => by omega, fun h9 => by omega, fun h9 => by omega, fun h9 => by omega⟩
    · rw [decide_eq_false (by omega)]; rfl
    · rw [decide_eq_true (by omega)]; rfl
  · refine Cl.up (d := d + 5) (g_pa (m := m) ?_) (by omega)
    obtain ⟨⟨st, g, hA, rfl⟩, hi⟩ := h
    have hA : st ≤ 8 := hA.1
    unfold rwP
    rw [hi 53 (by omega), hk, w32_id (x := 0) (by omega), w32_id (x := (st : Int)) (by omega), Int.toNat_natCast]
    refine ⟨fun _ => ⟨fun h9 => ⟨_, rfl, rfl, ?_⟩, fun h9 => ⟨⟨?_, hp⟩, _, rfl, rfl, ?_⟩⟩, fun h9 => by omega, fun h9 => by omega, fun h9 => by omega, fun h9 => by omega⟩
    · rw [if_pos (by omega)]; rfl
    · unfold AC; rw [hi 8 (by omega), hi 9 (by omega), hi 10 (by omega), hi 11 (by omega), hi 12 (by omega)]; exact hA0
    · rw [if_neg (by omega)]; rfl
  · refine Cl.up (d := d + 5) (g_sb (m := m) ?_) (by omega)
    obtain ⟨⟨st, g, q, hA, rfl, rfl, hq, h1, h2⟩, hi⟩ := h
    unfold rwP at h1
    unfold rwB
    have h0 : st ≠ 0 := fun h0 => by rw [if_pos h0, Nat.zero_testBit] at h1; cases h1
    rw [hi 53 (by omega), hk, w32_id (x := 0) (by omega), Int.toNat_natCast, Int.toNat_natCast]
    refine ⟨fun _ => ⟨_, rfl, rfl, ?_⟩, fun h9 => by omega, fun h9 => by omega, fun h9 => by omega, fun h9 => by omega⟩
    omega
theorem begW_o {w : eW} {k : Int} {a : Nat} (h1 : a ≠ 45) (h2 : a ≠ 53) : begW w k a = w a := by
  unfold begW clW
  rw [wu_row h1, wu_row h1, wu_row h2, wu_row h2]
theorem begW_8 {w : eW} {k : Int} : begW w k 53 8 = k ∧ begW w k 53 9 = if k = 1 then 1 else 20 := by
  unfold begW clW
  rw [wu_row (show (53 : Nat) ≠ 45 by decide), wu_row (show (53 : Nat) ≠ 45 by decide), wu_eq, wu_nk _ _ (show (8 : Nat) ≠ 9 by decide), wu_eq]
  exact ⟨rfl, rfl⟩
theorem AC.lo9 {w w2 m : eW} (h : AC w m) (e : ∀ a, 8 ≤ a → a ≤ 12 → w2 a = w a) : AC w2 m := by
  unfold AC
  rw [e 8 (by omega) (by omega), e 9 (by omega) (by omega), e 10 (by omega) (by omega), e 11 (by omega) (by omega), e 12 (by omega) (by omega)]
  exact h
theorem hi53 (w : eW) (k v : Int) : Hi w (wu (wu w 53 8 k) 53 9 v) := fun a ha => by rw [wu_row (by omega), wu_row (by omega)]
theorem k_rows {d : Nat} {w : eW} {t : eT} {b : Nat × Nat} {m : eW} {ks : kT} {rl tl : List Int} {n : Int} (h : CI w t b m ks rl tl) (hn : okI n) (hp : WFp m) (hr : WFr m) (hb : b.2 + 1 < 1000000000) : Cl (d + 100) 139 [rA 1, (0, n)] (enc w t) (AnC w m (b.1, b.2 + 1) ks rl tl (1, rowsV m n)) := by
  have hn2 : -2147483648 ≤ n ∧ n ≤ 2147483647 := hn
  have hDQ := DynP_Q.mp h.2.2.2.2.2
  have fin : ∀ x, x = rowsV m n → AnC w m (b.1, b.2 + 1) ks rl tl (1, rowsV m n) (some (1, x)) (enc w t) := fun x hx => by
    subst hx
    exact AnC.lo h (Lo.rf _) (hDQ.le (Nat.le_succ _))
  refine g_crows (m := m) (b := b) (fun γ a1 a2 a3 w t h => (c_wyG (d := d) (ws_rows hp) hp hr (b := (b.1, b.2 + 1)) γ a1 a2 a3 w t h).up (by omega)) ?_
  rw [w32_id (x := n) (by omega), w32_id (x := 8) (by omega)]
  refine ⟨fun h9 => fin _ (by unfold rowsV; rw [if_neg (by omega)]), fun h9 => ⟨fun h8 => ⟨⟨⟨h.2.1.2, h.2.1.1, hp, hr⟩, hDQ⟩, ?_⟩, fun h8 => fin _ (by unfold rowsV; rw [if_neg (by omega)])⟩⟩
  rintro w1 t2 ⟨lo, hD1, h0⟩
  refine ⟨by omega, ?_⟩
  obtain ⟨c1, c2, c3, _⟩ := wc_beg (Pm := wyP m (rwA m) (lR m) (mN w1) (mK w1)) hD1 h0 hb (hi53 w1 0 (if (0 : Int) = 1 then 1 else 20))
  have lo2 : ∀ a, a < 37 ∨ (47 < a ∧ a < 102) → a ≠ 53 → begW w1 0 a = w a := fun a ha h53 => by rw [begW_o (by omega) h53, lo a ha]
  refine ⟨(begW w1 0, mN w1, mK w1, n.toNat, (16, 16, 16)), ⟨wh_rows hp (h.1.2.1.lo9 (fun a h1 h2 => lo2 a (by omega) (by omega))) (begW_8 (w := w1) (k := 0)).1, ⟨show n.toNat ≤ 8 by omega, tri_start m⟩, by show n = (n.toNat : Int); omega, c2, by show n.toNat < 31; omega, by show (0 : Int) ≤ 0 ∧ (0 : Int) + (n.toNat : Int) ≤ 30; omega, c1⟩, ?_⟩
  rintro x4 w5 t6 ⟨rfl, mr, mc⟩
  have hv : ((lR m n.toNat (16, 16, 16)).length : Int) = rowsV m n := by
    unfold rowsV
    rw [if_pos (by omega), lR_len hp]
  show AnC w m (b.1, b.2 + 1) ks rl tl (1, rowsV m n) (some (1, ((lR m n.toNat (16, 16, 16)).length : Int))) (enc w5 t6)
  rw [hv]
  have lo3 : ∀ a, a < 37 ∨ (47 < a ∧ a < 102) → a ≠ 53 → w5 a = w a := fun a ha h53 => by rw [mr.2.1 a ha, lo2 a ha h53]
  have lk : LoK w w5 := fun a ha _ _ _ h53 _ _ _ => lo3 a ha h53
  refine ⟨w5, t6, rfl, rfl, fun a h1 h2 => lo3 a (by omega) (by omega), h.lok lk mc.1 ⟨by unfold TC TI; rw [lo3 2 (by omega) (by omega), lo3 3 (by omega) (by omega)]; exact h.1.1.1, by rw [lo3 2 (by omega) (by omega)]; exact h.1.1.2⟩ (h.2.2.2.1.cg (fun a h1 h2 => lo3 a (by omega) (by omega))) (by unfold TlC; rw [lo3 1 (by omega) (by omega), lo3 66 (by omega) (by omega)]; exact h.2.2.2.2.1)⟩
