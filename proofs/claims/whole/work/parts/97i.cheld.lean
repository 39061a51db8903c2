/-! The class: rows that one rule alone holds back. -/

def hbV (m : eW) (q n : Nat) (g : t3) (br : Bool) : Int := (cR m (q : Int) n g.1 g.2.1 g.2.2 : Int) - (if br = true then 0 else (cR m (-1) n g.1 g.2.1 g.2.2 : Int))
theorem tE_okP {m : eW} (hr : WFr m) {g h : t3} (e : tE m g h) {p : Nat} (wo : Int) : okP m wo g.1 g.2.1 g.2.2 p = okP m wo h.1 h.2.1 h.2.2 p := by
  unfold okP
  exact al_congr (fun r hrl => by rw [e.brk hr hrl])
theorem tE_goes {m : eW} (hr : WFr m) {g h : t3} (e : tE m g h) {p : Nat} (wo : Int) : goes m wo g.1 g.2.1 g.2.2 p = goes m wo h.1 h.2.1 h.2.2 p := by
  have e1 : g.2.2 = h.2.2 := (e.l hr).1
  unfold goes
  rw [tE_okP hr e, e1]
theorem tE_cR {m : eW} (hp : WFp m) (hr : WFr m) {wo : Int} : ∀ (n : Nat) (g h : t3), tE m g h → cR m wo n g.1 g.2.1 g.2.2 = cR m wo n h.1 h.2.1 h.2.2 := by
  intro n
  induction n with
  | zero => intro g h e; unfold cR isE; rw [tE_okP hr e]
  | succ n ih =>
    intro g h e
    unfold cR
    refine sm_congr (fun d hd => ?_)
    have hd16 : d ≤ 16 := by have := hp.n; omega
    have := ih _ _ (e.nx hr hd16)
    unfold gN at this
    dsimp only at this
    rw [tE_goes hr e, this]
def PmB (m : eW) (q : Nat) (key v : Int) : Prop := ∀ (n : Nat) (br : Bool) (g : t3), n ≤ 3 → gL g ≤ 16 → key = ((((trG m g : Nat) : Int) * 4 + (n : Int)) * 2 + (if br = true then 1 else 0)) → v = hbV m q n g br
def smI (f : Nat → Int) : Nat → Int
  | 0 => 0
  | n + 1 => smI f n + f n
theorem smI_sub (A B : Nat → Nat) : ∀ n, smI (fun d => (A d : Int) - (B d : Int)) n = (sm A n : Int) - (sm B n : Int) := by
  intro n
  induction n with
  | zero => rfl
  | succ n ih =>
    show smI (fun d => (A d : Int) - (B d : Int)) n + ((A n : Int) - (B n : Int)) = ((sm A n + A n : Nat) : Int) - ((sm B n + B n : Nat) : Int)
    rw [ih]
    omega
theorem smI_congr {f g : Nat → Int} {n : Nat} (h : ∀ i, i < n → f i = g i) : smI f n = smI g n := by
  induction n with
  | zero => rfl
  | succ n ih =>
    show smI f n + f n = smI g n + g n
    rw [ih (fun i hi => h i (by omega)), h n (by omega)]
/-- what a pair adds -/
def hbT (m : eW) (q n : Nat) (g : t3) (br : Bool) (d : Nat) : Int := if goes m (q : Int) g.1 g.2.1 g.2.2 d = true then hbV m q n (gN g d) (br || !okP m (-1) g.1 g.2.1 g.2.2 d) else 0
theorem okP_w {m : eW} {a b c d : Nat} {q : Int} (h : okP m (-1) a b c d = true) : okP m q a b c d = true := by
  unfold okP at *
  rw [al_iff] at *
  intro r hr
  have := h r hr
  rw [decide_eq_false (by omega), Bool.false_or] at this
  rw [this, Bool.or_true]
theorem hbV_s {m : eW} {q n : Nat} {g : t3} {br : Bool} : hbV m q (n + 1) g br = smI (hbT m q n g br) (nP m) := by
  have : ∀ d, d < nP m → hbT m q n g br d = (((if goes m (q : Int) g.1 g.2.1 g.2.2 d then cR m (q : Int) n g.2.1 g.2.2 d else 0 : Nat)) : Int) - (((if br = true then 0 else (if goes m (-1) g.1 g.2.1 g.2.2 d then cR m (-1) n g.2.1 g.2.2 d else 0) : Nat)) : Int) := fun d _ => by
    unfold hbT hbV gN
    dsimp only
    cases hq : goes m (q : Int) g.1 g.2.1 g.2.2 d with
    | false =>
      have h1 : goes m (-1) g.1 g.2.1 g.2.2 d = false := by
        cases h9 : goes m (-1) g.1 g.2.1 g.2.2 d with
        | false => rfl
        | true =>
          unfold goes at h9 hq
          rw [Bool.and_eq_true] at h9
          rw [h9.1, okP_w h9.2] at hq
          cases hq
      rw [h1]
      cases br <;> simp
    | true =>
      rw [if_pos rfl, if_pos rfl]
      cases br with
      | true => simp
      | false =>
        cases ho : okP m (-1) g.1 g.2.1 g.2.2 d with
        | true =>
          have h1 : goes m (-1) g.1 g.2.1 g.2.2 d = true := by
            unfold goes at hq ⊢
            rw [Bool.and_eq_true] at hq
            rw [hq.1, ho]; rfl
          rw [h1]
          simp
        | false =>
          have h1 : goes m (-1) g.1 g.2.1 g.2.2 d = false := by unfold goes; rw [ho, Bool.and_false]
          rw [h1]
          simp
  rw [smI_congr this, smI_sub]
  unfold hbV
  cases br with
  | true =>
    have hz : sm (fun d => if true = true then 0 else (if goes m (-1) g.1 g.2.1 g.2.2 d then cR m (-1) n g.2.1 g.2.2 d else 0)) (nP m) = 0 := sm_zero.mpr (fun _ _ => rfl)
    rw [if_pos rfl, hz]
    rfl
  | false => rfl
theorem free_i {m : eW} (hr : WFr m) {g : t3} {p q : Nat} (hq : q < nR m) : (brG m g p &&& (2147483647 ^^^ 2 ^ q) = 0 ↔ okP m (q : Int) g.1 g.2.1 g.2.2 p = true) ∧ (brG m g p = 0 ↔ okP m (-1) g.1 g.2.1 g.2.2 p = true) := by
  have hn := hr.n.2
  have bit : ∀ i, i < nR m → (brG m g p).testBit i = brk m i g.1 g.2.1 g.2.2 p := fun i hi => by unfold brG; rw [bts_tb, decide_eq_true hi]; rfl
  constructor
  · unfold okP
    rw [al_iff]
    constructor
    · intro h r hrl
      by_cases h9 : r = q
      · rw [h9, decide_eq_true rfl]; rfl
      · have h8 : (brG m g p &&& (2147483647 ^^^ 2 ^ q)).testBit r = false := by rw [h, Nat.zero_testBit]
        rw [Nat.testBit_and, Nat.testBit_xor, Nat.testBit_two_pow, bit r hrl, show (2147483647 : Nat) = 2 ^ 31 - 1 from rfl, Nat.testBit_two_pow_sub_one, decide_eq_true (by omega), decide_eq_false (fun h7 => h9 h7.symm)] at h8
        simp at h8
        rw [h8]
        simp
    · intro h
      apply Nat.eq_of_testBit_eq
      intro i
      rw [Nat.zero_testBit, Nat.testBit_and]
      by_cases hi : i < nR m
      · rw [bit i hi]
        have := h i hi
        by_cases h9 : i = q
        · rw [Nat.testBit_xor, Nat.testBit_two_pow, h9, decide_eq_true rfl, show (2147483647 : Nat) = 2 ^ 31 - 1 from rfl, Nat.testBit_two_pow_sub_one, decide_eq_true (by omega)]
          simp
        · rw [decide_eq_false (by omega), Bool.false_or] at this
          simp at this
          rw [this]; rfl
      · unfold brG
        rw [bts_tb, decide_eq_false hi]; rfl
  · rw [okP_al]
    unfold brG
    rw [bts_zero, al_iff]
    exact ⟨fun h r hrl => by rw [h r hrl]; rfl, fun h r hrl => by have := h r hrl; simpa using this⟩
def HbR (m : eW) (b : Nat × Nat) (q : Nat) (B : Nat) (g : t3) (a n x z : Int) (w : eW) (t : eT) : Prop := (AC w m ∧ LN w m ∧ RC w m ∧ WFp m ∧ WFr m) ∧ MC (PmB m q) b m w t ∧ a = (q : Int) ∧ q < nR m ∧ (0 ≤ n ∧ n ≤ 3 ∧ n.toNat < B) ∧ x = ((trG m g : Nat) : Int) ∧ gL g ≤ 16 ∧ (z = 0 ∨ z = 1)
def HbO (m : eW) (b : Nat × Nat) (q : Nat) (g : t3) (a n x z : Int) (w : eW) (t : eT) (y : Int) (w2 : eW) (t2 : eT) : Prop := y = hbV m q n.toNat g (decide (z = 1)) ∧ MR w t w2 t2 ∧ MC (PmB m q) b m w2 t2

theorem g_hb {d : Nat} {Q : Option aV → aS → Prop} {w : eW} {t : eT} {q n x z : Int} {m : eW} {b : Nat × Nat} {P : Int → Int → Prop} (h : ((w32 z = 0 → Ev (d + 4) 59 Q 20 [rA 56, (0, q), (0, n), (0, x), (0, z), (9, 0), (9, 0), (9, 0), (9, 0), (9, 0), (9, 0), (9, 0), (9, 0)] [(0, ior (ishl (ior (ishl x 2) (iand n 3)) 1) 0)] (enc w t)) ∧ (¬ (w32 z = 0) → Ev (d + 4) 59 Q 20 [rA 56, (0, q), (0, n), (0, x), (0, z), (9, 0), (9, 0), (9, 0), (9, 0), (9, 0), (9, 0), (9, 0), (9, 0)] [(0, ior (ishl (ior (ishl x 2) (iand n 3)) 1) 1)] (enc w t)))) : Cl (d + 4) 59 [rA 56, (0, q), (0, n), (0, x), (0, z)] (enc w t) Q := by
  show Ev (d + 4) 59 Q 0 [rA 56, (0, q), (0, n), (0, x), (0, z), (9, 0), (9, 0), (9, 0), (9, 0), (9, 0), (9, 0), (9, 0), (9, 0)] [] (enc w t)
  refine e_ldi (show am_cd 59 0 = (2, 1, 3, 0, []) by decide +kernel) rfl ?_
  refine e_ic (show am_cd 59 1 = (0, 2, 0, 2, []) by decide +kernel) ?_
  refine e_ishl (show am_cd 59 2 = (5, 3, 6, 0, []) by decide +kernel) ?_
  refine e_ldi (show am_cd 59 3 = (2, 4, 2, 0, []) by decide +kernel) rfl ?_
  refine e_ic (show am_cd 59 4 = (0, 5, 0, 3, []) by decide +kernel) ?_
  refine e_iand (show am_cd 59 5 = (5, 6, 3, 0, []) by decide +kernel) ?_
  refine e_ior (show am_cd 59 6 = (5, 7, 4, 0, []) by decide +kernel) ?_
  refine e_ic (show am_cd 59 7 = (0, 8, 0, 1, []) by decide +kernel) ?_
  refine e_ishl (show am_cd 59 8 = (5, 9, 6, 0, []) by decide +kernel) ?_
  refine e_ldi (show am_cd 59 9 = (2, 11, 4, 0, []) by decide +kernel) rfl ?_
  refine e_if0 (show am_cd 59 11 = (10, 14, 18, 0, []) by decide +kernel) (fun hc => ?_) (fun hc => ?_)
  · replace h := h.1 hc
    refine e_ic (show am_cd 59 18 = (0, 19, 0, 0, []) by decide +kernel) ?_
    refine e_ior (show am_cd 59 19 = (5, 20, 4, 0, []) by decide +kernel) ?_
    exact h
  · replace h := h.2 hc
    refine e_ic (show am_cd 59 14 = (0, 15, 0, 1, []) by decide +kernel) ?_
    refine e_go (show am_cd 59 15 = (12, 19, 0, 0, []) by decide +kernel) ?_
    refine e_ior (show am_cd 59 19 = (5, 20, 4, 0, []) by decide +kernel) ?_
    exact h

theorem g_hb1 {d : Nat} {Q : Option aV → aS → Prop} {w : eW} {t : eT} {q n x z k : Int} {m : eW} {b : Nat × Nat} {P : Int → Int → Prop} (h : (MC P b m w t ∧ 0 ≤ k ∧ k < 2147483648) ∧ (∀ x1, (x1 = -1 ∨ P k x1) → ((w64 x1 < w64 0 → ((0 < w32 n → Ev (d + 4) 59 Q 91 [rA 56, (0, q), (0, n), (0, x), (0, z), (0, k), (1, x1), (9, 0), (1, 0), (9, 0), (9, 0), (9, 0), (9, 0)] [] (enc w t)) ∧ (¬ (0 < w32 n) → ∃ g2, (LN w m ∧ WFp m ∧ WFr m ∧ x = ((trG m g2 : Nat) : Int) ∧ gL g2 ≤ 16 ∧ (0 : Int) ≤ 16 ∧ (16 : Int) ≤ 16) ∧ (∀ x3, (x3 = ((brG m g2 16 : Nat) : Int)) → ((¬ w32 (iand x3 (ixor (ishl 1 q) (-1))) = 0 → Ev (d + 4) 59 Q 224 [rA 56, (0, q), (0, n), (0, x), (0, z), (0, k), (1, x1), (9, 0), (1, 0), (9, 0), (0, x3), (9, 0), (9, 0)] [] (enc w t)) ∧ (¬ (¬ w32 (iand x3 (ixor (ishl 1 q) (-1))) = 0) → ((¬ w32 z = 0 → Ev (d + 4) 59 Q 224 [rA 56, (0, q), (0, n), (0, x), (0, z), (0, k), (1, x1), (9, 0), (1, 1), (9, 0), (0, x3), (9, 0), (9, 0)] [] (enc w t)) ∧ (¬ (¬ w32 z = 0) → ((w32 x3 = 0 → Ev (d + 4) 59 Q 224 [rA 56, (0, q), (0, n), (0, x), (0, z), (0, k), (1, x1), (9, 0), (1, 0), (9, 0), (0, x3), (9, 0), (9, 0)] [] (enc w t)) ∧ (¬ (w32 x3 = 0) → Ev (d + 4) 59 Q 224 [rA 56, (0, q), (0, n), (0, x), (0, z), (0, k), (1, x1), (9, 0), (1, 1), (9, 0), (0, x3), (9, 0), (9, 0)] [] (enc w t))))))))))) ∧ (¬ (w64 x1 < w64 0) → Q (some (1, x1)) (enc w t))))) : Ev (d + 4) 59 Q 20 [rA 56, (0, q), (0, n), (0, x), (0, z), (9, 0), (9, 0), (9, 0), (9, 0), (9, 0), (9, 0), (9, 0), (9, 0)] [(0, k)] (enc w t) := by
  refine e_sti (la2 := [rA 56, (0, q), (0, n), (0, x), (0, z), (0, k), (9, 0), (9, 0), (9, 0), (9, 0), (9, 0), (9, 0), (9, 0)]) (show am_cd 59 20 = (3, 22, 5, 0, []) by decide +kernel) rfl ?_
  refine e_lda (v := 56) (show am_cd 59 22 = (2, 23, 0, 2, []) by decide +kernel) rfl ?_
  refine e_getr (a := 56) (r := 45) (show am_cd 59 23 = (18, 26, 603, 2, [27]) by decide +kernel) (by decide +kernel) (by decide +kernel) rfl ?_
  refine e_ldi (show am_cd 59 26 = (2, 28, 5, 0, []) by decide +kernel) rfl ?_
  refine e_cV (z := 0) (a := 45) (as := [(0, k)]) (rest := []) (show am_cd 59 28 = (40, 31, 46, 0, [46]) by decide +kernel) (by decide +kernel) rfl rfl (Nat.le_of_ble_eq_true rfl) rfl ?_
  refine Cl.mono (Cl.up (m_find (P := P) (m := m) (b := b) (d := d) h.1) (by omega)) ?_
  rintro _ _ ⟨x1, rfl, rfl, hp⟩
  refine ⟨fun _ h9 => (by cases h9), ?_⟩
  replace h := h.2 x1 hp
  show Ev _ 59 _ 31 [rA 56, (0, q), (0, n), (0, x), (0, z), (0, k), (9, 0), (9, 0), (9, 0), (9, 0), (9, 0), (9, 0), (9, 0)] [(1, x1)] _
  refine e_stl (la2 := [rA 56, (0, q), (0, n), (0, x), (0, z), (0, k), (1, x1), (9, 0), (9, 0), (9, 0), (9, 0), (9, 0), (9, 0)]) (show am_cd 59 31 = (3, 33, 6, 1, []) by decide +kernel) rfl ?_
  refine e_ldl (show am_cd 59 33 = (2, 35, 6, 1, []) by decide +kernel) rfl ?_
  refine e_lc (show am_cd 59 35 = (1, 36, 0, 0, []) by decide +kernel) ?_
  refine e_lcb2 (show am_cd 59 36 = (9, 37, 0, 0, []) by decide +kernel) (show am_cd 59 37 = (10, 40, 43, 2, []) by decide +kernel) (fun hc => ?_) (fun hc => ?_)
  · replace h := h.1 hc
    refine e_lc (show am_cd 59 43 = (1, 44, 0, 0, []) by decide +kernel) ?_
    refine e_stl (la2 := [rA 56, (0, q), (0, n), (0, x), (0, z), (0, k), (1, x1), (9, 0), (1, 0), (9, 0), (9, 0), (9, 0), (9, 0)]) (show am_cd 59 44 = (3, 46, 8, 1, []) by decide +kernel) rfl ?_
    refine e_ldi (show am_cd 59 46 = (2, 47, 2, 0, []) by decide +kernel) rfl ?_
    refine e_if4 (show am_cd 59 47 = (10, 50, 91, 4, []) by decide +kernel) (fun hc => ?_) (fun hc => ?_)
    · replace h := h.1 hc
      exact h
    · replace h := h.2 hc
      refine e_lda (v := 56) (show am_cd 59 50 = (2, 51, 0, 2, []) by decide +kernel) rfl ?_
      refine e_getr (a := 56) (r := 15) (show am_cd 59 51 = (18, 54, 602, 2, [23]) by decide +kernel) (by decide +kernel) (by decide +kernel) rfl ?_
      refine e_ldi (show am_cd 59 54 = (2, 55, 3, 0, []) by decide +kernel) rfl ?_
      refine e_ic (show am_cd 59 55 = (0, 57, 1, 16, []) by decide +kernel) ?_
      refine e_cV (z := 0) (a := 15) (as := [(0, x), (0, 16)]) (rest := []) (show am_cd 59 57 = (40, 60, 75, 0, [95]) by decide +kernel) (by decide +kernel) rfl rfl (Nat.le_of_ble_eq_true rfl) rfl ?_
      obtain ⟨g2, h⟩ := h
      refine Cl.mono (Cl.up (c_rbrokenU (d := d) g2 h.1) (by omega)) ?_
      rintro _ _ ⟨x3, rfl, rfl, hp⟩
      refine ⟨fun _ h9 => (by cases h9), ?_⟩
      replace h := h.2 x3 hp
      show Ev _ 59 _ 60 [rA 56, (0, q), (0, n), (0, x), (0, z), (0, k), (1, x1), (9, 0), (1, 0), (9, 0), (9, 0), (9, 0), (9, 0)] [(0, x3)] _
      refine e_sti (la2 := [rA 56, (0, q), (0, n), (0, x), (0, z), (0, k), (1, x1), (9, 0), (1, 0), (9, 0), (0, x3), (9, 0), (9, 0)]) (show am_cd 59 60 = (3, 62, 10, 0, []) by decide +kernel) rfl ?_
      refine e_ldi (show am_cd 59 62 = (2, 64, 10, 0, []) by decide +kernel) rfl ?_
      refine e_ldi (show am_cd 59 64 = (2, 65, 1, 0, []) by decide +kernel) rfl ?_
      refine e_cS (z := 0) (as := [(0, x3), (0, q)]) (rest := []) (show am_cd 59 65 = (40, 68, 60, 1, [130]) by decide +kernel) (by decide) rfl rfl (Nat.le_of_ble_eq_true rfl) rfl ?_
      show Ev _ 60 _ 0 [(0, x3), (0, q)] [] _
      refine e_ldi (show am_cd 60 0 = (2, 1, 0, 0, []) by decide +kernel) rfl ?_
      refine e_ic (show am_cd 60 1 = (0, 2, 0, 1, []) by decide +kernel) ?_
      refine e_ldi (show am_cd 60 2 = (2, 3, 1, 0, []) by decide +kernel) rfl ?_
      refine e_ishl (show am_cd 60 3 = (5, 4, 6, 0, []) by decide +kernel) ?_
      refine e_ic (show am_cd 60 4 = (0, 5, 0, -1, []) by decide +kernel) ?_
      refine e_ixor (show am_cd 60 5 = (5, 6, 5, 0, []) by decide +kernel) ?_
      refine e_iand (show am_cd 60 6 = (5, 7, 3, 0, []) by decide +kernel) ?_
      refine e_if1 (show am_cd 60 7 = (10, 10, 14, 1, []) by decide +kernel) (fun hc => ?_) (fun hc => ?_)
      · replace h := h.1 hc
        refine e_ic (show am_cd 60 14 = (0, 15, 0, 0, []) by decide +kernel) ?_
        refine e_retz (show am_cd 60 15 = (36, 16, 0, 0, []) by decide +kernel) (by decide +kernel) (Or.inl rfl) ⟨fun _ h9 => (by cases h9), ?_⟩
        show Ev _ 59 _ 68 [rA 56, (0, q), (0, n), (0, x), (0, z), (0, k), (1, x1), (9, 0), (1, 0), (9, 0), (0, x3), (9, 0), (9, 0)] [(0, 0)] _
        refine e_ifT (show am_cd 59 68 = (10, 71, 85, 0, []) by decide +kernel) (by decide +kernel) ?_
        refine e_lc (show am_cd 59 85 = (1, 86, 0, 0, []) by decide +kernel) ?_
        refine e_stl (la2 := [rA 56, (0, q), (0, n), (0, x), (0, z), (0, k), (1, x1), (9, 0), (1, 0), (9, 0), (0, x3), (9, 0), (9, 0)]) (show am_cd 59 86 = (3, 88, 8, 1, []) by decide +kernel) rfl ?_
        refine e_go (show am_cd 59 88 = (12, 224, 0, 0, []) by decide +kernel) ?_
        exact h
      · replace h := h.2 hc
        refine e_ic (show am_cd 60 10 = (0, 11, 0, 1, []) by decide +kernel) ?_
        refine e_go (show am_cd 60 11 = (12, 15, 0, 0, []) by decide +kernel) ?_
        refine e_retz (show am_cd 60 15 = (36, 16, 0, 0, []) by decide +kernel) (by decide +kernel) (Or.inr rfl) ⟨fun _ h9 => (by cases h9), ?_⟩
        show Ev _ 59 _ 68 [rA 56, (0, q), (0, n), (0, x), (0, z), (0, k), (1, x1), (9, 0), (1, 0), (9, 0), (0, x3), (9, 0), (9, 0)] [(0, 1)] _
        refine e_ifF (show am_cd 59 68 = (10, 71, 85, 0, []) by decide +kernel) (by decide +kernel) ?_
        refine e_ldi (show am_cd 59 71 = (2, 73, 4, 0, []) by decide +kernel) rfl ?_
        refine e_if1 (show am_cd 59 73 = (10, 76, 81, 1, []) by decide +kernel) (fun hc => ?_) (fun hc => ?_)
        · replace h := h.1 hc
          refine e_lc (show am_cd 59 81 = (1, 82, 0, 1, []) by decide +kernel) ?_
          refine e_go (show am_cd 59 82 = (12, 86, 0, 0, []) by decide +kernel) ?_
          refine e_stl (la2 := [rA 56, (0, q), (0, n), (0, x), (0, z), (0, k), (1, x1), (9, 0), (1, 1), (9, 0), (0, x3), (9, 0), (9, 0)]) (show am_cd 59 86 = (3, 88, 8, 1, []) by decide +kernel) rfl ?_
          refine e_go (show am_cd 59 88 = (12, 224, 0, 0, []) by decide +kernel) ?_
          exact h
        · replace h := h.2 hc
          refine e_ldi (show am_cd 59 76 = (2, 78, 10, 0, []) by decide +kernel) rfl ?_
          refine e_if0 (show am_cd 59 78 = (10, 81, 85, 0, []) by decide +kernel) (fun hc => ?_) (fun hc => ?_)
          · replace h := h.1 hc
            refine e_lc (show am_cd 59 85 = (1, 86, 0, 0, []) by decide +kernel) ?_
            refine e_stl (la2 := [rA 56, (0, q), (0, n), (0, x), (0, z), (0, k), (1, x1), (9, 0), (1, 0), (9, 0), (0, x3), (9, 0), (9, 0)]) (show am_cd 59 86 = (3, 88, 8, 1, []) by decide +kernel) rfl ?_
            refine e_go (show am_cd 59 88 = (12, 224, 0, 0, []) by decide +kernel) ?_
            exact h
          · replace h := h.2 hc
            refine e_lc (show am_cd 59 81 = (1, 82, 0, 1, []) by decide +kernel) ?_
            refine e_go (show am_cd 59 82 = (12, 86, 0, 0, []) by decide +kernel) ?_
            refine e_stl (la2 := [rA 56, (0, q), (0, n), (0, x), (0, z), (0, k), (1, x1), (9, 0), (1, 1), (9, 0), (0, x3), (9, 0), (9, 0)]) (show am_cd 59 86 = (3, 88, 8, 1, []) by decide +kernel) rfl ?_
            refine e_go (show am_cd 59 88 = (12, 224, 0, 0, []) by decide +kernel) ?_
            exact h
  · replace h := h.2 hc
    refine e_ldl (show am_cd 59 40 = (2, 42, 6, 1, []) by decide +kernel) rfl ?_
    exact e_retl (show am_cd 59 42 = (36, 43, 1, 0, []) by decide +kernel) (by decide +kernel) h

theorem g_hb2 {d : Nat} {Q : Option aV → aS → Prop} {w : eW} {t : eT} {q n x z k v s : Int} {m : eW} {b : Nat × Nat} {P : Int → Int → Prop} (h : (AC w m ∧ WFp m ∧ ((0 : Int) ≤ iand x 31 ∧ (iand x 31 : Int) < 32)) ∧ (((isI m (iand x 31).toNat) = false → (AC w m ∧ WFp m) ∧ (Ev (d + 4) 59 Q 137 [rA 56, (0, q), (0, n), (0, x), (0, z), (0, k), (1, v), (9, 0), (1, s), (9, 0), (0, ((2 ^ nP m - 1 : Nat) : Int)), (0, 0), (9, 0)] [] (enc w t))) ∧ ((isI m (iand x 31).toNat) = true → (AC w m ∧ WFp m) ∧ (Ev (d + 4) 59 Q 137 [rA 56, (0, q), (0, n), (0, x), (0, z), (0, k), (1, v), (9, 0), (1, s), (9, 0), (0, iand ((2 ^ nP m - 1 : Nat) : Int) (ixor (w 8 8) (-1))), (0, 0), (9, 0)] [] (enc w t))))) : Ev (d + 4) 59 Q 91 [rA 56, (0, q), (0, n), (0, x), (0, z), (0, k), (1, v), (9, 0), (1, s), (9, 0), (9, 0), (9, 0), (9, 0)] [] (enc w t) := by
  refine e_lda (v := 56) (show am_cd 59 91 = (2, 92, 0, 2, []) by decide +kernel) rfl ?_
  refine e_getr (a := 56) (r := 8) (show am_cd 59 92 = (18, 95, 601, 2, [19]) by decide +kernel) (by decide +kernel) (by decide +kernel) rfl ?_
  refine e_ldi (show am_cd 59 95 = (2, 96, 3, 0, []) by decide +kernel) rfl ?_
  refine e_ic (show am_cd 59 96 = (0, 98, 1, 31, []) by decide +kernel) ?_
  refine e_iand (show am_cd 59 98 = (5, 99, 3, 0, []) by decide +kernel) ?_
  refine e_cV (z := 0) (a := 8) (as := [(0, iand x 31)]) (rest := []) (show am_cd 59 99 = (40, 102, 3, 0, [116]) by decide +kernel) (by decide +kernel) rfl rfl (Nat.le_of_ble_eq_true rfl) rfl ?_
  refine Cl.mono (Cl.up (c_isIc (d := d) h.1) (by omega)) ?_
  rintro _ _ ⟨rfl, rfl⟩
  refine ⟨fun _ h9 => (by cases h9), ?_⟩
  replace h := h.2
  show Ev _ 59 _ 102 [rA 56, (0, q), (0, n), (0, x), (0, z), (0, k), (1, v), (9, 0), (1, s), (9, 0), (9, 0), (9, 0), (9, 0)] [(0, bI (isI m (iand x 31).toNat))] _
  refine e_ifb0 (show am_cd 59 102 = (10, 105, 125, 0, []) by decide +kernel) (fun hc => ?_) (fun hc => ?_)
  · replace h := h.1 hc
    refine e_lda (v := 56) (show am_cd 59 125 = (2, 126, 0, 2, []) by decide +kernel) rfl ?_
    refine e_getr (a := 56) (r := 8) (show am_cd 59 126 = (18, 129, 601, 2, [19]) by decide +kernel) (by decide +kernel) (by decide +kernel) rfl ?_
    refine e_cV (z := 0) (a := 8) (as := []) (rest := []) (show am_cd 59 129 = (40, 132, 2, 0, [133]) by decide +kernel) (by decide +kernel) rfl rfl (Nat.le_of_ble_eq_true rfl) rfl ?_
    refine Cl.mono (Cl.up (c_allP (m := m) (d := d) h.1) (by omega)) ?_
    rintro _ _ ⟨rfl, rfl⟩
    refine ⟨fun _ h9 => (by cases h9), ?_⟩
    replace h := h.2
    show Ev _ 59 _ 132 [rA 56, (0, q), (0, n), (0, x), (0, z), (0, k), (1, v), (9, 0), (1, s), (9, 0), (9, 0), (9, 0), (9, 0)] [(0, ((2 ^ nP m - 1 : Nat) : Int))] _
    refine e_sti (la2 := [rA 56, (0, q), (0, n), (0, x), (0, z), (0, k), (1, v), (9, 0), (1, s), (9, 0), (0, ((2 ^ nP m - 1 : Nat) : Int)), (9, 0), (9, 0)]) (show am_cd 59 132 = (3, 134, 10, 0, []) by decide +kernel) rfl ?_
    refine e_ic (show am_cd 59 134 = (0, 135, 0, 0, []) by decide +kernel) ?_
    refine e_sti (la2 := [rA 56, (0, q), (0, n), (0, x), (0, z), (0, k), (1, v), (9, 0), (1, s), (9, 0), (0, ((2 ^ nP m - 1 : Nat) : Int)), (0, 0), (9, 0)]) (show am_cd 59 135 = (3, 137, 11, 0, []) by decide +kernel) rfl ?_
    exact h
  · replace h := h.2 hc
    refine e_lda (v := 56) (show am_cd 59 105 = (2, 106, 0, 2, []) by decide +kernel) rfl ?_
    refine e_getr (a := 56) (r := 8) (show am_cd 59 106 = (18, 109, 601, 2, [19]) by decide +kernel) (by decide +kernel) (by decide +kernel) rfl ?_
    refine e_cV (z := 0) (a := 8) (as := []) (rest := []) (show am_cd 59 109 = (40, 112, 2, 0, [133]) by decide +kernel) (by decide +kernel) rfl rfl (Nat.le_of_ble_eq_true rfl) rfl ?_
    refine Cl.mono (Cl.up (c_allP (m := m) (d := d) h.1) (by omega)) ?_
    rintro _ _ ⟨rfl, rfl⟩
    refine ⟨fun _ h9 => (by cases h9), ?_⟩
    replace h := h.2
    show Ev _ 59 _ 112 [rA 56, (0, q), (0, n), (0, x), (0, z), (0, k), (1, v), (9, 0), (1, s), (9, 0), (9, 0), (9, 0), (9, 0)] [(0, ((2 ^ nP m - 1 : Nat) : Int))] _
    refine e_lda (v := 56) (show am_cd 59 112 = (2, 113, 0, 2, []) by decide +kernel) rfl ?_
    refine e_getr (a := 56) (r := 8) (show am_cd 59 113 = (18, 116, 601, 2, [19]) by decide +kernel) (by decide +kernel) (by decide +kernel) rfl ?_
    refine e_getf (a := 8) (tg := 0) (show am_cd 59 116 = (18, 119, 8, 0, [120]) by decide +kernel) (by decide +kernel) (by decide +kernel) rfl ?_
    refine e_ic (show am_cd 59 119 = (0, 120, 0, -1, []) by decide +kernel) ?_
    refine e_ixor (show am_cd 59 120 = (5, 121, 5, 0, []) by decide +kernel) ?_
    refine e_iand (show am_cd 59 121 = (5, 122, 3, 0, []) by decide +kernel) ?_
    refine e_go (show am_cd 59 122 = (12, 132, 0, 0, []) by decide +kernel) ?_
    refine e_sti (la2 := [rA 56, (0, q), (0, n), (0, x), (0, z), (0, k), (1, v), (9, 0), (1, s), (9, 0), (0, iand ((2 ^ nP m - 1 : Nat) : Int) (ixor (w 8 8) (-1))), (9, 0), (9, 0)]) (show am_cd 59 132 = (3, 134, 10, 0, []) by decide +kernel) rfl ?_
    refine e_ic (show am_cd 59 134 = (0, 135, 0, 0, []) by decide +kernel) ?_
    refine e_sti (la2 := [rA 56, (0, q), (0, n), (0, x), (0, z), (0, k), (1, v), (9, 0), (1, s), (9, 0), (0, iand ((2 ^ nP m - 1 : Nat) : Int) (ixor (w 8 8) (-1))), (0, 0), (9, 0)]) (show am_cd 59 135 = (3, 137, 11, 0, []) by decide +kernel) rfl ?_
    exact h

theorem g_hb3 {d : Nat} {Q : Option aV → aS → Prop} {w : eW} {t : eT} {q n x z k v s f p : Int} {m : eW} {b : Nat × Nat} {P : Int → Int → Prop} {γH : Type} {PRH : γH → Int → Int → Int → Int → eW → eT → Prop} {POH : γH → Int → Int → Int → Int → eW → eT → Int → eW → eT → Prop} (hrH : ∀ (g : γH) (a1 a2 a3 a4 : Int) (w : eW) (t : eT), PRH g a1 a2 a3 a4 w t → Cl (d + 3) 59 [rA 56, (0, a1), (0, a2), (0, a3), (0, a4)] (enc w t) (fun r S2 => ∃ x w2 t2, r = some (1, x) ∧ S2 = enc w2 t2 ∧ POH g a1 a2 a3 a4 w t x w2 t2)) {Jn : aV} (h : ((w32 (w 8 6) ≤ w32 p → Ev (d + 4) 59 Q 224 [rA 56, (0, q), (0, n), (0, x), (0, z), (0, k), (1, v), (9, 0), (1, s), (9, 0), (0, f), (0, p), Jn] [] (enc w t)) ∧ (¬ (w32 (w 8 6) ≤ w32 p) → ∃ g1, (LN w m ∧ WFp m ∧ WFr m ∧ x = ((trG m g1 : Nat) : Int) ∧ gL g1 ≤ 16 ∧ (0 : Int) ≤ p ∧ (p : Int) ≤ 16) ∧ (∀ x2, (x2 = ((brG m g1 p.toNat : Nat) : Int)) → ((w32 (iand (ishr f p) 1) = 0 → Ev (d + 4) 59 Q 137 [rA 56, (0, q), (0, n), (0, x), (0, z), (0, k), (1, v), (9, 0), (1, s), (9, 0), (0, f), (0, p + 1), (0, x2)] [] (enc w t)) ∧ (¬ (w32 (iand (ishr f p) 1) = 0) → ((¬ w32 (iand x2 (ixor (ishl 1 q) (-1))) = 0 → Ev (d + 4) 59 Q 137 [rA 56, (0, q), (0, n), (0, x), (0, z), (0, k), (1, v), (9, 0), (1, s), (9, 0), (0, f), (0, p + 1), (0, x2)] [] (enc w t)) ∧ (¬ (¬ w32 (iand x2 (ixor (ishl 1 q) (-1))) = 0) → ∃ g3, (LN w m ∧ WFp m ∧ WFr m ∧ x = ((trG m g3 : Nat) : Int) ∧ gL g3 ≤ 16 ∧ (0 : Int) ≤ p ∧ (p : Int) ≤ 16) ∧ (∀ x4, (x4 = ((trG m (gN g3 p.toNat) : Nat) : Int)) → ((¬ w32 z = 0 → ∃ g5, (PRH g5 q (n - 1) x4 1 w t) ∧ (∀ x6 w7 t8, (POH g5 q (n - 1) x4 1 w t x6 w7 t8) → Ev (d + 4) 59 Q 137 [rA 56, (0, q), (0, n), (0, x), (0, z), (0, k), (1, v), (9, 0), (1, s + x6), (9, 0), (0, f), (0, p + 1), (0, x2)] [] (enc w7 t8))) ∧ (¬ (¬ w32 z = 0) → ((w32 x2 = 0 → ∃ g9, (PRH g9 q (n - 1) x4 0 w t) ∧ (∀ x10 w11 t12, (POH g9 q (n - 1) x4 0 w t x10 w11 t12) → Ev (d + 4) 59 Q 137 [rA 56, (0, q), (0, n), (0, x), (0, z), (0, k), (1, v), (9, 0), (1, s + x10), (9, 0), (0, f), (0, p + 1), (0, x2)] [] (enc w11 t12))) ∧ (¬ (w32 x2 = 0) → ∃ g13, (PRH g13 q (n - 1) x4 1 w t) ∧ (∀ x14 w15 t16, (POH g13 q (n - 1) x4 1 w t x14 w15 t16) → Ev (d + 4) 59 Q 137 [rA 56, (0, q), (0, n), (0, x), (0, z), (0, k), (1, v), (9, 0), (1, s + x14), (9, 0), (0, f), (0, p + 1), (0, x2)] [] (enc w15 t16))))))))))))))) : Ev (d + 4) 59 Q 137 [rA 56, (0, q), (0, n), (0, x), (0, z), (0, k), (1, v), (9, 0), (1, s), (9, 0), (0, f), (0, p), Jn] [] (enc w t) := by
  refine e_ldi (show am_cd 59 137 = (2, 139, 11, 0, []) by decide +kernel) rfl ?_
  refine e_lda (v := 56) (show am_cd 59 139 = (2, 140, 0, 2, []) by decide +kernel) rfl ?_
  refine e_getr (a := 56) (r := 8) (show am_cd 59 140 = (18, 143, 601, 2, [19]) by decide +kernel) (by decide +kernel) (by decide +kernel) rfl ?_
  refine e_getf (a := 8) (tg := 0) (show am_cd 59 143 = (18, 146, 6, 0, [136]) by decide +kernel) (by decide +kernel) (by decide +kernel) rfl ?_
  refine e_cmp3 (show am_cd 59 146 = (11, 149, 224, 3, []) by decide +kernel) (fun hc => ?_) (fun hc => ?_)
  · replace h := h.1 hc
    exact h
  · replace h := h.2 hc
    refine e_lda (v := 56) (show am_cd 59 149 = (2, 150, 0, 2, []) by decide +kernel) rfl ?_
    refine e_getr (a := 56) (r := 15) (show am_cd 59 150 = (18, 153, 602, 2, [23]) by decide +kernel) (by decide +kernel) (by decide +kernel) rfl ?_
    refine e_ldi (show am_cd 59 153 = (2, 154, 3, 0, []) by decide +kernel) rfl ?_
    refine e_ldi (show am_cd 59 154 = (2, 156, 11, 0, []) by decide +kernel) rfl ?_
    refine e_cV (z := 0) (a := 15) (as := [(0, x), (0, p)]) (rest := []) (show am_cd 59 156 = (40, 159, 75, 0, [95]) by decide +kernel) (by decide +kernel) rfl rfl (Nat.le_of_ble_eq_true rfl) rfl ?_
    obtain ⟨g1, h⟩ := h
    refine Cl.mono (Cl.up (c_rbrokenU (d := d) g1 h.1) (by omega)) ?_
    rintro _ _ ⟨x2, rfl, rfl, hp⟩
    refine ⟨fun _ h9 => (by cases h9), ?_⟩
    replace h := h.2 x2 hp
    show Ev _ 59 _ 159 [rA 56, (0, q), (0, n), (0, x), (0, z), (0, k), (1, v), (9, 0), (1, s), (9, 0), (0, f), (0, p), Jn] [(0, x2)] _
    refine e_sti (la2 := [rA 56, (0, q), (0, n), (0, x), (0, z), (0, k), (1, v), (9, 0), (1, s), (9, 0), (0, f), (0, p), (0, x2)]) (show am_cd 59 159 = (3, 161, 12, 0, []) by decide +kernel) rfl ?_
    refine e_ldi (show am_cd 59 161 = (2, 163, 10, 0, []) by decide +kernel) rfl ?_
    refine e_ldi (show am_cd 59 163 = (2, 165, 11, 0, []) by decide +kernel) rfl ?_
    refine e_ishr (show am_cd 59 165 = (5, 166, 7, 0, []) by decide +kernel) ?_
    refine e_ic (show am_cd 59 166 = (0, 167, 0, 1, []) by decide +kernel) ?_
    refine e_iand (show am_cd 59 167 = (5, 168, 3, 0, []) by decide +kernel) ?_
    refine e_if0 (show am_cd 59 168 = (10, 171, 218, 0, []) by decide +kernel) (fun hc => ?_) (fun hc => ?_)
    · replace h := h.1 hc
      refine e_inc (la2 := [rA 56, (0, q), (0, n), (0, x), (0, z), (0, k), (1, v), (9, 0), (1, s), (9, 0), (0, f), (0, p + 1), (0, x2)]) (show am_cd 59 218 = (4, 221, 11, 1, []) by decide +kernel) rfl rfl ?_
      refine e_go (show am_cd 59 221 = (12, 137, 0, 0, []) by decide +kernel) ?_
      exact h
    · replace h := h.2 hc
      refine e_ldi (show am_cd 59 171 = (2, 173, 12, 0, []) by decide +kernel) rfl ?_
      refine e_ldi (show am_cd 59 173 = (2, 174, 1, 0, []) by decide +kernel) rfl ?_
      refine e_cS (z := 0) (as := [(0, x2), (0, q)]) (rest := []) (show am_cd 59 174 = (40, 177, 60, 1, [130]) by decide +kernel) (by decide) rfl rfl (Nat.le_of_ble_eq_true rfl) rfl ?_
      show Ev _ 60 _ 0 [(0, x2), (0, q)] [] _
      refine e_ldi (show am_cd 60 0 = (2, 1, 0, 0, []) by decide +kernel) rfl ?_
      refine e_ic (show am_cd 60 1 = (0, 2, 0, 1, []) by decide +kernel) ?_
      refine e_ldi (show am_cd 60 2 = (2, 3, 1, 0, []) by decide +kernel) rfl ?_
      refine e_ishl (show am_cd 60 3 = (5, 4, 6, 0, []) by decide +kernel) ?_
      refine e_ic (show am_cd 60 4 = (0, 5, 0, -1, []) by decide +kernel) ?_
      refine e_ixor (show am_cd 60 5 = (5, 6, 5, 0, []) by decide +kernel) ?_
      refine e_iand (show am_cd 60 6 = (5, 7, 3, 0, []) by decide +kernel) ?_
      refine e_if1 (show am_cd 60 7 = (10, 10, 14, 1, []) by decide +kernel) (fun hc => ?_) (fun hc => ?_)
      · replace h := h.1 hc
        refine e_ic (show am_cd 60 14 = (0, 15, 0, 0, []) by decide +kernel) ?_
        refine e_retz (show am_cd 60 15 = (36, 16, 0, 0, []) by decide +kernel) (by decide +kernel) (Or.inl rfl) ⟨fun _ h9 => (by cases h9), ?_⟩
        show Ev _ 59 _ 177 [rA 56, (0, q), (0, n), (0, x), (0, z), (0, k), (1, v), (9, 0), (1, s), (9, 0), (0, f), (0, p), (0, x2)] [(0, 0)] _
        refine e_ifT (show am_cd 59 177 = (10, 180, 218, 0, []) by decide +kernel) (by decide +kernel) ?_
        refine e_inc (la2 := [rA 56, (0, q), (0, n), (0, x), (0, z), (0, k), (1, v), (9, 0), (1, s), (9, 0), (0, f), (0, p + 1), (0, x2)]) (show am_cd 59 218 = (4, 221, 11, 1, []) by decide +kernel) rfl rfl ?_
        refine e_go (show am_cd 59 221 = (12, 137, 0, 0, []) by decide +kernel) ?_
        exact h
      · replace h := h.2 hc
        refine e_ic (show am_cd 60 10 = (0, 11, 0, 1, []) by decide +kernel) ?_
        refine e_go (show am_cd 60 11 = (12, 15, 0, 0, []) by decide +kernel) ?_
        refine e_retz (show am_cd 60 15 = (36, 16, 0, 0, []) by decide +kernel) (by decide +kernel) (Or.inr rfl) ⟨fun _ h9 => (by cases h9), ?_⟩
        show Ev _ 59 _ 177 [rA 56, (0, q), (0, n), (0, x), (0, z), (0, k), (1, v), (9, 0), (1, s), (9, 0), (0, f), (0, p), (0, x2)] [(0, 1)] _
        refine e_ifF (show am_cd 59 177 = (10, 180, 218, 0, []) by decide +kernel) (by decide +kernel) ?_
        refine e_ldl (show am_cd 59 180 = (2, 182, 8, 1, []) by decide +kernel) rfl ?_
        refine e_lda (v := 56) (show am_cd 59 182 = (2, 183, 0, 2, []) by decide +kernel) rfl ?_
        refine e_ldi (show am_cd 59 183 = (2, 184, 1, 0, []) by decide +kernel) rfl ?_
        refine e_ldi (show am_cd 59 184 = (2, 185, 2, 0, []) by decide +kernel) rfl ?_
        refine e_ic (show am_cd 59 185 = (0, 186, 0, 1, []) by decide +kernel) ?_
        refine e_isub (show am_cd 59 186 = (5, 187, 1, 0, []) by decide +kernel) ?_
        refine e_lda (v := 56) (show am_cd 59 187 = (2, 188, 0, 2, []) by decide +kernel) rfl ?_
        refine e_getr (a := 56) (r := 15) (show am_cd 59 188 = (18, 191, 602, 2, [23]) by decide +kernel) (by decide +kernel) (by decide +kernel) rfl ?_
        refine e_ldi (show am_cd 59 191 = (2, 192, 3, 0, []) by decide +kernel) rfl ?_
        refine e_ldi (show am_cd 59 192 = (2, 194, 11, 0, []) by decide +kernel) rfl ?_
        refine e_cV (z := 0) (a := 15) (as := [(0, x), (0, p)]) (rest := [(0, n - 1), (0, q), rA 56, (1, s)]) (show am_cd 59 194 = (40, 197, 74, 0, [83]) by decide +kernel) (by decide +kernel) rfl rfl (Nat.le_of_ble_eq_true rfl) rfl ?_
        obtain ⟨g3, h⟩ := h
        refine Cl.mono (Cl.up (c_rfollowU (d := d) g3 h.1) (by omega)) ?_
        rintro _ _ ⟨x4, rfl, rfl, hp⟩
        refine ⟨fun _ h9 => (by cases h9), ?_⟩
        replace h := h.2 x4 hp
        show Ev _ 59 _ 197 [rA 56, (0, q), (0, n), (0, x), (0, z), (0, k), (1, v), (9, 0), (1, s), (9, 0), (0, f), (0, p), (0, x2)] [(0, x4), (0, n - 1), (0, q), rA 56, (1, s)] _
        refine e_ldi (show am_cd 59 197 = (2, 199, 4, 0, []) by decide +kernel) rfl ?_
        refine e_if1 (show am_cd 59 199 = (10, 202, 207, 1, []) by decide +kernel) (fun hc => ?_) (fun hc => ?_)
        · replace h := h.1 hc
          refine e_ic (show am_cd 59 207 = (0, 208, 0, 1, []) by decide +kernel) ?_
          refine e_go (show am_cd 59 208 = (12, 212, 0, 0, []) by decide +kernel) ?_
          refine e_cV (z := 0) (a := 56) (as := [(0, q), (0, n - 1), (0, x4), (0, 1)]) (rest := [(1, s)]) (show am_cd 59 212 = (40, 215, 59, 0, [126]) by decide +kernel) (by decide +kernel) rfl rfl (Nat.le_of_ble_eq_true rfl) rfl ?_
          obtain ⟨g5, h⟩ := h
          refine Cl.mono (Cl.up (hrH g5 _ _ _ _ _ _ h.1) (by omega)) ?_
          rintro _ _ ⟨x6, w7, t8, rfl, rfl, hp⟩
          refine ⟨fun _ h9 => (by cases h9), ?_⟩
          replace h := h.2 x6 w7 t8 hp
          show Ev _ 59 _ 215 [rA 56, (0, q), (0, n), (0, x), (0, z), (0, k), (1, v), (9, 0), (1, s), (9, 0), (0, f), (0, p), (0, x2)] [(1, x6), (1, s)] _
          refine e_ladd (show am_cd 59 215 = (6, 216, 0, 0, []) by decide +kernel) ?_
          refine e_stl (la2 := [rA 56, (0, q), (0, n), (0, x), (0, z), (0, k), (1, v), (9, 0), (1, s + x6), (9, 0), (0, f), (0, p), (0, x2)]) (show am_cd 59 216 = (3, 218, 8, 1, []) by decide +kernel) rfl ?_
          refine e_inc (la2 := [rA 56, (0, q), (0, n), (0, x), (0, z), (0, k), (1, v), (9, 0), (1, s + x6), (9, 0), (0, f), (0, p + 1), (0, x2)]) (show am_cd 59 218 = (4, 221, 11, 1, []) by decide +kernel) rfl rfl ?_
          refine e_go (show am_cd 59 221 = (12, 137, 0, 0, []) by decide +kernel) ?_
          exact h
        · replace h := h.2 hc
          refine e_ldi (show am_cd 59 202 = (2, 204, 12, 0, []) by decide +kernel) rfl ?_
          refine e_if0 (show am_cd 59 204 = (10, 207, 211, 0, []) by decide +kernel) (fun hc => ?_) (fun hc => ?_)
          · replace h := h.1 hc
            refine e_ic (show am_cd 59 211 = (0, 212, 0, 0, []) by decide +kernel) ?_
            refine e_cV (z := 0) (a := 56) (as := [(0, q), (0, n - 1), (0, x4), (0, 0)]) (rest := [(1, s)]) (show am_cd 59 212 = (40, 215, 59, 0, [126]) by decide +kernel) (by decide +kernel) rfl rfl (Nat.le_of_ble_eq_true rfl) rfl ?_
            obtain ⟨g9, h⟩ := h
            refine Cl.mono (Cl.up (hrH g9 _ _ _ _ _ _ h.1) (by omega)) ?_
            rintro _ _ ⟨x10, w11, t12, rfl, rfl, hp⟩
            refine ⟨fun _ h9 => (by cases h9), ?_⟩
            replace h := h.2 x10 w11 t12 hp
            show Ev _ 59 _ 215 [rA 56, (0, q), (0, n), (0, x), (0, z), (0, k), (1, v), (9, 0), (1, s), (9, 0), (0, f), (0, p), (0, x2)] [(1, x10), (1, s)] _
            refine e_ladd (show am_cd 59 215 = (6, 216, 0, 0, []) by decide +kernel) ?_
            refine e_stl (la2 := [rA 56, (0, q), (0, n), (0, x), (0, z), (0, k), (1, v), (9, 0), (1, s + x10), (9, 0), (0, f), (0, p), (0, x2)]) (show am_cd 59 216 = (3, 218, 8, 1, []) by decide +kernel) rfl ?_
            refine e_inc (la2 := [rA 56, (0, q), (0, n), (0, x), (0, z), (0, k), (1, v), (9, 0), (1, s + x10), (9, 0), (0, f), (0, p + 1), (0, x2)]) (show am_cd 59 218 = (4, 221, 11, 1, []) by decide +kernel) rfl rfl ?_
            refine e_go (show am_cd 59 221 = (12, 137, 0, 0, []) by decide +kernel) ?_
            exact h
          · replace h := h.2 hc
            refine e_ic (show am_cd 59 207 = (0, 208, 0, 1, []) by decide +kernel) ?_
            refine e_go (show am_cd 59 208 = (12, 212, 0, 0, []) by decide +kernel) ?_
            refine e_cV (z := 0) (a := 56) (as := [(0, q), (0, n - 1), (0, x4), (0, 1)]) (rest := [(1, s)]) (show am_cd 59 212 = (40, 215, 59, 0, [126]) by decide +kernel) (by decide +kernel) rfl rfl (Nat.le_of_ble_eq_true rfl) rfl ?_
            obtain ⟨g13, h⟩ := h
            refine Cl.mono (Cl.up (hrH g13 _ _ _ _ _ _ h.1) (by omega)) ?_
            rintro _ _ ⟨x14, w15, t16, rfl, rfl, hp⟩
            refine ⟨fun _ h9 => (by cases h9), ?_⟩
            replace h := h.2 x14 w15 t16 hp
            show Ev _ 59 _ 215 [rA 56, (0, q), (0, n), (0, x), (0, z), (0, k), (1, v), (9, 0), (1, s), (9, 0), (0, f), (0, p), (0, x2)] [(1, x14), (1, s)] _
            refine e_ladd (show am_cd 59 215 = (6, 216, 0, 0, []) by decide +kernel) ?_
            refine e_stl (la2 := [rA 56, (0, q), (0, n), (0, x), (0, z), (0, k), (1, v), (9, 0), (1, s + x14), (9, 0), (0, f), (0, p), (0, x2)]) (show am_cd 59 216 = (3, 218, 8, 1, []) by decide +kernel) rfl ?_
            refine e_inc (la2 := [rA 56, (0, q), (0, n), (0, x), (0, z), (0, k), (1, v), (9, 0), (1, s + x14), (9, 0), (0, f), (0, p + 1), (0, x2)]) (show am_cd 59 218 = (4, 221, 11, 1, []) by decide +kernel) rfl rfl ?_
            refine e_go (show am_cd 59 221 = (12, 137, 0, 0, []) by decide +kernel) ?_
            exact h

theorem g_hb4 {d : Nat} {Q : Option aV → aS → Prop} {w : eW} {t : eT} {q n x z k v s : Int} {m : eW} {b : Nat × Nat} {P : Int → Int → Prop} {J1 J2 J3 : aV} (h : (MC P b m w t ∧ (0 ≤ k ∧ k < 2147483648) ∧ P k s) ∧ (∀ w1 t2, (MR w t w1 t2 ∧ MC P b m w1 t2) → Q (some (1, s)) (enc w1 t2))) : Ev (d + 4) 59 Q 224 [rA 56, (0, q), (0, n), (0, x), (0, z), (0, k), (1, v), (9, 0), (1, s), (9, 0), J1, J2, J3] [] (enc w t) := by
  refine e_lda (v := 56) (show am_cd 59 224 = (2, 225, 0, 2, []) by decide +kernel) rfl ?_
  refine e_getr (a := 56) (r := 45) (show am_cd 59 225 = (18, 228, 603, 2, [27]) by decide +kernel) (by decide +kernel) (by decide +kernel) rfl ?_
  refine e_ldi (show am_cd 59 228 = (2, 230, 5, 0, []) by decide +kernel) rfl ?_
  refine e_ldl (show am_cd 59 230 = (2, 232, 8, 1, []) by decide +kernel) rfl ?_
  refine e_cV (z := 0) (a := 45) (as := [(0, k), (1, s)]) (rest := []) (show am_cd 59 232 = (40, 235, 47, 0, [71]) by decide +kernel) (by decide +kernel) rfl rfl (Nat.le_of_ble_eq_true rfl) rfl ?_
  refine Cl.mono (Cl.up (m_put (P := P) (m := m) (b := b) (d := d) h.1) (by omega)) ?_
  rintro _ _ ⟨w1, t2, rfl, rfl, hp⟩
  refine ⟨fun _ h9 => (by cases h9), ?_⟩
  replace h := h.2 w1 t2 hp
  show Ev _ 59 _ 235 [rA 56, (0, q), (0, n), (0, x), (0, z), (0, k), (1, v), (9, 0), (1, s), (9, 0), J1, J2, J3] [] _
  refine e_ldl (show am_cd 59 235 = (2, 237, 8, 1, []) by decide +kernel) rfl ?_
  exact e_retl (show am_cd 59 237 = (36, 238, 1, 0, []) by decide +kernel) (by decide +kernel) h

theorem held_of {d B q : Nat} {m : eW} {b : Nat × Nat} (hH : ∀ (g : t3) (a n x z : Int) (w : eW) (t : eT), HbR m b q B g a n x z w t → Cl (d + 3) 59 [rA 56, (0, a), (0, n), (0, x), (0, z)] (enc w t) (fun r S2 => ∃ y w2 t2, r = some (1, y) ∧ S2 = enc w2 t2 ∧ HbO m b q g a n x z w t y w2 t2)) (g : t3) (a n x z : Int) (w : eW) (t : eT) (h : HbR m b q (B + 1) g a n x z w t) : Cl (d + 4) 59 [rA 56, (0, a), (0, n), (0, x), (0, z)] (enc w t) (fun r S2 => ∃ y w2 t2, r = some (1, y) ∧ S2 = enc w2 t2 ∧ HbO m b q g a n x z w t y w2 t2) := by
  obtain ⟨⟨hA, hLN, hC, hp, hr⟩, hM, ha, hq, hn, hx, hg, hz⟩ := h
  obtain ⟨t1, t2, _, _⟩ := tr_b (m := m) (a := g.1) (b := g.2.1) hr hg
  replace t1 : trG m g < 2097152 := t1
  have hn8 := hr.n.2
  have hpn := hp.n
  have hins := insB_b m hp
  obtain ⟨N, hN⟩ : ∃ N : Nat, n = (N : Int) := ⟨n.toNat, by omega⟩
  have hN3 : N ≤ 3 := by omega
  -- the key
  have key : ior (ishl (ior (ishl x 2) (iand n 3)) 1) z = ((((trG m g : Nat) : Int) * 4 + (N : Int)) * 2 + z) := by
    obtain ⟨Z, hZ⟩ : ∃ Z : Nat, z = (Z : Int) := ⟨z.toNat, by omega⟩
    have hZ2 : Z < 2 ^ 1 := by omega
    have e1 : iand (N : Int) 3 = (N : Int) := by
      rw [show (3 : Int) = ((3 : Nat) : Int) from rfl, b_and (by omega), show (3 : Nat) = 2 ^ 2 - 1 from rfl, Nat.and_two_pow_sub_one_eq_mod, Nat.mod_eq_of_lt (by omega)]
    rw [hN, hx, hZ, e1, show (2 : Int) = ((2 : Nat) : Int) from rfl, show (1 : Int) = ((1 : Nat) : Int) from rfl, ishlN (by omega) (by decide), b_or (by omega) (by omega), Nat.or_comm, or_add (show N < 2 ^ 2 by omega), ishlN (by omega) (by decide), b_or (by omega) (by omega), Nat.or_comm, or_add hZ2]
    omega
  have kb : 0 ≤ ((((trG m g : Nat) : Int) * 4 + (N : Int)) * 2 + z) ∧ ((((trG m g : Nat) : Int) * 4 + (N : Int)) * 2 + z) < 2147483648 := by omega
  have hP : PmB m q ((((trG m g : Nat) : Int) * 4 + (N : Int)) * 2 + z) (hbV m q N g (decide (z = 1))) := fun n2 br2 g2 q1 q2 hk => by
    have hbz : (if br2 = true then (1 : Int) else 0) = 0 ∨ (if br2 = true then (1 : Int) else 0) = 1 := by cases br2 <;> simp
    have hh : N = n2 ∧ z = (if br2 = true then (1 : Int) else 0) ∧ trG m g = trG m g2 := by
      generalize (if br2 = true then (1 : Int) else 0) = zz at *
      omega
    have hbr : decide (z = 1) = br2 := by
      rw [hh.2.1]
      cases br2 <;> simp
    rw [hh.1, hbr]
    unfold hbV
    rw [tE_cR hp hr n2 g g2 ⟨hh.2.2, hg, q2⟩, tE_cR hp hr n2 g g2 ⟨hh.2.2, hg, q2⟩]
  have fin : ∀ (v s : Int) (w1 : eW) (t1 : eT) (J1 J2 J3 : aV), s = hbV m q N g (decide (z = 1)) → MR w t w1 t1 → MC (PmB m q) b m w1 t1 → Ev (d + 4) 59 (fun r S2 => ∃ y w2 t2, r = some (1, y) ∧ S2 = enc w2 t2 ∧ HbO m b q g a n x z w t y w2 t2) 224 [rA 56, (0, a), (0, n), (0, x), (0, z), (0, (((trG m g : Nat) : Int) * 4 + (N : Int)) * 2 + z), (1, v), (9, 0), (1, s), (9, 0), J1, J2, J3] [] (enc w1 t1) := fun v s w1 t1 J1 J2 J3 hs mr mc => by
    refine g_hb4 (m := m) (b := b) (P := PmB m q) ⟨⟨mc, kb, by rw [hs]; exact hP⟩, fun w2 t2 ⟨r1, r2⟩ => ⟨s, w2, t2, rfl, rfl, ?_, mr.tr r1, r2⟩⟩
    rw [hs, hN, Int.toNat_natCast]
  have free : ∀ (p : Nat) (y : Int), y = ((brG m g p : Nat) : Int) → (w32 (iand y (ixor (ishl 1 a) (-1))) = 0 ↔ okP m (q : Int) g.1 g.2.1 g.2.2 p = true) ∧ (w32 y = 0 ↔ okP m (-1) g.1 g.2.1 g.2.2 p = true) := fun p y hy => by
    have h8 : brG m g p < 256 := bts8 _ hr
    obtain ⟨f1, f2⟩ := free_i hr (g := g) (p := p) hq
    have p2 : 2 ^ q ≤ 2 ^ 8 := Nat.pow_le_pow_right (by decide) (by omega)
    rw [hy, ha, i_one (by omega), Int.toNat_natCast, i_andn (by omega) (Int.natCast_nonneg _), Int.toNat_natCast, Int.toNat_natCast]
    have l1 : brG m g p &&& (2147483647 ^^^ 2 ^ q) ≤ brG m g p := Nat.and_le_left
    rw [w32_id (x := ((brG m g p &&& (2147483647 ^^^ 2 ^ q) : Nat) : Int)) (by omega), w32_id (x := ((brG m g p : Nat) : Int)) (by omega), ← f1, ← f2]
    omega
  have hz32 : (w32 z = 0 ↔ z = 0) := by rcases hz with e | e <;> subst e <;> decide +kernel
  -- more pairs
  have body : 0 < n → ∀ v : Int, Ev (d + 4) 59 (fun r S2 => ∃ y w2 t2, r = some (1, y) ∧ S2 = enc w2 t2 ∧ HbO m b q g a n x z w t y w2 t2) 91 [rA 56, (0, a), (0, n), (0, x), (0, z), (0, (((trG m g : Nat) : Int) * 4 + (N : Int)) * 2 + z), (1, v), (9, 0), (1, 0), (9, 0), (9, 0), (9, 0), (9, 0)] [] (enc w t) := fun hn0 v => by
    obtain ⟨K, hK⟩ : ∃ K : Nat, N = K + 1 := ⟨N - 1, by omega⟩
    have hval : hbV m q N g (decide (z = 1)) = smI (hbT m q K g (decide (z = 1))) (nP m) := by rw [hK]; exact hbV_s
    have ex : iand x 31 = ((gL g : Nat) : Int) := by
      rw [hx]
      unfold trG
      rw [i_and31 (by show trG m g < 2147483648; omega)]
      have t2' : tr m g.1 g.2.1 g.2.2 % 32 = gL g := t2
      rw [t2']
    have loop : ∀ F : Nat, F < 65536 → (∀ p, p < nP m → F.testBit p = !(isI m (gL g) && isI m p)) → Ev (d + 4) 59 (fun r S2 => ∃ y w2 t2, r = some (1, y) ∧ S2 = enc w2 t2 ∧ HbO m b q g a n x z w t y w2 t2) 137 [rA 56, (0, a), (0, n), (0, x), (0, z), (0, (((trG m g : Nat) : Int) * 4 + (N : Int)) * 2 + z), (1, v), (9, 0), (1, 0), (9, 0), (0, (F : Int)), (0, 0), (9, 0)] [] (enc w t) := fun F hF hbit => by
      have l := lq2 (σ := eW × eT) (τ := aV) (fun p s J => Ev (d + 4) 59 (fun r S2 => ∃ y w2 t2, r = some (1, y) ∧ S2 = enc w2 t2 ∧ HbO m b q g a n x z w t y w2 t2) 137 [rA 56, (0, a), (0, n), (0, x), (0, z), (0, (((trG m g : Nat) : Int) * 4 + (N : Int)) * 2 + z), (1, v), (9, 0), (1, smI (hbT m q K g (decide (z = 1))) p), (9, 0), (0, (F : Int)), (0, (p : Int)), J] [] (enc s.1 s.2)) (fun p s => MR w t s.1 s.2 ∧ MC (PmB m q) b m s.1 s.2) (nP m) ?_ ?_ 0 (w, t) (9, 0) (Nat.zero_le _) ⟨MR.rf _ _, hM⟩
      · exact l
      · rintro p ⟨w1, t1⟩ J hpl ⟨mr, mc⟩ hE
        dsimp only at mr mc ⊢
        have hA1 := hA.lo mr.2.1
        have hN1 := hLN.lo mr.2.1
        have sstep : smI (hbT m q K g (decide (z = 1))) (p + 1) = smI (hbT m q K g (decide (z = 1))) p + hbT m q K g (decide (z = 1)) p := rfl
        rw [sstep] at hE
        refine g_hb3 (m := m) (b := b) (P := PmB m q) (hrH := hH) ⟨fun h9 => absurd h9 (by rw [hA1.1, ← hpn.1, w32_id (by omega), w32_id (by omega)]; omega), fun _ => ⟨g, ⟨hN1, hp, hr, hx, hg, by omega, by omega⟩, fun x2 hx2 => ?_⟩⟩
        rw [Int.toNat_natCast] at hx2
        obtain ⟨fr1, fr2⟩ := free p x2 hx2
        rw [bb_i (by omega) (by omega), hbit p hpl, fr2, hz32]
        have hgo : goes m (q : Int) g.1 g.2.1 g.2.2 p = (!(isI m (gL g) && isI m p) && okP m (q : Int) g.1 g.2.1 g.2.2 p) := rfl
        have skip : goes m (q : Int) g.1 g.2.1 g.2.2 p = false → ∀ J2, Ev (d + 4) 59 (fun r S2 => ∃ y w2 t2, r = some (1, y) ∧ S2 = enc w2 t2 ∧ HbO m b q g a n x z w t y w2 t2) 137 [rA 56, (0, a), (0, n), (0, x), (0, z), (0, (((trG m g : Nat) : Int) * 4 + (N : Int)) * 2 + z), (1, v), (9, 0), (1, smI (hbT m q K g (decide (z = 1))) p), (9, 0), (0, (F : Int)), (0, (p : Int) + 1), J2] [] (enc w1 t1) := fun h9 J2 => by
          have := hE (w1, t1) J2 ⟨mr, mc⟩
          have h0 : hbT m q K g (decide (z = 1)) p = 0 := by unfold hbT; rw [h9]; rfl
          rw [h0, Int.add_zero] at this
          exact this
        cases hI : (!(isI m (gL g) && isI m p)) with
        | false => exact ⟨fun _ => skip (by rw [hgo, hI]; rfl) _, fun h9 => absurd rfl h9⟩
        | true =>
          refine ⟨fun h9 => absurd h9 (by decide), fun _ => ⟨fun h9 => skip ?_ _, fun h9 => ?_⟩⟩
          · rw [hgo, hI]
            cases ho : okP m (q : Int) g.1 g.2.1 g.2.2 p with
            | false => rfl
            | true => exact absurd (fr1.mpr ho) h9
          · have ho := fr1.mp (Classical.not_not.mp h9)
            have hgt : goes m (q : Int) g.1 g.2.1 g.2.2 p = true := by rw [hgo, hI, ho]; rfl
            refine ⟨g, ⟨hN1, hp, hr, hx, hg, by omega, by omega⟩, fun x4 hx4 => ?_⟩
            rw [Int.toNat_natCast] at hx4
            have pre : ∀ zz : Int, (zz = 0 ∨ zz = 1) → HbR m b q B (gN g p) a (n - 1) x4 zz w1 t1 := fun zz hzz => ⟨⟨hA1, hN1, hC.lo mr.2.1, hp, hr⟩, mc, ha, hq, by omega, hx4, by show p ≤ 16; omega, hzz⟩
            have nxt : ∀ (zz y : Int) w2 t2 J2, decide (zz = 1) = (decide (z = 1) || !okP m (-1) g.1 g.2.1 g.2.2 p) → HbO m b q (gN g p) a (n - 1) x4 zz w1 t1 y w2 t2 → Ev (d + 4) 59 (fun r S2 => ∃ y w2 t2, r = some (1, y) ∧ S2 = enc w2 t2 ∧ HbO m b q g a n x z w t y w2 t2) 137 [rA 56, (0, a), (0, n), (0, x), (0, z), (0, (((trG m g : Nat) : Int) * 4 + (N : Int)) * 2 + z), (1, v), (9, 0), (1, smI (hbT m q K g (decide (z = 1))) p + y), (9, 0), (0, (F : Int)), (0, (p : Int) + 1), J2] [] (enc w2 t2) := fun zz y w2 t2 J2 hd ⟨hy, mr2, mc2⟩ => by
              have := hE (w2, t2) J2 ⟨mr.tr mr2, mc2⟩
              have h0 : hbT m q K g (decide (z = 1)) p = y := by
                unfold hbT
                rw [hgt, if_pos rfl, hy, hd, show (n - 1).toNat = K by omega]
              rw [h0] at this
              exact this
            refine ⟨fun h1 => ⟨gN g p, pre 1 (Or.inr rfl), fun y w2 t2 hz2 => nxt 1 y w2 t2 _ ?_ hz2⟩, fun h1 => ⟨fun h2 => ⟨gN g p, pre 0 (Or.inl rfl), fun y w2 t2 hz2 => nxt 0 y w2 t2 _ ?_ hz2⟩, fun h2 => ⟨gN g p, pre 1 (Or.inr rfl), fun y w2 t2 hz2 => nxt 1 y w2 t2 _ ?_ hz2⟩⟩⟩
            · rw [decide_eq_true (show z = 1 by omega)]; rfl
            · rw [decide_eq_false (show ¬ z = 1 by omega), h2]; rfl
            · rw [decide_eq_false (show ¬ z = 1 by omega)]
              cases ho2 : okP m (-1) g.1 g.2.1 g.2.2 p with
              | true => exact absurd ho2 h2
              | false => rfl
      · rintro ⟨w1, t1⟩ J ⟨mr, mc⟩
        dsimp only at mr mc ⊢
        have hA1 := hA.lo mr.2.1
        exact g_hb3 (m := m) (b := b) (P := PmB m q) (hrH := hH) ⟨fun _ => fin _ _ _ _ _ _ _ hval.symm mr mc, fun h9 => absurd (by rw [hA1.1, hpn.1]; exact Int.le_refl _) h9⟩
    refine g_hb2 (m := m) (b := b) (P := PmB m q) ?_
    rw [ex, Int.toNat_natCast]
    have hall : 2 ^ nP m ≤ 2 ^ 16 := Nat.pow_le_pow_right (by decide) hpn.2
    refine ⟨⟨hA, hp, by omega⟩, fun hI => ⟨⟨hA, hp⟩, loop _ (by omega) (fun p hpl => ?_)⟩, fun hI => ⟨⟨hA, hp⟩, ?_⟩⟩
    · rw [Nat.testBit_two_pow_sub_one, decide_eq_true hpl, hI]; rfl
    · rw [hA.2.2.2, i_andn (by omega) (by omega), Int.toNat_natCast, Int.toNat_natCast]
      have l1 : (2 ^ nP m - 1) &&& (2147483647 ^^^ insB m) ≤ 2 ^ nP m - 1 := Nat.and_le_left
      refine loop _ (by omega) (fun p hpl => ?_)
      have := bt_andn (2 ^ nP m - 1) (insB m) (p := p) (by omega)
      unfold bt at this
      rw [Int.toNat_natCast] at this
      rw [this, Nat.testBit_two_pow_sub_one, decide_eq_true hpl, insB_bit, hI]; rfl
  refine g_hb (m := m) (b := b) (P := PmB m q) ?_
  have go : Ev (d + 4) 59 (fun r S2 => ∃ y w2 t2, r = some (1, y) ∧ S2 = enc w2 t2 ∧ HbO m b q g a n x z w t y w2 t2) 20 [rA 56, (0, a), (0, n), (0, x), (0, z), (9, 0), (9, 0), (9, 0), (9, 0), (9, 0), (9, 0), (9, 0), (9, 0)] [(0, (((trG m g : Nat) : Int) * 4 + (N : Int)) * 2 + z)] (enc w t) := by
    refine g_hb1 (m := m) (b := b) (P := PmB m q) ⟨⟨hM, kb⟩, fun x1 hx1 => ⟨fun h1 => ⟨fun h2 => ?_, fun h2 => ?_⟩, fun h1 => ?_⟩⟩
    · rw [w32_id (x := n) (by omega)] at h2
      exact body h2 x1
    · rw [w32_id (x := n) (by omega)] at h2
      have hN0 : N = 0 := by omega
      have v0 : hbV m q N g (decide (z = 1)) = (if okP m (q : Int) g.1 g.2.1 g.2.2 16 = true then 1 else 0) - (if decide (z = 1) = true then 0 else (if okP m (-1) g.1 g.2.1 g.2.2 16 = true then 1 else 0)) := by
        rw [hN0]
        unfold hbV cR isE
        congr 1
        · split <;> rfl
        · split
          · rfl
          · split <;> rfl
      refine ⟨g, ⟨hLN, hp, hr, hx, hg, by decide, by decide⟩, fun x3 hx3 => ?_⟩
      obtain ⟨fr1, fr2⟩ := free 16 x3 hx3
      rw [fr2, hz32]
      refine ⟨fun h3 => fin _ _ _ _ _ _ _ ?_ (MR.rf _ _) hM, fun h3 => ?_⟩
      · have no : ¬ okP m (q : Int) g.1 g.2.1 g.2.2 16 = true := fun h9 => h3 (fr1.mpr h9)
        have no2 : ¬ okP m (-1) g.1 g.2.1 g.2.2 16 = true := fun h9 => no (okP_w h9)
        rw [v0, if_neg no, if_neg no2]
        split <;> rfl
      · have ye := fr1.mp (Classical.not_not.mp h3)
        refine ⟨fun h4 => fin _ _ _ _ _ _ _ ?_ (MR.rf _ _) hM, fun h4 => ⟨fun h5 => fin _ _ _ _ _ _ _ ?_ (MR.rf _ _) hM, fun h5 => fin _ _ _ _ _ _ _ ?_ (MR.rf _ _) hM⟩⟩
        · rw [v0, if_pos ye, decide_eq_true (show z = 1 by omega)]; rfl
        · rw [v0, if_pos ye, decide_eq_false (show ¬ z = 1 by omega), if_pos h5]; rfl
        · rw [v0, if_pos ye, decide_eq_false (show ¬ z = 1 by omega), if_neg h5]; rfl
    · rcases hx1 with h9 | h9
      · rw [h9] at h1
        exact absurd (by decide +kernel) h1
      · refine ⟨x1, w, t, rfl, rfl, ?_, MR.rf _ _, hM⟩
        rw [hN, Int.toNat_natCast]
        refine h9 N (decide (z = 1)) g hN3 hg ?_
        rcases hz with e | e <;> subst e <;> rfl
  rw [hz32]
  rcases hz with rfl | rfl
  · exact ⟨fun _ => by rw [key]; exact go, fun h9 => absurd rfl h9⟩
  · exact ⟨fun h9 => absurd h9 (by decide), fun _ => by rw [key]; exact go⟩
theorem c_hbB {d q : Nat} {m : eW} {b : Nat × Nat} : ∀ (B : Nat) (g : t3) (a n x z : Int) (w : eW) (t : eT), HbR m b q B g a n x z w t → Cl (d + B + 3) 59 [rA 56, (0, a), (0, n), (0, x), (0, z)] (enc w t) (fun r S2 => ∃ y w2 t2, r = some (1, y) ∧ S2 = enc w2 t2 ∧ HbO m b q g a n x z w t y w2 t2) := by
  intro B
  induction B with
  | zero => intro g a n x z w t h; exact absurd h.2.2.2.2.1.2.2 (Nat.not_lt_zero _)
  | succ B ih => exact fun g a n x z w t h => held_of (d := d + B) ih g a n x z w t h

theorem g_cruleOf {d : Nat} {Q : Option aV → aS → Prop} {w : eW} {t : eT} {a q : Int} {m : eW} {b : Nat × Nat} {P : Int → Int → Prop} {qq : Nat} (h : ((w32 a < 0 → Q (some (1, (-1))) (enc w t)) ∧ (¬ (w32 a < 0) → ((w32 a < w32 (w 15 12) → ((w32 q = 0 → (0 ≤ w32 a ∧ w32 a < 9) ∧ (Q (some (1, w32 (w 16 (w32 a).toNat))) (enc w t))) ∧ (w32 q = 1 → (0 ≤ w32 a ∧ w32 a < 9) ∧ (Q (some (1, w32 (w 17 (w32 a).toNat))) (enc w t))) ∧ (w32 q = 2 → (0 ≤ w32 a ∧ w32 a < 9) ∧ (Q (some (1, w32 (w 18 (w32 a).toNat))) (enc w t))) ∧ (w32 q = 3 → (0 ≤ w32 a ∧ w32 a < 9) ∧ (Q (some (1, w32 (w 19 (w32 a).toNat))) (enc w t))) ∧ (w32 q = 4 → (LN (wu (wu w 45 2 ((w 45 2) + 1)) 45 3 0) m ∧ WFp m ∧ WFr m) ∧ (∃ g1, (HbR m b qq 4 g1 a 3 ((tr m 16 16 16 : Nat) : Int) 0 (wu (wu w 45 2 ((w 45 2) + 1)) 45 3 0) t) ∧ (∀ x2 w3 t4, (HbO m b qq g1 a 3 ((tr m 16 16 16 : Nat) : Int) 0 (wu (wu w 45 2 ((w 45 2) + 1)) 45 3 0) t x2 w3 t4) → Q (some (1, x2)) (enc w3 t4)))) ∧ ((w32 q < 0 ∨ 5 ≤ w32 q) → Q (some (1, (-1))) (enc w t)))) ∧ (¬ (w32 a < w32 (w 15 12)) → Q (some (1, (-1))) (enc w t)))))) : Cl (d + 10) 158 [rA 1, (0, a), (0, q)] (enc w t) Q := by
  show Ev (d + 10) 158 Q 0 [rA 1, (0, a), (0, q)] [] (enc w t)
  refine e_ldi (show am_cd 158 0 = (2, 1, 1, 0, []) by decide +kernel) rfl ?_
  refine e_if2 (show am_cd 158 1 = (10, 4, 15, 2, []) by decide +kernel) (fun hc => ?_) (fun hc => ?_)
  · replace h := h.1 hc
    refine e_lc (show am_cd 158 15 = (1, 18, 1, -1, [253]) by decide +kernel) ?_
    exact e_retl (show am_cd 158 18 = (36, 19, 1, 0, []) by decide +kernel) (by decide +kernel) h
  · replace h := h.2 hc
    refine e_ldi (show am_cd 158 4 = (2, 5, 1, 0, []) by decide +kernel) rfl ?_
    refine e_lda (v := 1) (show am_cd 158 5 = (2, 6, 0, 2, []) by decide +kernel) rfl ?_
    refine e_getr (a := 1) (r := 15) (show am_cd 158 6 = (18, 9, 1102, 2, [26]) by decide +kernel) (by decide +kernel) (by decide +kernel) rfl ?_
    refine e_getf (a := 15) (tg := 0) (show am_cd 158 9 = (18, 12, 712, 0, [134]) by decide +kernel) (by decide +kernel) (by decide +kernel) rfl ?_
    refine e_cmp2 (show am_cd 158 12 = (11, 15, 19, 2, []) by decide +kernel) (fun hc => ?_) (fun hc => ?_)
    · replace h := h.1 hc
      refine e_ldi (show am_cd 158 19 = (2, 20, 2, 0, []) by decide +kernel) rfl ?_
      refine e_tsw (show am_cd 158 20 = (30, 109, 36, 0, [56, 67, 78, 89, 100]) by decide +kernel) (fun i tg hi hx => ?_) (fun hx => ?_)
      · match i, hi with
        | 0, hi =>
          cases hi
          replace h := h.1 (by omega)
          refine e_lda (v := 1) (show am_cd 158 56 = (2, 57, 0, 2, []) by decide +kernel) rfl ?_
          refine e_getr (a := 1) (r := 15) (show am_cd 158 57 = (18, 60, 1102, 2, [26]) by decide +kernel) (by decide +kernel) (by decide +kernel) rfl ?_
          refine e_getr (a := 15) (r := 16) (show am_cd 158 60 = (18, 63, 700, 2, [351]) by decide +kernel) (by decide +kernel) (by decide +kernel) rfl ?_
          refine e_ldi (show am_cd 158 63 = (2, 64, 1, 0, []) by decide +kernel) rfl ?_
          refine e_iald (a := 16) (n := 9) (show am_cd 158 64 = (21, 65, 0, 0, []) by decide +kernel) (by decide +kernel) (by decide +kernel) (by decide +kernel) h.1 ?_
          replace h := h.2
          refine e_i2l (show am_cd 158 65 = (8, 66, 0, 0, []) by decide +kernel) ?_
          exact e_retl (show am_cd 158 66 = (36, 67, 1, 0, []) by decide +kernel) (by decide +kernel) h
        | 1, hi =>
          cases hi
          replace h := h.2.1 (by omega)
          refine e_lda (v := 1) (show am_cd 158 67 = (2, 68, 0, 2, []) by decide +kernel) rfl ?_
          refine e_getr (a := 1) (r := 15) (show am_cd 158 68 = (18, 71, 1102, 2, [26]) by decide +kernel) (by decide +kernel) (by decide +kernel) rfl ?_
          refine e_getr (a := 15) (r := 17) (show am_cd 158 71 = (18, 74, 701, 2, [354]) by decide +kernel) (by decide +kernel) (by decide +kernel) rfl ?_
          refine e_ldi (show am_cd 158 74 = (2, 75, 1, 0, []) by decide +kernel) rfl ?_
          refine e_iald (a := 17) (n := 9) (show am_cd 158 75 = (21, 76, 0, 0, []) by decide +kernel) (by decide +kernel) (by decide +kernel) (by decide +kernel) h.1 ?_
          replace h := h.2
          refine e_i2l (show am_cd 158 76 = (8, 77, 0, 0, []) by decide +kernel) ?_
          exact e_retl (show am_cd 158 77 = (36, 78, 1, 0, []) by decide +kernel) (by decide +kernel) h
        | 2, hi =>
          cases hi
          replace h := h.2.2.1 (by omega)
          refine e_lda (v := 1) (show am_cd 158 78 = (2, 79, 0, 2, []) by decide +kernel) rfl ?_
          refine e_getr (a := 1) (r := 15) (show am_cd 158 79 = (18, 82, 1102, 2, [26]) by decide +kernel) (by decide +kernel) (by decide +kernel) rfl ?_
          refine e_getr (a := 15) (r := 18) (show am_cd 158 82 = (18, 85, 702, 2, [357]) by decide +kernel) (by decide +kernel) (by decide +kernel) rfl ?_
          refine e_ldi (show am_cd 158 85 = (2, 86, 1, 0, []) by decide +kernel) rfl ?_
          refine e_iald (a := 18) (n := 9) (show am_cd 158 86 = (21, 87, 0, 0, []) by decide +kernel) (by decide +kernel) (by decide +kernel) (by decide +kernel) h.1 ?_
          replace h := h.2
          refine e_i2l (show am_cd 158 87 = (8, 88, 0, 0, []) by decide +kernel) ?_
          exact e_retl (show am_cd 158 88 = (36, 89, 1, 0, []) by decide +kernel) (by decide +kernel) h
        | 3, hi =>
          cases hi
          replace h := h.2.2.2.1 (by omega)
          refine e_lda (v := 1) (show am_cd 158 89 = (2, 90, 0, 2, []) by decide +kernel) rfl ?_
          refine e_getr (a := 1) (r := 15) (show am_cd 158 90 = (18, 93, 1102, 2, [26]) by decide +kernel) (by decide +kernel) (by decide +kernel) rfl ?_
          refine e_getr (a := 15) (r := 19) (show am_cd 158 93 = (18, 96, 703, 2, [360]) by decide +kernel) (by decide +kernel) (by decide +kernel) rfl ?_
          refine e_ldi (show am_cd 158 96 = (2, 97, 1, 0, []) by decide +kernel) rfl ?_
          refine e_iald (a := 19) (n := 9) (show am_cd 158 97 = (21, 98, 0, 0, []) by decide +kernel) (by decide +kernel) (by decide +kernel) (by decide +kernel) h.1 ?_
          replace h := h.2
          refine e_i2l (show am_cd 158 98 = (8, 99, 0, 0, []) by decide +kernel) ?_
          exact e_retl (show am_cd 158 99 = (36, 100, 1, 0, []) by decide +kernel) (by decide +kernel) h
        | 4, hi =>
          cases hi
          replace h := h.2.2.2.2.1 (by omega)
          refine e_lda (v := 1) (show am_cd 158 100 = (2, 101, 0, 2, []) by decide +kernel) rfl ?_
          refine e_getr (a := 1) (r := 56) (show am_cd 158 101 = (18, 104, 1108, 2, [72]) by decide +kernel) (by decide +kernel) (by decide +kernel) rfl ?_
          refine e_ldi (show am_cd 158 104 = (2, 105, 1, 0, []) by decide +kernel) rfl ?_
          refine e_cV (z := 0) (a := 56) (as := [(0, a)]) (rest := []) (show am_cd 158 105 = (40, 108, 58, 0, [363]) by decide +kernel) (by decide +kernel) rfl rfl (Nat.le_of_ble_eq_true rfl) rfl ?_
          show Ev _ 58 _ 0 [rA 56, (0, a)] [] _
          refine e_lda (v := 56) (show am_cd 58 0 = (2, 1, 0, 2, []) by decide +kernel) rfl ?_
          refine e_getr (a := 56) (r := 45) (show am_cd 58 1 = (18, 4, 603, 2, [27]) by decide +kernel) (by decide +kernel) (by decide +kernel) rfl ?_
          refine e_cV (z := 0) (a := 45) (as := []) (rest := []) (show am_cd 58 4 = (40, 7, 43, 0, [31]) by decide +kernel) (by decide +kernel) rfl rfl (Nat.le_of_ble_eq_true rfl) rfl ?_
          show Ev _ 43 _ 0 [rA 45] [] _
          refine e_lda (v := 45) (show am_cd 43 0 = (2, 1, 0, 2, []) by decide +kernel) rfl ?_
          refine e_dup (show am_cd 43 1 = (13, 2, 0, 0, []) by decide +kernel) (by decide) ?_
          refine e_getf (a := 45) (tg := 0) (show am_cd 43 2 = (18, 5, 502, 0, [18]) by decide +kernel) (by decide +kernel) (by decide +kernel) rfl ?_
          refine e_ic (show am_cd 43 5 = (0, 6, 0, 1, []) by decide +kernel) ?_
          refine e_iadd (show am_cd 43 6 = (5, 7, 0, 0, []) by decide +kernel) ?_
          refine e_putf (a := 45) (show am_cd 43 7 = (19, 10, 502, 0, [18]) by decide +kernel) (by decide +kernel) (by decide +kernel) rfl (fun h9 => absurd h9 (by decide)) (fun h9 => absurd h9 (by decide +kernel)) ?_
          refine e_lda (v := 45) (show am_cd 43 10 = (2, 11, 0, 2, []) by decide +kernel) rfl ?_
          refine e_ic (show am_cd 43 11 = (0, 12, 0, 0, []) by decide +kernel) ?_
          refine e_putf (a := 45) (show am_cd 43 12 = (19, 15, 503, 0, [22]) by decide +kernel) (by decide +kernel) (by decide +kernel) rfl (fun h9 => absurd h9 (by decide)) (fun h9 => absurd h9 (by decide +kernel)) ?_
          refine e_retv (show am_cd 43 15 = (36, 16, 3, 0, []) by decide +kernel) (by decide +kernel) ⟨fun _ h9 => (by cases h9), ?_⟩
          show Ev _ 58 _ 7 [rA 56, (0, a)] [] _
          refine e_lda (v := 56) (show am_cd 58 7 = (2, 8, 0, 2, []) by decide +kernel) rfl ?_
          refine e_ldi (show am_cd 58 8 = (2, 9, 1, 0, []) by decide +kernel) rfl ?_
          refine e_ic (show am_cd 58 9 = (0, 10, 0, 3, []) by decide +kernel) ?_
          refine e_lda (v := 56) (show am_cd 58 10 = (2, 11, 0, 2, []) by decide +kernel) rfl ?_
          refine e_getr (a := 56) (r := 15) (show am_cd 58 11 = (18, 14, 602, 2, [23]) by decide +kernel) (by decide +kernel) (by decide +kernel) rfl ?_
          refine e_cV (z := 0) (a := 15) (as := []) (rest := [(0, 3), (0, a), rA 56]) (show am_cd 58 14 = (40, 17, 73, 0, [36]) by decide +kernel) (by decide +kernel) rfl rfl (Nat.le_of_ble_eq_true rfl) rfl ?_
          refine Cl.mono (Cl.up (c_rstart (d := d) h.1) (by omega)) ?_
          rintro _ _ ⟨rfl, rfl⟩
          refine ⟨fun _ h9 => (by cases h9), ?_⟩
          replace h := h.2
          show Ev _ 58 _ 17 [rA 56, (0, a)] [(0, ((tr m 16 16 16 : Nat) : Int)), (0, 3), (0, a), rA 56] _
          refine e_ic (show am_cd 58 17 = (0, 18, 0, 0, []) by decide +kernel) ?_
          refine e_cV (z := 0) (a := 56) (as := [(0, a), (0, 3), (0, ((tr m 16 16 16 : Nat) : Int)), (0, 0)]) (rest := []) (show am_cd 58 18 = (40, 21, 59, 0, [126]) by decide +kernel) (by decide +kernel) rfl rfl (Nat.le_of_ble_eq_true rfl) rfl ?_
          obtain ⟨g1, h⟩ := h
          refine Cl.mono (Cl.up (c_hbB (q := qq) (m := m) (b := b) (d := d) 4 g1 _ _ _ _ _ _ h.1) (by omega)) ?_
          rintro _ _ ⟨x2, w3, t4, rfl, rfl, hp⟩
          refine ⟨fun _ h9 => (by cases h9), ?_⟩
          replace h := h.2 x2 w3 t4 hp
          show Ev _ 58 _ 21 [rA 56, (0, a)] [(1, x2)] _
          refine e_retl (show am_cd 58 21 = (36, 22, 1, 0, []) by decide +kernel) (by decide +kernel) ⟨fun _ h9 => (by cases h9), ?_⟩
          show Ev _ 158 _ 108 [rA 1, (0, a), (0, q)] [(1, x2)] _
          exact e_retl (show am_cd 158 108 = (36, 109, 1, 0, []) by decide +kernel) (by decide +kernel) h
        | i + 5, hi => cases hi
      · replace h := h.2.2.2.2.2 (by simp only [List.length_cons, List.length_nil] at hx; omega)
        refine e_lc (show am_cd 158 109 = (1, 112, 1, -1, [253]) by decide +kernel) ?_
        exact e_retl (show am_cd 158 112 = (36, 113, 1, 0, []) by decide +kernel) (by decide +kernel) h
    · replace h := h.2 hc
      refine e_lc (show am_cd 158 15 = (1, 18, 1, -1, [253]) by decide +kernel) ?_
      exact e_retl (show am_cd 158 18 = (36, 19, 1, 0, []) by decide +kernel) (by decide +kernel) h

theorem AnC.lo {w w2 : eW} {t t2 : eT} {b b2 : Nat × Nat} {m : eW} {ks : kT} {rl tl : List Int} {v : aV} (h : CI w t b m ks rl tl) (l : Lo w w2) (hD : DynQ w2 t2 b2 m) : AnC w m b2 ks rl tl v (some v) (enc w2 t2) := by
  refine ⟨w2, t2, rfl, rfl, fun a h1 h2 => l a (by omega), h.lok l.lok hD ⟨h.1.1.1.lo l, by rw [l 2 (by omega)]; exact h.1.1.2⟩ (h.2.2.2.1.lo l) (h.2.2.2.2.1.lo l)⟩
theorem k_ruleOf {d : Nat} {w : eW} {t : eT} {b : Nat × Nat} {m : eW} {ks : kT} {rl tl : List Int} {a q : Int} (h : CI w t b m ks rl tl) (ha : okI a) (hq : okI q) (hp : WFp m) (hr : WFr m) (hb : b.2 + 1 < 1000000000) : Cl (d + 10) 158 [rA 1, (0, a), (0, q)] (enc w t) (AnC w m (b.1, b.2 + 1) ks rl tl (1, ruleOfV m a q)) := by
  have ha2 : -2147483648 ≤ a ∧ a ≤ 2147483647 := ha
  have hq2 : -2147483648 ≤ q ∧ q ≤ 2147483647 := hq
  have hn := hr.n
  have hC := h.2.1.1
  have hDQ := DynP_Q.mp h.2.2.2.2.2
  refine g_cruleOf (m := m) (b := (b.1, b.2 + 1)) (P := fun _ _ => True) (qq := a.toNat) ?_
  rw [hC.1, ← hn.1]
  simp (disch := omega) only [w32_id]
  have fin : ∀ x, x = ruleOfV m a q → AnC w m (b.1, b.2 + 1) ks rl tl (1, ruleOfV m a q) (some (1, x)) (enc w t) := fun x hx => by
    subst hx
    exact AnC.lo h (Lo.rf _) (hDQ.le (Nat.le_succ _))
  unfold ruleOfV at *
  refine ⟨fun h0 => fin _ (by rw [if_neg (by omega)]), fun h0 => ⟨fun h1 => ?_, fun h1 => fin _ (by rw [if_neg (by omega)])⟩⟩
  obtain ⟨x1, x2, x3, x4, _⟩ := hC.2 a.toNat (by omega)
  obtain ⟨b1, b2, b3, b4, _⟩ := hr.2 a.toNat (by omega)
  have hpn := hp.n
  rw [x1, x2, x3, x4]
  simp (disch := omega) only [w32_id]
  rw [if_pos (by omega)] at fin ⊢
  refine ⟨fun h2 => ⟨by omega, fin _ (by rw [if_pos h2])⟩, fun h2 => ⟨by omega, fin _ (by rw [if_neg (by omega), if_pos h2])⟩, fun h2 => ⟨by omega, fin _ (by rw [if_neg (by omega), if_neg (by omega), if_pos h2])⟩, fun h2 => ⟨by omega, fin _ (by rw [if_neg (by omega), if_neg (by omega), if_neg (by omega), if_pos h2])⟩, fun h2 => ?_, fun h2 => fin _ (by rw [if_neg (by omega), if_neg (by omega), if_neg (by omega), if_neg (by omega), if_neg (by omega)])⟩
  obtain ⟨mc, lo2, _, _⟩ := m_clear (P := PmB m a.toNat) hDQ hb
  have ew : wu (wu w 45 2 (w 45 2 + 1)) 45 3 0 = clW w := rfl
  rw [ew]
  refine ⟨⟨h.2.1.2.lo lo2, hp, hr⟩, (16, 16, 16), ⟨⟨h.1.2.1.lo lo2, h.2.1.2.lo lo2, hC.lo lo2, hp, hr⟩, mc, by omega, by omega, by decide, rfl, by show (16 : Nat) ≤ 16; decide, Or.inl rfl⟩, fun y w2 t2 hz => ?_⟩
  obtain ⟨hy, mr, mc2⟩ := hz
  have hv : y = (if q = 0 then m 72 a.toNat else if q = 1 then m 73 a.toNat else if q = 2 then m 74 a.toNat else if q = 3 then m 75 a.toNat else if q = 4 then (cR m a 3 16 16 16 : Int) - (cR m (-1) 3 16 16 16 : Int) else -1) := by
    rw [if_neg (by omega), if_neg (by omega), if_neg (by omega), if_neg (by omega), if_pos h2, hy]
    unfold hbV
    rw [show ((a.toNat : Nat) : Int) = a by omega, if_neg (by decide)]
    rfl
  rw [← hv]
  exact AnC.lo h (lo2.tr mr.2.1) mc2.1

