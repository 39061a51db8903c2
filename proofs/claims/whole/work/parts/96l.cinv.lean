/-! The class: what holds between two calls. -/
/-- what may come behind a b c (16: the end), as bits -/
def mfB (m : eW) (a b c : Nat) : Nat := bts (fun d => if d = 16 then isE m (-1) a b c else decide (d < nP m) && goes m (-1) a b c d) 17
def nxB (m : eW) (b c : Nat) : Nat := bts (fun r => ff m r b && nf m r c) (nR m)
def frB (m : eW) (c : Nat) : Nat := bts (fun r => ff m r c) (nR m)
def ftB (m : eW) (a b c : Nat) : Nat := bts (fun r => ff m r a && nf m r b && (mu m r c || ba m r c)) (nR m)
/-- a trail: what the rules need to know of a row that ends with a b c -/
def tr (m : eW) (a b c : Nat) : Nat := c + 32 * ftB m a b c + 8192 * nxB m b c
/-- by what a state is told -/
def kyT (m : eW) (a b c : Nat) : Nat := mfB m a b c + 131072 * nxB m b c + 33554432 * frB m c
/-- places that can be the last three of a row -/
def tri (m : eW) (a b c : Nat) : Prop := (c = 16 ∨ c < nP m) ∧ (b = 16 ∨ b < nP m) ∧ (a = 16 ∨ a < nP m) ∧ (c = 16 → b = 16) ∧ (b = 16 → a = 16)
/-- a row of just n further pairs comes to a good end -/
def eR (m : eW) : Nat → Nat → Nat → Nat → Bool
  | 0, a, b, c => isE m (-1) a b c
  | n + 1, a, b, c => an (fun d => goes m (-1) a b c d && eR m n b c d) (nP m)
def mK (w : eW) (s : Nat) : Int := w (w 37 1).toNat s
def mL (w : eW) (s : Nat) : Int := w (w 37 2).toNat s
def mT (w : eW) (s : Nat) : Int := w (w 37 3).toNat s
def mD (w : eW) (s : Nat) : Int := w (w 37 4).toNat s
def mTl (w : eW) (s : Nat) : Int := w (w 37 5).toNat s
def mA (w : eW) (s d : Nat) : Int := w (w 37 6).toNat (16 * s + d)
def mN (w : eW) : Nat := (w 37 7).toNat
/-- the arrays that are made anew when they are full -/
def dyRef (w : eW) : List Int := [w 37 1, w 37 2, w 37 3, w 37 4, w 37 5, w 37 6, w 45 0, w 45 1]
def DyI (w : eW) (t : eT) : Prop := (dyRef w).Nodup ∧ (∀ a ∈ dyRef w, (39 ≤ a ∧ a ≤ 44) ∨ (46 ≤ a ∧ a ≤ 47) ∨ 102 ≤ a) ∧ (∃ R, (32 ≤ R ∧ R ≤ 4369) ∧ (dyK t (w 37 1) 21 ∧ dyL t (w 37 1) = R) ∧ (dyK t (w 37 2) 20 ∧ dyL t (w 37 2) = R) ∧ (dyK t (w 37 3) 20 ∧ dyL t (w 37 3) = R) ∧ (dyK t (w 37 4) 20 ∧ dyL t (w 37 4) = R) ∧ (dyK t (w 37 5) 20 ∧ dyL t (w 37 5) = R) ∧ (dyK t (w 37 6) 20 ∧ dyL t (w 37 6) = 16 * R)) ∧ ∃ M, (256 ≤ M ∧ M ≤ 262144) ∧ (∃ e, M = 4 ^ e) ∧ (dyK t (w 45 0) 21 ∧ dyL t (w 45 0) = M) ∧ (dyK t (w 45 1) 21 ∧ dyL t (w 45 1) = M)
def mcS (R : Nat) : Nat := if R ≤ 4096 then 42 * R else if R < 4369 then 263781 else 355530
def RmI (w : eW) (t : eT) (b : Nat × Nat) : Prop := b.1 + 6 * t.2.1 ≤ t.2.2 ∧ t.2.2 ≤ b.1 + mcS (dyL t (w 37 1)) + 4 * dyL t (w 45 0) + 6 * b.2
/-- the machine is right -/
def MaC (w m : eW) : Prop := (1 ≤ mN w ∧ w 37 7 = (mN w : Int) ∧ mK w 0 = (kyT m 16 16 16 : Int)) ∧ mD w 0 = 0
  ∧ (∀ s, s < mN w → ∃ a b c, tri m a b c ∧ mK w s = (kyT m a b c : Int) ∧ (∀ d, d < 16 → if (mfB m a b c).testBit d then (if mfB m b c d = 0 then mA w s d = -1 else ∃ s2, s2 < mN w ∧ mA w s d = (s2 : Int) ∧ mK w s2 = (kyT m b c d : Int) ∧ mD w s2 ≤ mD w s + 1) else mA w s d = -1) ∧ mTl w s = (fsN (fun n => eR m n a b c) 7 0 : Int))
  ∧ (∀ s, s < mN w → 0 ≤ mD w s ∧ mD w s ≤ 4369 ∧ (s ≠ 0 → ∃ s1 d, s1 < mN w ∧ d < 16 ∧ mA w s1 d = (s : Int) ∧ mD w s = mD w s1 + 1))
def KyN (w : eW) (t : eT) : Prop := mN w ≤ dyL t (w 37 1) ∧ ∀ s s2, s < mN w → s2 < mN w → mK w s = mK w s2 → s = s2
theorem KyN.ext {w w2 : eW} {t t2 : eT} (h : KyN w t) (e1 : mK w2 = mK w) (e2 : w2 37 = w 37) (e3 : dyL t2 (w 37 1) = dyL t (w 37 1)) : KyN w2 t2 := by
  have e4 : mN w2 = mN w := by unfold mN; rw [e2]
  unfold KyN
  rw [e4, e2, e3, e1]
  exact h
def MmT (w : eW) (t : eT) : Prop := ∀ j, j < dyL t (w 45 0) → 0 ≤ w (w 45 0).toNat j ∧ w (w 45 0).toNat j < (w 45 2 + 1) * 4294967296
def DynQ (w : eW) (t : eT) (b : Nat × Nat) (m : eW) : Prop := DyI w t ∧ RmI w t b ∧ ((1 ≤ w 45 2 ∧ w 45 2 ≤ (b.2 : Int) + 1) ∧ (0 ≤ w 45 3 ∧ 2 * w 45 3 ≤ (dyL t (w 45 0) : Int) + 1) ∧ MmT w t) ∧ (w 37 8 = 1 ∨ (w 37 8 = 0 ∧ MaC w m ∧ KyN w t))
def pj (w : eW) : eW := fun a k => if (37 ≤ a ∧ a ≤ 47) ∨ 102 ≤ a then w a k else 0
def pm (m : eW) : eW := fun a k => if (a = 67 ∧ (k = 0 ∨ k = 6)) ∨ a = 68 ∨ a = 69 ∨ (72 ≤ a ∧ a ≤ 76) then m a k else 0
def DynP (w : eW) (t : eT) (b : Nat × Nat) (m : eW) : Prop := DynQ (pj w) t b (pm m)
theorem DynP.fc {w w2 : eW} {t : eT} {b : Nat × Nat} {m : eW} {R : List Nat} {F : List (Nat × Nat)} (h : DynP w t b m) (hf : Fc R F w w2) (hR : ∀ a ∈ R, a < 37 ∨ (47 < a ∧ a < 102)) (hF : F.all (fun p => decide (p.1 < 37) || (decide (47 < p.1) && decide (p.1 < 102))) = true) : DynP w2 t b m := by
  have e : pj w2 = pj w := by
    funext a k
    unfold pj
    by_cases h9 : (37 ≤ a ∧ a ≤ 47) ∨ 102 ≤ a
    · rw [if_pos h9, if_pos h9]
      refine hf a k (fun h8 => by have := hR a h8; omega) (fun h8 => ?_)
      have := List.all_eq_true.mp hF _ h8
      simp at this
      omega
    · rw [if_neg h9, if_neg h9]
  unfold DynP
  rw [e]
  exact h
theorem DynP.mm {w : eW} {t : eT} {b : Nat × Nat} {m m2 : eW} (h : DynP w t b m) (e : pm m2 = pm m) : DynP w t b m2 := by
  unfold DynP
  rw [e]
  exact h
/-- stale: nothing is asked of the machine -/
theorem DynP.stale {w w2 : eW} {t : eT} {b : Nat × Nat} {m m2 : eW} {R : List Nat} {F : List (Nat × Nat)} (h : DynP w t b m) (hf : Fc R F w w2) (hR : ∀ a ∈ R, a < 37 ∨ (47 < a ∧ a < 102)) (hF : F.all (fun p => decide (p.1 < 37) || (decide (47 < p.1) && decide (p.1 < 102)) || (decide (p.1 = 37) && decide (p.2 = 8))) = true) (h8 : w2 37 8 = 1) : DynP w2 t b m2 := by
  have e : ∀ a k, (37 ≤ a ∧ a ≤ 47) ∨ 102 ≤ a → ¬ (a = 37 ∧ k = 8) → pj w2 a k = pj w a k := fun a k h9 h7 => by
    unfold pj
    rw [if_pos h9, if_pos h9]
    refine hf a k (fun h8 => by have := hR a h8; omega) (fun h8 => ?_)
    have := List.all_eq_true.mp hF _ h8
    simp at this
    omega
  obtain ⟨h1, h2, h3, _⟩ := h
  have d1 : ∀ k, k < 8 → pj w2 37 k = pj w 37 k := fun k hk => e 37 k (by omega) (by omega)
  have d2 : ∀ k, pj w2 45 k = pj w 45 k := fun k => e 45 k (by omega) (by omega)
  refine ⟨?_, ?_, ?_, Or.inl ?_⟩
  · unfold DyI dyRef at *
    rw [d1 1 (by omega), d1 2 (by omega), d1 3 (by omega), d1 4 (by omega), d1 5 (by omega), d1 6 (by omega), d2 0, d2 1]
    exact h1
  · unfold RmI at *
    rw [d1 1 (by omega), d2 0]
    exact h2
  · have hr : (46 ≤ (pj w 45 0) ∧ (pj w 45 0) ≤ 47) ∨ (39 ≤ (pj w 45 0) ∧ (pj w 45 0) ≤ 44) ∨ 102 ≤ (pj w 45 0) := by
      have := h1.2.1 (pj w 45 0) (by unfold dyRef; simp)
      omega
    have hrow : ∀ j, pj w2 (pj w 45 0).toNat j = pj w (pj w 45 0).toNat j := fun j => e _ j (by omega) (by omega)
    unfold MmT
    rw [d2 2, d2 3, d2 0]
    exact ⟨h3.1, h3.2.1, fun j hj => by rw [hrow j]; exact h3.2.2 j hj⟩
  · unfold pj
    rw [if_pos (by omega)]
    exact h8
/-- the lexicon -/
def XC (w m : eW) : Prop := w 28 8 = m 67 12 ∧ ∀ e, e < nE m → w 29 e = m 77 e ∧ w 30 e = m 78 e ∧ w 31 e = m 79 e ∧ ∀ k, k < fmN m e → w 32 (5 * e + k) = m 80 (5 * e + k) + 1
/-- chains of entries, from a class to the end, with so many letters -/
def Ch (m : eW) : Int → List Nat → Prop
  | _, [] => False
  | c, [e] => e < nE m ∧ m 77 e = c ∧ m 78 e = -1
  | c, e :: e2 :: r => e < nE m ∧ m 77 e = c ∧ m 78 e ≠ -1 ∧ Ch m (m 78 e) (e2 :: r)
def totL (m : eW) (l : List Nat) : Nat := (l.map (fmN m)).sum
theorem Ch.head {m : eW} {c : Int} {e : Nat} {r : List Nat} (h : Ch m c (e :: r)) : e < nE m ∧ m 77 e = c := by
  cases r with
  | nil => exact ⟨h.1, h.2.1⟩
  | cons a b => exact ⟨h.1, h.2.1⟩
def Cn (m : eW) (c : Int) (n : Nat) : Prop := ∃ l, Ch m c l ∧ totL m l = n
/-- where no letter has been tried, there are no ways but the start of the first class -/
def ZC (w : eW) : Prop := (∀ g, 1 ≤ g → g < 4 → w 35 g = 0) ∧ ∀ j, j < 80 → w 34 j = 0
def ShC (w m : eW) : Prop := (∀ c, c < 4 → 0 ≤ w 36 c ∧ w 36 c ≤ 1000) ∧ (∀ (c : Nat) n, c < 4 → Cn m (c : Int) n → w 36 c ≤ (n : Int)) ∧ ZC w
/-- what is kept -/
def KC (w : eW) (ks : kT) : Prop := w 48 4 = (ks.length : Int) ∧ ks.length ≤ 20 ∧ ∀ i, i < ks.length → (kAt ks i).1.length ≤ 13 ∧ (kAt ks i).2.length ≤ 6 ∧ w 49 i = ((kAt ks i).1.length : Int) ∧ (∀ k, k < (kAt ks i).1.length → w 51 (13 * i + k) = (((kAt ks i).1.getD k 0 : Nat) : Int)) ∧ w 50 i = ((kAt ks i).2.length : Int) ∧ (∀ k, k < (kAt ks i).2.length → w 52 (6 * i + k) = (((kAt ks i).2.getD k 0 : Nat) : Int))
def TlC (w : eW) (rl : List Int) : Prop := w 1 14 = (rl.length : Int) ∧ rl.length ≤ 24 ∧ ∀ i, i < rl.length → w 66 i = rl.getD i 0
/-- the class between two calls -/
def CI (w : eW) (t : eT) (b : Nat × Nat) (m : eW) (ks : kT) (rl tx : List Int) : Prop := ((TC w tx ∧ w 2 6 = 0) ∧ AC w m ∧ SC w m) ∧ (RC w m ∧ LN w m) ∧ (XC w m ∧ ShC w m) ∧ KC w ks ∧ TlC w rl ∧ DynP w t b m
/-- an answer of the class: the model's cells are as they were -/
def AnC (w : eW) (m : eW) (b : Nat × Nat) (ks : kT) (rl tx : List Int) (v : aV) (r : Option aV) (S2 : aS) : Prop := ∃ w2 t2, r = some v ∧ S2 = enc w2 t2 ∧ (∀ a, 67 ≤ a → a < 101 → w2 a = w a) ∧ CI w2 t2 b m ks rl tx
theorem XC.fc {w w2 m : eW} {R : List Nat} {F : List (Nat × Nat)} (h : XC w m) (hf : Fc R F w w2) (hR : ∀ a ∈ R, a < 28 ∨ 32 < a) (hF : F.all (fun p => decide (p.1 < 28) || decide (32 < p.1) || (decide (p.1 = 28) && !decide (p.2 = 8))) = true) : XC w2 m := by
  have hF2 : ∀ a k, 28 ≤ a → a ≤ 32 → (a = 28 → k = 8) → w2 a k = w a k := fun a k h1 h2 h3 => hf a k (fun h9 => by have := hR a h9; omega) (fun h9 => by
    have := List.all_eq_true.mp hF _ h9
    simp at this
    omega)
  refine ⟨by rw [hF2 28 8 (by omega) (by omega) (fun _ => rfl)]; exact h.1, fun e he => ?_⟩
  have := h.2 e he
  rw [hF2 29 e (by omega) (by omega) (by omega), hF2 30 e (by omega) (by omega) (by omega), hF2 31 e (by omega) (by omega) (by omega)]
  exact ⟨this.1, this.2.1, this.2.2.1, fun k hk => by rw [hF2 32 _ (by omega) (by omega) (by omega)]; exact this.2.2.2 k hk⟩
theorem ZC.fc {w w2 : eW} {R : List Nat} {F : List (Nat × Nat)} (h : ZC w) (hf : Fc R F w w2) (hR : 34 ∉ R ∧ 35 ∉ R) (hF : F.all (fun p => decide (p.1 < 34) || decide (35 < p.1)) = true) : ZC w2 := by
  have e : ∀ a, 34 ≤ a → a ≤ 35 → a ∉ R → w2 a = w a := fun a h1 h2 h3 => by
    funext k
    exact hf a k h3 (fun h9 => by
      have := List.all_eq_true.mp hF _ h9
      simp at this
      omega)
  unfold ZC
  rw [e 34 (by omega) (by omega) hR.1, e 35 (by omega) (by omega) hR.2]
  exact h
theorem ShC.fc {w w2 m : eW} {R : List Nat} {F : List (Nat × Nat)} (h : ShC w m) (hf : Fc R F w w2) (hR : 36 ∉ R ∧ 34 ∉ R ∧ 35 ∉ R) (hF : F.all (fun p => decide (p.1 < 34) || decide (36 < p.1)) = true) : ShC w2 m := by
  have e : w2 36 = w 36 := by
    funext k
    exact hf 36 k hR.1 (fun h9 => by
      have := List.all_eq_true.mp hF _ h9
      simp at this)
  refine ⟨by rw [e]; exact h.1, by rw [e]; exact h.2.1, h.2.2.fc hf hR.2 (List.all_eq_true.mpr (fun p hp => ?_))⟩
  have := List.all_eq_true.mp hF p hp
  simp at this ⊢
  omega
theorem KC.fc {w w2 : eW} {ks : kT} {R : List Nat} {F : List (Nat × Nat)} (h : KC w ks) (hf : Fc R F w w2) (hR : ∀ a ∈ R, a < 48 ∨ 52 < a) (hF : F.all (fun p => decide (p.1 < 48) || decide (52 < p.1)) = true) : KC w2 ks := by
  have hF2 : ∀ a, 48 ≤ a → a ≤ 52 → w2 a = w a := fun a h1 h2 => by
    funext k
    exact hf a k (fun h9 => by have := hR a h9; omega) (fun h9 => by
      have := List.all_eq_true.mp hF _ h9
      simp at this
      omega)
  unfold KC
  rw [hF2 48 (by omega) (by omega), hF2 49 (by omega) (by omega), hF2 50 (by omega) (by omega), hF2 51 (by omega) (by omega), hF2 52 (by omega) (by omega)]
  exact h
theorem TlC.fc {w w2 : eW} {rl : List Int} {R : List Nat} {F : List (Nat × Nat)} (h : TlC w rl) (hf : Fc R F w w2) (hR : 1 ∉ R ∧ 66 ∉ R) (hF : (1, 14) ∉ F ∧ F.all (fun p => decide (p.1 ≠ 66)) = true) : TlC w2 rl := by
  unfold TlC
  rw [hf _ _ hR.1 hF.1, hf.row hR.2 hF.2]
  exact h
theorem LN.fc {w w2 m : eW} {R : List Nat} {F : List (Nat × Nat)} (h : LN w m) (hf : Fc R F w w2) (hR : ∀ a ∈ R, a < 15 ∨ (15 < a ∧ a < 23) ∨ 27 < a) (hF : F.all (fun p => decide (p.1 < 15) || (decide (15 < p.1) && decide (p.1 < 23)) || decide (27 < p.1) || (decide (p.1 = 15) && decide (p.2 < 16))) = true) : LN w2 m := by
  have hF2 : ∀ a k, (a = 15 ∧ 16 ≤ k) ∨ (23 ≤ a ∧ a ≤ 27) → w2 a k = w a k := fun a k h1 => hf a k (fun h9 => by have := hR a h9; omega) (fun h9 => by
    have := List.all_eq_true.mp hF _ h9
    simp at this
    omega)
  unfold LN
  rw [hF2 15 16 (by omega), hF2 15 17 (by omega)]
  refine ⟨h.1, fun p hp => ?_⟩
  rw [hF2 23 p (by omega), hF2 24 p (by omega), hF2 25 p (by omega), hF2 26 p (by omega), hF2 27 p (by omega)]
  exact h.2 p hp
theorem Fc.up {R : List Nat} {F : List (Nat × Nat)} {w w2 : eW} (h : Fc R F w w2) (hR : ∀ a ∈ R, a < 67 ∨ 100 < a) (hF : F.all (fun p => decide (p.1 < 67)) = true) : ∀ a, 67 ≤ a → a < 101 → w2 a = w a := fun a h1 _ => by
  funext k
  exact h a k (fun h9 => by have := hR a h9; omega) (fun h9 => by
    have := List.all_eq_true.mp hF _ h9
    simp at this
    omega)

