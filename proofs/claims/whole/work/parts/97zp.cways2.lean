/-! The class: ways. -/

def InvW (w0 w : eW) : Prop := ∀ a, a < 37 ∨ a = 53 → w a = w0 a
/-- what is walked: whole, pairs, behind a pair, entries, with an entry; what is right; how far it is; the rows -/
def WSy (m : eW) (W : Nat → Bool) (P : Nat → Nat) (B : Nat → Nat → Nat) (E : Nat → Nat) (I : Nat → Nat → Nat) (A : Nat → t3 → Prop) (μ : Nat → t3 → Nat) (L : Nat → t3 → kT) : Prop := ∀ st g, A st g → ((st < 7000 ∧ P st < 65536 ∧ E st < 65536) ∧ (L st g).length < 1000000000000000000) ∧ (∀ p, p < 16 → (P st).testBit p = true → (mfG m g).testBit p = true → A (B st p) (gN g p) ∧ μ (B st p) (gN g p) < μ st g) ∧ (∀ e, e < 16 → (E st).testBit e = true → A (I st e) g ∧ μ (I st e) g < μ st g) ∧ L st g = (if W st && isE m (-1) g.1 g.2.1 g.2.2 then [([], [])] else []) ++ (lsD (fun p => if (P st &&& mfG m g).testBit p then (L (B st p) (gN g p)).map (fun x => (p :: x.1, x.2)) else []) 16 ++ lsD (fun e => if (E st).testBit e then (L (I st e) g).map (fun x => (x.1, e :: x.2)) else []) 16)
theorem lsD_nil {α : Type} {f : Nat → List α} : ∀ n, (∀ i, i < n → f i = []) → lsD f n = [] := by
  intro n
  induction n with
  | zero => intro _; rfl
  | succ n ih => intro h; unfold lsD; rw [ih (fun i hi => h i (by omega)), h n (by omega)]; rfl
theorem lsD_cg {α : Type} {f g : Nat → List α} : ∀ n, (∀ i, i < n → f i = g i) → lsD f n = lsD g n := by
  intro n
  induction n with
  | zero => intro _; rfl
  | succ n ih => intro h; unfold lsD; rw [ih (fun i hi => h i (by omega)), h n (by omega)]
theorem ap3 {α : Type} {a b c d e : List α} (h1 : b = d) (h2 : c = e) : a ++ (b ++ c) = a ++ (d ++ e) := by rw [h1, h2]
theorem sm_cut {f : Nat → Nat} {p : Nat} : ∀ k, (∀ q, p ≤ q → q < p + k → f q = 0) → sm f (p + k) = sm f p := by
  intro k
  induction k with
  | zero => intro _; rfl
  | succ k ih =>
    intro h
    show sm f (p + k) + f (p + k) = sm f p
    rw [ih (fun q h1 h2 => h q h1 (by omega)), h (p + k) (by omega) (by omega)]; rfl
section
theorem WSy.z {m : eW} {W : Nat → Bool} {P : Nat → Nat} {B : Nat → Nat → Nat} {E : Nat → Nat} {I : Nat → Nat → Nat} {A : Nat → t3 → Prop} {μ : Nat → t3 → Nat} {L : Nat → t3 → kT} (hS : WSy m W P B E I A μ L) : ∀ n st g, μ st g < n → A st g → mfG m g = 0 → L st g = [] := by
  intro n
  induction n with
  | zero => intro st g h; omega
  | succ n ih =>
    intro st g h hA hz
    obtain ⟨_, _, hE, hL⟩ := hS st g hA
    have ht := mf_tb (m := m) (g := g) (p := 16) (by omega)
    rw [if_pos rfl, hz, Nat.zero_testBit] at ht
    rw [hL, ← ht, Bool.and_false, if_neg (by decide), lsD_nil 16 (fun p _ => ?_), lsD_nil 16 (fun e he => ?_)]
    · rfl
    · by_cases h1 : (E st).testBit e = true
      · rw [if_pos h1]
        obtain ⟨e1, e2⟩ := hE e he h1
        rw [ih (I st e) g (by omega) e1 hz]; rfl
      · rw [if_neg h1]
    · rw [hz, Nat.and_zero, Nat.zero_testBit, if_neg (by decide)]
theorem WSy.k {m : eW} {W : Nat → Bool} {P : Nat → Nat} {B : Nat → Nat → Nat} {E : Nat → Nat} {I : Nat → Nat → Nat} {A : Nat → t3 → Prop} {μ : Nat → t3 → Nat} {L : Nat → t3 → kT} (hS : WSy m W P B E I A μ L) (hp : WFp m) (hr : WFr m) : ∀ n st g h, μ st g < n → μ st h < n → A st g → A st h → kyG m g = kyG m h → L st g = L st h := by
  intro n
  induction n with
  | zero => intro st g h h1; omega
  | succ n ih =>
    intro st g h h1 h2 hA hA2 e
    obtain ⟨_, hB, hE, hL⟩ := hS st g hA
    obtain ⟨_, hB2, hE2, hL2⟩ := hS st h hA2
    have em := (ky_inj hr e).1
    rw [hL, hL2, ky_E hr e, em]
    refine ap3 (lsD_cg 16 (fun p hp16 => ?_)) (lsD_cg 16 (fun q hq => ?_))
    · by_cases h3 : (P st &&& mfG m h).testBit p = true
      · rw [if_pos h3, if_pos h3]
        rw [Nat.testBit_and] at h3
        obtain ⟨h4, h5⟩ := Bool.and_eq_true_iff.mp h3
        obtain ⟨e1, e2⟩ := hB p hp16 h4 (by rw [em]; exact h5)
        obtain ⟨e3, e4⟩ := hB2 p hp16 h4 h5
        rw [ih (B st p) (gN g p) (gN h p) (by omega) (by omega) e1 e3 (ky_nx hr e (by omega)).2]
      · rw [if_neg h3, if_neg h3]
    · by_cases h3 : (E st).testBit q = true
      · rw [if_pos h3, if_pos h3]
        obtain ⟨e1, e2⟩ := hE q hq h3
        obtain ⟨e3, e4⟩ := hE2 q hq h3
        rw [ih (I st q) g h (by omega) (by omega) e1 e3 e]
      · rw [if_neg h3, if_neg h3]
/-- a state for what ends with g, or none where nothing goes on -/
def Sta (N : Nat) (KY : Nat → Int) (m : eW) (g : t3) (sa : Int) : Prop := (sa = -1 ∧ mfG m g = 0) ∨ ∃ s : Nat, s < N ∧ sa = (s : Int) ∧ KY s = ((kyG m g : Nat) : Int)
def wyP (m : eW) (A : Nat → t3 → Prop) (L : Nat → t3 → kT) (N : Nat) (KY : Nat → Int) (key v : Int) : Prop := ∀ (st s : Nat) (g : t3), A st g → s < N → KY s = ((kyG m g : Nat) : Int) → key = ((st * N + s : Nat) : Int) → v = ((L st g).length : Int)
def WCx (m : eW) (Pm : Int → Int → Prop) (w0 : eW) (b : Nat × Nat) (N : Nat) (KY : Nat → Int) (w : eW) (t : eT) : Prop := InvW w0 w ∧ MC Pm b m w t ∧ MaC w m ∧ (w 37 7 = (N : Int) ∧ N ≤ dyL t (w 37 1)) ∧ ∀ s, mK w s = KY s
theorem WCx.rg {m : eW} {Pm : Int → Int → Prop} {w0 : eW} {b : Nat × Nat} {N : Nat} {KY : Nat → Int} {w : eW} {t : eT} (h : WCx m Pm w0 b N KY w t) : RgM w t N := by
  obtain ⟨_, ⟨hd, _⟩, _, ⟨h1, h2⟩, _⟩ := h
  obtain ⟨_, _, ⟨R, hR, ⟨k1, l1⟩, _⟩, _⟩ := id hd.1
  exact ⟨hd.1, h1, h2, by omega⟩
theorem WCx.mr {m : eW} {Pm : Int → Int → Prop} {w0 : eW} {b : Nat × Nat} {N : Nat} {KY : Nat → Int} {w w2 : eW} {t t2 : eT} (h : WCx m Pm w0 b N KY w t) (hm : MR w t w2 t2) (h2 : MC Pm b m w2 t2) : WCx m Pm w0 b N KY w2 t2 := by
  obtain ⟨i, mc, ma, ⟨n1, n2⟩, ky⟩ := h
  obtain ⟨mf, lo, e37, er⟩ := hm
  have hm := mc.1.1.more mf.1.1 mf.1.2
  have eK : mK w2 = mK w := by funext s; unfold mK; rw [e37, er _ (by simp)]
  refine ⟨fun a ha => by rw [lo a (by omega)]; exact i a ha, h2, ma.ext eK ?_ ?_ ?_ (by rw [e37]), ⟨by rw [e37]; exact n1, by rw [e37, (hm.2 _ (@dyRef_i w).1).1]; exact n2⟩, fun s => by rw [eK]; exact ky s⟩
  · unfold mA; rw [e37, er _ (by simp)]
  · unfold mD; rw [e37, er _ (by simp)]
  · unfold mTl; rw [e37, er _ (by simp)]
/-- along an arc -/
theorem WCx.arc {m : eW} {Pm : Int → Int → Prop} {w0 : eW} {b : Nat × Nat} {N : Nat} {KY : Nat → Int} {w : eW} {t : eT} (hp : WFp m) (hr : WFr m) (h : WCx m Pm w0 b N KY w t) {s p : Nat} {g : t3} (hs : s < N) (hk : KY s = ((kyG m g : Nat) : Int)) (hp16 : p < 16) (hb : (mfG m g).testBit p = true) : Sta N KY m (gN g p) (mA w s p) := by
  obtain ⟨i, mc, ma, ⟨n1, n2⟩, ky⟩ := h
  have hn : mN w = N := by unfold mN; rw [n1, Int.toNat_natCast]
  obtain ⟨a, b', c, t1, t2, t3, _⟩ := ma.2.2.1 s (by omega)
  have e : kyG m (a, b', c) = kyG m g := by
    have h1 := ky s
    rw [t2, hk] at h1
    have h1 : ((kyG m (a, b', c) : Nat) : Int) = ((kyG m g : Nat) : Int) := h1
    omega
  have em : mfG m (a, b', c) = mfG m g := (ky_inj hr e).1
  have en := (ky_nx hr e (p := p) (by omega)).2
  have em2 : mfG m (gN (a, b', c) p) = mfG m (gN g p) := (ky_inj hr en).1
  have t4 := t3 p hp16
  have eb : (mfB m a b' c).testBit p = true := by
    have : mfB m a b' c = mfG m g := em
    rw [this]; exact hb
  rw [if_pos eb] at t4
  by_cases h0 : mfB m b' c p = 0
  · rw [if_pos h0] at t4
    have : mfG m (gN g p) = 0 := by rw [← em2]; exact h0
    exact Or.inl ⟨t4, this⟩
  · rw [if_neg h0] at t4
    obtain ⟨s2, q1, q2, q3, _⟩ := t4
    refine Or.inr ⟨s2, by omega, q2, ?_⟩
    rw [← ky s2, q3, ← en]
    rfl
end
theorem ky_un {a b s u N : Nat} (h : a * N + s = b * N + u) (hs : s < N) (hu : u < N) : a = b ∧ s = u := by
  have h1 : (a * N + s) / N = a := by rw [Nat.mul_comm, Nat.mul_add_div (by omega), Nat.div_eq_of_lt hs]; omega
  have h2 : (b * N + u) / N = b := by rw [Nat.mul_comm, Nat.mul_add_div (by omega), Nat.div_eq_of_lt hu]; omega
  have h3 : a = b := by rw [← h1, h, h2]
  subst h3
  exact ⟨rfl, by omega⟩
theorem sh_z {x p : Nat} (hx : x < 131072) (hp : p < 16) : (w32 (ishr (x : Int) (p : Int)) = 0 → ∀ q, p ≤ q → x.testBit q = false) := by
  intro h q hq
  have e : ishr (x : Int) (p : Int) = ((x / 2 ^ p : Nat) : Int) := i_shrN (by omega) (by omega)
  have hd : x / 2 ^ p ≤ x := Nat.div_le_self _ _
  rw [e] at h
  have h1 : x / 2 ^ p = 0 := by
    generalize x / 2 ^ p = y at *
    rw [w32_id (by omega)] at h
    omega
  have h2 : x < 2 ^ p := by
    rcases Nat.div_eq_zero_iff.mp h1 with h3 | h3
    · have := Nat.two_pow_pos p; omega
    · exact h3
  exact Nat.testBit_lt_two_pow (Nat.lt_of_lt_of_le h2 (Nat.pow_le_pow_right (by decide) hq))
theorem bsz {x y p : Nat} (hx : x < 131072) (hp : p < 32) : (w32 (iand (ishr (x : Int) (p : Int)) 1) = 0 ↔ x.testBit p = false) := by
  rw [b_tst hx hp]
  cases x.testBit p with
  | true => exact ⟨fun h => absurd h (by decide), fun h => by cases h⟩
  | false => exact ⟨fun _ => rfl, fun _ => rfl⟩
/-- the five methods that a walk asks -/
def wR1 (A : Nat → t3 → Prop) (w0 : eW) (a : Int) (w : eW) : Prop := (∃ (st : Nat) (g : t3), A st g ∧ a = (st : Int)) ∧ InvW w0 w
def wR2 (m : eW) (P : Nat → Nat) (A : Nat → t3 → Prop) (w0 : eW) (a p : Int) (w : eW) : Prop := (∃ (st : Nat) (g : t3) (q : Nat), A st g ∧ a = (st : Int) ∧ p = (q : Int) ∧ q < 16 ∧ (P st).testBit q = true ∧ (mfG m g).testBit q = true) ∧ InvW w0 w
def wR3 (E : Nat → Nat) (A : Nat → t3 → Prop) (w0 : eW) (a p : Int) (w : eW) : Prop := (∃ (st : Nat) (g : t3) (q : Nat), A st g ∧ a = (st : Int) ∧ p = (q : Int) ∧ q < 16 ∧ (E st).testBit q = true) ∧ InvW w0 w
def WHy (d : Nat) (m : eW) (W : Nat → Bool) (P : Nat → Nat) (B : Nat → Nat → Nat) (E : Nat → Nat) (I : Nat → Nat → Nat) (A : Nat → t3 → Prop) (w0 : eW) : Prop := (∀ (a : Int) (w : eW) (t : eT), wR1 A w0 a w → Cl (d + 8) 107 [rA 53, (0, a)] (enc w t) (fun r S2 => ∃ x, r = some (0, x) ∧ S2 = enc w t ∧ x = bI (W a.toNat))) ∧ (∀ (a : Int) (w : eW) (t : eT), wR1 A w0 a w → Cl (d + 8) 108 [rA 53, (0, a)] (enc w t) (fun r S2 => ∃ x, r = some (0, x) ∧ S2 = enc w t ∧ x = ((P a.toNat : Nat) : Int))) ∧ (∀ (a p : Int) (w : eW) (t : eT), wR2 m P A w0 a p w → Cl (d + 8) 113 [rA 53, (0, a), (0, p)] (enc w t) (fun r S2 => ∃ x, r = some (0, x) ∧ S2 = enc w t ∧ x = ((B a.toNat p.toNat : Nat) : Int))) ∧ (∀ (a : Int) (w : eW) (t : eT), wR1 A w0 a w → Cl (d + 8) 115 [rA 53, (0, a)] (enc w t) (fun r S2 => ∃ x, r = some (0, x) ∧ S2 = enc w t ∧ x = ((E a.toNat : Nat) : Int))) ∧ (∀ (a p : Int) (w : eW) (t : eT), wR3 E A w0 a p w → Cl (d + 8) 116 [rA 53, (0, a), (0, p)] (enc w t) (fun r S2 => ∃ x, r = some (0, x) ∧ S2 = enc w t ∧ x = ((I a.toNat p.toNat : Nat) : Int)))
theorem WHy.up {d d2 : Nat} {m : eW} {W : Nat → Bool} {P : Nat → Nat} {B : Nat → Nat → Nat} {E : Nat → Nat} {I : Nat → Nat → Nat} {A : Nat → t3 → Prop} {w0 : eW} (h : WHy d m W P B E I A w0) (hd : d ≤ d2) : WHy d2 m W P B E I A w0 := ⟨fun a w t h1 => (h.1 a w t h1).up (by omega), fun a w t h1 => (h.2.1 a w t h1).up (by omega), fun a p w t h1 => (h.2.2.1 a p w t h1).up (by omega), fun a w t h1 => (h.2.2.2.1 a w t h1).up (by omega), fun a p w t h1 => (h.2.2.2.2 a p w t h1).up (by omega)⟩
def WyR (m : eW) (A : Nat → t3 → Prop) (μ : Nat → t3 → Nat) (Pm : Int → Int → Prop) (w0 : eW) (b : Nat × Nat) (N : Nat) (KY : Nat → Int) (Bd : Nat) (γ : Nat × t3) (st sa dp : Int) (w : eW) (t : eT) : Prop := A γ.1 γ.2 ∧ st = (γ.1 : Int) ∧ Sta N KY m γ.2 sa ∧ μ γ.1 γ.2 < Bd ∧ (0 ≤ dp ∧ dp + (μ γ.1 γ.2 : Int) ≤ 30) ∧ WCx m Pm w0 b N KY w t
def WyO (m : eW) (L : Nat → t3 → kT) (Pm : Int → Int → Prop) (b : Nat × Nat) (γ : Nat × t3) (_ _ _ : Int) (w : eW) (t : eT) (x : Int) (w2 : eW) (t2 : eT) : Prop := x = ((L γ.1 γ.2).length : Int) ∧ MR w t w2 t2 ∧ MC Pm b m w2 t2
def pS (m : eW) (P : Nat → Nat) (B : Nat → Nat → Nat) (L : Nat → t3 → kT) (st : Nat) (g : t3) (p : Nat) : Nat := if (P st &&& mfG m g).testBit p then (L (B st p) (gN g p)).length else 0
def eS (E : Nat → Nat) (I : Nat → Nat → Nat) (L : Nat → t3 → kT) (st : Nat) (g : t3) (e : Nat) : Nat := if (E st).testBit e then (L (I st e) g).length else 0
theorem WSy.len {m : eW} {W : Nat → Bool} {P : Nat → Nat} {B : Nat → Nat → Nat} {E : Nat → Nat} {I : Nat → Nat → Nat} {A : Nat → t3 → Prop} {μ : Nat → t3 → Nat} {L : Nat → t3 → kT} (hS : WSy m W P B E I A μ L) {st : Nat} {g : t3} (hA : A st g) : (L st g).length = (if W st && isE m (-1) g.1 g.2.1 g.2.2 then 1 else 0) + (sm (pS m P B L st g) 16 + sm (eS E I L st g) 16) := by
  obtain ⟨_, _, _, hL⟩ := hS st g hA
  rw [hL, List.length_append, List.length_append, lsD_len, lsD_len]
  congr 1
  · split <;> rfl
  · congr 1
    · refine sm_congr (fun p _ => ?_)
      unfold pS
      split
      · rw [List.length_map]
      · rfl
    · refine sm_congr (fun p _ => ?_)
      unfold eS
      split
      · rw [List.length_map]
      · rfl
theorem sm_mono {f : Nat → Nat} {p : Nat} : ∀ k, sm f p ≤ sm f (p + k) := by
  intro k
  induction k with
  | zero => exact Nat.le_refl _
  | succ k ih => exact Nat.le_trans ih (Nat.le_add_right _ _)
