/-! The class: list. -/

def adK (M : Nat) (ks : kT) (ml el : List Nat) (Ls : kT) : kT := (ks ++ Ls.map (fun x => (ml ++ x.1, el ++ x.2))).take M
theorem adK_app (M : Nat) (ks : kT) (ml el : List Nat) (L1 L2 : kT) : adK M (adK M ks ml el L1) ml el L2 = adK M ks ml el (L1 ++ L2) := by
  unfold adK
  rw [List.map_append, ← List.append_assoc]
  generalize ks ++ List.map (fun x => (ml ++ x.1, el ++ x.2)) L1 = a
  generalize List.map (fun x => (ml ++ x.1, el ++ x.2)) L2 = c
  rw [List.take_append, List.take_append, List.take_take, Nat.min_self, List.length_take]
  congr 1
  by_cases h : a.length ≤ M
  · rw [Nat.min_eq_right h]
  · rw [Nat.min_eq_left (by omega), show M - M = 0 by omega, show M - a.length = 0 by omega]
theorem adK_full {M : Nat} {ks : kT} {ml el : List Nat} {Ls : kT} (h : ks.length = M) : adK M ks ml el Ls = ks := by
  unfold adK
  rw [← h, List.take_left']
  rfl
theorem adK_nil {M : Nat} {ks : kT} {ml el : List Nat} (h : ks.length ≤ M) : adK M ks ml el [] = ks := by
  unfold adK
  rw [List.map_nil, List.append_nil, List.take_of_length_le h]
theorem adK_le (M : Nat) (ks : kT) (ml el : List Nat) (Ls : kT) : (adK M ks ml el Ls).length ≤ M := by
  unfold adK
  rw [List.length_take]
  exact Nat.min_le_left _ _
theorem adK_p (M : Nat) (ks : kT) (ml el : List Nat) (p : Nat) (Ls : kT) : adK M ks ml el (Ls.map (fun x => (p :: x.1, x.2))) = adK M ks (ml ++ [p]) el Ls := by
  unfold adK
  rw [List.map_map]
  congr 2
  refine List.map_congr_left (fun x _ => ?_)
  show (ml ++ p :: x.1, el ++ x.2) = (ml ++ [p] ++ x.1, el ++ x.2)
  rw [List.append_assoc]; rfl
theorem adK_e (M : Nat) (ks : kT) (ml el : List Nat) (e : Nat) (Ls : kT) : adK M ks ml el (Ls.map (fun x => (x.1, e :: x.2))) = adK M ks ml (el ++ [e]) Ls := by
  unfold adK
  rw [List.map_map]
  congr 2
  refine List.map_congr_left (fun x _ => ?_)
  show (ml ++ x.1, el ++ e :: x.2) = (ml ++ x.1, el ++ [e] ++ x.2)
  rw [List.append_assoc]; rfl
def LoL (w w2 : eW) : Prop := ∀ a, a < 37 ∨ a = 53 ∨ (55 < a ∧ a < 102) → w2 a = w a
theorem LoL.rf (w : eW) : LoL w w := fun _ _ => rfl
theorem LoL.tr {w a b : eW} (h : LoL w a) (h2 : LoL a b) : LoL w b := fun q hq => by rw [h2 q hq, h q hq]
theorem WCx.hi {m : eW} {Pm : Int → Int → Prop} {w0 : eW} {b : Nat × Nat} {N : Nat} {KY : Nat → Int} {w w2 : eW} {t : eT} (h : WCx m Pm w0 b N KY w t) (e : Hi w w2) (l : LoL w w2) : WCx m Pm w0 b N KY w2 t := by
  obtain ⟨i, mc, ma, ⟨n1, n2⟩, ky⟩ := h
  have e37 := e 37 (by omega)
  have er : ∀ a ∈ dyRef w, w2 a.toNat = w a.toNat := fun a ha => e _ (by have := mc.1.1.2.1 a ha; omega)
  obtain ⟨i1, i2, i3, i4, i5, i6, i7, i8⟩ := @dyRef_i w
  have eK : mK w2 = mK w := by funext s; unfold mK; rw [e37, er _ i1]
  refine ⟨fun a ha => by rw [l a (by omega)]; exact i a ha, mc.hi e, ma.ext eK ?_ ?_ ?_ (by rw [e37]), ⟨by rw [e37]; exact n1, by rw [e37]; exact n2⟩, fun s => by rw [eK]; exact ky s⟩
  · unfold mA; rw [e37, er _ i6]
  · unfold mD; rw [e37, er _ i4]
  · unfold mTl; rw [e37, er _ i5]
/-- path and word so far -/
def PaC (w : eW) (ml el : List Nat) : Prop := (ml.length ≤ 13 ∧ ∀ k, k < ml.length → w 54 k = ((ml.getD k 0 : Nat) : Int)) ∧ el.length ≤ 6 ∧ ∀ k, k < el.length → w 55 k = ((el.getD k 0 : Nat) : Int)
theorem getD_l {α : Type} {l : List α} {x z : α} {k : Nat} (h : k < l.length) : (l ++ [x]).getD k z = l.getD k z := by
  simp [List.getD_eq_getElem?_getD, List.getElem?_append_left h]
theorem getD_n {α : Type} {l : List α} {x z : α} : (l ++ [x]).getD l.length z = x := by
  simp [List.getD_eq_getElem?_getD]
theorem PaC.p {w : eW} {ml el : List Nat} {p : Nat} (h : PaC w ml el) (hl : ml.length < 13) : PaC (wu w 54 ml.length (p : Int)) (ml ++ [p]) el := by
  refine ⟨⟨by simp; omega, fun k hk => ?_⟩, h.2.1, fun k hk => by rw [wu_na _ _ (by decide)]; exact h.2.2 k hk⟩
  rw [List.length_append] at hk
  have hk : k < ml.length + 1 := hk
  by_cases h9 : k = ml.length
  · rw [h9, wu_eq, getD_n]
  · rw [wu_nk _ _ h9, getD_l (by omega)]; exact h.1.2 k (by omega)
theorem PaC.e {w : eW} {ml el : List Nat} {p : Nat} (h : PaC w ml el) (hl : el.length < 6) : PaC (wu w 55 el.length (p : Int)) ml (el ++ [p]) := by
  refine ⟨⟨h.1.1, fun k hk => by rw [wu_na _ _ (by decide)]; exact h.1.2 k hk⟩, by simp; omega, fun k hk => ?_⟩
  rw [List.length_append] at hk
  have hk : k < el.length + 1 := hk
  by_cases h9 : k = el.length
  · rw [h9, wu_eq, getD_n]
  · rw [wu_nk _ _ h9, getD_l (by omega)]; exact h.2.2 k (by omega)
/-- of what is longer -/
theorem PaC.bp {w : eW} {ml el : List Nat} {p : Nat} (h : PaC w (ml ++ [p]) el) : PaC w ml el := by
  obtain ⟨⟨h1, h2⟩, h3⟩ := h
  rw [List.length_append] at h1 h2
  have h1 : ml.length + 1 ≤ 13 := h1
  exact ⟨⟨by omega, fun k hk => by have := h2 k (by show k < ml.length + 1; omega); rw [getD_l hk] at this; exact this⟩, h3⟩
theorem PaC.be {w : eW} {ml el : List Nat} {p : Nat} (h : PaC w ml (el ++ [p])) : PaC w ml el := by
  obtain ⟨h0, h1, h2⟩ := h
  rw [List.length_append] at h1 h2
  have h1 : el.length + 1 ≤ 6 := h1
  exact ⟨h0, by omega, fun k hk => by have := h2 k (by show k < el.length + 1; omega); rw [getD_l hk] at this; exact this⟩
theorem PaC.cg {w w2 : eW} {ml el : List Nat} (h : PaC w ml el) (e4 : w2 54 = w 54) (e5 : w2 55 = w 55) : PaC w2 ml el := by
  unfold PaC
  rw [e4, e5]
  exact h
theorem KC.cg {w w2 : eW} {ks : kT} (h : KC w ks) (e : ∀ a, 48 ≤ a → a ≤ 52 → w2 a = w a) : KC w2 ks := by
  unfold KC
  rw [e 48 (by omega) (by omega), e 49 (by omega) (by omega), e 50 (by omega) (by omega), e 51 (by omega) (by omega), e 52 (by omega) (by omega)]
  exact h
abbrev lsG : Type := Nat × t3 × kT × List Nat × List Nat
def LiR (m : eW) (A : Nat → t3 → Prop) (μ : Nat → t3 → Nat) (L : Nat → t3 → kT) (Pm : Int → Int → Prop) (w0 : eW) (b : Nat × Nat) (N : Nat) (KY : Nat → Int) (M : Nat) (Bd : Nat) (γ : Nat × t3 × kT × List Nat × List Nat) (st sa pd ed : Int) (w : eW) (t : eT) : Prop := (A γ.1 γ.2.1 ∧ st = (γ.1 : Int) ∧ Sta N KY m γ.2.1 sa ∧ μ γ.1 γ.2.1 < Bd ∧ μ γ.1 γ.2.1 ≤ 30 ∧ WCx m Pm w0 b N KY w t) ∧ (KC w γ.2.2.1 ∧ γ.2.2.1.length ≤ M) ∧ (pd = (γ.2.2.2.1.length : Int) ∧ ed = (γ.2.2.2.2.length : Int) ∧ PaC w γ.2.2.2.1 γ.2.2.2.2) ∧ ∀ x ∈ L γ.1 γ.2.1, γ.2.2.2.1.length + x.1.length ≤ 13 ∧ γ.2.2.2.2.length + x.2.length ≤ 6
def LiO (m : eW) (L : Nat → t3 → kT) (Pm : Int → Int → Prop) (w0 : eW) (b : Nat × Nat) (N : Nat) (KY : Nat → Int) (M : Nat) (γ : Nat × t3 × kT × List Nat × List Nat) (_ _ _ _ : Int) (w : eW) (_ : eT) (w2 : eW) (t2 : eT) : Prop := WCx m Pm w0 b N KY w2 t2 ∧ LoL w w2 ∧ KC w2 (adK M γ.2.2.1 γ.2.2.2.1 γ.2.2.2.2 (L γ.1 γ.2.1)) ∧ PaC w2 γ.2.2.2.1 γ.2.2.2.2
