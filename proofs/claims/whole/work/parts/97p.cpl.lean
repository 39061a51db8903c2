/-! The class: the least row of a clash and its place. -/

theorem nf_ff {m : eW} (hp : WFp m) (hr : WFr m) {r : Nat} (h : r < nR m) (hn : nf m r 16 = true) : ff m r 16 = true := by
  obtain ⟨_, _, h3, _, _, h6, _⟩ := hr.2 r h
  unfold ff
  by_cases h2 : m 74 r = 2
  · exfalso
    have h7 := h6 h2
    have hlt : (2 : Nat) ^ nP m ≤ 65536 := Nat.pow_le_pow_right (n := 2) (j := 16) (by decide) hp.n.2
    unfold nf at hn
    rw [decide_eq_false (by omega), if_neg (by omega), Bool.false_or] at hn
    unfold ft at hn
    have h8 : (2 : Int) ^ nP m = ((2 ^ nP m : Nat) : Int) := by norm_cast
    rw [if_neg (by omega)] at hn
    simp at hn
  · rw [decide_eq_false h2]; rfl
theorem find_cg {α : Type} {P Q : α → Bool} : ∀ {l : List α}, (∀ x ∈ l, P x = Q x) → l.find? P = l.find? Q := by
  intro l
  induction l with
  | nil => intro _; rfl
  | cons x l ih =>
    intro h
    rw [List.find?_cons, List.find?_cons, h x (by simp), ih (fun y hy => h y (by simp [hy]))]
def cRg (n A : Nat) : Prop := n ≤ A + 2 ∧ A ≤ 2 ∧ A < n
theorem cfB_b {m : eW} (hp : WFp m) (a c A j : Nat) : cfB m a c A j < 65536 ∧ ∀ d, (cfB m a c A j).testBit d = true → d < nP m := by
  have e : ∀ f : Nat → Bool, bts f (nP m) < 65536 ∧ ∀ d, (bts f (nP m)).testBit d = true → d < nP m := fun f => ⟨bts_le (k := 16) hp.n.2, fun d h => by
    rw [bts_tb, Bool.and_eq_true] at h
    exact of_decide_eq_true h.1⟩
  unfold cfB byU
  split
  · exact e _
  · split
    · exact e _
    · split
      · exact e _
      · exact e _
theorem cfB_u {m : eW} (hp : WFp m) (hr : WFr m) {a c A x : Nat} (ha : a < nR m) (hx : x < nP m) : (cfB m a c A A).testBit x = decide (m 68 x = m 68 (m 72 a).toNat) := by
  have h1 := (hr.2 a ha).1
  have hpn := hp.n
  have u1 := (hp.2.1 x hx).1
  have u2 := (hp.2.1 (m 72 a).toNat (by omega)).1
  have := cdI_b u2
  unfold cfB byU
  rw [if_neg (by omega), if_neg (by omega), if_neg (by omega), bts_tb, decide_eq_true hx, Bool.true_and, show (((cdI (m 68 (m 72 a).toNat)).toNat : Nat) : Int) = cdI (m 68 (m 72 a).toNat) by omega]
  by_cases h9 : m 68 x = m 68 (m 72 a).toNat
  · rw [decide_eq_true h9, h9, decide_eq_true rfl]
  · rw [decide_eq_false h9, decide_eq_false (fun h8 => h9 ((cdI_i u1 u2).mp h8))]
theorem cfB_n {m : eW} {a c A x : Nat} (hx : x < nP m) : (cfB m a c (A + 1) A).testBit x = (nf m a x && nf m c x) := by
  unfold cfB
  rw [if_neg (by omega), if_pos rfl, bts_tb, decide_eq_true hx, Bool.true_and]
theorem cfB_f {m : eW} {a c A x : Nat} (hx : x < nP m) : (cfB m a c (A + 2) A).testBit x = (ff m a x && ff m c x) := by
  unfold cfB
  rw [if_pos rfl, bts_tb, decide_eq_true hx, Bool.true_and]
theorem cfB_h {m : eW} {a c A x : Nat} (hx : x < nP m) : (cfB m a c A (A + 1)).testBit x = (bf m a x && bf m c x) := by
  unfold cfB
  rw [if_neg (by omega), if_neg (by omega), if_pos rfl, bts_tb, decide_eq_true hx, Bool.true_and]
theorem b8c (q f1 f2 n1 n2 h1 h2 : Bool) : (q && (f1 && n1 && h1) && (f2 && n2 && h2)) = ((n1 && n2) && (f1 && f2) && (h1 && h2) && q) := by
  cases q <;> cases f1 <;> cases f2 <;> cases n1 <;> cases n2 <;> cases h1 <;> cases h2 <;> rfl
theorem clP_f {m : eW} (hp : WFp m) (hr : WFr m) {a c A : Nat} (ha : a < nR m) (hc : c < nR m) {l : List Nat} (hl : ∀ p ∈ l, p < nP m) (hR : cRg l.length A) : clP m a c l A = (lfB m a c A l.length && fitL (cfB m a c A) 0 l) := by
  obtain ⟨h1, h2, h3⟩ := hR
  have e0 : (nf m a 16 && nf m c 16 && (ff m a 16 && ff m c 16)) = (nf m a 16 && nf m c 16) := by
    cases hx : nf m a 16 with
    | false => rfl
    | true => cases hy : nf m c 16 with
      | false => rfl
      | true => rw [nf_ff hp hr ha hx, nf_ff hp hr hc hy]; rfl
  unfold clP inR
  rw [b8c]
  match A, h2 with
  | 0, _ =>
    match l, h1, h3, hl with
    | [x], _, _, hl =>
      have hx := hl x (by simp)
      show ((nf m a 16 && nf m c 16) && (ff m a 16 && ff m c 16) && (bf m a 16 && bf m c 16) && decide (m 68 x = m 68 (m 72 a).toNat)) = ((false || (nf m a 16 && nf m c 16)) && (true || (ff m a 16 && ff m c 16)) && (false || (bf m a 16 && bf m c 16)) && ((cfB m a c 0 0).testBit x && true))
      rw [cfB_u hp hr ha hx, e0]
      simp
    | [x, y], _, _, hl =>
      have hx := hl x (by simp)
      have hy := hl y (by simp)
      show ((nf m a 16 && nf m c 16) && (ff m a 16 && ff m c 16) && (bf m a y && bf m c y) && decide (m 68 x = m 68 (m 72 a).toNat)) = ((false || (nf m a 16 && nf m c 16)) && (true || (ff m a 16 && ff m c 16)) && (true || (bf m a 16 && bf m c 16)) && ((cfB m a c 0 0).testBit x && ((cfB m a c 0 1).testBit y && true)))
      rw [cfB_u hp hr ha hx, cfB_h hy, e0]
      cases (nf m a 16 && nf m c 16) <;> cases (bf m a y && bf m c y) <;> simp
  | 1, _ =>
    match l, h1, h3, hl with
    | [x, y], _, _, hl =>
      have hx := hl x (by simp)
      have hy := hl y (by simp)
      show ((nf m a x && nf m c x) && (ff m a 16 && ff m c 16) && (bf m a 16 && bf m c 16) && decide (m 68 y = m 68 (m 72 a).toNat)) = ((true || (nf m a 16 && nf m c 16)) && (false || (ff m a 16 && ff m c 16)) && (false || (bf m a 16 && bf m c 16)) && ((cfB m a c 1 0).testBit x && ((cfB m a c 1 1).testBit y && true)))
      rw [cfB_u hp hr ha hy, cfB_n hx]
      cases (nf m a x && nf m c x) <;> cases (ff m a 16 && ff m c 16) <;> cases (bf m a 16 && bf m c 16) <;> simp
    | [x, y, z], _, _, hl =>
      have hx := hl x (by simp)
      have hy := hl y (by simp)
      have hz := hl z (by simp)
      show ((nf m a x && nf m c x) && (ff m a 16 && ff m c 16) && (bf m a z && bf m c z) && decide (m 68 y = m 68 (m 72 a).toNat)) = ((true || (nf m a 16 && nf m c 16)) && (false || (ff m a 16 && ff m c 16)) && (true || (bf m a 16 && bf m c 16)) && ((cfB m a c 1 0).testBit x && ((cfB m a c 1 1).testBit y && ((cfB m a c 1 2).testBit z && true))))
      rw [cfB_u hp hr ha hy, cfB_n hx, cfB_h hz]
      cases (nf m a x && nf m c x) <;> cases (ff m a 16 && ff m c 16) <;> cases (bf m a z && bf m c z) <;> simp
  | 2, _ =>
    match l, h1, h3, hl with
    | [x, y, z], _, _, hl =>
      have hx := hl x (by simp)
      have hy := hl y (by simp)
      have hz := hl z (by simp)
      show ((nf m a y && nf m c y) && (ff m a x && ff m c x) && (bf m a 16 && bf m c 16) && decide (m 68 z = m 68 (m 72 a).toNat)) = ((true || (nf m a 16 && nf m c 16)) && (true || (ff m a 16 && ff m c 16)) && (false || (bf m a 16 && bf m c 16)) && ((cfB m a c 2 0).testBit x && ((cfB m a c 2 1).testBit y && ((cfB m a c 2 2).testBit z && true))))
      rw [cfB_u hp hr ha hz, cfB_n hy, cfB_f hx]
      cases (nf m a y && nf m c y) <;> cases (ff m a x && ff m c x) <;> cases (bf m a 16 && bf m c 16) <;> simp
    | [x, y, z, u], _, _, hl =>
      have hx := hl x (by simp)
      have hy := hl y (by simp)
      have hz := hl z (by simp)
      have hu := hl u (by simp)
      show ((nf m a y && nf m c y) && (ff m a x && ff m c x) && (bf m a u && bf m c u) && decide (m 68 z = m 68 (m 72 a).toNat)) = ((true || (nf m a 16 && nf m c 16)) && (true || (ff m a 16 && ff m c 16)) && (true || (bf m a 16 && bf m c 16)) && ((cfB m a c 2 0).testBit x && ((cfB m a c 2 1).testBit y && ((cfB m a c 2 2).testBit z && ((cfB m a c 2 3).testBit u && true)))))
      rw [cfB_u hp hr ha hz, cfB_n hy, cfB_f hx, cfB_h hu]
      cases (nf m a y && nf m c y) <;> cases (ff m a x && ff m c x) <;> cases (bf m a u && bf m c u) <;> simp
/-- the class's try at a length and a place -/
def ctG (m : eW) (a c n A : Nat) : Option (List Nat) := if lfB m a c A n then gd m (stk m (cfB m a c A) n) n 0 16 else none
theorem ctG_eq {m : eW} (hp : WFp m) (hr : WFr m) {a c n A : Nat} (ha : a < nR m) (hc : c < nR m) (hR : cRg n A) : ctG m a c n A = (rwL m n 16).find? (fun l => clP m a c l A) := by
  have e : ∀ l ∈ rwL m n 16, clP m a c l A = (lfB m a c A n && fitL (cfB m a c A) 0 l) := by
    intro l hl
    obtain ⟨h1, h2⟩ := (rwL_iff m n 16 l).mp hl
    rw [clP_f hp hr ha hc (okR_lt m l 16 h2) (by rw [h1]; exact hR), h1]
  unfold ctG
  cases hb : lfB m a c A n with
  | false =>
    rw [if_neg (by decide)]
    symm
    rw [List.find?_eq_none]
    intro x hx
    rw [e x hx, hb]
    simp
  | true =>
    rw [if_pos rfl, gd_eq hp (fun j _ => cfB_b hp a c A j)]
    refine find_cg (fun l hl => ?_)
    rw [e l hl, hb, Bool.true_and]
theorem rAt_take {l : List Nat} {k : Nat} {p : Int} (h : p < (k : Int)) (hk : k ≤ l.length) : rAt (l.take k) p = rAt l p := by
  have e : (l.take k).length = k := by rw [List.length_take]; omega
  unfold rAt
  rw [e]
  by_cases h9 : 0 ≤ p
  · rw [if_pos ⟨h9, h⟩, if_pos ⟨h9, by omega⟩, List.getD_eq_getElem?_getD, List.getD_eq_getElem?_getD, List.getElem?_take_of_lt (by omega)]
  · rw [if_neg (fun h8 => h9 h8.1), if_neg (fun h8 => h9 h8.1)]
theorem getD_take {l : List Nat} {k p : Nat} (h : p < k) : (l.take k).getD p 0 = l.getD p 0 := by
  rw [List.getD_eq_getElem?_getD, List.getD_eq_getElem?_getD, List.getElem?_take_of_lt (by omega)]
/-- what stands two or more behind the place can be left out -/
theorem clP_take {m : eW} {a c : Nat} {l : List Nat} {p : Nat} (hl : p + 2 ≤ l.length) (h : clP m a c l p = true) : clP m a c (l.take (p + 2)) p = true := by
  unfold clP at *
  rw [rAt_take (by omega) hl, rAt_take (by omega) hl, rAt_take (by omega) hl, getD_take (by omega)]
  exact h
/-- the last one can be left out if the end may be there -/
theorem clP_last {m : eW} {a c : Nat} {l : List Nat} {p : Nat} (hl : p + 2 = l.length) (h : clP m a c l p = true) (h1 : bf m a 16 = true) (h2 : bf m c 16 = true) : clP m a c (l.take (p + 1)) p = true := by
  have e : rAt (l.take (p + 1)) ((p : Int) + 1) = 16 := by
    have : (l.take (p + 1)).length = p + 1 := by rw [List.length_take]; omega
    unfold rAt
    rw [this, if_neg (by omega)]
  unfold clP inR at *
  rw [rAt_take (by omega) (by omega), rAt_take (by omega) (by omega), e, getD_take (by omega), h1, h2]
  simp only [Bool.and_eq_true] at h ⊢
  exact ⟨⟨h.1.1, h.1.2.1, trivial⟩, h.2.1, trivial⟩
/-- the first one can be left out if it stands three ahead -/
theorem clP_tail {m : eW} {a c x : Nat} {l : List Nat} {p : Nat} (hp : 2 ≤ p) (h : clP m a c (x :: l) (p + 1) = true) : clP m a c l p = true := by
  have e : ∀ q : Int, 0 ≤ q → rAt (x :: l) (q + 1) = rAt l q := by
    intro q hq
    obtain ⟨q, rfl⟩ := Int.eq_ofNat_of_zero_le hq
    unfold rAt
    have : (x :: l).length = l.length + 1 := rfl
    rw [this]
    by_cases h9 : q < l.length
    · rw [if_pos ⟨by omega, by omega⟩, if_pos ⟨by omega, by omega⟩]
      rfl
    · rw [if_neg (fun h8 => h9 (by omega)), if_neg (fun h8 => h9 (by omega))]
  unfold clP at *
  rw [show ((p + 1 : Nat) : Int) - 2 = ((p : Int) - 2) + 1 by omega, show ((p + 1 : Nat) : Int) - 1 = ((p : Int) - 1) + 1 by omega, show ((p + 1 : Nat) : Int) + 1 = ((p : Int) + 1) + 1 by omega, e _ (by omega), e _ (by omega), e _ (by omega)] at h
  exact h

