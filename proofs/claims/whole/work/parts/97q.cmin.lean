/-! The class: the least row of a clash is found. -/

def NH (m : eW) (a c n : Nat) : Prop := ∀ l ∈ rwL m n 16, hit m a c l = false
theorem hit_iff {m : eW} {a c : Nat} {l : List Nat} : hit m a c l = true ↔ ∃ p, p < l.length ∧ clP m a c l p = true := by
  unfold hit clF
  constructor
  · intro h
    by_cases h9 : ∃ p, p < l.length ∧ clP m a c l p = true
    · exact h9
    · rw [fsN_none l.length 0 (fun j _ hj => by
        cases hb : clP m a c l j with
        | false => rfl
        | true => exact absurd ⟨j, by omega, hb⟩ h9), Nat.zero_add, decide_eq_true rfl] at h
      cases h
  · rintro ⟨p, h1, h2⟩
    have := (fsN_spec (P := clP m a c l) l.length 0 ⟨p, by omega, by omega, h2⟩).2.2.1
    rw [decide_eq_false (by omega)]
    rfl
theorem NH_no {m : eW} {a c n p : Nat} {l : List Nat} (h : NH m a c n) (hl : l ∈ rwL m n 16) (hp : p < n) (hc : clP m a c l p = true) : False := by
  have h1 := h l hl
  rw [hit_iff.mpr ⟨p, by rw [((rwL_iff m n 16 l).mp hl).1]; exact hp, hc⟩] at h1
  cases h1
theorem cl_range {m : eW} (hp : WFp m) {a c n p : Nat} {l : List Nat} (hn : ∀ k, 1 ≤ k → k < n → NH m a c k) (hl : l ∈ rwL m n 16) (h4 : n ≤ 4) (hpn : p < n) (h : clP m a c l p = true) : cRg n p := by
  obtain ⟨h1, h2⟩ := (rwL_iff m n 16 l).mp hl
  refine ⟨?_, ?_, hpn⟩
  · by_cases h9 : n ≤ p + 2
    · exact h9
    · exfalso
      exact NH_no (hn (p + 2) (by omega) (by omega)) ((rwL_iff m (p + 2) 16 _).mpr ⟨by rw [List.length_take]; omega, okR_take m (p + 2) 16 l h2⟩) (by omega) (clP_take (by omega) h)
  · by_cases h9 : p ≤ 2
    · exact h9
    · exfalso
      have e3 : p = 3 := by omega
      subst e3
      match l, h1, h2, h with
      | [], h1, _, _ =>
        have h1 : 0 = n := h1
        omega
      | x :: l, h1, h2, h =>
        have h1 : l.length + 1 = n := h1
        exact NH_no (hn (n - 1) (by omega) (by omega)) ((rwL_iff m (n - 1) 16 l).mpr ⟨by omega, okR_16 hp h2.2.2⟩) (by omega) (clP_tail (p := 2) (by omega) h)
theorem cl_last {m : eW} {a c n : Nat} {l : List Nat} (hl : l.length = n + 1) (h : clP m a c l n = true) : bf m a 16 = true ∧ bf m c 16 = true := by
  have e : rAt l ((n : Int) + 1) = 16 := by
    unfold rAt
    rw [if_neg (by omega)]
  unfold clP inR at h
  rw [e] at h
  simp only [Bool.and_eq_true] at h
  exact ⟨h.1.2.2, h.2.2⟩
theorem cl_uniq {m : eW} (hp : WFp m) {a c n p q : Nat} {l l2 : List Nat} (hn : ∀ k, 1 ≤ k → k < n → NH m a c k) (h4 : n ≤ 4) (hl : l ∈ rwL m n 16) (hl2 : l2 ∈ rwL m n 16) (hp1 : p < n) (hq1 : q < n) (h : clP m a c l p = true) (h2 : clP m a c l2 q = true) : ¬ p < q := by
  intro hpq
  obtain ⟨r1, r2, r3⟩ := cl_range hp hn hl h4 hp1 h
  obtain ⟨s1, s2, s3⟩ := cl_range hp hn hl2 h4 hq1 h2
  obtain ⟨u1, u2⟩ := (rwL_iff m n 16 l).mp hl
  obtain ⟨v1, v2⟩ := (rwL_iff m n 16 l2).mp hl2
  have eq : n = q + 1 := by omega
  have ep : n = p + 2 := by omega
  obtain ⟨b1, b2⟩ := cl_last (n := q) (by omega) h2
  exact NH_no (hn (p + 1) (by omega) (by omega)) ((rwL_iff m (p + 1) 16 _).mpr ⟨by rw [List.length_take]; omega, okR_take m (p + 1) 16 l u2⟩) (by omega) (clP_last (by omega) h b1 b2)
theorem NH_of {m : eW} (hp : WFp m) (hr : WFr m) {a c : Nat} (ha : a < nR m) (hc : c < nR m) (N : Nat) (hN : N ≤ 4) (h : ∀ n A, 1 ≤ n → n ≤ N → cRg n A → ctG m a c n A = none) : ∀ n, 1 ≤ n → n ≤ N → NH m a c n := by
  intro n
  induction n using Nat.strongRecOn with
  | _ n ih =>
    intro h1 h2 l hl
    cases hb : hit m a c l with
    | false => rfl
    | true =>
      exfalso
      obtain ⟨p, p1, p2⟩ := hit_iff.mp hb
      rw [((rwL_iff m n 16 l).mp hl).1] at p1
      have hR := cl_range hp (fun k k1 k2 => ih k k2 k1 (by omega)) hl (by omega) p1 p2
      have h3 := h n p h1 h2 hR
      rw [ctG_eq hp hr ha hc hR, List.find?_eq_none] at h3
      exact h3 l hl p2
theorem fnd_e (m : eW) (a c n : Nat) : fnd m a c n [] = (rwL m n 16).find? (hit m a c) := by
  unfold fnd
  rfl
theorem fcN_5 {m : eW} (hp : WFp m) (hr : WFr m) {a c : Nat} (ha : a < nR m) (hc : c < nR m) (h : ∀ n A, 1 ≤ n → n ≤ 4 → cRg n A → ctG m a c n A = none) : fcN m a c = 5 := by
  unfold fcN
  split
  · refine fsN_none 4 1 (fun j h1 h2 => ?_)
    rw [fnd_e]
    have := NH_of hp hr ha hc 4 (by decide) h j h1 (by omega)
    rw [show (rwL m j 16).find? (hit m a c) = none from List.find?_eq_none.mpr (fun x hx => by rw [this x hx]; decide)]
    rfl
  · rfl
theorem fcN_n {m : eW} (hp : WFp m) (hr : WFr m) {a c : Nat} (ha : a < nR m) (hc : c < nR m) (hu : unl m a c = true) {n A : Nat} {l : List Nat} (hR : cRg n A) (h4 : n ≤ 4) (h0 : ∀ k B, 1 ≤ k → k < n → cRg k B → ctG m a c k B = none) (h : ctG m a c n A = some l) : fcN m a c = n ∧ fcR m a c = l ∧ clI m a c l = (A : Int) ∧ l.length = n := by
  have hn1 : 1 ≤ n := by have := hR.2.2; omega
  have hNH : ∀ k, 1 ≤ k → k < n → NH m a c k := fun k k1 k2 => NH_of hp hr ha hc (n - 1) (by omega) (fun j B j1 j2 => h0 j B j1 (by omega)) k k1 (by omega)
  rw [ctG_eq hp hr ha hc hR] at h
  have hl := List.mem_of_find?_eq_some h
  have hcl := List.find?_some h
  have hlen := ((rwL_iff m n 16 l).mp hl).1
  have only : ∀ l2 ∈ rwL m n 16, ∀ p, p < n → clP m a c l2 p = true → p = A := by
    intro l2 hl2 p hpn hp2
    have q1 := cl_uniq hp hNH h4 hl2 hl hpn hR.2.2 hp2 hcl
    have q2 := cl_uniq hp hNH h4 hl hl2 hR.2.2 hpn hcl hp2
    omega
  have hf : fnd m a c n [] = some l := by
    rw [fnd_e, ← h]
    refine find_cg (fun l2 hl2 => ?_)
    cases hb : clP m a c l2 A with
    | true => exact hit_iff.mpr ⟨A, by rw [((rwL_iff m n 16 l2).mp hl2).1]; exact hR.2.2, hb⟩
    | false =>
      cases hh : hit m a c l2 with
      | false => rfl
      | true =>
        obtain ⟨p, p1, p2⟩ := hit_iff.mp hh
        rw [((rwL_iff m n 16 l2).mp hl2).1] at p1
        rw [only l2 hl2 p p1 p2, hb] at p2
        cases p2
  have eN : fcN m a c = n := by
    unfold fcN
    rw [if_pos hu]
    obtain ⟨s1, s2, s3, s4⟩ := fsN_spec (P := fun n => (fnd m a c n []).isSome) 4 1 ⟨n, hn1, by omega, by rw [hf]; rfl⟩
    have e1 : ¬ n < fsN (fun n => (fnd m a c n []).isSome) 4 1 := fun h9 => by
      have := s4 n hn1 h9
      rw [hf] at this
      cases this
    have e2 : ¬ fsN (fun n => (fnd m a c n []).isSome) 4 1 < n := fun h9 => by
      have h8 := hNH _ s2 h9
      rw [fnd_e, show (rwL m (fsN (fun n => (fnd m a c n []).isSome) 4 1) 16).find? (hit m a c) = none from List.find?_eq_none.mpr (fun x hx => by rw [h8 x hx]; decide)] at s1
      cases s1
    omega
  refine ⟨eN, ?_, ?_, hlen⟩
  · unfold fcR
    rw [eN, hf]
    rfl
  · have eF : clF m a c l = A := by
      unfold clF
      obtain ⟨s1, s2, s3, s4⟩ := fsN_spec (P := clP m a c l) l.length 0 ⟨A, by omega, by have := hR.2.2; omega, hcl⟩
      exact only l hl _ (by omega) s1
    unfold clI
    rw [eF, if_neg (by have := hR.2.2; omega)]

