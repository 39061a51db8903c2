/-! How many readings there can be. -/
def Bd (k R : Nat) : Nat := 17 * 3 ^ k * 16 ^ R
theorem Bd_mono {k k2 R : Nat} (h : k ≤ k2) : Bd k R ≤ Bd k2 R := by
  unfold Bd
  exact Nat.mul_le_mul_right _ (Nat.mul_le_mul_left _ (Nat.pow_le_pow_right (by decide) h))
theorem Bd_3 (k R : Nat) : 3 * Bd k R = Bd (k + 1) R := by
  unfold Bd
  rw [Nat.pow_succ, ← Nat.mul_assoc, ← Nat.mul_assoc]
  congr 1
  rw [Nat.mul_comm 3 17, Nat.mul_assoc 17 3, Nat.mul_comm 3]
theorem Bd_16 {k R R2 : Nat} (h : R + 1 ≤ R2) : 16 * Bd k R ≤ Bd k R2 := by
  unfold Bd
  have h1 : 16 * 16 ^ R ≤ 16 ^ R2 := by
    rw [Nat.mul_comm, ← Nat.pow_succ]
    exact Nat.pow_le_pow_right (by decide) h
  calc 16 * (17 * 3 ^ k * 16 ^ R) = 17 * 3 ^ k * (16 * 16 ^ R) := by rw [Nat.mul_left_comm]
    _ ≤ _ := Nat.mul_le_mul_left _ h1
theorem Bd_17 (k R : Nat) : 17 ≤ Bd k R := by
  unfold Bd
  have h1 : 0 < 3 ^ k * 16 ^ R := Nat.mul_pos (Nat.pow_pos (by decide)) (Nat.pow_pos (by decide))
  rw [Nat.mul_assoc]
  omega
theorem enL_len {m : eW} (hp : nP m ≤ 16) {ll : Nat → Int} {nl j a b c : Nat} : (enL m ll nl j a b c).length ≤ 17 := by
  unfold enL
  rw [List.length_append, lsD_len]
  have h1 := sm_bound (f := fun d => (if isLs m ll nl j a b c d then [(([d], []) : List Nat × List Nat)] else []).length) (n := nP m) (c := 1) (fun d _ => by split <;> simp)
  have h2 : (if j = nl ∧ isE m (-1) a b c = true then [(([], []) : List Nat × List Nat)] else []).length ≤ 1 := by split <;> simp
  omega
theorem sm_le3 {f f1 f2 f3 : Nat → Nat} {n : Nat} (h : ∀ i, i < n → f i ≤ f1 i + f2 i + f3 i) : sm f n ≤ sm f1 n + sm f2 n + sm f3 n := by
  have := sm_le h
  rw [sm_add, sm_add] at this
  exact this
theorem fL_len {m : eW} (hp : WFp m) (he : WFe m) {ll : Nat → Int} {nl : Nat} : ∀ (f md e done all j a b c : Nat), md ≤ 1 → okF m nl md e done all j → (fL m ll nl f md e done all j a b c).length ≤ Bd ((if md = 0 then fmN m e - done else 0) + (6 - all) + (nl - j)) (6 - all) := by
  intro f
  induction f with
  | zero => intro md e done all j a b c _ _; exact Nat.zero_le _
  | succ f ih =>
    intro md e done all j a b c hmd hok
    match md, hmd with
    | 0, _ =>
      unfold fL
      rw [lsD_len, if_pos rfl]
      have hdn := (hok.2.2 rfl).2
      have hn := hp.n
      obtain ⟨K, hK⟩ : ∃ K, fmN m e - done + (6 - all) + (nl - j) = K + 1 := ⟨fmN m e - done + (6 - all) + (nl - j) - 1, by omega⟩
      rw [hK, ← Bd_3]
      have key := sm_le3 (n := nP m) (f := fun d => (match loT m ll nl j d with
        | none => []
        | some j2 => if isFm m e done d && goes m (-1) a b c d then (beL m ll nl (fL m ll nl f) e (dnT m done d) all j2 b c d).map (fun (x : List Nat × List Nat) => (d :: x.1, x.2)) else ([] : fT)).length) (f1 := fun d => if m 68 d = m 80 (5 * e + done) ∧ m 69 d = 27 then Bd K (6 - all) else 0) (f2 := fun d => if m 68 d = m 80 (5 * e + done) ∧ m 69 d = ll j then Bd K (6 - all) else 0) (f3 := fun d => if m 68 d = 27 ∧ m 69 d = ll j then Bd K (6 - all) else 0) ?_
      · refine Nat.le_trans key ?_
        have u1 : sm (fun d => if m 68 d = m 80 (5 * e + done) ∧ m 69 d = 27 then Bd K (6 - all) else 0) (nP m) ≤ Bd K (6 - all) := sm_uniq (fun i _ => by split; exact Nat.le_refl _; exact Nat.zero_le _) (fun i k hi hk h1 h2 => by
          split at h1
          · next q1 => split at h2
                       · next q2 => exact hp.2.2 i k hi hk (by rw [q1.1, q2.1]) (by rw [q1.2, q2.2])
                       · exact absurd rfl h2
          · exact absurd rfl h1)
        have u2 : sm (fun d => if m 68 d = m 80 (5 * e + done) ∧ m 69 d = ll j then Bd K (6 - all) else 0) (nP m) ≤ Bd K (6 - all) := sm_uniq (fun i _ => by split; exact Nat.le_refl _; exact Nat.zero_le _) (fun i k hi hk h1 h2 => by
          split at h1
          · next q1 => split at h2
                       · next q2 => exact hp.2.2 i k hi hk (by rw [q1.1, q2.1]) (by rw [q1.2, q2.2])
                       · exact absurd rfl h2
          · exact absurd rfl h1)
        have u3 : sm (fun d => if m 68 d = 27 ∧ m 69 d = ll j then Bd K (6 - all) else 0) (nP m) ≤ Bd K (6 - all) := sm_uniq (fun i _ => by split; exact Nat.le_refl _; exact Nat.zero_le _) (fun i k hi hk h1 h2 => by
          split at h1
          · next q1 => split at h2
                       · next q2 => exact hp.2.2 i k hi hk (by rw [q1.1, q2.1]) (by rw [q1.2, q2.2])
                       · exact absurd rfl h2
          · exact absurd rfl h1)
        omega
      · intro d hd
        cases hl : loT m ll nl j d with
        | none => exact Nat.zero_le _
        | some j2 =>
          dsimp only
          cases hc : (isFm m e done d && goes m (-1) a b c d)
          · exact Nat.zero_le _
          · rw [if_pos rfl, List.length_map]
            have hj := loT_j hl hok.1
            have hb := mF_be (all := all) hp hd hok.1 hdn hl
            have child : (beL m ll nl (fL m ll nl f) e (dnT m done d) all j2 b c d).length ≤ Bd K (6 - all) := by
              unfold beL
              by_cases hd2 : dnT m done d < fmN m e
              · rw [if_pos hd2]
                refine Nat.le_trans (ih 0 e _ all j2 b c d (by decide) ⟨hj.2, hok.2.1, fun _ => ⟨(hok.2.2 rfl).1, hd2⟩⟩) (Bd_mono ?_)
                rw [if_pos rfl]
                have := hb.1 hd2
                unfold mF at this
                rw [if_pos rfl, if_pos rfl] at this
                omega
              · rw [if_neg hd2]
                by_cases hn : m 78 e = -1
                · rw [if_pos hn]
                  exact Nat.le_trans (enL_len hp.n.2) (Bd_17 _ _)
                · rw [if_neg hn]
                  refine Nat.le_trans (ih 1 _ 0 all j2 b c d (by decide) ⟨hj.2, hok.2.1, fun h9 => by cases h9⟩) (Bd_mono ?_)
                  rw [if_neg (by decide)]
                  have := hb.2 hd2 0 0
                  unfold mF at this
                  rw [if_neg (by decide), if_pos rfl] at this
                  omega
            have hfm : m 68 d = 27 ∨ m 68 d = m 80 (5 * e + done) := by
              rw [Bool.and_eq_true] at hc
              have := hc.1
              unfold isFm at this
              simp at this
              exact this
            have hll : m 69 d = 27 ∨ m 69 d = ll j := by
              unfold loT at hl
              split at hl
              · next h9 => exact Or.inl h9
              · split at hl
                · next h9 => exact Or.inr h9.2
                · cases hl
            have hno := (hp.2.1 d hd).2.2
            rcases hfm with hfm | hfm
            · have h2 : m 69 d = ll j := by
                rcases hll with h9 | h9
                · exact absurd ⟨hfm, h9⟩ hno
                · exact h9
              have e3 : (if m 68 d = 27 ∧ m 69 d = ll j then Bd K (6 - all) else 0) = Bd K (6 - all) := if_pos ⟨hfm, h2⟩
              rw [e3]
              omega
            · rcases hll with hll | hll
              · have e1 : (if m 68 d = m 80 (5 * e + done) ∧ m 69 d = 27 then Bd K (6 - all) else 0) = Bd K (6 - all) := if_pos ⟨hfm, hll⟩
                rw [e1]
                omega
              · have e2 : (if m 68 d = m 80 (5 * e + done) ∧ m 69 d = ll j then Bd K (6 - all) else 0) = Bd K (6 - all) := if_pos ⟨hfm, hll⟩
                rw [e2]
                omega
    | 1, _ =>
      unfold fL
      rw [lsD_len, if_neg (by decide)]
      have hn := he.n
      by_cases h6 : all = 6
      · have hz := sm_zero (f := fun x => (if m 77 x = (e : Int) ∧ all + fmN m x ≤ 6 then (fL m ll nl f 0 x 0 (all + fmN m x) j a b c).map (fun y => (y.1, x :: y.2)) else ([] : fT)).length) (n := nE m) |>.mpr (fun x hx => by
          have := he.fm hx
          rw [if_neg (by omega)]
          rfl)
        exact Nat.le_trans (Nat.le_of_eq hz) (Nat.zero_le _)
      · have hall := hok.2.1
        have h1 := sm_bound (f := fun x => (if m 77 x = (e : Int) ∧ all + fmN m x ≤ 6 then (fL m ll nl f 0 x 0 (all + fmN m x) j a b c).map (fun y => (y.1, x :: y.2)) else ([] : fT)).length) (n := nE m) (c := Bd (0 + (6 - all) + (nl - j)) (6 - all - 1)) (fun x hx => by
          have hfm := he.fm hx
          by_cases hc : m 77 x = (e : Int) ∧ all + fmN m x ≤ 6
          · rw [if_pos hc, List.length_map]
            refine Nat.le_trans (ih 0 x 0 _ j a b c (by decide) ⟨hok.1, hc.2, fun _ => ⟨hx, hfm.1⟩⟩) ?_
            rw [if_pos rfl]
            have e1 : fmN m x - 0 + (6 - (all + fmN m x)) + (nl - j) = 0 + (6 - all) + (nl - j) := by omega
            rw [e1]
            unfold Bd
            exact Nat.mul_le_mul_left _ (Nat.pow_le_pow_right (by decide) (by omega))
          · rw [if_neg hc]; exact Nat.zero_le _)
        refine Nat.le_trans h1 (Nat.le_trans (Nat.mul_le_mul_right _ hn.2) (Bd_16 (by omega)))
theorem fl_lt {m : eW} (hp : WFp m) (he : WFe m) {ll : Nat → Int} {nl md e done all j a b c : Nat} (hn : nl ≤ 6) (hmd : md ≤ 1) (hok : okF m nl md e done all j) (ha : md = 0 → fmN m e ≤ all) : (fl m ll nl md e done all j a b c).length ≤ 1000000000000000 := by
  refine Nat.le_trans (fL_len hp he 20 md e done all j a b c hmd hok) (Nat.le_trans (Bd_mono (k2 := 12) ?_) ?_)
  · by_cases hm : md = 0
    · rw [if_pos hm]; have := ha hm; have := hok.2.1; omega
    · rw [if_neg hm]; omega
  · unfold Bd
    have : 16 ^ (6 - all) ≤ 16 ^ 6 := Nat.pow_le_pow_right (by decide) (by omega)
    exact Nat.le_trans (Nat.mul_le_mul_left _ this) (by decide)

