/-! No run writes to the script. -/

def R0 (S S2 : aS) : Prop := S2.1 0 = S.1 0 ∧ S2.2.1 0 = S.2.1 0 ∧ 1 ≤ S2.2.2.1
theorem R0.rf {S : aS} (h : 1 ≤ S.2.2.1) : R0 S S := ⟨rfl, rfl, h⟩
theorem R0.tr {S T U : aS} (h : R0 S T) (h2 : R0 T U) : R0 S U := ⟨by rw [h2.1, h.1], by rw [h2.2.1, h.2.1], h2.2.2⟩
theorem R0.up {S : aS} (h : 1 ≤ S.2.2.1) {a : Int} {kd k : Nat} {x : Int} (ha : am_at S a kd = true) : R0 S (am_up S a.toNat k x) := by
  unfold am_at at ha
  have h1 := of_decide_eq_true (Bool.and_eq_true_iff.mp ha).1
  refine ⟨?_, rfl, h⟩
  funext j
  show (if 0 = a.toNat ∧ j = k then x else S.1 0 j) = S.1 0 j
  rw [if_neg (fun h9 => by omega)]
theorem R0.al {S : aS} (h : 1 ≤ S.2.2.1) (kd n : Nat) (df : Nat → Int) (sl : Nat) : R0 S (am_al S kd n df sl) := by
  refine ⟨?_, ?_, by show 1 ≤ S.2.2.1 + 1; omega⟩
  · funext j
    show (if 0 = am_pi S.2.2.1 then df j else S.1 0 j) = S.1 0 j
    rw [if_neg (by have := am_pi_pos (k := S.2.2.1) (by omega); omega)]
  · show (if 0 = am_pi S.2.2.1 then (kd, n) else S.2.1 0) = S.2.1 0
    rw [if_neg (by have := am_pi_pos (k := S.2.2.1) (by omega); omega)]
theorem R0.cp {S : aS} (h : 1 ≤ S.2.2.1) {a c : Int} {kd sp dp n : Nat} (hc : am_at S c kd = true) : R0 S (am_cpy S a.toNat sp c.toNat dp n) := by
  unfold am_at at hc
  have h1 := of_decide_eq_true (Bool.and_eq_true_iff.mp hc).1
  refine ⟨?_, rfl, h⟩
  funext j
  show (if 0 = c.toNat ∧ dp ≤ j ∧ j < dp + n then S.1 a.toNat (sp + (j - dp)) else S.1 0 j) = S.1 0 j
  rw [if_neg (fun h9 => by omega)]
theorem R0.of {S : aS} {a b : Nat} {la lb sa sb : List aV} {T U : aS} (h : some (a, la, sa, T) = some (b, lb, sb, U)) (hT : R0 S T) : R0 S U := by
  cases h
  exact hT
theorem s1_r0 {i : aI} {ls st : List aV} {S : aS} {pc2 : Nat} {ls2 st2 : List aV} {S2 : aS} (hT : 1 ≤ S.2.2.1) (h : am_s1 i ls st S = some (pc2, ls2, st2, S2)) : R0 S S2 := by
  unfold am_s1 at h
  split at h
  all_goals (try (repeat' (split at h)))
  all_goals first
    | (cases h; done)
    | exact R0.of h (R0.rf hT)
    | exact R0.of h (R0.al hT _ _ _ _)
    | (next hc => exact R0.of h (R0.up hT hc.1))
    | (next hc => exact R0.of h (R0.up hT hc.2))
    | (obtain ⟨l, _, h⟩ := Option.map_eq_some_iff.mp h; exact R0.of (congrArg some h) (R0.rf hT))
    | (next hc => rcases hc.2.2.2.2.2.1 with h9 | h9; exact R0.of h (R0.cp hT h9.2); exact R0.of h (R0.cp hT h9.2))
theorem fi_r0 {M : Nat} {i : aI} {st : List aV} {S : aS} {r : Option aV} {S2 : aS} (hT : 1 ≤ S.2.2.1) (h : am_fi M i st S = some (r, S2)) : R0 S S2 := by
  unfold am_fi at h
  split at h
  all_goals (try (repeat' (split at h)))
  all_goals first
    | (cases h; done)
    | (cases h; exact R0.rf hT)
    | (cases h; exact R0.al hT _ _ _ _)
theorem b4_r0 {o : Int} {r : Option aV} {S : aS} {v : aV} {S2 : aS} (hT : 1 ≤ S.2.2.1) (h : am_b4 o r S = some (v, S2)) : R0 S S2 := by
  unfold am_b4 at h
  split at h
  all_goals (try (split at h))
  all_goals first
    | (cases h; done)
    | (cases h; exact R0.rf hT)
    | (next hc => cases h; exact R0.up hT hc.1)
theorem run_r0 : ∀ (n d M pc : Nat) (la st : List aV) (S : aS) (c : aC), 1 ≤ S.2.2.1 → am_run n d M pc la st S = some c → R0 S c.2.2.2 := by
  intro n
  induction n with
  | zero => intro d M pc la st S c _ h; cases h
  | succ n ih =>
    intro d M pc la st S c hT h
    unfold am_run at h
    by_cases c1 : (am_cd M pc).1 < 36
    · rw [if_pos c1] at h
      by_cases c2 : 31 ≤ (am_cd M pc).1 ∧ d = 0
      · rw [if_pos c2] at h; cases h
      · rw [if_neg c2] at h
        cases hs : am_s1 (am_cd M pc) la st S with
        | none => rw [hs] at h; cases h
        | some q =>
          obtain ⟨p2, l2, t2, S2⟩ := q
          rw [hs] at h
          have r1 := s1_r0 hT hs
          exact r1.tr (ih _ _ _ _ _ _ _ r1.2.2 h)
    · rw [if_neg c1] at h
      by_cases c2 : (am_cd M pc).1 < 39
      · rw [if_pos c2] at h
        cases h
        exact R0.rf hT
      · rw [if_neg c2] at h
        by_cases c3 : (am_cd M pc).1 = 40
        · rw [if_pos c3] at h
          match d, h with
          | 0, h => cases h
          | d + 1, h =>
          dsimp only at h
          cases ha : am_ar (am_cd M pc) st S with
          | none => rw [ha] at h; cases h
          | some q =>
            obtain ⟨as, rest⟩ := q
            rw [ha] at h
            dsimp only at h
            cases hr : am_run n d (am_cd M pc).2.2.1 0 (am_en (am_cd M pc).2.2.1 as) [] S with
            | none => rw [hr] at h; cases h
            | some q2 =>
              obtain ⟨p1, l1, t1, S1⟩ := q2
              rw [hr] at h
              have r1 := ih _ _ _ _ _ _ _ hT hr
              dsimp only at h
              cases hf : am_fi (am_cd M pc).2.2.1 (am_cd (am_cd M pc).2.2.1 p1) t1 S1 with
              | none => rw [hf] at h; cases h
              | some q3 =>
                obtain ⟨v, S2⟩ := q3
                have r2 := fi_r0 r1.2.2 hf
                rw [hf] at h
                split at h
                · cases h
                · next v2 S3 hno he =>
                  cases he
                  exact (R0.tr r1 r2).tr (ih _ _ _ _ _ _ _ r2.2.2 h)
                · cases h
        · rw [if_neg c3] at h
          by_cases c4 : (am_cd M pc).1 = 41
          · rw [if_pos c4] at h
            by_cases c5 : d < 8
            · rw [if_pos c5] at h; cases h
            · rw [if_neg c5] at h
              cases ha : am_a4 (am_cd M pc).2.2.1 st S with
              | none => rw [ha] at h; cases h
              | some q =>
                obtain ⟨as, o, rest⟩ := q
                rw [ha] at h
                dsimp only at h
                cases hr : am_run n (d - 8) (am_cd M pc).2.2.1 0 (am_en (am_cd M pc).2.2.1 as) [] S with
                | none => rw [hr] at h; cases h
                | some q2 =>
                  obtain ⟨p1, l1, t1, S1⟩ := q2
                  rw [hr] at h
                  have r1 := ih _ _ _ _ _ _ _ hT hr
                  dsimp only at h
                  cases hf : am_fi (am_cd M pc).2.2.1 (am_cd (am_cd M pc).2.2.1 p1) t1 S1 with
                  | none => rw [hf] at h; cases h
                  | some q3 =>
                    obtain ⟨v, S2⟩ := q3
                    have r2 := fi_r0 r1.2.2 hf
                    rw [hf] at h
                    dsimp only at h
                    cases hb : am_b4 o v S2 with
                    | none => rw [hb] at h; cases h
                    | some q4 =>
                      obtain ⟨v4, S3⟩ := q4
                      have r3 := b4_r0 r2.2.2 hb
                      rw [hb] at h
                      dsimp only at h
                      exact ((R0.tr r1 r2).tr r3).tr (ih _ _ _ _ _ _ _ r3.2.2 h)
          · rw [if_neg c4] at h; cases h
theorem Ev.r0 {d M pc : Nat} {Q : Option aV → aS → Prop} {la st : List aV} {S : aS} (h : Ev d M Q pc la st S) (hT : 1 ≤ S.2.2.1) : Ev d M (fun r S2 => Q r S2 ∧ R0 S S2) pc la st S := by
  obtain ⟨n, c, r, S2, h1, h2, h3⟩ := h
  have r1 := run_r0 n d M pc la st S c hT h1
  exact ⟨n, c, r, S2, h1, h2, h3, r1.tr (fi_r0 r1.2.2 h2)⟩
theorem Cl.r0 {d k : Nat} {as : List aV} {w : eW} {t : eT} {Q : Option aV → aS → Prop} (h : Cl d k as (enc w t) Q) : Cl d k as (enc w t) (fun r S2 => Q r S2 ∧ R0 (enc w t) S2) := Ev.r0 h (by show 1 ≤ 102 + t.2.1; omega)
theorem R0.enc {w w2 : eW} {t t2 : eT} (h : R0 (enc w t) (enc w2 t2)) : w2 0 = w 0 ∧ t2.1 0 = t.1 0 := by
  refine ⟨?_, h.2.1⟩
  funext k
  have := congrFun h.1 k
  have e : en_r 0 k = none := by unfold en_r; rfl
  have this : (en_r 0 k).getD (w2 0 k) = (en_r 0 k).getD (w 0 k) := this
  rw [e] at this
  exact this
