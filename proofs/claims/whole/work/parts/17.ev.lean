/-! The logic of the abstract machine: from here a method comes to its end with Q. -/
theorem am_more : ∀ (n d M pc : Nat) (la st : List aV) (S : aS) (c : aC), am_run n d M pc la st S = some c → ∀ n2 d2, n ≤ n2 → d ≤ d2 → am_run n2 d2 M pc la st S = some c := by
  intro n
  induction n with
  | zero => intro d M pc la st S c h; cases h
  | succ n ih =>
    intro d M pc la st S c h n2 d2 hn hd
    match n2, hn with
    | 0, hn => omega
    | n2 + 1, hn =>
    have hn : n ≤ n2 := by omega
    unfold am_run at h ⊢
    by_cases c1 : (am_cd M pc).1 < 36
    · rw [if_pos c1] at h ⊢
      by_cases c2 : 31 ≤ (am_cd M pc).1 ∧ d = 0
      · rw [if_pos c2] at h; cases h
      · rw [if_neg c2] at h
        rw [if_neg (fun hz => c2 ⟨hz.1, by omega⟩)]
        cases hs : am_s1 (am_cd M pc) la st S with
        | none => rw [hs] at h; cases h
        | some q =>
          obtain ⟨p2, l2, t2, S2⟩ := q
          rw [hs] at h
          exact ih _ _ _ _ _ _ _ h n2 d2 hn hd
    · rw [if_neg c1] at h ⊢
      by_cases c2 : (am_cd M pc).1 < 39
      · rw [if_pos c2] at h ⊢
        exact h
      · rw [if_neg c2] at h ⊢
        by_cases c3 : (am_cd M pc).1 = 40
        · rw [if_pos c3] at h ⊢
          match d, d2, hd, h with
          | 0, _, _, h => cases h
          | d + 1, 0, hd, _ => omega
          | d + 1, d2 + 1, hd, h =>
          dsimp only at h ⊢
          have hd2 : d ≤ d2 := by omega
          cases ha : am_ar (am_cd M pc) st S with
          | none => rw [ha] at h; cases h
          | some q =>
            obtain ⟨as, rest⟩ := q
            rw [ha] at h
            dsimp only at h ⊢
            cases hr : am_run n d (am_cd M pc).2.2.1 0 (am_en (am_cd M pc).2.2.1 as) [] S with
            | none => rw [hr] at h; cases h
            | some q2 =>
              obtain ⟨p1, l1, t1, S1⟩ := q2
              rw [hr] at h
              rw [ih _ _ _ _ _ _ _ hr n2 d2 hn hd2]
              dsimp only at h ⊢
              cases hf : am_fi (am_cd M pc).2.2.1 (am_cd (am_cd M pc).2.2.1 p1) t1 S1 with
              | none => rw [hf] at h; cases h
              | some q3 =>
                obtain ⟨v, S2⟩ := q3
                rw [hf] at h
                split at h
                · cases h
                · next v2 S3 hno he =>
                  cases he
                  exact ih _ _ _ _ _ _ _ h n2 (d2 + 1) hn (by omega)
                · cases h
        · rw [if_neg c3] at h ⊢
          by_cases c4 : (am_cd M pc).1 = 41
          · rw [if_pos c4] at h ⊢
            by_cases h8 : d < 8
            · rw [if_pos h8] at h; cases h
            rw [if_neg h8] at h
            rw [if_neg (by omega)]
            have hd2 : d - 8 ≤ d2 - 8 := by omega
            cases ha : am_a4 (am_cd M pc).2.2.1 st S with
            | none => rw [ha] at h; cases h
            | some q =>
              obtain ⟨as, o, rest⟩ := q
              rw [ha] at h
              dsimp only at h ⊢
              cases hr : am_run n (d - 8) (am_cd M pc).2.2.1 0 (am_en (am_cd M pc).2.2.1 as) [] S with
              | none => rw [hr] at h; cases h
              | some q2 =>
                obtain ⟨p1, l1, t1, S1⟩ := q2
                rw [hr] at h
                rw [ih _ _ _ _ _ _ _ hr n2 (d2 - 8) hn hd2]
                dsimp only at h ⊢
                cases hf : am_fi (am_cd M pc).2.2.1 (am_cd (am_cd M pc).2.2.1 p1) t1 S1 with
                | none => rw [hf] at h; cases h
                | some q3 =>
                  obtain ⟨v, S2⟩ := q3
                  rw [hf] at h
                  dsimp only at h ⊢
                  cases hb : am_b4 o v S2 with
                  | none => rw [hb] at h; cases h
                  | some q4 =>
                    obtain ⟨v4, S4⟩ := q4
                    rw [hb] at h
                    exact ih _ _ _ _ _ _ _ h n2 d2 hn hd
          · rw [if_neg c4] at h; cases h
def Ev (d M : Nat) (Q : Option aV → aS → Prop) (pc : Nat) (la st : List aV) (S : aS) : Prop := ∃ n c r S2, am_run n d M pc la st S = some c ∧ am_fi M (am_cd M c.1) c.2.2.1 c.2.2.2 = some (r, S2) ∧ Q r S2
/-- a call of method k: it answers r, and the memory behind it is S2, with Q r S2 -/
def Cl (d k : Nat) (as : List aV) (S : aS) (Q : Option aV → aS → Prop) : Prop := Ev d k Q 0 (am_en k as) [] S
theorem Ev.mono {d M pc : Nat} {Q Q2 : Option aV → aS → Prop} {la st : List aV} {S : aS} (h : Ev d M Q pc la st S) (hq : ∀ r S2, Q r S2 → Q2 r S2) : Ev d M Q2 pc la st S := by
  obtain ⟨n, c, r, S2, h1, h2, h3⟩ := h
  exact ⟨n, c, r, S2, h1, h2, hq r S2 h3⟩
theorem Cl.mono {d k : Nat} {Q Q2 : Option aV → aS → Prop} {as : List aV} {S : aS} (h : Cl d k as S Q) (hq : ∀ r S2, Q r S2 → Q2 r S2) : Cl d k as S Q2 := Ev.mono h hq
theorem Ev.up {d d2 M pc : Nat} {Q : Option aV → aS → Prop} {la st : List aV} {S : aS} (h : Ev d M Q pc la st S) (hd : d ≤ d2) : Ev d2 M Q pc la st S := by
  obtain ⟨n, c, r, S2, h1, h2, h3⟩ := h
  exact ⟨n, c, r, S2, am_more _ _ _ _ _ _ _ _ h1 n d2 (Nat.le_refl _) hd, h2, h3⟩
theorem Cl.up {d d2 k : Nat} {Q : Option aV → aS → Prop} {as : List aV} {S : aS} (h : Cl d k as S Q) (hd : d ≤ d2) : Cl d2 k as S Q := Ev.up h hd
theorem ev_s {d M pc : Nat} {Q : Option aV → aS → Prop} {la st la2 st2 : List aV} {S S2 : aS} {pc2 : Nat} {i : aI} (hc : am_cd M pc = i) (ho : i.1 < 31) (hs : am_s1 i la st S = some (pc2, la2, st2, S2)) (h : Ev d M Q pc2 la2 st2 S2) : Ev d M Q pc la st S := by
  obtain ⟨n, c, r, S3, h1, h2, h3⟩ := h
  refine ⟨n + 1, c, r, S3, ?_, h2, h3⟩
  unfold am_run
  rw [hc, if_pos (by omega), if_neg (by omega), hs]
  exact h1
theorem ev_s1 {d M pc : Nat} {Q : Option aV → aS → Prop} {la st la2 st2 : List aV} {S S2 : aS} {pc2 : Nat} {i : aI} (hc : am_cd M pc = i) (ho : i.1 < 36) (hs : am_s1 i la st S = some (pc2, la2, st2, S2)) (h : Ev (d + 1) M Q pc2 la2 st2 S2) : Ev (d + 1) M Q pc la st S := by
  obtain ⟨n, c, r, S3, h1, h2, h3⟩ := h
  refine ⟨n + 1, c, r, S3, ?_, h2, h3⟩
  unfold am_run
  rw [hc, if_pos ho, if_neg (by omega), hs]
  exact h1
theorem ev_r {d M pc : Nat} {Q : Option aV → aS → Prop} {la st : List aV} {S S2 : aS} {i : aI} {r : Option aV} (hc : am_cd M pc = i) (ho : ¬ i.1 < 36) (ho2 : i.1 < 39) (hf : am_fi M i st S = some (r, S2)) (h : Q r S2) : Ev d M Q pc la st S := by
  refine ⟨1, (pc, la, st, S), r, S2, ?_, by rw [hc]; exact hf, h⟩
  unfold am_run
  rw [hc, if_neg ho, if_pos ho2]
theorem ev_c {d M pc nx k : Nat} {md : Int} {w : List Nat} {Q : Option aV → aS → Prop} {la st as rest : List aV} {S : aS} (hc : am_cd M pc = (40, nx, k, md, w)) (ha : am_ar (40, nx, k, md, w) st S = some (as, rest)) (h : Cl d k as S (fun r S2 => (∀ x, r ≠ some (6, x)) ∧ Ev (d + 1) M Q nx la (r.toList ++ rest) S2)) : Ev (d + 1) M Q pc la st S := by
  obtain ⟨n, c, r, S2, h1, h2, h6, n3, c3, r3, S3, h3, h4, h5⟩ := h
  refine ⟨max n n3 + 1, c3, r3, S3, ?_, h4, h5⟩
  unfold am_run
  rw [hc, if_neg (by show ¬ 40 < 36; omega), if_neg (by show ¬ 40 < 39; omega), if_pos rfl]
  dsimp only
  rw [ha]
  dsimp only
  rw [am_more _ _ _ _ _ _ _ _ h1 (max n n3) d (Nat.le_max_left _ _) (Nat.le_refl _)]
  obtain ⟨p1, l1, t1, S1⟩ := c
  dsimp only at h2 ⊢
  rw [h2]
  split
  · next he => cases he; exact absurd rfl (h6 _)
  · next he => cases he; exact am_more _ _ _ _ _ _ _ _ h3 (max n n3) (d + 1) (Nat.le_max_right _ _) (Nat.le_refl _)
  · next he => cases he
theorem ev_x {d M pc nx k : Nat} {md o : Int} {w : List Nat} {Q : Option aV → aS → Prop} {la st as rest : List aV} {S : aS} (hc : am_cd M pc = (41, nx, k, md, w)) (ha : am_a4 k st S = some (as, o, rest)) (h : Cl d k as S (fun r S2 => ∃ v S3, am_b4 o r S2 = some (v, S3) ∧ Ev (d + 8) M Q nx la (v :: rest) S3)) : Ev (d + 8) M Q pc la st S := by
  obtain ⟨n, c, r, S2, h1, h2, v, S4, h6, n3, c3, r3, S3, h3, h4, h5⟩ := h
  refine ⟨max n n3 + 1, c3, r3, S3, ?_, h4, h5⟩
  unfold am_run
  rw [hc, if_neg (by show ¬ 41 < 36; omega), if_neg (by show ¬ 41 < 39; omega), if_neg (by show ¬ 41 = 40; omega), if_pos rfl, if_neg (by omega)]
  dsimp only
  rw [ha]
  dsimp only
  rw [show d + 8 - 8 = d by omega, am_more _ _ _ _ _ _ _ _ h1 (max n n3) d (Nat.le_max_left _ _) (Nat.le_refl _)]
  obtain ⟨p1, l1, t1, S1⟩ := c
  dsimp only at h2 ⊢
  rw [h2]
  dsimp only
  rw [h6]
  exact am_more _ _ _ _ _ _ _ _ h3 (max n n3) (d + 8) (Nat.le_max_right _ _) (Nat.le_refl _)

