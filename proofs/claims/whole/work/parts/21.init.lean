/-! Constructors: memory as it is being made, (F, K, T, s). -/
def fA (F : Nat → Nat → Int) (T : Nat) (df : Nat → Int) : Nat → Nat → Int := fun q j => bif Nat.beq q T then df j else F q j
def kA (K : Nat → Nat × Nat) (T : Nat) (p : Nat × Nat) : Nat → Nat × Nat := fun q => bif Nat.beq q T then p else K q
def fU (F : Nat → Nat → Int) (a k : Nat) (v : Int) : Nat → Nat → Int := fun q j => bif Nat.beq q a && Nat.beq j k then v else F q j
theorem nbf {a b : Nat} (h : ¬ a = b) : Nat.beq a b = false := by
  cases hb : Nat.beq a b with
  | true => exact absurd (Nat.eq_of_beq_eq_true hb) h
  | false => rfl
theorem k_al {F : Nat → Nat → Int} {K : Nat → Nat × Nat} {T s kd n sl : Nat} {df : Nat → Int} : am_al (F, K, T, s) kd n df sl = (fA F (am_pi T) df, kA K (am_pi T) (kd, n), T + 1, s + sl) := by
  unfold am_al fA kA
  simp only [Prod.mk.injEq, and_true]
  refine ⟨?_, ?_⟩
  · funext q j
    by_cases hq : q = am_pi T
    · subst hq; simp
    · rw [if_neg hq, nbf hq]; rfl
  · funext q
    by_cases hq : q = am_pi T
    · subst hq; simp
    · rw [if_neg hq, nbf hq]; rfl
theorem k_up {F : Nat → Nat → Int} {K : Nat → Nat × Nat} {T s a k : Nat} {v : Int} : am_up (F, K, T, s) a k v = (fU F a k v, K, T, s) := by
  unfold am_up fU
  simp only [Prod.mk.injEq, and_true]
  funext q j
  by_cases hq : q = a
  · subst hq
    by_cases hj : j = k
    · subst hj; simp
    · rw [if_neg (fun z => hj z.2), nbf hj, Bool.and_false]; rfl
  · rw [if_neg (fun z => hq z.1), nbf hq]; rfl
theorem k_at {F : Nat → Nat → Int} {K : Nat → Nat × Nat} {T s a c n : Nat} (h : (Nat.blt 0 a && Nat.blt (am_pj a) T) = true) (hK : K a = (c, n)) : am_at (F, K, T, s) (a : Int) c = true := by
  simp only [Bool.and_eq_true] at h
  have h1 : 0 < a := Nat.le_of_ble_eq_true h.1
  have h2 : am_pj a < T := Nat.le_of_ble_eq_true h.2
  unfold am_at
  simp only [Bool.and_eq_true, decide_eq_true_eq, Int.toNat_natCast]
  exact ⟨by omega, h2, by rw [hK]⟩
section EVK
variable {d M pc nx : Nat} {Q : Option aV → aS → Prop} {la st : List aV} {F : Nat → Nat → Int} {K : Nat → Nat × Nat} {T s : Nat} {l : List Nat}
theorem k_new {c n s2 A : Nat} {z : Int} (hc : am_cd M pc = (29, nx, c, z, l)) (hA : am_pi T = A) (hn : am_nF c = n) (hs : s + n = s2) (h : Ev d M Q nx la (rA A :: st) (fA F A (am_df c), kA K A (c, 0), T + 1, s2)) : Ev d M Q pc la st (F, K, T, s) := by
  refine ev_s hc (Nat.le_of_ble_eq_true rfl) ?_ h
  simp only [am_s1]
  rw [k_al, hn, hs, hA]
theorem k_newa {kd N s2 A : Nat} {n z : Int} (hc : am_cd M pc = (28, nx, kd, z, l)) (hA : am_pi T = A) (hn : w32 n = (N : Int)) (hN : Nat.ble N 10000000 = true) (hs : s + N = s2) (h : Ev d M Q nx la (rA A :: st) (fA F A (fun _ => 0), kA K A (kd, N), T + 1, s2)) : Ev d M Q pc la ((0, n) :: st) (F, K, T, s) := by
  have := Nat.le_of_ble_eq_true hN
  refine ev_s hc (Nat.le_of_ble_eq_true rfl) ?_ h
  simp only [am_s1]
  rw [hn, if_pos (by omega), Int.toNat_natCast, k_al, hs, hA]
theorem k_obj {b : Nat} {a : Nat} {z : Int} (hc : am_cd M pc = (31, nx, b, z, l)) (h2 : (st.map fun v => if v.1 = 1 then 2 else 1).sum ≤ 8) (h : Ev (d + 1) M Q nx la st (F, K, T, s)) : Ev (d + 1) M Q pc la (rA a :: st) (F, K, T, s) := by
  refine ev_s1 hc (Nat.le_of_ble_eq_true rfl) ?_ h
  simp only [am_s1]
  rw [if_pos ⟨Int.natCast_nonneg a, h2⟩]
theorem k_put {op f a c n tg : Nat} {v z : Int} (hc : am_cd M pc = (op, nx, f, z, l)) (ho : op = 19 ∨ op = 20) (hT : (Nat.blt 0 a && Nat.blt (am_pj a) T) = true) (hK : K a = (f / 100, n)) (hz : tg = z.toNat) (h0 : tg = 2 → 0 ≤ v) (hb : am_ty (f / 100) (f % 100) = .boolean → v = 0 ∨ v = 1) (hf : f % 100 = c) (h : Ev d M Q nx la st (fU F a c v, K, T, s)) : Ev d M Q pc la ((tg, v) :: rA a :: st) (F, K, T, s) := by
  rcases ho with rfl | rfl
  all_goals
    refine ev_s hc (Nat.le_of_ble_eq_true rfl) ?_ h
    simp only [am_s1]
    rw [if_pos ⟨k_at hT hK, hz, h0, hb⟩, Int.toNat_natCast, k_up, hf]
theorem k_get {f a n tg : Nat} {v z : Int} (hc : am_cd M pc = (18, nx, f, z, l)) (hT : (Nat.blt 0 a && Nat.blt (am_pj a) T) = true) (hK : K a = (f / 100, n)) (hz : z.toNat = tg) (hv : F a (f % 100) = v) (h : Ev d M Q nx la ((tg, v) :: st) (F, K, T, s)) : Ev d M Q pc la (rA a :: st) (F, K, T, s) := by
  refine ev_s hc (Nat.le_of_ble_eq_true rfl) ?_ h
  simp only [am_s1]
  rw [if_pos (k_at hT hK), Int.toNat_natCast, hz, hv]
theorem k_iast {a b0 n i : Nat} {v z : Int} (hc : am_cd M pc = (24, nx, b0, z, l)) (hT : (Nat.blt 0 a && Nat.blt (am_pj a) T) = true) (hK : K a = (20, n)) (hi : w32 (i : Int) = (i : Int) ∧ i < n) (h : Ev d M Q nx la st (fU F a i v, K, T, s)) : Ev d M Q pc la ((0, v) :: (0, (i : Int)) :: rA a :: st) (F, K, T, s) := by
  have hx : am_ix (F, K, T, s) (a : Int) (i : Int) = true := by
    unfold am_ix
    simp only [Bool.and_eq_true, decide_eq_true_eq, Int.toNat_natCast, hi.1, hK]
    omega
  refine ev_s hc (Nat.le_of_ble_eq_true rfl) ?_ h
  simp only [am_s1]
  rw [if_pos ⟨hx, k_at hT hK⟩, Int.toNat_natCast, hi.1, Int.toNat_natCast, k_up]
end EVK
def nF77 (F : Nat → Nat → Int) : Nat → Nat → Int := fU (fA (fU (fA (fU (fA (fU (fA (fU (fA (F) 3 (fun _ => 0)) 2 0 3) 4 (fun _ => 0)) 2 1 4) 5 (fun _ => 0)) 2 2 5) 6 (fun _ => 0)) 2 3 6) 7 (fun _ => 0)) 2 4 7
def nK77 (K : Nat → Nat × Nat) : Nat → Nat × Nat := kA (kA (kA (kA (kA (K) 3 (20, 80)) 4 (20, 16)) 5 (20, 16)) 6 (20, 6)) 7 (20, 6)
theorem k_init77 {d : Nat} {Q : Option aV → aS → Prop} {F : Nat → Nat → Int} {K : Nat → Nat × Nat} {s s2 : Nat} (hK : K 2 = (8, 0)) (hs : s + 124 = s2) (h : Q none (nF77 F, nK77 K, 8, s2)) : Cl (d + 1) 77 [rA 2] (F, K, 3, s) Q := by
  show Ev (d + 1) 77 Q 0 [rA 2] [] (F, K, 3, s)
  subst hs
  refine e_lda (v := 2) (show am_cd 77 0 = (2, 1, 0, 2, []) by decide +kernel) rfl ?_
  refine k_obj (show am_cd 77 1 = (31, 4, 0, 0, [3]) by decide +kernel) (Nat.le_of_ble_eq_true rfl) ?_
  refine e_lda (v := 2) (show am_cd 77 4 = (2, 5, 0, 2, []) by decide +kernel) rfl ?_
  refine e_ic (show am_cd 77 5 = (0, 7, 1, 80, []) by decide +kernel) ?_
  refine k_newa (N := 80) (s2 := s + 80) (A := 3) (show am_cd 77 7 = (28, 9, 20, 0, []) by decide +kernel) rfl (by decide +kernel) rfl (by omega) ?_
  refine k_put (a := 2) (c := 0) (n := 0) (show am_cd 77 9 = (20, 12, 800, 2, [9]) by decide +kernel) (Or.inr rfl) rfl hK rfl (fun _ => Int.natCast_nonneg _) (fun h9 => absurd h9 (by decide +kernel)) rfl ?_
  refine e_lda (v := 2) (show am_cd 77 12 = (2, 13, 0, 2, []) by decide +kernel) rfl ?_
  refine e_ic (show am_cd 77 13 = (0, 15, 1, 16, []) by decide +kernel) ?_
  refine k_newa (N := 16) (s2 := s + 96) (A := 4) (show am_cd 77 15 = (28, 17, 20, 0, []) by decide +kernel) rfl (by decide +kernel) rfl (by omega) ?_
  refine k_put (a := 2) (c := 1) (n := 0) (show am_cd 77 17 = (20, 20, 801, 2, [15]) by decide +kernel) (Or.inr rfl) rfl hK rfl (fun _ => Int.natCast_nonneg _) (fun h9 => absurd h9 (by decide +kernel)) rfl ?_
  refine e_lda (v := 2) (show am_cd 77 20 = (2, 21, 0, 2, []) by decide +kernel) rfl ?_
  refine e_ic (show am_cd 77 21 = (0, 23, 1, 16, []) by decide +kernel) ?_
  refine k_newa (N := 16) (s2 := s + 112) (A := 5) (show am_cd 77 23 = (28, 25, 20, 0, []) by decide +kernel) rfl (by decide +kernel) rfl (by omega) ?_
  refine k_put (a := 2) (c := 2) (n := 0) (show am_cd 77 25 = (20, 28, 802, 2, [18]) by decide +kernel) (Or.inr rfl) rfl hK rfl (fun _ => Int.natCast_nonneg _) (fun h9 => absurd h9 (by decide +kernel)) rfl ?_
  refine e_lda (v := 2) (show am_cd 77 28 = (2, 29, 0, 2, []) by decide +kernel) rfl ?_
  refine e_ic (show am_cd 77 29 = (0, 31, 1, 6, []) by decide +kernel) ?_
  refine k_newa (N := 6) (s2 := s + 118) (A := 6) (show am_cd 77 31 = (28, 33, 20, 0, []) by decide +kernel) rfl (by decide +kernel) rfl (by omega) ?_
  refine k_put (a := 2) (c := 3) (n := 0) (show am_cd 77 33 = (20, 36, 803, 2, [21]) by decide +kernel) (Or.inr rfl) rfl hK rfl (fun _ => Int.natCast_nonneg _) (fun h9 => absurd h9 (by decide +kernel)) rfl ?_
  refine e_lda (v := 2) (show am_cd 77 36 = (2, 37, 0, 2, []) by decide +kernel) rfl ?_
  refine e_ic (show am_cd 77 37 = (0, 39, 1, 6, []) by decide +kernel) ?_
  refine k_newa (N := 6) (s2 := s + 124) (A := 7) (show am_cd 77 39 = (28, 41, 20, 0, []) by decide +kernel) rfl (by decide +kernel) rfl (by omega) ?_
  refine k_put (a := 2) (c := 4) (n := 0) (show am_cd 77 41 = (20, 44, 804, 2, [24]) by decide +kernel) (Or.inr rfl) rfl hK rfl (fun _ => Int.natCast_nonneg _) (fun h9 => absurd h9 (by decide +kernel)) rfl ?_
  exact e_retv (show am_cd 77 44 = (36, 45, 3, 0, []) by decide +kernel) (by decide +kernel) h

def nF0 (F : Nat → Nat → Int) : Nat → Nat → Int := fU (fA (fU (fA (fU (fA (fU (fA (fU (fA (fU (fA (F) 9 (fun _ => 0)) 8 0 9) 10 (fun _ => 0)) 8 1 10) 11 (fun _ => 0)) 8 2 11) 12 (fun _ => 0)) 8 3 12) 13 (fun _ => 0)) 8 4 13) 14 (fun _ => 0)) 8 5 14
def nK0 (K : Nat → Nat × Nat) : Nat → Nat × Nat := kA (kA (kA (kA (kA (kA (K) 9 (20, 16)) 10 (20, 16)) 11 (20, 28)) 12 (20, 28)) 13 (20, 4)) 14 (20, 4)
theorem k_init0 {d : Nat} {Q : Option aV → aS → Prop} {F : Nat → Nat → Int} {K : Nat → Nat × Nat} {s s2 : Nat} (hK : K 8 = (0, 0)) (hs : s + 96 = s2) (h : Q none (nF0 F, nK0 K, 15, s2)) : Cl (d + 1) 0 [rA 8] (F, K, 9, s) Q := by
  show Ev (d + 1) 0 Q 0 [rA 8] [] (F, K, 9, s)
  subst hs
  refine e_lda (v := 8) (show am_cd 0 0 = (2, 1, 0, 2, []) by decide +kernel) rfl ?_
  refine k_obj (show am_cd 0 1 = (31, 4, 0, 0, [3]) by decide +kernel) (Nat.le_of_ble_eq_true rfl) ?_
  refine e_lda (v := 8) (show am_cd 0 4 = (2, 5, 0, 2, []) by decide +kernel) rfl ?_
  refine e_ic (show am_cd 0 5 = (0, 7, 1, 16, []) by decide +kernel) ?_
  refine k_newa (N := 16) (s2 := s + 16) (A := 9) (show am_cd 0 7 = (28, 9, 20, 0, []) by decide +kernel) rfl (by decide +kernel) rfl (by omega) ?_
  refine k_put (a := 8) (c := 0) (n := 0) (show am_cd 0 9 = (20, 12, 0, 2, [9]) by decide +kernel) (Or.inr rfl) rfl hK rfl (fun _ => Int.natCast_nonneg _) (fun h9 => absurd h9 (by decide +kernel)) rfl ?_
  refine e_lda (v := 8) (show am_cd 0 12 = (2, 13, 0, 2, []) by decide +kernel) rfl ?_
  refine e_ic (show am_cd 0 13 = (0, 15, 1, 16, []) by decide +kernel) ?_
  refine k_newa (N := 16) (s2 := s + 32) (A := 10) (show am_cd 0 15 = (28, 17, 20, 0, []) by decide +kernel) rfl (by decide +kernel) rfl (by omega) ?_
  refine k_put (a := 8) (c := 1) (n := 0) (show am_cd 0 17 = (20, 20, 1, 2, [15]) by decide +kernel) (Or.inr rfl) rfl hK rfl (fun _ => Int.natCast_nonneg _) (fun h9 => absurd h9 (by decide +kernel)) rfl ?_
  refine e_lda (v := 8) (show am_cd 0 20 = (2, 21, 0, 2, []) by decide +kernel) rfl ?_
  refine e_ic (show am_cd 0 21 = (0, 23, 1, 28, []) by decide +kernel) ?_
  refine k_newa (N := 28) (s2 := s + 60) (A := 11) (show am_cd 0 23 = (28, 25, 20, 0, []) by decide +kernel) rfl (by decide +kernel) rfl (by omega) ?_
  refine k_put (a := 8) (c := 2) (n := 0) (show am_cd 0 25 = (20, 28, 2, 2, [18]) by decide +kernel) (Or.inr rfl) rfl hK rfl (fun _ => Int.natCast_nonneg _) (fun h9 => absurd h9 (by decide +kernel)) rfl ?_
  refine e_lda (v := 8) (show am_cd 0 28 = (2, 29, 0, 2, []) by decide +kernel) rfl ?_
  refine e_ic (show am_cd 0 29 = (0, 31, 1, 28, []) by decide +kernel) ?_
  refine k_newa (N := 28) (s2 := s + 88) (A := 12) (show am_cd 0 31 = (28, 33, 20, 0, []) by decide +kernel) rfl (by decide +kernel) rfl (by omega) ?_
  refine k_put (a := 8) (c := 3) (n := 0) (show am_cd 0 33 = (20, 36, 3, 2, [21]) by decide +kernel) (Or.inr rfl) rfl hK rfl (fun _ => Int.natCast_nonneg _) (fun h9 => absurd h9 (by decide +kernel)) rfl ?_
  refine e_lda (v := 8) (show am_cd 0 36 = (2, 37, 0, 2, []) by decide +kernel) rfl ?_
  refine e_ic (show am_cd 0 37 = (0, 38, 0, 4, []) by decide +kernel) ?_
  refine k_newa (N := 4) (s2 := s + 92) (A := 13) (show am_cd 0 38 = (28, 40, 20, 0, []) by decide +kernel) rfl (by decide +kernel) rfl (by omega) ?_
  refine k_put (a := 8) (c := 4) (n := 0) (show am_cd 0 40 = (20, 43, 4, 2, [24]) by decide +kernel) (Or.inr rfl) rfl hK rfl (fun _ => Int.natCast_nonneg _) (fun h9 => absurd h9 (by decide +kernel)) rfl ?_
  refine e_lda (v := 8) (show am_cd 0 43 = (2, 44, 0, 2, []) by decide +kernel) rfl ?_
  refine e_ic (show am_cd 0 44 = (0, 45, 0, 4, []) by decide +kernel) ?_
  refine k_newa (N := 4) (s2 := s + 96) (A := 14) (show am_cd 0 45 = (28, 47, 20, 0, []) by decide +kernel) rfl (by decide +kernel) rfl (by omega) ?_
  refine k_put (a := 8) (c := 5) (n := 0) (show am_cd 0 47 = (20, 50, 5, 2, [27]) by decide +kernel) (Or.inr rfl) rfl hK rfl (fun _ => Int.natCast_nonneg _) (fun h9 => absurd h9 (by decide +kernel)) rfl ?_
  exact e_retv (show am_cd 0 50 = (36, 51, 3, 0, []) by decide +kernel) (by decide +kernel) h

def nF61 (F : Nat → Nat → Int) : Nat → Nat → Int := fU (fA (fU (fA (fU (fA (fU (fA (fU (fA (fU (fA (fU (fA (fU (fA (fU (fA (fU (fA (fU (fA (fU (fA (F) 16 (fun _ => 0)) 15 0 16) 17 (fun _ => 0)) 15 1 17) 18 (fun _ => 0)) 15 2 18) 19 (fun _ => 0)) 15 3 19) 20 (fun _ => 0)) 15 4 20) 21 (fun _ => 0)) 15 5 21) 22 (fun _ => 0)) 15 6 22) 23 (fun _ => 0)) 15 7 23) 24 (fun _ => 0)) 15 8 24) 25 (fun _ => 0)) 15 9 25) 26 (fun _ => 0)) 15 10 26) 27 (fun _ => 0)) 15 11 27
def nK61 (K : Nat → Nat × Nat) : Nat → Nat × Nat := kA (kA (kA (kA (kA (kA (kA (kA (kA (kA (kA (kA (K) 16 (20, 9)) 17 (20, 9)) 18 (20, 9)) 19 (20, 9)) 20 (20, 9)) 21 (20, 9)) 22 (20, 9)) 23 (20, 17)) 24 (20, 17)) 25 (20, 17)) 26 (20, 17)) 27 (20, 17)
theorem k_init61 {d : Nat} {Q : Option aV → aS → Prop} {F : Nat → Nat → Int} {K : Nat → Nat × Nat} {s s2 : Nat} (hK : K 15 = (7, 0)) (hs : s + 148 = s2) (h : Q none (nF61 F, nK61 K, 28, s2)) : Cl (d + 1) 61 [rA 15] (F, K, 16, s) Q := by
  show Ev (d + 1) 61 Q 0 [rA 15] [] (F, K, 16, s)
  subst hs
  refine e_lda (v := 15) (show am_cd 61 0 = (2, 1, 0, 2, []) by decide +kernel) rfl ?_
  refine k_obj (show am_cd 61 1 = (31, 4, 0, 0, [3]) by decide +kernel) (Nat.le_of_ble_eq_true rfl) ?_
  refine e_lda (v := 15) (show am_cd 61 4 = (2, 5, 0, 2, []) by decide +kernel) rfl ?_
  refine e_ic (show am_cd 61 5 = (0, 7, 1, 9, []) by decide +kernel) ?_
  refine k_newa (N := 9) (s2 := s + 9) (A := 16) (show am_cd 61 7 = (28, 9, 20, 0, []) by decide +kernel) rfl (by decide +kernel) rfl (by omega) ?_
  refine k_put (a := 15) (c := 0) (n := 0) (show am_cd 61 9 = (20, 12, 700, 2, [9]) by decide +kernel) (Or.inr rfl) rfl hK rfl (fun _ => Int.natCast_nonneg _) (fun h9 => absurd h9 (by decide +kernel)) rfl ?_
  refine e_lda (v := 15) (show am_cd 61 12 = (2, 13, 0, 2, []) by decide +kernel) rfl ?_
  refine e_ic (show am_cd 61 13 = (0, 15, 1, 9, []) by decide +kernel) ?_
  refine k_newa (N := 9) (s2 := s + 18) (A := 17) (show am_cd 61 15 = (28, 17, 20, 0, []) by decide +kernel) rfl (by decide +kernel) rfl (by omega) ?_
  refine k_put (a := 15) (c := 1) (n := 0) (show am_cd 61 17 = (20, 20, 701, 2, [15]) by decide +kernel) (Or.inr rfl) rfl hK rfl (fun _ => Int.natCast_nonneg _) (fun h9 => absurd h9 (by decide +kernel)) rfl ?_
  refine e_lda (v := 15) (show am_cd 61 20 = (2, 21, 0, 2, []) by decide +kernel) rfl ?_
  refine e_ic (show am_cd 61 21 = (0, 23, 1, 9, []) by decide +kernel) ?_
  refine k_newa (N := 9) (s2 := s + 27) (A := 18) (show am_cd 61 23 = (28, 25, 20, 0, []) by decide +kernel) rfl (by decide +kernel) rfl (by omega) ?_
  refine k_put (a := 15) (c := 2) (n := 0) (show am_cd 61 25 = (20, 28, 702, 2, [18]) by decide +kernel) (Or.inr rfl) rfl hK rfl (fun _ => Int.natCast_nonneg _) (fun h9 => absurd h9 (by decide +kernel)) rfl ?_
  refine e_lda (v := 15) (show am_cd 61 28 = (2, 29, 0, 2, []) by decide +kernel) rfl ?_
  refine e_ic (show am_cd 61 29 = (0, 31, 1, 9, []) by decide +kernel) ?_
  refine k_newa (N := 9) (s2 := s + 36) (A := 19) (show am_cd 61 31 = (28, 33, 20, 0, []) by decide +kernel) rfl (by decide +kernel) rfl (by omega) ?_
  refine k_put (a := 15) (c := 3) (n := 0) (show am_cd 61 33 = (20, 36, 703, 2, [21]) by decide +kernel) (Or.inr rfl) rfl hK rfl (fun _ => Int.natCast_nonneg _) (fun h9 => absurd h9 (by decide +kernel)) rfl ?_
  refine e_lda (v := 15) (show am_cd 61 36 = (2, 37, 0, 2, []) by decide +kernel) rfl ?_
  refine e_ic (show am_cd 61 37 = (0, 39, 1, 9, []) by decide +kernel) ?_
  refine k_newa (N := 9) (s2 := s + 45) (A := 20) (show am_cd 61 39 = (28, 41, 20, 0, []) by decide +kernel) rfl (by decide +kernel) rfl (by omega) ?_
  refine k_put (a := 15) (c := 4) (n := 0) (show am_cd 61 41 = (20, 44, 704, 2, [24]) by decide +kernel) (Or.inr rfl) rfl hK rfl (fun _ => Int.natCast_nonneg _) (fun h9 => absurd h9 (by decide +kernel)) rfl ?_
  refine e_lda (v := 15) (show am_cd 61 44 = (2, 45, 0, 2, []) by decide +kernel) rfl ?_
  refine e_ic (show am_cd 61 45 = (0, 47, 1, 9, []) by decide +kernel) ?_
  refine k_newa (N := 9) (s2 := s + 54) (A := 21) (show am_cd 61 47 = (28, 49, 20, 0, []) by decide +kernel) rfl (by decide +kernel) rfl (by omega) ?_
  refine k_put (a := 15) (c := 5) (n := 0) (show am_cd 61 49 = (20, 52, 705, 2, [27]) by decide +kernel) (Or.inr rfl) rfl hK rfl (fun _ => Int.natCast_nonneg _) (fun h9 => absurd h9 (by decide +kernel)) rfl ?_
  refine e_lda (v := 15) (show am_cd 61 52 = (2, 53, 0, 2, []) by decide +kernel) rfl ?_
  refine e_ic (show am_cd 61 53 = (0, 55, 1, 9, []) by decide +kernel) ?_
  refine k_newa (N := 9) (s2 := s + 63) (A := 22) (show am_cd 61 55 = (28, 57, 20, 0, []) by decide +kernel) rfl (by decide +kernel) rfl (by omega) ?_
  refine k_put (a := 15) (c := 6) (n := 0) (show am_cd 61 57 = (20, 60, 706, 2, [30]) by decide +kernel) (Or.inr rfl) rfl hK rfl (fun _ => Int.natCast_nonneg _) (fun h9 => absurd h9 (by decide +kernel)) rfl ?_
  refine e_lda (v := 15) (show am_cd 61 60 = (2, 61, 0, 2, []) by decide +kernel) rfl ?_
  refine e_ic (show am_cd 61 61 = (0, 63, 1, 17, []) by decide +kernel) ?_
  refine k_newa (N := 17) (s2 := s + 80) (A := 23) (show am_cd 61 63 = (28, 65, 20, 0, []) by decide +kernel) rfl (by decide +kernel) rfl (by omega) ?_
  refine k_put (a := 15) (c := 7) (n := 0) (show am_cd 61 65 = (20, 68, 707, 2, [33]) by decide +kernel) (Or.inr rfl) rfl hK rfl (fun _ => Int.natCast_nonneg _) (fun h9 => absurd h9 (by decide +kernel)) rfl ?_
  refine e_lda (v := 15) (show am_cd 61 68 = (2, 69, 0, 2, []) by decide +kernel) rfl ?_
  refine e_ic (show am_cd 61 69 = (0, 71, 1, 17, []) by decide +kernel) ?_
  refine k_newa (N := 17) (s2 := s + 97) (A := 24) (show am_cd 61 71 = (28, 73, 20, 0, []) by decide +kernel) rfl (by decide +kernel) rfl (by omega) ?_
  refine k_put (a := 15) (c := 8) (n := 0) (show am_cd 61 73 = (20, 76, 708, 2, [36]) by decide +kernel) (Or.inr rfl) rfl hK rfl (fun _ => Int.natCast_nonneg _) (fun h9 => absurd h9 (by decide +kernel)) rfl ?_
  refine e_lda (v := 15) (show am_cd 61 76 = (2, 77, 0, 2, []) by decide +kernel) rfl ?_
  refine e_ic (show am_cd 61 77 = (0, 79, 1, 17, []) by decide +kernel) ?_
  refine k_newa (N := 17) (s2 := s + 114) (A := 25) (show am_cd 61 79 = (28, 81, 20, 0, []) by decide +kernel) rfl (by decide +kernel) rfl (by omega) ?_
  refine k_put (a := 15) (c := 9) (n := 0) (show am_cd 61 81 = (20, 84, 709, 2, [39]) by decide +kernel) (Or.inr rfl) rfl hK rfl (fun _ => Int.natCast_nonneg _) (fun h9 => absurd h9 (by decide +kernel)) rfl ?_
  refine e_lda (v := 15) (show am_cd 61 84 = (2, 85, 0, 2, []) by decide +kernel) rfl ?_
  refine e_ic (show am_cd 61 85 = (0, 87, 1, 17, []) by decide +kernel) ?_
  refine k_newa (N := 17) (s2 := s + 131) (A := 26) (show am_cd 61 87 = (28, 89, 20, 0, []) by decide +kernel) rfl (by decide +kernel) rfl (by omega) ?_
  refine k_put (a := 15) (c := 10) (n := 0) (show am_cd 61 89 = (20, 92, 710, 2, [42]) by decide +kernel) (Or.inr rfl) rfl hK rfl (fun _ => Int.natCast_nonneg _) (fun h9 => absurd h9 (by decide +kernel)) rfl ?_
  refine e_lda (v := 15) (show am_cd 61 92 = (2, 93, 0, 2, []) by decide +kernel) rfl ?_
  refine e_ic (show am_cd 61 93 = (0, 95, 1, 17, []) by decide +kernel) ?_
  refine k_newa (N := 17) (s2 := s + 148) (A := 27) (show am_cd 61 95 = (28, 97, 20, 0, []) by decide +kernel) rfl (by decide +kernel) rfl (by omega) ?_
  refine k_put (a := 15) (c := 11) (n := 0) (show am_cd 61 97 = (20, 100, 711, 2, [45]) by decide +kernel) (Or.inr rfl) rfl hK rfl (fun _ => Int.natCast_nonneg _) (fun h9 => absurd h9 (by decide +kernel)) rfl ?_
  exact e_retv (show am_cd 61 100 = (36, 101, 3, 0, []) by decide +kernel) (by decide +kernel) h

def nF20 (F : Nat → Nat → Int) : Nat → Nat → Int := fU (fU (fU (fU (fU (fA (fU (fA (fU (fA (fU (fA (fU (fA (fU (fA (fU (fA (fU (fA (fU (fA (F) 29 (fun _ => 0)) 28 0 29) 30 (fun _ => 0)) 28 1 30) 31 (fun _ => 0)) 28 2 31) 32 (fun _ => 0)) 28 3 32) 33 (fun _ => 0)) 28 4 33) 34 (fun _ => 0)) 28 5 34) 35 (fun _ => 0)) 28 6 35) 101 (fun _ => 0)) 28 11 101) 36 (fun _ => 0)) 36 0 1000) 36 1 1000) 36 2 1000) 36 3 1000) 28 7 36
def nK20 (K : Nat → Nat × Nat) : Nat → Nat × Nat := kA (kA (kA (kA (kA (kA (kA (kA (kA (K) 29 (20, 16)) 30 (20, 16)) 31 (20, 16)) 32 (20, 80)) 33 (21, 28)) 34 (20, 320)) 35 (20, 16)) 101 (20, 28)) 36 (20, 4)
theorem k_init20 {d : Nat} {Q : Option aV → aS → Prop} {F : Nat → Nat → Int} {K : Nat → Nat × Nat} {s s2 : Nat} (hK : K 28 = (3, 0)) (hs : s + 524 = s2) (h : Q none (nF20 F, nK20 K, 38, s2)) : Cl (d + 1) 20 [rA 28] (F, K, 29, s) Q := by
  show Ev (d + 1) 20 Q 0 [rA 28] [] (F, K, 29, s)
  subst hs
  refine e_lda (v := 28) (show am_cd 20 0 = (2, 1, 0, 2, []) by decide +kernel) rfl ?_
  refine k_obj (show am_cd 20 1 = (31, 4, 0, 0, [3]) by decide +kernel) (Nat.le_of_ble_eq_true rfl) ?_
  refine e_lda (v := 28) (show am_cd 20 4 = (2, 5, 0, 2, []) by decide +kernel) rfl ?_
  refine e_ic (show am_cd 20 5 = (0, 7, 1, 16, []) by decide +kernel) ?_
  refine k_newa (N := 16) (s2 := s + 16) (A := 29) (show am_cd 20 7 = (28, 9, 20, 0, []) by decide +kernel) rfl (by decide +kernel) rfl (by omega) ?_
  refine k_put (a := 28) (c := 0) (n := 0) (show am_cd 20 9 = (20, 12, 300, 2, [9]) by decide +kernel) (Or.inr rfl) rfl hK rfl (fun _ => Int.natCast_nonneg _) (fun h9 => absurd h9 (by decide +kernel)) rfl ?_
  refine e_lda (v := 28) (show am_cd 20 12 = (2, 13, 0, 2, []) by decide +kernel) rfl ?_
  refine e_ic (show am_cd 20 13 = (0, 15, 1, 16, []) by decide +kernel) ?_
  refine k_newa (N := 16) (s2 := s + 32) (A := 30) (show am_cd 20 15 = (28, 17, 20, 0, []) by decide +kernel) rfl (by decide +kernel) rfl (by omega) ?_
  refine k_put (a := 28) (c := 1) (n := 0) (show am_cd 20 17 = (20, 20, 301, 2, [15]) by decide +kernel) (Or.inr rfl) rfl hK rfl (fun _ => Int.natCast_nonneg _) (fun h9 => absurd h9 (by decide +kernel)) rfl ?_
  refine e_lda (v := 28) (show am_cd 20 20 = (2, 21, 0, 2, []) by decide +kernel) rfl ?_
  refine e_ic (show am_cd 20 21 = (0, 23, 1, 16, []) by decide +kernel) ?_
  refine k_newa (N := 16) (s2 := s + 48) (A := 31) (show am_cd 20 23 = (28, 25, 20, 0, []) by decide +kernel) rfl (by decide +kernel) rfl (by omega) ?_
  refine k_put (a := 28) (c := 2) (n := 0) (show am_cd 20 25 = (20, 28, 302, 2, [18]) by decide +kernel) (Or.inr rfl) rfl hK rfl (fun _ => Int.natCast_nonneg _) (fun h9 => absurd h9 (by decide +kernel)) rfl ?_
  refine e_lda (v := 28) (show am_cd 20 28 = (2, 29, 0, 2, []) by decide +kernel) rfl ?_
  refine e_ic (show am_cd 20 29 = (0, 31, 1, 80, []) by decide +kernel) ?_
  refine k_newa (N := 80) (s2 := s + 128) (A := 32) (show am_cd 20 31 = (28, 33, 20, 0, []) by decide +kernel) rfl (by decide +kernel) rfl (by omega) ?_
  refine k_put (a := 28) (c := 3) (n := 0) (show am_cd 20 33 = (20, 36, 303, 2, [21]) by decide +kernel) (Or.inr rfl) rfl hK rfl (fun _ => Int.natCast_nonneg _) (fun h9 => absurd h9 (by decide +kernel)) rfl ?_
  refine e_lda (v := 28) (show am_cd 20 36 = (2, 37, 0, 2, []) by decide +kernel) rfl ?_
  refine e_ic (show am_cd 20 37 = (0, 39, 1, 28, []) by decide +kernel) ?_
  refine k_newa (N := 28) (s2 := s + 156) (A := 33) (show am_cd 20 39 = (28, 41, 21, 0, []) by decide +kernel) rfl (by decide +kernel) rfl (by omega) ?_
  refine k_put (a := 28) (c := 4) (n := 0) (show am_cd 20 41 = (20, 44, 304, 2, [24]) by decide +kernel) (Or.inr rfl) rfl hK rfl (fun _ => Int.natCast_nonneg _) (fun h9 => absurd h9 (by decide +kernel)) rfl ?_
  refine e_lda (v := 28) (show am_cd 20 44 = (2, 45, 0, 2, []) by decide +kernel) rfl ?_
  refine e_ic (show am_cd 20 45 = (0, 48, 2, 320, []) by decide +kernel) ?_
  refine k_newa (N := 320) (s2 := s + 476) (A := 34) (show am_cd 20 48 = (28, 50, 20, 0, []) by decide +kernel) rfl (by decide +kernel) rfl (by omega) ?_
  refine k_put (a := 28) (c := 5) (n := 0) (show am_cd 20 50 = (20, 53, 305, 2, [28]) by decide +kernel) (Or.inr rfl) rfl hK rfl (fun _ => Int.natCast_nonneg _) (fun h9 => absurd h9 (by decide +kernel)) rfl ?_
  refine e_lda (v := 28) (show am_cd 20 53 = (2, 54, 0, 2, []) by decide +kernel) rfl ?_
  refine e_ic (show am_cd 20 54 = (0, 56, 1, 16, []) by decide +kernel) ?_
  refine k_newa (N := 16) (s2 := s + 492) (A := 35) (show am_cd 20 56 = (28, 58, 20, 0, []) by decide +kernel) rfl (by decide +kernel) rfl (by omega) ?_
  refine k_put (a := 28) (c := 6) (n := 0) (show am_cd 20 58 = (20, 61, 306, 2, [31]) by decide +kernel) (Or.inr rfl) rfl hK rfl (fun _ => Int.natCast_nonneg _) (fun h9 => absurd h9 (by decide +kernel)) rfl ?_
  refine e_lda (v := 28) (show am_cd 20 61 = (2, 62, 0, 2, []) by decide +kernel) rfl ?_
  refine e_ic (show am_cd 20 62 = (0, 64, 1, 28, []) by decide +kernel) ?_
  refine k_newa (N := 28) (s2 := s + 520) (A := 101) (show am_cd 20 64 = (28, 66, 20, 0, []) by decide +kernel) rfl (by decide +kernel) rfl (by omega) ?_
  refine k_put (a := 28) (c := 11) (n := 0) (show am_cd 20 66 = (20, 69, 311, 2, [34]) by decide +kernel) (Or.inr rfl) rfl hK rfl (fun _ => Int.natCast_nonneg _) (fun h9 => absurd h9 (by decide +kernel)) rfl ?_
  refine e_lda (v := 28) (show am_cd 20 69 = (2, 70, 0, 2, []) by decide +kernel) rfl ?_
  refine e_ic (show am_cd 20 70 = (0, 71, 0, 4, []) by decide +kernel) ?_
  refine k_newa (N := 4) (s2 := s + 524) (A := 36) (show am_cd 20 71 = (28, 73, 20, 0, []) by decide +kernel) rfl (by decide +kernel) rfl (by omega) ?_
  refine e_dup (show am_cd 20 73 = (13, 74, 0, 0, []) by decide +kernel) (by decide) ?_
  refine e_ic (show am_cd 20 74 = (0, 75, 0, 0, []) by decide +kernel) ?_
  refine e_ic (show am_cd 20 75 = (0, 78, 2, 1000, []) by decide +kernel) ?_
  refine k_iast (a := 36) (i := 0) (n := 4) (show am_cd 20 78 = (24, 79, 0, 0, []) by decide +kernel) rfl rfl (by decide +kernel) ?_
  refine e_dup (show am_cd 20 79 = (13, 80, 0, 0, []) by decide +kernel) (by decide) ?_
  refine e_ic (show am_cd 20 80 = (0, 81, 0, 1, []) by decide +kernel) ?_
  refine e_ic (show am_cd 20 81 = (0, 84, 2, 1000, []) by decide +kernel) ?_
  refine k_iast (a := 36) (i := 1) (n := 4) (show am_cd 20 84 = (24, 85, 0, 0, []) by decide +kernel) rfl rfl (by decide +kernel) ?_
  refine e_dup (show am_cd 20 85 = (13, 86, 0, 0, []) by decide +kernel) (by decide) ?_
  refine e_ic (show am_cd 20 86 = (0, 87, 0, 2, []) by decide +kernel) ?_
  refine e_ic (show am_cd 20 87 = (0, 90, 2, 1000, []) by decide +kernel) ?_
  refine k_iast (a := 36) (i := 2) (n := 4) (show am_cd 20 90 = (24, 91, 0, 0, []) by decide +kernel) rfl rfl (by decide +kernel) ?_
  refine e_dup (show am_cd 20 91 = (13, 92, 0, 0, []) by decide +kernel) (by decide) ?_
  refine e_ic (show am_cd 20 92 = (0, 93, 0, 3, []) by decide +kernel) ?_
  refine e_ic (show am_cd 20 93 = (0, 96, 2, 1000, []) by decide +kernel) ?_
  refine k_iast (a := 36) (i := 3) (n := 4) (show am_cd 20 96 = (24, 97, 0, 0, []) by decide +kernel) rfl rfl (by decide +kernel) ?_
  refine k_put (a := 28) (c := 7) (n := 0) (show am_cd 20 97 = (20, 100, 307, 2, [37]) by decide +kernel) (Or.inr rfl) rfl hK rfl (fun _ => Int.natCast_nonneg _) (fun h9 => absurd h9 (by decide +kernel)) rfl ?_
  exact e_retv (show am_cd 20 100 = (36, 101, 3, 0, []) by decide +kernel) (by decide +kernel) h

def nF32 (F : Nat → Nat → Int) : Nat → Nat → Int := fU (fU (fA (fU (fA (fU (fA (fU (fA (fU (fA (fU (fA (fU (fA (F) 38 (fun _ => 0)) 37 0 38) 39 (fun _ => 0)) 37 1 39) 40 (fun _ => 0)) 37 2 40) 41 (fun _ => 0)) 37 3 41) 42 (fun _ => 0)) 37 4 42) 43 (fun _ => 0)) 37 5 43) 44 (fun _ => 0)) 37 6 44) 37 8 1
def nK32 (K : Nat → Nat × Nat) : Nat → Nat × Nat := kA (kA (kA (kA (kA (kA (kA (K) 38 (20, 64)) 39 (21, 32)) 40 (20, 32)) 41 (20, 32)) 42 (20, 32)) 43 (20, 32)) 44 (20, 512)
theorem k_init32 {d : Nat} {Q : Option aV → aS → Prop} {F : Nat → Nat → Int} {K : Nat → Nat × Nat} {s s2 : Nat} (hK : K 37 = (4, 0)) (hs : s + 736 = s2) (h : Q none (nF32 F, nK32 K, 46, s2)) : Cl (d + 1) 32 [rA 37] (F, K, 39, s) Q := by
  show Ev (d + 1) 32 Q 0 [rA 37] [] (F, K, 39, s)
  subst hs
  refine e_lda (v := 37) (show am_cd 32 0 = (2, 1, 0, 2, []) by decide +kernel) rfl ?_
  refine k_obj (show am_cd 32 1 = (31, 4, 0, 0, [3]) by decide +kernel) (Nat.le_of_ble_eq_true rfl) ?_
  refine e_lda (v := 37) (show am_cd 32 4 = (2, 5, 0, 2, []) by decide +kernel) rfl ?_
  refine e_ic (show am_cd 32 5 = (0, 7, 1, 64, []) by decide +kernel) ?_
  refine k_newa (N := 64) (s2 := s + 64) (A := 38) (show am_cd 32 7 = (28, 9, 20, 0, []) by decide +kernel) rfl (by decide +kernel) rfl (by omega) ?_
  refine k_put (a := 37) (c := 0) (n := 0) (show am_cd 32 9 = (20, 12, 400, 2, [9]) by decide +kernel) (Or.inr rfl) rfl hK rfl (fun _ => Int.natCast_nonneg _) (fun h9 => absurd h9 (by decide +kernel)) rfl ?_
  refine e_lda (v := 37) (show am_cd 32 12 = (2, 13, 0, 2, []) by decide +kernel) rfl ?_
  refine e_ic (show am_cd 32 13 = (0, 15, 1, 32, []) by decide +kernel) ?_
  refine k_newa (N := 32) (s2 := s + 96) (A := 39) (show am_cd 32 15 = (28, 17, 21, 0, []) by decide +kernel) rfl (by decide +kernel) rfl (by omega) ?_
  refine k_put (a := 37) (c := 1) (n := 0) (show am_cd 32 17 = (19, 20, 401, 2, [15]) by decide +kernel) (Or.inl rfl) rfl hK rfl (fun _ => Int.natCast_nonneg _) (fun h9 => absurd h9 (by decide +kernel)) rfl ?_
  refine e_lda (v := 37) (show am_cd 32 20 = (2, 21, 0, 2, []) by decide +kernel) rfl ?_
  refine e_ic (show am_cd 32 21 = (0, 23, 1, 32, []) by decide +kernel) ?_
  refine k_newa (N := 32) (s2 := s + 128) (A := 40) (show am_cd 32 23 = (28, 25, 20, 0, []) by decide +kernel) rfl (by decide +kernel) rfl (by omega) ?_
  refine k_put (a := 37) (c := 2) (n := 0) (show am_cd 32 25 = (19, 28, 402, 2, [19]) by decide +kernel) (Or.inl rfl) rfl hK rfl (fun _ => Int.natCast_nonneg _) (fun h9 => absurd h9 (by decide +kernel)) rfl ?_
  refine e_lda (v := 37) (show am_cd 32 28 = (2, 29, 0, 2, []) by decide +kernel) rfl ?_
  refine e_ic (show am_cd 32 29 = (0, 31, 1, 32, []) by decide +kernel) ?_
  refine k_newa (N := 32) (s2 := s + 160) (A := 41) (show am_cd 32 31 = (28, 33, 20, 0, []) by decide +kernel) rfl (by decide +kernel) rfl (by omega) ?_
  refine k_put (a := 37) (c := 3) (n := 0) (show am_cd 32 33 = (19, 36, 403, 2, [22]) by decide +kernel) (Or.inl rfl) rfl hK rfl (fun _ => Int.natCast_nonneg _) (fun h9 => absurd h9 (by decide +kernel)) rfl ?_
  refine e_lda (v := 37) (show am_cd 32 36 = (2, 37, 0, 2, []) by decide +kernel) rfl ?_
  refine e_ic (show am_cd 32 37 = (0, 39, 1, 32, []) by decide +kernel) ?_
  refine k_newa (N := 32) (s2 := s + 192) (A := 42) (show am_cd 32 39 = (28, 41, 20, 0, []) by decide +kernel) rfl (by decide +kernel) rfl (by omega) ?_
  refine k_put (a := 37) (c := 4) (n := 0) (show am_cd 32 41 = (19, 44, 404, 2, [25]) by decide +kernel) (Or.inl rfl) rfl hK rfl (fun _ => Int.natCast_nonneg _) (fun h9 => absurd h9 (by decide +kernel)) rfl ?_
  refine e_lda (v := 37) (show am_cd 32 44 = (2, 45, 0, 2, []) by decide +kernel) rfl ?_
  refine e_ic (show am_cd 32 45 = (0, 47, 1, 32, []) by decide +kernel) ?_
  refine k_newa (N := 32) (s2 := s + 224) (A := 43) (show am_cd 32 47 = (28, 49, 20, 0, []) by decide +kernel) rfl (by decide +kernel) rfl (by omega) ?_
  refine k_put (a := 37) (c := 5) (n := 0) (show am_cd 32 49 = (19, 52, 405, 2, [28]) by decide +kernel) (Or.inl rfl) rfl hK rfl (fun _ => Int.natCast_nonneg _) (fun h9 => absurd h9 (by decide +kernel)) rfl ?_
  refine e_lda (v := 37) (show am_cd 32 52 = (2, 53, 0, 2, []) by decide +kernel) rfl ?_
  refine e_ic (show am_cd 32 53 = (0, 56, 2, 512, []) by decide +kernel) ?_
  refine k_newa (N := 512) (s2 := s + 736) (A := 44) (show am_cd 32 56 = (28, 58, 20, 0, []) by decide +kernel) rfl (by decide +kernel) rfl (by omega) ?_
  refine k_put (a := 37) (c := 6) (n := 0) (show am_cd 32 58 = (19, 61, 406, 2, [31]) by decide +kernel) (Or.inl rfl) rfl hK rfl (fun _ => Int.natCast_nonneg _) (fun h9 => absurd h9 (by decide +kernel)) rfl ?_
  refine e_lda (v := 37) (show am_cd 32 61 = (2, 62, 0, 2, []) by decide +kernel) rfl ?_
  refine e_ic (show am_cd 32 62 = (0, 63, 0, 1, []) by decide +kernel) ?_
  refine k_put (a := 37) (c := 8) (n := 0) (show am_cd 32 63 = (19, 66, 408, 0, [34]) by decide +kernel) (Or.inl rfl) rfl hK rfl (fun h9 => absurd h9 (by decide)) (fun _ => Or.inr rfl) rfl ?_
  exact e_retv (show am_cd 32 66 = (36, 67, 3, 0, []) by decide +kernel) (by decide +kernel) h

def nF42 (F : Nat → Nat → Int) : Nat → Nat → Int := fU (fU (fA (fU (fA (F) 46 (fun _ => 0)) 45 0 46) 47 (fun _ => 0)) 45 1 47) 45 2 1
def nK42 (K : Nat → Nat × Nat) : Nat → Nat × Nat := kA (kA (K) 46 (21, 256)) 47 (21, 256)
theorem k_init42 {d : Nat} {Q : Option aV → aS → Prop} {F : Nat → Nat → Int} {K : Nat → Nat × Nat} {s s2 : Nat} (hK : K 45 = (5, 0)) (hs : s + 512 = s2) (h : Q none (nF42 F, nK42 K, 49, s2)) : Cl (d + 1) 42 [rA 45] (F, K, 47, s) Q := by
  show Ev (d + 1) 42 Q 0 [rA 45] [] (F, K, 47, s)
  subst hs
  refine e_lda (v := 45) (show am_cd 42 0 = (2, 1, 0, 2, []) by decide +kernel) rfl ?_
  refine k_obj (show am_cd 42 1 = (31, 4, 0, 0, [3]) by decide +kernel) (Nat.le_of_ble_eq_true rfl) ?_
  refine e_lda (v := 45) (show am_cd 42 4 = (2, 5, 0, 2, []) by decide +kernel) rfl ?_
  refine e_ic (show am_cd 42 5 = (0, 8, 2, 256, []) by decide +kernel) ?_
  refine k_newa (N := 256) (s2 := s + 256) (A := 46) (show am_cd 42 8 = (28, 10, 21, 0, []) by decide +kernel) rfl (by decide +kernel) rfl (by omega) ?_
  refine k_put (a := 45) (c := 0) (n := 0) (show am_cd 42 10 = (19, 13, 500, 2, [9]) by decide +kernel) (Or.inl rfl) rfl hK rfl (fun _ => Int.natCast_nonneg _) (fun h9 => absurd h9 (by decide +kernel)) rfl ?_
  refine e_lda (v := 45) (show am_cd 42 13 = (2, 14, 0, 2, []) by decide +kernel) rfl ?_
  refine e_ic (show am_cd 42 14 = (0, 17, 2, 256, []) by decide +kernel) ?_
  refine k_newa (N := 256) (s2 := s + 512) (A := 47) (show am_cd 42 17 = (28, 19, 21, 0, []) by decide +kernel) rfl (by decide +kernel) rfl (by omega) ?_
  refine k_put (a := 45) (c := 1) (n := 0) (show am_cd 42 19 = (19, 22, 501, 2, [15]) by decide +kernel) (Or.inl rfl) rfl hK rfl (fun _ => Int.natCast_nonneg _) (fun h9 => absurd h9 (by decide +kernel)) rfl ?_
  refine e_lda (v := 45) (show am_cd 42 22 = (2, 23, 0, 2, []) by decide +kernel) rfl ?_
  refine e_ic (show am_cd 42 23 = (0, 24, 0, 1, []) by decide +kernel) ?_
  refine k_put (a := 45) (c := 2) (n := 0) (show am_cd 42 24 = (19, 27, 502, 0, [18]) by decide +kernel) (Or.inl rfl) rfl hK rfl (fun h9 => absurd h9 (by decide)) (fun h9 => absurd h9 (by decide +kernel)) rfl ?_
  exact e_retv (show am_cd 42 27 = (36, 28, 3, 0, []) by decide +kernel) (by decide +kernel) h

def nF15 (F : Nat → Nat → Int) : Nat → Nat → Int := fU (fA (fU (fA (fU (fA (fU (fA (F) 49 (fun _ => 0)) 48 0 49) 50 (fun _ => 0)) 48 1 50) 51 (fun _ => 0)) 48 2 51) 52 (fun _ => 0)) 48 3 52
def nK15 (K : Nat → Nat × Nat) : Nat → Nat × Nat := kA (kA (kA (kA (K) 49 (20, 20)) 50 (20, 20)) 51 (20, 260)) 52 (20, 120)
theorem k_init15 {d : Nat} {Q : Option aV → aS → Prop} {F : Nat → Nat → Int} {K : Nat → Nat × Nat} {s s2 : Nat} (hK : K 48 = (2, 0)) (hs : s + 420 = s2) (h : Q none (nF15 F, nK15 K, 54, s2)) : Cl (d + 1) 15 [rA 48] (F, K, 50, s) Q := by
  show Ev (d + 1) 15 Q 0 [rA 48] [] (F, K, 50, s)
  subst hs
  refine e_lda (v := 48) (show am_cd 15 0 = (2, 1, 0, 2, []) by decide +kernel) rfl ?_
  refine k_obj (show am_cd 15 1 = (31, 4, 0, 0, [3]) by decide +kernel) (Nat.le_of_ble_eq_true rfl) ?_
  refine e_lda (v := 48) (show am_cd 15 4 = (2, 5, 0, 2, []) by decide +kernel) rfl ?_
  refine e_ic (show am_cd 15 5 = (0, 7, 1, 20, []) by decide +kernel) ?_
  refine k_newa (N := 20) (s2 := s + 20) (A := 49) (show am_cd 15 7 = (28, 9, 20, 0, []) by decide +kernel) rfl (by decide +kernel) rfl (by omega) ?_
  refine k_put (a := 48) (c := 0) (n := 0) (show am_cd 15 9 = (20, 12, 200, 2, [9]) by decide +kernel) (Or.inr rfl) rfl hK rfl (fun _ => Int.natCast_nonneg _) (fun h9 => absurd h9 (by decide +kernel)) rfl ?_
  refine e_lda (v := 48) (show am_cd 15 12 = (2, 13, 0, 2, []) by decide +kernel) rfl ?_
  refine e_ic (show am_cd 15 13 = (0, 15, 1, 20, []) by decide +kernel) ?_
  refine k_newa (N := 20) (s2 := s + 40) (A := 50) (show am_cd 15 15 = (28, 17, 20, 0, []) by decide +kernel) rfl (by decide +kernel) rfl (by omega) ?_
  refine k_put (a := 48) (c := 1) (n := 0) (show am_cd 15 17 = (20, 20, 201, 2, [15]) by decide +kernel) (Or.inr rfl) rfl hK rfl (fun _ => Int.natCast_nonneg _) (fun h9 => absurd h9 (by decide +kernel)) rfl ?_
  refine e_lda (v := 48) (show am_cd 15 20 = (2, 21, 0, 2, []) by decide +kernel) rfl ?_
  refine e_ic (show am_cd 15 21 = (0, 24, 2, 260, []) by decide +kernel) ?_
  refine k_newa (N := 260) (s2 := s + 300) (A := 51) (show am_cd 15 24 = (28, 26, 20, 0, []) by decide +kernel) rfl (by decide +kernel) rfl (by omega) ?_
  refine k_put (a := 48) (c := 2) (n := 0) (show am_cd 15 26 = (20, 29, 202, 2, [18]) by decide +kernel) (Or.inr rfl) rfl hK rfl (fun _ => Int.natCast_nonneg _) (fun h9 => absurd h9 (by decide +kernel)) rfl ?_
  refine e_lda (v := 48) (show am_cd 15 29 = (2, 30, 0, 2, []) by decide +kernel) rfl ?_
  refine e_ic (show am_cd 15 30 = (0, 32, 1, 120, []) by decide +kernel) ?_
  refine k_newa (N := 120) (s2 := s + 420) (A := 52) (show am_cd 15 32 = (28, 34, 20, 0, []) by decide +kernel) rfl (by decide +kernel) rfl (by omega) ?_
  refine k_put (a := 48) (c := 3) (n := 0) (show am_cd 15 34 = (20, 37, 203, 2, [21]) by decide +kernel) (Or.inr rfl) rfl hK rfl (fun _ => Int.natCast_nonneg _) (fun h9 => absurd h9 (by decide +kernel)) rfl ?_
  exact e_retv (show am_cd 15 37 = (36, 38, 3, 0, []) by decide +kernel) (by decide +kernel) h

def nF101 (F : Nat → Nat → Int) : Nat → Nat → Int := fU (fU (fU (fU (fU (fU (fU (fA (fU (fA (F) 54 (fun _ => 0)) 53 6 54) 55 (fun _ => 0)) 53 7 55) 53 0 2) 53 1 8) 53 2 28) 53 3 37) 53 4 45) 53 5 48
def nK101 (K : Nat → Nat × Nat) : Nat → Nat × Nat := kA (kA (K) 54 (20, 13)) 55 (20, 6)
theorem k_init101 {d : Nat} {Q : Option aV → aS → Prop} {F : Nat → Nat → Int} {K : Nat → Nat × Nat} {s s2 : Nat} (hK : K 53 = (10, 0)) (hs : s + 19 = s2) (h : Q none (nF101 F, nK101 K, 57, s2)) : Cl (d + 1) 101 [rA 53, rA 2, rA 8, rA 28, rA 37, rA 45, rA 48] (F, K, 55, s) Q := by
  show Ev (d + 1) 101 Q 0 [rA 53, rA 2, rA 8, rA 28, rA 37, rA 45, rA 48] [] (F, K, 55, s)
  subst hs
  refine e_lda (v := 53) (show am_cd 101 0 = (2, 1, 0, 2, []) by decide +kernel) rfl ?_
  refine k_obj (show am_cd 101 1 = (31, 4, 0, 0, [5]) by decide +kernel) (Nat.le_of_ble_eq_true rfl) ?_
  refine e_lda (v := 53) (show am_cd 101 4 = (2, 5, 0, 2, []) by decide +kernel) rfl ?_
  refine e_ic (show am_cd 101 5 = (0, 7, 1, 13, []) by decide +kernel) ?_
  refine k_newa (N := 13) (s2 := s + 13) (A := 54) (show am_cd 101 7 = (28, 9, 20, 0, []) by decide +kernel) rfl (by decide +kernel) rfl (by omega) ?_
  refine k_put (a := 53) (c := 6) (n := 0) (show am_cd 101 9 = (20, 12, 1006, 2, [11]) by decide +kernel) (Or.inr rfl) rfl hK rfl (fun _ => Int.natCast_nonneg _) (fun h9 => absurd h9 (by decide +kernel)) rfl ?_
  refine e_lda (v := 53) (show am_cd 101 12 = (2, 13, 0, 2, []) by decide +kernel) rfl ?_
  refine e_ic (show am_cd 101 13 = (0, 15, 1, 6, []) by decide +kernel) ?_
  refine k_newa (N := 6) (s2 := s + 19) (A := 55) (show am_cd 101 15 = (28, 17, 20, 0, []) by decide +kernel) rfl (by decide +kernel) rfl (by omega) ?_
  refine k_put (a := 53) (c := 7) (n := 0) (show am_cd 101 17 = (20, 20, 1007, 2, [15]) by decide +kernel) (Or.inr rfl) rfl hK rfl (fun _ => Int.natCast_nonneg _) (fun h9 => absurd h9 (by decide +kernel)) rfl ?_
  refine e_lda (v := 53) (show am_cd 101 20 = (2, 21, 0, 2, []) by decide +kernel) rfl ?_
  refine e_lda (v := 2) (show am_cd 101 21 = (2, 22, 1, 2, []) by decide +kernel) rfl ?_
  refine k_put (a := 53) (c := 0) (n := 0) (show am_cd 101 22 = (20, 25, 1000, 2, [18]) by decide +kernel) (Or.inr rfl) rfl hK rfl (fun _ => Int.natCast_nonneg _) (fun h9 => absurd h9 (by decide +kernel)) rfl ?_
  refine e_lda (v := 53) (show am_cd 101 25 = (2, 26, 0, 2, []) by decide +kernel) rfl ?_
  refine e_lda (v := 8) (show am_cd 101 26 = (2, 27, 2, 2, []) by decide +kernel) rfl ?_
  refine k_put (a := 53) (c := 1) (n := 0) (show am_cd 101 27 = (20, 30, 1001, 2, [22]) by decide +kernel) (Or.inr rfl) rfl hK rfl (fun _ => Int.natCast_nonneg _) (fun h9 => absurd h9 (by decide +kernel)) rfl ?_
  refine e_lda (v := 53) (show am_cd 101 30 = (2, 31, 0, 2, []) by decide +kernel) rfl ?_
  refine e_lda (v := 28) (show am_cd 101 31 = (2, 32, 3, 2, []) by decide +kernel) rfl ?_
  refine k_put (a := 53) (c := 2) (n := 0) (show am_cd 101 32 = (20, 35, 1002, 2, [26]) by decide +kernel) (Or.inr rfl) rfl hK rfl (fun _ => Int.natCast_nonneg _) (fun h9 => absurd h9 (by decide +kernel)) rfl ?_
  refine e_lda (v := 53) (show am_cd 101 35 = (2, 36, 0, 2, []) by decide +kernel) rfl ?_
  refine e_lda (v := 37) (show am_cd 101 36 = (2, 38, 4, 2, []) by decide +kernel) rfl ?_
  refine k_put (a := 53) (c := 3) (n := 0) (show am_cd 101 38 = (20, 41, 1003, 2, [30]) by decide +kernel) (Or.inr rfl) rfl hK rfl (fun _ => Int.natCast_nonneg _) (fun h9 => absurd h9 (by decide +kernel)) rfl ?_
  refine e_lda (v := 53) (show am_cd 101 41 = (2, 42, 0, 2, []) by decide +kernel) rfl ?_
  refine e_lda (v := 45) (show am_cd 101 42 = (2, 44, 5, 2, []) by decide +kernel) rfl ?_
  refine k_put (a := 53) (c := 4) (n := 0) (show am_cd 101 44 = (20, 47, 1004, 2, [34]) by decide +kernel) (Or.inr rfl) rfl hK rfl (fun _ => Int.natCast_nonneg _) (fun h9 => absurd h9 (by decide +kernel)) rfl ?_
  refine e_lda (v := 53) (show am_cd 101 47 = (2, 48, 0, 2, []) by decide +kernel) rfl ?_
  refine e_lda (v := 48) (show am_cd 101 48 = (2, 50, 6, 2, []) by decide +kernel) rfl ?_
  refine k_put (a := 53) (c := 5) (n := 0) (show am_cd 101 50 = (20, 53, 1005, 2, [38]) by decide +kernel) (Or.inr rfl) rfl hK rfl (fun _ => Int.natCast_nonneg _) (fun h9 => absurd h9 (by decide +kernel)) rfl ?_
  exact e_retv (show am_cd 101 53 = (36, 54, 3, 0, []) by decide +kernel) (by decide +kernel) h

def nF49 (F : Nat → Nat → Int) : Nat → Nat → Int := fU (fU (fU (fU (fU (fA (F) 57 (fun _ => 0)) 56 4 57) 56 0 2) 56 1 8) 56 2 15) 56 3 45
def nK49 (K : Nat → Nat × Nat) : Nat → Nat × Nat := kA (K) 57 (20, 13)
theorem k_init49 {d : Nat} {Q : Option aV → aS → Prop} {F : Nat → Nat → Int} {K : Nat → Nat × Nat} {s s2 : Nat} (hK : K 56 = (6, 0)) (hs : s + 13 = s2) (h : Q none (nF49 F, nK49 K, 59, s2)) : Cl (d + 1) 49 [rA 56, rA 2, rA 8, rA 15, rA 45] (F, K, 58, s) Q := by
  show Ev (d + 1) 49 Q 0 [rA 56, rA 2, rA 8, rA 15, rA 45] [] (F, K, 58, s)
  subst hs
  refine e_lda (v := 56) (show am_cd 49 0 = (2, 1, 0, 2, []) by decide +kernel) rfl ?_
  refine k_obj (show am_cd 49 1 = (31, 4, 0, 0, [3]) by decide +kernel) (Nat.le_of_ble_eq_true rfl) ?_
  refine e_lda (v := 56) (show am_cd 49 4 = (2, 5, 0, 2, []) by decide +kernel) rfl ?_
  refine e_ic (show am_cd 49 5 = (0, 7, 1, 13, []) by decide +kernel) ?_
  refine k_newa (N := 13) (s2 := s + 13) (A := 57) (show am_cd 49 7 = (28, 9, 20, 0, []) by decide +kernel) rfl (by decide +kernel) rfl (by omega) ?_
  refine k_put (a := 56) (c := 4) (n := 0) (show am_cd 49 9 = (20, 12, 604, 2, [9]) by decide +kernel) (Or.inr rfl) rfl hK rfl (fun _ => Int.natCast_nonneg _) (fun h9 => absurd h9 (by decide +kernel)) rfl ?_
  refine e_lda (v := 56) (show am_cd 49 12 = (2, 13, 0, 2, []) by decide +kernel) rfl ?_
  refine e_lda (v := 2) (show am_cd 49 13 = (2, 14, 1, 2, []) by decide +kernel) rfl ?_
  refine k_put (a := 56) (c := 0) (n := 0) (show am_cd 49 14 = (20, 17, 600, 2, [15]) by decide +kernel) (Or.inr rfl) rfl hK rfl (fun _ => Int.natCast_nonneg _) (fun h9 => absurd h9 (by decide +kernel)) rfl ?_
  refine e_lda (v := 56) (show am_cd 49 17 = (2, 18, 0, 2, []) by decide +kernel) rfl ?_
  refine e_lda (v := 8) (show am_cd 49 18 = (2, 19, 2, 2, []) by decide +kernel) rfl ?_
  refine k_put (a := 56) (c := 1) (n := 0) (show am_cd 49 19 = (20, 22, 601, 2, [19]) by decide +kernel) (Or.inr rfl) rfl hK rfl (fun _ => Int.natCast_nonneg _) (fun h9 => absurd h9 (by decide +kernel)) rfl ?_
  refine e_lda (v := 56) (show am_cd 49 22 = (2, 23, 0, 2, []) by decide +kernel) rfl ?_
  refine e_lda (v := 15) (show am_cd 49 23 = (2, 24, 3, 2, []) by decide +kernel) rfl ?_
  refine k_put (a := 56) (c := 2) (n := 0) (show am_cd 49 24 = (20, 27, 602, 2, [23]) by decide +kernel) (Or.inr rfl) rfl hK rfl (fun _ => Int.natCast_nonneg _) (fun h9 => absurd h9 (by decide +kernel)) rfl ?_
  refine e_lda (v := 56) (show am_cd 49 27 = (2, 28, 0, 2, []) by decide +kernel) rfl ?_
  refine e_lda (v := 45) (show am_cd 49 28 = (2, 30, 4, 2, []) by decide +kernel) rfl ?_
  refine k_put (a := 56) (c := 3) (n := 0) (show am_cd 49 30 = (20, 33, 603, 2, [27]) by decide +kernel) (Or.inr rfl) rfl hK rfl (fun _ => Int.natCast_nonneg _) (fun h9 => absurd h9 (by decide +kernel)) rfl ?_
  exact e_retv (show am_cd 49 33 = (36, 34, 3, 0, []) by decide +kernel) (by decide +kernel) h

def nF90 (F : Nat → Nat → Int) : Nat → Nat → Int := fU (fU (fU (fU (fU (fA (fU (fA (F) 59 (fun _ => 0)) 58 4 59) 60 (fun _ => 0)) 58 5 60) 58 0 2) 58 1 8) 58 2 37) 58 3 45
def nK90 (K : Nat → Nat × Nat) : Nat → Nat × Nat := kA (kA (K) 59 (20, 1400)) 60 (20, 7)
theorem k_init90 {d : Nat} {Q : Option aV → aS → Prop} {F : Nat → Nat → Int} {K : Nat → Nat × Nat} {s s2 : Nat} (hK : K 58 = (9, 0)) (hs : s + 1407 = s2) (h : Q none (nF90 F, nK90 K, 62, s2)) : Cl (d + 1) 90 [rA 58, rA 2, rA 8, rA 37, rA 45] (F, K, 60, s) Q := by
  show Ev (d + 1) 90 Q 0 [rA 58, rA 2, rA 8, rA 37, rA 45] [] (F, K, 60, s)
  subst hs
  refine e_lda (v := 58) (show am_cd 90 0 = (2, 1, 0, 2, []) by decide +kernel) rfl ?_
  refine k_obj (show am_cd 90 1 = (31, 4, 0, 0, [3]) by decide +kernel) (Nat.le_of_ble_eq_true rfl) ?_
  refine e_lda (v := 58) (show am_cd 90 4 = (2, 5, 0, 2, []) by decide +kernel) rfl ?_
  refine e_ic (show am_cd 90 5 = (0, 8, 2, 1400, []) by decide +kernel) ?_
  refine k_newa (N := 1400) (s2 := s + 1400) (A := 59) (show am_cd 90 8 = (28, 10, 20, 0, []) by decide +kernel) rfl (by decide +kernel) rfl (by omega) ?_
  refine k_put (a := 58) (c := 4) (n := 0) (show am_cd 90 10 = (20, 13, 904, 2, [11]) by decide +kernel) (Or.inr rfl) rfl hK rfl (fun _ => Int.natCast_nonneg _) (fun h9 => absurd h9 (by decide +kernel)) rfl ?_
  refine e_lda (v := 58) (show am_cd 90 13 = (2, 14, 0, 2, []) by decide +kernel) rfl ?_
  refine e_ic (show am_cd 90 14 = (0, 16, 1, 7, []) by decide +kernel) ?_
  refine k_newa (N := 7) (s2 := s + 1407) (A := 60) (show am_cd 90 16 = (28, 18, 20, 0, []) by decide +kernel) rfl (by decide +kernel) rfl (by omega) ?_
  refine k_put (a := 58) (c := 5) (n := 0) (show am_cd 90 18 = (20, 21, 905, 2, [15]) by decide +kernel) (Or.inr rfl) rfl hK rfl (fun _ => Int.natCast_nonneg _) (fun h9 => absurd h9 (by decide +kernel)) rfl ?_
  refine e_lda (v := 58) (show am_cd 90 21 = (2, 22, 0, 2, []) by decide +kernel) rfl ?_
  refine e_lda (v := 2) (show am_cd 90 22 = (2, 23, 1, 2, []) by decide +kernel) rfl ?_
  refine k_put (a := 58) (c := 0) (n := 0) (show am_cd 90 23 = (20, 26, 900, 2, [18]) by decide +kernel) (Or.inr rfl) rfl hK rfl (fun _ => Int.natCast_nonneg _) (fun h9 => absurd h9 (by decide +kernel)) rfl ?_
  refine e_lda (v := 58) (show am_cd 90 26 = (2, 27, 0, 2, []) by decide +kernel) rfl ?_
  refine e_lda (v := 8) (show am_cd 90 27 = (2, 28, 2, 2, []) by decide +kernel) rfl ?_
  refine k_put (a := 58) (c := 1) (n := 0) (show am_cd 90 28 = (20, 31, 901, 2, [22]) by decide +kernel) (Or.inr rfl) rfl hK rfl (fun _ => Int.natCast_nonneg _) (fun h9 => absurd h9 (by decide +kernel)) rfl ?_
  refine e_lda (v := 58) (show am_cd 90 31 = (2, 32, 0, 2, []) by decide +kernel) rfl ?_
  refine e_lda (v := 37) (show am_cd 90 32 = (2, 33, 3, 2, []) by decide +kernel) rfl ?_
  refine k_put (a := 58) (c := 2) (n := 0) (show am_cd 90 33 = (20, 36, 902, 2, [26]) by decide +kernel) (Or.inr rfl) rfl hK rfl (fun _ => Int.natCast_nonneg _) (fun h9 => absurd h9 (by decide +kernel)) rfl ?_
  refine e_lda (v := 58) (show am_cd 90 36 = (2, 37, 0, 2, []) by decide +kernel) rfl ?_
  refine e_lda (v := 45) (show am_cd 90 37 = (2, 39, 4, 2, []) by decide +kernel) rfl ?_
  refine k_put (a := 58) (c := 3) (n := 0) (show am_cd 90 39 = (20, 42, 903, 2, [30]) by decide +kernel) (Or.inr rfl) rfl hK rfl (fun _ => Int.natCast_nonneg _) (fun h9 => absurd h9 (by decide +kernel)) rfl ?_
  exact e_retv (show am_cd 90 42 = (36, 43, 3, 0, []) by decide +kernel) (by decide +kernel) h

def nF9 (F : Nat → Nat → Int) : Nat → Nat → Int := fU (fU (fU (fA (fU (fA (F) 62 (fun _ => 0)) 61 2 62) 63 (fun _ => 0)) 61 3 63) 61 0 8) 61 1 15
def nK9 (K : Nat → Nat × Nat) : Nat → Nat × Nat := kA (kA (K) 62 (20, 4)) 63 (20, 4)
theorem k_init9 {d : Nat} {Q : Option aV → aS → Prop} {F : Nat → Nat → Int} {K : Nat → Nat × Nat} {s s2 : Nat} (hK : K 61 = (1, 0)) (hs : s + 8 = s2) (h : Q none (nF9 F, nK9 K, 65, s2)) : Cl (d + 1) 9 [rA 61, rA 8, rA 15] (F, K, 63, s) Q := by
  show Ev (d + 1) 9 Q 0 [rA 61, rA 8, rA 15] [] (F, K, 63, s)
  subst hs
  refine e_lda (v := 61) (show am_cd 9 0 = (2, 1, 0, 2, []) by decide +kernel) rfl ?_
  refine k_obj (show am_cd 9 1 = (31, 4, 0, 0, [3]) by decide +kernel) (Nat.le_of_ble_eq_true rfl) ?_
  refine e_lda (v := 61) (show am_cd 9 4 = (2, 5, 0, 2, []) by decide +kernel) rfl ?_
  refine e_ic (show am_cd 9 5 = (0, 6, 0, 4, []) by decide +kernel) ?_
  refine k_newa (N := 4) (s2 := s + 4) (A := 62) (show am_cd 9 6 = (28, 8, 20, 0, []) by decide +kernel) rfl (by decide +kernel) rfl (by omega) ?_
  refine k_put (a := 61) (c := 2) (n := 0) (show am_cd 9 8 = (20, 11, 102, 2, [9]) by decide +kernel) (Or.inr rfl) rfl hK rfl (fun _ => Int.natCast_nonneg _) (fun h9 => absurd h9 (by decide +kernel)) rfl ?_
  refine e_lda (v := 61) (show am_cd 9 11 = (2, 12, 0, 2, []) by decide +kernel) rfl ?_
  refine e_ic (show am_cd 9 12 = (0, 13, 0, 4, []) by decide +kernel) ?_
  refine k_newa (N := 4) (s2 := s + 8) (A := 63) (show am_cd 9 13 = (28, 15, 20, 0, []) by decide +kernel) rfl (by decide +kernel) rfl (by omega) ?_
  refine k_put (a := 61) (c := 3) (n := 0) (show am_cd 9 15 = (20, 18, 103, 2, [15]) by decide +kernel) (Or.inr rfl) rfl hK rfl (fun _ => Int.natCast_nonneg _) (fun h9 => absurd h9 (by decide +kernel)) rfl ?_
  refine e_lda (v := 61) (show am_cd 9 18 = (2, 19, 0, 2, []) by decide +kernel) rfl ?_
  refine e_lda (v := 8) (show am_cd 9 19 = (2, 20, 1, 2, []) by decide +kernel) rfl ?_
  refine k_put (a := 61) (c := 0) (n := 0) (show am_cd 9 20 = (20, 23, 100, 2, [18]) by decide +kernel) (Or.inr rfl) rfl hK rfl (fun _ => Int.natCast_nonneg _) (fun h9 => absurd h9 (by decide +kernel)) rfl ?_
  refine e_lda (v := 61) (show am_cd 9 23 = (2, 24, 0, 2, []) by decide +kernel) rfl ?_
  refine e_lda (v := 15) (show am_cd 9 24 = (2, 25, 2, 2, []) by decide +kernel) rfl ?_
  refine k_put (a := 61) (c := 1) (n := 0) (show am_cd 9 25 = (20, 28, 101, 2, [22]) by decide +kernel) (Or.inr rfl) rfl hK rfl (fun _ => Int.natCast_nonneg _) (fun h9 => absurd h9 (by decide +kernel)) rfl ?_
  exact e_retv (show am_cd 9 28 = (36, 29, 3, 0, []) by decide +kernel) (by decide +kernel) h

def nF121 (F : Nat → Nat → Int) : Nat → Nat → Int := fU (fA (fU (fA (fU (fA (fU (nF9 (fA (fU (nF90 (fA (fU (nF49 (fA (fU (nF101 (fA (fU (nF15 (fA (fU (nF42 (fA (fU (nF32 (fA (fU (nF20 (fA (fU (nF61 (fA (fU (nF0 (fA (fU (nF77 (fA (F) 2 (am_df 8))) 1 0 2) 8 (am_df 0))) 1 1 8) 15 (am_df 7))) 1 2 15) 28 (am_df 3))) 1 3 28) 37 (am_df 4))) 1 4 37) 45 (am_df 5))) 1 5 45) 48 (am_df 2))) 1 6 48) 53 (am_df 10))) 1 7 53) 56 (am_df 6))) 1 8 56) 58 (am_df 9))) 1 9 58) 61 (am_df 1))) 1 10 61) 64 (fun _ => 0)) 1 11 64) 65 (fun _ => 0)) 1 12 65) 66 (fun _ => 0)) 1 13 66
def nK121 (K : Nat → Nat × Nat) : Nat → Nat × Nat := kA (kA (kA (nK9 (kA (nK90 (kA (nK49 (kA (nK101 (kA (nK15 (kA (nK42 (kA (nK32 (kA (nK20 (kA (nK61 (kA (nK0 (kA (nK77 (kA (K) 2 (8, 0))) 8 (0, 0))) 15 (7, 0))) 28 (3, 0))) 37 (4, 0))) 45 (5, 0))) 48 (2, 0))) 53 (10, 0))) 56 (6, 0))) 58 (9, 0))) 61 (1, 0))) 64 (20, 16)) 65 (20, 16)) 66 (21, 24)
theorem k_init121 {d : Nat} {Q : Option aV → aS → Prop} {F : Nat → Nat → Int} {K : Nat → Nat × Nat} {s s2 : Nat} (hK : K 1 = (11, 0)) (hs : s + 4160 = s2) (h : Q none (nF121 F, nK121 K, 68, s2)) : Cl (d + 2) 121 [rA 1] (F, K, 2, s) Q := by
  show Ev (d + 2) 121 Q 0 [rA 1] [] (F, K, 2, s)
  subst hs
  refine e_lda (v := 1) (show am_cd 121 0 = (2, 1, 0, 2, []) by decide +kernel) rfl ?_
  refine k_obj (show am_cd 121 1 = (31, 4, 0, 0, [3]) by decide +kernel) (Nat.le_of_ble_eq_true rfl) ?_
  refine e_lda (v := 1) (show am_cd 121 4 = (2, 5, 0, 2, []) by decide +kernel) rfl ?_
  refine k_new (n := 12) (s2 := s + 12) (A := 2) (show am_cd 121 5 = (29, 8, 8, 0, [9]) by decide +kernel) rfl (by decide +kernel) (by omega) ?_
  refine e_dup (show am_cd 121 8 = (13, 9, 0, 0, []) by decide +kernel) (by decide) ?_
  refine e_cS (z := 0) (as := [rA 2]) (rest := [rA 2, rA 1]) (show am_cd 121 9 = (40, 12, 77, 5, [11]) by decide +kernel) (by decide) rfl rfl (Nat.le_of_ble_eq_true rfl) rfl ?_
  refine Cl.up (k_init77 (d := d) (s2 := s + 136) rfl (by omega) ⟨fun _ h9 => (by cases h9), ?_⟩) (by omega)
  refine k_put (a := 1) (c := 0) (n := 0) (show am_cd 121 12 = (20, 15, 1100, 2, [12]) by decide +kernel) (Or.inr rfl) rfl hK rfl (fun _ => Int.natCast_nonneg _) (fun h9 => absurd h9 (by decide +kernel)) rfl ?_
  refine e_lda (v := 1) (show am_cd 121 15 = (2, 16, 0, 2, []) by decide +kernel) rfl ?_
  refine k_new (n := 9) (s2 := s + 145) (A := 8) (show am_cd 121 16 = (29, 19, 0, 0, [16]) by decide +kernel) rfl (by decide +kernel) (by omega) ?_
  refine e_dup (show am_cd 121 19 = (13, 20, 0, 0, []) by decide +kernel) (by decide) ?_
  refine e_cS (z := 0) (as := [rA 8]) (rest := [rA 8, rA 1]) (show am_cd 121 20 = (40, 23, 0, 5, [18]) by decide +kernel) (by decide) rfl rfl (Nat.le_of_ble_eq_true rfl) rfl ?_
  refine Cl.up (k_init0 (d := d) (s2 := s + 241) rfl (by omega) ⟨fun _ h9 => (by cases h9), ?_⟩) (by omega)
  refine k_put (a := 1) (c := 1) (n := 0) (show am_cd 121 23 = (20, 26, 1101, 2, [19]) by decide +kernel) (Or.inr rfl) rfl hK rfl (fun _ => Int.natCast_nonneg _) (fun h9 => absurd h9 (by decide +kernel)) rfl ?_
  refine e_lda (v := 1) (show am_cd 121 26 = (2, 27, 0, 2, []) by decide +kernel) rfl ?_
  refine k_new (n := 18) (s2 := s + 259) (A := 15) (show am_cd 121 27 = (29, 30, 7, 0, [23]) by decide +kernel) rfl (by decide +kernel) (by omega) ?_
  refine e_dup (show am_cd 121 30 = (13, 31, 0, 0, []) by decide +kernel) (by decide) ?_
  refine e_cS (z := 0) (as := [rA 15]) (rest := [rA 15, rA 1]) (show am_cd 121 31 = (40, 34, 61, 5, [25]) by decide +kernel) (by decide) rfl rfl (Nat.le_of_ble_eq_true rfl) rfl ?_
  refine Cl.up (k_init61 (d := d) (s2 := s + 407) rfl (by omega) ⟨fun _ h9 => (by cases h9), ?_⟩) (by omega)
  refine k_put (a := 1) (c := 2) (n := 0) (show am_cd 121 34 = (20, 37, 1102, 2, [26]) by decide +kernel) (Or.inr rfl) rfl hK rfl (fun _ => Int.natCast_nonneg _) (fun h9 => absurd h9 (by decide +kernel)) rfl ?_
  refine e_lda (v := 1) (show am_cd 121 37 = (2, 38, 0, 2, []) by decide +kernel) rfl ?_
  refine k_new (n := 12) (s2 := s + 419) (A := 28) (show am_cd 121 38 = (29, 41, 3, 0, [30]) by decide +kernel) rfl (by decide +kernel) (by omega) ?_
  refine e_dup (show am_cd 121 41 = (13, 42, 0, 0, []) by decide +kernel) (by decide) ?_
  refine e_cS (z := 0) (as := [rA 28]) (rest := [rA 28, rA 1]) (show am_cd 121 42 = (40, 45, 20, 5, [32]) by decide +kernel) (by decide) rfl rfl (Nat.le_of_ble_eq_true rfl) rfl ?_
  refine Cl.up (k_init20 (d := d) (s2 := s + 943) rfl (by omega) ⟨fun _ h9 => (by cases h9), ?_⟩) (by omega)
  refine k_put (a := 1) (c := 3) (n := 0) (show am_cd 121 45 = (20, 48, 1103, 2, [33]) by decide +kernel) (Or.inr rfl) rfl hK rfl (fun _ => Int.natCast_nonneg _) (fun h9 => absurd h9 (by decide +kernel)) rfl ?_
  refine e_lda (v := 1) (show am_cd 121 48 = (2, 49, 0, 2, []) by decide +kernel) rfl ?_
  refine k_new (n := 9) (s2 := s + 952) (A := 37) (show am_cd 121 49 = (29, 52, 4, 0, [37]) by decide +kernel) rfl (by decide +kernel) (by omega) ?_
  refine e_dup (show am_cd 121 52 = (13, 53, 0, 0, []) by decide +kernel) (by decide) ?_
  refine e_cS (z := 0) (as := [rA 37]) (rest := [rA 37, rA 1]) (show am_cd 121 53 = (40, 56, 32, 5, [39]) by decide +kernel) (by decide) rfl rfl (Nat.le_of_ble_eq_true rfl) rfl ?_
  refine Cl.up (k_init32 (d := d) (s2 := s + 1688) rfl (by omega) ⟨fun _ h9 => (by cases h9), ?_⟩) (by omega)
  refine k_put (a := 1) (c := 4) (n := 0) (show am_cd 121 56 = (20, 59, 1104, 2, [40]) by decide +kernel) (Or.inr rfl) rfl hK rfl (fun _ => Int.natCast_nonneg _) (fun h9 => absurd h9 (by decide +kernel)) rfl ?_
  refine e_lda (v := 1) (show am_cd 121 59 = (2, 60, 0, 2, []) by decide +kernel) rfl ?_
  refine k_new (n := 4) (s2 := s + 1692) (A := 45) (show am_cd 121 60 = (29, 63, 5, 0, [44]) by decide +kernel) rfl (by decide +kernel) (by omega) ?_
  refine e_dup (show am_cd 121 63 = (13, 64, 0, 0, []) by decide +kernel) (by decide) ?_
  refine e_cS (z := 0) (as := [rA 45]) (rest := [rA 45, rA 1]) (show am_cd 121 64 = (40, 67, 42, 5, [46]) by decide +kernel) (by decide) rfl rfl (Nat.le_of_ble_eq_true rfl) rfl ?_
  refine Cl.up (k_init42 (d := d) (s2 := s + 2204) rfl (by omega) ⟨fun _ h9 => (by cases h9), ?_⟩) (by omega)
  refine k_put (a := 1) (c := 5) (n := 0) (show am_cd 121 67 = (20, 70, 1105, 2, [47]) by decide +kernel) (Or.inr rfl) rfl hK rfl (fun _ => Int.natCast_nonneg _) (fun h9 => absurd h9 (by decide +kernel)) rfl ?_
  refine e_lda (v := 1) (show am_cd 121 70 = (2, 71, 0, 2, []) by decide +kernel) rfl ?_
  refine k_new (n := 5) (s2 := s + 2209) (A := 48) (show am_cd 121 71 = (29, 74, 2, 0, [51]) by decide +kernel) rfl (by decide +kernel) (by omega) ?_
  refine e_dup (show am_cd 121 74 = (13, 75, 0, 0, []) by decide +kernel) (by decide) ?_
  refine e_cS (z := 0) (as := [rA 48]) (rest := [rA 48, rA 1]) (show am_cd 121 75 = (40, 78, 15, 5, [53]) by decide +kernel) (by decide) rfl rfl (Nat.le_of_ble_eq_true rfl) rfl ?_
  refine Cl.up (k_init15 (d := d) (s2 := s + 2629) rfl (by omega) ⟨fun _ h9 => (by cases h9), ?_⟩) (by omega)
  refine k_put (a := 1) (c := 6) (n := 0) (show am_cd 121 78 = (20, 81, 1106, 2, [54]) by decide +kernel) (Or.inr rfl) rfl hK rfl (fun _ => Int.natCast_nonneg _) (fun h9 => absurd h9 (by decide +kernel)) rfl ?_
  refine e_lda (v := 1) (show am_cd 121 81 = (2, 82, 0, 2, []) by decide +kernel) rfl ?_
  refine k_new (n := 11) (s2 := s + 2640) (A := 53) (show am_cd 121 82 = (29, 85, 10, 0, [58]) by decide +kernel) rfl (by decide +kernel) (by omega) ?_
  refine e_dup (show am_cd 121 85 = (13, 86, 0, 0, []) by decide +kernel) (by decide) ?_
  refine e_lda (v := 1) (show am_cd 121 86 = (2, 87, 0, 2, []) by decide +kernel) rfl ?_
  refine k_get (a := 1) (n := 0) (tg := 2) (v := ((2 : Nat) : Int)) (show am_cd 121 87 = (18, 90, 1100, 2, [12]) by decide +kernel) rfl hK rfl rfl ?_
  refine e_lda (v := 1) (show am_cd 121 90 = (2, 91, 0, 2, []) by decide +kernel) rfl ?_
  refine k_get (a := 1) (n := 0) (tg := 2) (v := ((8 : Nat) : Int)) (show am_cd 121 91 = (18, 94, 1101, 2, [19]) by decide +kernel) rfl hK rfl rfl ?_
  refine e_lda (v := 1) (show am_cd 121 94 = (2, 95, 0, 2, []) by decide +kernel) rfl ?_
  refine k_get (a := 1) (n := 0) (tg := 2) (v := ((28 : Nat) : Int)) (show am_cd 121 95 = (18, 98, 1103, 2, [33]) by decide +kernel) rfl hK rfl rfl ?_
  refine e_lda (v := 1) (show am_cd 121 98 = (2, 99, 0, 2, []) by decide +kernel) rfl ?_
  refine k_get (a := 1) (n := 0) (tg := 2) (v := ((37 : Nat) : Int)) (show am_cd 121 99 = (18, 102, 1104, 2, [40]) by decide +kernel) rfl hK rfl rfl ?_
  refine e_lda (v := 1) (show am_cd 121 102 = (2, 103, 0, 2, []) by decide +kernel) rfl ?_
  refine k_get (a := 1) (n := 0) (tg := 2) (v := ((45 : Nat) : Int)) (show am_cd 121 103 = (18, 106, 1105, 2, [47]) by decide +kernel) rfl hK rfl rfl ?_
  refine e_lda (v := 1) (show am_cd 121 106 = (2, 107, 0, 2, []) by decide +kernel) rfl ?_
  refine k_get (a := 1) (n := 0) (tg := 2) (v := ((48 : Nat) : Int)) (show am_cd 121 107 = (18, 110, 1106, 2, [54]) by decide +kernel) rfl hK rfl rfl ?_
  refine e_cS (z := 0) (as := [rA 53, rA 2, rA 8, rA 28, rA 37, rA 45, rA 48]) (rest := [rA 53, rA 1]) (show am_cd 121 110 = (40, 113, 101, 2, [60]) by decide +kernel) (by decide) rfl rfl (Nat.le_of_ble_eq_true rfl) rfl ?_
  refine Cl.up (k_init101 (d := d) (s2 := s + 2659) rfl (by omega) ⟨fun _ h9 => (by cases h9), ?_⟩) (by omega)
  refine k_put (a := 1) (c := 7) (n := 0) (show am_cd 121 113 = (20, 116, 1107, 2, [63]) by decide +kernel) (Or.inr rfl) rfl hK rfl (fun _ => Int.natCast_nonneg _) (fun h9 => absurd h9 (by decide +kernel)) rfl ?_
  refine e_lda (v := 1) (show am_cd 121 116 = (2, 117, 0, 2, []) by decide +kernel) rfl ?_
  refine k_new (n := 5) (s2 := s + 2664) (A := 56) (show am_cd 121 117 = (29, 120, 6, 0, [67]) by decide +kernel) rfl (by decide +kernel) (by omega) ?_
  refine e_dup (show am_cd 121 120 = (13, 121, 0, 0, []) by decide +kernel) (by decide) ?_
  refine e_lda (v := 1) (show am_cd 121 121 = (2, 122, 0, 2, []) by decide +kernel) rfl ?_
  refine k_get (a := 1) (n := 0) (tg := 2) (v := ((2 : Nat) : Int)) (show am_cd 121 122 = (18, 125, 1100, 2, [12]) by decide +kernel) rfl hK rfl rfl ?_
  refine e_lda (v := 1) (show am_cd 121 125 = (2, 126, 0, 2, []) by decide +kernel) rfl ?_
  refine k_get (a := 1) (n := 0) (tg := 2) (v := ((8 : Nat) : Int)) (show am_cd 121 126 = (18, 129, 1101, 2, [19]) by decide +kernel) rfl hK rfl rfl ?_
  refine e_lda (v := 1) (show am_cd 121 129 = (2, 130, 0, 2, []) by decide +kernel) rfl ?_
  refine k_get (a := 1) (n := 0) (tg := 2) (v := ((15 : Nat) : Int)) (show am_cd 121 130 = (18, 133, 1102, 2, [26]) by decide +kernel) rfl hK rfl rfl ?_
  refine e_lda (v := 1) (show am_cd 121 133 = (2, 134, 0, 2, []) by decide +kernel) rfl ?_
  refine k_get (a := 1) (n := 0) (tg := 2) (v := ((45 : Nat) : Int)) (show am_cd 121 134 = (18, 137, 1105, 2, [47]) by decide +kernel) rfl hK rfl rfl ?_
  refine e_cS (z := 0) (as := [rA 56, rA 2, rA 8, rA 15, rA 45]) (rest := [rA 56, rA 1]) (show am_cd 121 137 = (40, 140, 49, 2, [69]) by decide +kernel) (by decide) rfl rfl (Nat.le_of_ble_eq_true rfl) rfl ?_
  refine Cl.up (k_init49 (d := d) (s2 := s + 2677) rfl (by omega) ⟨fun _ h9 => (by cases h9), ?_⟩) (by omega)
  refine k_put (a := 1) (c := 8) (n := 0) (show am_cd 121 140 = (20, 143, 1108, 2, [72]) by decide +kernel) (Or.inr rfl) rfl hK rfl (fun _ => Int.natCast_nonneg _) (fun h9 => absurd h9 (by decide +kernel)) rfl ?_
  refine e_lda (v := 1) (show am_cd 121 143 = (2, 144, 0, 2, []) by decide +kernel) rfl ?_
  refine k_new (n := 7) (s2 := s + 2684) (A := 58) (show am_cd 121 144 = (29, 147, 9, 0, [76]) by decide +kernel) rfl (by decide +kernel) (by omega) ?_
  refine e_dup (show am_cd 121 147 = (13, 148, 0, 0, []) by decide +kernel) (by decide) ?_
  refine e_lda (v := 1) (show am_cd 121 148 = (2, 149, 0, 2, []) by decide +kernel) rfl ?_
  refine k_get (a := 1) (n := 0) (tg := 2) (v := ((2 : Nat) : Int)) (show am_cd 121 149 = (18, 152, 1100, 2, [12]) by decide +kernel) rfl hK rfl rfl ?_
  refine e_lda (v := 1) (show am_cd 121 152 = (2, 153, 0, 2, []) by decide +kernel) rfl ?_
  refine k_get (a := 1) (n := 0) (tg := 2) (v := ((8 : Nat) : Int)) (show am_cd 121 153 = (18, 156, 1101, 2, [19]) by decide +kernel) rfl hK rfl rfl ?_
  refine e_lda (v := 1) (show am_cd 121 156 = (2, 157, 0, 2, []) by decide +kernel) rfl ?_
  refine k_get (a := 1) (n := 0) (tg := 2) (v := ((37 : Nat) : Int)) (show am_cd 121 157 = (18, 160, 1104, 2, [40]) by decide +kernel) rfl hK rfl rfl ?_
  refine e_lda (v := 1) (show am_cd 121 160 = (2, 161, 0, 2, []) by decide +kernel) rfl ?_
  refine k_get (a := 1) (n := 0) (tg := 2) (v := ((45 : Nat) : Int)) (show am_cd 121 161 = (18, 164, 1105, 2, [47]) by decide +kernel) rfl hK rfl rfl ?_
  refine e_cS (z := 0) (as := [rA 58, rA 2, rA 8, rA 37, rA 45]) (rest := [rA 58, rA 1]) (show am_cd 121 164 = (40, 167, 90, 2, [78]) by decide +kernel) (by decide) rfl rfl (Nat.le_of_ble_eq_true rfl) rfl ?_
  refine Cl.up (k_init90 (d := d) (s2 := s + 4091) rfl (by omega) ⟨fun _ h9 => (by cases h9), ?_⟩) (by omega)
  refine k_put (a := 1) (c := 9) (n := 0) (show am_cd 121 167 = (20, 170, 1109, 2, [81]) by decide +kernel) (Or.inr rfl) rfl hK rfl (fun _ => Int.natCast_nonneg _) (fun h9 => absurd h9 (by decide +kernel)) rfl ?_
  refine e_lda (v := 1) (show am_cd 121 170 = (2, 171, 0, 2, []) by decide +kernel) rfl ?_
  refine k_new (n := 5) (s2 := s + 4096) (A := 61) (show am_cd 121 171 = (29, 174, 1, 0, [85]) by decide +kernel) rfl (by decide +kernel) (by omega) ?_
  refine e_dup (show am_cd 121 174 = (13, 175, 0, 0, []) by decide +kernel) (by decide) ?_
  refine e_lda (v := 1) (show am_cd 121 175 = (2, 176, 0, 2, []) by decide +kernel) rfl ?_
  refine k_get (a := 1) (n := 0) (tg := 2) (v := ((8 : Nat) : Int)) (show am_cd 121 176 = (18, 179, 1101, 2, [19]) by decide +kernel) rfl hK rfl rfl ?_
  refine e_lda (v := 1) (show am_cd 121 179 = (2, 180, 0, 2, []) by decide +kernel) rfl ?_
  refine k_get (a := 1) (n := 0) (tg := 2) (v := ((15 : Nat) : Int)) (show am_cd 121 180 = (18, 183, 1102, 2, [26]) by decide +kernel) rfl hK rfl rfl ?_
  refine e_cS (z := 0) (as := [rA 61, rA 8, rA 15]) (rest := [rA 61, rA 1]) (show am_cd 121 183 = (40, 186, 9, 2, [87]) by decide +kernel) (by decide) rfl rfl (Nat.le_of_ble_eq_true rfl) rfl ?_
  refine Cl.up (k_init9 (d := d) (s2 := s + 4104) rfl (by omega) ⟨fun _ h9 => (by cases h9), ?_⟩) (by omega)
  refine k_put (a := 1) (c := 10) (n := 0) (show am_cd 121 186 = (20, 189, 1110, 2, [90]) by decide +kernel) (Or.inr rfl) rfl hK rfl (fun _ => Int.natCast_nonneg _) (fun h9 => absurd h9 (by decide +kernel)) rfl ?_
  refine e_lda (v := 1) (show am_cd 121 189 = (2, 190, 0, 2, []) by decide +kernel) rfl ?_
  refine e_ic (show am_cd 121 190 = (0, 192, 1, 16, []) by decide +kernel) ?_
  refine k_newa (N := 16) (s2 := s + 4120) (A := 64) (show am_cd 121 192 = (28, 194, 20, 0, []) by decide +kernel) rfl (by decide +kernel) rfl (by omega) ?_
  refine k_put (a := 1) (c := 11) (n := 0) (show am_cd 121 194 = (20, 197, 1111, 2, [94]) by decide +kernel) (Or.inr rfl) rfl hK rfl (fun _ => Int.natCast_nonneg _) (fun h9 => absurd h9 (by decide +kernel)) rfl ?_
  refine e_lda (v := 1) (show am_cd 121 197 = (2, 198, 0, 2, []) by decide +kernel) rfl ?_
  refine e_ic (show am_cd 121 198 = (0, 200, 1, 16, []) by decide +kernel) ?_
  refine k_newa (N := 16) (s2 := s + 4136) (A := 65) (show am_cd 121 200 = (28, 202, 20, 0, []) by decide +kernel) rfl (by decide +kernel) rfl (by omega) ?_
  refine k_put (a := 1) (c := 12) (n := 0) (show am_cd 121 202 = (20, 205, 1112, 2, [98]) by decide +kernel) (Or.inr rfl) rfl hK rfl (fun _ => Int.natCast_nonneg _) (fun h9 => absurd h9 (by decide +kernel)) rfl ?_
  refine e_lda (v := 1) (show am_cd 121 205 = (2, 206, 0, 2, []) by decide +kernel) rfl ?_
  refine e_ic (show am_cd 121 206 = (0, 208, 1, 24, []) by decide +kernel) ?_
  refine k_newa (N := 24) (s2 := s + 4160) (A := 66) (show am_cd 121 208 = (28, 210, 21, 0, []) by decide +kernel) rfl (by decide +kernel) rfl (by omega) ?_
  refine k_put (a := 1) (c := 13) (n := 0) (show am_cd 121 210 = (20, 213, 1113, 2, [101]) by decide +kernel) (Or.inr rfl) rfl hK rfl (fun _ => Int.natCast_nonneg _) (fun h9 => absurd h9 (by decide +kernel)) rfl ?_
  exact e_retv (show am_cd 121 213 = (36, 214, 3, 0, []) by decide +kernel) (by decide +kernel) h

def nF163 (F : Nat → Nat → Int) : Nat → Nat → Int := fU (fA (fU (fA (fU (fA (fU (fA (fU (fA (fU (fA (fU (fA (fU (fA (fU (fU (fA (fU (fA (fU (fA (fU (fA (fU (fA (fU (fA (fU (fA (fU (fA (fU (fA (fU (fA (fU (fA (fU (fA (fU (fA (fU (fA (fU (fA (fU (fA (fU (fA (fU (fA (fU (fA (fU (fA (fU (fA (fU (fA (fU (fA (fU (fA (F) 68 (fun _ => 0)) 67 1 68) 69 (fun _ => 0)) 67 2 69) 70 (fun _ => 0)) 67 4 70) 71 (fun _ => 0)) 67 5 71) 72 (fun _ => 0)) 67 7 72) 73 (fun _ => 0)) 67 8 73) 74 (fun _ => 0)) 67 9 74) 75 (fun _ => 0)) 67 10 75) 76 (fun _ => 0)) 67 11 76) 77 (fun _ => 0)) 67 13 77) 78 (fun _ => 0)) 67 14 78) 79 (fun _ => 0)) 67 15 79) 80 (fun _ => 0)) 67 16 80) 81 (fun _ => 0)) 67 18 81) 82 (fun _ => 0)) 67 19 82) 83 (fun _ => 0)) 67 20 83) 84 (fun _ => 0)) 67 21 84) 85 (fun _ => 0)) 67 22 85) 86 (fun _ => 0)) 67 24 86) 87 (fun _ => 0)) 67 30 87) 88 (fun _ => 0)) 67 31 88) 89 (fun _ => 0)) 67 32 89) 90 (fun _ => 0)) 67 33 90) 91 (fun _ => 0)) 67 34 91) 67 35 (-1)) 92 (fun _ => 0)) 67 36 92) 93 (fun _ => 0)) 67 37 93) 94 (fun _ => 0)) 67 39 94) 95 (fun _ => 0)) 67 41 95) 96 (fun _ => 0)) 67 43 96) 97 (fun _ => 0)) 67 44 97) 98 (fun _ => 0)) 67 50 98) 99 (fun _ => 0)) 67 52 99
def nK163 (K : Nat → Nat × Nat) : Nat → Nat × Nat := kA (kA (kA (kA (kA (kA (kA (kA (kA (kA (kA (kA (kA (kA (kA (kA (kA (kA (kA (kA (kA (kA (kA (kA (kA (kA (kA (kA (kA (kA (kA (kA (K) 68 (20, 16)) 69 (20, 16)) 70 (20, 4)) 71 (20, 4)) 72 (20, 8)) 73 (20, 8)) 74 (20, 8)) 75 (20, 8)) 76 (20, 24)) 77 (20, 16)) 78 (20, 16)) 79 (20, 16)) 80 (20, 80)) 81 (20, 20)) 82 (20, 320)) 83 (20, 20)) 84 (20, 120)) 85 (22, 80)) 86 (21, 32)) 87 (20, 16)) 88 (20, 16)) 89 (20, 3)) 90 (20, 6)) 91 (20, 6)) 92 (20, 524288)) 93 (21, 524288)) 94 (20, 16)) 95 (20, 6)) 96 (21, 4913)) 97 (21, 4913)) 98 (20, 201)) 99 (21, 28)
theorem k_init163 {d : Nat} {Q : Option aV → aS → Prop} {F : Nat → Nat → Int} {K : Nat → Nat × Nat} {s s2 : Nat} (hK : K 67 = (12, 0)) (hs : s + 1059516 = s2) (h : Q none (nF163 F, nK163 K, 101, s2)) : Cl (d + 1) 163 [rA 67] (F, K, 69, s) Q := by
  show Ev (d + 1) 163 Q 0 [rA 67] [] (F, K, 69, s)
  subst hs
  refine e_lda (v := 67) (show am_cd 163 0 = (2, 1, 0, 2, []) by decide +kernel) rfl ?_
  refine k_obj (show am_cd 163 1 = (31, 4, 0, 0, [3]) by decide +kernel) (Nat.le_of_ble_eq_true rfl) ?_
  refine e_lda (v := 67) (show am_cd 163 4 = (2, 5, 0, 2, []) by decide +kernel) rfl ?_
  refine e_ic (show am_cd 163 5 = (0, 7, 1, 16, []) by decide +kernel) ?_
  refine k_newa (N := 16) (s2 := s + 16) (A := 68) (show am_cd 163 7 = (28, 9, 20, 0, []) by decide +kernel) rfl (by decide +kernel) rfl (by omega) ?_
  refine k_put (a := 67) (c := 1) (n := 0) (show am_cd 163 9 = (20, 12, 1201, 2, [9]) by decide +kernel) (Or.inr rfl) rfl hK rfl (fun _ => Int.natCast_nonneg _) (fun h9 => absurd h9 (by decide +kernel)) rfl ?_
  refine e_lda (v := 67) (show am_cd 163 12 = (2, 13, 0, 2, []) by decide +kernel) rfl ?_
  refine e_ic (show am_cd 163 13 = (0, 15, 1, 16, []) by decide +kernel) ?_
  refine k_newa (N := 16) (s2 := s + 32) (A := 69) (show am_cd 163 15 = (28, 17, 20, 0, []) by decide +kernel) rfl (by decide +kernel) rfl (by omega) ?_
  refine k_put (a := 67) (c := 2) (n := 0) (show am_cd 163 17 = (20, 20, 1202, 2, [13]) by decide +kernel) (Or.inr rfl) rfl hK rfl (fun _ => Int.natCast_nonneg _) (fun h9 => absurd h9 (by decide +kernel)) rfl ?_
  refine e_lda (v := 67) (show am_cd 163 20 = (2, 21, 0, 2, []) by decide +kernel) rfl ?_
  refine e_ic (show am_cd 163 21 = (0, 22, 0, 4, []) by decide +kernel) ?_
  refine k_newa (N := 4) (s2 := s + 36) (A := 70) (show am_cd 163 22 = (28, 24, 20, 0, []) by decide +kernel) rfl (by decide +kernel) rfl (by omega) ?_
  refine k_put (a := 67) (c := 4) (n := 0) (show am_cd 163 24 = (20, 27, 1204, 2, [16]) by decide +kernel) (Or.inr rfl) rfl hK rfl (fun _ => Int.natCast_nonneg _) (fun h9 => absurd h9 (by decide +kernel)) rfl ?_
  refine e_lda (v := 67) (show am_cd 163 27 = (2, 28, 0, 2, []) by decide +kernel) rfl ?_
  refine e_ic (show am_cd 163 28 = (0, 29, 0, 4, []) by decide +kernel) ?_
  refine k_newa (N := 4) (s2 := s + 40) (A := 71) (show am_cd 163 29 = (28, 31, 20, 0, []) by decide +kernel) rfl (by decide +kernel) rfl (by omega) ?_
  refine k_put (a := 67) (c := 5) (n := 0) (show am_cd 163 31 = (20, 34, 1205, 2, [19]) by decide +kernel) (Or.inr rfl) rfl hK rfl (fun _ => Int.natCast_nonneg _) (fun h9 => absurd h9 (by decide +kernel)) rfl ?_
  refine e_lda (v := 67) (show am_cd 163 34 = (2, 35, 0, 2, []) by decide +kernel) rfl ?_
  refine e_ic (show am_cd 163 35 = (0, 37, 1, 8, []) by decide +kernel) ?_
  refine k_newa (N := 8) (s2 := s + 48) (A := 72) (show am_cd 163 37 = (28, 39, 20, 0, []) by decide +kernel) rfl (by decide +kernel) rfl (by omega) ?_
  refine k_put (a := 67) (c := 7) (n := 0) (show am_cd 163 39 = (20, 42, 1207, 2, [22]) by decide +kernel) (Or.inr rfl) rfl hK rfl (fun _ => Int.natCast_nonneg _) (fun h9 => absurd h9 (by decide +kernel)) rfl ?_
  refine e_lda (v := 67) (show am_cd 163 42 = (2, 43, 0, 2, []) by decide +kernel) rfl ?_
  refine e_ic (show am_cd 163 43 = (0, 45, 1, 8, []) by decide +kernel) ?_
  refine k_newa (N := 8) (s2 := s + 56) (A := 73) (show am_cd 163 45 = (28, 47, 20, 0, []) by decide +kernel) rfl (by decide +kernel) rfl (by omega) ?_
  refine k_put (a := 67) (c := 8) (n := 0) (show am_cd 163 47 = (20, 50, 1208, 2, [25]) by decide +kernel) (Or.inr rfl) rfl hK rfl (fun _ => Int.natCast_nonneg _) (fun h9 => absurd h9 (by decide +kernel)) rfl ?_
  refine e_lda (v := 67) (show am_cd 163 50 = (2, 51, 0, 2, []) by decide +kernel) rfl ?_
  refine e_ic (show am_cd 163 51 = (0, 53, 1, 8, []) by decide +kernel) ?_
  refine k_newa (N := 8) (s2 := s + 64) (A := 74) (show am_cd 163 53 = (28, 55, 20, 0, []) by decide +kernel) rfl (by decide +kernel) rfl (by omega) ?_
  refine k_put (a := 67) (c := 9) (n := 0) (show am_cd 163 55 = (20, 58, 1209, 2, [28]) by decide +kernel) (Or.inr rfl) rfl hK rfl (fun _ => Int.natCast_nonneg _) (fun h9 => absurd h9 (by decide +kernel)) rfl ?_
  refine e_lda (v := 67) (show am_cd 163 58 = (2, 59, 0, 2, []) by decide +kernel) rfl ?_
  refine e_ic (show am_cd 163 59 = (0, 61, 1, 8, []) by decide +kernel) ?_
  refine k_newa (N := 8) (s2 := s + 72) (A := 75) (show am_cd 163 61 = (28, 63, 20, 0, []) by decide +kernel) rfl (by decide +kernel) rfl (by omega) ?_
  refine k_put (a := 67) (c := 10) (n := 0) (show am_cd 163 63 = (20, 66, 1210, 2, [31]) by decide +kernel) (Or.inr rfl) rfl hK rfl (fun _ => Int.natCast_nonneg _) (fun h9 => absurd h9 (by decide +kernel)) rfl ?_
  refine e_lda (v := 67) (show am_cd 163 66 = (2, 67, 0, 2, []) by decide +kernel) rfl ?_
  refine e_ic (show am_cd 163 67 = (0, 69, 1, 24, []) by decide +kernel) ?_
  refine k_newa (N := 24) (s2 := s + 96) (A := 76) (show am_cd 163 69 = (28, 71, 20, 0, []) by decide +kernel) rfl (by decide +kernel) rfl (by omega) ?_
  refine k_put (a := 67) (c := 11) (n := 0) (show am_cd 163 71 = (20, 74, 1211, 2, [34]) by decide +kernel) (Or.inr rfl) rfl hK rfl (fun _ => Int.natCast_nonneg _) (fun h9 => absurd h9 (by decide +kernel)) rfl ?_
  refine e_lda (v := 67) (show am_cd 163 74 = (2, 75, 0, 2, []) by decide +kernel) rfl ?_
  refine e_ic (show am_cd 163 75 = (0, 77, 1, 16, []) by decide +kernel) ?_
  refine k_newa (N := 16) (s2 := s + 112) (A := 77) (show am_cd 163 77 = (28, 79, 20, 0, []) by decide +kernel) rfl (by decide +kernel) rfl (by omega) ?_
  refine k_put (a := 67) (c := 13) (n := 0) (show am_cd 163 79 = (20, 82, 1213, 2, [37]) by decide +kernel) (Or.inr rfl) rfl hK rfl (fun _ => Int.natCast_nonneg _) (fun h9 => absurd h9 (by decide +kernel)) rfl ?_
  refine e_lda (v := 67) (show am_cd 163 82 = (2, 83, 0, 2, []) by decide +kernel) rfl ?_
  refine e_ic (show am_cd 163 83 = (0, 85, 1, 16, []) by decide +kernel) ?_
  refine k_newa (N := 16) (s2 := s + 128) (A := 78) (show am_cd 163 85 = (28, 87, 20, 0, []) by decide +kernel) rfl (by decide +kernel) rfl (by omega) ?_
  refine k_put (a := 67) (c := 14) (n := 0) (show am_cd 163 87 = (20, 90, 1214, 2, [40]) by decide +kernel) (Or.inr rfl) rfl hK rfl (fun _ => Int.natCast_nonneg _) (fun h9 => absurd h9 (by decide +kernel)) rfl ?_
  refine e_lda (v := 67) (show am_cd 163 90 = (2, 91, 0, 2, []) by decide +kernel) rfl ?_
  refine e_ic (show am_cd 163 91 = (0, 93, 1, 16, []) by decide +kernel) ?_
  refine k_newa (N := 16) (s2 := s + 144) (A := 79) (show am_cd 163 93 = (28, 95, 20, 0, []) by decide +kernel) rfl (by decide +kernel) rfl (by omega) ?_
  refine k_put (a := 67) (c := 15) (n := 0) (show am_cd 163 95 = (20, 98, 1215, 2, [43]) by decide +kernel) (Or.inr rfl) rfl hK rfl (fun _ => Int.natCast_nonneg _) (fun h9 => absurd h9 (by decide +kernel)) rfl ?_
  refine e_lda (v := 67) (show am_cd 163 98 = (2, 99, 0, 2, []) by decide +kernel) rfl ?_
  refine e_ic (show am_cd 163 99 = (0, 101, 1, 80, []) by decide +kernel) ?_
  refine k_newa (N := 80) (s2 := s + 224) (A := 80) (show am_cd 163 101 = (28, 103, 20, 0, []) by decide +kernel) rfl (by decide +kernel) rfl (by omega) ?_
  refine k_put (a := 67) (c := 16) (n := 0) (show am_cd 163 103 = (20, 106, 1216, 2, [46]) by decide +kernel) (Or.inr rfl) rfl hK rfl (fun _ => Int.natCast_nonneg _) (fun h9 => absurd h9 (by decide +kernel)) rfl ?_
  refine e_lda (v := 67) (show am_cd 163 106 = (2, 107, 0, 2, []) by decide +kernel) rfl ?_
  refine e_ic (show am_cd 163 107 = (0, 109, 1, 20, []) by decide +kernel) ?_
  refine k_newa (N := 20) (s2 := s + 244) (A := 81) (show am_cd 163 109 = (28, 111, 20, 0, []) by decide +kernel) rfl (by decide +kernel) rfl (by omega) ?_
  refine k_put (a := 67) (c := 18) (n := 0) (show am_cd 163 111 = (20, 114, 1218, 2, [49]) by decide +kernel) (Or.inr rfl) rfl hK rfl (fun _ => Int.natCast_nonneg _) (fun h9 => absurd h9 (by decide +kernel)) rfl ?_
  refine e_lda (v := 67) (show am_cd 163 114 = (2, 115, 0, 2, []) by decide +kernel) rfl ?_
  refine e_ic (show am_cd 163 115 = (0, 118, 2, 320, []) by decide +kernel) ?_
  refine k_newa (N := 320) (s2 := s + 564) (A := 82) (show am_cd 163 118 = (28, 120, 20, 0, []) by decide +kernel) rfl (by decide +kernel) rfl (by omega) ?_
  refine k_put (a := 67) (c := 19) (n := 0) (show am_cd 163 120 = (20, 123, 1219, 2, [52]) by decide +kernel) (Or.inr rfl) rfl hK rfl (fun _ => Int.natCast_nonneg _) (fun h9 => absurd h9 (by decide +kernel)) rfl ?_
  refine e_lda (v := 67) (show am_cd 163 123 = (2, 124, 0, 2, []) by decide +kernel) rfl ?_
  refine e_ic (show am_cd 163 124 = (0, 126, 1, 20, []) by decide +kernel) ?_
  refine k_newa (N := 20) (s2 := s + 584) (A := 83) (show am_cd 163 126 = (28, 128, 20, 0, []) by decide +kernel) rfl (by decide +kernel) rfl (by omega) ?_
  refine k_put (a := 67) (c := 20) (n := 0) (show am_cd 163 128 = (20, 131, 1220, 2, [55]) by decide +kernel) (Or.inr rfl) rfl hK rfl (fun _ => Int.natCast_nonneg _) (fun h9 => absurd h9 (by decide +kernel)) rfl ?_
  refine e_lda (v := 67) (show am_cd 163 131 = (2, 132, 0, 2, []) by decide +kernel) rfl ?_
  refine e_ic (show am_cd 163 132 = (0, 134, 1, 120, []) by decide +kernel) ?_
  refine k_newa (N := 120) (s2 := s + 704) (A := 84) (show am_cd 163 134 = (28, 136, 20, 0, []) by decide +kernel) rfl (by decide +kernel) rfl (by omega) ?_
  refine k_put (a := 67) (c := 21) (n := 0) (show am_cd 163 136 = (20, 139, 1221, 2, [58]) by decide +kernel) (Or.inr rfl) rfl hK rfl (fun _ => Int.natCast_nonneg _) (fun h9 => absurd h9 (by decide +kernel)) rfl ?_
  refine e_lda (v := 67) (show am_cd 163 139 = (2, 140, 0, 2, []) by decide +kernel) rfl ?_
  refine e_ic (show am_cd 163 140 = (0, 142, 1, 80, []) by decide +kernel) ?_
  refine k_newa (N := 80) (s2 := s + 784) (A := 85) (show am_cd 163 142 = (28, 144, 22, 0, []) by decide +kernel) rfl (by decide +kernel) rfl (by omega) ?_
  refine k_put (a := 67) (c := 22) (n := 0) (show am_cd 163 144 = (20, 147, 1222, 2, [61]) by decide +kernel) (Or.inr rfl) rfl hK rfl (fun _ => Int.natCast_nonneg _) (fun h9 => absurd h9 (by decide +kernel)) rfl ?_
  refine e_lda (v := 67) (show am_cd 163 147 = (2, 148, 0, 2, []) by decide +kernel) rfl ?_
  refine e_ic (show am_cd 163 148 = (0, 150, 1, 32, []) by decide +kernel) ?_
  refine k_newa (N := 32) (s2 := s + 816) (A := 86) (show am_cd 163 150 = (28, 152, 21, 0, []) by decide +kernel) rfl (by decide +kernel) rfl (by omega) ?_
  refine k_put (a := 67) (c := 24) (n := 0) (show am_cd 163 152 = (20, 155, 1224, 2, [65]) by decide +kernel) (Or.inr rfl) rfl hK rfl (fun _ => Int.natCast_nonneg _) (fun h9 => absurd h9 (by decide +kernel)) rfl ?_
  refine e_lda (v := 67) (show am_cd 163 155 = (2, 156, 0, 2, []) by decide +kernel) rfl ?_
  refine e_ic (show am_cd 163 156 = (0, 158, 1, 16, []) by decide +kernel) ?_
  refine k_newa (N := 16) (s2 := s + 832) (A := 87) (show am_cd 163 158 = (28, 160, 20, 0, []) by decide +kernel) rfl (by decide +kernel) rfl (by omega) ?_
  refine k_put (a := 67) (c := 30) (n := 0) (show am_cd 163 160 = (20, 163, 1230, 2, [69]) by decide +kernel) (Or.inr rfl) rfl hK rfl (fun _ => Int.natCast_nonneg _) (fun h9 => absurd h9 (by decide +kernel)) rfl ?_
  refine e_lda (v := 67) (show am_cd 163 163 = (2, 164, 0, 2, []) by decide +kernel) rfl ?_
  refine e_ic (show am_cd 163 164 = (0, 166, 1, 16, []) by decide +kernel) ?_
  refine k_newa (N := 16) (s2 := s + 848) (A := 88) (show am_cd 163 166 = (28, 168, 20, 0, []) by decide +kernel) rfl (by decide +kernel) rfl (by omega) ?_
  refine k_put (a := 67) (c := 31) (n := 0) (show am_cd 163 168 = (20, 171, 1231, 2, [72]) by decide +kernel) (Or.inr rfl) rfl hK rfl (fun _ => Int.natCast_nonneg _) (fun h9 => absurd h9 (by decide +kernel)) rfl ?_
  refine e_lda (v := 67) (show am_cd 163 171 = (2, 172, 0, 2, []) by decide +kernel) rfl ?_
  refine e_ic (show am_cd 163 172 = (0, 173, 0, 3, []) by decide +kernel) ?_
  refine k_newa (N := 3) (s2 := s + 851) (A := 89) (show am_cd 163 173 = (28, 175, 20, 0, []) by decide +kernel) rfl (by decide +kernel) rfl (by omega) ?_
  refine k_put (a := 67) (c := 32) (n := 0) (show am_cd 163 175 = (20, 178, 1232, 2, [75]) by decide +kernel) (Or.inr rfl) rfl hK rfl (fun _ => Int.natCast_nonneg _) (fun h9 => absurd h9 (by decide +kernel)) rfl ?_
  refine e_lda (v := 67) (show am_cd 163 178 = (2, 179, 0, 2, []) by decide +kernel) rfl ?_
  refine e_ic (show am_cd 163 179 = (0, 181, 1, 6, []) by decide +kernel) ?_
  refine k_newa (N := 6) (s2 := s + 857) (A := 90) (show am_cd 163 181 = (28, 183, 20, 0, []) by decide +kernel) rfl (by decide +kernel) rfl (by omega) ?_
  refine k_put (a := 67) (c := 33) (n := 0) (show am_cd 163 183 = (20, 186, 1233, 2, [78]) by decide +kernel) (Or.inr rfl) rfl hK rfl (fun _ => Int.natCast_nonneg _) (fun h9 => absurd h9 (by decide +kernel)) rfl ?_
  refine e_lda (v := 67) (show am_cd 163 186 = (2, 187, 0, 2, []) by decide +kernel) rfl ?_
  refine e_ic (show am_cd 163 187 = (0, 189, 1, 6, []) by decide +kernel) ?_
  refine k_newa (N := 6) (s2 := s + 863) (A := 91) (show am_cd 163 189 = (28, 191, 20, 0, []) by decide +kernel) rfl (by decide +kernel) rfl (by omega) ?_
  refine k_put (a := 67) (c := 34) (n := 0) (show am_cd 163 191 = (20, 194, 1234, 2, [81]) by decide +kernel) (Or.inr rfl) rfl hK rfl (fun _ => Int.natCast_nonneg _) (fun h9 => absurd h9 (by decide +kernel)) rfl ?_
  refine e_lda (v := 67) (show am_cd 163 194 = (2, 195, 0, 2, []) by decide +kernel) rfl ?_
  refine e_ic (show am_cd 163 195 = (0, 196, 0, -1, []) by decide +kernel) ?_
  refine k_put (a := 67) (c := 35) (n := 0) (show am_cd 163 196 = (19, 199, 1235, 0, [84]) by decide +kernel) (Or.inl rfl) rfl hK rfl (fun h9 => absurd h9 (by decide)) (fun h9 => absurd h9 (by decide +kernel)) rfl ?_
  refine e_lda (v := 67) (show am_cd 163 199 = (2, 200, 0, 2, []) by decide +kernel) rfl ?_
  refine e_ic (show am_cd 163 200 = (0, 202, 3, 524288, [88]) by decide +kernel) ?_
  refine k_newa (N := 524288) (s2 := s + 525151) (A := 92) (show am_cd 163 202 = (28, 204, 20, 0, []) by decide +kernel) rfl (by decide +kernel) rfl (by omega) ?_
  refine k_put (a := 67) (c := 36) (n := 0) (show am_cd 163 204 = (20, 207, 1236, 2, [89]) by decide +kernel) (Or.inr rfl) rfl hK rfl (fun _ => Int.natCast_nonneg _) (fun h9 => absurd h9 (by decide +kernel)) rfl ?_
  refine e_lda (v := 67) (show am_cd 163 207 = (2, 208, 0, 2, []) by decide +kernel) rfl ?_
  refine e_ic (show am_cd 163 208 = (0, 210, 3, 524288, [88]) by decide +kernel) ?_
  refine k_newa (N := 524288) (s2 := s + 1049439) (A := 93) (show am_cd 163 210 = (28, 212, 21, 0, []) by decide +kernel) rfl (by decide +kernel) rfl (by omega) ?_
  refine k_put (a := 67) (c := 37) (n := 0) (show am_cd 163 212 = (20, 215, 1237, 2, [92]) by decide +kernel) (Or.inr rfl) rfl hK rfl (fun _ => Int.natCast_nonneg _) (fun h9 => absurd h9 (by decide +kernel)) rfl ?_
  refine e_lda (v := 67) (show am_cd 163 215 = (2, 216, 0, 2, []) by decide +kernel) rfl ?_
  refine e_ic (show am_cd 163 216 = (0, 218, 1, 16, []) by decide +kernel) ?_
  refine k_newa (N := 16) (s2 := s + 1049455) (A := 94) (show am_cd 163 218 = (28, 220, 20, 0, []) by decide +kernel) rfl (by decide +kernel) rfl (by omega) ?_
  refine k_put (a := 67) (c := 39) (n := 0) (show am_cd 163 220 = (20, 223, 1239, 2, [95]) by decide +kernel) (Or.inr rfl) rfl hK rfl (fun _ => Int.natCast_nonneg _) (fun h9 => absurd h9 (by decide +kernel)) rfl ?_
  refine e_lda (v := 67) (show am_cd 163 223 = (2, 224, 0, 2, []) by decide +kernel) rfl ?_
  refine e_ic (show am_cd 163 224 = (0, 226, 1, 6, []) by decide +kernel) ?_
  refine k_newa (N := 6) (s2 := s + 1049461) (A := 95) (show am_cd 163 226 = (28, 228, 20, 0, []) by decide +kernel) rfl (by decide +kernel) rfl (by omega) ?_
  refine k_put (a := 67) (c := 41) (n := 0) (show am_cd 163 228 = (20, 231, 1241, 2, [98]) by decide +kernel) (Or.inr rfl) rfl hK rfl (fun _ => Int.natCast_nonneg _) (fun h9 => absurd h9 (by decide +kernel)) rfl ?_
  refine e_lda (v := 67) (show am_cd 163 231 = (2, 232, 0, 2, []) by decide +kernel) rfl ?_
  refine e_ic (show am_cd 163 232 = (0, 235, 2, 4913, []) by decide +kernel) ?_
  refine k_newa (N := 4913) (s2 := s + 1054374) (A := 96) (show am_cd 163 235 = (28, 237, 21, 0, []) by decide +kernel) rfl (by decide +kernel) rfl (by omega) ?_
  refine k_put (a := 67) (c := 43) (n := 0) (show am_cd 163 237 = (20, 240, 1243, 2, [101]) by decide +kernel) (Or.inr rfl) rfl hK rfl (fun _ => Int.natCast_nonneg _) (fun h9 => absurd h9 (by decide +kernel)) rfl ?_
  refine e_lda (v := 67) (show am_cd 163 240 = (2, 241, 0, 2, []) by decide +kernel) rfl ?_
  refine e_ic (show am_cd 163 241 = (0, 244, 2, 4913, []) by decide +kernel) ?_
  refine k_newa (N := 4913) (s2 := s + 1059287) (A := 97) (show am_cd 163 244 = (28, 246, 21, 0, []) by decide +kernel) rfl (by decide +kernel) rfl (by omega) ?_
  refine k_put (a := 67) (c := 44) (n := 0) (show am_cd 163 246 = (20, 249, 1244, 2, [104]) by decide +kernel) (Or.inr rfl) rfl hK rfl (fun _ => Int.natCast_nonneg _) (fun h9 => absurd h9 (by decide +kernel)) rfl ?_
  refine e_lda (v := 67) (show am_cd 163 249 = (2, 250, 0, 2, []) by decide +kernel) rfl ?_
  refine e_ic (show am_cd 163 250 = (0, 253, 2, 201, []) by decide +kernel) ?_
  refine k_newa (N := 201) (s2 := s + 1059488) (A := 98) (show am_cd 163 253 = (28, 255, 20, 0, []) by decide +kernel) rfl (by decide +kernel) rfl (by omega) ?_
  refine k_put (a := 67) (c := 50) (n := 0) (show am_cd 163 255 = (20, 258, 1250, 2, [107]) by decide +kernel) (Or.inr rfl) rfl hK rfl (fun _ => Int.natCast_nonneg _) (fun h9 => absurd h9 (by decide +kernel)) rfl ?_
  refine e_lda (v := 67) (show am_cd 163 258 = (2, 259, 0, 2, []) by decide +kernel) rfl ?_
  refine e_ic (show am_cd 163 259 = (0, 261, 1, 28, []) by decide +kernel) ?_
  refine k_newa (N := 28) (s2 := s + 1059516) (A := 99) (show am_cd 163 261 = (28, 263, 21, 0, []) by decide +kernel) rfl (by decide +kernel) rfl (by omega) ?_
  refine k_put (a := 67) (c := 52) (n := 0) (show am_cd 163 263 = (20, 266, 1252, 2, [110]) by decide +kernel) (Or.inr rfl) rfl hK rfl (fun _ => Int.natCast_nonneg _) (fun h9 => absurd h9 (by decide +kernel)) rfl ?_
  exact e_retv (show am_cd 163 266 = (36, 267, 3, 0, []) by decide +kernel) (by decide +kernel) h

def nFL (F : Nat → Nat → Int) : Nat → Nat → Int := fA (nF163 (fA (nF121 (fA (F) 1 (am_df 11))) 67 (am_df 12))) 100 (fun _ => 0)
def nKL (K : Nat → Nat × Nat) : Nat → Nat × Nat := kA (nK163 (kA (nK121 (kA (K) 1 (11, 0))) 67 (12, 0))) 100 (21, 1)
theorem k_law {d : Nat} {Q : Option aV → aS → Prop} {F : Nat → Nat → Int} {K : Nat → Nat × Nat} {s : Nat} (h : Ev (d + 3) 272 Q 23 [rA 0, rA 1, rA 67, rA 100, (0, 0), (9, 0), (9, 0), (9, 0)] [] (nFL F, nKL K, 102, s + 1063745)) : Ev (d + 3) 272 Q 0 [rA 0, (9, 0), (9, 0), (9, 0), (9, 0), (9, 0), (9, 0), (9, 0)] [] (F, K, 1, s) := by
  refine k_new (n := 15) (s2 := s + 15) (A := 1) (show am_cd 272 0 = (29, 3, 11, 0, [8]) by decide +kernel) rfl (by decide +kernel) (by omega) ?_
  refine e_dup (show am_cd 272 3 = (13, 4, 0, 0, []) by decide +kernel) (by decide) ?_
  refine e_cS (z := 0) (as := [rA 1]) (rest := [rA 1]) (show am_cd 272 4 = (40, 7, 121, 2, [26]) by decide +kernel) (by decide) rfl rfl (Nat.le_of_ble_eq_true rfl) rfl ?_
  refine Cl.up (k_init121 (d := d) (s2 := s + 4175) rfl (by omega) ⟨fun _ h9 => (by cases h9), ?_⟩) (by omega)
  refine e_sta (v := 1) (la2 := [rA 0, rA 1, (9, 0), (9, 0), (9, 0), (9, 0), (9, 0), (9, 0)]) (show am_cd 272 7 = (3, 8, 1, 2, []) by decide +kernel) rfl ?_
  refine k_new (n := 53) (s2 := s + 4228) (A := 67) (show am_cd 272 8 = (29, 11, 12, 0, [27]) by decide +kernel) rfl (by decide +kernel) (by omega) ?_
  refine e_dup (show am_cd 272 11 = (13, 12, 0, 0, []) by decide +kernel) (by decide) ?_
  refine e_cS (z := 0) (as := [rA 67]) (rest := [rA 67]) (show am_cd 272 12 = (40, 15, 163, 2, [29]) by decide +kernel) (by decide) rfl rfl (Nat.le_of_ble_eq_true rfl) rfl ?_
  refine Cl.up (k_init163 (d := d) (s2 := s + 1063744) rfl (by omega) ⟨fun _ h9 => (by cases h9), ?_⟩) (by omega)
  refine e_sta (v := 67) (la2 := [rA 0, rA 1, rA 67, (9, 0), (9, 0), (9, 0), (9, 0), (9, 0)]) (show am_cd 272 15 = (3, 16, 2, 2, []) by decide +kernel) rfl ?_
  refine e_ic (show am_cd 272 16 = (0, 17, 0, 1, []) by decide +kernel) ?_
  refine k_newa (N := 1) (s2 := s + 1063745) (A := 100) (show am_cd 272 17 = (28, 19, 21, 0, []) by decide +kernel) rfl (by decide +kernel) rfl (by omega) ?_
  refine e_sta (v := 100) (la2 := [rA 0, rA 1, rA 67, rA 100, (9, 0), (9, 0), (9, 0), (9, 0)]) (show am_cd 272 19 = (3, 20, 3, 2, []) by decide +kernel) rfl ?_
  refine e_ic (show am_cd 272 20 = (0, 21, 0, 0, []) by decide +kernel) ?_
  refine e_sti (la2 := [rA 0, rA 1, rA 67, rA 100, (0, 0), (9, 0), (9, 0), (9, 0)]) (show am_cd 272 21 = (3, 23, 4, 0, []) by decide +kernel) rfl ?_
  exact h

