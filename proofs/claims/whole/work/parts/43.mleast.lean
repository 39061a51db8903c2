/-! The least number of faults. -/
theorem c_colWitB {d : Nat} {m : eW} {ll : Nat → Int} {nl : Nat} : ∀ (B : Nat) (g : gT) (e dn al j a b c : Int) (w : eW) (t : eT), CWR m ll nl B g e dn al j a b c w t → Cl (d + 2 * B + 66) 246 [rA 67, (0, e), (0, dn), (0, al), (0, j), (0, a), (0, b), (0, c)] (enc w t) (fun r S2 => ∃ w2 t2, r = none ∧ S2 = enc w2 t2 ∧ CWO m ll nl g e dn al j a b c w t w2 t2) := by
  intro B
  induction B with
  | zero => intro g e dn al j a b c w t h; exact absurd h.1.2.2.2.2.2.2.2 (Nat.not_lt_zero _)
  | succ B ih => exact fun g e dn al j a b c w t h => colWit_of (d := d + 2 * B) ih g e dn al j a b c w t h
theorem c_colEntB {d : Nat} {m : eW} {ll : Nat → Int} {nl : Nat} : ∀ (g : gT) (gr al j a b c : Int) (w : eW) (t : eT), CER m ll nl 19 g gr al j a b c w t → Cl (d + 105) 248 [rA 67, (0, gr), (0, al), (0, j), (0, a), (0, b), (0, c)] (enc w t) (fun r S2 => ∃ w2 t2, r = none ∧ S2 = enc w2 t2 ∧ CEO m ll nl g gr al j a b c w t w2 t2) := colEnt_of (d := d + 38) (c_colWitB (d := d) 19)
/-- the least of some numbers -/
def mn (x : Nat) (g : Nat → Nat) : Nat → Nat
  | 0 => x
  | n + 1 => min (mn x g n) (g n)
theorem mn_congr {x : Nat} {g h : Nat → Nat} {n : Nat} (hh : ∀ i, i < n → g i = h i) : mn x g n = mn x h n := by
  induction n with
  | zero => rfl
  | succ n ih => unfold mn; rw [ih (fun i hi => hh i (by omega)), hh n (by omega)]
theorem mn_le (x : Nat) (g : Nat → Nat) (n : Nat) : mn x g n ≤ x := by
  induction n with
  | zero => exact Nat.le_refl _
  | succ n ih => unfold mn; omega
theorem mn_at {x : Nat} {g : Nat → Nat} {n i : Nat} (hi : i < n) : mn x g n ≤ g i := by
  induction n with
  | zero => omega
  | succ n ih =>
    unfold mn
    by_cases h : i = n
    · subst h; omega
    · have := ih (by omega); omega
theorem mn_is {x : Nat} {g : Nat → Nat} {n : Nat} : mn x g n = x ∨ ∃ i, i < n ∧ mn x g n = g i := by
  induction n with
  | zero => exact Or.inl rfl
  | succ n ih =>
    unfold mn
    by_cases h : g n < mn x g n
    · exact Or.inr ⟨n, by omega, by omega⟩
    · rcases ih with h1 | ⟨i, h1, h2⟩
      · exact Or.inl (by omega)
      · exact Or.inr ⟨i, by omega, by omega⟩
/-- the fewest faults with which a row goes on to the end of both sides -/
def cL (m : eW) (lu : Nat → Int) (nu : Nat) (ll : Nat → Int) (nl : Nat) : Nat → Nat → Nat → Nat → Nat → Nat → Nat
  | 0, _, _, _, _, _ => 1000000
  | f + 1, i, j, a, b, c => mn (if i = nu ∧ j = nl then brs m (-1) a b c 16 else 1000000) (fun d => match upT m lu nu i d, loT m ll nl j d with
    | some u, some l => if isI m c && isI m d then 1000000 else brs m (-1) a b c d + cL m lu nu ll nl f u l b c d
    | _, _ => 1000000) (nP m)
theorem upT_j {m : eW} {lt : Nat → Int} {n i d k : Nat} (h : upT m lt n i d = some k) (hi : i ≤ n) : i ≤ k ∧ k ≤ n ∧ (¬ m 68 d = 27 → k = i + 1) := by
  unfold upT at h
  split at h
  · next h9 => cases h; exact ⟨Nat.le_refl _, hi, fun h8 => absurd h9 h8⟩
  · split at h
    · cases h; exact ⟨by omega, by omega, fun _ => rfl⟩
    · cases h
theorem both_down {m : eW} (hp : WFp m) {lu ll : Nat → Int} {nu nl i j d u l : Nat} (hd : d < nP m) (hi : i ≤ nu) (hj : j ≤ nl) (h1 : upT m lu nu i d = some u) (h2 : loT m ll nl j d = some l) : (nu - u) + (nl - l) < (nu - i) + (nl - j) ∧ u ≤ nu ∧ l ≤ nl := by
  have a1 := upT_j h1 hi
  have a2 := loT_j h2 hj
  by_cases h27 : m 68 d = 27
  · have := loT_ins hp hd h2 h27
    omega
  · have := a1.2.2 h27
    omega
theorem cL_stab {m : eW} (hp : WFp m) {lu ll : Nat → Int} {nu nl : Nat} : ∀ (f g i j a b c : Nat), i ≤ nu → j ≤ nl → (nu - i) + (nl - j) < f → (nu - i) + (nl - j) < g → cL m lu nu ll nl f i j a b c = cL m lu nu ll nl g i j a b c := by
  intro f
  induction f with
  | zero => intro g i j a b c _ _ h; omega
  | succ f ih =>
    intro g i j a b c hi hj h1 h2
    match g, h2 with
    | 0, h2 => omega
    | g + 1, h2 =>
      unfold cL
      refine mn_congr (fun d hd => ?_)
      cases hu : upT m lu nu i d with
      | none => rfl
      | some u =>
        cases hl : loT m ll nl j d with
        | none => rfl
        | some l =>
          dsimp only
          split
          · rfl
          · have := both_down hp hd hi hj hu hl
            rw [ih g u l b c d this.2.1 this.2.2 (by omega) (by omega)]
theorem cL_step {m : eW} (hp : WFp m) {lu ll : Nat → Int} {nu nl f i j a b c : Nat} (hi : i ≤ nu) (hj : j ≤ nl) (hf : (nu - i) + (nl - j) ≤ f) : cL m lu nu ll nl (f + 1) i j a b c = mn (if i = nu ∧ j = nl then brs m (-1) a b c 16 else 1000000) (fun d => match upT m lu nu i d, loT m ll nl j d with
    | some u, some l => if isI m c && isI m d then 1000000 else brs m (-1) a b c d + cL m lu nu ll nl (f + 1) u l b c d
    | _, _ => 1000000) (nP m) := by
  rw [cL]
  refine mn_congr (fun d hd => ?_)
  cases hu : upT m lu nu i d with
  | none => rfl
  | some u =>
    cases hl : loT m ll nl j d with
    | none => rfl
    | some l =>
      dsimp only
      split
      · rfl
      · have := both_down hp hd hi hj hu hl
        rw [cL_stab hp f (f + 1) u l b c d this.2.1 this.2.2 (by omega) (by omega)]
def cl (m : eW) (lu : Nat → Int) (nu : Nat) (ll : Nat → Int) (nl i j a b c : Nat) : Nat := cL m lu nu ll nl 13 i j a b c
def clG (m : eW) (lu : Nat → Int) (nu : Nat) (ll : Nat → Int) (nl i j a b c d : Nat) : Nat := match upT m lu nu i d, loT m ll nl j d with
    | some u, some l => if isI m c && isI m d then 1000000 else brs m (-1) a b c d + cl m lu nu ll nl u l b c d
    | _, _ => 1000000
theorem cl_eq {m : eW} (hp : WFp m) {lu ll : Nat → Int} {nu nl i j a b c : Nat} (hnu : nu ≤ 6) (hnl : nl ≤ 6) (hi : i ≤ nu) (hj : j ≤ nl) : cl m lu nu ll nl i j a b c = mn (if i = nu ∧ j = nl then brs m (-1) a b c 16 else 1000000) (clG m lu nu ll nl i j a b c) (nP m) := cL_step (f := 12) hp hi hj (by omega)
theorem brs_le (m : eW) (wo : Int) (a b c d : Nat) : brs m wo a b c d ≤ nR m := cb_le _ _
theorem cl_le {m : eW} (hr : nR m ≤ 8) {lu ll : Nat → Int} {nu nl i j a b c : Nat} : cl m lu nu ll nl i j a b c ≤ 1000000 := by
  unfold cl
  rw [cL]
  refine Nat.le_trans (mn_le _ _ _) ?_
  split
  · have := brs_le m (-1) a b c 16; omega
  · exact Nat.le_refl _
def PmL (m : eW) (lu : Nat → Int) (nu : Nat) (ll : Nat → Int) (nl : Nat) (key v : Int) : Prop := ∀ i j a b c : Nat, j ≤ 7 → a ≤ 16 → b ≤ 16 → c ≤ 16 → key = (8 * (i : Int) + j) * 4913 + (((a : Int) * 17 + b) * 17 + c) → v = (cl m lu nu ll nl i j a b c : Int)
theorem kL_inj {i j a b c i2 j2 a2 b2 c2 : Nat} (h0 : j ≤ 7) (h1 : a ≤ 16) (h2 : b ≤ 16) (h3 : c ≤ 16) (h00 : j2 ≤ 7) (h4 : a2 ≤ 16) (h5 : b2 ≤ 16) (h6 : c2 ≤ 16) (h : (8 * (i : Int) + j) * 4913 + (((a : Int) * 17 + b) * 17 + c) = (8 * (i2 : Int) + j2) * 4913 + (((a2 : Int) * 17 + b2) * 17 + c2)) : i = i2 ∧ j = j2 ∧ a = a2 ∧ b = b2 ∧ c = c2 := by
  have h' : ((8 * i + j : Nat) : Int) * 4913 + (((a : Int) * 17 + b) * 17 + c) = ((8 * i2 + j2 : Nat) : Int) * 4913 + (((a2 : Int) * 17 + b2) * 17 + c2) := by omega
  obtain ⟨q1, q2, q3, q4⟩ := key_inj h1 h2 h3 h4 h5 h6 h'
  exact ⟨by omega, by omega, q2, q3, q4⟩
def KyL (key : Int) (i j a b c : Nat) : Prop := key = (8 * (i : Int) + j) * 4913 + (((a : Int) * 17 + b) * 17 + c)
def LCx (m : eW) (lu : Nat → Int) (nu : Nat) (ll : Nat → Int) (nl : Nat) (w : eW) : Prop := MG w m ∧ w 67 35 = -1 ∧ UpM w lu nu ∧ LoM w ll nl
theorem LCx.m {m : eW} {lu ll : Nat → Int} {nu nl : Nat} {R F : List Nat} {w w2 : eW} (h : LCx m lu nu ll nl w) (hf : Fm R F w w2) (hR : ∀ a ∈ R, a < 68 ∨ 91 < a) (hF : ∀ k ∈ F, k ≠ 0 ∧ k ≠ 6 ∧ k ≠ 35 ∧ k ≠ 47 ∧ k ≠ 48) : LCx m lu nu ll nl w2 := ⟨h.1.m hf (fun a ha => by have := hR a ha; omega) (fun k hk => ⟨(hF k hk).1, (hF k hk).2.1⟩), by rw [hf.2 35 (fun h9 => (hF 35 h9).2.2.1 rfl)]; exact h.2.1, h.2.2.1.m hf (fun h9 => by have := hR 90 h9; omega) (fun h9 => (hF 47 h9).2.2.2.1 rfl), h.2.2.2.m hf (fun h9 => by have := hR 91 h9; omega) (fun h9 => (hF 48 h9).2.2.2.2 rfl)⟩
def LPR (m : eW) (lu : Nat → Int) (nu : Nat) (ll : Nat → Int) (nl B : Nat) (i j a b c : Int) (w : eW) (_ : eT) : Prop := LCx m lu nu ll nl w ∧ KnW (PmL m lu nu ll nl) w ∧ (0 ≤ i ∧ i ≤ nu) ∧ (0 ≤ j ∧ j ≤ nl) ∧ gABC m a b c ∧ (nu - i.toNat) + (nl - j.toNat) < B
def LPO (m : eW) (lu : Nat → Int) (nu : Nat) (ll : Nat → Int) (nl : Nat) (i j a b c : Int) (w : eW) (t : eT) (x : Int) (w2 : eW) (t2 : eT) : Prop := x = (cl m lu nu ll nl i.toNat j.toNat a.toNat b.toNat c.toNat : Int) ∧ t2 = t ∧ FrT w w2 ∧ KnW (PmL m lu nu ll nl) w2

theorem g_least0 {d : Nat} {Q : Option aV → aS → Prop} {w : eW} {t : eT} {i j a b c : Int} {m : eW} {lu ll : Nat → Int} {nu nl : Nat} {D : Int → Option Int} {wo : Int} {J J2 : aV} (hw : w32 wo = wo) (h : (DV w D ∧ 0 ≤ (((8 * i) + j) * 4913) + ((((a * 17) + b) * 17) + c) ∧ (((8 * i) + j) * 4913) + ((((a * 17) + b) * 17) + c) ≤ 2147483647) ∧ ((((D ((((8 * i) + j) * 4913) + ((((a * 17) + b) * 17) + c))).isSome) = false → ((¬ w32 i = w32 (w 67 47) → Ev (d + 6) 250 Q 76 [rA 67, (0, i), (0, j), (0, a), (0, b), (0, c), (0, (((8 * i) + j) * 4913) + ((((a * 17) + b) * 17) + c)), (1, 1000000), (9, 0), (0, 0), (9, 0), (9, 0)] [] (enc w t)) ∧ (¬ (¬ w32 i = w32 (w 67 47)) → ((¬ w32 j = w32 (w 67 48) → Ev (d + 6) 250 Q 76 [rA 67, (0, i), (0, j), (0, a), (0, b), (0, c), (0, (((8 * i) + j) * 4913) + ((((a * 17) + b) * 17) + c)), (1, 1000000), (9, 0), (0, 0), (9, 0), (9, 0)] [] (enc w t)) ∧ (¬ (¬ w32 j = w32 (w 67 48)) → (MG w m ∧ w 67 35 = wo ∧ gE a ∧ gE b ∧ gC m c ∧ gE 16) ∧ (Ev (d + 6) 250 Q 76 [rA 67, (0, i), (0, j), (0, a), (0, b), (0, c), (0, (((8 * i) + j) * 4913) + ((((a * 17) + b) * 17) + c)), (1, w32 ((brs m wo a.toNat b.toNat c.toNat 16 : Nat) : Int)), (9, 0), (0, 0), (9, 0), (9, 0)] [] (enc w t))))))) ∧ (((D ((((8 * i) + j) * 4913) + ((((a * 17) + b) * 17) + c))).isSome) = true → (DV w D ∧ (0 ≤ (((8 * i) + j) * 4913) + ((((a * 17) + b) * 17) + c) ∧ (((8 * i) + j) * 4913) + ((((a * 17) + b) * 17) + c) ≤ 2147483647) ∧ (D ((((8 * i) + j) * 4913) + ((((a * 17) + b) * 17) + c))).isSome = true) ∧ (Q (some (1, (D ((((8 * i) + j) * 4913) + ((((a * 17) + b) * 17) + c))).getD 0)) (enc w t))))) : Cl (d + 6) 250 [rA 67, (0, i), (0, j), (0, a), (0, b), (0, c)] (enc w t) Q := by
  show Ev (d + 6) 250 Q 0 [rA 67, (0, i), (0, j), (0, a), (0, b), (0, c), (9, 0), (9, 0), (9, 0), (9, 0), (9, 0), (9, 0)] [] (enc w t)
  refine e_ic (show am_cd 250 0 = (0, 2, 1, 8, []) by decide +kernel) ?_
  refine e_ldi (show am_cd 250 2 = (2, 3, 1, 0, []) by decide +kernel) rfl ?_
  refine e_imul (show am_cd 250 3 = (5, 4, 2, 0, []) by decide +kernel) ?_
  refine e_ldi (show am_cd 250 4 = (2, 5, 2, 0, []) by decide +kernel) rfl ?_
  refine e_iadd (show am_cd 250 5 = (5, 6, 0, 0, []) by decide +kernel) ?_
  refine e_ic (show am_cd 250 6 = (0, 9, 2, 4913, []) by decide +kernel) ?_
  refine e_imul (show am_cd 250 9 = (5, 10, 2, 0, []) by decide +kernel) ?_
  refine e_ldi (show am_cd 250 10 = (2, 11, 3, 0, []) by decide +kernel) rfl ?_
  refine e_ldi (show am_cd 250 11 = (2, 13, 4, 0, []) by decide +kernel) rfl ?_
  refine e_ldi (show am_cd 250 13 = (2, 15, 5, 0, []) by decide +kernel) rfl ?_
  refine e_cS (z := 0) (as := [(0, a), (0, b), (0, c)]) (rest := [(0, ((8 * i) + j) * 4913)]) (show am_cd 250 15 = (40, 18, 209, 1, [278]) by decide +kernel) (by decide) rfl rfl (Nat.le_of_ble_eq_true rfl) rfl ?_
  show Ev _ 209 _ 0 [(0, a), (0, b), (0, c)] [] _
  refine e_ldi (show am_cd 209 0 = (2, 1, 0, 0, []) by decide +kernel) rfl ?_
  refine e_ic (show am_cd 209 1 = (0, 3, 1, 17, []) by decide +kernel) ?_
  refine e_imul (show am_cd 209 3 = (5, 4, 2, 0, []) by decide +kernel) ?_
  refine e_ldi (show am_cd 209 4 = (2, 5, 1, 0, []) by decide +kernel) rfl ?_
  refine e_iadd (show am_cd 209 5 = (5, 6, 0, 0, []) by decide +kernel) ?_
  refine e_ic (show am_cd 209 6 = (0, 8, 1, 17, []) by decide +kernel) ?_
  refine e_imul (show am_cd 209 8 = (5, 9, 2, 0, []) by decide +kernel) ?_
  refine e_ldi (show am_cd 209 9 = (2, 10, 2, 0, []) by decide +kernel) rfl ?_
  refine e_iadd (show am_cd 209 10 = (5, 11, 0, 0, []) by decide +kernel) ?_
  refine e_reti (show am_cd 209 11 = (36, 12, 0, 0, []) by decide +kernel) (by decide +kernel) ⟨fun _ h9 => (by cases h9), ?_⟩
  show Ev _ 250 _ 18 [rA 67, (0, i), (0, j), (0, a), (0, b), (0, c), (9, 0), (9, 0), (9, 0), (9, 0), (9, 0), (9, 0)] [(0, (((a * 17) + b) * 17) + c), (0, ((8 * i) + j) * 4913)] _
  refine e_iadd (show am_cd 250 18 = (5, 19, 0, 0, []) by decide +kernel) ?_
  refine e_sti (la2 := [rA 67, (0, i), (0, j), (0, a), (0, b), (0, c), (0, (((8 * i) + j) * 4913) + ((((a * 17) + b) * 17) + c)), (9, 0), (9, 0), (9, 0), (9, 0), (9, 0)]) (show am_cd 250 19 = (3, 21, 6, 0, []) by decide +kernel) rfl ?_
  refine e_lda (v := 67) (show am_cd 250 21 = (2, 22, 0, 2, []) by decide +kernel) rfl ?_
  refine e_ldi (show am_cd 250 22 = (2, 24, 6, 0, []) by decide +kernel) rfl ?_
  refine e_cV (z := 0) (a := 67) (as := [(0, (((8 * i) + j) * 4913) + ((((a * 17) + b) * 17) + c))]) (rest := []) (show am_cd 250 24 = (40, 27, 205, 0, [295]) by decide +kernel) (by decide +kernel) rfl rfl (Nat.le_of_ble_eq_true rfl) rfl ?_
  refine Cl.mono (Cl.up (c_isKnown (d := d) h.1) (by omega)) ?_
  rintro _ _ ⟨rfl, rfl⟩
  refine ⟨fun _ h9 => (by cases h9), ?_⟩
  replace h := h.2
  show Ev _ 250 _ 27 [rA 67, (0, i), (0, j), (0, a), (0, b), (0, c), (0, (((8 * i) + j) * 4913) + ((((a * 17) + b) * 17) + c)), (9, 0), (9, 0), (9, 0), (9, 0), (9, 0)] [(0, bI ((D ((((8 * i) + j) * 4913) + ((((a * 17) + b) * 17) + c))).isSome))] _
  refine e_ifb0 (show am_cd 250 27 = (10, 30, 37, 0, []) by decide +kernel) (fun hc => ?_) (fun hc => ?_)
  · replace h := h.1 hc
    refine e_ldi (show am_cd 250 37 = (2, 38, 1, 0, []) by decide +kernel) rfl ?_
    refine e_lda (v := 67) (show am_cd 250 38 = (2, 39, 0, 2, []) by decide +kernel) rfl ?_
    refine e_getf (a := 67) (tg := 0) (show am_cd 250 39 = (18, 42, 1247, 0, [345]) by decide +kernel) (by decide +kernel) (by decide +kernel) rfl ?_
    refine e_cmp1 (show am_cd 250 42 = (11, 45, 68, 1, []) by decide +kernel) (fun hc => ?_) (fun hc => ?_)
    · replace h := h.1 hc
      refine e_lc (show am_cd 250 68 = (1, 71, 1, 1000000, [418]) by decide +kernel) ?_
      refine e_stl (la2 := [rA 67, (0, i), (0, j), (0, a), (0, b), (0, c), (0, (((8 * i) + j) * 4913) + ((((a * 17) + b) * 17) + c)), (1, 1000000), (9, 0), (9, 0), (9, 0), (9, 0)]) (show am_cd 250 71 = (3, 73, 7, 1, []) by decide +kernel) rfl ?_
      refine e_ic (show am_cd 250 73 = (0, 74, 0, 0, []) by decide +kernel) ?_
      refine e_sti (la2 := [rA 67, (0, i), (0, j), (0, a), (0, b), (0, c), (0, (((8 * i) + j) * 4913) + ((((a * 17) + b) * 17) + c)), (1, 1000000), (9, 0), (0, 0), (9, 0), (9, 0)]) (show am_cd 250 74 = (3, 76, 9, 0, []) by decide +kernel) rfl ?_
      exact h
    · replace h := h.2 hc
      refine e_ldi (show am_cd 250 45 = (2, 46, 2, 0, []) by decide +kernel) rfl ?_
      refine e_lda (v := 67) (show am_cd 250 46 = (2, 47, 0, 2, []) by decide +kernel) rfl ?_
      refine e_getf (a := 67) (tg := 0) (show am_cd 250 47 = (18, 50, 1248, 0, [348]) by decide +kernel) (by decide +kernel) (by decide +kernel) rfl ?_
      refine e_cmp1 (show am_cd 250 50 = (11, 53, 68, 1, []) by decide +kernel) (fun hc => ?_) (fun hc => ?_)
      · replace h := h.1 hc
        refine e_lc (show am_cd 250 68 = (1, 71, 1, 1000000, [418]) by decide +kernel) ?_
        refine e_stl (la2 := [rA 67, (0, i), (0, j), (0, a), (0, b), (0, c), (0, (((8 * i) + j) * 4913) + ((((a * 17) + b) * 17) + c)), (1, 1000000), (9, 0), (9, 0), (9, 0), (9, 0)]) (show am_cd 250 71 = (3, 73, 7, 1, []) by decide +kernel) rfl ?_
        refine e_ic (show am_cd 250 73 = (0, 74, 0, 0, []) by decide +kernel) ?_
        refine e_sti (la2 := [rA 67, (0, i), (0, j), (0, a), (0, b), (0, c), (0, (((8 * i) + j) * 4913) + ((((a * 17) + b) * 17) + c)), (1, 1000000), (9, 0), (0, 0), (9, 0), (9, 0)]) (show am_cd 250 74 = (3, 76, 9, 0, []) by decide +kernel) rfl ?_
        exact h
      · replace h := h.2 hc
        refine e_lda (v := 67) (show am_cd 250 53 = (2, 54, 0, 2, []) by decide +kernel) rfl ?_
        refine e_ldi (show am_cd 250 54 = (2, 55, 3, 0, []) by decide +kernel) rfl ?_
        refine e_ldi (show am_cd 250 55 = (2, 57, 4, 0, []) by decide +kernel) rfl ?_
        refine e_ldi (show am_cd 250 57 = (2, 59, 5, 0, []) by decide +kernel) rfl ?_
        refine e_ic (show am_cd 250 59 = (0, 61, 1, 16, []) by decide +kernel) ?_
        refine e_cV (z := 0) (a := 67) (as := [(0, a), (0, b), (0, c), (0, 16)]) (rest := []) (show am_cd 250 61 = (40, 64, 199, 0, [268]) by decide +kernel) (by decide +kernel) rfl rfl (Nat.le_of_ble_eq_true rfl) rfl ?_
        refine Cl.mono (Cl.up (c_broken (hw := hw) (d := d) h.1) (by omega)) ?_
        rintro _ _ ⟨rfl, rfl⟩
        refine ⟨fun _ h9 => (by cases h9), ?_⟩
        replace h := h.2
        show Ev _ 250 _ 64 [rA 67, (0, i), (0, j), (0, a), (0, b), (0, c), (0, (((8 * i) + j) * 4913) + ((((a * 17) + b) * 17) + c)), (9, 0), (9, 0), (9, 0), (9, 0), (9, 0)] [(0, ((brs m wo a.toNat b.toNat c.toNat 16 : Nat) : Int))] _
        refine e_i2l (show am_cd 250 64 = (8, 65, 0, 0, []) by decide +kernel) ?_
        refine e_go (show am_cd 250 65 = (12, 71, 0, 0, []) by decide +kernel) ?_
        refine e_stl (la2 := [rA 67, (0, i), (0, j), (0, a), (0, b), (0, c), (0, (((8 * i) + j) * 4913) + ((((a * 17) + b) * 17) + c)), (1, w32 ((brs m wo a.toNat b.toNat c.toNat 16 : Nat) : Int)), (9, 0), (9, 0), (9, 0), (9, 0)]) (show am_cd 250 71 = (3, 73, 7, 1, []) by decide +kernel) rfl ?_
        refine e_ic (show am_cd 250 73 = (0, 74, 0, 0, []) by decide +kernel) ?_
        refine e_sti (la2 := [rA 67, (0, i), (0, j), (0, a), (0, b), (0, c), (0, (((8 * i) + j) * 4913) + ((((a * 17) + b) * 17) + c)), (1, w32 ((brs m wo a.toNat b.toNat c.toNat 16 : Nat) : Int)), (9, 0), (0, 0), (9, 0), (9, 0)]) (show am_cd 250 74 = (3, 76, 9, 0, []) by decide +kernel) rfl ?_
        exact h
  · replace h := h.2 hc
    refine e_lda (v := 67) (show am_cd 250 30 = (2, 31, 0, 2, []) by decide +kernel) rfl ?_
    refine e_ldi (show am_cd 250 31 = (2, 33, 6, 0, []) by decide +kernel) rfl ?_
    refine e_cV (z := 0) (a := 67) (as := [(0, (((8 * i) + j) * 4913) + ((((a * 17) + b) * 17) + c))]) (rest := []) (show am_cd 250 33 = (40, 36, 206, 0, [298]) by decide +kernel) (by decide +kernel) rfl rfl (Nat.le_of_ble_eq_true rfl) rfl ?_
    refine Cl.mono (Cl.up (c_knownD (d := d) h.1) (by omega)) ?_
    rintro _ _ ⟨rfl, rfl⟩
    refine ⟨fun _ h9 => (by cases h9), ?_⟩
    replace h := h.2
    show Ev _ 250 _ 36 [rA 67, (0, i), (0, j), (0, a), (0, b), (0, c), (0, (((8 * i) + j) * 4913) + ((((a * 17) + b) * 17) + c)), (9, 0), (9, 0), (9, 0), (9, 0), (9, 0)] [(1, (D ((((8 * i) + j) * 4913) + ((((a * 17) + b) * 17) + c))).getD 0)] _
    exact e_retl (show am_cd 250 36 = (36, 37, 1, 0, []) by decide +kernel) (by decide +kernel) h

theorem g_least1 {d : Nat} {Q : Option aV → aS → Prop} {w : eW} {t : eT} {i j a b c key x p : Int} {m : eW} {lu ll : Nat → Int} {nu nl : Nat} {D : Int → Option Int} {wo : Int} {J J2 : aV} (hw : w32 wo = wo) {PRL : Int → Int → Int → Int → Int → eW → eT → Prop} {POL : Int → Int → Int → Int → Int → eW → eT → Int → eW → eT → Prop} (hrL : ∀ (a1 a2 a3 a4 a5 : Int) (w : eW) (t : eT), PRL a1 a2 a3 a4 a5 w t → Cl (d + 5) 250 [rA 67, (0, a1), (0, a2), (0, a3), (0, a4), (0, a5)] (enc w t) (fun r S2 => ∃ x w2 t2, r = some (1, x) ∧ S2 = enc w2 t2 ∧ POL a1 a2 a3 a4 a5 w t x w2 t2)) (h : ((w32 (w 67 0) ≤ w32 p → (DV w D ∧ 0 ≤ key ∧ key ≤ 2147483647) ∧ (∀ w1, (FrT w w1 ∧ w1 67 38 ≤ w 67 38 + 1 ∧ (DV w1 (uD D key x) ∨ (500000 ≤ w 67 38 ∧ DV w1 D))) → Q (some (1, x)) (enc w1 t))) ∧ (¬ (w32 (w 67 0) ≤ w32 p) → (MG w m ∧ UpM w lu nu ∧ (0 ≤ i ∧ i ≤ nu) ∧ gP m p) ∧ (MG w m ∧ LoM w ll nl ∧ (0 ≤ j ∧ j ≤ nl) ∧ gP m p) ∧ ((w32 (oI (upT m lu nu i.toNat p.toNat)) = w32 (-1) → Ev (d + 6) 250 Q 76 [rA 67, (0, i), (0, j), (0, a), (0, b), (0, c), (0, key), (1, x), (9, 0), (0, p + 1), (0, oI (upT m lu nu i.toNat p.toNat)), (0, oI (loT m ll nl j.toNat p.toNat))] [] (enc w t)) ∧ (¬ (w32 (oI (upT m lu nu i.toNat p.toNat)) = w32 (-1)) → ((w32 (oI (loT m ll nl j.toNat p.toNat)) = w32 (-1) → Ev (d + 6) 250 Q 76 [rA 67, (0, i), (0, j), (0, a), (0, b), (0, c), (0, key), (1, x), (9, 0), (0, p + 1), (0, oI (upT m lu nu i.toNat p.toNat)), (0, oI (loT m ll nl j.toNat p.toNat))] [] (enc w t)) ∧ (¬ (w32 (oI (loT m ll nl j.toNat p.toNat)) = w32 (-1)) → (MG w m ∧ gC m c ∧ gC m p) ∧ (((!(isI m c.toNat && isI m p.toNat)) = true → (MG w m ∧ w 67 35 = wo ∧ gE a ∧ gE b ∧ gC m c ∧ gE p) ∧ (PRL (oI (upT m lu nu i.toNat p.toNat)) (oI (loT m ll nl j.toNat p.toNat)) b c p w t) ∧ (∀ x2 w3 t4, (POL (oI (upT m lu nu i.toNat p.toNat)) (oI (loT m ll nl j.toNat p.toNat)) b c p w t x2 w3 t4) → Ev (d + 6) 250 Q 76 [rA 67, (0, i), (0, j), (0, a), (0, b), (0, c), (0, key), (1, if w64 ((w32 ((brs m wo a.toNat b.toNat c.toNat p.toNat : Nat) : Int)) + x2) < w64 x then ((w32 ((brs m wo a.toNat b.toNat c.toNat p.toNat : Nat) : Int)) + x2) else x), (9, 0), (0, p + 1), (0, oI (upT m lu nu i.toNat p.toNat)), (0, oI (loT m ll nl j.toNat p.toNat))] [] (enc w3 t4))) ∧ ((!(isI m c.toNat && isI m p.toNat)) = false → Ev (d + 6) 250 Q 76 [rA 67, (0, i), (0, j), (0, a), (0, b), (0, c), (0, key), (1, x), (9, 0), (0, p + 1), (0, oI (upT m lu nu i.toNat p.toNat)), (0, oI (loT m ll nl j.toNat p.toNat))] [] (enc w t)))))))))) : Ev (d + 6) 250 Q 76 [rA 67, (0, i), (0, j), (0, a), (0, b), (0, c), (0, key), (1, x), (9, 0), (0, p), J, J2] [] (enc w t) := by
  refine e_ldi (show am_cd 250 76 = (2, 78, 9, 0, []) by decide +kernel) rfl ?_
  refine e_lda (v := 67) (show am_cd 250 78 = (2, 79, 0, 2, []) by decide +kernel) rfl ?_
  refine e_getf (a := 67) (tg := 0) (show am_cd 250 79 = (18, 82, 1200, 0, [168]) by decide +kernel) (by decide +kernel) (by decide +kernel) rfl ?_
  refine e_cmp3 (show am_cd 250 82 = (11, 85, 169, 3, []) by decide +kernel) (fun hc => ?_) (fun hc => ?_)
  · replace h := h.1 hc
    refine e_lda (v := 67) (show am_cd 250 169 = (2, 170, 0, 2, []) by decide +kernel) rfl ?_
    refine e_ldi (show am_cd 250 170 = (2, 172, 6, 0, []) by decide +kernel) rfl ?_
    refine e_ldl (show am_cd 250 172 = (2, 174, 7, 1, []) by decide +kernel) rfl ?_
    refine e_cV (z := 0) (a := 67) (as := [(0, key), (1, x)]) (rest := []) (show am_cd 250 174 = (40, 177, 207, 0, [307]) by decide +kernel) (by decide +kernel) rfl rfl (Nat.le_of_ble_eq_true rfl) rfl ?_
    refine Cl.mono (Cl.up (c_learns (d := d) h.1) (by omega)) ?_
    rintro _ _ ⟨w1, rfl, rfl, hp⟩
    refine ⟨fun _ h9 => (by cases h9), ?_⟩
    replace h := h.2 w1 hp
    show Ev _ 250 _ 177 [rA 67, (0, i), (0, j), (0, a), (0, b), (0, c), (0, key), (1, x), (9, 0), (0, p), J, J2] [(1, x)] _
    exact e_retl (show am_cd 250 177 = (36, 178, 1, 0, []) by decide +kernel) (by decide +kernel) h
  · replace h := h.2 hc
    refine e_lda (v := 67) (show am_cd 250 85 = (2, 86, 0, 2, []) by decide +kernel) rfl ?_
    refine e_ldi (show am_cd 250 86 = (2, 87, 1, 0, []) by decide +kernel) rfl ?_
    refine e_ldi (show am_cd 250 87 = (2, 89, 9, 0, []) by decide +kernel) rfl ?_
    refine e_cV (z := 0) (a := 67) (as := [(0, i), (0, p)]) (rest := []) (show am_cd 250 89 = (40, 92, 228, 0, [357]) by decide +kernel) (by decide +kernel) rfl rfl (Nat.le_of_ble_eq_true rfl) rfl ?_
    refine Cl.mono (Cl.up (c_upperThen (d := d) h.1) (by omega)) ?_
    rintro _ _ ⟨rfl, rfl⟩
    refine ⟨fun _ h9 => (by cases h9), ?_⟩
    replace h := h.2
    show Ev _ 250 _ 92 [rA 67, (0, i), (0, j), (0, a), (0, b), (0, c), (0, key), (1, x), (9, 0), (0, p), J, J2] [(0, oI (upT m lu nu i.toNat p.toNat))] _
    refine e_sti (la2 := [rA 67, (0, i), (0, j), (0, a), (0, b), (0, c), (0, key), (1, x), (9, 0), (0, p), (0, oI (upT m lu nu i.toNat p.toNat)), J2]) (show am_cd 250 92 = (3, 94, 10, 0, []) by decide +kernel) rfl ?_
    refine e_lda (v := 67) (show am_cd 250 94 = (2, 95, 0, 2, []) by decide +kernel) rfl ?_
    refine e_ldi (show am_cd 250 95 = (2, 96, 2, 0, []) by decide +kernel) rfl ?_
    refine e_ldi (show am_cd 250 96 = (2, 98, 9, 0, []) by decide +kernel) rfl ?_
    refine e_cV (z := 0) (a := 67) (as := [(0, j), (0, p)]) (rest := []) (show am_cd 250 98 = (40, 101, 229, 0, [354]) by decide +kernel) (by decide +kernel) rfl rfl (Nat.le_of_ble_eq_true rfl) rfl ?_
    refine Cl.mono (Cl.up (c_lowerThen (d := d) h.1) (by omega)) ?_
    rintro _ _ ⟨rfl, rfl⟩
    refine ⟨fun _ h9 => (by cases h9), ?_⟩
    replace h := h.2
    show Ev _ 250 _ 101 [rA 67, (0, i), (0, j), (0, a), (0, b), (0, c), (0, key), (1, x), (9, 0), (0, p), (0, oI (upT m lu nu i.toNat p.toNat)), J2] [(0, oI (loT m ll nl j.toNat p.toNat))] _
    refine e_sti (la2 := [rA 67, (0, i), (0, j), (0, a), (0, b), (0, c), (0, key), (1, x), (9, 0), (0, p), (0, oI (upT m lu nu i.toNat p.toNat)), (0, oI (loT m ll nl j.toNat p.toNat))]) (show am_cd 250 101 = (3, 103, 11, 0, []) by decide +kernel) rfl ?_
    refine e_ldi (show am_cd 250 103 = (2, 105, 10, 0, []) by decide +kernel) rfl ?_
    refine e_ic (show am_cd 250 105 = (0, 106, 0, -1, []) by decide +kernel) ?_
    refine e_cmp0 (show am_cd 250 106 = (11, 109, 163, 0, []) by decide +kernel) (fun hc => ?_) (fun hc => ?_)
    · replace h := h.1 hc
      refine e_inc (la2 := [rA 67, (0, i), (0, j), (0, a), (0, b), (0, c), (0, key), (1, x), (9, 0), (0, p + 1), (0, oI (upT m lu nu i.toNat p.toNat)), (0, oI (loT m ll nl j.toNat p.toNat))]) (show am_cd 250 163 = (4, 166, 9, 1, []) by decide +kernel) rfl rfl ?_
      refine e_go (show am_cd 250 166 = (12, 76, 0, 0, []) by decide +kernel) ?_
      exact h
    · replace h := h.2 hc
      refine e_ldi (show am_cd 250 109 = (2, 111, 11, 0, []) by decide +kernel) rfl ?_
      refine e_ic (show am_cd 250 111 = (0, 112, 0, -1, []) by decide +kernel) ?_
      refine e_cmp0 (show am_cd 250 112 = (11, 115, 163, 0, []) by decide +kernel) (fun hc => ?_) (fun hc => ?_)
      · replace h := h.1 hc
        refine e_inc (la2 := [rA 67, (0, i), (0, j), (0, a), (0, b), (0, c), (0, key), (1, x), (9, 0), (0, p + 1), (0, oI (upT m lu nu i.toNat p.toNat)), (0, oI (loT m ll nl j.toNat p.toNat))]) (show am_cd 250 163 = (4, 166, 9, 1, []) by decide +kernel) rfl rfl ?_
        refine e_go (show am_cd 250 166 = (12, 76, 0, 0, []) by decide +kernel) ?_
        exact h
      · replace h := h.2 hc
        refine e_lda (v := 67) (show am_cd 250 115 = (2, 116, 0, 2, []) by decide +kernel) rfl ?_
        refine e_ldi (show am_cd 250 116 = (2, 118, 5, 0, []) by decide +kernel) rfl ?_
        refine e_ldi (show am_cd 250 118 = (2, 120, 9, 0, []) by decide +kernel) rfl ?_
        refine e_cV (z := 0) (a := 67) (as := [(0, c), (0, p)]) (rest := []) (show am_cd 250 120 = (40, 123, 201, 0, [265]) by decide +kernel) (by decide +kernel) rfl rfl (Nat.le_of_ble_eq_true rfl) rfl ?_
        refine Cl.mono (Cl.up (c_mayCome (d := d) h.1) (by omega)) ?_
        rintro _ _ ⟨rfl, rfl⟩
        refine ⟨fun _ h9 => (by cases h9), ?_⟩
        replace h := h.2
        show Ev _ 250 _ 123 [rA 67, (0, i), (0, j), (0, a), (0, b), (0, c), (0, key), (1, x), (9, 0), (0, p), (0, oI (upT m lu nu i.toNat p.toNat)), (0, oI (loT m ll nl j.toNat p.toNat))] [(0, bI (!(isI m c.toNat && isI m p.toNat)))] _
        refine e_ifb1 (show am_cd 250 123 = (10, 126, 129, 1, []) by decide +kernel) (fun hc => ?_) (fun hc => ?_)
        · replace h := h.1 hc
          refine e_ldl (show am_cd 250 129 = (2, 131, 7, 1, []) by decide +kernel) rfl ?_
          refine e_lda (v := 67) (show am_cd 250 131 = (2, 132, 0, 2, []) by decide +kernel) rfl ?_
          refine e_ldi (show am_cd 250 132 = (2, 133, 3, 0, []) by decide +kernel) rfl ?_
          refine e_ldi (show am_cd 250 133 = (2, 135, 4, 0, []) by decide +kernel) rfl ?_
          refine e_ldi (show am_cd 250 135 = (2, 137, 5, 0, []) by decide +kernel) rfl ?_
          refine e_ldi (show am_cd 250 137 = (2, 139, 9, 0, []) by decide +kernel) rfl ?_
          refine e_cV (z := 0) (a := 67) (as := [(0, a), (0, b), (0, c), (0, p)]) (rest := [(1, x)]) (show am_cd 250 139 = (40, 142, 199, 0, [268]) by decide +kernel) (by decide +kernel) rfl rfl (Nat.le_of_ble_eq_true rfl) rfl ?_
          refine Cl.mono (Cl.up (c_broken (hw := hw) (d := d) h.1) (by omega)) ?_
          rintro _ _ ⟨rfl, rfl⟩
          refine ⟨fun _ h9 => (by cases h9), ?_⟩
          replace h := h.2
          show Ev _ 250 _ 142 [rA 67, (0, i), (0, j), (0, a), (0, b), (0, c), (0, key), (1, x), (9, 0), (0, p), (0, oI (upT m lu nu i.toNat p.toNat)), (0, oI (loT m ll nl j.toNat p.toNat))] [(0, ((brs m wo a.toNat b.toNat c.toNat p.toNat : Nat) : Int)), (1, x)] _
          refine e_i2l (show am_cd 250 142 = (8, 143, 0, 0, []) by decide +kernel) ?_
          refine e_lda (v := 67) (show am_cd 250 143 = (2, 144, 0, 2, []) by decide +kernel) rfl ?_
          refine e_ldi (show am_cd 250 144 = (2, 146, 10, 0, []) by decide +kernel) rfl ?_
          refine e_ldi (show am_cd 250 146 = (2, 148, 11, 0, []) by decide +kernel) rfl ?_
          refine e_ldi (show am_cd 250 148 = (2, 150, 4, 0, []) by decide +kernel) rfl ?_
          refine e_ldi (show am_cd 250 150 = (2, 152, 5, 0, []) by decide +kernel) rfl ?_
          refine e_ldi (show am_cd 250 152 = (2, 154, 9, 0, []) by decide +kernel) rfl ?_
          refine e_cV (z := 0) (a := 67) (as := [(0, oI (upT m lu nu i.toNat p.toNat)), (0, oI (loT m ll nl j.toNat p.toNat)), (0, b), (0, c), (0, p)]) (rest := [(1, w32 ((brs m wo a.toNat b.toNat c.toNat p.toNat : Nat) : Int)), (1, x)]) (show am_cd 250 154 = (40, 157, 250, 0, [420]) by decide +kernel) (by decide +kernel) rfl rfl (Nat.le_of_ble_eq_true rfl) rfl ?_
          refine Cl.mono (Cl.up (hrL _ _ _ _ _ _ _ h.1) (by omega)) ?_
          rintro _ _ ⟨x2, w3, t4, rfl, rfl, hp⟩
          refine ⟨fun _ h9 => (by cases h9), ?_⟩
          replace h := h.2 x2 w3 t4 hp
          show Ev _ 250 _ 157 [rA 67, (0, i), (0, j), (0, a), (0, b), (0, c), (0, key), (1, x), (9, 0), (0, p), (0, oI (upT m lu nu i.toNat p.toNat)), (0, oI (loT m ll nl j.toNat p.toNat))] [(1, x2), (1, w32 ((brs m wo a.toNat b.toNat c.toNat p.toNat : Nat) : Int)), (1, x)] _
          refine e_ladd (show am_cd 250 157 = (6, 158, 0, 0, []) by decide +kernel) ?_
          refine e_minl (z := 0) (show am_cd 250 158 = (33, 161, 11, 0, [424]) by decide +kernel) (Nat.le_of_ble_eq_true rfl) ?_
          refine e_stl (la2 := [rA 67, (0, i), (0, j), (0, a), (0, b), (0, c), (0, key), (1, if w64 ((w32 ((brs m wo a.toNat b.toNat c.toNat p.toNat : Nat) : Int)) + x2) < w64 x then ((w32 ((brs m wo a.toNat b.toNat c.toNat p.toNat : Nat) : Int)) + x2) else x), (9, 0), (0, p), (0, oI (upT m lu nu i.toNat p.toNat)), (0, oI (loT m ll nl j.toNat p.toNat))]) (show am_cd 250 161 = (3, 163, 7, 1, []) by decide +kernel) rfl ?_
          refine e_inc (la2 := [rA 67, (0, i), (0, j), (0, a), (0, b), (0, c), (0, key), (1, if w64 ((w32 ((brs m wo a.toNat b.toNat c.toNat p.toNat : Nat) : Int)) + x2) < w64 x then ((w32 ((brs m wo a.toNat b.toNat c.toNat p.toNat : Nat) : Int)) + x2) else x), (9, 0), (0, p + 1), (0, oI (upT m lu nu i.toNat p.toNat)), (0, oI (loT m ll nl j.toNat p.toNat))]) (show am_cd 250 163 = (4, 166, 9, 1, []) by decide +kernel) rfl rfl ?_
          refine e_go (show am_cd 250 166 = (12, 76, 0, 0, []) by decide +kernel) ?_
          exact h
        · replace h := h.2 hc
          refine e_go (show am_cd 250 126 = (12, 163, 0, 0, []) by decide +kernel) ?_
          refine e_inc (la2 := [rA 67, (0, i), (0, j), (0, a), (0, b), (0, c), (0, key), (1, x), (9, 0), (0, p + 1), (0, oI (upT m lu nu i.toNat p.toNat)), (0, oI (loT m ll nl j.toNat p.toNat))]) (show am_cd 250 163 = (4, 166, 9, 1, []) by decide +kernel) rfl rfl ?_
          refine e_go (show am_cd 250 166 = (12, 76, 0, 0, []) by decide +kernel) ?_
          exact h

