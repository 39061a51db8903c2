/-! Words as numbers, and how often each is there. -/
/-- a row of letters with k letters of entry e behind it -/
def fcd (m : eW) (e x : Nat) : Nat → Nat
  | 0 => x
  | k + 1 => 27 * fcd m e x k + (m 80 (5 * e + k)).toNat
def tlG (m : eW) (R : Nat → Nat → Nat → List Nat) (l g x e : Nat) : List Nat := if m 77 e = (g : Int) ∧ fmN m e ≤ l then (if m 78 e = -1 then (if fmN m e = l then [fcd m e x (fmN m e)] else []) else R (l - fmN m e) (m 78 e).toNat (fcd m e x (fmN m e))) else []
def tlL (m : eW) : Nat → Nat → Nat → Nat → List Nat
  | 0, _, _, _ => []
  | f + 1, l, g, x => lsD (tlG m (tlL m f) l g x) (nE m)
theorem tlL_stab {m : eW} (he : WFe m) : ∀ (f f2 l g x : Nat), l < f → l < f2 → tlL m f l g x = tlL m f2 l g x := by
  intro f
  induction f with
  | zero => intro f2 l g x h; omega
  | succ f ih =>
    intro f2 l g x h1 h2
    match f2, h2 with
    | 0, h2 => omega
    | f2 + 1, h2 =>
      unfold tlL
      refine lsD_congr (fun e hx => ?_)
      have hfm := he.fm hx
      unfold tlG
      by_cases hc : m 77 e = (g : Int) ∧ fmN m e ≤ l
      · rw [if_pos hc, if_pos hc, ih f2 (l - fmN m e) _ _ (by omega) (by omega)]
      · rw [if_neg hc, if_neg hc]
theorem tlL_step {m : eW} (he : WFe m) {f l g x : Nat} (hl : l ≤ f) : tlL m (f + 1) l g x = lsD (tlG m (tlL m (f + 1)) l g x) (nE m) := by
  rw [tlL]
  refine lsD_congr (fun e hx => ?_)
  have hfm := he.fm hx
  unfold tlG
  by_cases hc : m 77 e = (g : Int) ∧ fmN m e ≤ l
  · rw [if_pos hc, if_pos hc, tlL_stab he f (f + 1) (l - fmN m e) _ _ (by omega) (by omega)]
  · rw [if_neg hc, if_neg hc]
def tl (m : eW) (l g x : Nat) : List Nat := tlL m 5 l g x
theorem tl_eq {m : eW} (he : WFe m) {l g x : Nat} (hl : l ≤ 4) : tl m l g x = lsD (tlG m (tl m) l g x) (nE m) := tlL_step he hl
theorem tlL_len {m : eW} (he : WFe m) : ∀ (f l g x : Nat), (tlL m f l g x).length ≤ 16 ^ l := by
  intro f
  induction f with
  | zero => intro l g x; exact Nat.zero_le _
  | succ f ih =>
    intro l g x
    unfold tlL
    rw [lsD_len]
    have hn := he.n.2
    match l with
    | 0 =>
      have hz : sm (fun e => (tlG m (tlL m f) 0 g x e).length) (nE m) = 0 := sm_zero.mpr (fun e hx => by
        have hfm := he.fm hx
        unfold tlG
        rw [if_neg (show ¬ (m 77 e = (g : Int) ∧ fmN m e ≤ 0) by omega)]
        rfl)
      rw [hz]
      exact Nat.zero_le _
    | l + 1 =>
      have h1 := sm_bound (f := fun e => (tlG m (tlL m f) (l + 1) g x e).length) (n := nE m) (c := 16 ^ l) (fun e hx => by
        have hfm := he.fm hx
        have hpos : 0 < 16 ^ l := Nat.pow_pos (by decide)
        unfold tlG
        split
        · split
          · split
            · exact hpos
            · exact Nat.zero_le _
          · exact Nat.le_trans (ih _ _ _) (Nat.pow_le_pow_right (by decide) (by omega))
        · exact Nat.zero_le _)
      refine Nat.le_trans h1 ?_
      rw [Nat.pow_succ, Nat.mul_comm]
      exact Nat.mul_le_mul_left _ hn
theorem fcd_lt {m : eW} (he : WFe m) {e x p : Nat} (hx : e < nE m) (hp : x < 27 ^ p) : ∀ k, k ≤ fmN m e → fcd m e x k < 27 ^ (p + k) := by
  intro k
  induction k with
  | zero => intro _; exact hp
  | succ k ih =>
    intro hk
    have h1 := ih (by omega)
    have hfm := he.fm hx
    have h2 := (he.2 e hx).2.2.2 k (by omega)
    unfold fcd
    rw [← Nat.add_assoc, Nat.pow_succ]
    omega
/-- a list as a book: how often each number is in it -/
def cD (L : List Nat) : Int → Option Int := fun key => if L.count key.toNat = 0 then none else some (L.count key.toNat : Int)
theorem cD_nil : cD [] = fun _ => none := rfl
theorem cD_add (L : List Nat) (x : Nat) (key : Int) (hk : 0 ≤ key) : uD (cD L) (x : Int) ((L.count x : Int) + 1) key = cD (L ++ [x]) key := by
  unfold uD cD
  by_cases h : key = (x : Int)
  · subst h
    rw [if_pos rfl, Int.toNat_natCast, List.count_append, List.count_singleton_self, if_neg (by omega)]
    congr 1
  · rw [if_neg h, List.count_append, List.count_singleton]
    have : ¬ x = key.toNat := by omega
    simp [this]
theorem DV.ext {w : eW} {D D2 : Int → Option Int} (h : DV w D) (he : ∀ key, 0 ≤ key → D key = D2 key) : DV w D2 := ⟨h.1, fun key v hk => by rw [← he key hk]; exact h.2 key v hk⟩
def TPR (m : eW) (B : Nat) (L0 : List Nat) (g l x : Int) (w : eW) (_ : eT) : Prop := MX w m ∧ DV w (cD L0) ∧ w 67 38 ≤ L0.length ∧ L0.length + (tl m l.toNat g.toNat x.toNat).length ≤ 400000 ∧ (0 ≤ g ∧ g ≤ 3) ∧ (0 ≤ l ∧ l ≤ 4 ∧ l.toNat < B) ∧ 0 ≤ x ∧ x.toNat < 27 ^ (4 - l.toNat)
def TPO (m : eW) (L0 : List Nat) (g l x : Int) (w : eW) (t : eT) (w2 : eW) (t2 : eT) : Prop := t2 = t ∧ Fm [92, 93] [38] w w2 ∧ DV w2 (cD (L0 ++ tl m l.toNat g.toNat x.toNat)) ∧ w2 67 38 ≤ (L0 ++ tl m l.toNat g.toNat x.toNat).length

theorem g_tal0 {d : Nat} {Q : Option aV → aS → Prop} {w : eW} {t : eT} {g l x : Int} (h : Ev (d + 3) 259 Q 3 [rA 67, (0, g), (0, l), (0, x), (0, 0), (9, 0), (9, 0)] [] (enc w t)) : Cl (d + 3) 259 [rA 67, (0, g), (0, l), (0, x)] (enc w t) Q := by
  show Ev (d + 3) 259 Q 0 [rA 67, (0, g), (0, l), (0, x), (9, 0), (9, 0), (9, 0)] [] (enc w t)
  refine e_ic (show am_cd 259 0 = (0, 1, 0, 0, []) by decide +kernel) ?_
  refine e_sti (la2 := [rA 67, (0, g), (0, l), (0, x), (0, 0), (9, 0), (9, 0)]) (show am_cd 259 1 = (3, 3, 4, 0, []) by decide +kernel) rfl ?_
  exact h

theorem g_tal1 {d : Nat} {Q : Option aV → aS → Prop} {w : eW} {t : eT} {g l x e : Int} {m : eW} {D : Int → Option Int} {J J2 : aV} (h : ((w32 (w 67 12) ≤ w32 e → Q none (enc w t)) ∧ (¬ (w32 (w 67 12) ≤ w32 e) → (0 ≤ w32 e ∧ w32 e < 16) ∧ ((¬ w32 (w 77 (w32 e).toNat) = w32 g → Ev (d + 3) 259 Q 3 [rA 67, (0, g), (0, l), (0, x), (0, e + 1), J, J2] [] (enc w t)) ∧ (¬ (¬ w32 (w 77 (w32 e).toNat) = w32 g) → (0 ≤ w32 e ∧ w32 e < 16) ∧ ((w32 (w 79 (w32 e).toNat) ≤ w32 l → Ev (d + 3) 259 Q 43 [rA 67, (0, g), (0, l), (0, x), (0, e), (0, x), (0, 0)] [] (enc w t)) ∧ (¬ (w32 (w 79 (w32 e).toNat) ≤ w32 l) → Ev (d + 3) 259 Q 3 [rA 67, (0, g), (0, l), (0, x), (0, e + 1), J, J2] [] (enc w t)))))))) : Ev (d + 3) 259 Q 3 [rA 67, (0, g), (0, l), (0, x), (0, e), J, J2] [] (enc w t) := by
  refine e_ldi (show am_cd 259 3 = (2, 5, 4, 0, []) by decide +kernel) rfl ?_
  refine e_lda (v := 67) (show am_cd 259 5 = (2, 6, 0, 2, []) by decide +kernel) rfl ?_
  refine e_getf (a := 67) (tg := 0) (show am_cd 259 6 = (18, 9, 1212, 0, [186]) by decide +kernel) (by decide +kernel) (by decide +kernel) rfl ?_
  refine e_cmp3 (show am_cd 259 9 = (11, 12, 162, 3, []) by decide +kernel) (fun hc => ?_) (fun hc => ?_)
  · replace h := h.1 hc
    exact e_retv (show am_cd 259 162 = (36, 163, 3, 0, []) by decide +kernel) (by decide +kernel) h
  · replace h := h.2 hc
    refine e_lda (v := 67) (show am_cd 259 12 = (2, 13, 0, 2, []) by decide +kernel) rfl ?_
    refine e_getr (a := 67) (r := 77) (show am_cd 259 13 = (18, 16, 1213, 2, [37]) by decide +kernel) (by decide +kernel) (by decide +kernel) rfl ?_
    refine e_ldi (show am_cd 259 16 = (2, 18, 4, 0, []) by decide +kernel) rfl ?_
    refine e_iald (a := 77) (n := 16) (show am_cd 259 18 = (21, 19, 0, 0, []) by decide +kernel) (by decide +kernel) (by decide +kernel) (by decide +kernel) h.1 ?_
    replace h := h.2
    refine e_ldi (show am_cd 259 19 = (2, 20, 1, 0, []) by decide +kernel) rfl ?_
    refine e_cmp1 (show am_cd 259 20 = (11, 23, 156, 1, []) by decide +kernel) (fun hc => ?_) (fun hc => ?_)
    · replace h := h.1 hc
      refine e_inc (la2 := [rA 67, (0, g), (0, l), (0, x), (0, e + 1), J, J2]) (show am_cd 259 156 = (4, 159, 4, 1, []) by decide +kernel) rfl rfl ?_
      refine e_go (show am_cd 259 159 = (12, 3, 0, 0, []) by decide +kernel) ?_
      exact h
    · replace h := h.2 hc
      refine e_lda (v := 67) (show am_cd 259 23 = (2, 24, 0, 2, []) by decide +kernel) rfl ?_
      refine e_getr (a := 67) (r := 79) (show am_cd 259 24 = (18, 27, 1215, 2, [43]) by decide +kernel) (by decide +kernel) (by decide +kernel) rfl ?_
      refine e_ldi (show am_cd 259 27 = (2, 29, 4, 0, []) by decide +kernel) rfl ?_
      refine e_iald (a := 79) (n := 16) (show am_cd 259 29 = (21, 30, 0, 0, []) by decide +kernel) (by decide +kernel) (by decide +kernel) (by decide +kernel) h.1 ?_
      replace h := h.2
      refine e_ldi (show am_cd 259 30 = (2, 31, 2, 0, []) by decide +kernel) rfl ?_
      refine e_cmp5 (show am_cd 259 31 = (11, 34, 37, 5, []) by decide +kernel) (fun hc => ?_) (fun hc => ?_)
      · replace h := h.1 hc
        refine e_ldi (show am_cd 259 37 = (2, 38, 3, 0, []) by decide +kernel) rfl ?_
        refine e_sti (la2 := [rA 67, (0, g), (0, l), (0, x), (0, e), (0, x), J2]) (show am_cd 259 38 = (3, 40, 5, 0, []) by decide +kernel) rfl ?_
        refine e_ic (show am_cd 259 40 = (0, 41, 0, 0, []) by decide +kernel) ?_
        refine e_sti (la2 := [rA 67, (0, g), (0, l), (0, x), (0, e), (0, x), (0, 0)]) (show am_cd 259 41 = (3, 43, 6, 0, []) by decide +kernel) rfl ?_
        exact h
      · replace h := h.2 hc
        refine e_go (show am_cd 259 34 = (12, 156, 0, 0, []) by decide +kernel) ?_
        refine e_inc (la2 := [rA 67, (0, g), (0, l), (0, x), (0, e + 1), J, J2]) (show am_cd 259 156 = (4, 159, 4, 1, []) by decide +kernel) rfl rfl ?_
        refine e_go (show am_cd 259 159 = (12, 3, 0, 0, []) by decide +kernel) ?_
        exact h

theorem g_tal2 {d : Nat} {Q : Option aV → aS → Prop} {w : eW} {t : eT} {g l x e y i : Int} {m : eW} {D : Int → Option Int} {J J2 : aV} {γT : Type} {PRT : γT → Int → Int → Int → eW → eT → Prop} {POT : γT → Int → Int → Int → eW → eT → eW → eT → Prop} (hrT : ∀ (g : γT) (a1 a2 a3 : Int) (w : eW) (t : eT), PRT g a1 a2 a3 w t → Cl (d + 2) 259 [rA 67, (0, a1), (0, a2), (0, a3)] (enc w t) (fun r S2 => ∃ w2 t2, r = none ∧ S2 = enc w2 t2 ∧ POT g a1 a2 a3 w t w2 t2)) (h : (0 ≤ w32 e ∧ w32 e < 16) ∧ ((w32 (w 79 (w32 e).toNat) ≤ w32 i → (0 ≤ w32 e ∧ w32 e < 16) ∧ ((w32 (w 78 (w32 e).toNat) = w32 (-1) → (0 ≤ w32 e ∧ w32 e < 16) ∧ ((¬ w32 (w 79 (w32 e).toNat) = w32 l → Ev (d + 3) 259 Q 3 [rA 67, (0, g), (0, l), (0, x), (0, e + 1), (0, y), (0, i)] [] (enc w t)) ∧ (¬ (¬ w32 (w 79 (w32 e).toNat) = w32 l) → (DV w D ∧ 0 ≤ y ∧ y ≤ 2147483647) ∧ ((((D y).isSome) = false → (DV w D ∧ 0 ≤ y ∧ y ≤ 2147483647) ∧ (∀ w1, (FrT w w1 ∧ w1 67 38 ≤ w 67 38 + 1 ∧ (DV w1 (uD D y 1) ∨ (500000 ≤ w 67 38 ∧ DV w1 D))) → Ev (d + 3) 259 Q 3 [rA 67, (0, g), (0, l), (0, x), (0, e + 1), (0, y), (0, i)] [] (enc w1 t))) ∧ (((D y).isSome) = true → (DV w D ∧ (0 ≤ y ∧ y ≤ 2147483647) ∧ (D y).isSome = true) ∧ (DV w D ∧ 0 ≤ y ∧ y ≤ 2147483647) ∧ (∀ w2, (FrT w w2 ∧ w2 67 38 ≤ w 67 38 + 1 ∧ (DV w2 (uD D y (((D y).getD 0) + 1)) ∨ (500000 ≤ w 67 38 ∧ DV w2 D))) → Ev (d + 3) 259 Q 3 [rA 67, (0, g), (0, l), (0, x), (0, e + 1), (0, y), (0, i)] [] (enc w2 t))))))) ∧ (¬ (w32 (w 78 (w32 e).toNat) = w32 (-1)) → (0 ≤ w32 e ∧ w32 e < 16) ∧ (0 ≤ w32 e ∧ w32 e < 16) ∧ (∃ g3, (PRT g3 (w 78 (w32 e).toNat) (l - (w 79 (w32 e).toNat)) y w t) ∧ (∀ w4 t5, (POT g3 (w 78 (w32 e).toNat) (l - (w 79 (w32 e).toNat)) y w t w4 t5) → Ev (d + 3) 259 Q 3 [rA 67, (0, g), (0, l), (0, x), (0, e + 1), (0, y), (0, i)] [] (enc w4 t5)))))) ∧ (¬ (w32 (w 79 (w32 e).toNat) ≤ w32 i) → (0 ≤ w32 ((5 * e) + i) ∧ w32 ((5 * e) + i) < 80) ∧ (Ev (d + 3) 259 Q 43 [rA 67, (0, g), (0, l), (0, x), (0, e), (0, (27 * y) + (w 80 (w32 ((5 * e) + i)).toNat)), (0, i + 1)] [] (enc w t))))) : Ev (d + 3) 259 Q 43 [rA 67, (0, g), (0, l), (0, x), (0, e), (0, y), (0, i)] [] (enc w t) := by
  refine e_ldi (show am_cd 259 43 = (2, 45, 6, 0, []) by decide +kernel) rfl ?_
  refine e_lda (v := 67) (show am_cd 259 45 = (2, 46, 0, 2, []) by decide +kernel) rfl ?_
  refine e_getr (a := 67) (r := 79) (show am_cd 259 46 = (18, 49, 1215, 2, [43]) by decide +kernel) (by decide +kernel) (by decide +kernel) rfl ?_
  refine e_ldi (show am_cd 259 49 = (2, 51, 4, 0, []) by decide +kernel) rfl ?_
  refine e_iald (a := 79) (n := 16) (show am_cd 259 51 = (21, 52, 0, 0, []) by decide +kernel) (by decide +kernel) (by decide +kernel) (by decide +kernel) h.1 ?_
  replace h := h.2
  refine e_cmp3 (show am_cd 259 52 = (11, 55, 81, 3, []) by decide +kernel) (fun hc => ?_) (fun hc => ?_)
  · replace h := h.1 hc
    refine e_lda (v := 67) (show am_cd 259 81 = (2, 82, 0, 2, []) by decide +kernel) rfl ?_
    refine e_getr (a := 67) (r := 78) (show am_cd 259 82 = (18, 85, 1214, 2, [40]) by decide +kernel) (by decide +kernel) (by decide +kernel) rfl ?_
    refine e_ldi (show am_cd 259 85 = (2, 87, 4, 0, []) by decide +kernel) rfl ?_
    refine e_iald (a := 78) (n := 16) (show am_cd 259 87 = (21, 88, 0, 0, []) by decide +kernel) (by decide +kernel) (by decide +kernel) (by decide +kernel) h.1 ?_
    replace h := h.2
    refine e_ic (show am_cd 259 88 = (0, 89, 0, -1, []) by decide +kernel) ?_
    refine e_cmp0 (show am_cd 259 89 = (11, 92, 117, 0, []) by decide +kernel) (fun hc => ?_) (fun hc => ?_)
    · replace h := h.1 hc
      refine e_lda (v := 67) (show am_cd 259 117 = (2, 118, 0, 2, []) by decide +kernel) rfl ?_
      refine e_getr (a := 67) (r := 79) (show am_cd 259 118 = (18, 121, 1215, 2, [43]) by decide +kernel) (by decide +kernel) (by decide +kernel) rfl ?_
      refine e_ldi (show am_cd 259 121 = (2, 123, 4, 0, []) by decide +kernel) rfl ?_
      refine e_iald (a := 79) (n := 16) (show am_cd 259 123 = (21, 124, 0, 0, []) by decide +kernel) (by decide +kernel) (by decide +kernel) (by decide +kernel) h.1 ?_
      replace h := h.2
      refine e_ldi (show am_cd 259 124 = (2, 125, 2, 0, []) by decide +kernel) rfl ?_
      refine e_cmp1 (show am_cd 259 125 = (11, 128, 156, 1, []) by decide +kernel) (fun hc => ?_) (fun hc => ?_)
      · replace h := h.1 hc
        refine e_inc (la2 := [rA 67, (0, g), (0, l), (0, x), (0, e + 1), (0, y), (0, i)]) (show am_cd 259 156 = (4, 159, 4, 1, []) by decide +kernel) rfl rfl ?_
        refine e_go (show am_cd 259 159 = (12, 3, 0, 0, []) by decide +kernel) ?_
        exact h
      · replace h := h.2 hc
        refine e_lda (v := 67) (show am_cd 259 128 = (2, 129, 0, 2, []) by decide +kernel) rfl ?_
        refine e_ldi (show am_cd 259 129 = (2, 131, 5, 0, []) by decide +kernel) rfl ?_
        refine e_lda (v := 67) (show am_cd 259 131 = (2, 132, 0, 2, []) by decide +kernel) rfl ?_
        refine e_ldi (show am_cd 259 132 = (2, 134, 5, 0, []) by decide +kernel) rfl ?_
        refine e_cV (z := 0) (a := 67) (as := [(0, y)]) (rest := [(0, y), rA 67]) (show am_cd 259 134 = (40, 137, 205, 0, [295]) by decide +kernel) (by decide +kernel) rfl rfl (Nat.le_of_ble_eq_true rfl) rfl ?_
        refine Cl.mono (Cl.up (c_isKnown (d := d) h.1) (by omega)) ?_
        rintro _ _ ⟨rfl, rfl⟩
        refine ⟨fun _ h9 => (by cases h9), ?_⟩
        replace h := h.2
        show Ev _ 259 _ 137 [rA 67, (0, g), (0, l), (0, x), (0, e), (0, y), (0, i)] [(0, bI ((D y).isSome)), (0, y), rA 67] _
        refine e_ifb0 (show am_cd 259 137 = (10, 140, 151, 0, []) by decide +kernel) (fun hc => ?_) (fun hc => ?_)
        · replace h := h.1 hc
          refine e_lc (show am_cd 259 151 = (1, 152, 0, 1, []) by decide +kernel) ?_
          refine e_cV (z := 0) (a := 67) (as := [(0, y), (1, 1)]) (rest := []) (show am_cd 259 152 = (40, 155, 207, 0, [307]) by decide +kernel) (by decide +kernel) rfl rfl (Nat.le_of_ble_eq_true rfl) rfl ?_
          refine Cl.mono (Cl.up (c_learns (d := d) h.1) (by omega)) ?_
          rintro _ _ ⟨w1, rfl, rfl, hp⟩
          refine ⟨fun _ h9 => (by cases h9), ?_⟩
          replace h := h.2 w1 hp
          show Ev _ 259 _ 155 [rA 67, (0, g), (0, l), (0, x), (0, e), (0, y), (0, i)] [(1, 1)] _
          refine e_pop2 (show am_cd 259 155 = (17, 156, 0, 0, []) by decide +kernel) ?_
          refine e_inc (la2 := [rA 67, (0, g), (0, l), (0, x), (0, e + 1), (0, y), (0, i)]) (show am_cd 259 156 = (4, 159, 4, 1, []) by decide +kernel) rfl rfl ?_
          refine e_go (show am_cd 259 159 = (12, 3, 0, 0, []) by decide +kernel) ?_
          exact h
        · replace h := h.2 hc
          refine e_lda (v := 67) (show am_cd 259 140 = (2, 141, 0, 2, []) by decide +kernel) rfl ?_
          refine e_ldi (show am_cd 259 141 = (2, 143, 5, 0, []) by decide +kernel) rfl ?_
          refine e_cV (z := 0) (a := 67) (as := [(0, y)]) (rest := [(0, y), rA 67]) (show am_cd 259 143 = (40, 146, 206, 0, [298]) by decide +kernel) (by decide +kernel) rfl rfl (Nat.le_of_ble_eq_true rfl) rfl ?_
          refine Cl.mono (Cl.up (c_knownD (d := d) h.1) (by omega)) ?_
          rintro _ _ ⟨rfl, rfl⟩
          refine ⟨fun _ h9 => (by cases h9), ?_⟩
          replace h := h.2
          show Ev _ 259 _ 146 [rA 67, (0, g), (0, l), (0, x), (0, e), (0, y), (0, i)] [(1, (D y).getD 0), (0, y), rA 67] _
          refine e_lc (show am_cd 259 146 = (1, 147, 0, 1, []) by decide +kernel) ?_
          refine e_ladd (show am_cd 259 147 = (6, 148, 0, 0, []) by decide +kernel) ?_
          refine e_go (show am_cd 259 148 = (12, 152, 0, 0, []) by decide +kernel) ?_
          refine e_cV (z := 0) (a := 67) (as := [(0, y), (1, ((D y).getD 0) + 1)]) (rest := []) (show am_cd 259 152 = (40, 155, 207, 0, [307]) by decide +kernel) (by decide +kernel) rfl rfl (Nat.le_of_ble_eq_true rfl) rfl ?_
          refine Cl.mono (Cl.up (c_learns (d := d) h.1) (by omega)) ?_
          rintro _ _ ⟨w2, rfl, rfl, hp⟩
          refine ⟨fun _ h9 => (by cases h9), ?_⟩
          replace h := h.2 w2 hp
          show Ev _ 259 _ 155 [rA 67, (0, g), (0, l), (0, x), (0, e), (0, y), (0, i)] [(1, ((D y).getD 0) + 1)] _
          refine e_pop2 (show am_cd 259 155 = (17, 156, 0, 0, []) by decide +kernel) ?_
          refine e_inc (la2 := [rA 67, (0, g), (0, l), (0, x), (0, e + 1), (0, y), (0, i)]) (show am_cd 259 156 = (4, 159, 4, 1, []) by decide +kernel) rfl rfl ?_
          refine e_go (show am_cd 259 159 = (12, 3, 0, 0, []) by decide +kernel) ?_
          exact h
    · replace h := h.2 hc
      refine e_lda (v := 67) (show am_cd 259 92 = (2, 93, 0, 2, []) by decide +kernel) rfl ?_
      refine e_lda (v := 67) (show am_cd 259 93 = (2, 94, 0, 2, []) by decide +kernel) rfl ?_
      refine e_getr (a := 67) (r := 78) (show am_cd 259 94 = (18, 97, 1214, 2, [40]) by decide +kernel) (by decide +kernel) (by decide +kernel) rfl ?_
      refine e_ldi (show am_cd 259 97 = (2, 99, 4, 0, []) by decide +kernel) rfl ?_
      refine e_iald (a := 78) (n := 16) (show am_cd 259 99 = (21, 100, 0, 0, []) by decide +kernel) (by decide +kernel) (by decide +kernel) (by decide +kernel) h.1 ?_
      replace h := h.2
      refine e_ldi (show am_cd 259 100 = (2, 101, 2, 0, []) by decide +kernel) rfl ?_
      refine e_lda (v := 67) (show am_cd 259 101 = (2, 102, 0, 2, []) by decide +kernel) rfl ?_
      refine e_getr (a := 67) (r := 79) (show am_cd 259 102 = (18, 105, 1215, 2, [43]) by decide +kernel) (by decide +kernel) (by decide +kernel) rfl ?_
      refine e_ldi (show am_cd 259 105 = (2, 107, 4, 0, []) by decide +kernel) rfl ?_
      refine e_iald (a := 79) (n := 16) (show am_cd 259 107 = (21, 108, 0, 0, []) by decide +kernel) (by decide +kernel) (by decide +kernel) (by decide +kernel) h.1 ?_
      replace h := h.2
      refine e_isub (show am_cd 259 108 = (5, 109, 1, 0, []) by decide +kernel) ?_
      refine e_ldi (show am_cd 259 109 = (2, 111, 5, 0, []) by decide +kernel) rfl ?_
      refine e_cV (z := 0) (a := 67) (as := [(0, w 78 (w32 e).toNat), (0, l - (w 79 (w32 e).toNat)), (0, y)]) (rest := []) (show am_cd 259 111 = (40, 114, 259, 0, [449]) by decide +kernel) (by decide +kernel) rfl rfl (Nat.le_of_ble_eq_true rfl) rfl ?_
      obtain ⟨g3, h⟩ := h
      refine Cl.mono (Cl.up (hrT g3 _ _ _ _ _ h.1) (by omega)) ?_
      rintro _ _ ⟨w4, t5, rfl, rfl, hp⟩
      refine ⟨fun _ h9 => (by cases h9), ?_⟩
      replace h := h.2 w4 t5 hp
      show Ev _ 259 _ 114 [rA 67, (0, g), (0, l), (0, x), (0, e), (0, y), (0, i)] [] _
      refine e_go (show am_cd 259 114 = (12, 156, 0, 0, []) by decide +kernel) ?_
      refine e_inc (la2 := [rA 67, (0, g), (0, l), (0, x), (0, e + 1), (0, y), (0, i)]) (show am_cd 259 156 = (4, 159, 4, 1, []) by decide +kernel) rfl rfl ?_
      refine e_go (show am_cd 259 159 = (12, 3, 0, 0, []) by decide +kernel) ?_
      exact h
  · replace h := h.2 hc
    refine e_ic (show am_cd 259 55 = (0, 57, 1, 27, []) by decide +kernel) ?_
    refine e_ldi (show am_cd 259 57 = (2, 59, 5, 0, []) by decide +kernel) rfl ?_
    refine e_imul (show am_cd 259 59 = (5, 60, 2, 0, []) by decide +kernel) ?_
    refine e_lda (v := 67) (show am_cd 259 60 = (2, 61, 0, 2, []) by decide +kernel) rfl ?_
    refine e_getr (a := 67) (r := 80) (show am_cd 259 61 = (18, 64, 1216, 2, [46]) by decide +kernel) (by decide +kernel) (by decide +kernel) rfl ?_
    refine e_ic (show am_cd 259 64 = (0, 65, 0, 5, []) by decide +kernel) ?_
    refine e_ldi (show am_cd 259 65 = (2, 67, 4, 0, []) by decide +kernel) rfl ?_
    refine e_imul (show am_cd 259 67 = (5, 68, 2, 0, []) by decide +kernel) ?_
    refine e_ldi (show am_cd 259 68 = (2, 70, 6, 0, []) by decide +kernel) rfl ?_
    refine e_iadd (show am_cd 259 70 = (5, 71, 0, 0, []) by decide +kernel) ?_
    refine e_iald (a := 80) (n := 80) (show am_cd 259 71 = (21, 72, 0, 0, []) by decide +kernel) (by decide +kernel) (by decide +kernel) (by decide +kernel) h.1 ?_
    replace h := h.2
    refine e_iadd (show am_cd 259 72 = (5, 73, 0, 0, []) by decide +kernel) ?_
    refine e_sti (la2 := [rA 67, (0, g), (0, l), (0, x), (0, e), (0, (27 * y) + (w 80 (w32 ((5 * e) + i)).toNat)), (0, i)]) (show am_cd 259 73 = (3, 75, 5, 0, []) by decide +kernel) rfl ?_
    refine e_inc (la2 := [rA 67, (0, g), (0, l), (0, x), (0, e), (0, (27 * y) + (w 80 (w32 ((5 * e) + i)).toNat)), (0, i + 1)]) (show am_cd 259 75 = (4, 78, 6, 1, []) by decide +kernel) rfl rfl ?_
    refine e_go (show am_cd 259 78 = (12, 43, 0, 0, []) by decide +kernel) ?_
    exact h

