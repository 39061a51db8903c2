/-! The class: pairs that come next to two sides. -/

/-- two rows of letters, and all that is asked of the pairs and rules -/
def NX (l1 l2 : List Int) (m w : eW) : Prop := (AC w m ∧ LN w m ∧ RC w m ∧ WFp m ∧ WFr m) ∧ (w 2 8 = (l1.length : Int) ∧ LtC w 6 l1 ∧ l1.length ≤ 6 ∧ ∀ v ∈ l1, 0 ≤ v ∧ v ≤ 26) ∧ (w 2 9 = (l2.length : Int) ∧ LtC w 7 l2 ∧ l2.length ≤ 6 ∧ ∀ v ∈ l2, 0 ≤ v ∧ v ≤ 26)
theorem LtC.lo {w w2 : eW} {A : Nat} {l : List Int} (h : LtC w A l) (l3 : Lo w w2) (hA : A < 37) : LtC w2 A l := h.fr (l3 A (Or.inl hA))
theorem NX.lo {l1 l2 : List Int} {m w w2 : eW} (h : NX l1 l2 m w) (l : Lo w w2) : NX l1 l2 m w2 := by
  obtain ⟨⟨a1, a2, a3, a4, a5⟩, ⟨b1, b2, b3⟩, c1, c2, c3⟩ := h
  exact ⟨⟨a1.lo l, a2.lo l, a3.lo l, a4, a5⟩, ⟨by rw [l 2 (by omega)]; exact b1, b2.lo l (by decide), b3⟩, by rw [l 2 (by omega)]; exact c1, c2.lo l (by decide), c3⟩
def nfB (m : eW) (l1 l2 : List Int) (i j c : Nat) : Nat := bts (fun d => (upT m (ltF l1) l1.length i d).isSome && (loT m (ltF l2) l2.length j d).isSome && !(isI m c && isI m d)) (nP m)
theorem byU_b {m : eW} (h : WFp m) (c : Nat) : byU m c < 65536 ∧ byL m c < 65536 := ⟨bts_le (k := 16) h.n.2, bts_le (k := 16) h.n.2⟩
theorem cd_l {s l : Int} (hs : 0 ≤ s ∧ s ≤ 27) (hl : 0 ≤ l ∧ l ≤ 26) : (cdI s = (((l + 1).toNat : Nat) : Int)) ↔ s = l := by
  unfold cdI
  split <;> omega
/-- bits of the pairs with a letter above, below; 0 where there is none -/
def upB (m : eW) (l : List Int) (i : Nat) : Nat := if i < l.length then byU m (l.getD i 0 + 1).toNat else 0
def loB (m : eW) (l : List Int) (i : Nat) : Nat := if i < l.length then byL m (l.getD i 0 + 1).toNat else 0
theorem upB_t {m : eW} (hp : WFp m) {l : List Int} (hl : ∀ v ∈ l, 0 ≤ v ∧ v ≤ 26) {i d : Nat} : upB m l i < 65536 ∧ (upB m l i).testBit d = (decide (d < nP m) && decide (i < l.length ∧ m 68 d = ltF l i)) := by
  unfold upB
  by_cases h : i < l.length
  · rw [if_pos h]
    refine ⟨(byU_b hp _).1, ?_⟩
    unfold byU
    rw [bts_tb]
    by_cases hd : d < nP m
    · have hb := (hp.2.1 d hd).1
      congr 1
      rw [decide_eq_decide, cd_l hb (hl _ (gD_mem h))]
      exact ⟨fun h9 => ⟨h, h9⟩, fun h9 => h9.2⟩
    · rw [decide_eq_false hd]; rfl
  · rw [if_neg h]
    refine ⟨by decide, ?_⟩
    rw [Nat.zero_testBit, decide_eq_false (show ¬ (i < l.length ∧ m 68 d = ltF l i) from fun h9 => h h9.1), Bool.and_false]
theorem loB_t {m : eW} (hp : WFp m) {l : List Int} (hl : ∀ v ∈ l, 0 ≤ v ∧ v ≤ 26) {i d : Nat} : loB m l i < 65536 ∧ (loB m l i).testBit d = (decide (d < nP m) && decide (i < l.length ∧ m 69 d = ltF l i)) := by
  unfold loB
  by_cases h : i < l.length
  · rw [if_pos h]
    refine ⟨(byU_b hp _).2, ?_⟩
    unfold byL
    rw [bts_tb]
    by_cases hd : d < nP m
    · have hb := (hp.2.1 d hd).2.1
      congr 1
      rw [decide_eq_decide, cd_l hb (hl _ (gD_mem h))]
      exact ⟨fun h9 => ⟨h, h9⟩, fun h9 => h9.2⟩
    · rw [decide_eq_false hd]; rfl
  · rw [if_neg h]
    refine ⟨by decide, ?_⟩
    rw [Nat.zero_testBit, decide_eq_false (show ¬ (i < l.length ∧ m 69 d = ltF l i) from fun h9 => h h9.1), Bool.and_false]
theorem byL_0 {m : eW} (hp : WFp m) {d : Nat} : (byL m 0).testBit d = (decide (d < nP m) && decide (m 69 d = 27)) := by
  unfold byL
  rw [bts_tb]
  by_cases hd : d < nP m
  · congr 1
    rw [decide_eq_decide]
    exact cdI_0 (hp.2.1 d hd).2.1
  · rw [decide_eq_false hd]; rfl
theorem nfB_e {m : eW} (hp : WFp m) {l1 l2 : List Int} (h1 : ∀ v ∈ l1, 0 ≤ v ∧ v ≤ 26) (h2 : ∀ v ∈ l2, 0 ≤ v ∧ v ≤ 26) {i j c : Nat} : nfB m l1 l2 i j c = (upB m l1 i &&& (loB m l2 j ||| byL m 0)) ||| (if isI m c = true then 0 else insB m &&& loB m l2 j) := by
  apply Nat.eq_of_testBit_eq
  intro d
  have e3 : (if isI m c = true then 0 else insB m &&& loB m l2 j : Nat).testBit d = (!isI m c && ((insB m).testBit d && (loB m l2 j).testBit d)) := by
    cases isI m c with
    | true => rw [if_pos rfl, Nat.zero_testBit]; rfl
    | false => rw [if_neg (by decide), Nat.testBit_and]; rfl
  unfold nfB
  rw [bts_tb, Nat.testBit_or, Nat.testBit_and, Nat.testBit_or, e3, (upB_t hp h1).2, (loB_t hp h2).2, byL_0 hp, insB_bit]
  by_cases hd : d < nP m
  · have hb := hp.2.1 d hd
    rw [isI_of hd, decide_eq_true hd]
    simp only [Bool.true_and]
    unfold upT loT
    by_cases a1 : m 68 d = 27
    · have a2 : ¬ m 69 d = 27 := fun h9 => hb.2.2 ⟨a1, h9⟩
      have a3 : ¬ (i < l1.length ∧ m 68 d = ltF l1 i) := fun h9 => by
        have := (h1 _ (gD_mem (d := (0 : Int)) h9.1)).2
        have h8 : m 68 d = l1.getD i 0 := h9.2
        omega
      rw [if_pos a1, if_neg a2, decide_eq_true a1, decide_eq_false a2, decide_eq_false a3]
      by_cases a4 : j < l2.length ∧ m 69 d = ltF l2 j
      · rw [if_pos a4, decide_eq_true a4]
        cases isI m c <;> rfl
      · rw [if_neg a4, decide_eq_false a4]
        cases isI m c <;> rfl
    · rw [if_neg a1, decide_eq_false a1]
      by_cases a3 : i < l1.length ∧ m 68 d = ltF l1 i
      · rw [if_pos a3, decide_eq_true a3]
        by_cases a2 : m 69 d = 27
        · rw [if_pos a2, decide_eq_true a2]
          cases isI m c <;> simp
        · rw [if_neg a2, decide_eq_false a2]
          by_cases a4 : j < l2.length ∧ m 69 d = ltF l2 j
          · rw [if_pos a4, decide_eq_true a4]
            cases isI m c <;> simp
          · rw [if_neg a4, decide_eq_false a4]
            cases isI m c <;> simp
      · rw [if_neg a3, decide_eq_false a3]
        cases isI m c <;> simp
  · rw [decide_eq_false hd]
    have : isI m d = false := by unfold isI; rw [decide_eq_false hd]; rfl
    rw [this]
    simp

theorem g_np {d : Nat} {Q : Option aV → aS → Prop} {w : eW} {t : eT} {i j x : Int} {m : eW} {b : Nat × Nat} {P : Int → Int → Prop} {l1 l2 : List Int} (h : ((w32 (w 2 8) ≤ w32 i → ((w32 (w 2 9) ≤ w32 j → (AC w m ∧ WFp m ∧ ((0 : Int) ≤ iand x 31 ∧ (iand x 31 : Int) < 32)) ∧ (((isI m (iand x 31).toNat) = false → Q (some (0, ior (iand 0 (ior 0 (w 12 0))) (iand (w 8 8) 0))) (enc w t)) ∧ ((isI m (iand x 31).toNat) = true → Q (some (0, iand 0 (ior 0 (w 12 0)))) (enc w t)))) ∧ (¬ (w32 (w 2 9) ≤ w32 j) → (0 ≤ w32 j ∧ w32 j < 6) ∧ (0 ≤ w32 (w 7 (w32 j).toNat) ∧ w32 (w 7 (w32 j).toNat) < 28) ∧ (AC w m ∧ WFp m ∧ ((0 : Int) ≤ iand x 31 ∧ (iand x 31 : Int) < 32)) ∧ (((isI m (iand x 31).toNat) = false → Q (some (0, ior (iand 0 (ior (w 12 (w32 (w 7 (w32 j).toNat)).toNat) (w 12 0))) (iand (w 8 8) (w 12 (w32 (w 7 (w32 j).toNat)).toNat)))) (enc w t)) ∧ ((isI m (iand x 31).toNat) = true → Q (some (0, iand 0 (ior (w 12 (w32 (w 7 (w32 j).toNat)).toNat) (w 12 0)))) (enc w t)))))) ∧ (¬ (w32 (w 2 8) ≤ w32 i) → (0 ≤ w32 i ∧ w32 i < 6) ∧ (0 ≤ w32 (w 6 (w32 i).toNat) ∧ w32 (w 6 (w32 i).toNat) < 28) ∧ ((w32 (w 2 9) ≤ w32 j → (AC w m ∧ WFp m ∧ ((0 : Int) ≤ iand x 31 ∧ (iand x 31 : Int) < 32)) ∧ (((isI m (iand x 31).toNat) = false → Q (some (0, ior (iand (w 11 (w32 (w 6 (w32 i).toNat)).toNat) (ior 0 (w 12 0))) (iand (w 8 8) 0))) (enc w t)) ∧ ((isI m (iand x 31).toNat) = true → Q (some (0, iand (w 11 (w32 (w 6 (w32 i).toNat)).toNat) (ior 0 (w 12 0)))) (enc w t)))) ∧ (¬ (w32 (w 2 9) ≤ w32 j) → (0 ≤ w32 j ∧ w32 j < 6) ∧ (0 ≤ w32 (w 7 (w32 j).toNat) ∧ w32 (w 7 (w32 j).toNat) < 28) ∧ (AC w m ∧ WFp m ∧ ((0 : Int) ≤ iand x 31 ∧ (iand x 31 : Int) < 32)) ∧ (((isI m (iand x 31).toNat) = false → Q (some (0, ior (iand (w 11 (w32 (w 6 (w32 i).toNat)).toNat) (ior (w 12 (w32 (w 7 (w32 j).toNat)).toNat) (w 12 0))) (iand (w 8 8) (w 12 (w32 (w 7 (w32 j).toNat)).toNat)))) (enc w t)) ∧ ((isI m (iand x 31).toNat) = true → Q (some (0, iand (w 11 (w32 (w 6 (w32 i).toNat)).toNat) (ior (w 12 (w32 (w 7 (w32 j).toNat)).toNat) (w 12 0)))) (enc w t)))))))) : Cl (d + 2) 55 [rA 56, (0, i), (0, j), (0, x)] (enc w t) Q := by
  show Ev (d + 2) 55 Q 0 [rA 56, (0, i), (0, j), (0, x), (9, 0), (9, 0), (9, 0)] [] (enc w t)
  refine e_ldi (show am_cd 55 0 = (2, 1, 1, 0, []) by decide +kernel) rfl ?_
  refine e_lda (v := 56) (show am_cd 55 1 = (2, 2, 0, 2, []) by decide +kernel) rfl ?_
  refine e_getr (a := 56) (r := 2) (show am_cd 55 2 = (18, 5, 600, 2, [15]) by decide +kernel) (by decide +kernel) (by decide +kernel) rfl ?_
  refine e_getf (a := 2) (tg := 0) (show am_cd 55 5 = (18, 8, 808, 0, [86]) by decide +kernel) (by decide +kernel) (by decide +kernel) rfl ?_
  refine e_cmp3 (show am_cd 55 8 = (11, 11, 31, 3, []) by decide +kernel) (fun hc => ?_) (fun hc => ?_)
  · replace h := h.1 hc
    refine e_ic (show am_cd 55 31 = (0, 32, 0, 0, []) by decide +kernel) ?_
    refine e_sti (la2 := [rA 56, (0, i), (0, j), (0, x), (0, 0), (9, 0), (9, 0)]) (show am_cd 55 32 = (3, 34, 4, 0, []) by decide +kernel) rfl ?_
    refine e_ldi (show am_cd 55 34 = (2, 35, 2, 0, []) by decide +kernel) rfl ?_
    refine e_lda (v := 56) (show am_cd 55 35 = (2, 36, 0, 2, []) by decide +kernel) rfl ?_
    refine e_getr (a := 56) (r := 2) (show am_cd 55 36 = (18, 39, 600, 2, [15]) by decide +kernel) (by decide +kernel) (by decide +kernel) rfl ?_
    refine e_getf (a := 2) (tg := 0) (show am_cd 55 39 = (18, 42, 809, 0, [92]) by decide +kernel) (by decide +kernel) (by decide +kernel) rfl ?_
    refine e_cmp3 (show am_cd 55 42 = (11, 45, 65, 3, []) by decide +kernel) (fun hc => ?_) (fun hc => ?_)
    · replace h := h.1 hc
      refine e_ic (show am_cd 55 65 = (0, 66, 0, 0, []) by decide +kernel) ?_
      refine e_sti (la2 := [rA 56, (0, i), (0, j), (0, x), (0, 0), (0, 0), (9, 0)]) (show am_cd 55 66 = (3, 68, 5, 0, []) by decide +kernel) rfl ?_
      refine e_ldi (show am_cd 55 68 = (2, 70, 4, 0, []) by decide +kernel) rfl ?_
      refine e_ldi (show am_cd 55 70 = (2, 72, 5, 0, []) by decide +kernel) rfl ?_
      refine e_lda (v := 56) (show am_cd 55 72 = (2, 73, 0, 2, []) by decide +kernel) rfl ?_
      refine e_getr (a := 56) (r := 8) (show am_cd 55 73 = (18, 76, 601, 2, [19]) by decide +kernel) (by decide +kernel) (by decide +kernel) rfl ?_
      refine e_getr (a := 8) (r := 12) (show am_cd 55 76 = (18, 79, 3, 2, [110]) by decide +kernel) (by decide +kernel) (by decide +kernel) rfl ?_
      refine e_ic (show am_cd 55 79 = (0, 80, 0, 0, []) by decide +kernel) ?_
      refine e_ialdK (a := 12) (n := 28) (j := 0) (v := w 12 0) (show am_cd 55 80 = (21, 81, 0, 0, []) by decide +kernel) (by decide +kernel) (by decide +kernel) (by decide +kernel) (by decide +kernel) (by decide +kernel) rfl ?_
      refine e_ior (show am_cd 55 81 = (5, 82, 4, 0, []) by decide +kernel) ?_
      refine e_iand (show am_cd 55 82 = (5, 83, 3, 0, []) by decide +kernel) ?_
      refine e_sti (la2 := [rA 56, (0, i), (0, j), (0, x), (0, 0), (0, 0), (0, iand 0 (ior 0 (w 12 0)))]) (show am_cd 55 83 = (3, 85, 6, 0, []) by decide +kernel) rfl ?_
      refine e_lda (v := 56) (show am_cd 55 85 = (2, 86, 0, 2, []) by decide +kernel) rfl ?_
      refine e_getr (a := 56) (r := 8) (show am_cd 55 86 = (18, 89, 601, 2, [19]) by decide +kernel) (by decide +kernel) (by decide +kernel) rfl ?_
      refine e_ldi (show am_cd 55 89 = (2, 90, 3, 0, []) by decide +kernel) rfl ?_
      refine e_ic (show am_cd 55 90 = (0, 92, 1, 31, []) by decide +kernel) ?_
      refine e_iand (show am_cd 55 92 = (5, 93, 3, 0, []) by decide +kernel) ?_
      refine e_cV (z := 0) (a := 8) (as := [(0, iand x 31)]) (rest := []) (show am_cd 55 93 = (40, 96, 3, 0, [116]) by decide +kernel) (by decide +kernel) rfl rfl (Nat.le_of_ble_eq_true rfl) rfl ?_
      refine Cl.mono (Cl.up (c_isIc (d := d) h.1) (by omega)) ?_
      rintro _ _ ⟨rfl, rfl⟩
      refine ⟨fun _ h9 => (by cases h9), ?_⟩
      replace h := h.2
      show Ev _ 55 _ 96 [rA 56, (0, i), (0, j), (0, x), (0, 0), (0, 0), (0, iand 0 (ior 0 (w 12 0)))] [(0, bI (isI m (iand x 31).toNat))] _
      refine e_ifb0 (show am_cd 55 96 = (10, 99, 104, 0, []) by decide +kernel) (fun hc => ?_) (fun hc => ?_)
      · replace h := h.1 hc
        refine e_ldi (show am_cd 55 104 = (2, 106, 6, 0, []) by decide +kernel) rfl ?_
        refine e_lda (v := 56) (show am_cd 55 106 = (2, 107, 0, 2, []) by decide +kernel) rfl ?_
        refine e_getr (a := 56) (r := 8) (show am_cd 55 107 = (18, 110, 601, 2, [19]) by decide +kernel) (by decide +kernel) (by decide +kernel) rfl ?_
        refine e_getf (a := 8) (tg := 0) (show am_cd 55 110 = (18, 113, 8, 0, [120]) by decide +kernel) (by decide +kernel) (by decide +kernel) rfl ?_
        refine e_ldi (show am_cd 55 113 = (2, 115, 5, 0, []) by decide +kernel) rfl ?_
        refine e_iand (show am_cd 55 115 = (5, 116, 3, 0, []) by decide +kernel) ?_
        refine e_ior (show am_cd 55 116 = (5, 117, 4, 0, []) by decide +kernel) ?_
        exact e_reti (show am_cd 55 117 = (36, 118, 0, 0, []) by decide +kernel) (by decide +kernel) h
      · replace h := h.2 hc
        refine e_ldi (show am_cd 55 99 = (2, 101, 6, 0, []) by decide +kernel) rfl ?_
        refine e_go (show am_cd 55 101 = (12, 117, 0, 0, []) by decide +kernel) ?_
        exact e_reti (show am_cd 55 117 = (36, 118, 0, 0, []) by decide +kernel) (by decide +kernel) h
    · replace h := h.2 hc
      refine e_lda (v := 56) (show am_cd 55 45 = (2, 46, 0, 2, []) by decide +kernel) rfl ?_
      refine e_getr (a := 56) (r := 8) (show am_cd 55 46 = (18, 49, 601, 2, [19]) by decide +kernel) (by decide +kernel) (by decide +kernel) rfl ?_
      refine e_getr (a := 8) (r := 12) (show am_cd 55 49 = (18, 52, 3, 2, [110]) by decide +kernel) (by decide +kernel) (by decide +kernel) rfl ?_
      refine e_lda (v := 56) (show am_cd 55 52 = (2, 53, 0, 2, []) by decide +kernel) rfl ?_
      refine e_getr (a := 56) (r := 2) (show am_cd 55 53 = (18, 56, 600, 2, [15]) by decide +kernel) (by decide +kernel) (by decide +kernel) rfl ?_
      refine e_getr (a := 2) (r := 7) (show am_cd 55 56 = (18, 59, 804, 2, [113]) by decide +kernel) (by decide +kernel) (by decide +kernel) rfl ?_
      refine e_ldi (show am_cd 55 59 = (2, 60, 2, 0, []) by decide +kernel) rfl ?_
      refine e_iald (a := 7) (n := 6) (show am_cd 55 60 = (21, 61, 0, 0, []) by decide +kernel) (by decide +kernel) (by decide +kernel) (by decide +kernel) h.1 ?_
      replace h := h.2
      refine e_iald (a := 12) (n := 28) (show am_cd 55 61 = (21, 62, 0, 0, []) by decide +kernel) (by decide +kernel) (by decide +kernel) (by decide +kernel) h.1 ?_
      replace h := h.2
      refine e_go (show am_cd 55 62 = (12, 66, 0, 0, []) by decide +kernel) ?_
      refine e_sti (la2 := [rA 56, (0, i), (0, j), (0, x), (0, 0), (0, w 12 (w32 (w 7 (w32 j).toNat)).toNat), (9, 0)]) (show am_cd 55 66 = (3, 68, 5, 0, []) by decide +kernel) rfl ?_
      refine e_ldi (show am_cd 55 68 = (2, 70, 4, 0, []) by decide +kernel) rfl ?_
      refine e_ldi (show am_cd 55 70 = (2, 72, 5, 0, []) by decide +kernel) rfl ?_
      refine e_lda (v := 56) (show am_cd 55 72 = (2, 73, 0, 2, []) by decide +kernel) rfl ?_
      refine e_getr (a := 56) (r := 8) (show am_cd 55 73 = (18, 76, 601, 2, [19]) by decide +kernel) (by decide +kernel) (by decide +kernel) rfl ?_
      refine e_getr (a := 8) (r := 12) (show am_cd 55 76 = (18, 79, 3, 2, [110]) by decide +kernel) (by decide +kernel) (by decide +kernel) rfl ?_
      refine e_ic (show am_cd 55 79 = (0, 80, 0, 0, []) by decide +kernel) ?_
      refine e_ialdK (a := 12) (n := 28) (j := 0) (v := w 12 0) (show am_cd 55 80 = (21, 81, 0, 0, []) by decide +kernel) (by decide +kernel) (by decide +kernel) (by decide +kernel) (by decide +kernel) (by decide +kernel) rfl ?_
      refine e_ior (show am_cd 55 81 = (5, 82, 4, 0, []) by decide +kernel) ?_
      refine e_iand (show am_cd 55 82 = (5, 83, 3, 0, []) by decide +kernel) ?_
      refine e_sti (la2 := [rA 56, (0, i), (0, j), (0, x), (0, 0), (0, w 12 (w32 (w 7 (w32 j).toNat)).toNat), (0, iand 0 (ior (w 12 (w32 (w 7 (w32 j).toNat)).toNat) (w 12 0)))]) (show am_cd 55 83 = (3, 85, 6, 0, []) by decide +kernel) rfl ?_
      refine e_lda (v := 56) (show am_cd 55 85 = (2, 86, 0, 2, []) by decide +kernel) rfl ?_
      refine e_getr (a := 56) (r := 8) (show am_cd 55 86 = (18, 89, 601, 2, [19]) by decide +kernel) (by decide +kernel) (by decide +kernel) rfl ?_
      refine e_ldi (show am_cd 55 89 = (2, 90, 3, 0, []) by decide +kernel) rfl ?_
      refine e_ic (show am_cd 55 90 = (0, 92, 1, 31, []) by decide +kernel) ?_
      refine e_iand (show am_cd 55 92 = (5, 93, 3, 0, []) by decide +kernel) ?_
      refine e_cV (z := 0) (a := 8) (as := [(0, iand x 31)]) (rest := []) (show am_cd 55 93 = (40, 96, 3, 0, [116]) by decide +kernel) (by decide +kernel) rfl rfl (Nat.le_of_ble_eq_true rfl) rfl ?_
      refine Cl.mono (Cl.up (c_isIc (d := d) h.1) (by omega)) ?_
      rintro _ _ ⟨rfl, rfl⟩
      refine ⟨fun _ h9 => (by cases h9), ?_⟩
      replace h := h.2
      show Ev _ 55 _ 96 [rA 56, (0, i), (0, j), (0, x), (0, 0), (0, w 12 (w32 (w 7 (w32 j).toNat)).toNat), (0, iand 0 (ior (w 12 (w32 (w 7 (w32 j).toNat)).toNat) (w 12 0)))] [(0, bI (isI m (iand x 31).toNat))] _
      refine e_ifb0 (show am_cd 55 96 = (10, 99, 104, 0, []) by decide +kernel) (fun hc => ?_) (fun hc => ?_)
      · replace h := h.1 hc
        refine e_ldi (show am_cd 55 104 = (2, 106, 6, 0, []) by decide +kernel) rfl ?_
        refine e_lda (v := 56) (show am_cd 55 106 = (2, 107, 0, 2, []) by decide +kernel) rfl ?_
        refine e_getr (a := 56) (r := 8) (show am_cd 55 107 = (18, 110, 601, 2, [19]) by decide +kernel) (by decide +kernel) (by decide +kernel) rfl ?_
        refine e_getf (a := 8) (tg := 0) (show am_cd 55 110 = (18, 113, 8, 0, [120]) by decide +kernel) (by decide +kernel) (by decide +kernel) rfl ?_
        refine e_ldi (show am_cd 55 113 = (2, 115, 5, 0, []) by decide +kernel) rfl ?_
        refine e_iand (show am_cd 55 115 = (5, 116, 3, 0, []) by decide +kernel) ?_
        refine e_ior (show am_cd 55 116 = (5, 117, 4, 0, []) by decide +kernel) ?_
        exact e_reti (show am_cd 55 117 = (36, 118, 0, 0, []) by decide +kernel) (by decide +kernel) h
      · replace h := h.2 hc
        refine e_ldi (show am_cd 55 99 = (2, 101, 6, 0, []) by decide +kernel) rfl ?_
        refine e_go (show am_cd 55 101 = (12, 117, 0, 0, []) by decide +kernel) ?_
        exact e_reti (show am_cd 55 117 = (36, 118, 0, 0, []) by decide +kernel) (by decide +kernel) h
  · replace h := h.2 hc
    refine e_lda (v := 56) (show am_cd 55 11 = (2, 12, 0, 2, []) by decide +kernel) rfl ?_
    refine e_getr (a := 56) (r := 8) (show am_cd 55 12 = (18, 15, 601, 2, [19]) by decide +kernel) (by decide +kernel) (by decide +kernel) rfl ?_
    refine e_getr (a := 8) (r := 11) (show am_cd 55 15 = (18, 18, 2, 2, [104]) by decide +kernel) (by decide +kernel) (by decide +kernel) rfl ?_
    refine e_lda (v := 56) (show am_cd 55 18 = (2, 19, 0, 2, []) by decide +kernel) rfl ?_
    refine e_getr (a := 56) (r := 2) (show am_cd 55 19 = (18, 22, 600, 2, [15]) by decide +kernel) (by decide +kernel) (by decide +kernel) rfl ?_
    refine e_getr (a := 2) (r := 6) (show am_cd 55 22 = (18, 25, 803, 2, [107]) by decide +kernel) (by decide +kernel) (by decide +kernel) rfl ?_
    refine e_ldi (show am_cd 55 25 = (2, 26, 1, 0, []) by decide +kernel) rfl ?_
    refine e_iald (a := 6) (n := 6) (show am_cd 55 26 = (21, 27, 0, 0, []) by decide +kernel) (by decide +kernel) (by decide +kernel) (by decide +kernel) h.1 ?_
    replace h := h.2
    refine e_iald (a := 11) (n := 28) (show am_cd 55 27 = (21, 28, 0, 0, []) by decide +kernel) (by decide +kernel) (by decide +kernel) (by decide +kernel) h.1 ?_
    replace h := h.2
    refine e_go (show am_cd 55 28 = (12, 32, 0, 0, []) by decide +kernel) ?_
    refine e_sti (la2 := [rA 56, (0, i), (0, j), (0, x), (0, w 11 (w32 (w 6 (w32 i).toNat)).toNat), (9, 0), (9, 0)]) (show am_cd 55 32 = (3, 34, 4, 0, []) by decide +kernel) rfl ?_
    refine e_ldi (show am_cd 55 34 = (2, 35, 2, 0, []) by decide +kernel) rfl ?_
    refine e_lda (v := 56) (show am_cd 55 35 = (2, 36, 0, 2, []) by decide +kernel) rfl ?_
    refine e_getr (a := 56) (r := 2) (show am_cd 55 36 = (18, 39, 600, 2, [15]) by decide +kernel) (by decide +kernel) (by decide +kernel) rfl ?_
    refine e_getf (a := 2) (tg := 0) (show am_cd 55 39 = (18, 42, 809, 0, [92]) by decide +kernel) (by decide +kernel) (by decide +kernel) rfl ?_
    refine e_cmp3 (show am_cd 55 42 = (11, 45, 65, 3, []) by decide +kernel) (fun hc => ?_) (fun hc => ?_)
    · replace h := h.1 hc
      refine e_ic (show am_cd 55 65 = (0, 66, 0, 0, []) by decide +kernel) ?_
      refine e_sti (la2 := [rA 56, (0, i), (0, j), (0, x), (0, w 11 (w32 (w 6 (w32 i).toNat)).toNat), (0, 0), (9, 0)]) (show am_cd 55 66 = (3, 68, 5, 0, []) by decide +kernel) rfl ?_
      refine e_ldi (show am_cd 55 68 = (2, 70, 4, 0, []) by decide +kernel) rfl ?_
      refine e_ldi (show am_cd 55 70 = (2, 72, 5, 0, []) by decide +kernel) rfl ?_
      refine e_lda (v := 56) (show am_cd 55 72 = (2, 73, 0, 2, []) by decide +kernel) rfl ?_
      refine e_getr (a := 56) (r := 8) (show am_cd 55 73 = (18, 76, 601, 2, [19]) by decide +kernel) (by decide +kernel) (by decide +kernel) rfl ?_
      refine e_getr (a := 8) (r := 12) (show am_cd 55 76 = (18, 79, 3, 2, [110]) by decide +kernel) (by decide +kernel) (by decide +kernel) rfl ?_
      refine e_ic (show am_cd 55 79 = (0, 80, 0, 0, []) by decide +kernel) ?_
      refine e_ialdK (a := 12) (n := 28) (j := 0) (v := w 12 0) (show am_cd 55 80 = (21, 81, 0, 0, []) by decide +kernel) (by decide +kernel) (by decide +kernel) (by decide +kernel) (by decide +kernel) (by decide +kernel) rfl ?_
      refine e_ior (show am_cd 55 81 = (5, 82, 4, 0, []) by decide +kernel) ?_
      refine e_iand (show am_cd 55 82 = (5, 83, 3, 0, []) by decide +kernel) ?_
      refine e_sti (la2 := [rA 56, (0, i), (0, j), (0, x), (0, w 11 (w32 (w 6 (w32 i).toNat)).toNat), (0, 0), (0, iand (w 11 (w32 (w 6 (w32 i).toNat)).toNat) (ior 0 (w 12 0)))]) (show am_cd 55 83 = (3, 85, 6, 0, []) by decide +kernel) rfl ?_
      refine e_lda (v := 56) (show am_cd 55 85 = (2, 86, 0, 2, []) by decide +kernel) rfl ?_
      refine e_getr (a := 56) (r := 8) (show am_cd 55 86 = (18, 89, 601, 2, [19]) by decide +kernel) (by decide +kernel) (by decide +kernel) rfl ?_
      refine e_ldi (show am_cd 55 89 = (2, 90, 3, 0, []) by decide +kernel) rfl ?_
      refine e_ic (show am_cd 55 90 = (0, 92, 1, 31, []) by decide +kernel) ?_
      refine e_iand (show am_cd 55 92 = (5, 93, 3, 0, []) by decide +kernel) ?_
      refine e_cV (z := 0) (a := 8) (as := [(0, iand x 31)]) (rest := []) (show am_cd 55 93 = (40, 96, 3, 0, [116]) by decide +kernel) (by decide +kernel) rfl rfl (Nat.le_of_ble_eq_true rfl) rfl ?_
      refine Cl.mono (Cl.up (c_isIc (d := d) h.1) (by omega)) ?_
      rintro _ _ ⟨rfl, rfl⟩
      refine ⟨fun _ h9 => (by cases h9), ?_⟩
      replace h := h.2
      show Ev _ 55 _ 96 [rA 56, (0, i), (0, j), (0, x), (0, w 11 (w32 (w 6 (w32 i).toNat)).toNat), (0, 0), (0, iand (w 11 (w32 (w 6 (w32 i).toNat)).toNat) (ior 0 (w 12 0)))] [(0, bI (isI m (iand x 31).toNat))] _
      refine e_ifb0 (show am_cd 55 96 = (10, 99, 104, 0, []) by decide +kernel) (fun hc => ?_) (fun hc => ?_)
      · replace h := h.1 hc
        refine e_ldi (show am_cd 55 104 = (2, 106, 6, 0, []) by decide +kernel) rfl ?_
        refine e_lda (v := 56) (show am_cd 55 106 = (2, 107, 0, 2, []) by decide +kernel) rfl ?_
        refine e_getr (a := 56) (r := 8) (show am_cd 55 107 = (18, 110, 601, 2, [19]) by decide +kernel) (by decide +kernel) (by decide +kernel) rfl ?_
        refine e_getf (a := 8) (tg := 0) (show am_cd 55 110 = (18, 113, 8, 0, [120]) by decide +kernel) (by decide +kernel) (by decide +kernel) rfl ?_
        refine e_ldi (show am_cd 55 113 = (2, 115, 5, 0, []) by decide +kernel) rfl ?_
        refine e_iand (show am_cd 55 115 = (5, 116, 3, 0, []) by decide +kernel) ?_
        refine e_ior (show am_cd 55 116 = (5, 117, 4, 0, []) by decide +kernel) ?_
        exact e_reti (show am_cd 55 117 = (36, 118, 0, 0, []) by decide +kernel) (by decide +kernel) h
      · replace h := h.2 hc
        refine e_ldi (show am_cd 55 99 = (2, 101, 6, 0, []) by decide +kernel) rfl ?_
        refine e_go (show am_cd 55 101 = (12, 117, 0, 0, []) by decide +kernel) ?_
        exact e_reti (show am_cd 55 117 = (36, 118, 0, 0, []) by decide +kernel) (by decide +kernel) h
    · replace h := h.2 hc
      refine e_lda (v := 56) (show am_cd 55 45 = (2, 46, 0, 2, []) by decide +kernel) rfl ?_
      refine e_getr (a := 56) (r := 8) (show am_cd 55 46 = (18, 49, 601, 2, [19]) by decide +kernel) (by decide +kernel) (by decide +kernel) rfl ?_
      refine e_getr (a := 8) (r := 12) (show am_cd 55 49 = (18, 52, 3, 2, [110]) by decide +kernel) (by decide +kernel) (by decide +kernel) rfl ?_
      refine e_lda (v := 56) (show am_cd 55 52 = (2, 53, 0, 2, []) by decide +kernel) rfl ?_
      refine e_getr (a := 56) (r := 2) (show am_cd 55 53 = (18, 56, 600, 2, [15]) by decide +kernel) (by decide +kernel) (by decide +kernel) rfl ?_
      refine e_getr (a := 2) (r := 7) (show am_cd 55 56 = (18, 59, 804, 2, [113]) by decide +kernel) (by decide +kernel) (by decide +kernel) rfl ?_
      refine e_ldi (show am_cd 55 59 = (2, 60, 2, 0, []) by decide +kernel) rfl ?_
      refine e_iald (a := 7) (n := 6) (show am_cd 55 60 = (21, 61, 0, 0, []) by decide +kernel) (by decide +kernel) (by decide +kernel) (by decide +kernel) h.1 ?_
      replace h := h.2
      refine e_iald (a := 12) (n := 28) (show am_cd 55 61 = (21, 62, 0, 0, []) by decide +kernel) (by decide +kernel) (by decide +kernel) (by decide +kernel) h.1 ?_
      replace h := h.2
      refine e_go (show am_cd 55 62 = (12, 66, 0, 0, []) by decide +kernel) ?_
      refine e_sti (la2 := [rA 56, (0, i), (0, j), (0, x), (0, w 11 (w32 (w 6 (w32 i).toNat)).toNat), (0, w 12 (w32 (w 7 (w32 j).toNat)).toNat), (9, 0)]) (show am_cd 55 66 = (3, 68, 5, 0, []) by decide +kernel) rfl ?_
      refine e_ldi (show am_cd 55 68 = (2, 70, 4, 0, []) by decide +kernel) rfl ?_
      refine e_ldi (show am_cd 55 70 = (2, 72, 5, 0, []) by decide +kernel) rfl ?_
      refine e_lda (v := 56) (show am_cd 55 72 = (2, 73, 0, 2, []) by decide +kernel) rfl ?_
      refine e_getr (a := 56) (r := 8) (show am_cd 55 73 = (18, 76, 601, 2, [19]) by decide +kernel) (by decide +kernel) (by decide +kernel) rfl ?_
      refine e_getr (a := 8) (r := 12) (show am_cd 55 76 = (18, 79, 3, 2, [110]) by decide +kernel) (by decide +kernel) (by decide +kernel) rfl ?_
      refine e_ic (show am_cd 55 79 = (0, 80, 0, 0, []) by decide +kernel) ?_
      refine e_ialdK (a := 12) (n := 28) (j := 0) (v := w 12 0) (show am_cd 55 80 = (21, 81, 0, 0, []) by decide +kernel) (by decide +kernel) (by decide +kernel) (by decide +kernel) (by decide +kernel) (by decide +kernel) rfl ?_
      refine e_ior (show am_cd 55 81 = (5, 82, 4, 0, []) by decide +kernel) ?_
      refine e_iand (show am_cd 55 82 = (5, 83, 3, 0, []) by decide +kernel) ?_
      refine e_sti (la2 := [rA 56, (0, i), (0, j), (0, x), (0, w 11 (w32 (w 6 (w32 i).toNat)).toNat), (0, w 12 (w32 (w 7 (w32 j).toNat)).toNat), (0, iand (w 11 (w32 (w 6 (w32 i).toNat)).toNat) (ior (w 12 (w32 (w 7 (w32 j).toNat)).toNat) (w 12 0)))]) (show am_cd 55 83 = (3, 85, 6, 0, []) by decide +kernel) rfl ?_
      refine e_lda (v := 56) (show am_cd 55 85 = (2, 86, 0, 2, []) by decide +kernel) rfl ?_
      refine e_getr (a := 56) (r := 8) (show am_cd 55 86 = (18, 89, 601, 2, [19]) by decide +kernel) (by decide +kernel) (by decide +kernel) rfl ?_
      refine e_ldi (show am_cd 55 89 = (2, 90, 3, 0, []) by decide +kernel) rfl ?_
      refine e_ic (show am_cd 55 90 = (0, 92, 1, 31, []) by decide +kernel) ?_
      refine e_iand (show am_cd 55 92 = (5, 93, 3, 0, []) by decide +kernel) ?_
      refine e_cV (z := 0) (a := 8) (as := [(0, iand x 31)]) (rest := []) (show am_cd 55 93 = (40, 96, 3, 0, [116]) by decide +kernel) (by decide +kernel) rfl rfl (Nat.le_of_ble_eq_true rfl) rfl ?_
      refine Cl.mono (Cl.up (c_isIc (d := d) h.1) (by omega)) ?_
      rintro _ _ ⟨rfl, rfl⟩
      refine ⟨fun _ h9 => (by cases h9), ?_⟩
      replace h := h.2
      show Ev _ 55 _ 96 [rA 56, (0, i), (0, j), (0, x), (0, w 11 (w32 (w 6 (w32 i).toNat)).toNat), (0, w 12 (w32 (w 7 (w32 j).toNat)).toNat), (0, iand (w 11 (w32 (w 6 (w32 i).toNat)).toNat) (ior (w 12 (w32 (w 7 (w32 j).toNat)).toNat) (w 12 0)))] [(0, bI (isI m (iand x 31).toNat))] _
      refine e_ifb0 (show am_cd 55 96 = (10, 99, 104, 0, []) by decide +kernel) (fun hc => ?_) (fun hc => ?_)
      · replace h := h.1 hc
        refine e_ldi (show am_cd 55 104 = (2, 106, 6, 0, []) by decide +kernel) rfl ?_
        refine e_lda (v := 56) (show am_cd 55 106 = (2, 107, 0, 2, []) by decide +kernel) rfl ?_
        refine e_getr (a := 56) (r := 8) (show am_cd 55 107 = (18, 110, 601, 2, [19]) by decide +kernel) (by decide +kernel) (by decide +kernel) rfl ?_
        refine e_getf (a := 8) (tg := 0) (show am_cd 55 110 = (18, 113, 8, 0, [120]) by decide +kernel) (by decide +kernel) (by decide +kernel) rfl ?_
        refine e_ldi (show am_cd 55 113 = (2, 115, 5, 0, []) by decide +kernel) rfl ?_
        refine e_iand (show am_cd 55 115 = (5, 116, 3, 0, []) by decide +kernel) ?_
        refine e_ior (show am_cd 55 116 = (5, 117, 4, 0, []) by decide +kernel) ?_
        exact e_reti (show am_cd 55 117 = (36, 118, 0, 0, []) by decide +kernel) (by decide +kernel) h
      · replace h := h.2 hc
        refine e_ldi (show am_cd 55 99 = (2, 101, 6, 0, []) by decide +kernel) rfl ?_
        refine e_go (show am_cd 55 101 = (12, 117, 0, 0, []) by decide +kernel) ?_
        exact e_reti (show am_cd 55 117 = (36, 118, 0, 0, []) by decide +kernel) (by decide +kernel) h

theorem c_np {d : Nat} {w m : eW} {t : eT} {l1 l2 : List Int} {i j x : Int} (g : t3) (h : NX l1 l2 m w ∧ x = ((trG m g : Nat) : Int) ∧ gL g ≤ 16 ∧ (0 : Int) ≤ i ∧ (0 : Int) ≤ j ∧ (i : Int) ≤ 2147483647 ∧ (j : Int) ≤ 2147483647) : Cl (d + 2) 55 [rA 56, (0, i), (0, j), (0, x)] (enc w t) (fun r S2 => ∃ y, r = some (0, y) ∧ S2 = enc w t ∧ y = ((nfB m l1 l2 i.toNat j.toNat (gL g) : Nat) : Int)) := by
  obtain ⟨⟨⟨hA, hN, hC, hp, hr⟩, ⟨b1, b2, b3, b4⟩, c1, c2, c3, c4⟩, hx, hg, hi0, hj0, hi, hj⟩ := h
  obtain ⟨t1, t2, _, _⟩ := tr_b (m := m) (a := g.1) (b := g.2.1) hr hg
  replace t1 : tr m g.1 g.2.1 g.2.2 < 2097152 := t1
  have ex : iand x 31 = ((gL g : Nat) : Int) := by
    rw [hx]
    unfold trG
    rw [i_and31 (by omega)]
    have t2' : tr m g.1 g.2.1 g.2.2 % 32 = gL g := t2
    rw [t2']
  have hins := insB_b m hp
  have q12 := hA.2.2.1 0 (by decide)
  have ub := (upB_t hp b4 (i := i.toNat) (d := 0)).1
  have lb := (loB_t hp c4 (i := j.toNat) (d := 0)).1
  have zb := (byU_b hp 0).2
  have val : ∀ (U L : Int), U = ((upB m l1 i.toNat : Nat) : Int) → L = ((loB m l2 j.toNat : Nat) : Int) → (isI m (gL g) = false → ior (iand U (ior L (w 12 0))) (iand (w 8 8) L) = ((nfB m l1 l2 i.toNat j.toNat (gL g) : Nat) : Int)) ∧ (isI m (gL g) = true → iand U (ior L (w 12 0)) = ((nfB m l1 l2 i.toNat j.toNat (gL g) : Nat) : Int)) := fun U L hU hL => by
    have o1 := or_lt (k := 16) lb zb
    have a1 : upB m l1 i.toNat &&& (loB m l2 j.toNat ||| byL m 0) ≤ upB m l1 i.toNat := Nat.and_le_left
    have a2 : insB m &&& loB m l2 j.toNat ≤ insB m := Nat.and_le_left
    rw [hU, hL, q12.2, hA.2.2.2, b_or (by omega) (by omega), b_and (by omega), b_and (by omega), nfB_e hp b4 c4]
    refine ⟨fun h9 => ?_, fun h9 => ?_⟩
    · rw [b_or (by omega) (by omega), h9]; rfl
    · rw [h9, if_pos rfl, Nat.or_zero]
  refine g_np (m := m) (b := (0, 0)) (P := fun _ _ => True) (l1 := l1) (l2 := l2) ?_
  rw [b1, c1, ex, Int.toNat_natCast]
  have hgg : (0 : Int) ≤ ((gL g : Nat) : Int) ∧ ((gL g : Nat) : Int) < 32 := by omega
  simp (disch := omega) only [w32_id]
  refine ⟨fun h1 => ⟨fun h2 => ⟨⟨hA, hp, hgg⟩, ?_⟩, fun h2 => ?_⟩, fun h1 => ?_⟩
  · have := val 0 0 (by unfold upB; rw [if_neg (by omega)]; rfl) (by unfold loB; rw [if_neg (by omega)]; rfl)
    exact ⟨fun h9 => ⟨_, rfl, by trivial, this.1 h9⟩, fun h9 => ⟨_, rfl, by trivial, this.2 h9⟩⟩
  · have hm := c4 _ (gD_mem (d := (0 : Int)) (show j.toNat < l2.length by omega))
    rw [c2 j.toNat (by omega)]
    simp (disch := omega) only [w32_id]
    have := val 0 (w 12 (l2.getD j.toNat 0 + 1).toNat) (by unfold upB; rw [if_neg (by omega)]; rfl) (by unfold loB; rw [if_pos (by omega)]; exact (hA.2.2.1 _ (by omega)).2)
    exact ⟨by omega, by omega, ⟨hA, hp, hgg⟩, fun h9 => ⟨_, rfl, by trivial, this.1 h9⟩, fun h9 => ⟨_, rfl, by trivial, this.2 h9⟩⟩
  · have hm := b4 _ (gD_mem (d := (0 : Int)) (show i.toNat < l1.length by omega))
    have eU : w 11 (l1.getD i.toNat 0 + 1).toNat = ((upB m l1 i.toNat : Nat) : Int) := by unfold upB; rw [if_pos (by omega)]; exact (hA.2.2.1 _ (by omega)).1
    rw [b2 i.toNat (by omega)]
    simp (disch := omega) only [w32_id]
    refine ⟨by omega, by omega, fun h2 => ⟨⟨hA, hp, hgg⟩, ?_⟩, fun h2 => ?_⟩
    · have := val (w 11 (l1.getD i.toNat 0 + 1).toNat) 0 eU (by unfold loB; rw [if_neg (by omega)]; rfl)
      exact ⟨fun h9 => ⟨_, rfl, by trivial, this.1 h9⟩, fun h9 => ⟨_, rfl, by trivial, this.2 h9⟩⟩
    · have hm2 := c4 _ (gD_mem (d := (0 : Int)) (show j.toNat < l2.length by omega))
      rw [c2 j.toNat (by omega)]
      simp (disch := omega) only [w32_id]
      have := val (w 11 (l1.getD i.toNat 0 + 1).toNat) (w 12 (l2.getD j.toNat 0 + 1).toNat) eU (by unfold loB; rw [if_pos (by omega)]; exact (hA.2.2.1 _ (by omega)).2)
      exact ⟨by omega, by omega, ⟨hA, hp, hgg⟩, fun h9 => ⟨_, rfl, by trivial, this.1 h9⟩, fun h9 => ⟨_, rfl, by trivial, this.2 h9⟩⟩

