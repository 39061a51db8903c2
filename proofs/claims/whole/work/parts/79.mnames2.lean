/-! The model: the call names. -/
def NQ (w m : eW) (t : eT) (ks : kT) (rl tx : List Int) (r : Option aV) (S2 : aS) : Prop := ∃ w2, r = some (0, namesV tx m) ∧ S2 = enc w2 t ∧ Fm [70, 71] [3, 23, 26, 27, 28, 29] w w2 ∧ MI w2 (namesM tx m) ks rl [] ∧ w2 67 26 = 0
/-- under way: what has been read so far is right or wrong -/
def NI (w : eW) (tx : List Int) (w1 : eW) : Prop := Px w1 tx ∧ Fm [] [23, 26, 27, 28, 29] w w1 ∧ w1 67 23 = 0 ∧ w1 67 26 = 0
theorem NI.m {w w1 w2 : eW} {tx : List Int} (h : NI w tx w1) (hp : Px w2 tx) (hf : Fm [] [28, 29] w1 w2) : NI w tx w2 := ⟨hp, h.2.1.tr (hf.mo (fun a ha => ha) (by decide)), by rw [hf.2 23 (by decide)]; exact h.2.2.1, by rw [hf.2 26 (by decide)]; exact h.2.2.2⟩
/-- a step behind a fault -/
theorem ft_step {w1 : eW} {tx : List Int} {p : Nat} (h : Px w1 tx) (hs : stW w1 = .ok p) : Px (wu (ftW w1 (w1 67 28)) 67 28 ((ftW w1 (w1 67 28)) 67 28 + 1)) tx ∧ Fm [] [28, 29] w1 (wu (ftW w1 (w1 67 28)) 67 28 ((ftW w1 (w1 67 28)) 67 28 + 1)) ∧ stW (wu (ftW w1 (w1 67 28)) 67 28 ((ftW w1 (w1 67 28)) 67 28 + 1)) = .error p := by
  have ha := stW_at h hs
  have hl := h.2.1
  have ft := h.ft h.b.1
  have e29 : ftW w1 (w1 67 28) 67 29 = (p : Int) := by unfold ftW; rw [if_pos ha.1, wu_eq]; exact ha.2.1
  have e28 : ftW w1 (w1 67 28) 67 28 = (p : Int) := by unfold ftW; rw [if_pos ha.1, wu_nk _ _ (by decide)]; exact ha.2.1
  have q : Fm [] [28, 29] (ftW w1 (w1 67 28)) (wu (ftW w1 (w1 67 28)) 67 28 ((ftW w1 (w1 67 28)) 67 28 + 1)) := Fm.pf (by decide)
  refine ⟨ft.1.fr q (by decide) (by decide) (by rw [wu_eq]; omega) (Or.inr ⟨by rw [wu_nk _ _ (by decide)]; omega, by rw [wu_nk _ _ (by decide)]; omega, by rw [wu_eq]; omega⟩), ft.2.tr q, ?_⟩
  unfold stW
  rw [wu_nk _ _ (by decide), e29, if_neg (by omega)]
  rfl
/-- a step on -/
theorem at_step {w1 : eW} {tx : List Int} {p : Nat} (h : Px w1 tx) (hs : stW w1 = .ok p) (hp : p < tx.length) : Px (wu w1 67 28 (w1 67 28 + 1)) tx ∧ Fm [] [28, 29] w1 (wu w1 67 28 (w1 67 28 + 1)) ∧ stW (wu w1 67 28 (w1 67 28 + 1)) = .ok (p + 1) := by
  have ha := stW_at h hs
  have q : Fm [] [28, 29] w1 (wu w1 67 28 (w1 67 28 + 1)) := Fm.pf (by decide)
  refine ⟨h.fr q (by decide) (by decide) (by rw [wu_eq]; omega) (Or.inl ⟨by rw [wu_nk _ _ (by decide)]; exact ha.1, by rw [wu_eq]; omega⟩), q, ?_⟩
  unfold stW
  rw [wu_nk _ _ (by decide), if_pos ha.1, wu_eq]
  show Except.ok _ = Except.ok _
  congr 1
  omega
theorem e_nm153 {d : Nat} {w w1 m : eW} {t : eT} {ks : kT} {rl tx : List Int} {c n : Int} {b : Nat} {J4 : aV} (h : MI w m ks rl tx) (hI : NI w tx w1) (hc : -1 ≤ c ∧ c ≤ 255) (hR : match stW w1 with
    | .error q => nmsR tx = .error q
    | .ok _ => nmsR tx = .ok (c, b)) : Ev (d + 3) 186 (NQ w m t ks rl tx) 153 [rA 67, (0, c), (0, (b : Int)), (0, n), J4] [] (enc w1 t) := by
  obtain ⟨a1, a2, a3, a4⟩ := hI
  have hb := a1.b
  have mi : MI w1 m ks rl [] := h.m a2 (fun a ha => by cases ha) (by decide) a3
  have fr : Fm [70, 71] [3, 23, 26, 27, 28, 29] w w1 := a2.mo (fun a ha => by cases ha) (by decide)
  have hsn := mi.2.1.n
  have e3 : w1 67 3 = m 67 3 := mi.2.2.1.1
  refine g_mnames3 (tx := tx) (m := m) ?_
  have hso := soI_b mi.2.1 c
  simp (disch := omega) only [w32_id]
  refine ⟨fun h1 => ⟨⟨mi.2.1, mi.2.2.1, hc⟩, fun h2 => ⟨fun h3 => ?_, fun h3 => ?_⟩, fun h2 => ?_⟩, fun h1 => ?_⟩
  · rw [show stW w1 = .ok (w1 67 28).toNat from if_pos h1] at hR
    have hR : nmsR tx = .ok (c, b) := hR
    have hyb := nmsR_b hR
    have hne : soN m c = nS m := by
      by_cases h9 : soN m c = nS m
      · exact h9
      · unfold soI at h2
        rw [if_neg h9] at h2
        omega
    have e3' : (w1 67 3).toNat = nS m := by rw [e3]; omega
    refine ⟨by omega, by omega, ?_⟩
    rw [e3']
    have key : namesM tx m = wu (wu (wu m 70 (nS m) c) 71 (nS m) (b : Int)) 67 3 (m 67 3 + 1) := by
      unfold namesM
      rw [hR]
      dsimp only
      rw [if_pos hne, if_neg (by omega)]
    refine ⟨_, ?_, rfl, fr.tr (((Fm.pr (by decide) (by decide)).tr (Fm.pr (by decide) (by decide))).tr (Fm.pf (by decide))), ?_, ?_⟩
    · unfold namesV
      rw [hR]
      dsimp only
      rw [if_pos hne, if_neg (by omega), e3, hsn.1]
    · rw [key, e3]
      exact nsM_mi mi hyb.1 hyb.2 (by omega)
    · rw [wu_nk _ _ (by decide), wu_na _ _ (by decide), wu_na _ _ (by decide)]
      exact a4
  · rw [show stW w1 = .ok (w1 67 28).toNat from if_pos h1] at hR
    have hR : nmsR tx = .ok (c, b) := hR
    have hne : soN m c = nS m := by
      by_cases h9 : soN m c = nS m
      · exact h9
      · unfold soI at h2
        rw [if_neg h9] at h2
        omega
    refine ⟨w1, ?_, rfl, fr, ?_, a4⟩
    · unfold namesV
      rw [hR]
      dsimp only
      rw [if_pos hne, if_pos (by omega)]
    · unfold namesM
      rw [hR]
      dsimp only
      rw [if_pos hne, if_pos (by omega)]
      exact mi
  · rw [show stW w1 = .ok (w1 67 28).toNat from if_pos h1] at hR
    have hR : nmsR tx = .ok (c, b) := hR
    have hne : soN m c ≠ nS m := fun h9 => h2 (by unfold soI; rw [if_pos h9])
    refine ⟨w1, ?_, rfl, fr, ?_, a4⟩
    · unfold namesV
      rw [hR]
      dsimp only
      rw [if_neg hne]
    · unfold namesM
      rw [hR]
      dsimp only
      rw [if_neg hne]
      exact mi
  · have hs : stW w1 = .error (w1 67 29).toNat := if_neg h1
    rw [hs] at hR
    have hR : nmsR tx = .error (w1 67 29).toNat := hR
    have := stW_er a1 hs
    refine ⟨w1, ?_, rfl, fr, ?_, a4⟩
    · unfold namesV
      rw [hR, this.1]
      rfl
    · unfold namesM
      rw [hR]
      exact mi
theorem e_nm56e {d : Nat} {w w1 m : eW} {t : eT} {ks : kT} {rl tx : List Int} {c n b : Int} {q : Nat} {J4 : aV} (h : MI w m ks rl tx) (hI : NI w tx w1) (hc : -1 ≤ c ∧ c ≤ 255) (hs : stW w1 = .error q) (hR : nmsR tx = .error q) (hb : ∃ b2 : Nat, b = (b2 : Int)) : Ev (d + 3) 186 (NQ w m t ks rl tx) 56 [rA 67, (0, c), (0, b), (0, n), J4] [] (enc w1 t) := by
  obtain ⟨b2, rfl⟩ := hb
  have := stW_er hI.1 hs
  have hb := hI.1.b
  refine g_mnames2 (tx := tx) ?_
  rw [show w32 (w1 67 29) = w1 67 29 from w32_id (by omega), show w32 (-1) = -1 from w32_id (by omega)]
  refine ⟨fun _ => e_nm153 h hI hc (by rw [hs]; exact hR), fun h9 => (by omega)⟩
theorem e_nm118e {d : Nat} {w w1 m : eW} {t : eT} {ks : kT} {rl tx : List Int} {c n l : Int} {b p : Nat} (h : MI w m ks rl tx) (hI : NI w tx w1) (hc : -1 ≤ c ∧ c ≤ 255) (hb : b < 2 ^ 27) (hs : stW w1 = .ok p) (hR : nmsR tx = .error p) : Ev (d + 3) 186 (NQ w m t ks rl tx) 118 [rA 67, (0, c), (0, (b : Int)), (0, n), (0, l)] [] (enc (ftW w1 (w1 67 28)) t) := by
  have ha := stW_at hI.1 hs
  have hl := hI.1.2.1
  have st := ft_step hI.1 hs
  have hb2 : (b : Int) < 134217728 := Int.ofNat_lt.mpr hb
  have e29 : ftW w1 (w1 67 28) 67 29 = (p : Int) := by unfold ftW; rw [if_pos ha.1, wu_eq]; exact ha.2.1
  refine g_mnames5 (tx := tx) ?_
  rw [e29, show w32 (p : Int) = p from w32_id (by omega), show w32 (-1) = -1 from w32_id (by omega)]
  refine ⟨fun _ => e_nm56e h (hI.m st.1 st.2.1) hc st.2.2 hR ⟨b, ?_⟩, fun h9 => (by omega)⟩
  rw [i_or (by omega) (by omega)]
  simp
theorem e_nm79 {d : Nat} {w m : eW} {t : eT} {ks : kT} {rl tx : List Int} {c : Int} (h : MI w m ks rl tx) (hc : -1 ≤ c ∧ c ≤ 255) : ∀ (k p b n : Nat) (w1 : eW) (J4 : aV), n + k = 26 → NI w tx w1 → stW w1 = .ok p → b < 2 ^ 27 → nmsR tx = nmC c (nmB tx k p b) → Ev (d + 3) 186 (NQ w m t ks rl tx) 79 [rA 67, (0, c), (0, (b : Int)), (0, (n : Int)), J4] [] (enc w1 t) := by
  intro k
  induction k with
  | zero =>
    intro p b n w1 J4 hn hI hs hb hR
    have hR : nmsR tx = .error p := hR
    have hbb := hI.1.b
    have bad : ∀ l, Ev (d + 3) 186 (NQ w m t ks rl tx) 118 [rA 67, (0, c), (0, (b : Int)), (0, (n : Int)), (0, l)] [] (enc (ftW w1 (w1 67 28)) t) := fun l => e_nm118e h hI hc hb hs hR
    refine g_mnames4 (tx := tx) ⟨hI.1, hI.1.hrb _, fun _ => ⟨⟨hI.1, hbb.1⟩, bad _⟩, fun _ => ⟨fun _ => ⟨⟨hI.1, hbb.1⟩, bad _⟩, fun _ => ⟨fun h9 => ?_, fun _ => ⟨⟨hI.1, hbb.1⟩, bad _⟩⟩⟩⟩
    exact absurd (by rw [show n = 26 by omega]; rfl) h9
  | succ k ih =>
    intro p b n w1 J4 hn hI hs hb hR
    have hbb := hI.1.b
    have ha := stW_at hI.1 hs
    have hb2 : (b : Int) < 134217728 := Int.ofNat_lt.mpr hb
    have hh : hrI tx (w1 67 28) = hr tx p := by unfold hrI; rw [ha.2.1, Int.toNat_natCast]
    have hr1 := hI.1.hrb p
    have bad : nmsR tx = .error p → ∀ l, Ev (d + 3) 186 (NQ w m t ks rl tx) 118 [rA 67, (0, c), (0, (b : Int)), (0, (n : Int)), (0, l)] [] (enc (ftW w1 (w1 67 28)) t) := fun h9 l => e_nm118e h hI hc hb hs h9
    refine g_mnames4 (tx := tx) ?_
    rw [hh]
    rw [nmB] at hR
    cases hl : ltO (hr tx p) with
    | none =>
      rw [hl] at hR
      have hR : nmsR tx = .error p := hR
      refine ⟨hI.1, hr1, fun _ => ⟨⟨hI.1, hbb.1⟩, bad hR _⟩, fun h9 => absurd rfl h9⟩
    | some l =>
      rw [hl] at hR
      have h26 := ltO_b hl
      have hlt : p < tx.length := by
        by_cases h9 : p < tx.length
        · exact h9
        · have : hr tx p = -1 := if_neg h9
          rw [this] at hl
          cases hl
      dsimp only at hR
      rw [show (some l).getD (-1) = l from rfl]
      rw [i_bit (by omega) (by omega)]
      simp (disch := omega) only [w32_id]
      refine ⟨hI.1, hr1, fun h9 => (by omega), fun _ => ⟨fun h1 => ⟨⟨hI.1, hbb.1⟩, bad ?_ _⟩, fun h1 => ⟨fun h2 => ?_, fun h9 => (by omega)⟩⟩⟩
      · have hbt : b.testBit l.toNat = true := by
          cases hq : b.testBit l.toNat
          · have : bt (b : Int) l.toNat = false := by unfold bt; rw [Int.toNat_natCast]; exact hq
            rw [this] at h1
            simp at h1
          · rfl
        rw [if_pos hbt] at hR
        exact hR
      · have hbt : b.testBit l.toNat = false := by
          cases hq : b.testBit l.toNat
          · rfl
          · have : bt (b : Int) l.toNat = true := by unfold bt; rw [Int.toNat_natCast]; exact hq
            rw [this] at h1
            exact absurd (by simp) h1
        rw [if_neg (by rw [hbt]; decide)] at hR
        have st := at_step hI.1 hs hlt
        have NI2 := hI.m st.1 st.2.1
        have ob := or_b hb (show l.toNat ≤ 26 by omega)
        refine g_mnames5 (tx := tx) ?_
        rw [i_set (by omega) (by omega), Int.toNat_natCast]
        rw [ha.1]
        refine ⟨fun h9 => absurd rfl h9, fun _ => ?_⟩
        refine g_mnames2 (tx := tx) ?_
        have ha2 := stW_at st.1 st.2.2
        have hl27 : (wu w1 67 28 (w1 67 28 + 1)) 67 27 = (tx.length : Int) := st.1.1
        have hlen := hI.1.2.1
        rw [ha2.1, ha2.2.1, hl27]
        simp (disch := omega) only [w32_id]
        refine ⟨fun h9 => absurd trivial h9, fun _ => ⟨fun h9 => (by omega), fun _ => ⟨fun h3 => ?_, fun h3 => ?_⟩⟩⟩
        · rw [if_neg (by omega)] at hR
          exact e_nm153 h NI2 hc (by rw [st.2.2]; exact hR)
        · rw [if_pos (by omega)] at hR
          exact ih (p + 1) _ (n + 1) _ _ (by omega) NI2 st.2.2 ob.1 hR
theorem c_mnames {d : Nat} {m w : eW} {t : eT} {ks : kT} {rl tx : List Int} (h : MI w m ks rl tx) : Cl (d + 3) 186 [rA 67] (enc w t) (fun r S2 => ∃ w2, r = some (0, namesV tx m) ∧ S2 = enc w2 t ∧ Fm [70, 71] [3, 23, 26, 27, 28, 29] w w2 ∧ MI w2 (namesM tx m) ks rl [] ∧ w2 67 26 = 0) := by
  obtain ⟨b1, b2, b3, b4, b5, b6⟩ := bgW_s h.2.2.2.2.2.1
  have hI : NI w tx (bgW w) := ⟨b1, b3, b5, b4⟩
  have ha := stW_at b1 b2
  have h0 := b1.hrb 0
  have hh : hrI tx (bgW w 67 28) = hr tx 0 := by unfold hrI; rw [ha.2.1]; rfl
  have rest : ∀ w1, NI w tx w1 → (match stW w1 with
      | .error q => nmsR tx = .error q
      | .ok p => p = 1 ∧ nmsR tx = (if hr tx 1 = 61 then nmC (hr tx 0) (nmB tx 26 2 0) else .error 1)) → ∀ w2, Px w2 tx ∧ Fm [] [28, 29] w1 w2 ∧ stW w2 = exS tx (stW w1) 61 → Ev (d + 3) 186 (NQ w m t ks rl tx) 56 [rA 67, (0, hr tx 0), (0, 0), (0, 0), (9, 0)] [] (enc w2 t) := by
    intro w1 c1 c2 w2 hw2
    have NI2 := c1.m hw2.1 hw2.2.1
    cases hs : stW w1 with
    | error q =>
      rw [hs] at c2 hw2
      exact e_nm56e h NI2 h0 hw2.2.2 c2 ⟨0, rfl⟩
    | ok p =>
      rw [hs] at c2 hw2
      obtain ⟨hp, c2⟩ := c2
      subst hp
      have hst : stW w2 = (if hr tx 1 = 61 then .ok 2 else .error 1) := hw2.2.2
      by_cases h61 : hr tx 1 = 61
      · rw [if_pos h61] at hst c2
        have ha2 := stW_at hw2.1 hst
        refine g_mnames2 (tx := tx) ?_
        rw [ha2.1]
        refine ⟨fun h9 => absurd rfl h9, fun _ => ⟨fun _ => ?_, fun h9 => absurd rfl h9⟩⟩
        exact e_nm79 h h0 26 2 0 0 w2 _ (by decide) NI2 hst (by decide) c2
      · rw [if_neg h61] at hst c2
        exact e_nm56e h NI2 h0 hst c2 ⟨0, rfl⟩
  refine g_mnames0 (tx := tx) ?_
  show (Px (bgW w) tx) ∧ (((decide (w64 65 ≤ w64 (w32 (hrI tx (bgW w 67 28))) ∧ w64 (w32 (hrI tx (bgW w 67 28))) ≤ w64 90)) = true → Ev (d + 3) 186 (NQ w m t ks rl tx) 36 [rA 67, (0, hrI tx (bgW w 67 28)), (9, 0), (9, 0), (9, 0)] [] (enc (bgW w) t)) ∧ ((decide (w64 65 ≤ w64 (w32 (hrI tx (bgW w 67 28))) ∧ w64 (w32 (hrI tx (bgW w 67 28))) ≤ w64 90)) = false → (Px (bgW w) tx ∧ (0 : Int) ≤ 0 ∧ (0 : Int) ≤ 81) ∧ Ev (d + 3) 186 (NQ w m t ks rl tx) 36 [rA 67, (0, hrI tx (bgW w 67 28)), (9, 0), (9, 0), (9, 0)] [] (enc (ftW (bgW w) 0) t)))
  rw [hh]
  simp (disch := omega) only [w32_id, w64_id]
  refine ⟨b1, fun h1 => ?_, fun h1 => ⟨⟨b1, by decide, by decide⟩, ?_⟩⟩
  · have h1 := of_decide_eq_true h1
    have hlt : 0 < tx.length := by
      by_cases h9 : 0 < tx.length
      · exact h9
      · have : hr tx 0 = -1 := if_neg h9
        omega
    have st := at_step b1 b2 hlt
    have NI2 := hI.m st.1 st.2.1
    refine g_mnames1 (tx := tx) ⟨⟨st.1, by decide, by decide⟩, fun w2 hw2 => rest _ NI2 ?_ w2 hw2⟩
    rw [st.2.2]
    refine ⟨rfl, ?_⟩
    show nmsR tx = _
    unfold nmsR
    rw [if_pos h1]
  · have h1 := of_decide_eq_false h1
    have st := ft_step b1 b2
    rw [ha.2.1] at st
    have NI2 := hI.m st.1 st.2.1
    refine g_mnames1 (tx := tx) ⟨⟨st.1, by decide, by decide⟩, fun w2 hw2 => rest _ NI2 ?_ w2 hw2⟩
    rw [st.2.2]
    show nmsR tx = _
    unfold nmsR
    rw [if_neg h1]

