/-! The model: side, count, drops, sign, end. -/
def sdC (m : eW) (s : Int) (p : Nat) : Int := if s = 0 then m 68 p else m 69 p
def sdL (m : eW) (s : Int) (r : List Nat) : List Int := (r.map (sdC m s)).filter (fun x => !decide (x = 27))
def sgn (x : Int) : Int := if x = 26 then 43 else 97 + x
def sideO (m : eW) (ks : kT) (i s q : Int) : Option Int := if (0 ≤ i ∧ i < ks.length) ∧ 0 ≤ s ∧ s ≤ 1 then (if q = -1 then some ((sdL m s (kAt ks i.toNat).1).length : Int) else if 0 ≤ q ∧ q < (sdL m s (kAt ks i.toNat).1).length then some (sgn ((sdL m s (kAt ks i.toNat).1).getD q.toNat 0)) else none) else none
/-- what is kept is of pairs and entries that can be -/
def KB (n : Nat) (ks : kT) : Prop := ∀ x ∈ ks, x.1.length ≤ 13 ∧ (∀ p ∈ x.1, p < n) ∧ x.2.length ≤ 6 ∧ ∀ e ∈ x.2, e < 16
theorem KB.at {n : Nat} {ks : kT} (h : KB n ks) {i : Nat} (hi : i < ks.length) : (kAt ks i).1.length ≤ 13 ∧ (∀ p ∈ (kAt ks i).1, p < n) ∧ (kAt ks i).2.length ≤ 6 ∧ ∀ e ∈ (kAt ks i).2, e < 16 := by
  have e : kAt ks i = ks[i] := by
    unfold kAt
    rw [List.getD_eq_getElem?_getD, List.getElem?_eq_getElem hi]
    rfl
  rw [e]
  exact h _ (List.getElem_mem hi)
theorem sdL_app (m : eW) (s : Int) (a b : List Nat) : sdL m s (a ++ b) = sdL m s a ++ sdL m s b := by
  unfold sdL
  rw [List.map_append, List.filter_append]
theorem sdL_1 (m : eW) (s : Int) (p : Nat) : sdL m s [p] = if sdC m s p = 27 then [] else [sdC m s p] := by
  unfold sdL
  by_cases h : sdC m s p = 27 <;> simp [h]
theorem getD_mid (a b : List Nat) (x : Nat) : (a ++ x :: b).getD a.length 0 = x := by
  simp [List.getD_eq_getElem?_getD]
theorem getI_mid (a b : List Int) (x : Int) : (a ++ x :: b).getD a.length 0 = x := by
  simp [List.getD_eq_getElem?_getD]
theorem c_mside {d : Nat} {m w : eW} {t : eT} {ks : kT} {i s q : Int} (h : MG w m ∧ KM w ks ∧ KB (nP m) ks ∧ okI i ∧ okI s ∧ okI q) : Cl (d + 1) 255 [rA 67, (0, i), (0, s), (0, q)] (enc w t) (fun r S2 => ∃ w2, r = some (0, (sideO m ks i s q).getD 0) ∧ S2 = enc w2 t ∧ LO w w2 (sideO m ks i s q)) := by
  obtain ⟨hm, ⟨h1, h2, h3⟩, hKB, hi, hs, hq⟩ := h
  have hpn := hm.1.n
  unfold okI at hi hs hq
  refine g_mside0 ?_
  rw [h1]
  simp (disch := omega) only [w32_id, w64_id]
  have no : ¬ ((0 ≤ i ∧ i < ks.length) ∧ 0 ≤ s ∧ s ≤ 1) → ∃ w2, some ((0 : Nat), (0 : Int)) = some (0, (sideO m ks i s q).getD 0) ∧ enc (wu (wu w 67 26 0) 67 26 1) t = enc w2 t ∧ LO w w2 (sideO m ks i s q) := by
    intro h9
    have : sideO m ks i s q = none := if_neg h9
    rw [this]
    exact ⟨_, rfl, rfl, LO.n⟩
  refine ⟨fun h4 => no ?_, fun h4 => ⟨fun h5 => ?_, fun h5 => no ?_⟩⟩
  · have := of_decide_eq_false h4; omega
  · have h4 := of_decide_eq_true h4
    have h5 := of_decide_eq_true h5
    have hV : sideO m ks i s q = (if q = -1 then some ((sdL m s (kAt ks i.toNat).1).length : Int) else if 0 ≤ q ∧ q < (sdL m s (kAt ks i.toNat).1).length then some (sgn ((sdL m s (kAt ks i.toNat).1).getD q.toNat 0)) else none) := if_pos (by omega)
    rw [hV]
    obtain ⟨g1, g2, g3, g4, -, -⟩ := h3 i.toNat (by omega)
    obtain ⟨k1, k2, -, -⟩ := hKB.at (show i.toNat < ks.length by omega)
    have hm2 : MG (wu w 67 26 0) m := hm.m (Fm.pf (R := []) (F := [26]) (by decide)) (by decide) (by decide)
    generalize hr : (kAt ks i.toNat).1 = r at *
    have main : ∀ (b a : List Nat) (J6 J7 : aV), r = a ++ b → (q < 0 ∨ ((sdL m s a).length : Int) ≤ q) → Ev (d + 1) 255 (fun z S2 => ∃ w2, z = some (0, ((if q = -1 then some ((sdL m s r).length : Int) else if 0 ≤ q ∧ q < (sdL m s r).length then some (sgn ((sdL m s r).getD q.toNat 0)) else none) : Option Int).getD 0) ∧ S2 = enc w2 t ∧ LO w w2 (if q = -1 then some ((sdL m s r).length : Int) else if 0 ≤ q ∧ q < (sdL m s r).length then some (sgn ((sdL m s r).getD q.toNat 0)) else none)) 42 [rA 67, (0, i), (0, s), (0, q), (0, ((sdL m s a).length : Int)), (0, (a.length : Int)), J6, J7] [] (enc (wu w 67 26 0) t) := by
      intro b
      induction b with
      | nil =>
        intro a J6 J7 ha hna
        rw [List.append_nil] at ha
        subst ha
        have hla : (sdL m s r).length ≤ 16 := by
          unfold sdL
          exact Nat.le_trans (List.length_filter_le _ _) (by rw [List.length_map]; omega)
        refine g_mside1 ?_
        rw [wu_row (show (81 : Nat) ≠ 67 by decide)]
        simp (disch := omega) only [w32_id]
        rw [g3]
        try simp (disch := omega) only [w32_id]
        refine ⟨by omega, fun _ => ⟨fun h6 => ?_, fun h6 => ?_⟩, fun h9 => absurd (Int.le_refl _) h9⟩
        · rw [if_neg h6, if_neg (by omega)]
          exact ⟨_, by trivial, rfl, LO.n⟩
        · rw [if_pos (by omega)]
          exact ⟨_, rfl, rfl, LO.s⟩
      | cons x b ih =>
        intro a J6 J7 ha hna
        have hal : a.length < r.length := by rw [ha, List.length_append, List.length_cons]; omega
        have hx : x < nP m := k2 x (by rw [ha]; simp)
        have hla : (sdL m s a).length ≤ 16 := by
          unfold sdL
          exact Nat.le_trans (List.length_filter_le _ _) (by rw [List.length_map]; omega)
        have e82 : w 82 (16 * i.toNat + a.length) = (x : Int) := by rw [g4 a.length hal, ha, getD_mid]
        have u1 := (hm.2.2.1.2 x hx)
        have b1 := (hm.1.2.1 x hx)
        have hap : a ++ x :: b = (a ++ [x]) ++ b := by simp
        have nxt := fun J6 J7 => ih (a ++ [x]) J6 J7 (by rw [ha, hap])
        rw [sdL_app, sdL_1] at nxt
        have hfull : sdL m s r = sdL m s a ++ (if sdC m s x = 27 then [] else [sdC m s x]) ++ sdL m s b := by rw [ha, hap, sdL_app, sdL_app, sdL_1]
        have hit : ¬ sdC m s x = 27 → ((sdL m s a).length : Int) = q → ∀ v, v = sgn (sdC m s x) → ∃ w2, some ((0 : Nat), v) = some (0, ((if q = -1 then some ((sdL m s r).length : Int) else if 0 ≤ q ∧ q < (sdL m s r).length then some (sgn ((sdL m s r).getD q.toNat 0)) else none) : Option Int).getD 0) ∧ enc (wu w 67 26 0) t = enc w2 t ∧ LO w w2 (if q = -1 then some ((sdL m s r).length : Int) else if 0 ≤ q ∧ q < (sdL m s r).length then some (sgn ((sdL m s r).getD q.toNat 0)) else none) := by
          intro h9 h8 v hv
          rw [if_neg h9, List.append_assoc, List.singleton_append] at hfull
          have hql : q.toNat = (sdL m s a).length := by omega
          rw [if_neg (by omega), if_pos ⟨by omega, by rw [hfull, List.length_append, List.length_cons]; omega⟩, hql, hfull, getI_mid, hv]
          exact ⟨_, rfl, rfl, LO.s⟩
        refine g_mside1 ?_
        rw [wu_row (show (81 : Nat) ≠ 67 by decide), wu_row (show (82 : Nat) ≠ 67 by decide), wu_row (show (68 : Nat) ≠ 67 by decide), wu_row (show (69 : Nat) ≠ 67 by decide)]
        simp (disch := omega) only [w32_id]
        rw [g3, show (16 * i + (a.length : Int)).toNat = 16 * i.toNat + a.length by omega, e82]
        simp (disch := omega) only [w32_id, Int.toNat_natCast, u1.1, u1.2]
        have hl1 : ((a ++ [x]).length : Int) = (a.length : Int) + 1 := by rw [List.length_append, List.length_singleton]; omega
        refine ⟨by omega, fun h9 => (by omega), fun _ => ⟨by omega, fun h6 => ⟨by omega, fun h7 => ⟨fun h8 => ?_, fun h8 => ?_⟩, fun h7 => ?_⟩, fun h6 => ⟨by omega, fun h7 => ⟨fun h8 => ?_, fun h8 => ?_⟩, fun h7 => ?_⟩⟩⟩
        · have hc : sdC m s x = m 69 x := if_neg h6
          have := nxt (0, (x : Int)) (0, m 69 x)
          rw [hc, if_neg h7, List.length_append, List.length_singleton, hl1] at this
          exact this (by omega)
        · have hc : sdC m s x = m 69 x := if_neg h6
          unfold sgn at hit
          rw [hc] at hit
          exact ⟨fun h10 => hit h7 (by omega) _ (by rw [if_neg h10]), fun h10 => hit h7 (by omega) _ (by rw [if_pos (by omega)])⟩
        · have hc : sdC m s x = m 69 x := if_neg h6
          have := nxt (0, (x : Int)) (0, m 69 x)
          rw [hc, if_pos (show m 69 x = 27 by omega), List.append_nil, hl1] at this
          exact this hna
        · have hc : sdC m s x = m 68 x := if_pos (by omega)
          have := nxt (0, (x : Int)) (0, m 68 x)
          rw [hc, if_neg h7, List.length_append, List.length_singleton, hl1] at this
          exact this (by omega)
        · have hc : sdC m s x = m 68 x := if_pos (by omega)
          unfold sgn at hit
          rw [hc] at hit
          exact ⟨fun h10 => hit h7 (by omega) _ (by rw [if_neg h10]), fun h10 => hit h7 (by omega) _ (by rw [if_pos (by omega)])⟩
        · have hc : sdC m s x = m 68 x := if_pos (by omega)
          have := nxt (0, (x : Int)) (0, m 68 x)
          rw [hc, if_pos (show m 68 x = 27 by omega), List.append_nil, hl1] at this
          exact this hna
    exact main r [] (9, 0) (9, 0) rfl (by
      have : sdL m s [] = [] := rfl
      rw [this]
      by_cases h9 : q < 0
      · exact Or.inl h9
      · exact Or.inr (by simp only [List.length_nil]; omega))
  · have := of_decide_eq_false h5; omega

