/-! The model: where one stands behind a pair. -/
def oI (x : Option Nat) : Int := match x with
  | none => -1
  | some k => (k : Int)
theorem oI_n : oI none = -1 := rfl
theorem oI_s (k : Nat) : oI (some k) = (k : Int) := rfl
def UpM (w : eW) (lt : Nat → Int) (n : Nat) : Prop := w 67 47 = (n : Int) ∧ n ≤ 6 ∧ ∀ i, i < n → w 90 i = lt i ∧ 0 ≤ lt i ∧ lt i ≤ 26
def LoM (w : eW) (lt : Nat → Int) (n : Nat) : Prop := w 67 48 = (n : Int) ∧ n ≤ 6 ∧ ∀ i, i < n → w 91 i = lt i ∧ 0 ≤ lt i ∧ lt i ≤ 26
theorem upT_le {m : eW} {lt : Nat → Int} {n i d k : Nat} (hi : i ≤ n) (h : upT m lt n i d = some k) : k ≤ n ∧ k ≤ i + 1 := by
  unfold upT at h
  split at h
  · cases h; omega
  · split at h
    · cases h; omega
    · cases h
theorem loT_le {m : eW} {lt : Nat → Int} {n i d k : Nat} (hi : i ≤ n) (h : loT m lt n i d = some k) : k ≤ n ∧ k ≤ i + 1 := by
  unfold loT at h
  split at h
  · cases h; omega
  · split at h
    · cases h; omega
    · cases h

theorem g_upperThen {d : Nat} {Q : Option aV → aS → Prop} {w : eW} {t : eT} {i p : Int} (h : (0 ≤ w32 p ∧ w32 p < 16) ∧ ((¬ w32 (w 68 (w32 p).toNat) = w32 27 → ((w32 (w 67 47) ≤ w32 i → Q (some (0, (-1))) (enc w t)) ∧ (¬ (w32 (w 67 47) ≤ w32 i) → (0 ≤ w32 p ∧ w32 p < 16) ∧ (0 ≤ w32 i ∧ w32 i < 6) ∧ ((¬ w32 (w 68 (w32 p).toNat) = w32 (w 90 (w32 i).toNat) → Q (some (0, (-1))) (enc w t)) ∧ (¬ (¬ w32 (w 68 (w32 p).toNat) = w32 (w 90 (w32 i).toNat)) → Q (some (0, i + 1)) (enc w t)))))) ∧ (¬ (¬ w32 (w 68 (w32 p).toNat) = w32 27) → Q (some (0, i)) (enc w t)))) : Cl (d) 228 [rA 67, (0, i), (0, p)] (enc w t) Q := by
  show Ev (d) 228 Q 0 [rA 67, (0, i), (0, p)] [] (enc w t)
  refine e_lda (v := 67) (show am_cd 228 0 = (2, 1, 0, 2, []) by decide +kernel) rfl ?_
  refine e_getr (a := 67) (r := 68) (show am_cd 228 1 = (18, 4, 1201, 2, [9]) by decide +kernel) (by decide +kernel) (by decide +kernel) rfl ?_
  refine e_ldi (show am_cd 228 4 = (2, 5, 2, 0, []) by decide +kernel) rfl ?_
  refine e_iald (a := 68) (n := 16) (show am_cd 228 5 = (21, 6, 0, 0, []) by decide +kernel) (by decide +kernel) (by decide +kernel) (by decide +kernel) h.1 ?_
  replace h := h.2
  refine e_ic (show am_cd 228 6 = (0, 8, 1, 27, []) by decide +kernel) ?_
  refine e_cmp1 (show am_cd 228 8 = (11, 11, 13, 1, []) by decide +kernel) (fun hc => ?_) (fun hc => ?_)
  · replace h := h.1 hc
    refine e_ldi (show am_cd 228 13 = (2, 14, 1, 0, []) by decide +kernel) rfl ?_
    refine e_lda (v := 67) (show am_cd 228 14 = (2, 15, 0, 2, []) by decide +kernel) rfl ?_
    refine e_getf (a := 67) (tg := 0) (show am_cd 228 15 = (18, 18, 1247, 0, [345]) by decide +kernel) (by decide +kernel) (by decide +kernel) rfl ?_
    refine e_cmp3 (show am_cd 228 18 = (11, 21, 42, 3, []) by decide +kernel) (fun hc => ?_) (fun hc => ?_)
    · replace h := h.1 hc
      refine e_ic (show am_cd 228 42 = (0, 43, 0, -1, []) by decide +kernel) ?_
      exact e_reti (show am_cd 228 43 = (36, 44, 0, 0, []) by decide +kernel) (by decide +kernel) h
    · replace h := h.2 hc
      refine e_lda (v := 67) (show am_cd 228 21 = (2, 22, 0, 2, []) by decide +kernel) rfl ?_
      refine e_getr (a := 67) (r := 68) (show am_cd 228 22 = (18, 25, 1201, 2, [9]) by decide +kernel) (by decide +kernel) (by decide +kernel) rfl ?_
      refine e_ldi (show am_cd 228 25 = (2, 26, 2, 0, []) by decide +kernel) rfl ?_
      refine e_iald (a := 68) (n := 16) (show am_cd 228 26 = (21, 27, 0, 0, []) by decide +kernel) (by decide +kernel) (by decide +kernel) (by decide +kernel) h.1 ?_
      replace h := h.2
      refine e_lda (v := 67) (show am_cd 228 27 = (2, 28, 0, 2, []) by decide +kernel) rfl ?_
      refine e_getr (a := 67) (r := 90) (show am_cd 228 28 = (18, 31, 1233, 2, [78]) by decide +kernel) (by decide +kernel) (by decide +kernel) rfl ?_
      refine e_ldi (show am_cd 228 31 = (2, 32, 1, 0, []) by decide +kernel) rfl ?_
      refine e_iald (a := 90) (n := 6) (show am_cd 228 32 = (21, 33, 0, 0, []) by decide +kernel) (by decide +kernel) (by decide +kernel) (by decide +kernel) h.1 ?_
      replace h := h.2
      refine e_cmp1 (show am_cd 228 33 = (11, 36, 42, 1, []) by decide +kernel) (fun hc => ?_) (fun hc => ?_)
      · replace h := h.1 hc
        refine e_ic (show am_cd 228 42 = (0, 43, 0, -1, []) by decide +kernel) ?_
        exact e_reti (show am_cd 228 43 = (36, 44, 0, 0, []) by decide +kernel) (by decide +kernel) h
      · replace h := h.2 hc
        refine e_ldi (show am_cd 228 36 = (2, 37, 1, 0, []) by decide +kernel) rfl ?_
        refine e_ic (show am_cd 228 37 = (0, 38, 0, 1, []) by decide +kernel) ?_
        refine e_iadd (show am_cd 228 38 = (5, 39, 0, 0, []) by decide +kernel) ?_
        refine e_go (show am_cd 228 39 = (12, 43, 0, 0, []) by decide +kernel) ?_
        exact e_reti (show am_cd 228 43 = (36, 44, 0, 0, []) by decide +kernel) (by decide +kernel) h
  · replace h := h.2 hc
    refine e_ldi (show am_cd 228 11 = (2, 12, 1, 0, []) by decide +kernel) rfl ?_
    exact e_reti (show am_cd 228 12 = (36, 13, 0, 0, []) by decide +kernel) (by decide +kernel) h

theorem c_upperThen {d : Nat} {m w : eW} {t : eT} {lt : Nat → Int} {n : Nat} {i p : Int} (h : MG w m ∧ UpM w lt n ∧ (0 ≤ i ∧ i ≤ n) ∧ gP m p) : Cl d 228 [rA 67, (0, i), (0, p)] (enc w t) (fun z S2 => z = some (0, oI (upT m lt n i.toNat p.toNat)) ∧ S2 = enc w t) := by
  obtain ⟨⟨hp, hr, hwp, hwr⟩, ⟨u1, u2, u3⟩, hi, hd⟩ := h
  have hn := hp.n
  unfold gP at hd
  have g1 := (hwp.2 p.toNat (by omega)).1
  have b1 := (hp.2.1 p.toNat (by omega)).1
  refine g_upperThen ?_
  simp (disch := omega) only [w32_id, g1, u1]
  unfold upT
  refine ⟨by omega, fun h1 => ⟨fun h2 => ⟨?_, by trivial⟩, fun h2 => ?_⟩, fun h1 => ⟨?_, by trivial⟩⟩
  · rw [if_neg h1, if_neg (by omega)]; rfl
  · have g2 := u3 i.toNat (by omega)
    simp (disch := omega) only [w32_id, g2.1]
    refine ⟨by omega, by omega, fun h3 => ⟨?_, by trivial⟩, fun h3 => ⟨?_, by trivial⟩⟩
    · rw [if_neg h1, if_neg (by omega)]; rfl
    · rw [if_neg h1, if_pos (by omega), oI_s]
      congr 2
      omega
  · rw [if_pos (by omega), oI_s]
    congr 2
    omega

theorem g_lowerThen {d : Nat} {Q : Option aV → aS → Prop} {w : eW} {t : eT} {i p : Int} (h : (0 ≤ w32 p ∧ w32 p < 16) ∧ ((¬ w32 (w 69 (w32 p).toNat) = w32 27 → ((w32 (w 67 48) ≤ w32 i → Q (some (0, (-1))) (enc w t)) ∧ (¬ (w32 (w 67 48) ≤ w32 i) → (0 ≤ w32 p ∧ w32 p < 16) ∧ (0 ≤ w32 i ∧ w32 i < 6) ∧ ((¬ w32 (w 69 (w32 p).toNat) = w32 (w 91 (w32 i).toNat) → Q (some (0, (-1))) (enc w t)) ∧ (¬ (¬ w32 (w 69 (w32 p).toNat) = w32 (w 91 (w32 i).toNat)) → Q (some (0, i + 1)) (enc w t)))))) ∧ (¬ (¬ w32 (w 69 (w32 p).toNat) = w32 27) → Q (some (0, i)) (enc w t)))) : Cl (d) 229 [rA 67, (0, i), (0, p)] (enc w t) Q := by
  show Ev (d) 229 Q 0 [rA 67, (0, i), (0, p)] [] (enc w t)
  refine e_lda (v := 67) (show am_cd 229 0 = (2, 1, 0, 2, []) by decide +kernel) rfl ?_
  refine e_getr (a := 67) (r := 69) (show am_cd 229 1 = (18, 4, 1202, 2, [13]) by decide +kernel) (by decide +kernel) (by decide +kernel) rfl ?_
  refine e_ldi (show am_cd 229 4 = (2, 5, 2, 0, []) by decide +kernel) rfl ?_
  refine e_iald (a := 69) (n := 16) (show am_cd 229 5 = (21, 6, 0, 0, []) by decide +kernel) (by decide +kernel) (by decide +kernel) (by decide +kernel) h.1 ?_
  replace h := h.2
  refine e_ic (show am_cd 229 6 = (0, 8, 1, 27, []) by decide +kernel) ?_
  refine e_cmp1 (show am_cd 229 8 = (11, 11, 13, 1, []) by decide +kernel) (fun hc => ?_) (fun hc => ?_)
  · replace h := h.1 hc
    refine e_ldi (show am_cd 229 13 = (2, 14, 1, 0, []) by decide +kernel) rfl ?_
    refine e_lda (v := 67) (show am_cd 229 14 = (2, 15, 0, 2, []) by decide +kernel) rfl ?_
    refine e_getf (a := 67) (tg := 0) (show am_cd 229 15 = (18, 18, 1248, 0, [348]) by decide +kernel) (by decide +kernel) (by decide +kernel) rfl ?_
    refine e_cmp3 (show am_cd 229 18 = (11, 21, 42, 3, []) by decide +kernel) (fun hc => ?_) (fun hc => ?_)
    · replace h := h.1 hc
      refine e_ic (show am_cd 229 42 = (0, 43, 0, -1, []) by decide +kernel) ?_
      exact e_reti (show am_cd 229 43 = (36, 44, 0, 0, []) by decide +kernel) (by decide +kernel) h
    · replace h := h.2 hc
      refine e_lda (v := 67) (show am_cd 229 21 = (2, 22, 0, 2, []) by decide +kernel) rfl ?_
      refine e_getr (a := 67) (r := 69) (show am_cd 229 22 = (18, 25, 1202, 2, [13]) by decide +kernel) (by decide +kernel) (by decide +kernel) rfl ?_
      refine e_ldi (show am_cd 229 25 = (2, 26, 2, 0, []) by decide +kernel) rfl ?_
      refine e_iald (a := 69) (n := 16) (show am_cd 229 26 = (21, 27, 0, 0, []) by decide +kernel) (by decide +kernel) (by decide +kernel) (by decide +kernel) h.1 ?_
      replace h := h.2
      refine e_lda (v := 67) (show am_cd 229 27 = (2, 28, 0, 2, []) by decide +kernel) rfl ?_
      refine e_getr (a := 67) (r := 91) (show am_cd 229 28 = (18, 31, 1234, 2, [81]) by decide +kernel) (by decide +kernel) (by decide +kernel) rfl ?_
      refine e_ldi (show am_cd 229 31 = (2, 32, 1, 0, []) by decide +kernel) rfl ?_
      refine e_iald (a := 91) (n := 6) (show am_cd 229 32 = (21, 33, 0, 0, []) by decide +kernel) (by decide +kernel) (by decide +kernel) (by decide +kernel) h.1 ?_
      replace h := h.2
      refine e_cmp1 (show am_cd 229 33 = (11, 36, 42, 1, []) by decide +kernel) (fun hc => ?_) (fun hc => ?_)
      · replace h := h.1 hc
        refine e_ic (show am_cd 229 42 = (0, 43, 0, -1, []) by decide +kernel) ?_
        exact e_reti (show am_cd 229 43 = (36, 44, 0, 0, []) by decide +kernel) (by decide +kernel) h
      · replace h := h.2 hc
        refine e_ldi (show am_cd 229 36 = (2, 37, 1, 0, []) by decide +kernel) rfl ?_
        refine e_ic (show am_cd 229 37 = (0, 38, 0, 1, []) by decide +kernel) ?_
        refine e_iadd (show am_cd 229 38 = (5, 39, 0, 0, []) by decide +kernel) ?_
        refine e_go (show am_cd 229 39 = (12, 43, 0, 0, []) by decide +kernel) ?_
        exact e_reti (show am_cd 229 43 = (36, 44, 0, 0, []) by decide +kernel) (by decide +kernel) h
  · replace h := h.2 hc
    refine e_ldi (show am_cd 229 11 = (2, 12, 1, 0, []) by decide +kernel) rfl ?_
    exact e_reti (show am_cd 229 12 = (36, 13, 0, 0, []) by decide +kernel) (by decide +kernel) h

theorem c_lowerThen {d : Nat} {m w : eW} {t : eT} {lt : Nat → Int} {n : Nat} {i p : Int} (h : MG w m ∧ LoM w lt n ∧ (0 ≤ i ∧ i ≤ n) ∧ gP m p) : Cl d 229 [rA 67, (0, i), (0, p)] (enc w t) (fun z S2 => z = some (0, oI (loT m lt n i.toNat p.toNat)) ∧ S2 = enc w t) := by
  obtain ⟨⟨hp, hr, hwp, hwr⟩, ⟨u1, u2, u3⟩, hi, hd⟩ := h
  have hn := hp.n
  unfold gP at hd
  have g1 := (hwp.2 p.toNat (by omega)).2
  have b1 := (hp.2.1 p.toNat (by omega)).2.1
  refine g_lowerThen ?_
  simp (disch := omega) only [w32_id, g1, u1]
  unfold loT
  refine ⟨by omega, fun h1 => ⟨fun h2 => ⟨?_, by trivial⟩, fun h2 => ?_⟩, fun h1 => ⟨?_, by trivial⟩⟩
  · rw [if_neg h1, if_neg (by omega)]; rfl
  · have g2 := u3 i.toNat (by omega)
    simp (disch := omega) only [w32_id, g2.1]
    refine ⟨by omega, by omega, fun h3 => ⟨?_, by trivial⟩, fun h3 => ⟨?_, by trivial⟩⟩
    · rw [if_neg h1, if_neg (by omega)]; rfl
    · rw [if_neg h1, if_pos (by omega), oI_s]
      congr 2
      omega
  · rw [if_pos (by omega), oI_s]
    congr 2
    omega

theorem g_standsThen {d : Nat} {Q : Option aV → aS → Prop} {w : eW} {t : eT} {s p : Int} {m : eW} {lu ll : Nat → Int} {nu nl : Nat} (h : ((¬ w32 (w 67 49) = w32 1 → (MG w m ∧ UpM w lu nu ∧ (0 ≤ idiv s 16 ∧ idiv s 16 ≤ nu) ∧ gP m p) ∧ ((¬ w32 (w 67 49) = w32 2 → ((w32 (oI (upT m lu nu (idiv s 16).toNat p.toNat)) = w32 (-1) → Q (some (0, (-1))) (enc w t)) ∧ (¬ (w32 (oI (upT m lu nu (idiv s 16).toNat p.toNat)) = w32 (-1)) → ((w32 (irem s 16) ≤ w32 6 → Q (some (0, (16 * (oI (upT m lu nu (idiv s 16).toNat p.toNat))) + (irem s 16))) (enc w t)) ∧ (¬ (w32 (irem s 16) ≤ w32 6) → Q (some (0, (-1))) (enc w t)))))) ∧ (¬ (¬ w32 (w 67 49) = w32 2) → (0 ≤ w32 p ∧ w32 p < 16) ∧ ((w32 (w 69 (w32 p).toNat) = w32 27 → ((w32 (oI (upT m lu nu (idiv s 16).toNat p.toNat)) = w32 (-1) → Q (some (0, (-1))) (enc w t)) ∧ (¬ (w32 (oI (upT m lu nu (idiv s 16).toNat p.toNat)) = w32 (-1)) → ((w32 (irem s 16) ≤ w32 6 → Q (some (0, (16 * (oI (upT m lu nu (idiv s 16).toNat p.toNat))) + (irem s 16))) (enc w t)) ∧ (¬ (w32 (irem s 16) ≤ w32 6) → Q (some (0, (-1))) (enc w t)))))) ∧ (¬ (w32 (w 69 (w32 p).toNat) = w32 27) → ((w32 (oI (upT m lu nu (idiv s 16).toNat p.toNat)) = w32 (-1) → Q (some (0, (-1))) (enc w t)) ∧ (¬ (w32 (oI (upT m lu nu (idiv s 16).toNat p.toNat)) = w32 (-1)) → ((w32 ((irem s 16) + 1) ≤ w32 6 → Q (some (0, (16 * (oI (upT m lu nu (idiv s 16).toNat p.toNat))) + ((irem s 16) + 1))) (enc w t)) ∧ (¬ (w32 ((irem s 16) + 1) ≤ w32 6) → Q (some (0, (-1))) (enc w t)))))))))) ∧ (¬ (¬ w32 (w 67 49) = w32 1) → (MG w m ∧ LoM w ll nl ∧ (0 ≤ idiv s 16 ∧ idiv s 16 ≤ nl) ∧ gP m p) ∧ ((w32 (oI (loT m ll nl (idiv s 16).toNat p.toNat)) = w32 (-1) → Q (some (0, (-1))) (enc w t)) ∧ (¬ (w32 (oI (loT m ll nl (idiv s 16).toNat p.toNat)) = w32 (-1)) → ((¬ w32 (irem s 16) = w32 8 → Q (some (0, ((16 * (oI (loT m ll nl (idiv s 16).toNat p.toNat))) + (irem s 16)) + 1)) (enc w t)) ∧ (¬ (¬ w32 (irem s 16) = w32 8) → Q (some (0, (-1))) (enc w t)))))))) : Cl (d + 1) 230 [rA 67, (0, s), (0, p)] (enc w t) Q := by
  show Ev (d + 1) 230 Q 0 [rA 67, (0, s), (0, p), (9, 0), (9, 0), (9, 0), (9, 0)] [] (enc w t)
  refine e_ldi (show am_cd 230 0 = (2, 1, 1, 0, []) by decide +kernel) rfl ?_
  refine e_ic (show am_cd 230 1 = (0, 3, 1, 16, []) by decide +kernel) ?_
  refine e_idiv (show am_cd 230 3 = (5, 4, 9, 0, []) by decide +kernel) (by decide) ?_
  refine e_sti (la2 := [rA 67, (0, s), (0, p), (0, idiv s 16), (9, 0), (9, 0), (9, 0)]) (show am_cd 230 4 = (3, 5, 3, 0, []) by decide +kernel) rfl ?_
  refine e_ldi (show am_cd 230 5 = (2, 6, 1, 0, []) by decide +kernel) rfl ?_
  refine e_ic (show am_cd 230 6 = (0, 8, 1, 16, []) by decide +kernel) ?_
  refine e_irem (show am_cd 230 8 = (5, 9, 10, 0, []) by decide +kernel) (by decide) ?_
  refine e_sti (la2 := [rA 67, (0, s), (0, p), (0, idiv s 16), (0, irem s 16), (9, 0), (9, 0)]) (show am_cd 230 9 = (3, 11, 4, 0, []) by decide +kernel) rfl ?_
  refine e_lda (v := 67) (show am_cd 230 11 = (2, 12, 0, 2, []) by decide +kernel) rfl ?_
  refine e_getf (a := 67) (tg := 0) (show am_cd 230 12 = (18, 15, 1249, 0, [351]) by decide +kernel) (by decide +kernel) (by decide +kernel) rfl ?_
  refine e_ic (show am_cd 230 15 = (0, 16, 0, 1, []) by decide +kernel) ?_
  refine e_cmp1 (show am_cd 230 16 = (11, 19, 55, 1, []) by decide +kernel) (fun hc => ?_) (fun hc => ?_)
  · replace h := h.1 hc
    refine e_lda (v := 67) (show am_cd 230 55 = (2, 56, 0, 2, []) by decide +kernel) rfl ?_
    refine e_ldi (show am_cd 230 56 = (2, 57, 3, 0, []) by decide +kernel) rfl ?_
    refine e_ldi (show am_cd 230 57 = (2, 58, 2, 0, []) by decide +kernel) rfl ?_
    refine e_cV (z := 0) (a := 67) (as := [(0, idiv s 16), (0, p)]) (rest := []) (show am_cd 230 58 = (40, 61, 228, 0, [357]) by decide +kernel) (by decide +kernel) rfl rfl (Nat.le_of_ble_eq_true rfl) rfl ?_
    refine Cl.mono (Cl.up (c_upperThen (d := d) h.1) (by omega)) ?_
    rintro _ _ ⟨rfl, rfl⟩
    refine ⟨fun _ h9 => (by cases h9), ?_⟩
    replace h := h.2
    show Ev _ 230 _ 61 [rA 67, (0, s), (0, p), (0, idiv s 16), (0, irem s 16), (9, 0), (9, 0)] [(0, oI (upT m lu nu (idiv s 16).toNat p.toNat))] _
    refine e_sti (la2 := [rA 67, (0, s), (0, p), (0, idiv s 16), (0, irem s 16), (0, oI (upT m lu nu (idiv s 16).toNat p.toNat)), (9, 0)]) (show am_cd 230 61 = (3, 63, 5, 0, []) by decide +kernel) rfl ?_
    refine e_lda (v := 67) (show am_cd 230 63 = (2, 64, 0, 2, []) by decide +kernel) rfl ?_
    refine e_getf (a := 67) (tg := 0) (show am_cd 230 64 = (18, 67, 1249, 0, [351]) by decide +kernel) (by decide +kernel) (by decide +kernel) rfl ?_
    refine e_ic (show am_cd 230 67 = (0, 68, 0, 2, []) by decide +kernel) ?_
    refine e_cmp1 (show am_cd 230 68 = (11, 71, 89, 1, []) by decide +kernel) (fun hc => ?_) (fun hc => ?_)
    · replace h := h.1 hc
      refine e_ldi (show am_cd 230 89 = (2, 91, 4, 0, []) by decide +kernel) rfl ?_
      refine e_sti (la2 := [rA 67, (0, s), (0, p), (0, idiv s 16), (0, irem s 16), (0, oI (upT m lu nu (idiv s 16).toNat p.toNat)), (0, irem s 16)]) (show am_cd 230 91 = (3, 93, 6, 0, []) by decide +kernel) rfl ?_
      refine e_ldi (show am_cd 230 93 = (2, 95, 5, 0, []) by decide +kernel) rfl ?_
      refine e_ic (show am_cd 230 95 = (0, 96, 0, -1, []) by decide +kernel) ?_
      refine e_cmp0 (show am_cd 230 96 = (11, 99, 106, 0, []) by decide +kernel) (fun hc => ?_) (fun hc => ?_)
      · replace h := h.1 hc
        refine e_ic (show am_cd 230 106 = (0, 107, 0, -1, []) by decide +kernel) ?_
        refine e_go (show am_cd 230 107 = (12, 118, 0, 0, []) by decide +kernel) ?_
        exact e_reti (show am_cd 230 118 = (36, 119, 0, 0, []) by decide +kernel) (by decide +kernel) h
      · replace h := h.2 hc
        refine e_ldi (show am_cd 230 99 = (2, 101, 6, 0, []) by decide +kernel) rfl ?_
        refine e_ic (show am_cd 230 101 = (0, 103, 1, 6, []) by decide +kernel) ?_
        refine e_cmp5 (show am_cd 230 103 = (11, 106, 110, 5, []) by decide +kernel) (fun hc => ?_) (fun hc => ?_)
        · replace h := h.1 hc
          refine e_ic (show am_cd 230 110 = (0, 112, 1, 16, []) by decide +kernel) ?_
          refine e_ldi (show am_cd 230 112 = (2, 114, 5, 0, []) by decide +kernel) rfl ?_
          refine e_imul (show am_cd 230 114 = (5, 115, 2, 0, []) by decide +kernel) ?_
          refine e_ldi (show am_cd 230 115 = (2, 117, 6, 0, []) by decide +kernel) rfl ?_
          refine e_iadd (show am_cd 230 117 = (5, 118, 0, 0, []) by decide +kernel) ?_
          exact e_reti (show am_cd 230 118 = (36, 119, 0, 0, []) by decide +kernel) (by decide +kernel) h
        · replace h := h.2 hc
          refine e_ic (show am_cd 230 106 = (0, 107, 0, -1, []) by decide +kernel) ?_
          refine e_go (show am_cd 230 107 = (12, 118, 0, 0, []) by decide +kernel) ?_
          exact e_reti (show am_cd 230 118 = (36, 119, 0, 0, []) by decide +kernel) (by decide +kernel) h
    · replace h := h.2 hc
      refine e_lda (v := 67) (show am_cd 230 71 = (2, 72, 0, 2, []) by decide +kernel) rfl ?_
      refine e_getr (a := 67) (r := 69) (show am_cd 230 72 = (18, 75, 1202, 2, [13]) by decide +kernel) (by decide +kernel) (by decide +kernel) rfl ?_
      refine e_ldi (show am_cd 230 75 = (2, 76, 2, 0, []) by decide +kernel) rfl ?_
      refine e_iald (a := 69) (n := 16) (show am_cd 230 76 = (21, 77, 0, 0, []) by decide +kernel) (by decide +kernel) (by decide +kernel) (by decide +kernel) h.1 ?_
      replace h := h.2
      refine e_ic (show am_cd 230 77 = (0, 79, 1, 27, []) by decide +kernel) ?_
      refine e_cmp0 (show am_cd 230 79 = (11, 82, 89, 0, []) by decide +kernel) (fun hc => ?_) (fun hc => ?_)
      · replace h := h.1 hc
        refine e_ldi (show am_cd 230 89 = (2, 91, 4, 0, []) by decide +kernel) rfl ?_
        refine e_sti (la2 := [rA 67, (0, s), (0, p), (0, idiv s 16), (0, irem s 16), (0, oI (upT m lu nu (idiv s 16).toNat p.toNat)), (0, irem s 16)]) (show am_cd 230 91 = (3, 93, 6, 0, []) by decide +kernel) rfl ?_
        refine e_ldi (show am_cd 230 93 = (2, 95, 5, 0, []) by decide +kernel) rfl ?_
        refine e_ic (show am_cd 230 95 = (0, 96, 0, -1, []) by decide +kernel) ?_
        refine e_cmp0 (show am_cd 230 96 = (11, 99, 106, 0, []) by decide +kernel) (fun hc => ?_) (fun hc => ?_)
        · replace h := h.1 hc
          refine e_ic (show am_cd 230 106 = (0, 107, 0, -1, []) by decide +kernel) ?_
          refine e_go (show am_cd 230 107 = (12, 118, 0, 0, []) by decide +kernel) ?_
          exact e_reti (show am_cd 230 118 = (36, 119, 0, 0, []) by decide +kernel) (by decide +kernel) h
        · replace h := h.2 hc
          refine e_ldi (show am_cd 230 99 = (2, 101, 6, 0, []) by decide +kernel) rfl ?_
          refine e_ic (show am_cd 230 101 = (0, 103, 1, 6, []) by decide +kernel) ?_
          refine e_cmp5 (show am_cd 230 103 = (11, 106, 110, 5, []) by decide +kernel) (fun hc => ?_) (fun hc => ?_)
          · replace h := h.1 hc
            refine e_ic (show am_cd 230 110 = (0, 112, 1, 16, []) by decide +kernel) ?_
            refine e_ldi (show am_cd 230 112 = (2, 114, 5, 0, []) by decide +kernel) rfl ?_
            refine e_imul (show am_cd 230 114 = (5, 115, 2, 0, []) by decide +kernel) ?_
            refine e_ldi (show am_cd 230 115 = (2, 117, 6, 0, []) by decide +kernel) rfl ?_
            refine e_iadd (show am_cd 230 117 = (5, 118, 0, 0, []) by decide +kernel) ?_
            exact e_reti (show am_cd 230 118 = (36, 119, 0, 0, []) by decide +kernel) (by decide +kernel) h
          · replace h := h.2 hc
            refine e_ic (show am_cd 230 106 = (0, 107, 0, -1, []) by decide +kernel) ?_
            refine e_go (show am_cd 230 107 = (12, 118, 0, 0, []) by decide +kernel) ?_
            exact e_reti (show am_cd 230 118 = (36, 119, 0, 0, []) by decide +kernel) (by decide +kernel) h
      · replace h := h.2 hc
        refine e_ldi (show am_cd 230 82 = (2, 84, 4, 0, []) by decide +kernel) rfl ?_
        refine e_ic (show am_cd 230 84 = (0, 85, 0, 1, []) by decide +kernel) ?_
        refine e_iadd (show am_cd 230 85 = (5, 86, 0, 0, []) by decide +kernel) ?_
        refine e_go (show am_cd 230 86 = (12, 91, 0, 0, []) by decide +kernel) ?_
        refine e_sti (la2 := [rA 67, (0, s), (0, p), (0, idiv s 16), (0, irem s 16), (0, oI (upT m lu nu (idiv s 16).toNat p.toNat)), (0, (irem s 16) + 1)]) (show am_cd 230 91 = (3, 93, 6, 0, []) by decide +kernel) rfl ?_
        refine e_ldi (show am_cd 230 93 = (2, 95, 5, 0, []) by decide +kernel) rfl ?_
        refine e_ic (show am_cd 230 95 = (0, 96, 0, -1, []) by decide +kernel) ?_
        refine e_cmp0 (show am_cd 230 96 = (11, 99, 106, 0, []) by decide +kernel) (fun hc => ?_) (fun hc => ?_)
        · replace h := h.1 hc
          refine e_ic (show am_cd 230 106 = (0, 107, 0, -1, []) by decide +kernel) ?_
          refine e_go (show am_cd 230 107 = (12, 118, 0, 0, []) by decide +kernel) ?_
          exact e_reti (show am_cd 230 118 = (36, 119, 0, 0, []) by decide +kernel) (by decide +kernel) h
        · replace h := h.2 hc
          refine e_ldi (show am_cd 230 99 = (2, 101, 6, 0, []) by decide +kernel) rfl ?_
          refine e_ic (show am_cd 230 101 = (0, 103, 1, 6, []) by decide +kernel) ?_
          refine e_cmp5 (show am_cd 230 103 = (11, 106, 110, 5, []) by decide +kernel) (fun hc => ?_) (fun hc => ?_)
          · replace h := h.1 hc
            refine e_ic (show am_cd 230 110 = (0, 112, 1, 16, []) by decide +kernel) ?_
            refine e_ldi (show am_cd 230 112 = (2, 114, 5, 0, []) by decide +kernel) rfl ?_
            refine e_imul (show am_cd 230 114 = (5, 115, 2, 0, []) by decide +kernel) ?_
            refine e_ldi (show am_cd 230 115 = (2, 117, 6, 0, []) by decide +kernel) rfl ?_
            refine e_iadd (show am_cd 230 117 = (5, 118, 0, 0, []) by decide +kernel) ?_
            exact e_reti (show am_cd 230 118 = (36, 119, 0, 0, []) by decide +kernel) (by decide +kernel) h
          · replace h := h.2 hc
            refine e_ic (show am_cd 230 106 = (0, 107, 0, -1, []) by decide +kernel) ?_
            refine e_go (show am_cd 230 107 = (12, 118, 0, 0, []) by decide +kernel) ?_
            exact e_reti (show am_cd 230 118 = (36, 119, 0, 0, []) by decide +kernel) (by decide +kernel) h
  · replace h := h.2 hc
    refine e_lda (v := 67) (show am_cd 230 19 = (2, 20, 0, 2, []) by decide +kernel) rfl ?_
    refine e_ldi (show am_cd 230 20 = (2, 21, 3, 0, []) by decide +kernel) rfl ?_
    refine e_ldi (show am_cd 230 21 = (2, 22, 2, 0, []) by decide +kernel) rfl ?_
    refine e_cV (z := 0) (a := 67) (as := [(0, idiv s 16), (0, p)]) (rest := []) (show am_cd 230 22 = (40, 25, 229, 0, [354]) by decide +kernel) (by decide +kernel) rfl rfl (Nat.le_of_ble_eq_true rfl) rfl ?_
    refine Cl.mono (Cl.up (c_lowerThen (d := d) h.1) (by omega)) ?_
    rintro _ _ ⟨rfl, rfl⟩
    refine ⟨fun _ h9 => (by cases h9), ?_⟩
    replace h := h.2
    show Ev _ 230 _ 25 [rA 67, (0, s), (0, p), (0, idiv s 16), (0, irem s 16), (9, 0), (9, 0)] [(0, oI (loT m ll nl (idiv s 16).toNat p.toNat))] _
    refine e_sti (la2 := [rA 67, (0, s), (0, p), (0, idiv s 16), (0, irem s 16), (0, oI (loT m ll nl (idiv s 16).toNat p.toNat)), (9, 0)]) (show am_cd 230 25 = (3, 27, 5, 0, []) by decide +kernel) rfl ?_
    refine e_ldi (show am_cd 230 27 = (2, 29, 5, 0, []) by decide +kernel) rfl ?_
    refine e_ic (show am_cd 230 29 = (0, 30, 0, -1, []) by decide +kernel) ?_
    refine e_cmp0 (show am_cd 230 30 = (11, 33, 40, 0, []) by decide +kernel) (fun hc => ?_) (fun hc => ?_)
    · replace h := h.1 hc
      refine e_ic (show am_cd 230 40 = (0, 41, 0, -1, []) by decide +kernel) ?_
      refine e_go (show am_cd 230 41 = (12, 54, 0, 0, []) by decide +kernel) ?_
      exact e_reti (show am_cd 230 54 = (36, 55, 0, 0, []) by decide +kernel) (by decide +kernel) h
    · replace h := h.2 hc
      refine e_ldi (show am_cd 230 33 = (2, 35, 4, 0, []) by decide +kernel) rfl ?_
      refine e_ic (show am_cd 230 35 = (0, 37, 1, 8, []) by decide +kernel) ?_
      refine e_cmp1 (show am_cd 230 37 = (11, 40, 44, 1, []) by decide +kernel) (fun hc => ?_) (fun hc => ?_)
      · replace h := h.1 hc
        refine e_ic (show am_cd 230 44 = (0, 46, 1, 16, []) by decide +kernel) ?_
        refine e_ldi (show am_cd 230 46 = (2, 48, 5, 0, []) by decide +kernel) rfl ?_
        refine e_imul (show am_cd 230 48 = (5, 49, 2, 0, []) by decide +kernel) ?_
        refine e_ldi (show am_cd 230 49 = (2, 51, 4, 0, []) by decide +kernel) rfl ?_
        refine e_iadd (show am_cd 230 51 = (5, 52, 0, 0, []) by decide +kernel) ?_
        refine e_ic (show am_cd 230 52 = (0, 53, 0, 1, []) by decide +kernel) ?_
        refine e_iadd (show am_cd 230 53 = (5, 54, 0, 0, []) by decide +kernel) ?_
        exact e_reti (show am_cd 230 54 = (36, 55, 0, 0, []) by decide +kernel) (by decide +kernel) h
      · replace h := h.2 hc
        refine e_ic (show am_cd 230 40 = (0, 41, 0, -1, []) by decide +kernel) ?_
        refine e_go (show am_cd 230 41 = (12, 54, 0, 0, []) by decide +kernel) ?_
        exact e_reti (show am_cd 230 54 = (36, 55, 0, 0, []) by decide +kernel) (by decide +kernel) h

theorem g_isThrough {d : Nat} {Q : Option aV → aS → Prop} {w : eW} {t : eT} {s : Int} (h : ((¬ w32 (w 67 49) = w32 1 → ((¬ w32 (idiv s 16) = w32 (w 67 47) → Q (some (0, 0)) (enc w t)) ∧ (¬ (¬ w32 (idiv s 16) = w32 (w 67 47)) → Q (some (0, 1)) (enc w t)))) ∧ (¬ (¬ w32 (w 67 49) = w32 1) → ((¬ w32 (idiv s 16) = w32 (w 67 48) → Q (some (0, 0)) (enc w t)) ∧ (¬ (¬ w32 (idiv s 16) = w32 (w 67 48)) → Q (some (0, 1)) (enc w t)))))) : Cl (d + 1) 231 [rA 67, (0, s)] (enc w t) Q := by
  show Ev (d + 1) 231 Q 0 [rA 67, (0, s)] [] (enc w t)
  refine e_ldi (show am_cd 231 0 = (2, 1, 1, 0, []) by decide +kernel) rfl ?_
  refine e_ic (show am_cd 231 1 = (0, 3, 1, 16, []) by decide +kernel) ?_
  refine e_idiv (show am_cd 231 3 = (5, 4, 9, 0, []) by decide +kernel) (by decide) ?_
  refine e_lda (v := 67) (show am_cd 231 4 = (2, 5, 0, 2, []) by decide +kernel) rfl ?_
  refine e_getf (a := 67) (tg := 0) (show am_cd 231 5 = (18, 8, 1249, 0, [351]) by decide +kernel) (by decide +kernel) (by decide +kernel) rfl ?_
  refine e_ic (show am_cd 231 8 = (0, 9, 0, 1, []) by decide +kernel) ?_
  refine e_cmp1 (show am_cd 231 9 = (11, 12, 19, 1, []) by decide +kernel) (fun hc => ?_) (fun hc => ?_)
  · replace h := h.1 hc
    refine e_lda (v := 67) (show am_cd 231 19 = (2, 20, 0, 2, []) by decide +kernel) rfl ?_
    refine e_getf (a := 67) (tg := 0) (show am_cd 231 20 = (18, 23, 1247, 0, [345]) by decide +kernel) (by decide +kernel) (by decide +kernel) rfl ?_
    refine e_cmp1 (show am_cd 231 23 = (11, 26, 30, 1, []) by decide +kernel) (fun hc => ?_) (fun hc => ?_)
    · replace h := h.1 hc
      refine e_ic (show am_cd 231 30 = (0, 31, 0, 0, []) by decide +kernel) ?_
      exact e_retz (show am_cd 231 31 = (36, 32, 0, 0, []) by decide +kernel) (by decide +kernel) (Or.inl rfl) h
    · replace h := h.2 hc
      refine e_ic (show am_cd 231 26 = (0, 27, 0, 1, []) by decide +kernel) ?_
      refine e_go (show am_cd 231 27 = (12, 31, 0, 0, []) by decide +kernel) ?_
      exact e_retz (show am_cd 231 31 = (36, 32, 0, 0, []) by decide +kernel) (by decide +kernel) (Or.inr rfl) h
  · replace h := h.2 hc
    refine e_lda (v := 67) (show am_cd 231 12 = (2, 13, 0, 2, []) by decide +kernel) rfl ?_
    refine e_getf (a := 67) (tg := 0) (show am_cd 231 13 = (18, 16, 1248, 0, [348]) by decide +kernel) (by decide +kernel) (by decide +kernel) rfl ?_
    refine e_go (show am_cd 231 16 = (12, 23, 0, 0, []) by decide +kernel) ?_
    refine e_cmp1 (show am_cd 231 23 = (11, 26, 30, 1, []) by decide +kernel) (fun hc => ?_) (fun hc => ?_)
    · replace h := h.1 hc
      refine e_ic (show am_cd 231 30 = (0, 31, 0, 0, []) by decide +kernel) ?_
      exact e_retz (show am_cd 231 31 = (36, 32, 0, 0, []) by decide +kernel) (by decide +kernel) (Or.inl rfl) h
    · replace h := h.2 hc
      refine e_ic (show am_cd 231 26 = (0, 27, 0, 1, []) by decide +kernel) ?_
      refine e_go (show am_cd 231 27 = (12, 31, 0, 0, []) by decide +kernel) ?_
      exact e_retz (show am_cd 231 31 = (36, 32, 0, 0, []) by decide +kernel) (by decide +kernel) (Or.inr rfl) h

/-- what is asked, and of which letters -/
def TkM (w : eW) (q : Nat) (lt : Nat → Int) (n : Nat) : Prop := w 67 49 = (q : Int) ∧ q ≤ 2 ∧ (q = 1 → LoM w lt n) ∧ (q ≠ 1 → UpM w lt n)
theorem TkM.n {w : eW} {q : Nat} {lt : Nat → Int} {n : Nat} (h : TkM w q lt n) : n ≤ 6 := by
  by_cases hq : q = 1
  · exact (h.2.2.1 hq).2.1
  · exact (h.2.2.2 hq).2.1
theorem stT_in {m : eW} {q : Nat} {lt : Nat → Int} {n s d k : Nat} (hi : s / 16 ≤ n) (hs : s % 16 ≤ 8) (h : stT m q lt n s d = some k) : k / 16 ≤ n ∧ k % 16 ≤ 8 := by
  unfold stT at h
  split at h
  · split at h
    · cases h
    · next i he =>
      have := loT_le hi he
      split at h
      · cases h
      · cases h; omega
  · split at h
    · cases h
    · next i he =>
      have := upT_le hi he
      generalize (if q = 2 ∧ ¬ m 69 d = 27 then s % 16 + 1 else s % 16) = e at h
      split at h
      · cases h
      · cases h; omega
theorem c_standsThen {d : Nat} {m w : eW} {t : eT} {q : Nat} {lt : Nat → Int} {n : Nat} {s p : Int} (h : MG w m ∧ TkM w q lt n ∧ (0 ≤ s ∧ s.toNat / 16 ≤ n ∧ s.toNat % 16 ≤ 8) ∧ gP m p) : Cl (d + 1) 230 [rA 67, (0, s), (0, p)] (enc w t) (fun z S2 => z = some (0, oI (stT m q lt n s.toNat p.toNat)) ∧ S2 = enc w t) := by
  obtain ⟨hm, hk, hs, hp⟩ := h
  have hn := hk.n
  have hpp := hm.1.n
  have hp' := hp
  unfold gP at hp'
  have e1 : idiv s 16 = s / 16 := i_div (by omega) (by omega)
  have e2 : irem s 16 = s % 16 := i_rem (by omega) (by omega)
  have e3 : (s / 16).toNat = s.toNat / 16 := by omega
  have g1 := (hm.2.2.1.2 p.toNat (by omega)).2
  have b1 := (hm.1.2.1 p.toNat (by omega)).2.1
  refine g_standsThen (m := m) (lu := lt) (ll := lt) (nu := n) (nl := n) ?_
  have hq0 := hk.1
  have hq1 := hk.2.1
  rw [e1, e2, e3, hq0]
  simp (disch := omega) only [w32_id, g1]
  unfold stT
  by_cases hq : q = 1
  · rw [if_pos hq]
    refine ⟨fun h9 => (by omega), fun _ => ⟨⟨hm, hk.2.2.1 hq, by omega, hp⟩, ?_⟩⟩
    cases hT : loT m lt n (s.toNat / 16) p.toNat with
    | none => exact ⟨fun _ => ⟨rfl, by trivial⟩, fun h9 => absurd rfl h9⟩
    | some i =>
      have hi := loT_le (by omega) hT
      simp (disch := omega) only [oI_s, w32_id]
      refine ⟨fun h9 => (by omega), fun _ => ⟨fun h3 => ⟨?_, by trivial⟩, fun h3 => ⟨?_, by trivial⟩⟩⟩
      · rw [if_neg (by omega), oI_s]; congr 2; omega
      · rw [if_pos (by omega)]; rfl
  · rw [if_neg hq]
    refine ⟨fun _ => ⟨⟨hm, hk.2.2.2 hq, by omega, hp⟩, ?_⟩, fun h9 => (by omega)⟩
    cases hT : upT m lt n (s.toNat / 16) p.toNat with
    | none =>
      simp only [oI_n]
      refine ⟨fun h2 => ⟨fun _ => ⟨by trivial, by trivial⟩, fun h9 => absurd rfl h9⟩, fun h2 => ⟨by omega, fun h3 => ⟨fun _ => ⟨by trivial, by trivial⟩, fun h9 => absurd rfl h9⟩, fun h3 => ⟨fun _ => ⟨by trivial, by trivial⟩, fun h9 => absurd rfl h9⟩⟩⟩
    | some i =>
      have hi := upT_le (by omega) hT
      simp (disch := omega) only [oI_s, w32_id]
      refine ⟨fun h2 => ⟨fun h9 => (by omega), fun _ => ⟨fun h4 => ⟨?_, by trivial⟩, fun h4 => ⟨?_, by trivial⟩⟩⟩, fun h2 => ⟨by omega, fun h3 => ⟨fun h9 => (by omega), fun _ => ⟨fun h4 => ⟨?_, by trivial⟩, fun h4 => ⟨?_, by trivial⟩⟩⟩, fun h3 => ⟨fun h9 => (by omega), fun _ => ⟨fun h4 => ⟨?_, by trivial⟩, fun h4 => ⟨?_, by trivial⟩⟩⟩⟩⟩
      · rw [if_neg (show ¬ (q = 2 ∧ ¬ m 69 p.toNat = 27) by omega), if_neg (by omega), oI_s]; congr 2; omega
      · rw [if_neg (show ¬ (q = 2 ∧ ¬ m 69 p.toNat = 27) by omega), if_pos (by omega)]; rfl
      · rw [if_neg (show ¬ (q = 2 ∧ ¬ m 69 p.toNat = 27) by omega), if_neg (by omega), oI_s]; congr 2; omega
      · rw [if_neg (show ¬ (q = 2 ∧ ¬ m 69 p.toNat = 27) by omega), if_pos (by omega)]; rfl
      · rw [if_pos (show (q = 2 ∧ ¬ m 69 p.toNat = 27) by omega), if_neg (by omega), oI_s]; congr 2; omega
      · rw [if_pos (show (q = 2 ∧ ¬ m 69 p.toNat = 27) by omega), if_pos (by omega)]; rfl
theorem c_isThrough {d : Nat} {w : eW} {t : eT} {q : Nat} {lt : Nat → Int} {n : Nat} {s : Int} (h : TkM w q lt n ∧ (0 ≤ s ∧ s.toNat / 16 ≤ n)) : Cl (d + 1) 231 [rA 67, (0, s)] (enc w t) (fun z S2 => z = some (0, bI (decide (s.toNat / 16 = n))) ∧ S2 = enc w t) := by
  obtain ⟨hk, hs⟩ := h
  have hn := hk.n
  have e1 : idiv s 16 = s / 16 := i_div (by omega) (by omega)
  refine g_isThrough ?_
  have hq0 := hk.1
  have hq1 := hk.2.1
  rw [e1, hq0]
  simp (disch := omega) only [w32_id]
  by_cases hq : q = 1
  · have := (hk.2.2.1 hq).1
    rw [this]
    simp (disch := omega) only [w32_id]
    refine ⟨fun h9 => (by omega), fun _ => ⟨fun h2 => ⟨?_, by trivial⟩, fun h2 => ⟨?_, by trivial⟩⟩⟩
    · rw [decide_eq_false (by omega)]; rfl
    · rw [decide_eq_true (by omega)]; rfl
  · have := (hk.2.2.2 hq).1
    rw [this]
    simp (disch := omega) only [w32_id]
    refine ⟨fun _ => ⟨fun h2 => ⟨?_, by trivial⟩, fun h2 => ⟨?_, by trivial⟩⟩, fun h9 => (by omega)⟩
    · rw [decide_eq_false (by omega)]; rfl
    · rw [decide_eq_true (by omega)]; rfl

