/-! Where two rules demand unlike things. -/
def dem (s : Int) : Bool := decide (s = 1) || decide (s = 2)
def unl (m : eW) (a b : Nat) : Bool := decide (m 68 (m 72 a).toNat = m 68 (m 72 b).toNat) && (if dem (m 73 a) && dem (m 73 b) then !decide (m 72 a = m 72 b) else decide (m 72 a = m 72 b) && (dem (m 73 a) && decide (m 73 b = 3) || decide (m 73 a = 3) && dem (m 73 b)))
/-- a row's pair at a place, the end beyond it -/
def rAt (l : List Nat) (p : Int) : Nat := if 0 ≤ p ∧ p < l.length then l.getD p.toNat 0 else 16
def clP (m : eW) (a b : Nat) (l : List Nat) (p : Nat) : Bool := decide (m 68 (l.getD p 0) = m 68 (m 72 a).toNat) && inR m a (rAt l ((p : Int) - 2)) (rAt l ((p : Int) - 1)) (rAt l ((p : Int) + 1)) && inR m b (rAt l ((p : Int) - 2)) (rAt l ((p : Int) - 1)) (rAt l ((p : Int) + 1))
/-- the first place of a clash; the row's length: none -/
def clF (m : eW) (a b : Nat) (l : List Nat) : Nat := fsN (clP m a b l) l.length 0
def clI (m : eW) (a b : Nat) (l : List Nat) : Int := if clF m a b l = l.length then -1 else (clF m a b l : Int)
/-- all rows of so many pairs behind a pair, in order -/
def rwL (m : eW) : Nat → Nat → List (List Nat)
  | 0, _ => [[]]
  | n + 1, c => lsD (fun d => if isI m c && isI m d then [] else (rwL m n d).map (fun l => d :: l)) (nP m)

theorem g_isDemand {d : Nat} {Q : Option aV → aS → Prop} {w : eW} {t : eT} {x : Int} (h : ((w32 x = w32 1 → Q (some (0, 1)) (enc w t)) ∧ (¬ (w32 x = w32 1) → ((¬ w32 x = w32 2 → Q (some (0, 0)) (enc w t)) ∧ (¬ (¬ w32 x = w32 2) → Q (some (0, 1)) (enc w t)))))) : Cl (d) 220 [(0, x)] (enc w t) Q := by
  show Ev (d) 220 Q 0 [(0, x)] [] (enc w t)
  refine e_ldi (show am_cd 220 0 = (2, 1, 0, 0, []) by decide +kernel) rfl ?_
  refine e_ic (show am_cd 220 1 = (0, 2, 0, 1, []) by decide +kernel) ?_
  refine e_cmp0 (show am_cd 220 2 = (11, 5, 10, 0, []) by decide +kernel) (fun hc => ?_) (fun hc => ?_)
  · replace h := h.1 hc
    refine e_ic (show am_cd 220 10 = (0, 11, 0, 1, []) by decide +kernel) ?_
    refine e_go (show am_cd 220 11 = (12, 15, 0, 0, []) by decide +kernel) ?_
    exact e_retz (show am_cd 220 15 = (36, 16, 0, 0, []) by decide +kernel) (by decide +kernel) (Or.inr rfl) h
  · replace h := h.2 hc
    refine e_ldi (show am_cd 220 5 = (2, 6, 0, 0, []) by decide +kernel) rfl ?_
    refine e_ic (show am_cd 220 6 = (0, 7, 0, 2, []) by decide +kernel) ?_
    refine e_cmp1 (show am_cd 220 7 = (11, 10, 14, 1, []) by decide +kernel) (fun hc => ?_) (fun hc => ?_)
    · replace h := h.1 hc
      refine e_ic (show am_cd 220 14 = (0, 15, 0, 0, []) by decide +kernel) ?_
      exact e_retz (show am_cd 220 15 = (36, 16, 0, 0, []) by decide +kernel) (by decide +kernel) (Or.inl rfl) h
    · replace h := h.2 hc
      refine e_ic (show am_cd 220 10 = (0, 11, 0, 1, []) by decide +kernel) ?_
      refine e_go (show am_cd 220 11 = (12, 15, 0, 0, []) by decide +kernel) ?_
      exact e_retz (show am_cd 220 15 = (36, 16, 0, 0, []) by decide +kernel) (by decide +kernel) (Or.inr rfl) h

theorem c_isDemand {d : Nat} {w : eW} {t : eT} {x : Int} (h : okI x) : Cl d 220 [(0, x)] (enc w t) (fun z S2 => z = some (0, bI (dem x)) ∧ S2 = enc w t) := by
  unfold okI at h
  refine g_isDemand ?_
  simp (disch := omega) only [w32_id]
  unfold dem bI
  (repeat' (first | apply And.intro | intro _)) <;> first | trivial | simp_all

theorem g_areUnlike {d : Nat} {Q : Option aV → aS → Prop} {w : eW} {t : eT} {a b : Int} {m : eW} {ml : List Nat} {wo : Int} (h : (0 ≤ w32 a ∧ w32 a < 8) ∧ (0 ≤ w32 (w 72 (w32 a).toNat) ∧ w32 (w 72 (w32 a).toNat) < 16) ∧ (0 ≤ w32 b ∧ w32 b < 8) ∧ (0 ≤ w32 (w 72 (w32 b).toNat) ∧ w32 (w 72 (w32 b).toNat) < 16) ∧ ((w32 (w 68 (w32 (w 72 (w32 a).toNat)).toNat) = w32 (w 68 (w32 (w 72 (w32 b).toNat)).toNat) → (0 ≤ w32 a ∧ w32 a < 8) ∧ (0 ≤ w32 b ∧ w32 b < 8) ∧ ((¬ w32 (w 72 (w32 a).toNat) = w32 (w 72 (w32 b).toNat) → (0 ≤ w32 a ∧ w32 a < 8) ∧ (okI (w 73 (w32 a).toNat)) ∧ (((dem (w 73 (w32 a).toNat)) = false → Q (some (0, 0)) (enc w t)) ∧ ((dem (w 73 (w32 a).toNat)) = true → (0 ≤ w32 b ∧ w32 b < 8) ∧ (okI (w 73 (w32 b).toNat)) ∧ (((dem (w 73 (w32 b).toNat)) = false → Q (some (0, 0)) (enc w t)) ∧ ((dem (w 73 (w32 b).toNat)) = true → Q (some (0, 1)) (enc w t)))))) ∧ (¬ (¬ w32 (w 72 (w32 a).toNat) = w32 (w 72 (w32 b).toNat)) → (0 ≤ w32 a ∧ w32 a < 8) ∧ (okI (w 73 (w32 a).toNat)) ∧ (((dem (w 73 (w32 a).toNat)) = false → (0 ≤ w32 a ∧ w32 a < 8) ∧ (okI (w 73 (w32 a).toNat)) ∧ (((dem (w 73 (w32 a).toNat)) = false → (0 ≤ w32 a ∧ w32 a < 8) ∧ ((¬ w32 (w 73 (w32 a).toNat) = w32 3 → Q (some (0, 0)) (enc w t)) ∧ (¬ (¬ w32 (w 73 (w32 a).toNat) = w32 3) → (0 ≤ w32 b ∧ w32 b < 8) ∧ (okI (w 73 (w32 b).toNat)) ∧ (((dem (w 73 (w32 b).toNat)) = false → Q (some (0, 0)) (enc w t)) ∧ ((dem (w 73 (w32 b).toNat)) = true → Q (some (0, 1)) (enc w t)))))) ∧ ((dem (w 73 (w32 a).toNat)) = true → (0 ≤ w32 b ∧ w32 b < 8) ∧ ((w32 (w 73 (w32 b).toNat) = w32 3 → Q (some (0, 1)) (enc w t)) ∧ (¬ (w32 (w 73 (w32 b).toNat) = w32 3) → (0 ≤ w32 a ∧ w32 a < 8) ∧ ((¬ w32 (w 73 (w32 a).toNat) = w32 3 → Q (some (0, 0)) (enc w t)) ∧ (¬ (¬ w32 (w 73 (w32 a).toNat) = w32 3) → (0 ≤ w32 b ∧ w32 b < 8) ∧ (okI (w 73 (w32 b).toNat)) ∧ (((dem (w 73 (w32 b).toNat)) = false → Q (some (0, 0)) (enc w t)) ∧ ((dem (w 73 (w32 b).toNat)) = true → Q (some (0, 1)) (enc w t)))))))))) ∧ ((dem (w 73 (w32 a).toNat)) = true → (0 ≤ w32 b ∧ w32 b < 8) ∧ (okI (w 73 (w32 b).toNat)) ∧ (((dem (w 73 (w32 b).toNat)) = false → (0 ≤ w32 a ∧ w32 a < 8) ∧ (okI (w 73 (w32 a).toNat)) ∧ (((dem (w 73 (w32 a).toNat)) = false → (0 ≤ w32 a ∧ w32 a < 8) ∧ ((¬ w32 (w 73 (w32 a).toNat) = w32 3 → Q (some (0, 0)) (enc w t)) ∧ (¬ (¬ w32 (w 73 (w32 a).toNat) = w32 3) → (0 ≤ w32 b ∧ w32 b < 8) ∧ (okI (w 73 (w32 b).toNat)) ∧ (((dem (w 73 (w32 b).toNat)) = false → Q (some (0, 0)) (enc w t)) ∧ ((dem (w 73 (w32 b).toNat)) = true → Q (some (0, 1)) (enc w t)))))) ∧ ((dem (w 73 (w32 a).toNat)) = true → (0 ≤ w32 b ∧ w32 b < 8) ∧ ((w32 (w 73 (w32 b).toNat) = w32 3 → Q (some (0, 1)) (enc w t)) ∧ (¬ (w32 (w 73 (w32 b).toNat) = w32 3) → (0 ≤ w32 a ∧ w32 a < 8) ∧ ((¬ w32 (w 73 (w32 a).toNat) = w32 3 → Q (some (0, 0)) (enc w t)) ∧ (¬ (¬ w32 (w 73 (w32 a).toNat) = w32 3) → (0 ≤ w32 b ∧ w32 b < 8) ∧ (okI (w 73 (w32 b).toNat)) ∧ (((dem (w 73 (w32 b).toNat)) = false → Q (some (0, 0)) (enc w t)) ∧ ((dem (w 73 (w32 b).toNat)) = true → Q (some (0, 1)) (enc w t)))))))))) ∧ ((dem (w 73 (w32 b).toNat)) = true → Q (some (0, 0)) (enc w t)))))))) ∧ (¬ (w32 (w 68 (w32 (w 72 (w32 a).toNat)).toNat) = w32 (w 68 (w32 (w 72 (w32 b).toNat)).toNat)) → Q (some (0, 0)) (enc w t)))) : Cl (d + 1) 221 [rA 67, (0, a), (0, b)] (enc w t) Q := by
  show Ev (d + 1) 221 Q 0 [rA 67, (0, a), (0, b), (9, 0)] [] (enc w t)
  refine e_lda (v := 67) (show am_cd 221 0 = (2, 1, 0, 2, []) by decide +kernel) rfl ?_
  refine e_getr (a := 67) (r := 68) (show am_cd 221 1 = (18, 4, 1201, 2, [9]) by decide +kernel) (by decide +kernel) (by decide +kernel) rfl ?_
  refine e_lda (v := 67) (show am_cd 221 4 = (2, 5, 0, 2, []) by decide +kernel) rfl ?_
  refine e_getr (a := 67) (r := 72) (show am_cd 221 5 = (18, 8, 1207, 2, [22]) by decide +kernel) (by decide +kernel) (by decide +kernel) rfl ?_
  refine e_ldi (show am_cd 221 8 = (2, 9, 1, 0, []) by decide +kernel) rfl ?_
  refine e_iald (a := 72) (n := 8) (show am_cd 221 9 = (21, 10, 0, 0, []) by decide +kernel) (by decide +kernel) (by decide +kernel) (by decide +kernel) h.1 ?_
  replace h := h.2
  refine e_iald (a := 68) (n := 16) (show am_cd 221 10 = (21, 11, 0, 0, []) by decide +kernel) (by decide +kernel) (by decide +kernel) (by decide +kernel) h.1 ?_
  replace h := h.2
  refine e_lda (v := 67) (show am_cd 221 11 = (2, 12, 0, 2, []) by decide +kernel) rfl ?_
  refine e_getr (a := 67) (r := 68) (show am_cd 221 12 = (18, 15, 1201, 2, [9]) by decide +kernel) (by decide +kernel) (by decide +kernel) rfl ?_
  refine e_lda (v := 67) (show am_cd 221 15 = (2, 16, 0, 2, []) by decide +kernel) rfl ?_
  refine e_getr (a := 67) (r := 72) (show am_cd 221 16 = (18, 19, 1207, 2, [22]) by decide +kernel) (by decide +kernel) (by decide +kernel) rfl ?_
  refine e_ldi (show am_cd 221 19 = (2, 20, 2, 0, []) by decide +kernel) rfl ?_
  refine e_iald (a := 72) (n := 8) (show am_cd 221 20 = (21, 21, 0, 0, []) by decide +kernel) (by decide +kernel) (by decide +kernel) (by decide +kernel) h.1 ?_
  replace h := h.2
  refine e_iald (a := 68) (n := 16) (show am_cd 221 21 = (21, 22, 0, 0, []) by decide +kernel) (by decide +kernel) (by decide +kernel) (by decide +kernel) h.1 ?_
  replace h := h.2
  refine e_cmp0 (show am_cd 221 22 = (11, 25, 27, 0, []) by decide +kernel) (fun hc => ?_) (fun hc => ?_)
  · replace h := h.1 hc
    refine e_lda (v := 67) (show am_cd 221 27 = (2, 28, 0, 2, []) by decide +kernel) rfl ?_
    refine e_getr (a := 67) (r := 72) (show am_cd 221 28 = (18, 31, 1207, 2, [22]) by decide +kernel) (by decide +kernel) (by decide +kernel) rfl ?_
    refine e_ldi (show am_cd 221 31 = (2, 32, 1, 0, []) by decide +kernel) rfl ?_
    refine e_iald (a := 72) (n := 8) (show am_cd 221 32 = (21, 33, 0, 0, []) by decide +kernel) (by decide +kernel) (by decide +kernel) (by decide +kernel) h.1 ?_
    replace h := h.2
    refine e_lda (v := 67) (show am_cd 221 33 = (2, 34, 0, 2, []) by decide +kernel) rfl ?_
    refine e_getr (a := 67) (r := 72) (show am_cd 221 34 = (18, 37, 1207, 2, [22]) by decide +kernel) (by decide +kernel) (by decide +kernel) rfl ?_
    refine e_ldi (show am_cd 221 37 = (2, 38, 2, 0, []) by decide +kernel) rfl ?_
    refine e_iald (a := 72) (n := 8) (show am_cd 221 38 = (21, 39, 0, 0, []) by decide +kernel) (by decide +kernel) (by decide +kernel) (by decide +kernel) h.1 ?_
    replace h := h.2
    refine e_cmp1 (show am_cd 221 39 = (11, 42, 46, 1, []) by decide +kernel) (fun hc => ?_) (fun hc => ?_)
    · replace h := h.1 hc
      refine e_ic (show am_cd 221 46 = (0, 47, 0, 0, []) by decide +kernel) ?_
      refine e_sti (la2 := [rA 67, (0, a), (0, b), (0, 0)]) (show am_cd 221 47 = (3, 48, 3, 0, []) by decide +kernel) rfl ?_
      refine e_lda (v := 67) (show am_cd 221 48 = (2, 49, 0, 2, []) by decide +kernel) rfl ?_
      refine e_getr (a := 67) (r := 73) (show am_cd 221 49 = (18, 52, 1208, 2, [25]) by decide +kernel) (by decide +kernel) (by decide +kernel) rfl ?_
      refine e_ldi (show am_cd 221 52 = (2, 53, 1, 0, []) by decide +kernel) rfl ?_
      refine e_iald (a := 73) (n := 8) (show am_cd 221 53 = (21, 54, 0, 0, []) by decide +kernel) (by decide +kernel) (by decide +kernel) (by decide +kernel) h.1 ?_
      replace h := h.2
      refine e_cS (z := 0) (as := [(0, w 73 (w32 a).toNat)]) (rest := []) (show am_cd 221 54 = (40, 57, 220, 1, [324]) by decide +kernel) (by decide) rfl rfl (Nat.le_of_ble_eq_true rfl) rfl ?_
      refine Cl.mono (Cl.up (c_isDemand (d := d) h.1) (by omega)) ?_
      rintro _ _ ⟨rfl, rfl⟩
      refine ⟨fun _ h9 => (by cases h9), ?_⟩
      replace h := h.2
      show Ev _ 221 _ 57 [rA 67, (0, a), (0, b), (0, 0)] [(0, bI (dem (w 73 (w32 a).toNat)))] _
      refine e_ifb0 (show am_cd 221 57 = (10, 60, 82, 0, []) by decide +kernel) (fun hc => ?_) (fun hc => ?_)
      · replace h := h.1 hc
        refine e_ldi (show am_cd 221 82 = (2, 83, 3, 0, []) by decide +kernel) rfl ?_
        refine e_ifT (show am_cd 221 83 = (10, 86, 134, 0, []) by decide +kernel) (by decide +kernel) ?_
        refine e_ic (show am_cd 221 134 = (0, 135, 0, 0, []) by decide +kernel) ?_
        exact e_retz (show am_cd 221 135 = (36, 136, 0, 0, []) by decide +kernel) (by decide +kernel) (Or.inl rfl) h
      · replace h := h.2 hc
        refine e_lda (v := 67) (show am_cd 221 60 = (2, 61, 0, 2, []) by decide +kernel) rfl ?_
        refine e_getr (a := 67) (r := 73) (show am_cd 221 61 = (18, 64, 1208, 2, [25]) by decide +kernel) (by decide +kernel) (by decide +kernel) rfl ?_
        refine e_ldi (show am_cd 221 64 = (2, 65, 2, 0, []) by decide +kernel) rfl ?_
        refine e_iald (a := 73) (n := 8) (show am_cd 221 65 = (21, 66, 0, 0, []) by decide +kernel) (by decide +kernel) (by decide +kernel) (by decide +kernel) h.1 ?_
        replace h := h.2
        refine e_cS (z := 0) (as := [(0, w 73 (w32 b).toNat)]) (rest := []) (show am_cd 221 66 = (40, 69, 220, 1, [324]) by decide +kernel) (by decide) rfl rfl (Nat.le_of_ble_eq_true rfl) rfl ?_
        refine Cl.mono (Cl.up (c_isDemand (d := d) h.1) (by omega)) ?_
        rintro _ _ ⟨rfl, rfl⟩
        refine ⟨fun _ h9 => (by cases h9), ?_⟩
        replace h := h.2
        show Ev _ 221 _ 69 [rA 67, (0, a), (0, b), (0, 0)] [(0, bI (dem (w 73 (w32 b).toNat)))] _
        refine e_ifb0 (show am_cd 221 69 = (10, 72, 82, 0, []) by decide +kernel) (fun hc => ?_) (fun hc => ?_)
        · replace h := h.1 hc
          refine e_ldi (show am_cd 221 82 = (2, 83, 3, 0, []) by decide +kernel) rfl ?_
          refine e_ifT (show am_cd 221 83 = (10, 86, 134, 0, []) by decide +kernel) (by decide +kernel) ?_
          refine e_ic (show am_cd 221 134 = (0, 135, 0, 0, []) by decide +kernel) ?_
          exact e_retz (show am_cd 221 135 = (36, 136, 0, 0, []) by decide +kernel) (by decide +kernel) (Or.inl rfl) h
        · replace h := h.2 hc
          refine e_ldi (show am_cd 221 72 = (2, 73, 3, 0, []) by decide +kernel) rfl ?_
          refine e_ifF (show am_cd 221 73 = (10, 76, 80, 1, []) by decide +kernel) (by decide +kernel) ?_
          refine e_ic (show am_cd 221 76 = (0, 77, 0, 1, []) by decide +kernel) ?_
          refine e_go (show am_cd 221 77 = (12, 81, 0, 0, []) by decide +kernel) ?_
          exact e_retz (show am_cd 221 81 = (36, 82, 0, 0, []) by decide +kernel) (by decide +kernel) (Or.inr rfl) h
    · replace h := h.2 hc
      refine e_ic (show am_cd 221 42 = (0, 43, 0, 1, []) by decide +kernel) ?_
      refine e_go (show am_cd 221 43 = (12, 47, 0, 0, []) by decide +kernel) ?_
      refine e_sti (la2 := [rA 67, (0, a), (0, b), (0, 1)]) (show am_cd 221 47 = (3, 48, 3, 0, []) by decide +kernel) rfl ?_
      refine e_lda (v := 67) (show am_cd 221 48 = (2, 49, 0, 2, []) by decide +kernel) rfl ?_
      refine e_getr (a := 67) (r := 73) (show am_cd 221 49 = (18, 52, 1208, 2, [25]) by decide +kernel) (by decide +kernel) (by decide +kernel) rfl ?_
      refine e_ldi (show am_cd 221 52 = (2, 53, 1, 0, []) by decide +kernel) rfl ?_
      refine e_iald (a := 73) (n := 8) (show am_cd 221 53 = (21, 54, 0, 0, []) by decide +kernel) (by decide +kernel) (by decide +kernel) (by decide +kernel) h.1 ?_
      replace h := h.2
      refine e_cS (z := 0) (as := [(0, w 73 (w32 a).toNat)]) (rest := []) (show am_cd 221 54 = (40, 57, 220, 1, [324]) by decide +kernel) (by decide) rfl rfl (Nat.le_of_ble_eq_true rfl) rfl ?_
      refine Cl.mono (Cl.up (c_isDemand (d := d) h.1) (by omega)) ?_
      rintro _ _ ⟨rfl, rfl⟩
      refine ⟨fun _ h9 => (by cases h9), ?_⟩
      replace h := h.2
      show Ev _ 221 _ 57 [rA 67, (0, a), (0, b), (0, 1)] [(0, bI (dem (w 73 (w32 a).toNat)))] _
      refine e_ifb0 (show am_cd 221 57 = (10, 60, 82, 0, []) by decide +kernel) (fun hc => ?_) (fun hc => ?_)
      · replace h := h.1 hc
        refine e_ldi (show am_cd 221 82 = (2, 83, 3, 0, []) by decide +kernel) rfl ?_
        refine e_ifF (show am_cd 221 83 = (10, 86, 134, 0, []) by decide +kernel) (by decide +kernel) ?_
        refine e_lda (v := 67) (show am_cd 221 86 = (2, 87, 0, 2, []) by decide +kernel) rfl ?_
        refine e_getr (a := 67) (r := 73) (show am_cd 221 87 = (18, 90, 1208, 2, [25]) by decide +kernel) (by decide +kernel) (by decide +kernel) rfl ?_
        refine e_ldi (show am_cd 221 90 = (2, 91, 1, 0, []) by decide +kernel) rfl ?_
        refine e_iald (a := 73) (n := 8) (show am_cd 221 91 = (21, 92, 0, 0, []) by decide +kernel) (by decide +kernel) (by decide +kernel) (by decide +kernel) h.1 ?_
        replace h := h.2
        refine e_cS (z := 0) (as := [(0, w 73 (w32 a).toNat)]) (rest := []) (show am_cd 221 92 = (40, 95, 220, 1, [324]) by decide +kernel) (by decide) rfl rfl (Nat.le_of_ble_eq_true rfl) rfl ?_
        refine Cl.mono (Cl.up (c_isDemand (d := d) h.1) (by omega)) ?_
        rintro _ _ ⟨rfl, rfl⟩
        refine ⟨fun _ h9 => (by cases h9), ?_⟩
        replace h := h.2
        show Ev _ 221 _ 95 [rA 67, (0, a), (0, b), (0, 1)] [(0, bI (dem (w 73 (w32 a).toNat)))] _
        refine e_ifb0 (show am_cd 221 95 = (10, 98, 108, 0, []) by decide +kernel) (fun hc => ?_) (fun hc => ?_)
        · replace h := h.1 hc
          refine e_lda (v := 67) (show am_cd 221 108 = (2, 109, 0, 2, []) by decide +kernel) rfl ?_
          refine e_getr (a := 67) (r := 73) (show am_cd 221 109 = (18, 112, 1208, 2, [25]) by decide +kernel) (by decide +kernel) (by decide +kernel) rfl ?_
          refine e_ldi (show am_cd 221 112 = (2, 113, 1, 0, []) by decide +kernel) rfl ?_
          refine e_iald (a := 73) (n := 8) (show am_cd 221 113 = (21, 114, 0, 0, []) by decide +kernel) (by decide +kernel) (by decide +kernel) (by decide +kernel) h.1 ?_
          replace h := h.2
          refine e_ic (show am_cd 221 114 = (0, 115, 0, 3, []) by decide +kernel) ?_
          refine e_cmp1 (show am_cd 221 115 = (11, 118, 134, 1, []) by decide +kernel) (fun hc => ?_) (fun hc => ?_)
          · replace h := h.1 hc
            refine e_ic (show am_cd 221 134 = (0, 135, 0, 0, []) by decide +kernel) ?_
            exact e_retz (show am_cd 221 135 = (36, 136, 0, 0, []) by decide +kernel) (by decide +kernel) (Or.inl rfl) h
          · replace h := h.2 hc
            refine e_lda (v := 67) (show am_cd 221 118 = (2, 119, 0, 2, []) by decide +kernel) rfl ?_
            refine e_getr (a := 67) (r := 73) (show am_cd 221 119 = (18, 122, 1208, 2, [25]) by decide +kernel) (by decide +kernel) (by decide +kernel) rfl ?_
            refine e_ldi (show am_cd 221 122 = (2, 123, 2, 0, []) by decide +kernel) rfl ?_
            refine e_iald (a := 73) (n := 8) (show am_cd 221 123 = (21, 124, 0, 0, []) by decide +kernel) (by decide +kernel) (by decide +kernel) (by decide +kernel) h.1 ?_
            replace h := h.2
            refine e_cS (z := 0) (as := [(0, w 73 (w32 b).toNat)]) (rest := []) (show am_cd 221 124 = (40, 127, 220, 1, [324]) by decide +kernel) (by decide) rfl rfl (Nat.le_of_ble_eq_true rfl) rfl ?_
            refine Cl.mono (Cl.up (c_isDemand (d := d) h.1) (by omega)) ?_
            rintro _ _ ⟨rfl, rfl⟩
            refine ⟨fun _ h9 => (by cases h9), ?_⟩
            replace h := h.2
            show Ev _ 221 _ 127 [rA 67, (0, a), (0, b), (0, 1)] [(0, bI (dem (w 73 (w32 b).toNat)))] _
            refine e_ifb0 (show am_cd 221 127 = (10, 130, 134, 0, []) by decide +kernel) (fun hc => ?_) (fun hc => ?_)
            · replace h := h.1 hc
              refine e_ic (show am_cd 221 134 = (0, 135, 0, 0, []) by decide +kernel) ?_
              exact e_retz (show am_cd 221 135 = (36, 136, 0, 0, []) by decide +kernel) (by decide +kernel) (Or.inl rfl) h
            · replace h := h.2 hc
              refine e_ic (show am_cd 221 130 = (0, 131, 0, 1, []) by decide +kernel) ?_
              refine e_go (show am_cd 221 131 = (12, 135, 0, 0, []) by decide +kernel) ?_
              exact e_retz (show am_cd 221 135 = (36, 136, 0, 0, []) by decide +kernel) (by decide +kernel) (Or.inr rfl) h
        · replace h := h.2 hc
          refine e_lda (v := 67) (show am_cd 221 98 = (2, 99, 0, 2, []) by decide +kernel) rfl ?_
          refine e_getr (a := 67) (r := 73) (show am_cd 221 99 = (18, 102, 1208, 2, [25]) by decide +kernel) (by decide +kernel) (by decide +kernel) rfl ?_
          refine e_ldi (show am_cd 221 102 = (2, 103, 2, 0, []) by decide +kernel) rfl ?_
          refine e_iald (a := 73) (n := 8) (show am_cd 221 103 = (21, 104, 0, 0, []) by decide +kernel) (by decide +kernel) (by decide +kernel) (by decide +kernel) h.1 ?_
          replace h := h.2
          refine e_ic (show am_cd 221 104 = (0, 105, 0, 3, []) by decide +kernel) ?_
          refine e_cmp0 (show am_cd 221 105 = (11, 108, 130, 0, []) by decide +kernel) (fun hc => ?_) (fun hc => ?_)
          · replace h := h.1 hc
            refine e_ic (show am_cd 221 130 = (0, 131, 0, 1, []) by decide +kernel) ?_
            refine e_go (show am_cd 221 131 = (12, 135, 0, 0, []) by decide +kernel) ?_
            exact e_retz (show am_cd 221 135 = (36, 136, 0, 0, []) by decide +kernel) (by decide +kernel) (Or.inr rfl) h
          · replace h := h.2 hc
            refine e_lda (v := 67) (show am_cd 221 108 = (2, 109, 0, 2, []) by decide +kernel) rfl ?_
            refine e_getr (a := 67) (r := 73) (show am_cd 221 109 = (18, 112, 1208, 2, [25]) by decide +kernel) (by decide +kernel) (by decide +kernel) rfl ?_
            refine e_ldi (show am_cd 221 112 = (2, 113, 1, 0, []) by decide +kernel) rfl ?_
            refine e_iald (a := 73) (n := 8) (show am_cd 221 113 = (21, 114, 0, 0, []) by decide +kernel) (by decide +kernel) (by decide +kernel) (by decide +kernel) h.1 ?_
            replace h := h.2
            refine e_ic (show am_cd 221 114 = (0, 115, 0, 3, []) by decide +kernel) ?_
            refine e_cmp1 (show am_cd 221 115 = (11, 118, 134, 1, []) by decide +kernel) (fun hc => ?_) (fun hc => ?_)
            · replace h := h.1 hc
              refine e_ic (show am_cd 221 134 = (0, 135, 0, 0, []) by decide +kernel) ?_
              exact e_retz (show am_cd 221 135 = (36, 136, 0, 0, []) by decide +kernel) (by decide +kernel) (Or.inl rfl) h
            · replace h := h.2 hc
              refine e_lda (v := 67) (show am_cd 221 118 = (2, 119, 0, 2, []) by decide +kernel) rfl ?_
              refine e_getr (a := 67) (r := 73) (show am_cd 221 119 = (18, 122, 1208, 2, [25]) by decide +kernel) (by decide +kernel) (by decide +kernel) rfl ?_
              refine e_ldi (show am_cd 221 122 = (2, 123, 2, 0, []) by decide +kernel) rfl ?_
              refine e_iald (a := 73) (n := 8) (show am_cd 221 123 = (21, 124, 0, 0, []) by decide +kernel) (by decide +kernel) (by decide +kernel) (by decide +kernel) h.1 ?_
              replace h := h.2
              refine e_cS (z := 0) (as := [(0, w 73 (w32 b).toNat)]) (rest := []) (show am_cd 221 124 = (40, 127, 220, 1, [324]) by decide +kernel) (by decide) rfl rfl (Nat.le_of_ble_eq_true rfl) rfl ?_
              refine Cl.mono (Cl.up (c_isDemand (d := d) h.1) (by omega)) ?_
              rintro _ _ ⟨rfl, rfl⟩
              refine ⟨fun _ h9 => (by cases h9), ?_⟩
              replace h := h.2
              show Ev _ 221 _ 127 [rA 67, (0, a), (0, b), (0, 1)] [(0, bI (dem (w 73 (w32 b).toNat)))] _
              refine e_ifb0 (show am_cd 221 127 = (10, 130, 134, 0, []) by decide +kernel) (fun hc => ?_) (fun hc => ?_)
              · replace h := h.1 hc
                refine e_ic (show am_cd 221 134 = (0, 135, 0, 0, []) by decide +kernel) ?_
                exact e_retz (show am_cd 221 135 = (36, 136, 0, 0, []) by decide +kernel) (by decide +kernel) (Or.inl rfl) h
              · replace h := h.2 hc
                refine e_ic (show am_cd 221 130 = (0, 131, 0, 1, []) by decide +kernel) ?_
                refine e_go (show am_cd 221 131 = (12, 135, 0, 0, []) by decide +kernel) ?_
                exact e_retz (show am_cd 221 135 = (36, 136, 0, 0, []) by decide +kernel) (by decide +kernel) (Or.inr rfl) h
      · replace h := h.2 hc
        refine e_lda (v := 67) (show am_cd 221 60 = (2, 61, 0, 2, []) by decide +kernel) rfl ?_
        refine e_getr (a := 67) (r := 73) (show am_cd 221 61 = (18, 64, 1208, 2, [25]) by decide +kernel) (by decide +kernel) (by decide +kernel) rfl ?_
        refine e_ldi (show am_cd 221 64 = (2, 65, 2, 0, []) by decide +kernel) rfl ?_
        refine e_iald (a := 73) (n := 8) (show am_cd 221 65 = (21, 66, 0, 0, []) by decide +kernel) (by decide +kernel) (by decide +kernel) (by decide +kernel) h.1 ?_
        replace h := h.2
        refine e_cS (z := 0) (as := [(0, w 73 (w32 b).toNat)]) (rest := []) (show am_cd 221 66 = (40, 69, 220, 1, [324]) by decide +kernel) (by decide) rfl rfl (Nat.le_of_ble_eq_true rfl) rfl ?_
        refine Cl.mono (Cl.up (c_isDemand (d := d) h.1) (by omega)) ?_
        rintro _ _ ⟨rfl, rfl⟩
        refine ⟨fun _ h9 => (by cases h9), ?_⟩
        replace h := h.2
        show Ev _ 221 _ 69 [rA 67, (0, a), (0, b), (0, 1)] [(0, bI (dem (w 73 (w32 b).toNat)))] _
        refine e_ifb0 (show am_cd 221 69 = (10, 72, 82, 0, []) by decide +kernel) (fun hc => ?_) (fun hc => ?_)
        · replace h := h.1 hc
          refine e_ldi (show am_cd 221 82 = (2, 83, 3, 0, []) by decide +kernel) rfl ?_
          refine e_ifF (show am_cd 221 83 = (10, 86, 134, 0, []) by decide +kernel) (by decide +kernel) ?_
          refine e_lda (v := 67) (show am_cd 221 86 = (2, 87, 0, 2, []) by decide +kernel) rfl ?_
          refine e_getr (a := 67) (r := 73) (show am_cd 221 87 = (18, 90, 1208, 2, [25]) by decide +kernel) (by decide +kernel) (by decide +kernel) rfl ?_
          refine e_ldi (show am_cd 221 90 = (2, 91, 1, 0, []) by decide +kernel) rfl ?_
          refine e_iald (a := 73) (n := 8) (show am_cd 221 91 = (21, 92, 0, 0, []) by decide +kernel) (by decide +kernel) (by decide +kernel) (by decide +kernel) h.1 ?_
          replace h := h.2
          refine e_cS (z := 0) (as := [(0, w 73 (w32 a).toNat)]) (rest := []) (show am_cd 221 92 = (40, 95, 220, 1, [324]) by decide +kernel) (by decide) rfl rfl (Nat.le_of_ble_eq_true rfl) rfl ?_
          refine Cl.mono (Cl.up (c_isDemand (d := d) h.1) (by omega)) ?_
          rintro _ _ ⟨rfl, rfl⟩
          refine ⟨fun _ h9 => (by cases h9), ?_⟩
          replace h := h.2
          show Ev _ 221 _ 95 [rA 67, (0, a), (0, b), (0, 1)] [(0, bI (dem (w 73 (w32 a).toNat)))] _
          refine e_ifb0 (show am_cd 221 95 = (10, 98, 108, 0, []) by decide +kernel) (fun hc => ?_) (fun hc => ?_)
          · replace h := h.1 hc
            refine e_lda (v := 67) (show am_cd 221 108 = (2, 109, 0, 2, []) by decide +kernel) rfl ?_
            refine e_getr (a := 67) (r := 73) (show am_cd 221 109 = (18, 112, 1208, 2, [25]) by decide +kernel) (by decide +kernel) (by decide +kernel) rfl ?_
            refine e_ldi (show am_cd 221 112 = (2, 113, 1, 0, []) by decide +kernel) rfl ?_
            refine e_iald (a := 73) (n := 8) (show am_cd 221 113 = (21, 114, 0, 0, []) by decide +kernel) (by decide +kernel) (by decide +kernel) (by decide +kernel) h.1 ?_
            replace h := h.2
            refine e_ic (show am_cd 221 114 = (0, 115, 0, 3, []) by decide +kernel) ?_
            refine e_cmp1 (show am_cd 221 115 = (11, 118, 134, 1, []) by decide +kernel) (fun hc => ?_) (fun hc => ?_)
            · replace h := h.1 hc
              refine e_ic (show am_cd 221 134 = (0, 135, 0, 0, []) by decide +kernel) ?_
              exact e_retz (show am_cd 221 135 = (36, 136, 0, 0, []) by decide +kernel) (by decide +kernel) (Or.inl rfl) h
            · replace h := h.2 hc
              refine e_lda (v := 67) (show am_cd 221 118 = (2, 119, 0, 2, []) by decide +kernel) rfl ?_
              refine e_getr (a := 67) (r := 73) (show am_cd 221 119 = (18, 122, 1208, 2, [25]) by decide +kernel) (by decide +kernel) (by decide +kernel) rfl ?_
              refine e_ldi (show am_cd 221 122 = (2, 123, 2, 0, []) by decide +kernel) rfl ?_
              refine e_iald (a := 73) (n := 8) (show am_cd 221 123 = (21, 124, 0, 0, []) by decide +kernel) (by decide +kernel) (by decide +kernel) (by decide +kernel) h.1 ?_
              replace h := h.2
              refine e_cS (z := 0) (as := [(0, w 73 (w32 b).toNat)]) (rest := []) (show am_cd 221 124 = (40, 127, 220, 1, [324]) by decide +kernel) (by decide) rfl rfl (Nat.le_of_ble_eq_true rfl) rfl ?_
              refine Cl.mono (Cl.up (c_isDemand (d := d) h.1) (by omega)) ?_
              rintro _ _ ⟨rfl, rfl⟩
              refine ⟨fun _ h9 => (by cases h9), ?_⟩
              replace h := h.2
              show Ev _ 221 _ 127 [rA 67, (0, a), (0, b), (0, 1)] [(0, bI (dem (w 73 (w32 b).toNat)))] _
              refine e_ifb0 (show am_cd 221 127 = (10, 130, 134, 0, []) by decide +kernel) (fun hc => ?_) (fun hc => ?_)
              · replace h := h.1 hc
                refine e_ic (show am_cd 221 134 = (0, 135, 0, 0, []) by decide +kernel) ?_
                exact e_retz (show am_cd 221 135 = (36, 136, 0, 0, []) by decide +kernel) (by decide +kernel) (Or.inl rfl) h
              · replace h := h.2 hc
                refine e_ic (show am_cd 221 130 = (0, 131, 0, 1, []) by decide +kernel) ?_
                refine e_go (show am_cd 221 131 = (12, 135, 0, 0, []) by decide +kernel) ?_
                exact e_retz (show am_cd 221 135 = (36, 136, 0, 0, []) by decide +kernel) (by decide +kernel) (Or.inr rfl) h
          · replace h := h.2 hc
            refine e_lda (v := 67) (show am_cd 221 98 = (2, 99, 0, 2, []) by decide +kernel) rfl ?_
            refine e_getr (a := 67) (r := 73) (show am_cd 221 99 = (18, 102, 1208, 2, [25]) by decide +kernel) (by decide +kernel) (by decide +kernel) rfl ?_
            refine e_ldi (show am_cd 221 102 = (2, 103, 2, 0, []) by decide +kernel) rfl ?_
            refine e_iald (a := 73) (n := 8) (show am_cd 221 103 = (21, 104, 0, 0, []) by decide +kernel) (by decide +kernel) (by decide +kernel) (by decide +kernel) h.1 ?_
            replace h := h.2
            refine e_ic (show am_cd 221 104 = (0, 105, 0, 3, []) by decide +kernel) ?_
            refine e_cmp0 (show am_cd 221 105 = (11, 108, 130, 0, []) by decide +kernel) (fun hc => ?_) (fun hc => ?_)
            · replace h := h.1 hc
              refine e_ic (show am_cd 221 130 = (0, 131, 0, 1, []) by decide +kernel) ?_
              refine e_go (show am_cd 221 131 = (12, 135, 0, 0, []) by decide +kernel) ?_
              exact e_retz (show am_cd 221 135 = (36, 136, 0, 0, []) by decide +kernel) (by decide +kernel) (Or.inr rfl) h
            · replace h := h.2 hc
              refine e_lda (v := 67) (show am_cd 221 108 = (2, 109, 0, 2, []) by decide +kernel) rfl ?_
              refine e_getr (a := 67) (r := 73) (show am_cd 221 109 = (18, 112, 1208, 2, [25]) by decide +kernel) (by decide +kernel) (by decide +kernel) rfl ?_
              refine e_ldi (show am_cd 221 112 = (2, 113, 1, 0, []) by decide +kernel) rfl ?_
              refine e_iald (a := 73) (n := 8) (show am_cd 221 113 = (21, 114, 0, 0, []) by decide +kernel) (by decide +kernel) (by decide +kernel) (by decide +kernel) h.1 ?_
              replace h := h.2
              refine e_ic (show am_cd 221 114 = (0, 115, 0, 3, []) by decide +kernel) ?_
              refine e_cmp1 (show am_cd 221 115 = (11, 118, 134, 1, []) by decide +kernel) (fun hc => ?_) (fun hc => ?_)
              · replace h := h.1 hc
                refine e_ic (show am_cd 221 134 = (0, 135, 0, 0, []) by decide +kernel) ?_
                exact e_retz (show am_cd 221 135 = (36, 136, 0, 0, []) by decide +kernel) (by decide +kernel) (Or.inl rfl) h
              · replace h := h.2 hc
                refine e_lda (v := 67) (show am_cd 221 118 = (2, 119, 0, 2, []) by decide +kernel) rfl ?_
                refine e_getr (a := 67) (r := 73) (show am_cd 221 119 = (18, 122, 1208, 2, [25]) by decide +kernel) (by decide +kernel) (by decide +kernel) rfl ?_
                refine e_ldi (show am_cd 221 122 = (2, 123, 2, 0, []) by decide +kernel) rfl ?_
                refine e_iald (a := 73) (n := 8) (show am_cd 221 123 = (21, 124, 0, 0, []) by decide +kernel) (by decide +kernel) (by decide +kernel) (by decide +kernel) h.1 ?_
                replace h := h.2
                refine e_cS (z := 0) (as := [(0, w 73 (w32 b).toNat)]) (rest := []) (show am_cd 221 124 = (40, 127, 220, 1, [324]) by decide +kernel) (by decide) rfl rfl (Nat.le_of_ble_eq_true rfl) rfl ?_
                refine Cl.mono (Cl.up (c_isDemand (d := d) h.1) (by omega)) ?_
                rintro _ _ ⟨rfl, rfl⟩
                refine ⟨fun _ h9 => (by cases h9), ?_⟩
                replace h := h.2
                show Ev _ 221 _ 127 [rA 67, (0, a), (0, b), (0, 1)] [(0, bI (dem (w 73 (w32 b).toNat)))] _
                refine e_ifb0 (show am_cd 221 127 = (10, 130, 134, 0, []) by decide +kernel) (fun hc => ?_) (fun hc => ?_)
                · replace h := h.1 hc
                  refine e_ic (show am_cd 221 134 = (0, 135, 0, 0, []) by decide +kernel) ?_
                  exact e_retz (show am_cd 221 135 = (36, 136, 0, 0, []) by decide +kernel) (by decide +kernel) (Or.inl rfl) h
                · replace h := h.2 hc
                  refine e_ic (show am_cd 221 130 = (0, 131, 0, 1, []) by decide +kernel) ?_
                  refine e_go (show am_cd 221 131 = (12, 135, 0, 0, []) by decide +kernel) ?_
                  exact e_retz (show am_cd 221 135 = (36, 136, 0, 0, []) by decide +kernel) (by decide +kernel) (Or.inr rfl) h
        · replace h := h.2 hc
          refine e_ldi (show am_cd 221 72 = (2, 73, 3, 0, []) by decide +kernel) rfl ?_
          refine e_ifT (show am_cd 221 73 = (10, 76, 80, 1, []) by decide +kernel) (by decide +kernel) ?_
          refine e_ic (show am_cd 221 80 = (0, 81, 0, 0, []) by decide +kernel) ?_
          exact e_retz (show am_cd 221 81 = (36, 82, 0, 0, []) by decide +kernel) (by decide +kernel) (Or.inl rfl) h
  · replace h := h.2 hc
    refine e_ic (show am_cd 221 25 = (0, 26, 0, 0, []) by decide +kernel) ?_
    exact e_retz (show am_cd 221 26 = (36, 27, 0, 0, []) by decide +kernel) (by decide +kernel) (Or.inl rfl) h

theorem g_madeAt {d : Nat} {Q : Option aV → aS → Prop} {w : eW} {t : eT} {p : Int} {m : eW} {ml : List Nat} {wo : Int} (h : (((decide (w64 0 ≤ w64 (w32 p) ∧ w64 (w32 p) ≤ w64 (w32 ((w 67 40) - 1)))) = false → Q (some (0, 16)) (enc w t)) ∧ ((decide (w64 0 ≤ w64 (w32 p) ∧ w64 (w32 p) ≤ w64 (w32 ((w 67 40) - 1)))) = true → (0 ≤ w32 p ∧ w32 p < 16) ∧ (Q (some (0, w 94 (w32 p).toNat)) (enc w t))))) : Cl (d + 1) 222 [rA 67, (0, p)] (enc w t) Q := by
  show Ev (d + 1) 222 Q 0 [rA 67, (0, p)] [] (enc w t)
  refine e_ldi (show am_cd 222 0 = (2, 1, 1, 0, []) by decide +kernel) rfl ?_
  refine e_i2l (show am_cd 222 1 = (8, 2, 0, 0, []) by decide +kernel) ?_
  refine e_lc (show am_cd 222 2 = (1, 3, 0, 0, []) by decide +kernel) ?_
  refine e_lda (v := 67) (show am_cd 222 3 = (2, 4, 0, 2, []) by decide +kernel) rfl ?_
  refine e_getf (a := 67) (tg := 0) (show am_cd 222 4 = (18, 7, 1240, 0, [272]) by decide +kernel) (by decide +kernel) (by decide +kernel) rfl ?_
  refine e_ic (show am_cd 222 7 = (0, 8, 0, 1, []) by decide +kernel) ?_
  refine e_isub (show am_cd 222 8 = (5, 9, 1, 0, []) by decide +kernel) ?_
  refine e_i2l (show am_cd 222 9 = (8, 10, 0, 0, []) by decide +kernel) ?_
  refine e_cS (z := 0) (as := [(1, w32 p), (1, 0), (1, w32 ((w 67 40) - 1))]) (rest := []) (show am_cd 222 10 = (40, 13, 165, 1, [122]) by decide +kernel) (by decide) rfl rfl (Nat.le_of_ble_eq_true rfl) rfl ?_
  refine Cl.mono (Cl.up (c_in (d := d)) (by omega)) ?_
  rintro _ _ ⟨rfl, rfl⟩
  refine ⟨fun _ h9 => (by cases h9), ?_⟩
  show Ev _ 222 _ 13 [rA 67, (0, p)] [(0, bI (decide (w64 0 ≤ w64 (w32 p) ∧ w64 (w32 p) ≤ w64 (w32 ((w 67 40) - 1)))))] _
  refine e_ifb0 (show am_cd 222 13 = (10, 16, 25, 0, []) by decide +kernel) (fun hc => ?_) (fun hc => ?_)
  · replace h := h.1 hc
    refine e_ic (show am_cd 222 25 = (0, 27, 1, 16, []) by decide +kernel) ?_
    exact e_reti (show am_cd 222 27 = (36, 28, 0, 0, []) by decide +kernel) (by decide +kernel) h
  · replace h := h.2 hc
    refine e_lda (v := 67) (show am_cd 222 16 = (2, 17, 0, 2, []) by decide +kernel) rfl ?_
    refine e_getr (a := 67) (r := 94) (show am_cd 222 17 = (18, 20, 1239, 2, [95]) by decide +kernel) (by decide +kernel) (by decide +kernel) rfl ?_
    refine e_ldi (show am_cd 222 20 = (2, 21, 1, 0, []) by decide +kernel) rfl ?_
    refine e_iald (a := 94) (n := 16) (show am_cd 222 21 = (21, 22, 0, 0, []) by decide +kernel) (by decide +kernel) (by decide +kernel) (by decide +kernel) h.1 ?_
    replace h := h.2
    refine e_go (show am_cd 222 22 = (12, 27, 0, 0, []) by decide +kernel) ?_
    exact e_reti (show am_cd 222 27 = (36, 28, 0, 0, []) by decide +kernel) (by decide +kernel) h

theorem c_areUnlike {d : Nat} {m w : eW} {t : eT} {a b : Int} (h : MG w m ∧ gR m a ∧ gR m b) : Cl (d + 1) 221 [rA 67, (0, a), (0, b)] (enc w t) (fun z S2 => z = some (0, bI (unl m a.toNat b.toNat)) ∧ S2 = enc w t) := by
  obtain ⟨hm, ha, hb⟩ := h
  have hpn := hm.1.n
  have hrn := hm.2.1.n
  unfold gR at ha hb
  obtain ⟨f1, f2, -⟩ := hm.2.1.2 a.toNat (by omega)
  obtain ⟨e1, e2, -⟩ := hm.2.2.2.2 a.toNat (by omega)
  obtain ⟨f1b, f2b, -⟩ := hm.2.1.2 b.toNat (by omega)
  obtain ⟨e1b, e2b, -⟩ := hm.2.2.2.2 b.toNat (by omega)
  have g1 := (hm.2.2.1.2 (m 72 a.toNat).toNat (by omega)).1
  have g2 := (hm.2.2.1.2 (m 72 b.toNat).toNat (by omega)).1
  have b1 := (hm.1.2.1 (m 72 a.toNat).toNat (by omega)).1
  have b2 := (hm.1.2.1 (m 72 b.toNat).toNat (by omega)).1
  refine g_areUnlike (m := m) (ml := []) (wo := 0) ?_
  simp (disch := omega) only [w32_id, e1, e1b, e2, e2b, g1, g2]
  have o1 : okI (m 73 a.toNat) := ⟨by omega, by omega⟩
  have o2 : okI (m 73 b.toNat) := ⟨by omega, by omega⟩
  have i1 : 0 ≤ a ∧ a < 8 := by omega
  have i2 : 0 ≤ b ∧ b < 8 := by omega
  have i3 : 0 ≤ m 72 a.toNat ∧ m 72 a.toNat < 16 := by omega
  have i4 : 0 ≤ m 72 b.toNat ∧ m 72 b.toNat < 16 := by omega
  unfold unl
  generalize m 73 a.toNat = A at *
  generalize m 73 b.toNat = B at *
  generalize m 72 a.toNat = X at *
  generalize m 72 b.toNat = Y at *
  generalize m 68 X.toNat = UX at *
  generalize m 68 Y.toNat = UY at *
  clear hm f1 f2 e1 e2 f1b f2b e1b e2b g1 g2 b1 b2
  cases hA : dem A <;> cases hB : dem B <;> by_cases hU : UX = UY <;> by_cases hXY : X = Y <;> by_cases hA3 : A = 3 <;> by_cases hB3 : B = 3 <;> simp [hU, hXY, hA3, hB3, o1, o2, i1, i2, i3, i4, bI, hA, hB] <;> simp_all [bI]
theorem rAt_le {l : List Nat} {n : Nat} (h : ∀ p ∈ l, p < n) (hn : n ≤ 16) (p : Int) : rAt l p ≤ 16 := by
  unfold rAt
  split
  · next h1 =>
    rw [List.getD_eq_getElem?_getD, List.getElem?_eq_getElem (by omega)]
    have := h _ (List.getElem_mem (show p.toNat < l.length by omega))
    simp only [Option.getD_some]
    omega
  · exact Nat.le_refl _
theorem c_madeAt {d : Nat} {w : eW} {t : eT} {ml : List Nat} {p : Int} (h : MdM w ml ∧ -3 ≤ p ∧ p ≤ 20) : Cl (d + 1) 222 [rA 67, (0, p)] (enc w t) (fun z S2 => z = some (0, ((rAt ml p : Nat) : Int)) ∧ S2 = enc w t) := by
  obtain ⟨⟨h1, h2, h3⟩, hp⟩ := h
  refine g_madeAt (m := w) (ml := []) (wo := 0) ?_
  rw [h1]
  simp (disch := omega) only [w32_id, w64_id]
  unfold rAt
  refine ⟨fun h4 => ⟨?_, by trivial⟩, fun h4 => ?_⟩
  · have := of_decide_eq_false h4
    rw [if_neg (by omega)]; rfl
  · have := of_decide_eq_true h4
    rw [if_pos (by omega), h3 _ (by omega)]
    exact ⟨by omega, rfl, by trivial⟩

theorem g_clash0 {d : Nat} {Q : Option aV → aS → Prop} {w : eW} {t : eT} {a b : Int} {m : eW} {ml : List Nat} {wo : Int} (h : Ev (d + 3) 223 Q 2 [rA 67, (0, a), (0, b), (0, 0)] [] (enc w t)) : Cl (d + 3) 223 [rA 67, (0, a), (0, b)] (enc w t) Q := by
  show Ev (d + 3) 223 Q 0 [rA 67, (0, a), (0, b), (9, 0)] [] (enc w t)
  refine e_ic (show am_cd 223 0 = (0, 1, 0, 0, []) by decide +kernel) ?_
  refine e_sti (la2 := [rA 67, (0, a), (0, b), (0, 0)]) (show am_cd 223 1 = (3, 2, 3, 0, []) by decide +kernel) rfl ?_
  exact h

theorem g_clash1 {d : Nat} {Q : Option aV → aS → Prop} {w : eW} {t : eT} {a b p : Int} {m : eW} {ml : List Nat} {wo : Int} (h : ((w32 (w 67 40) ≤ w32 p → Q (some (0, (-1))) (enc w t)) ∧ (¬ (w32 (w 67 40) ≤ w32 p) → (0 ≤ w32 p ∧ w32 p < 16) ∧ (0 ≤ w32 (w 94 (w32 p).toNat) ∧ w32 (w 94 (w32 p).toNat) < 16) ∧ (0 ≤ w32 a ∧ w32 a < 8) ∧ (0 ≤ w32 (w 72 (w32 a).toNat) ∧ w32 (w 72 (w32 a).toNat) < 16) ∧ ((¬ w32 (w 68 (w32 (w 94 (w32 p).toNat)).toNat) = w32 (w 68 (w32 (w 72 (w32 a).toNat)).toNat) → Ev (d + 3) 223 Q 2 [rA 67, (0, a), (0, b), (0, p + 1)] [] (enc w t)) ∧ (¬ (¬ w32 (w 68 (w32 (w 94 (w32 p).toNat)).toNat) = w32 (w 68 (w32 (w 72 (w32 a).toNat)).toNat)) → (MdM w ml ∧ -3 ≤ p - 2 ∧ p - 2 ≤ 20) ∧ (MdM w ml ∧ -3 ≤ p - 1 ∧ p - 1 ≤ 20) ∧ (MdM w ml ∧ -3 ≤ p + 1 ∧ p + 1 ≤ 20) ∧ (MG w m ∧ gR m a ∧ gE ((rAt ml (p - 2) : Nat) : Int) ∧ gE ((rAt ml (p - 1) : Nat) : Int) ∧ gE ((rAt ml (p + 1) : Nat) : Int)) ∧ (((inR m a.toNat ((rAt ml (p - 2) : Nat) : Int).toNat ((rAt ml (p - 1) : Nat) : Int).toNat ((rAt ml (p + 1) : Nat) : Int).toNat) = false → Ev (d + 3) 223 Q 2 [rA 67, (0, a), (0, b), (0, p + 1)] [] (enc w t)) ∧ ((inR m a.toNat ((rAt ml (p - 2) : Nat) : Int).toNat ((rAt ml (p - 1) : Nat) : Int).toNat ((rAt ml (p + 1) : Nat) : Int).toNat) = true → (MdM w ml ∧ -3 ≤ p - 2 ∧ p - 2 ≤ 20) ∧ (MdM w ml ∧ -3 ≤ p - 1 ∧ p - 1 ≤ 20) ∧ (MdM w ml ∧ -3 ≤ p + 1 ∧ p + 1 ≤ 20) ∧ (MG w m ∧ gR m b ∧ gE ((rAt ml (p - 2) : Nat) : Int) ∧ gE ((rAt ml (p - 1) : Nat) : Int) ∧ gE ((rAt ml (p + 1) : Nat) : Int)) ∧ (((inR m b.toNat ((rAt ml (p - 2) : Nat) : Int).toNat ((rAt ml (p - 1) : Nat) : Int).toNat ((rAt ml (p + 1) : Nat) : Int).toNat) = false → Ev (d + 3) 223 Q 2 [rA 67, (0, a), (0, b), (0, p + 1)] [] (enc w t)) ∧ ((inR m b.toNat ((rAt ml (p - 2) : Nat) : Int).toNat ((rAt ml (p - 1) : Nat) : Int).toNat ((rAt ml (p + 1) : Nat) : Int).toNat) = true → Q (some (0, p)) (enc w t)))))))))) : Ev (d + 3) 223 Q 2 [rA 67, (0, a), (0, b), (0, p)] [] (enc w t) := by
  refine e_ldi (show am_cd 223 2 = (2, 3, 3, 0, []) by decide +kernel) rfl ?_
  refine e_lda (v := 67) (show am_cd 223 3 = (2, 4, 0, 2, []) by decide +kernel) rfl ?_
  refine e_getf (a := 67) (tg := 0) (show am_cd 223 4 = (18, 7, 1240, 0, [272]) by decide +kernel) (by decide +kernel) (by decide +kernel) rfl ?_
  refine e_cmp3 (show am_cd 223 7 = (11, 10, 101, 3, []) by decide +kernel) (fun hc => ?_) (fun hc => ?_)
  · replace h := h.1 hc
    refine e_ic (show am_cd 223 101 = (0, 102, 0, -1, []) by decide +kernel) ?_
    exact e_reti (show am_cd 223 102 = (36, 103, 0, 0, []) by decide +kernel) (by decide +kernel) h
  · replace h := h.2 hc
    refine e_lda (v := 67) (show am_cd 223 10 = (2, 11, 0, 2, []) by decide +kernel) rfl ?_
    refine e_getr (a := 67) (r := 68) (show am_cd 223 11 = (18, 14, 1201, 2, [9]) by decide +kernel) (by decide +kernel) (by decide +kernel) rfl ?_
    refine e_lda (v := 67) (show am_cd 223 14 = (2, 15, 0, 2, []) by decide +kernel) rfl ?_
    refine e_getr (a := 67) (r := 94) (show am_cd 223 15 = (18, 18, 1239, 2, [95]) by decide +kernel) (by decide +kernel) (by decide +kernel) rfl ?_
    refine e_ldi (show am_cd 223 18 = (2, 19, 3, 0, []) by decide +kernel) rfl ?_
    refine e_iald (a := 94) (n := 16) (show am_cd 223 19 = (21, 20, 0, 0, []) by decide +kernel) (by decide +kernel) (by decide +kernel) (by decide +kernel) h.1 ?_
    replace h := h.2
    refine e_iald (a := 68) (n := 16) (show am_cd 223 20 = (21, 21, 0, 0, []) by decide +kernel) (by decide +kernel) (by decide +kernel) (by decide +kernel) h.1 ?_
    replace h := h.2
    refine e_lda (v := 67) (show am_cd 223 21 = (2, 22, 0, 2, []) by decide +kernel) rfl ?_
    refine e_getr (a := 67) (r := 68) (show am_cd 223 22 = (18, 25, 1201, 2, [9]) by decide +kernel) (by decide +kernel) (by decide +kernel) rfl ?_
    refine e_lda (v := 67) (show am_cd 223 25 = (2, 26, 0, 2, []) by decide +kernel) rfl ?_
    refine e_getr (a := 67) (r := 72) (show am_cd 223 26 = (18, 29, 1207, 2, [22]) by decide +kernel) (by decide +kernel) (by decide +kernel) rfl ?_
    refine e_ldi (show am_cd 223 29 = (2, 30, 1, 0, []) by decide +kernel) rfl ?_
    refine e_iald (a := 72) (n := 8) (show am_cd 223 30 = (21, 31, 0, 0, []) by decide +kernel) (by decide +kernel) (by decide +kernel) (by decide +kernel) h.1 ?_
    replace h := h.2
    refine e_iald (a := 68) (n := 16) (show am_cd 223 31 = (21, 32, 0, 0, []) by decide +kernel) (by decide +kernel) (by decide +kernel) (by decide +kernel) h.1 ?_
    replace h := h.2
    refine e_cmp1 (show am_cd 223 32 = (11, 35, 95, 1, []) by decide +kernel) (fun hc => ?_) (fun hc => ?_)
    · replace h := h.1 hc
      refine e_inc (la2 := [rA 67, (0, a), (0, b), (0, p + 1)]) (show am_cd 223 95 = (4, 98, 3, 1, []) by decide +kernel) rfl rfl ?_
      refine e_go (show am_cd 223 98 = (12, 2, 0, 0, []) by decide +kernel) ?_
      exact h
    · replace h := h.2 hc
      refine e_lda (v := 67) (show am_cd 223 35 = (2, 36, 0, 2, []) by decide +kernel) rfl ?_
      refine e_ldi (show am_cd 223 36 = (2, 37, 1, 0, []) by decide +kernel) rfl ?_
      refine e_lda (v := 67) (show am_cd 223 37 = (2, 38, 0, 2, []) by decide +kernel) rfl ?_
      refine e_ldi (show am_cd 223 38 = (2, 39, 3, 0, []) by decide +kernel) rfl ?_
      refine e_ic (show am_cd 223 39 = (0, 40, 0, 2, []) by decide +kernel) ?_
      refine e_isub (show am_cd 223 40 = (5, 41, 1, 0, []) by decide +kernel) ?_
      refine e_cV (z := 0) (a := 67) (as := [(0, p - 2)]) (rest := [(0, a), rA 67]) (show am_cd 223 41 = (40, 44, 222, 0, [327]) by decide +kernel) (by decide +kernel) rfl rfl (Nat.le_of_ble_eq_true rfl) rfl ?_
      refine Cl.mono (Cl.up (c_madeAt (d := d) h.1) (by omega)) ?_
      rintro _ _ ⟨rfl, rfl⟩
      refine ⟨fun _ h9 => (by cases h9), ?_⟩
      replace h := h.2
      show Ev _ 223 _ 44 [rA 67, (0, a), (0, b), (0, p)] [(0, ((rAt ml (p - 2) : Nat) : Int)), (0, a), rA 67] _
      refine e_lda (v := 67) (show am_cd 223 44 = (2, 45, 0, 2, []) by decide +kernel) rfl ?_
      refine e_ldi (show am_cd 223 45 = (2, 46, 3, 0, []) by decide +kernel) rfl ?_
      refine e_ic (show am_cd 223 46 = (0, 47, 0, 1, []) by decide +kernel) ?_
      refine e_isub (show am_cd 223 47 = (5, 48, 1, 0, []) by decide +kernel) ?_
      refine e_cV (z := 0) (a := 67) (as := [(0, p - 1)]) (rest := [(0, ((rAt ml (p - 2) : Nat) : Int)), (0, a), rA 67]) (show am_cd 223 48 = (40, 51, 222, 0, [327]) by decide +kernel) (by decide +kernel) rfl rfl (Nat.le_of_ble_eq_true rfl) rfl ?_
      refine Cl.mono (Cl.up (c_madeAt (d := d) h.1) (by omega)) ?_
      rintro _ _ ⟨rfl, rfl⟩
      refine ⟨fun _ h9 => (by cases h9), ?_⟩
      replace h := h.2
      show Ev _ 223 _ 51 [rA 67, (0, a), (0, b), (0, p)] [(0, ((rAt ml (p - 1) : Nat) : Int)), (0, ((rAt ml (p - 2) : Nat) : Int)), (0, a), rA 67] _
      refine e_lda (v := 67) (show am_cd 223 51 = (2, 52, 0, 2, []) by decide +kernel) rfl ?_
      refine e_ldi (show am_cd 223 52 = (2, 53, 3, 0, []) by decide +kernel) rfl ?_
      refine e_ic (show am_cd 223 53 = (0, 54, 0, 1, []) by decide +kernel) ?_
      refine e_iadd (show am_cd 223 54 = (5, 55, 0, 0, []) by decide +kernel) ?_
      refine e_cV (z := 0) (a := 67) (as := [(0, p + 1)]) (rest := [(0, ((rAt ml (p - 1) : Nat) : Int)), (0, ((rAt ml (p - 2) : Nat) : Int)), (0, a), rA 67]) (show am_cd 223 55 = (40, 58, 222, 0, [327]) by decide +kernel) (by decide +kernel) rfl rfl (Nat.le_of_ble_eq_true rfl) rfl ?_
      refine Cl.mono (Cl.up (c_madeAt (d := d) h.1) (by omega)) ?_
      rintro _ _ ⟨rfl, rfl⟩
      refine ⟨fun _ h9 => (by cases h9), ?_⟩
      replace h := h.2
      show Ev _ 223 _ 58 [rA 67, (0, a), (0, b), (0, p)] [(0, ((rAt ml (p + 1) : Nat) : Int)), (0, ((rAt ml (p - 1) : Nat) : Int)), (0, ((rAt ml (p - 2) : Nat) : Int)), (0, a), rA 67] _
      refine e_cV (z := 0) (a := 67) (as := [(0, a), (0, ((rAt ml (p - 2) : Nat) : Int)), (0, ((rAt ml (p - 1) : Nat) : Int)), (0, ((rAt ml (p + 1) : Nat) : Int))]) (rest := []) (show am_cd 223 58 = (40, 61, 197, 0, [238]) by decide +kernel) (by decide +kernel) rfl rfl (Nat.le_of_ble_eq_true rfl) rfl ?_
      refine Cl.mono (Cl.up (c_isIn (d := d) h.1) (by omega)) ?_
      rintro _ _ ⟨rfl, rfl⟩
      refine ⟨fun _ h9 => (by cases h9), ?_⟩
      replace h := h.2
      show Ev _ 223 _ 61 [rA 67, (0, a), (0, b), (0, p)] [(0, bI (inR m a.toNat ((rAt ml (p - 2) : Nat) : Int).toNat ((rAt ml (p - 1) : Nat) : Int).toNat ((rAt ml (p + 1) : Nat) : Int).toNat))] _
      refine e_ifb0 (show am_cd 223 61 = (10, 64, 95, 0, []) by decide +kernel) (fun hc => ?_) (fun hc => ?_)
      · replace h := h.1 hc
        refine e_inc (la2 := [rA 67, (0, a), (0, b), (0, p + 1)]) (show am_cd 223 95 = (4, 98, 3, 1, []) by decide +kernel) rfl rfl ?_
        refine e_go (show am_cd 223 98 = (12, 2, 0, 0, []) by decide +kernel) ?_
        exact h
      · replace h := h.2 hc
        refine e_lda (v := 67) (show am_cd 223 64 = (2, 65, 0, 2, []) by decide +kernel) rfl ?_
        refine e_ldi (show am_cd 223 65 = (2, 66, 2, 0, []) by decide +kernel) rfl ?_
        refine e_lda (v := 67) (show am_cd 223 66 = (2, 67, 0, 2, []) by decide +kernel) rfl ?_
        refine e_ldi (show am_cd 223 67 = (2, 68, 3, 0, []) by decide +kernel) rfl ?_
        refine e_ic (show am_cd 223 68 = (0, 69, 0, 2, []) by decide +kernel) ?_
        refine e_isub (show am_cd 223 69 = (5, 70, 1, 0, []) by decide +kernel) ?_
        refine e_cV (z := 0) (a := 67) (as := [(0, p - 2)]) (rest := [(0, b), rA 67]) (show am_cd 223 70 = (40, 73, 222, 0, [327]) by decide +kernel) (by decide +kernel) rfl rfl (Nat.le_of_ble_eq_true rfl) rfl ?_
        refine Cl.mono (Cl.up (c_madeAt (d := d) h.1) (by omega)) ?_
        rintro _ _ ⟨rfl, rfl⟩
        refine ⟨fun _ h9 => (by cases h9), ?_⟩
        replace h := h.2
        show Ev _ 223 _ 73 [rA 67, (0, a), (0, b), (0, p)] [(0, ((rAt ml (p - 2) : Nat) : Int)), (0, b), rA 67] _
        refine e_lda (v := 67) (show am_cd 223 73 = (2, 74, 0, 2, []) by decide +kernel) rfl ?_
        refine e_ldi (show am_cd 223 74 = (2, 75, 3, 0, []) by decide +kernel) rfl ?_
        refine e_ic (show am_cd 223 75 = (0, 76, 0, 1, []) by decide +kernel) ?_
        refine e_isub (show am_cd 223 76 = (5, 77, 1, 0, []) by decide +kernel) ?_
        refine e_cV (z := 0) (a := 67) (as := [(0, p - 1)]) (rest := [(0, ((rAt ml (p - 2) : Nat) : Int)), (0, b), rA 67]) (show am_cd 223 77 = (40, 80, 222, 0, [327]) by decide +kernel) (by decide +kernel) rfl rfl (Nat.le_of_ble_eq_true rfl) rfl ?_
        refine Cl.mono (Cl.up (c_madeAt (d := d) h.1) (by omega)) ?_
        rintro _ _ ⟨rfl, rfl⟩
        refine ⟨fun _ h9 => (by cases h9), ?_⟩
        replace h := h.2
        show Ev _ 223 _ 80 [rA 67, (0, a), (0, b), (0, p)] [(0, ((rAt ml (p - 1) : Nat) : Int)), (0, ((rAt ml (p - 2) : Nat) : Int)), (0, b), rA 67] _
        refine e_lda (v := 67) (show am_cd 223 80 = (2, 81, 0, 2, []) by decide +kernel) rfl ?_
        refine e_ldi (show am_cd 223 81 = (2, 82, 3, 0, []) by decide +kernel) rfl ?_
        refine e_ic (show am_cd 223 82 = (0, 83, 0, 1, []) by decide +kernel) ?_
        refine e_iadd (show am_cd 223 83 = (5, 84, 0, 0, []) by decide +kernel) ?_
        refine e_cV (z := 0) (a := 67) (as := [(0, p + 1)]) (rest := [(0, ((rAt ml (p - 1) : Nat) : Int)), (0, ((rAt ml (p - 2) : Nat) : Int)), (0, b), rA 67]) (show am_cd 223 84 = (40, 87, 222, 0, [327]) by decide +kernel) (by decide +kernel) rfl rfl (Nat.le_of_ble_eq_true rfl) rfl ?_
        refine Cl.mono (Cl.up (c_madeAt (d := d) h.1) (by omega)) ?_
        rintro _ _ ⟨rfl, rfl⟩
        refine ⟨fun _ h9 => (by cases h9), ?_⟩
        replace h := h.2
        show Ev _ 223 _ 87 [rA 67, (0, a), (0, b), (0, p)] [(0, ((rAt ml (p + 1) : Nat) : Int)), (0, ((rAt ml (p - 1) : Nat) : Int)), (0, ((rAt ml (p - 2) : Nat) : Int)), (0, b), rA 67] _
        refine e_cV (z := 0) (a := 67) (as := [(0, b), (0, ((rAt ml (p - 2) : Nat) : Int)), (0, ((rAt ml (p - 1) : Nat) : Int)), (0, ((rAt ml (p + 1) : Nat) : Int))]) (rest := []) (show am_cd 223 87 = (40, 90, 197, 0, [238]) by decide +kernel) (by decide +kernel) rfl rfl (Nat.le_of_ble_eq_true rfl) rfl ?_
        refine Cl.mono (Cl.up (c_isIn (d := d) h.1) (by omega)) ?_
        rintro _ _ ⟨rfl, rfl⟩
        refine ⟨fun _ h9 => (by cases h9), ?_⟩
        replace h := h.2
        show Ev _ 223 _ 90 [rA 67, (0, a), (0, b), (0, p)] [(0, bI (inR m b.toNat ((rAt ml (p - 2) : Nat) : Int).toNat ((rAt ml (p - 1) : Nat) : Int).toNat ((rAt ml (p + 1) : Nat) : Int).toNat))] _
        refine e_ifb0 (show am_cd 223 90 = (10, 93, 95, 0, []) by decide +kernel) (fun hc => ?_) (fun hc => ?_)
        · replace h := h.1 hc
          refine e_inc (la2 := [rA 67, (0, a), (0, b), (0, p + 1)]) (show am_cd 223 95 = (4, 98, 3, 1, []) by decide +kernel) rfl rfl ?_
          refine e_go (show am_cd 223 98 = (12, 2, 0, 0, []) by decide +kernel) ?_
          exact h
        · replace h := h.2 hc
          refine e_ldi (show am_cd 223 93 = (2, 94, 3, 0, []) by decide +kernel) rfl ?_
          exact e_reti (show am_cd 223 94 = (36, 95, 0, 0, []) by decide +kernel) (by decide +kernel) h

theorem c_clash {d : Nat} {m w : eW} {t : eT} {ml : List Nat} {a b : Int} (h : MG w m ∧ gR m a ∧ gR m b ∧ MdM w ml ∧ (∀ p ∈ ml, p < nP m)) : Cl (d + 3) 223 [rA 67, (0, a), (0, b)] (enc w t) (fun z S2 => z = some (0, clI m a.toNat b.toNat ml) ∧ S2 = enc w t) := by
  obtain ⟨hm, ha, hb, hM, hlt⟩ := h
  have hpn := hm.1.n
  have hrn := hm.2.1.n
  have ha' := ha
  have hb' := hb
  unfold gR at ha' hb'
  obtain ⟨f1, f2, -⟩ := hm.2.1.2 a.toNat (by omega)
  obtain ⟨e1, e2, -⟩ := hm.2.2.2.2 a.toNat (by omega)
  have g1 := (hm.2.2.1.2 (m 72 a.toNat).toNat (by omega)).1
  have b1 := (hm.1.2.1 (m 72 a.toNat).toNat (by omega)).1
  have hMl := hM.2.1
  refine g_clash0 (m := m) (ml := ml) (wo := 0) ?_
  have main : ∀ (k i : Nat), i + k = ml.length → clF m a.toNat b.toNat ml = fsN (clP m a.toNat b.toNat ml) k i → Ev (d + 3) 223 (fun z S2 => z = some (0, clI m a.toNat b.toNat ml) ∧ S2 = enc w t) 2 [rA 67, (0, a), (0, b), (0, (i : Int))] [] (enc w t) := by
    intro k
    induction k with
    | zero =>
      intro i hi hf
      refine g_clash1 (m := m) (ml := ml) (wo := 0) ?_
      rw [hM.1]
      simp (disch := omega) only [w32_id]
      refine ⟨fun _ => ⟨?_, by trivial⟩, fun h9 => (by omega)⟩
      unfold clI
      rw [if_pos (by rw [hf]; exact hi)]
    | succ k ih =>
      intro i hi hf
      have hin : i < ml.length := by omega
      have hmi := hM.2.2 i hin
      have hlm : ml.getD i 0 < nP m := by
        rw [List.getD_eq_getElem?_getD, List.getElem?_eq_getElem hin]
        exact hlt _ (List.getElem_mem hin)
      have g2 := (hm.2.2.1.2 (ml.getD i 0) hlm).1
      have b2 := (hm.1.2.1 (ml.getD i 0) hlm).1
      have r1 := rAt_le hlt hpn.2 ((i : Int) - 2)
      have r2 := rAt_le hlt hpn.2 ((i : Int) - 1)
      have r3 := rAt_le hlt hpn.2 ((i : Int) + 1)
      refine g_clash1 (m := m) (ml := ml) (wo := 0) ?_
      rw [hM.1]
      simp (disch := omega) only [w32_id, Int.toNat_natCast, hmi, e1, g1, g2]
      have no : clP m a.toNat b.toNat ml i = false → Ev (d + 3) 223 (fun z S2 => z = some (0, clI m a.toNat b.toNat ml) ∧ S2 = enc w t) 2 [rA 67, (0, a), (0, b), (0, (i : Int) + 1)] [] (enc w t) := fun h9 => ih (i + 1) (by omega) (by rw [hf, fsN, if_neg (by rw [h9]; decide)])
      refine ⟨fun h9 => (by omega), fun _ => ⟨by omega, by omega, by omega, by omega, fun h2 => no ?_, fun h2 => ⟨⟨hM, by omega, by omega⟩, ⟨hM, by omega, by omega⟩, ⟨hM, by omega, by omega⟩, ⟨hm, ha, ⟨by omega, by omega⟩, ⟨by omega, by omega⟩, ⟨by omega, by omega⟩⟩, fun h3 => no ?_, fun h3 => ⟨⟨hM, by omega, by omega⟩, ⟨hM, by omega, by omega⟩, ⟨hM, by omega, by omega⟩, ⟨hm, hb, ⟨by omega, by omega⟩, ⟨by omega, by omega⟩, ⟨by omega, by omega⟩⟩, fun h4 => no ?_, fun h4 => ⟨?_, by trivial⟩⟩⟩⟩⟩
      · unfold clP; rw [decide_eq_false h2]; rfl
      · unfold clP; rw [h3, Bool.and_false]; rfl
      · unfold clP; rw [h4, Bool.and_false]
      · have hc : clP m a.toNat b.toNat ml i = true := by
          unfold clP
          rw [h3, h4, decide_eq_true (by omega)]; rfl
        rw [fsN, if_pos hc] at hf
        unfold clI
        rw [hf, if_neg (by omega)]
  exact main ml.length 0 (by omega) rfl

