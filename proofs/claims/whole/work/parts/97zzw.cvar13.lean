/-! The class: unlike spellings: as many as the model's. -/

theorem stT_2s {m : eW} {l : List Int} {i k p : Nat} (hpl : p < nP m) (hk : k ≤ 6) : stT m 2 (ltF l) l.length (16 * i + k) p = if decide (m 68 p = 27) || (decide (i < l.length) && decide (m 68 p = ltF l i)) then (if k + ow m p ≤ 6 then some (16 * spB m i p + (k + ow m p)) else none) else none := by
  have h0 := stT_0 (m := m) (l := l) (st := i) hpl
  have ho : (if (2 : Nat) = 2 ∧ ¬ m 69 p = 27 then k + 1 else k) = k + ow m p := by
    unfold ow
    by_cases h : m 69 p = 27
    · rw [if_neg (fun h9 => h9.2 h), if_pos h]; rfl
    · rw [if_pos ⟨rfl, h⟩, if_neg h]
  unfold stT at h0 ⊢
  rw [if_neg (show ¬ ((0 : Nat) = 1) by decide), show 16 * i / 16 = i by omega] at h0
  rw [if_neg (show ¬ ((2 : Nat) = 1) by decide), show (16 * i + k) / 16 = i by omega, show (16 * i + k) % 16 = k by omega]
  cases hu : upT m (ltF l) l.length i p with
  | none =>
    rw [hu] at h0
    dsimp only at h0 ⊢
    cases hb : decide (m 68 p = 27) || (decide (i < l.length) && decide (m 68 p = ltF l i)) with
    | true => rw [hb, if_pos rfl] at h0; cases h0
    | false => rfl
  | some i2 =>
    rw [hu] at h0
    dsimp only at h0 ⊢
    rw [if_neg (show ¬ ((0 : Nat) = 2 ∧ ¬ m 69 p = 27) by omega), show 16 * i % 16 = 0 by omega, if_neg (by omega)] at h0
    rw [ho]
    cases hb : decide (m 68 p = 27) || (decide (i < l.length) && decide (m 68 p = ltF l i)) with
    | false => rw [hb, if_neg (by decide)] at h0; cases h0
    | true =>
      rw [hb, if_pos rfl] at h0
      have e := Option.some.inj h0
      rw [if_pos rfl]
      by_cases h6 : k + ow m p ≤ 6
      · rw [if_pos h6, if_neg (by omega), show i2 = spB m i p by omega]
      · rw [if_neg h6, if_pos (by omega)]
theorem lW_2 {m : eW} (hp : WFp m) {l : List Int} (hl : LtO l) : ∀ (f i k : Nat) (g : t3) (x : List Nat), k ≤ 6 → (x ∈ lW m 2 (ltF l) l.length f (16 * i + k) g.1 g.2.1 g.2.2 ↔ x ∈ lW m 0 (ltF l) l.length f (16 * i) g.1 g.2.1 g.2.2 ∧ k + (lows m x).length ≤ 6) := by
  have hn16 : nP m ≤ 16 := by have := hp.1; unfold nP; omega
  intro f
  induction f with
  | zero => intro i k g x _; exact ⟨fun h => (by cases h), fun h => (by cases h.1)⟩
  | succ f ih =>
    intro i k g x hk
    rw [lW_0 hp hl, lW, List.mem_append, show (16 * i + k) / 16 = i by omega]
    refine ⟨fun h => ?_, fun h => ?_⟩
    · rcases h with h | h
      · split at h
        · next hc =>
          rw [List.mem_singleton] at h
          exact ⟨Or.inl ⟨h, hc⟩, by rw [h]; show k + 0 ≤ 6; omega⟩
        · cases h
      · obtain ⟨p, hpl, h2⟩ := lsD_mem2 h
        rw [stT_2s hpl hk] at h2
        cases h1 : decide (m 68 p = 27) || (decide (i < l.length) && decide (m 68 p = ltF l i)) with
        | false => rw [h1, if_neg (by decide)] at h2; cases h2
        | true =>
          rw [h1, if_pos rfl] at h2
          by_cases h6 : k + ow m p ≤ 6
          · rw [if_pos h6] at h2
            dsimp only at h2
            split at h2
            · next hg =>
              obtain ⟨y, y1, y2⟩ := List.mem_map.mp h2
              obtain ⟨z1, z2⟩ := (ih (spB m i p) (k + ow m p) (gN g p) y h6).mp y1
              refine ⟨Or.inr ⟨p, y, by omega, ?_, y2.symm, z1⟩, ?_⟩
              · rw [Nat.testBit_and, mf_tb2 (by omega), decide_eq_true hpl, Bool.true_and, spP_t hp hl hpl, h1, hg]; rfl
              · rw [← y2, lows_n]; omega
            · cases h2
          · rw [if_neg h6] at h2; cases h2
    · obtain ⟨h, h6⟩ := h
      rcases h with ⟨rfl, h⟩ | ⟨p, y, h1, h2, rfl, h4⟩
      · left
        rw [if_pos h]; exact List.mem_singleton.mpr rfl
      · right
        rw [Nat.testBit_and, mf_tb2 h1] at h2
        obtain ⟨h5, h7⟩ := Bool.and_eq_true_iff.mp h2
        obtain ⟨h8, h9⟩ := Bool.and_eq_true_iff.mp h7
        have hpl := of_decide_eq_true h8
        rw [spP_t hp hl hpl] at h5
        rw [lows_n] at h6
        refine lsD_inn hpl ?_
        rw [stT_2s hpl hk, if_pos h5, if_pos (by omega)]
        dsimp only
        rw [if_pos h9]
        exact List.mem_map.mpr ⟨y, (ih (spB m i p) (k + ow m p) (gN g p) y (by omega)).mpr ⟨h4, by omega⟩, rfl⟩
def okL (t : List Int) : Prop := ∀ v ∈ t, 0 ≤ v ∧ v ≤ 26
theorem lW_ok {m : eW} (hp : WFp m) {l : List Int} (hl : LtO l) : ∀ (f i : Nat) (g : t3) (x : List Nat), x ∈ lW m 0 (ltF l) l.length f (16 * i) g.1 g.2.1 g.2.2 → okL (lows m x) := by
  intro f
  induction f with
  | zero => intro i g x h; cases h
  | succ f ih =>
    intro i g x h
    rcases (lW_0 hp hl).mp h with ⟨rfl, _⟩ | ⟨p, y, h1, h2, rfl, h4⟩
    · intro v hv; cases hv
    · have hy := ih _ _ y h4
      obtain ⟨c1, _⟩ := bit_p hp hl h1 h2
      obtain ⟨_, z2, _⟩ := hp.2.1 p c1
      rw [lows_c]
      by_cases h69 : m 69 p = 27
      · rw [if_pos h69]; exact hy
      · rw [if_neg h69]
        intro v hv
        rcases List.mem_cons.mp hv with h9 | h9
        · rw [h9]; omega
        · exact hy v h9
/-- the number of a lower side -/
def cdL (a : Int) (t : List Int) : Int := t.foldl (fun c v => 28 * c + v + 1) a
theorem cdF_L (m : eW) : ∀ (x : List Nat) (a : Int), cdF m a x = cdL a (lows m x) := by
  intro x
  induction x with
  | nil => intro a; rfl
  | cons d x ih =>
    intro a
    rw [lows_c]
    show cdF m (if m 69 d = 27 then a else 28 * a + m 69 d + 1) x = _
    by_cases h : m 69 d = 27
    · rw [if_pos h, if_pos h, ih]
    · rw [if_neg h, if_neg h, ih]; rfl
def cdV : List Int → Int
  | [] => 0
  | v :: r => 28 * cdV r + v + 1
theorem cdL_V : ∀ (t : List Int) (r : List Int), cdL (cdV r) t = cdV (t.reverse ++ r) := by
  intro t
  induction t with
  | nil => intro r; rfl
  | cons v t ih =>
    intro r
    show cdL (cdV (v :: r)) t = _
    rw [ih (v :: r), List.reverse_cons, List.append_assoc]; rfl
theorem cdV_nn : ∀ r : List Int, okL r → 0 ≤ cdV r := by
  intro r
  induction r with
  | nil => intro _; exact Int.le_refl _
  | cons v r ih =>
    intro h
    have h1 := ih (fun x hx => h x (List.mem_cons_of_mem _ hx))
    have h2 := h v List.mem_cons_self
    show 0 ≤ 28 * cdV r + v + 1
    omega
theorem cdV_inj : ∀ r s : List Int, okL r → okL s → cdV r = cdV s → r = s := by
  intro r
  induction r with
  | nil =>
    intro s _ hs e
    cases s with
    | nil => rfl
    | cons v s =>
      have h1 := cdV_nn s (fun x hx => hs x (List.mem_cons_of_mem _ hx))
      have h2 := hs v List.mem_cons_self
      have e : (0 : Int) = 28 * cdV s + v + 1 := e
      omega
  | cons u r ih =>
    intro s hr hs e
    have h3 := cdV_nn r (fun x hx => hr x (List.mem_cons_of_mem _ hx))
    have h4 := hr u List.mem_cons_self
    cases s with
    | nil =>
      have e : 28 * cdV r + u + 1 = (0 : Int) := e
      omega
    | cons v s =>
      have h1 := cdV_nn s (fun x hx => hs x (List.mem_cons_of_mem _ hx))
      have h2 := hs v List.mem_cons_self
      have e : 28 * cdV r + u + 1 = 28 * cdV s + v + 1 := e
      rw [show u = v by omega, ih s (fun x hx => hr x (List.mem_cons_of_mem _ hx)) (fun x hx => hs x (List.mem_cons_of_mem _ hx)) (by omega)]
theorem cdL_inj {t s : List Int} (ht : okL t) (hs : okL s) (e : cdL 0 t = cdL 0 s) : t = s := by
  have e1 := cdL_V t []
  have e2 := cdL_V s []
  rw [List.append_nil] at e1 e2
  have e3 : cdV t.reverse = cdV s.reverse := by rw [← e1, ← e2]; exact e
  have := cdV_inj _ _ (fun v hv => ht v (List.mem_reverse.mp hv)) (fun v hv => hs v (List.mem_reverse.mp hv)) e3
  rw [← List.reverse_reverse t, this, List.reverse_reverse]
theorem nd_le {A B : List Int} (hA : A.Nodup) (h : ∀ x ∈ A, x ∈ B) : A.length ≤ B.length := by
  have hw : ∀ k, ∃ j, k < A.length → j < B.length ∧ B.getD j 0 = A.getD k 0 := fun k => by
    by_cases hk : k < A.length
    · have h1 : A.getD k 0 ∈ A := by rw [List.getD_eq_getElem?_getD, List.getElem?_eq_getElem hk]; exact List.getElem_mem hk
      obtain ⟨j, hj, e⟩ := List.getElem_of_mem (h _ h1)
      exact ⟨j, fun _ => ⟨hj, by rw [List.getD_eq_getElem?_getD, List.getElem?_eq_getElem hj]; exact e⟩⟩
    · exact ⟨0, fun h9 => absurd h9 hk⟩
  refine pgn B.length A.length (fun k => Classical.choose (hw k)) (fun k hk => (Classical.choose_spec (hw k) hk).1) (fun k j hk hj e => ?_)
  have e1 := (Classical.choose_spec (hw k) hk).2
  have e2 := (Classical.choose_spec (hw j) hj).2
  have e : Classical.choose (hw k) = Classical.choose (hw j) := e
  rw [e, e2] at e1
  rw [List.getD_eq_getElem?_getD, List.getD_eq_getElem?_getD, List.getElem?_eq_getElem hk, List.getElem?_eq_getElem hj] at e1
  have ec : A[k] = A[j] := e1.symm
  have hpw := List.pairwise_iff_getElem.mp hA
  rcases Nat.lt_trichotomy k j with h9 | h9 | h9
  · exact absurd ec (hpw k j hk hj h9)
  · exact h9
  · exact absurd ec.symm (hpw j k hj hk h9)
theorem insC_all : ∀ (X S : List Int), S.Nodup → S.length ≤ 201 → (X.foldl insC S).Nodup ∧ (∀ x ∈ X.foldl insC S, x ∈ S ∨ x ∈ X) ∧ (∀ x ∈ S, x ∈ X.foldl insC S) ∧ (X.foldl insC S).length ≤ 201 ∧ ((X.foldl insC S).length = 201 ∨ ∀ x ∈ X, x ∈ X.foldl insC S) := by
  intro X
  induction X with
  | nil => intro S h1 h2; exact ⟨h1, fun x hx => Or.inl hx, fun x hx => hx, h2, Or.inr (fun x hx => by cases hx)⟩
  | cons a X ih =>
    intro S h1 h2
    rw [List.foldl_cons]
    have hS2 : (insC S a).Nodup ∧ (∀ x ∈ insC S a, x ∈ S ∨ x = a) ∧ (∀ x ∈ S, x ∈ insC S a) ∧ (S.length = 201 ∨ a ∈ insC S a) := by
      unfold insC
      by_cases h3 : 200 < S.length
      · rw [if_pos h3]; exact ⟨h1, fun x hx => Or.inl hx, fun x hx => hx, Or.inl (by omega)⟩
      · rw [if_neg h3]
        by_cases h4 : a ∈ S
        · rw [if_pos h4]; exact ⟨h1, fun x hx => Or.inl hx, fun x hx => hx, Or.inr h4⟩
        · rw [if_neg h4]
          refine ⟨List.nodup_append.mpr ⟨h1, List.nodup_cons.mpr ⟨List.not_mem_nil, List.nodup_nil⟩, fun x hx y hy => ?_⟩, fun x hx => ?_, fun x hx => List.mem_append_left _ hx, Or.inr (List.mem_append_right _ (List.mem_singleton.mpr rfl))⟩
          · rw [List.mem_singleton] at hy
            intro h9
            rw [h9, hy] at hx
            exact h4 hx
          · rcases List.mem_append.mp hx with h9 | h9
            · exact Or.inl h9
            · exact Or.inr (List.mem_singleton.mp h9)
    obtain ⟨s1, s2, s3, s4⟩ := hS2
    obtain ⟨i1, i2, i3, i4, i5⟩ := ih (insC S a) s1 (insC_len h2 a)
    refine ⟨i1, fun x hx => ?_, fun x hx => i3 x (s3 x hx), i4, ?_⟩
    · rcases i2 x hx with h9 | h9
      · rcases s2 x h9 with h8 | h8
        · exact Or.inl h8
        · exact Or.inr (by rw [h8]; exact List.mem_cons_self)
      · exact Or.inr (List.mem_cons_of_mem _ h9)
    · rcases i5 with h9 | h9
      · exact Or.inl h9
      · rcases s4 with h8 | h8
        · left
          have := nd_le h1 (fun x hx => i3 x (s3 x hx))
          omega
        · right
          intro x hx
          rcases List.mem_cons.mp hx with h7 | h7
          · rw [h7]; exact i3 a h8
          · exact h9 x h7
theorem lsD_nd {f : Nat → List (List Int)} : ∀ n, (∀ i, i < n → (f i).Nodup) → (∀ i j x, i < n → j < n → x ∈ f i → x ∈ f j → i = j) → (lsD f n).Nodup := by
  intro n
  induction n with
  | zero => intro _ _; exact List.nodup_nil
  | succ n ih =>
    intro h1 h2
    unfold lsD
    refine List.nodup_append.mpr ⟨ih (fun i hi => h1 i (by omega)) (fun i j x hi hj => h2 i j x (by omega) (by omega)), h1 n (by omega), fun x hx y hy e => ?_⟩
    obtain ⟨i, i1, i2⟩ := lsD_mem2 hx
    rw [e] at i2
    have := h2 i n y (by omega) (by omega) i2 hy
    omega
theorem Cnt_list : ∀ (k : Nat) (P : List Int → Prop) (c : Nat), Cnt k P c → ∃ Z : List (List Int), Z.Nodup ∧ Z.length = c ∧ ∀ t, t ∈ Z ↔ (P t ∧ t.length ≤ k ∧ okL t) := by
  intro k
  induction k with
  | zero =>
    intro P c h
    rcases h with ⟨h1, rfl⟩ | ⟨h1, rfl⟩
    · refine ⟨[[]], List.nodup_cons.mpr ⟨List.not_mem_nil, List.nodup_nil⟩, rfl, fun t => ⟨fun h => ?_, fun h => ?_⟩⟩
      · rw [List.mem_singleton] at h; rw [h]; exact ⟨h1, Nat.le_refl _, fun v hv => by cases hv⟩
      · rw [List.length_eq_zero_iff.mp (by omega : t.length = 0)]; exact List.mem_singleton.mpr rfl
    · refine ⟨[], List.nodup_nil, rfl, fun t => ⟨fun h => (by cases h), fun h => ?_⟩⟩
      rw [List.length_eq_zero_iff.mp (by omega : t.length = 0)] at h
      exact absurd h.1 h1
  | succ k ih =>
    intro P c h
    obtain ⟨f, hf, h⟩ := h
    have hZ : ∃ Z : Nat → List (List Int), ∀ y : Nat, y < 27 → (Z y).Nodup ∧ (Z y).length = f y ∧ ∀ t, t ∈ Z y ↔ (P ((y : Int) :: t) ∧ t.length ≤ k ∧ okL t) := by
      have hw : ∀ y : Nat, ∃ Z : List (List Int), y < 27 → Z.Nodup ∧ Z.length = f y ∧ ∀ t, t ∈ Z ↔ (P ((y : Int) :: t) ∧ t.length ≤ k ∧ okL t) := fun y => by
        by_cases hy : y < 27
        · obtain ⟨Z, hZ⟩ := ih _ _ (hf y hy)
          exact ⟨Z, fun _ => hZ⟩
        · exact ⟨[], fun h9 => absurd h9 hy⟩
      exact ⟨fun y => Classical.choose (hw y), fun y => Classical.choose_spec (hw y)⟩
    obtain ⟨Z, hZ⟩ := hZ
    have hmem : ∀ t, t ∈ lsD (fun y => (Z y).map (fun t => (y : Int) :: t)) 27 ↔ (∃ v r, t = v :: r ∧ P t ∧ t.length ≤ k + 1 ∧ okL t) := fun t => by
      refine ⟨fun h9 => ?_, fun ⟨v, r, h1, h2, h3, h4⟩ => ?_⟩
      · obtain ⟨y, y1, y2⟩ := lsD_mem2 h9
        obtain ⟨r, r1, r2⟩ := List.mem_map.mp y2
        obtain ⟨q1, q2, q3⟩ := ((hZ y y1).2.2 r).mp r1
        refine ⟨(y : Int), r, r2.symm, by rw [← r2]; exact q1, by rw [← r2, List.length_cons]; omega, ?_⟩
        rw [← r2]
        intro x hx
        rcases List.mem_cons.mp hx with h8 | h8
        · rw [h8]; omega
        · exact q3 x h8
      · subst h1
        have hv := h4 v List.mem_cons_self
        rw [List.length_cons] at h3
        refine lsD_inn (i := v.toNat) (by omega) (List.mem_map.mpr ⟨r, ((hZ v.toNat (by omega)).2.2 r).mpr ⟨?_, by omega, fun x hx => h4 x (List.mem_cons_of_mem _ hx)⟩, ?_⟩)
        · rw [show ((v.toNat : Nat) : Int) = v by omega]; exact h2
        · rw [show ((v.toNat : Nat) : Int) = v by omega]
    have hnd : (lsD (fun y => (Z y).map (fun t => (y : Int) :: t)) 27).Nodup := by
      refine lsD_nd 27 (fun y hy => ?_) (fun y z x hy hz h1 h2 => ?_)
      · refine List.pairwise_map.mpr ((hZ y hy).1.imp (fun h9 h8 => h9 ?_))
        injection h8
      · obtain ⟨r, _, r2⟩ := List.mem_map.mp h1
        obtain ⟨s, _, s2⟩ := List.mem_map.mp h2
        rw [← s2] at r2
        injection r2 with e1 e2
        omega
    have hlen : (lsD (fun y => (Z y).map (fun t => (y : Int) :: t)) 27).length = sm f 27 := by
      rw [lsD_len]
      exact sm_congr (fun y hy => by rw [List.length_map]; exact (hZ y hy).2.1)
    rcases h with ⟨h1, rfl⟩ | ⟨h1, rfl⟩
    · refine ⟨[] :: lsD (fun y => (Z y).map (fun t => (y : Int) :: t)) 27, List.nodup_cons.mpr ⟨fun h9 => ?_, hnd⟩, by rw [List.length_cons, hlen]; omega, fun t => ⟨fun h9 => ?_, fun h9 => ?_⟩⟩
      · obtain ⟨v, r, h8, _⟩ := (hmem []).mp h9; cases h8
      · rcases List.mem_cons.mp h9 with h8 | h8
        · rw [h8]; exact ⟨h1, Nat.zero_le _, fun v hv => by cases hv⟩
        · obtain ⟨v, r, _, q⟩ := (hmem t).mp h8; exact q
      · cases t with
        | nil => exact List.mem_cons_self
        | cons v r => exact List.mem_cons_of_mem _ ((hmem _).mpr ⟨v, r, rfl, h9⟩)
    · refine ⟨lsD (fun y => (Z y).map (fun t => (y : Int) :: t)) 27, hnd, hlen, fun t => ⟨fun h9 => ?_, fun h9 => ?_⟩⟩
      · obtain ⟨v, r, _, q⟩ := (hmem t).mp h9; exact q
      · cases t with
        | nil => exact absurd h9.1 h1
        | cons v r => exact (hmem _).mpr ⟨v, r, rfl, h9⟩
theorem spl_eq {m : eW} (hp : WFp m) {l : List Int} (hl : LtO l) (tl : List Int) {c : Nat} (h : Cnt 6 (TS m l []) c) : (splL tl m l).length = min c 201 := by
  obtain ⟨Z, z1, z2, z3⟩ := Cnt_list 6 _ c h
  obtain ⟨i1, i2, _, i4, i5⟩ := insC_all ((lw m 2 (ltF l) l.length 0 16 16 16).map (cdF m 0)) [] List.nodup_nil (by decide)
  have hX : ∀ x, x ∈ (lw m 2 (ltF l) l.length 0 16 16 16).map (cdF m 0) ↔ x ∈ Z.map (cdL 0) := fun x => by
    refine ⟨fun h9 => ?_, fun h9 => ?_⟩
    · obtain ⟨r, r1, r2⟩ := List.mem_map.mp h9
      obtain ⟨q1, q2⟩ := (lW_2 hp hl 14 0 0 (16, 16, 16) r (by decide)).mp r1
      have hok := lW_ok hp hl 14 0 (16, 16, 16) r q1
      refine List.mem_map.mpr ⟨lows m r, (z3 _).mpr ⟨⟨by show 0 + _ ≤ 6; omega, r, q1, rfl⟩, by omega, hok⟩, ?_⟩
      rw [← r2, cdF_L]
    · obtain ⟨t, t1, t2⟩ := List.mem_map.mp h9
      obtain ⟨⟨q1, r, r1, r2⟩, q2, _⟩ := (z3 t).mp t1
      have r2 : lows m r = t := r2
      refine List.mem_map.mpr ⟨r, (lW_2 hp hl 14 0 0 (16, 16, 16) r (by decide)).mpr ⟨r1, by rw [r2]; omega⟩, ?_⟩
      rw [cdF_L, r2, t2]
  have hnd : (Z.map (cdL 0)).Nodup := by
    refine List.pairwise_map.mpr ?_
    refine List.Pairwise.imp_of_mem (fun {a b} ha hb h9 h8 => h9 ?_) z1
    exact cdL_inj ((z3 a).mp ha).2.2 ((z3 b).mp hb).2.2 h8
  have hl1 : (Z.map (cdL 0)).length = c := by rw [List.length_map, z2]
  have hle := nd_le i1 (B := Z.map (cdL 0)) (fun x hx => by
    rcases i2 x hx with h9 | h9
    · cases h9
    · exact (hX x).mp h9)
  show (((lw m 2 (ltF l) l.length 0 16 16 16).map (cdF m 0)).foldl insC []).length = min c 201
  rw [hl1] at hle
  rcases i5 with h9 | h9
  · omega
  · have := nd_le hnd (B := ((lw m 2 (ltF l) l.length 0 16 16 16).map (cdF m 0)).foldl insC []) (fun x hx => h9 x ((hX x).mpr hx))
    rw [hl1] at this
    omega
