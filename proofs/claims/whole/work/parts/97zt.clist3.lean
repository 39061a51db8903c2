/-! The class: list (3). -/

theorem lsD_inn {α : Type} {f : Nat → List α} {x : α} : ∀ {n i : Nat}, i < n → x ∈ f i → x ∈ lsD f n := by
  intro n
  induction n with
  | zero => intro i h; omega
  | succ n ih =>
    intro i h hx
    unfold lsD
    by_cases h1 : i = n
    · rw [h1] at hx; exact List.mem_append_right _ hx
    · exact List.mem_append_left _ (ih (by omega) hx)
theorem lsD_cut {α : Type} {f : Nat → List α} {p : Nat} : ∀ k, (∀ q, p ≤ q → q < p + k → f q = []) → lsD f (p + k) = lsD f p := by
  intro k
  induction k with
  | zero => intro _; rfl
  | succ k ih =>
    intro h
    show lsD f (p + k) ++ f (p + k) = lsD f p
    rw [ih (fun q h1 h2 => h q h1 (by omega)), h (p + k) (by omega) (by omega), List.append_nil]
def pF (m : eW) (P : Nat → Nat) (B : Nat → Nat → Nat) (L : Nat → t3 → kT) (st : Nat) (g : t3) (p : Nat) : kT := if (P st &&& mfG m g).testBit p then (L (B st p) (gN g p)).map (fun x => (p :: x.1, x.2)) else []
def eF (E : Nat → Nat) (I : Nat → Nat → Nat) (L : Nat → t3 → kT) (st : Nat) (g : t3) (e : Nat) : kT := if (E st).testBit e then (L (I st e) g).map (fun x => (x.1, e :: x.2)) else []
theorem hi54 (w : eW) (k : Nat) (v : Int) {a : Nat} (h : a = 54 ∨ a = 55) : Hi w (wu w a k v) ∧ LoL w (wu w a k v) := ⟨fun q hq => wu_row (by omega), fun q hq => wu_row (by omega)⟩
theorem MR.loL {w w2 : eW} {t t2 : eT} (h : MR w t w2 t2) : LoL w w2 := fun a ha => h.2.1 a (by omega)
theorem c_li {d : Nat} {m : eW} {W : Nat → Bool} {P : Nat → Nat} {B : Nat → Nat → Nat} {E : Nat → Nat} {I : Nat → Nat → Nat} {A : Nat → t3 → Prop} {μ : Nat → t3 → Nat} {L : Nat → t3 → kT} (hS : WSy m W P B E I A μ L) (hp : WFp m) (hr : WFr m) {w0 : eW} (hH : WHy d m W P B E I A w0) {b : Nat × Nat} {N : Nat} {KY : Nat → Int} {M : Nat} (hM : 1 ≤ M ∧ M ≤ 20) (hm0 : w0 53 9 = (M : Int)) : ∀ (Bd : Nat) (γ : Nat × t3 × kT × List Nat × List Nat) (st sa pd ed : Int) (w : eW) (t : eT), LiR m A μ L (wyP m A L N KY) w0 b N KY M Bd γ st sa pd ed w t → Cl (d + Bd + 50) 106 [rA 53, (0, st), (0, sa), (0, pd), (0, ed)] (enc w t) (fun r S2 => ∃ w2 t2, r = none ∧ S2 = enc w2 t2 ∧ LiO m L (wyP m A L N KY) w0 b N KY M γ st sa pd ed w t w2 t2) := by
  intro Bd
  induction Bd with
  | zero => rintro γ st sa pd ed w t ⟨⟨_, _, _, h, _⟩, _⟩; omega
  | succ Bd ih =>
    rintro ⟨st, g, ks, ml, el⟩ sti sa pdi edi w t ⟨⟨hA, rfl, hs, hμ, hμ2, hc⟩, ⟨hk, hkl⟩, ⟨rfl, rfl, hpa⟩, hbd⟩
    replace hA : A st g := hA
    replace hs : Sta N KY m g sa := hs
    replace hμ : μ st g < Bd + 1 := hμ
    replace hμ2 : μ st g ≤ 30 := hμ2
    replace hk : KC w ks := hk
    replace hkl : ks.length ≤ M := hkl
    replace hpa : PaC w ml el := hpa
    replace hbd : ∀ x ∈ L st g, ml.length + x.1.length ≤ 13 ∧ el.length + x.2.length ≤ 6 := hbd
    show Cl (d + (Bd + 1) + 50) 106 [rA 53, (0, (st : Int)), (0, sa), (0, (ml.length : Int)), (0, (el.length : Int))] (enc w t) (fun r S2 => ∃ w2 t2, r = none ∧ S2 = enc w2 t2 ∧ LiO m L (wyP m A L N KY) w0 b N KY M (st, g, ks, ml, el) (st : Int) sa (ml.length : Int) (el.length : Int) w t w2 t2)
    obtain ⟨⟨⟨b1, b2, b3⟩, b4⟩, hBp, hEp, hL⟩ := hS st g hA
    have ml13 := hpa.1.1
    have el6 := hpa.2.1
    obtain ⟨hH1, hH2, hH3, hH4, hH5⟩ := hH.up (show d ≤ d + (Bd + 1) by omega)
    have hmf : mfG m g < 131072 := mfB_lt m g.1 g.2.1 g.2.2
    refine g_li0 (m := m) (b := b) (ks := ks) (ml := ml) (el := el) (fun γ a1 a2 a3 w t h => (c_wy hS hp hr hH (b := b) (N := N) (KY := KY) 31 γ a1 a2 a3 w t h).up (by omega)) ?_
    rw [hc.1 53 (by omega), hm0, hk.1, w32_id (x := (M : Int)) (by omega), w32_id (x := (ks.length : Int)) (by omega)]
    refine ⟨fun h9 => ⟨w, t, rfl, rfl, hc, LoL.rf _, ?_, hpa⟩, fun h9 => ⟨(st, g), ⟨hA, rfl, hs, by show μ st g < 31; omega, by show (0 : Int) ≤ 0 ∧ (0 : Int) + (μ st g : Int) ≤ 30; omega, hc⟩, ?_⟩⟩
    · show KC w (adK M ks ml el (L st g))
      rw [adK_full (by omega)]; exact hk
    have hlt : ks.length < M := by omega
    rintro x2 w3 t4 ⟨rfl, m1, m2⟩
    have hc3 := hc.mr m1 m2
    have l3 := m1.loL
    have k3 : KC w3 ks := hk.cg (fun a h1 h2 => m1.2.1 a (by omega))
    have p3 : PaC w3 ml el := hpa.cg (m1.2.1 54 (by omega)) (m1.2.1 55 (by omega))
    show (¬ w64 ((L st g).length : Int) = w64 0 → _) ∧ (¬ (¬ w64 ((L st g).length : Int) = w64 0) → _)
    rw [w64_id (x := ((L st g).length : Int)) (by omega), w64_id (x := (0 : Int)) (by omega)]
    refine ⟨fun h8 => ?_, fun h8 => ⟨w3, t4, rfl, rfl, hc3, l3, ?_, p3⟩⟩
    rotate_left
    · show KC w3 (adK M ks ml el (L st g))
      have : (L st g).length = 0 := by have := Classical.not_not.mp h8; omega
      rw [List.length_eq_zero_iff.mp this, adK_nil hkl]; exact k3
    -- a state there is
    rcases hs with ⟨rfl, hz⟩ | ⟨s, hs, rfl, hky⟩
    · exfalso
      apply h8
      rw [hS.z _ st g (Nat.lt_succ_self _) hA hz]; rfl
    clear hc m1 m2 hk hpa h9
    generalize eBs : (if W st && isE m (-1) g.1 g.2.1 g.2.2 then [([], [])] else ([] : kT)) = bs at hL
    replace hL : L st g = bs ++ (lsD (pF m P B L st g) 16 ++ lsD (eF E I L st g) 16) := hL
    have hin1 : ∀ p, p < 16 → ∀ x ∈ pF m P B L st g p, ml.length + x.1.length ≤ 13 ∧ el.length + x.2.length ≤ 6 := fun p h1 x hx => hbd x (by rw [hL]; exact List.mem_append_right _ (List.mem_append_left _ (lsD_inn h1 hx)))
    have hin2 : ∀ p, p < 16 → ∀ x ∈ eF E I L st g p, ml.length + x.1.length ≤ 13 ∧ el.length + x.2.length ≤ 6 := fun p h1 x hx => hbd x (by rw [hL]; exact List.mem_append_right _ (List.mem_append_right _ (lsD_inn h1 hx)))
    -- entries
    have hent : ∀ (k e : Nat) (w1 : eW) (t1 : eT) (ft : Int), e + k = 16 → WCx m (wyP m A L N KY) w0 b N KY w1 t1 → LoL w w1 → KC w1 (adK M ks ml el (bs ++ (lsD (pF m P B L st g) 16 ++ lsD (eF E I L st g) e))) → PaC w1 ml el → Ev (d + (Bd + 1) + 50) 106 (fun r S2 => ∃ w2 t2, r = none ∧ S2 = enc w2 t2 ∧ LiO m L (wyP m A L N KY) w0 b N KY M (st, g, ks, ml, el) (st : Int) (s : Int) (ml.length : Int) (el.length : Int) w t w2 t2) 171 [rA 53, (0, (st : Int)), (0, (s : Int)), (0, (ml.length : Int)), (0, (el.length : Int)), (0, ft), (0, ((E st : Nat) : Int)), (0, (e : Int))] [] (enc w1 t1) := by
      have hfin : ∀ (w1 : eW) (t1 : eT), WCx m (wyP m A L N KY) w0 b N KY w1 t1 → LoL w w1 → KC w1 (adK M ks ml el (bs ++ (lsD (pF m P B L st g) 16 ++ lsD (eF E I L st g) 16))) → PaC w1 ml el → ∃ w2 t2, (none : Option aV) = none ∧ enc w1 t1 = enc w2 t2 ∧ LiO m L (wyP m A L N KY) w0 b N KY M (st, g, ks, ml, el) (st : Int) (s : Int) (ml.length : Int) (el.length : Int) w t w2 t2 := fun w1 t1 c1 c2 c3 c4 => by
        refine ⟨w1, t1, rfl, rfl, c1, c2, ?_, c4⟩
        show KC w1 (adK M ks ml el (L st g))
        rw [hL]; exact c3
      intro k
      induction k with
      | zero =>
        intro e w1 t1 ft he c1 c2 c3 c4
        refine g_li5 (m := m) (b := b) (ks := ks) (ml := ml) (el := el) hH5 ih ?_
        have : e = 16 := by omega
        subst this
        exact ⟨fun _ => hfin w1 t1 c1 c2 c3 c4, fun h9 => absurd (by decide) h9⟩
      | succ k ihk =>
        intro e w1 t1 ft he c1 c2 c3 c4
        refine g_li5 (m := m) (b := b) (ks := ks) (ml := ml) (el := el) hH5 ih ?_
        rw [w32_id (x := 16) (by omega), w32_id (x := (e : Int)) (by omega), w32_id (x := (6 : Int)) (by omega), w32_id (x := (el.length : Int)) (by omega)]
        refine ⟨fun h9 => by omega, fun _ => ⟨fun h9 => ?_, fun _ => ?_⟩⟩
        · have hz := sh_z (x := E st) (by omega) (by omega) h9
          refine hfin w1 t1 c1 c2 ?_ c4
          rw [← lsD_cut (f := eF E I L st g) (p := e) (k + 1) (fun q h1 h2 => by unfold eF; rw [hz q h1, if_neg (by decide)]), show e + (k + 1) = 16 by omega] at c3
          exact c3
        · rw [bsz (y := 0) (by omega) (by omega)]
          have hnx : lsD (eF E I L st g) (e + 1) = lsD (eF E I L st g) e ++ eF E I L st g e := rfl
          have hskip : eF E I L st g e = [] → Ev (d + (Bd + 1) + 50) 106 (fun r S2 => ∃ w2 t2, r = none ∧ S2 = enc w2 t2 ∧ LiO m L (wyP m A L N KY) w0 b N KY M (st, g, ks, ml, el) (st : Int) (s : Int) (ml.length : Int) (el.length : Int) w t w2 t2) 171 [rA 53, (0, (st : Int)), (0, (s : Int)), (0, (ml.length : Int)), (0, (el.length : Int)), (0, ft), (0, ((E st : Nat) : Int)), (0, (e : Int) + 1)] [] (enc w1 t1) := fun h7 => by
            rw [show ((e : Int) + 1) = ((e + 1 : Nat) : Int) by omega]
            refine ihk (e + 1) w1 t1 ft (by omega) c1 c2 ?_ c4
            rw [hnx, h7, List.append_nil]; exact c3
          refine ⟨fun h9 => ?_, fun h9 => ?_⟩
          · exact hskip (by unfold eF; rw [h9, if_neg (by decide)])
          · have h8 : (E st).testBit e = true := by cases h7 : (E st).testBit e; exact absurd h7 h9; rfl
            have hef : eF E I L st g e = (L (I st e) g).map (fun x => (x.1, e :: x.2)) := by unfold eF; rw [h8, if_pos rfl]
            obtain ⟨q1, q2⟩ := hEp e (by omega) h8
            refine ⟨fun h6 => ?_, fun h6 => ⟨by omega, ?_⟩⟩
            · refine hskip ?_
              rw [hef]
              cases h5 : L (I st e) g with
              | nil => rfl
              | cons x xs =>
                exfalso
                have := (hin2 e (by omega) (x.1, e :: x.2) (by rw [hef, h5]; exact List.mem_cons_self)).2
                have : el.length + (x.2.length + 1) ≤ 6 := this
                omega
            · rw [Int.toNat_natCast]
              have h54 := hi54 w1 el.length (e : Int) (a := 55) (Or.inr rfl)
              have c1' := c1.hi h54.1 h54.2
              refine ⟨⟨⟨st, g, e, hA, rfl, rfl, by omega, h8⟩, c1'.1⟩, ?_⟩
              rintro x1 rfl
              rw [Int.toNat_natCast, Int.toNat_natCast]
              refine ⟨(I st e, g, adK M ks ml el (bs ++ (lsD (pF m P B L st g) 16 ++ lsD (eF E I L st g) e)), ml, el ++ [e]), ⟨⟨q1, rfl, Or.inr ⟨s, hs, rfl, hky⟩, by show μ (I st e) g < Bd; omega, by show μ (I st e) g ≤ 30; omega, c1'⟩, ⟨c3.cg (fun a h1 h2 => wu_row (by omega)), adK_le _ _ _ _ _⟩, ⟨rfl, by show (el.length : Int) + 1 = ((el ++ [e]).length : Int); rw [List.length_append]; rfl, c4.e (by omega)⟩, fun x hx => ?_⟩, ?_⟩
              · have := hin2 e (by omega) (x.1, e :: x.2) (by rw [hef]; exact List.mem_map_of_mem (f := fun x : List Nat × List Nat => (x.1, e :: x.2)) hx)
                show ml.length + x.1.length ≤ 13 ∧ (el ++ [e]).length + x.2.length ≤ 6
                rw [List.length_append]
                have this : ml.length + x.1.length ≤ 13 ∧ el.length + (x.2.length + 1) ≤ 6 := this
                show ml.length + x.1.length ≤ 13 ∧ el.length + 1 + x.2.length ≤ 6
                omega
              · rintro w5 t5 ⟨d1, d2, d3, d4⟩
                rw [show ((e : Int) + 1) = ((e + 1 : Nat) : Int) by omega]
                refine ihk (e + 1) w5 t5 ft (by omega) d1 (c2.tr (h54.2.tr d2)) ?_ (PaC.be d4)
                have d3 : KC w5 (adK M (adK M ks ml el (bs ++ (lsD (pF m P B L st g) 16 ++ lsD (eF E I L st g) e))) ml (el ++ [e]) (L (I st e) g)) := d3
                rw [← adK_e, ← hef, adK_app, List.append_assoc, List.append_assoc, ← hnx] at d3
                exact d3
    -- pairs
    have hPm : P st &&& mfG m g < 131072 := Nat.lt_of_le_of_lt Nat.and_le_right hmf
    have hpr : ∀ (k p : Nat) (w1 : eW) (t1 : eT), p + k = 16 → WCx m (wyP m A L N KY) w0 b N KY w1 t1 → LoL w w1 → KC w1 (adK M ks ml el (bs ++ lsD (pF m P B L st g) p)) → PaC w1 ml el → Ev (d + (Bd + 1) + 50) 106 (fun r S2 => ∃ w2 t2, r = none ∧ S2 = enc w2 t2 ∧ LiO m L (wyP m A L N KY) w0 b N KY M (st, g, ks, ml, el) (st : Int) (s : Int) (ml.length : Int) (el.length : Int) w t w2 t2) 90 [rA 53, (0, (st : Int)), (0, (s : Int)), (0, (ml.length : Int)), (0, (el.length : Int)), (0, ((P st &&& mfG m g : Nat) : Int)), (0, (p : Int)), (9, 0)] [] (enc w1 t1) := by
      have hgo : ∀ (w1 : eW) (t1 : eT) (p : Int), WCx m (wyP m A L N KY) w0 b N KY w1 t1 → LoL w w1 → KC w1 (adK M ks ml el (bs ++ lsD (pF m P B L st g) 16)) → PaC w1 ml el → Ev (d + (Bd + 1) + 50) 106 (fun r S2 => ∃ w2 t2, r = none ∧ S2 = enc w2 t2 ∧ LiO m L (wyP m A L N KY) w0 b N KY M (st, g, ks, ml, el) (st : Int) (s : Int) (ml.length : Int) (el.length : Int) w t w2 t2) 161 [rA 53, (0, (st : Int)), (0, (s : Int)), (0, (ml.length : Int)), (0, (el.length : Int)), (0, ((P st &&& mfG m g : Nat) : Int)), (0, p), (9, 0)] [] (enc w1 t1) := fun w1 t1 p c1 c2 c3 c4 => by
        refine g_li4 (m := m) (b := b) (ks := ks) (ml := ml) (el := el) hH4 ⟨⟨⟨st, g, hA, rfl⟩, c1.1⟩, ?_⟩
        rintro x2 rfl
        rw [Int.toNat_natCast]
        refine hent 16 0 w1 t1 _ (by omega) c1 c2 ?_ c4
        show KC w1 (adK M ks ml el (bs ++ (lsD (pF m P B L st g) 16 ++ [])))
        rw [List.append_nil]; exact c3
      intro k
      induction k with
      | zero =>
        intro p w1 t1 he c1 c2 c3 c4
        refine g_li3 (m := m) (b := b) (ks := ks) (ml := ml) (el := el) hH3 ih ?_
        have : p = 16 := by omega
        subst this
        exact ⟨fun _ => hgo w1 t1 _ c1 c2 c3 c4, fun h9 => absurd (by decide) h9⟩
      | succ k ihk =>
        intro p w1 t1 he c1 c2 c3 c4
        refine g_li3 (m := m) (b := b) (ks := ks) (ml := ml) (el := el) hH3 ih ?_
        rw [w32_id (x := 16) (by omega), w32_id (x := (p : Int)) (by omega), w32_id (x := (13 : Int)) (by omega), w32_id (x := (ml.length : Int)) (by omega)]
        refine ⟨fun h9 => by omega, fun _ => ⟨fun h9 => ?_, fun _ => ?_⟩⟩
        · have hz := sh_z hPm (by omega) h9
          refine hgo w1 t1 _ c1 c2 ?_ c4
          rw [← lsD_cut (f := pF m P B L st g) (p := p) (k + 1) (fun q h1 h2 => by unfold pF; rw [hz q h1, if_neg (by decide)]), show p + (k + 1) = 16 by omega] at c3
          exact c3
        · rw [bsz (y := 0) hPm (by omega)]
          have hnx : lsD (pF m P B L st g) (p + 1) = lsD (pF m P B L st g) p ++ pF m P B L st g p := rfl
          have hskip : pF m P B L st g p = [] → Ev (d + (Bd + 1) + 50) 106 (fun r S2 => ∃ w2 t2, r = none ∧ S2 = enc w2 t2 ∧ LiO m L (wyP m A L N KY) w0 b N KY M (st, g, ks, ml, el) (st : Int) (s : Int) (ml.length : Int) (el.length : Int) w t w2 t2) 90 [rA 53, (0, (st : Int)), (0, (s : Int)), (0, (ml.length : Int)), (0, (el.length : Int)), (0, ((P st &&& mfG m g : Nat) : Int)), (0, (p : Int) + 1), (9, 0)] [] (enc w1 t1) := fun h7 => by
            rw [show ((p : Int) + 1) = ((p + 1 : Nat) : Int) by omega]
            refine ihk (p + 1) w1 t1 (by omega) c1 c2 ?_ c4
            rw [hnx, h7, List.append_nil]; exact c3
          refine ⟨fun h9 => ?_, fun h9 => ?_⟩
          · exact hskip (by unfold pF; rw [h9, if_neg (by decide)])
          · have h8 : (P st &&& mfG m g).testBit p = true := by cases h7 : (P st &&& mfG m g).testBit p; exact absurd h7 h9; rfl
            have hef : pF m P B L st g p = (L (B st p) (gN g p)).map (fun x => (p :: x.1, x.2)) := by unfold pF; rw [h8, if_pos rfl]
            have h7 := h8
            rw [Nat.testBit_and] at h7
            obtain ⟨h5, h6⟩ := Bool.and_eq_true_iff.mp h7
            obtain ⟨q1, q2⟩ := hBp p (by omega) h5 h6
            refine ⟨fun h6 => ?_, fun _ => ⟨by omega, ?_⟩⟩
            · refine hskip ?_
              rw [hef]
              cases h5 : L (B st p) (gN g p) with
              | nil => rfl
              | cons x xs =>
                exfalso
                have := (hin1 p (by omega) (p :: x.1, x.2) (by rw [hef, h5]; exact List.mem_cons_self)).1
                have : ml.length + (x.1.length + 1) ≤ 13 := this
                omega
            · rw [Int.toNat_natCast]
              have h54 := hi54 w1 ml.length (p : Int) (a := 54) (Or.inl rfl)
              have c1' := c1.hi h54.1 h54.2
              have rg1 := c1'.rg
              refine ⟨⟨⟨st, g, p, hA, rfl, rfl, by omega, h5, h6⟩, c1'.1⟩, ?_⟩
              rintro x1 rfl
              refine ⟨⟨by rw [rg1.2.1, Int.toNat_natCast]; exact rg1, ⟨by omega, by rw [rg1.2.1]; omega⟩, by omega, by omega⟩, ?_⟩
              rintro x2 rfl
              rw [Int.toNat_natCast, Int.toNat_natCast, Int.toNat_natCast]
              refine ⟨(B st p, gN g p, adK M ks ml el (bs ++ lsD (pF m P B L st g) p), ml ++ [p], el), ⟨⟨q1, rfl, c1'.arc hp hr hs hky (by omega) h6, by show μ (B st p) (gN g p) < Bd; omega, by show μ (B st p) (gN g p) ≤ 30; omega, c1'⟩, ⟨c3.cg (fun a h1 h2 => wu_row (by omega)), adK_le _ _ _ _ _⟩, ⟨by show (ml.length : Int) + 1 = ((ml ++ [p]).length : Int); rw [List.length_append]; rfl, rfl, c4.p (by omega)⟩, fun x hx => ?_⟩, ?_⟩
              · have := hin1 p (by omega) (p :: x.1, x.2) (by rw [hef]; exact List.mem_map_of_mem (f := fun x : List Nat × List Nat => (p :: x.1, x.2)) hx)
                show (ml ++ [p]).length + x.1.length ≤ 13 ∧ el.length + x.2.length ≤ 6
                rw [List.length_append]
                have this : ml.length + (x.1.length + 1) ≤ 13 ∧ el.length + x.2.length ≤ 6 := this
                show ml.length + 1 + x.1.length ≤ 13 ∧ el.length + x.2.length ≤ 6
                omega
              · rintro w5 t5 ⟨d1, d2, d3, d4⟩
                rw [show ((p : Int) + 1) = ((p + 1 : Nat) : Int) by omega]
                refine ihk (p + 1) w5 t5 (by omega) d1 (c2.tr (h54.2.tr d2)) ?_ (PaC.bp d4)
                have d3 : KC w5 (adK M (adK M ks ml el (bs ++ lsD (pF m P B L st g) p)) (ml ++ [p]) el (L (B st p) (gN g p))) := d3
                rw [← adK_p, ← hef, adK_app, List.append_assoc, ← hnx] at d3
                exact d3
    -- begin
    have hgo : ∀ (w1 : eW), WCx m (wyP m A L N KY) w0 b N KY w1 t4 → LoL w w1 → KC w1 (adK M ks ml el bs) → PaC w1 ml el → Ev (d + (Bd + 1) + 50) 106 (fun r S2 => ∃ w2 t2, r = none ∧ S2 = enc w2 t2 ∧ LiO m L (wyP m A L N KY) w0 b N KY M (st, g, ks, ml, el) (st : Int) (s : Int) (ml.length : Int) (el.length : Int) w t w2 t2) 71 [rA 53, (0, (st : Int)), (0, (s : Int)), (0, (ml.length : Int)), (0, (el.length : Int)), (9, 0), (9, 0), (9, 0)] [] (enc w1 t4) := fun w1 c1 c2 c3 c4 => by
      have rg1 := c1.rg
      refine g_li2 (m := m) (b := b) (ks := ks) (ml := ml) (el := el) hH2 ⟨⟨⟨st, g, hA, rfl⟩, c1.1⟩, ?_⟩
      rintro x2 rfl
      refine ⟨⟨by rw [rg1.2.1, Int.toNat_natCast]; exact rg1, by omega, by rw [rg1.2.1]; omega⟩, ?_⟩
      rintro x3 rfl
      rw [Int.toNat_natCast, Int.toNat_natCast, c1.2.2.2.2 s, hky, ky_mf, i_and (by omega) (by omega), Int.toNat_natCast, Int.toNat_natCast]
      refine hpr 16 0 w1 t4 (by omega) c1 c2 ?_ c4
      show KC w1 (adK M ks ml el (bs ++ []))
      rw [List.append_nil]; exact c3
    have rg3 := hc3.rg
    have hno : bs = [] → Ev (d + (Bd + 1) + 50) 106 (fun r S2 => ∃ w2 t2, r = none ∧ S2 = enc w2 t2 ∧ LiO m L (wyP m A L N KY) w0 b N KY M (st, g, ks, ml, el) (st : Int) (s : Int) (ml.length : Int) (el.length : Int) w t w2 t2) 71 [rA 53, (0, (st : Int)), (0, (s : Int)), (0, (ml.length : Int)), (0, (el.length : Int)), (9, 0), (9, 0), (9, 0)] [] (enc w3 t4) := fun h9 => hgo w3 hc3 l3 (by rw [h9, adK_nil hkl]; exact k3) p3
    refine g_li1 (m := m) (b := b) (ks := ks) (ml := ml) (el := el) hH1 ⟨⟨⟨st, g, hA, rfl⟩, hc3.1⟩, ?_⟩
    rintro x2 rfl
    rw [Int.toNat_natCast]
    cases hW : W st with
    | false =>
      rw [hW] at eBs
      refine ⟨fun _ => hno (by rw [← eBs]; rfl), fun h9 => absurd (by decide) h9⟩
    | true =>
      rw [hW] at eBs
      refine ⟨fun h9 => absurd h9 (by decide), fun _ => ⟨g, ⟨⟨by rw [rg3.2.1, Int.toNat_natCast]; exact rg3, by omega, by rw [rg3.2.1]; omega⟩, by rw [Int.toNat_natCast, hc3.2.2.2.2 s]; exact hky⟩, ?_⟩⟩
      rintro x3 rfl
      cases hI : isE m (-1) g.1 g.2.1 g.2.2 with
      | false =>
        rw [hI] at eBs
        exact ⟨fun _ => hno (by rw [← eBs]; rfl), fun h9 => absurd (by decide) h9⟩
      | true =>
        rw [hI] at eBs
        have eb : bs = [([], [])] := by rw [← eBs]; rfl
        refine ⟨fun h9 => absurd h9 (by decide), fun _ => ⟨⟨by unfold fxA; decide +kernel, k3, ⟨rfl, ml13, ml13⟩, p3.1.2, Or.inr (by decide)⟩, ?_⟩⟩
        rintro w4 ⟨e1, e2⟩
        have el : (ks ++ [(ml, ([] : List Nat))]).length ≤ 20 := by rw [List.length_append]; show ks.length + 1 ≤ 20; omega
        rw [List.take_of_length_le el] at e1
        have r4 : ∀ a, a ≠ 48 → a ≠ 49 → a ≠ 50 → a ≠ 51 → w4 a = w3 a := fun a h1 h2 h3 h4 => by
          funext i
          exact e2 a i (by simp [h2, h3, h4]) (by simp [h1])
        refine ⟨⟨e1, ⟨rfl, el6⟩, fun k hk => by rw [r4 55 (by decide) (by decide) (by decide) (by decide)]; exact p3.2.2 k hk⟩, ?_⟩
        rintro w5 ⟨e3, e4⟩
        have r5 : ∀ a, a ≠ 50 → a ≠ 52 → w5 a = w4 a := fun a h1 h2 => by
          funext i
          exact e4 a i (by simp [h1, h2]) (by simp)
        have rr : ∀ a, ¬ (48 ≤ a ∧ a ≤ 52) → w5 a = w3 a := fun a h1 => by
          rw [r5 a (by omega) (by omega), r4 a (by omega) (by omega) (by omega) (by omega)]
        have hl5 : LoL w3 w5 := fun a ha => rr a (by omega)
        refine hgo w5 (hc3.hi (fun a ha => rr a (by omega)) hl5) (l3.tr hl5) ?_ (p3.cg (rr 54 (by omega)) (rr 55 (by omega)))
        rw [eb]
        unfold adK
        rw [List.map_cons, List.map_nil, List.append_nil, List.append_nil, List.take_of_length_le (by rw [List.length_append]; show ks.length + 1 ≤ M; omega)]
        exact e3
