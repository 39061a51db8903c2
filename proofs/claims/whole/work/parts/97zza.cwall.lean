/-! The class: walkAll. -/

theorem c_wall {d : Nat} {w : eW} {t : eT} {m : eW} {b : Nat × Nat} {W : Nat → Bool} {P : Nat → Nat} {B : Nat → Nat → Nat} {E : Nat → Nat} {I : Nat → Nat → Nat} {A : Nat → t3 → Prop} {μ : Nat → t3 → Nat} {L : Nat → t3 → kT} (hS : WSy m W P B E I A μ L) (hp : WFp m) (hr : WFr m) {kd : Int} (hkd : 2 ≤ kd ∧ kd ≤ 4) {s0 : Nat} (hA : A s0 (16, 16, 16)) (hμ : μ s0 (16, 16, 16) ≤ 30) (hH : ∀ w0 : eW, (∀ a, a < 37 → w0 a = w a) → w0 53 8 = kd → WHy d m W P B E I A w0) (hbd : ∀ x ∈ L s0 (16, 16, 16), x.1.length ≤ 13 ∧ x.2.length ≤ 6) (hLN : LN w m) (hRC : RC w m) (hD : DynQ w t b m) (hb : b.2 + 1 < 1000000000) : Cl (d + 100) 147 [rA 1, (0, kd), (0, (s0 : Int))] (enc w t) (fun r S2 => ∃ w2 t2, r = some (1, ((L s0 (16, 16, 16)).length : Int)) ∧ S2 = enc w2 t2 ∧ (∀ a, a < 37 ∨ (55 < a ∧ a < 102) → w2 a = w a) ∧ DynQ w2 t2 (b.1, b.2 + 1) m ∧ KC w2 ((L s0 (16, 16, 16)).take 20)) := by
  refine g_cwall (m := m) (b := b) (fun γ a1 a2 a3 w t h => (c_wyG (d := d) hS hp hr (b := (b.1, b.2 + 1)) γ a1 a2 a3 w t h).up (by omega)) (fun γ a1 a2 a3 a4 w t h => (c_liG (d := d) hS hp hr (b := (b.1, b.2 + 1)) (M := 20) (by decide) γ a1 a2 a3 a4 w t h).up (by omega)) ⟨⟨⟨hLN, hRC, hp, hr⟩, hD⟩, ?_⟩
  rintro w1 t2 ⟨lo, hD1, h0⟩
  refine ⟨by omega, ?_⟩
  obtain ⟨c1, c2, c3, _⟩ := wc_beg (Pm := wyP m A L (mN w1) (mK w1)) hD1 h0 hb (hi53 w1 kd (if kd = 1 then 1 else 20))
  have lo2 : ∀ a, a < 37 ∨ (47 < a ∧ a < 102) → a ≠ 53 → a ≠ 48 → wu (begW w1 kd) 48 4 0 a = w a := fun a ha h53 h48 => by
    rw [wu_row h48, begW_o (by omega) h53, lo a ha]
  have hHi : Hi (begW w1 kd) (wu (begW w1 kd) 48 4 0) := fun a ha => by rw [wu_row (by omega)]
  have c4 := WCx.base c1 hHi
  generalize hw0 : wu (begW w1 kd) 48 4 0 = w0 at *
  have e8 : w0 53 8 = kd := by rw [← hw0, wu_row (by decide)]; exact (begW_8 (w := w1) (k := kd)).1
  have e9 : w0 53 9 = ((20 : Nat) : Int) := by rw [← hw0, wu_row (by decide), (begW_8 (w := w1) (k := kd)).2, if_neg (by omega)]; rfl
  have kz : KC w0 [] := by rw [← hw0]; exact KC.zero _
  have hW := hH w0 (fun a ha => lo2 a (by omega) (by omega) (by omega)) e8
  refine ⟨(w0, mN w1, mK w1, s0, (16, 16, 16), [], [], []), ⟨hW, e9, ⟨hA, rfl, c2, by show μ s0 (16, 16, 16) < 31; omega, hμ, c4⟩, ⟨kz, Nat.zero_le _⟩, ⟨rfl, rfl, PaC.nil⟩, fun x hx => ?_⟩, ?_⟩
  · have := hbd x hx
    show 0 + x.1.length ≤ 13 ∧ 0 + x.2.length ≤ 6
    omega
  · rintro w4 t5 ⟨d1, d2, d3, d4⟩
    have d3 : KC w4 (adK 20 [] [] [] (L s0 (16, 16, 16))) := d3
    have hk : adK 20 [] [] [] (L s0 (16, 16, 16)) = (L s0 (16, 16, 16)).take 20 := by
      unfold adK
      rw [List.nil_append, show (fun x : List Nat × List Nat => (([] : List Nat) ++ x.1, ([] : List Nat) ++ x.2)) = (fun x => x) from rfl, List.map_id']
    rw [hk] at d3
    refine ⟨(w0, mN w1, mK w1, s0, (16, 16, 16)), ⟨hW, hA, rfl, c2, by show μ s0 (16, 16, 16) < 31; omega, by show (0 : Int) ≤ 0 ∧ (0 : Int) + (μ s0 (16, 16, 16) : Int) ≤ 30; omega, d1⟩, ?_⟩
    rintro x7 w8 t9 ⟨rfl, mr, mc⟩
    refine ⟨w8, t9, rfl, rfl, fun a ha => ?_, mc.1, d3.cg (fun a h1 h2 => mr.2.1 a (by omega))⟩
    rw [mr.2.1 a (by omega), d2 a (by omega), lo2 a (by omega) (by omega) (by omega)]
