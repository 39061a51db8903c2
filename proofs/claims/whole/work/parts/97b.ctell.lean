/-! The class: what a trail tells; how many faults. -/

/-- two rows that cannot be told apart -/
def tE (m : eW) (g h : t3) : Prop := trG m g = trG m h ∧ gL g ≤ 16 ∧ gL h ≤ 16
theorem tE.l {m : eW} (hr : WFr m) {g h : t3} (e : tE m g h) : gL g = gL h ∧ ftB m g.1 g.2.1 g.2.2 = ftB m h.1 h.2.1 h.2.2 ∧ nxB m g.2.1 g.2.2 = nxB m h.2.1 h.2.2 := by
  obtain ⟨e1, e2, e3⟩ := e
  obtain ⟨_, a1, a2, a3⟩ := tr_b (m := m) (a := g.1) (b := g.2.1) hr e2
  obtain ⟨_, b1, b2, b3⟩ := tr_b (m := m) (a := h.1) (b := h.2.1) hr e3
  unfold trG at e1
  unfold gL at *
  refine ⟨by rw [← a1, e1, b1], ?_, ?_⟩
  · have a2' : tr m g.1 g.2.1 g.2.2 / 32 % 256 = ftB m g.1 g.2.1 g.2.2 := a2
    have b2' : tr m h.1 h.2.1 h.2.2 / 32 % 256 = ftB m h.1 h.2.1 h.2.2 := b2
    rw [← a2', e1, b2']
  · have a3' : tr m g.1 g.2.1 g.2.2 / 8192 = nxB m g.2.1 g.2.2 := a3
    have b3' : tr m h.1 h.2.1 h.2.2 / 8192 = nxB m h.2.1 h.2.2 := b3
    rw [← a3', e1, b3']
theorem bts_inj {f g : Nat → Bool} {n i : Nat} (h : bts f n = bts g n) (hi : i < n) : f i = g i := by
  have h1 := bts_tb f n i
  have h2 := bts_tb g n i
  rw [h, h2, decide_eq_true hi] at h1
  simpa using h1.symm
theorem tE.brk {m : eW} (hr : WFr m) {g h : t3} (e : tE m g h) {r p : Nat} (hrl : r < nR m) : brk m r g.1 g.2.1 g.2.2 p = brk m r h.1 h.2.1 h.2.2 p := by
  obtain ⟨e1, e2, _⟩ := e.l hr
  have e1 : g.2.2 = h.2.2 := e1
  have := bts_inj e2 hrl
  rw [brk_t, brk_t, e1]
  rw [e1] at this
  rw [this]
theorem tE.nx {m : eW} (hr : WFr m) {g h : t3} (e : tE m g h) {p : Nat} (hp : p ≤ 16) : tE m (gN g p) (gN h p) := by
  obtain ⟨e1, _, e3⟩ := e.l hr
  have e1 : g.2.2 = h.2.2 := e1
  refine ⟨?_, hp, hp⟩
  show tr m g.2.1 g.2.2 p = tr m h.2.1 h.2.2 p
  have hf : ftB m g.2.1 g.2.2 p = ftB m h.2.1 h.2.2 p := bts_congr (fun r hrl => by
    have := bts_inj e3 hrl
    rw [this])
  unfold tr
  rw [hf, e1]
theorem tE_brs {m : eW} (hr : WFr m) {g h : t3} (e : tE m g h) {p : Nat} (wo : Int) : brs m wo g.1 g.2.1 g.2.2 p = brs m wo h.1 h.2.1 h.2.2 p := by
  unfold brs cb
  exact sm_congr (fun r hrl => by show (if (!decide ((r : Int) = wo) && brk m r g.1 g.2.1 g.2.2 p) = true then 1 else 0) = (if (!decide ((r : Int) = wo) && brk m r h.1 h.2.1 h.2.2 p) = true then 1 else 0); rw [e.brk hr hrl])
theorem tE_cL {m : eW} (hp : WFp m) (hr : WFr m) {lu ll : Nat → Int} {nu nl : Nat} : ∀ (f i j : Nat) (g h : t3), tE m g h → cL m lu nu ll nl f i j g.1 g.2.1 g.2.2 = cL m lu nu ll nl f i j h.1 h.2.1 h.2.2 := by
  intro f
  induction f with
  | zero => intro i j g h _; rfl
  | succ f ih =>
    intro i j g h e
    obtain ⟨e1, _, _⟩ := e.l hr
    have e1 : g.2.2 = h.2.2 := e1
    unfold cL
    rw [tE_brs hr e]
    refine mn_congr (fun d hd => ?_)
    cases upT m lu nu i d with
    | none => rfl
    | some u =>
      cases loT m ll nl j d with
      | none => rfl
      | some l =>
        dsimp only
        have hd16 : d ≤ 16 := by have := hp.n; omega
        have := ih u l _ _ (e.nx hr hd16)
        unfold gN at this
        dsimp only at this
        rw [tE_brs hr e, this, e1]
/-- the fewest faults, as the class tells them -/
def clC (m : eW) (lu : Nat → Int) (nu : Nat) (ll : Nat → Int) (nl i j : Nat) (g : t3) : Nat := min (cl m lu nu ll nl i j g.1 g.2.1 g.2.2) 1000
theorem tE_clC {m : eW} (hp : WFp m) (hr : WFr m) {lu ll : Nat → Int} {nu nl i j : Nat} {g h : t3} (e : tE m g h) : clC m lu nu ll nl i j g = clC m lu nu ll nl i j h := by
  unfold clC cl
  rw [tE_cL hp hr 13 i j g h e]

theorem g_bc {d : Nat} {Q : Option aV → aS → Prop} {w : eW} {t : eT} {x : Int} (h : Q (some (0, iand (((iand (((iand (x - (iand (iushr x 1) 1431655765)) 858993459) + (iand (iushr (x - (iand (iushr x 1) 1431655765)) 2) 858993459)) + (iushr ((iand (x - (iand (iushr x 1) 1431655765)) 858993459) + (iand (iushr (x - (iand (iushr x 1) 1431655765)) 2) 858993459)) 4)) 252645135) + (iushr (iand (((iand (x - (iand (iushr x 1) 1431655765)) 858993459) + (iand (iushr (x - (iand (iushr x 1) 1431655765)) 2) 858993459)) + (iushr ((iand (x - (iand (iushr x 1) 1431655765)) 858993459) + (iand (iushr (x - (iand (iushr x 1) 1431655765)) 2) 858993459)) 4)) 252645135) 8)) + (iushr ((iand (((iand (x - (iand (iushr x 1) 1431655765)) 858993459) + (iand (iushr (x - (iand (iushr x 1) 1431655765)) 2) 858993459)) + (iushr ((iand (x - (iand (iushr x 1) 1431655765)) 858993459) + (iand (iushr (x - (iand (iushr x 1) 1431655765)) 2) 858993459)) 4)) 252645135) + (iushr (iand (((iand (x - (iand (iushr x 1) 1431655765)) 858993459) + (iand (iushr (x - (iand (iushr x 1) 1431655765)) 2) 858993459)) + (iushr ((iand (x - (iand (iushr x 1) 1431655765)) 858993459) + (iand (iushr (x - (iand (iushr x 1) 1431655765)) 2) 858993459)) 4)) 252645135) 8)) 16)) 63)) (enc w t)) : Cl (d) 267 [(0, x)] (enc w t) Q := by
  show Ev (d) 267 Q 0 [(0, x)] [] (enc w t)
  refine e_ldi (show am_cd 267 0 = (2, 1, 0, 0, []) by decide +kernel) rfl ?_
  refine e_ldi (show am_cd 267 1 = (2, 2, 0, 0, []) by decide +kernel) rfl ?_
  refine e_ic (show am_cd 267 2 = (0, 3, 0, 1, []) by decide +kernel) ?_
  refine e_iushr (show am_cd 267 3 = (5, 4, 8, 0, []) by decide +kernel) ?_
  refine e_ic (show am_cd 267 4 = (0, 7, 4, 1431655765, [265]) by decide +kernel) ?_
  refine e_iand (show am_cd 267 7 = (5, 8, 3, 0, []) by decide +kernel) ?_
  refine e_isub (show am_cd 267 8 = (5, 9, 1, 0, []) by decide +kernel) ?_
  refine e_sti (la2 := [(0, x - (iand (iushr x 1) 1431655765))]) (show am_cd 267 9 = (3, 10, 0, 0, []) by decide +kernel) rfl ?_
  refine e_ldi (show am_cd 267 10 = (2, 11, 0, 0, []) by decide +kernel) rfl ?_
  refine e_ic (show am_cd 267 11 = (0, 14, 4, 858993459, [266]) by decide +kernel) ?_
  refine e_iand (show am_cd 267 14 = (5, 15, 3, 0, []) by decide +kernel) ?_
  refine e_ldi (show am_cd 267 15 = (2, 16, 0, 0, []) by decide +kernel) rfl ?_
  refine e_ic (show am_cd 267 16 = (0, 17, 0, 2, []) by decide +kernel) ?_
  refine e_iushr (show am_cd 267 17 = (5, 18, 8, 0, []) by decide +kernel) ?_
  refine e_ic (show am_cd 267 18 = (0, 21, 4, 858993459, [266]) by decide +kernel) ?_
  refine e_iand (show am_cd 267 21 = (5, 22, 3, 0, []) by decide +kernel) ?_
  refine e_iadd (show am_cd 267 22 = (5, 23, 0, 0, []) by decide +kernel) ?_
  refine e_sti (la2 := [(0, (iand (x - (iand (iushr x 1) 1431655765)) 858993459) + (iand (iushr (x - (iand (iushr x 1) 1431655765)) 2) 858993459))]) (show am_cd 267 23 = (3, 24, 0, 0, []) by decide +kernel) rfl ?_
  refine e_ldi (show am_cd 267 24 = (2, 25, 0, 0, []) by decide +kernel) rfl ?_
  refine e_ldi (show am_cd 267 25 = (2, 26, 0, 0, []) by decide +kernel) rfl ?_
  refine e_ic (show am_cd 267 26 = (0, 27, 0, 4, []) by decide +kernel) ?_
  refine e_iushr (show am_cd 267 27 = (5, 28, 8, 0, []) by decide +kernel) ?_
  refine e_iadd (show am_cd 267 28 = (5, 29, 0, 0, []) by decide +kernel) ?_
  refine e_ic (show am_cd 267 29 = (0, 32, 4, 252645135, [267]) by decide +kernel) ?_
  refine e_iand (show am_cd 267 32 = (5, 33, 3, 0, []) by decide +kernel) ?_
  refine e_sti (la2 := [(0, iand (((iand (x - (iand (iushr x 1) 1431655765)) 858993459) + (iand (iushr (x - (iand (iushr x 1) 1431655765)) 2) 858993459)) + (iushr ((iand (x - (iand (iushr x 1) 1431655765)) 858993459) + (iand (iushr (x - (iand (iushr x 1) 1431655765)) 2) 858993459)) 4)) 252645135)]) (show am_cd 267 33 = (3, 34, 0, 0, []) by decide +kernel) rfl ?_
  refine e_ldi (show am_cd 267 34 = (2, 35, 0, 0, []) by decide +kernel) rfl ?_
  refine e_ldi (show am_cd 267 35 = (2, 36, 0, 0, []) by decide +kernel) rfl ?_
  refine e_ic (show am_cd 267 36 = (0, 38, 1, 8, []) by decide +kernel) ?_
  refine e_iushr (show am_cd 267 38 = (5, 39, 8, 0, []) by decide +kernel) ?_
  refine e_iadd (show am_cd 267 39 = (5, 40, 0, 0, []) by decide +kernel) ?_
  refine e_sti (la2 := [(0, (iand (((iand (x - (iand (iushr x 1) 1431655765)) 858993459) + (iand (iushr (x - (iand (iushr x 1) 1431655765)) 2) 858993459)) + (iushr ((iand (x - (iand (iushr x 1) 1431655765)) 858993459) + (iand (iushr (x - (iand (iushr x 1) 1431655765)) 2) 858993459)) 4)) 252645135) + (iushr (iand (((iand (x - (iand (iushr x 1) 1431655765)) 858993459) + (iand (iushr (x - (iand (iushr x 1) 1431655765)) 2) 858993459)) + (iushr ((iand (x - (iand (iushr x 1) 1431655765)) 858993459) + (iand (iushr (x - (iand (iushr x 1) 1431655765)) 2) 858993459)) 4)) 252645135) 8))]) (show am_cd 267 40 = (3, 41, 0, 0, []) by decide +kernel) rfl ?_
  refine e_ldi (show am_cd 267 41 = (2, 42, 0, 0, []) by decide +kernel) rfl ?_
  refine e_ldi (show am_cd 267 42 = (2, 43, 0, 0, []) by decide +kernel) rfl ?_
  refine e_ic (show am_cd 267 43 = (0, 45, 1, 16, []) by decide +kernel) ?_
  refine e_iushr (show am_cd 267 45 = (5, 46, 8, 0, []) by decide +kernel) ?_
  refine e_iadd (show am_cd 267 46 = (5, 47, 0, 0, []) by decide +kernel) ?_
  refine e_sti (la2 := [(0, ((iand (((iand (x - (iand (iushr x 1) 1431655765)) 858993459) + (iand (iushr (x - (iand (iushr x 1) 1431655765)) 2) 858993459)) + (iushr ((iand (x - (iand (iushr x 1) 1431655765)) 858993459) + (iand (iushr (x - (iand (iushr x 1) 1431655765)) 2) 858993459)) 4)) 252645135) + (iushr (iand (((iand (x - (iand (iushr x 1) 1431655765)) 858993459) + (iand (iushr (x - (iand (iushr x 1) 1431655765)) 2) 858993459)) + (iushr ((iand (x - (iand (iushr x 1) 1431655765)) 858993459) + (iand (iushr (x - (iand (iushr x 1) 1431655765)) 2) 858993459)) 4)) 252645135) 8)) + (iushr ((iand (((iand (x - (iand (iushr x 1) 1431655765)) 858993459) + (iand (iushr (x - (iand (iushr x 1) 1431655765)) 2) 858993459)) + (iushr ((iand (x - (iand (iushr x 1) 1431655765)) 858993459) + (iand (iushr (x - (iand (iushr x 1) 1431655765)) 2) 858993459)) 4)) 252645135) + (iushr (iand (((iand (x - (iand (iushr x 1) 1431655765)) 858993459) + (iand (iushr (x - (iand (iushr x 1) 1431655765)) 2) 858993459)) + (iushr ((iand (x - (iand (iushr x 1) 1431655765)) 858993459) + (iand (iushr (x - (iand (iushr x 1) 1431655765)) 2) 858993459)) 4)) 252645135) 8)) 16))]) (show am_cd 267 47 = (3, 48, 0, 0, []) by decide +kernel) rfl ?_
  refine e_ldi (show am_cd 267 48 = (2, 49, 0, 0, []) by decide +kernel) rfl ?_
  refine e_ic (show am_cd 267 49 = (0, 51, 1, 63, []) by decide +kernel) ?_
  refine e_iand (show am_cd 267 51 = (5, 52, 3, 0, []) by decide +kernel) ?_
  exact e_reti (show am_cd 267 52 = (36, 53, 0, 0, []) by decide +kernel) (by decide +kernel) h

theorem c_bc {d : Nat} {w : eW} {t : eT} {x : Nat} (h : x < 256) : Cl d 267 [(0, (x : Int))] (enc w t) (fun r S2 => r = some (0, ((cb (fun i => x.testBit i) 8 : Nat) : Int)) ∧ S2 = enc w t) := by
  refine g_bc ⟨?_, rfl⟩
  have key : ∀ y : Fin 256, (fun x : Int => iand (((iand (((iand (x - (iand (iushr x 1) 1431655765)) 858993459) + (iand (iushr (x - (iand (iushr x 1) 1431655765)) 2) 858993459)) + (iushr ((iand (x - (iand (iushr x 1) 1431655765)) 858993459) + (iand (iushr (x - (iand (iushr x 1) 1431655765)) 2) 858993459)) 4)) 252645135) + (iushr (iand (((iand (x - (iand (iushr x 1) 1431655765)) 858993459) + (iand (iushr (x - (iand (iushr x 1) 1431655765)) 2) 858993459)) + (iushr ((iand (x - (iand (iushr x 1) 1431655765)) 858993459) + (iand (iushr (x - (iand (iushr x 1) 1431655765)) 2) 858993459)) 4)) 252645135) 8)) + (iushr ((iand (((iand (x - (iand (iushr x 1) 1431655765)) 858993459) + (iand (iushr (x - (iand (iushr x 1) 1431655765)) 2) 858993459)) + (iushr ((iand (x - (iand (iushr x 1) 1431655765)) 858993459) + (iand (iushr (x - (iand (iushr x 1) 1431655765)) 2) 858993459)) 4)) 252645135) + (iushr (iand (((iand (x - (iand (iushr x 1) 1431655765)) 858993459) + (iand (iushr (x - (iand (iushr x 1) 1431655765)) 2) 858993459)) + (iushr ((iand (x - (iand (iushr x 1) 1431655765)) 858993459) + (iand (iushr (x - (iand (iushr x 1) 1431655765)) 2) 858993459)) 4)) 252645135) 8)) 16)) 63) ((y.val : Nat) : Int) = ((cb (fun i => y.val.testBit i) 8 : Nat) : Int) := by decide +kernel
  have := key ⟨x, h⟩
  dsimp only at this
  rw [this]
theorem bc_bts {f : Nat → Bool} {n : Nat} (hn : n ≤ 8) : cb (fun i => (bts f n).testBit i) 8 = cb f n := by
  unfold cb
  rw [sm_ext (n := n) hn (fun i h1 h2 => by show (if (bts f n).testBit i = true then 1 else 0) = 0; rw [bts_tb, decide_eq_false (by omega)]; rfl)]
  exact sm_congr (fun i hi => by show (if (bts f n).testBit i = true then 1 else 0) = _; rw [bts_tb, decide_eq_true hi]; rfl)

theorem c_bcU {d : Nat} {w : eW} {t : eT} {x : Int} (h : (0 : Int) ≤ x ∧ (x : Int) < 256) : Cl d 267 [(0, x)] (enc w t) (fun r S2 => ∃ y, r = some (0, y) ∧ S2 = enc w t ∧ y = ((cb (fun i => (x : Int).toNat.testBit i) 8 : Nat) : Int)) := by
  have := c_bc (d := d) (w := w) (t := t) (x := x.toNat) (by omega)
  rw [show ((x.toNat : Nat) : Int) = x by omega] at this
  exact this.mono (fun r S2 hq => ⟨_, hq.1, hq.2, rfl⟩)

theorem g_nf {d : Nat} {Q : Option aV → aS → Prop} {w : eW} {t : eT} {x p : Int} {m : eW} {b : Nat × Nat} {P : Int → Int → Prop} (h : ∃ g1, (LN w m ∧ WFp m ∧ WFr m ∧ x = ((trG m g1 : Nat) : Int) ∧ gL g1 ≤ 16 ∧ (0 : Int) ≤ p ∧ (p : Int) ≤ 16) ∧ (∀ x2, (x2 = ((brG m g1 p.toNat : Nat) : Int)) → ((0 : Int) ≤ x2 ∧ (x2 : Int) < 256) ∧ (∀ x3, (x3 = ((cb (fun i => (x2 : Int).toNat.testBit i) 8 : Nat) : Int)) → Q (some (0, x3)) (enc w t)))) : Cl (d + 2) 54 [rA 56, (0, x), (0, p)] (enc w t) Q := by
  show Ev (d + 2) 54 Q 0 [rA 56, (0, x), (0, p)] [] (enc w t)
  refine e_lda (v := 56) (show am_cd 54 0 = (2, 1, 0, 2, []) by decide +kernel) rfl ?_
  refine e_getr (a := 56) (r := 15) (show am_cd 54 1 = (18, 4, 602, 2, [23]) by decide +kernel) (by decide +kernel) (by decide +kernel) rfl ?_
  refine e_ldi (show am_cd 54 4 = (2, 5, 1, 0, []) by decide +kernel) rfl ?_
  refine e_ldi (show am_cd 54 5 = (2, 6, 2, 0, []) by decide +kernel) rfl ?_
  refine e_cV (z := 0) (a := 15) (as := [(0, x), (0, p)]) (rest := []) (show am_cd 54 6 = (40, 9, 75, 0, [95]) by decide +kernel) (by decide +kernel) rfl rfl (Nat.le_of_ble_eq_true rfl) rfl ?_
  obtain ⟨g1, h⟩ := h
  refine Cl.mono (Cl.up (c_rbrokenU (d := d) g1 h.1) (by omega)) ?_
  rintro _ _ ⟨x2, rfl, rfl, hp⟩
  refine ⟨fun _ h9 => (by cases h9), ?_⟩
  replace h := h.2 x2 hp
  show Ev _ 54 _ 9 [rA 56, (0, x), (0, p)] [(0, x2)] _
  refine e_cS (z := 0) (as := [(0, x2)]) (rest := []) (show am_cd 54 9 = (40, 12, 267, 1, [98]) by decide +kernel) (by decide) rfl rfl (Nat.le_of_ble_eq_true rfl) rfl ?_
  refine Cl.mono (Cl.up (c_bcU (d := d) h.1) (by omega)) ?_
  rintro _ _ ⟨x3, rfl, rfl, hp⟩
  refine ⟨fun _ h9 => (by cases h9), ?_⟩
  replace h := h.2 x3 hp
  show Ev _ 54 _ 12 [rA 56, (0, x), (0, p)] [(0, x3)] _
  exact e_reti (show am_cd 54 12 = (36, 13, 0, 0, []) by decide +kernel) (by decide +kernel) h

theorem c_nf {d : Nat} {w m : eW} {t : eT} {x p : Int} (g : t3) (h : LN w m ∧ WFp m ∧ WFr m ∧ x = ((trG m g : Nat) : Int) ∧ gL g ≤ 16 ∧ (0 : Int) ≤ p ∧ (p : Int) ≤ 16) : Cl (d + 2) 54 [rA 56, (0, x), (0, p)] (enc w t) (fun r S2 => ∃ y, r = some (0, y) ∧ S2 = enc w t ∧ y = ((brs m (-1) g.1 g.2.1 g.2.2 p.toNat : Nat) : Int)) := by
  have hr := h.2.2.1
  refine g_nf (m := m) (b := (0, 0)) (P := fun _ _ => True) ⟨g, h, fun x2 hx2 => ?_⟩
  have h8 : brG m g p.toNat < 256 := bts8 _ hr
  refine ⟨by rw [hx2]; omega, fun x3 hx3 => ⟨x3, rfl, rfl, ?_⟩⟩
  rw [hx3, hx2, Int.toNat_natCast]
  unfold brG
  rw [bc_bts hr.n.2]
  unfold brs
  congr 2

