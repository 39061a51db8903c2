/-! The law: what holds between two calls of it. -/

theorem MI.fr {w w2 m : eW} {ks : kT} {rl tx : List Int} (h : MI w m ks rl tx) (e : ∀ a, 67 ≤ a → a < 100 → w2 a = w a) : MI w2 m ks rl tx := by
  unfold MI MX MG MGp MGr MGe MGs KM RowM TxM at *
  rw [e 67 (by omega) (by omega), e 68 (by omega) (by omega), e 69 (by omega) (by omega), e 70 (by omega) (by omega), e 71 (by omega) (by omega), e 72 (by omega) (by omega), e 73 (by omega) (by omega), e 74 (by omega) (by omega), e 75 (by omega) (by omega), e 76 (by omega) (by omega), e 77 (by omega) (by omega), e 78 (by omega) (by omega), e 79 (by omega) (by omega), e 80 (by omega) (by omega), e 81 (by omega) (by omega), e 82 (by omega) (by omega), e 83 (by omega) (by omega), e 84 (by omega) (by omega), e 85 (by omega) (by omega), e 86 (by omega) (by omega)]
  exact h
theorem CI.fr {w w2 m : eW} {t : eT} {b : Nat × Nat} {ks : kT} {rl tx : List Int} (h : CI w t b m ks rl tx) (e : ∀ a, a < 67 → w2 a = w a) (e2 : ∀ a, 102 ≤ a → w2 a = w a) : CI w2 t b m ks rl tx := by
  obtain ⟨⟨⟨h1, h2⟩, h3, h4⟩, ⟨h5, h6⟩, ⟨h7, h8⟩, h9, h10, h11⟩ := h
  refine ⟨⟨⟨?_, by rw [e 2 (by omega)]; exact h2⟩, h3.lo9 (fun a _ _ => e a (by omega)), ?_⟩, ⟨?_, ?_⟩, ⟨?_, ?_⟩, h9.cg (fun a _ _ => e a (by omega)), ?_, ?_⟩
  · unfold TC TI at *; rw [e 2 (by omega), e 3 (by omega)]; exact h1
  · unfold SC at *; rw [e 8 (by omega), e 13 (by omega), e 14 (by omega)]; exact h4
  · unfold RC at *; rw [e 15 (by omega), e 16 (by omega), e 17 (by omega), e 18 (by omega), e 19 (by omega), e 20 (by omega), e 21 (by omega), e 22 (by omega)]; exact h5
  · unfold LN at *; rw [e 15 (by omega), e 23 (by omega), e 24 (by omega), e 25 (by omega), e 26 (by omega), e 27 (by omega)]; exact h6
  · unfold XC at *; rw [e 28 (by omega), e 29 (by omega), e 30 (by omega), e 31 (by omega), e 32 (by omega)]; exact h7
  · unfold ShC ZC at *; rw [e 34 (by omega), e 35 (by omega), e 36 (by omega)]; exact h8
  · unfold TlC at *; rw [e 1 (by omega), e 66 (by omega)]; exact h10
  · exact DynP_Q.mpr ((DynP_Q.mp h11).hi (fun a ha => by
      rcases ha with ha | ha
      · exact e a (by omega)
      · exact e2 a ha))
theorem MI.wf {w m : eW} {ks : kT} {rl tx : List Int} (h : MI w m ks rl tx) : WFp m ∧ WFr m ∧ WFs m ∧ WFe m := ⟨h.1.1.1, h.1.1.2.1, h.2.1, h.1.2.1⟩
/-- the law between two rounds, j of them done -/
def LI (L : Nat) (xs : Nat → Int32) (w : eW) (t : eT) (j : Nat) (m : eW) (ks : kT) (rl tx : List Int) : Prop := ((∀ k, w 0 k = (xs k).toInt) ∧ t.1 0 = (23, L)) ∧ CI w t (1063745, j) m ks rl tx ∧ MI w m ks rl tx ∧ KB (nP m) ks
theorem LI.ok {L : Nat} {xs : Nat → Int32} {w : eW} {t : eT} {j : Nat} {m : eW} {ks : kT} {rl tx : List Int} (h : LI L xs w t j m ks rl tx) (k : Nat) : okI (w 0 k) := by
  rw [h.1.1 k]
  exact ⟨Int32.le_toInt _, by have := Int32.toInt_lt (xs k); omega⟩
/-- what the class has left, and the model -/
theorem LI.cls {L : Nat} {xs : Nat → Int32} {w w2 : eW} {t t2 : eT} {j : Nat} {m : eW} {ks : kT} {rl tx : List Int} (h : LI L xs w t j m ks rl tx) (h67 : ∀ a, 67 ≤ a → a < 101 → w2 a = w a) (r0 : R0 (enc w t) (enc w2 t2)) : ((∀ k, w2 0 k = (xs k).toInt) ∧ t2.1 0 = (23, L)) ∧ w2 0 = w 0 ∧ MI w2 m ks rl tx := by
  obtain ⟨e1, e2⟩ := r0.enc
  exact ⟨⟨fun k => by rw [e1]; exact h.1.1 k, by rw [e2]; exact h.1.2⟩, e1, h.2.2.1.fr (fun a h1 h2 => h67 a h1 (by omega))⟩
theorem LI.mdl {L : Nat} {xs : Nat → Int32} {w2 w3 : eW} {t2 : eT} {j : Nat} {m2 : eW} {ks2 : kT} {rl2 tx2 : List Int} (hs : (∀ k, w2 0 k = (xs k).toInt) ∧ t2.1 0 = (23, L)) (hC : CI w2 t2 (1063745, j) m2 ks2 rl2 tx2) (e1 : ∀ a, a < 67 → w3 a = w2 a) (e2 : ∀ a, 100 ≤ a → w3 a = w2 a) (hM : MI w3 m2 ks2 rl2 tx2) (hK : KB (nP m2) ks2) : LI L xs w3 t2 j m2 ks2 rl2 tx2 := ⟨⟨fun k => by rw [e1 0 (by omega)]; exact hs.1 k, hs.2⟩, hC.fr e1 (fun a ha => e2 a (by omega)), hM, hK⟩
theorem nP_names (tx : List Int) (m : eW) : nP (namesM tx m) = nP m := by
  unfold namesM
  split
  · rfl
  · split
    · split
      · rfl
      · unfold nP
        rw [wu_nk _ _ (by decide), wu_na _ _ (by decide), wu_na _ _ (by decide)]
    · rfl
theorem nP_drops (m : eW) (a : Int) : nP (dropsM m a) = nP m := by
  unfold nP
  rw [dropsM_f (by decide)]
