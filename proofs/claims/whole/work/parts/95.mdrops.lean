/-! The model: drops, between two calls. -/
theorem dropsM_o {m : eW} {r : Int} {a : Nat} (h : a ≠ 67 ∧ (a < 72 ∨ 76 < a)) : dropsM m r a = m a := by
  unfold dropsM
  split
  · funext k
    unfold dropM
    rw [if_neg (by omega), if_neg (by omega), if_neg (by omega)]
  · rfl
theorem dropsM_f {m : eW} {r : Int} {k : Nat} (h : k ≠ 6) : dropsM m r 67 k = m 67 k := by
  unfold dropsM
  split
  · unfold dropM
    rw [if_neg (by omega), if_neg (by omega), if_neg (by omega)]
  · rfl
theorem n_drops {d : Nat} {m w : eW} {t : eT} {ks : kT} {rl tx : List Int} {a : Int} (h : MI w m ks rl tx) (ha : okI a) : Cl (d + 1) 192 [rA 67, (0, a)] (enc w t) (Ans w (dropsM m a) t ks rl tx (0, dropsV m a)) := (c_mdrops ⟨h.1.1, ha⟩).mono (fun r S2 ⟨w2, e1, e2, f, e3⟩ => by
  obtain ⟨⟨a0, g2, g3⟩, h2, h3, h4, h5, h6, h7⟩ := h
  have nE1 : nE (dropsM m a) = nE m := by
    show (dropsM m a 67 12).toNat = (m 67 12).toNat
    rw [dropsM_f (by decide)]
  have nS1 : nS (dropsM m a) = nS m := by
    show (dropsM m a 67 3).toNat = (m 67 3).toNat
    rw [dropsM_f (by decide)]
  refine ⟨w2, e1, e2, (f.cls (by decide)).1, (f.cls (by decide)).2, ⟨e3, ?_, ?_⟩, ?_, ?_, h4.m f (by decide) (by decide), h5.m f (by decide) (by decide), h6.m f (by decide) (by decide), by rw [f.2 35 (by decide)]; exact h7⟩
  · unfold WFe at *
    rw [nE1, dropsM_f (by decide), dropsM_o (by decide), dropsM_o (by decide), dropsM_o (by decide), dropsM_o (by decide)]
    exact g2
  · unfold MGe at *
    rw [nE1, dropsM_f (by decide), dropsM_o (by decide), dropsM_o (by decide), dropsM_o (by decide), dropsM_o (by decide), f.2 12 (by decide), f.1 77 (by decide) (by decide), f.1 78 (by decide) (by decide), f.1 79 (by decide) (by decide), f.1 80 (by decide) (by decide)]
    exact g3
  · unfold WFs at *
    rw [nS1, dropsM_f (by decide), dropsM_o (by decide), dropsM_o (by decide)]
    exact h2
  · unfold MGs at *
    rw [nS1, dropsM_f (by decide), dropsM_o (by decide), dropsM_o (by decide), f.2 3 (by decide), f.1 70 (by decide) (by decide), f.1 71 (by decide) (by decide)]
    exact h3)

