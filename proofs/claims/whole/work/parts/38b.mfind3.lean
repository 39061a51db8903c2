/-! The model: how many readings, closed. -/
theorem c_withinB {d : Nat} {m : eW} {ll : Nat → Int} {nl : Nat} : ∀ (B : Nat) (e dn al j a b c : Int) (w : eW) (t : eT), FWR m ll nl B e dn al j a b c w t → Cl (d + 3 * B + 5) 241 [rA 67, (0, e), (0, dn), (0, al), (0, j), (0, a), (0, b), (0, c)] (enc w t) (fun r S2 => ∃ x w2 t2, r = some (1, x) ∧ S2 = enc w2 t2 ∧ FWO m ll nl e dn al j a b c w t x w2 t2) := by
  intro B
  induction B with
  | zero => intro e dn al j a b c w t h; exact absurd h.2.2.2.2.2.2.2 (Nat.not_lt_zero _)
  | succ B ih => exact fun e dn al j a b c w t h => within_of (d := d + 3 * B) (behind_of ih) e dn al j a b c w t h
theorem c_behindB {d : Nat} {m : eW} {ll : Nat → Int} {nl : Nat} : ∀ (e dn al j a b c : Int) (w : eW) (t : eT), FBR m ll nl 19 e dn al j a b c w t → Cl (d + 64) 243 [rA 67, (0, e), (0, dn), (0, al), (0, j), (0, a), (0, b), (0, c)] (enc w t) (fun r S2 => ∃ x w2 t2, r = some (1, x) ∧ S2 = enc w2 t2 ∧ FBO m ll nl e dn al j a b c w t x w2 t2) := behind_of (d := d + 57) (c_withinB (d := d) 19)
theorem c_nextB {d : Nat} {m : eW} {ll : Nat → Int} {nl : Nat} : ∀ (g al j a b c : Int) (w : eW) (t : eT), FNR m ll nl 19 g al j a b c w t → Cl (d + 63) 245 [rA 67, (0, g), (0, al), (0, j), (0, a), (0, b), (0, c)] (enc w t) (fun r S2 => ∃ x w2 t2, r = some (1, x) ∧ S2 = enc w2 t2 ∧ FNO m ll nl g al j a b c w t x w2 t2) := next_of (d := d + 57) (c_withinB (d := d) 19)

