/-! The law: the start. -/

set_option maxRecDepth 50000 in
theorem st_rows (F : Nat → Nat → Int) : (∀ k, nFL F 3 k = 0) ∧ (∀ k, nFL F 11 k = 0) ∧ (∀ k, nFL F 12 k = 0) ∧ (∀ k, nFL F 46 k = 0) ∧ (∀ k, nFL F 0 k = F 0 k) := ⟨fun _ => rfl, fun _ => rfl, fun _ => rfl, fun _ => rfl, fun _ => rfl⟩
set_option maxRecDepth 50000 in
theorem st_flds (F : Nat → Nat → Int) : nFL F 2 5 = 0 ∧ nFL F 2 6 = 0 ∧ nFL F 8 6 = 0 ∧ nFL F 8 7 = 0 ∧ nFL F 8 8 = 0 ∧ nFL F 15 12 = 0 ∧ nFL F 28 8 = 0 ∧ nFL F 48 4 = 0 ∧ nFL F 1 14 = 0 ∧ nFL F 37 8 = 1 ∧ nFL F 45 2 = 1 ∧ nFL F 45 3 = 0 := ⟨rfl, rfl, rfl, rfl, rfl, rfl, rfl, rfl, rfl, rfl, rfl, rfl⟩
set_option maxRecDepth 50000 in
theorem st_mods (F : Nat → Nat → Int) : nFL F 67 0 = 0 ∧ nFL F 67 3 = 0 ∧ nFL F 67 6 = 0 ∧ nFL F 67 12 = 0 ∧ nFL F 67 17 = 0 ∧ nFL F 67 23 = 0 ∧ nFL F 67 25 = 0 ∧ nFL F 67 35 = -1 := ⟨rfl, rfl, rfl, rfl, rfl, rfl, rfl, rfl⟩
set_option maxRecDepth 50000 in
theorem st_lrn (F : Nat → Nat → Int) : (nFL F 15 16 = 0 ∧ nFL F 15 17 = 0) ∧ (∀ k, nFL F 23 k = 0) ∧ (∀ k, nFL F 24 k = 0) ∧ (∀ k, nFL F 25 k = 0) ∧ (∀ k, nFL F 26 k = 0) ∧ (∀ k, nFL F 27 k = 0) := ⟨⟨rfl, rfl⟩, fun _ => rfl, fun _ => rfl, fun _ => rfl, fun _ => rfl, fun _ => rfl⟩
set_option maxRecDepth 50000 in
theorem st_sh (F : Nat → Nat → Int) : nFL F 36 0 = 1000 ∧ nFL F 36 1 = 1000 ∧ nFL F 36 2 = 1000 ∧ nFL F 36 3 = 1000 := ⟨rfl, rfl, rfl, rfl⟩
set_option maxRecDepth 50000 in
theorem st_dyn (F : Nat → Nat → Int) : (nFL F 37 1 = 39 ∧ nFL F 37 2 = 40 ∧ nFL F 37 3 = 41 ∧ nFL F 37 4 = 42 ∧ nFL F 37 5 = 43 ∧ nFL F 37 6 = 44) ∧ nFL F 45 0 = 46 ∧ nFL F 45 1 = 47 := ⟨⟨rfl, rfl, rfl, rfl, rfl, rfl⟩, rfl, rfl⟩
set_option maxRecDepth 50000 in
theorem st_zero (F : Nat → Nat → Int) : (∀ k, nFL F 34 k = 0) ∧ ∀ k, nFL F 35 k = 0 := ⟨fun _ => rfl, fun _ => rfl⟩
set_option maxRecDepth 50000 in
theorem st_k0 (K : Nat → Nat × Nat) : nKL K 0 = K 0 := rfl
