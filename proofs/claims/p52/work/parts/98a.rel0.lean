/-! ===== what holds of the store at the start ===== -/
theorem nI0s : (0 : Int32) = nI 0 := nI_0.symm
theorem st0_St : ∃ R, StX R S0 := ⟨(0, fun _ => 0, fun _ => 0, fun _ => 0, fun _ => 0), nI0s, Nat.zero_le _, fun j h => absurd h (Nat.not_lt_zero j), fun c _ _ => nI0s⟩
theorem st0_R3 : RwS 3 6 60 S0 := ⟨rfl, fun r _ => Or.inl rfl⟩
theorem st0_R6 : RwS 6 4 100 S0 := ⟨rfl, fun r _ => Or.inl rfl⟩
theorem by0s : -128 ≤ (0 : Int32).toInt ∧ (0 : Int32).toInt ≤ 127 := by decide +kernel
theorem st0_By : ByX S0 := fun j _ => by0s
