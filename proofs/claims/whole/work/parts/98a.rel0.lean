/-! ===== at the start the class stands to the reference ===== -/
def islS : Isl := (0, 0, 0, 0, fun _ => 0, fun _ => 0, fun _ => 0, fun _ _ => 0)
theorem nI0s : (0 : Int32) = nI 0 := nI_0.symm
theorem rel0_GI : GI islS S0 := by
  refine ⟨⟨by decide, by decide, by decide, by decide, fun t h => absurd h (Nat.not_lt_zero t), fun b h => absurd h (Nat.not_lt_zero b), fun h => absurd h (by decide), fun t h => absurd h (Nat.not_lt_zero t), fun w h => absurd h (Nat.not_lt_zero w)⟩, ⟨nI0s, nI0s, nI0s, nI0s, fun t h => absurd h (Nat.not_lt_zero t), fun b h => absurd h (Nat.not_lt_zero b), fun w h => absurd h (Nat.not_lt_zero w)⟩, ⟨fun h _ => nI0s, fun s _ => nI0s⟩, ⟨nI0s, nI0s, nI0s, nI0s, fun t h => absurd h (Nat.not_lt_zero t), fun b h => absurd h (Nat.not_lt_zero b), fun v h => absurd h (Nat.not_lt_zero v)⟩⟩
theorem rel0_GP : GP islS 3 0 (fun _ _ => 0) (fun _ => 0) (fun _ => 0) S0 := by
  refine ⟨⟨⟨by decide, by decide⟩, fun i _ => ⟨fun t h => absurd h (Nat.not_lt_zero t), fun b h => absurd h (Nat.not_lt_zero b), fun p h => absurd h (Nat.not_lt_zero p)⟩, by decide, ?_⟩, ⟨⟨fun t h => absurd h (Nat.not_lt_zero t), fun p _ => nI0s, fun p _ => nI0s, fun b _ => nI0s⟩, rfl, nI0s, fun i h => absurd h (Nat.not_lt_zero i), fun i h => absurd h (Nat.not_lt_zero i)⟩, fun t h => absurd h (Nat.not_lt_zero t), rfl, nI0s, fun i h => absurd h (Nat.not_lt_zero i), fun i h => absurd h (Nat.not_lt_zero i)⟩
  exact fun i h => absurd h (Nat.not_lt_zero i)
theorem rel0_GN : GN islS 0 (fun _ => 0) (fun _ => 0) S0 := ⟨by decide, ⟨nI0s, fun i h => absurd h (Nat.not_lt_zero i)⟩, nI0s, fun i h => absurd h (Nat.not_lt_zero i)⟩
theorem rel0_GK : GK islS (fun _ => 0) (fun _ => 0) S0 := ⟨fun k _ => ⟨nI0s, Nat.zero_le _, fun h => absurd rfl h⟩, fun k _ => ⟨rfl, fun h => absurd rfl h⟩⟩
theorem rel0_Sr : SrX islS S0 := ⟨⟨(0, fun _ => 0, fun _ => 0, fun _ => 0, fun _ => 0), nI0s, Nat.zero_le _, fun j h => absurd h (Nat.not_lt_zero j), fun c _ _ => nI0s⟩, Or.inl nI0s⟩
theorem rel0_Td : TdR S0 := ⟨rfl, rfl, rfl, rfl, fun f _ => rfl⟩
theorem tn_m1 : tn (-1) = 0 := by decide +kernel
theorem rel0_Rw : RwR S0 := ⟨⟨rfl, fun r _ => Or.inl rfl⟩, fun r _ => rfl, fun r _ i h => by
  have h1 : i < tn (-1) := h
  rw [tn_m1] at h1
  exact absurd h1 (Nat.not_lt_zero i)⟩
theorem by0s : -128 ≤ (0 : Int32).toInt ∧ (0 : Int32).toInt ≤ 127 := by decide +kernel
theorem rel0_Tx : TxR S0 := ⟨⟨rfl, fun r _ => Or.inl rfl⟩, fun r _ => rfl, fun r _ i h => by
  have h1 : i < tn (-1) := h
  rw [tn_m1] at h1
  exact absurd h1 (Nat.not_lt_zero i), fun j _ => by0s, fun j _ => by0s⟩
theorem relS : Rel S0 := ⟨islS, 3, 0, 0, _, _, _, _, _, _, _, rel0_GI, rel0_GP, rel0_GN, rel0_GK, rel0_Sr, rel0_Td, rel0_Rw, rel0_Tx⟩
