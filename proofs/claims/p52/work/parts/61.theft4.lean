/-! ===== theft, thefts: the reference ===== -/

/-- but for what a theft's search of the reference writes -/
def FrT (S S' : St) : Prop := S'.2 = S.2 ∧ ∀ a b, ¬ (a = 97 ∨ a = 102 ∨ a = 103) → ¬ (a = 83 ∧ (b = 36 ∨ b = 41)) → S'.1 a b = S.1 a b
theorem FrT.trans {S S1 S2 : St} (h : FrT S S1) (h' : FrT S1 S2) : FrT S S2 := ⟨h'.1.trans h.1, fun a b h1 h2 => (h'.2 a b h1 h2).trans (h.2 a b h1 h2)⟩
theorem FrT.of {S S1 : St} (h : FrL S S1) : FrT S S1 := ⟨h.1, fun a b h1 h2 => h.2 a b h1 (fun q => h2 ⟨q.1, Or.inl q.2⟩)⟩
theorem FrT.g {S S1 : St} (h : FrG S S1) : FrT S S1 := ⟨h.1, fun a b h1 h2 => h.2 a b (fun q => h1 (Or.inl q)) (fun q => h2 ⟨q.1, Or.inr q.2⟩)⟩
theorem IsM.ft {I : Isl} {S S' : St} (h : IsM I S) (hf : FrT S S') : IsM I S' := h.keep (fun j hj => hf.2 83 j (by decide) (by intro q; rcases q.2 with e | e <;> rw [e] at hj <;> revert hj <;> decide)) (fun a ha b => hf.2 a b (by intro e; rcases e with rfl | rfl | rfl <;> revert ha <;> decide) (by intro e; rw [e.1] at ha; revert ha; decide))
theorem QuX.fg {I : Isl} {R : Rs} {S S' : St} (h : QuX I R S) (f : FrG S S') : QuX I R S' := h.keep (fun b => ⟨f.2 102 b (by decide) (by omega), f.2 103 b (by decide) (by omega)⟩) (f.2 83 36 (by decide) (by decide))
theorem oo_held {I : Isl} (hO : IOK I) {R : Rs} {p : Nat} : ∀ n, oo (fun j => heldF I (digF (rK R j)) p) n < 32
  | 0 => (by decide : (0 : Nat) < 32)
  | n + 1 => or_lt (e := 5) (oo_held hO n) (heldF_lt I hO _ p)

