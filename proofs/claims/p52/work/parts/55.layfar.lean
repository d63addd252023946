/-! ===== the reference's search ===== -/
/-- the queue and what is far -/
def QuX (I : Isl) (R : Rs) (S : St) : Prop := S.1 83 36 = nI (rC R) ∧ rC R ≤ 16807 ∧ (∀ j, j < rC R → S.1 103 j = nI (rK R j) ∧ rK R j < 7 ^ iM I ∧ S.1 102 (rK R j) = nI (rD R j) ∧ rD R j < 99999) ∧ ∀ c, c < 7 ^ iM I → ¬ rIn R c → S.1 102 c = nI 99999
/-- but for what a search of the reference writes -/
def FrL (S S' : St) : Prop := S'.2 = S.2 ∧ ∀ a b, ¬ (a = 97 ∨ a = 102 ∨ a = 103) → ¬ (a = 83 ∧ b = 36) → S'.1 a b = S.1 a b
theorem FrL.refl {S : St} : FrL S S := ⟨rfl, fun _ _ _ _ => rfl⟩
theorem FrL.trans {S S1 S2 : St} (h : FrL S S1) (h' : FrL S1 S2) : FrL S S2 := ⟨h'.1.trans h.1, fun a b h1 h2 => (h'.2 a b h1 h2).trans (h.2 a b h1 h2)⟩
theorem FrL.of {S S1 : St} (h : F97 S S1) : FrL S S1 := ⟨h.1, fun a b h1 _ => h.2 a (fun q => h1 (Or.inl q)) b⟩
theorem FrL.set {S S1 : St} {k j : Nat} {v : Int32} (h : FrL S S1) (hk : (k = 97 ∨ k = 102 ∨ k = 103) ∨ (k = 83 ∧ j = 36)) : FrL S (setI S1 k j v) := ⟨h.1, fun a b h1 h2 => by
  refine Eq.trans ?_ (h.2 a b h1 h2)
  by_cases q : a = k
  · exact rdI_j (by omega)
  · exact rdI_k q⟩
theorem IsM.fl {I : Isl} {S S' : St} (h : IsM I S) (hf : FrL S S') : IsM I S' := h.keep (fun j hj => hf.2 83 j (by decide) (by intro q; rw [q.2] at hj; revert hj; decide)) (fun a ha b => hf.2 a b (by intro e; rcases e with rfl | rfl | rfl <;> revert ha <;> decide) (by intro e; rw [e.1] at ha; revert ha; decide))
theorem QuX.keep {I : Isl} {R : Rs} {S S' : St} (h : QuX I R S) (k : ∀ b, S'.1 102 b = S.1 102 b ∧ S'.1 103 b = S.1 103 b) (k2 : S'.1 83 36 = S.1 83 36) : QuX I R S' :=
  ⟨k2.trans h.1, h.2.1, fun j hj => ⟨(k j).2.trans (h.2.2.1 j hj).1, (h.2.2.1 j hj).2.1, (k _).1.trans (h.2.2.1 j hj).2.2.1, (h.2.2.1 j hj).2.2.2⟩, fun c hc hn => (k c).1.trans (h.2.2.2 c hc hn)⟩
theorem QuX.f97 {I : Isl} {R : Rs} {S S' : St} (h : QuX I R S) (f : F97 S S') : QuX I R S' := h.keep (fun b => ⟨f.2 102 (by decide) b, f.2 103 (by decide) b⟩) (f.2 83 (by decide) 36)
theorem QuX.far {I : Isl} {R : Rs} {S : St} (h : QuX I R S) {c : Nat} (hc : c < 7 ^ iM I) : S.1 102 c = nI 99999 ↔ ¬ rIn R c := by
  constructor
  · rintro e ⟨j, hj, rfl⟩
    have a := h.2.2.1 j hj
    rw [a.2.2.1] at e
    have := nI_inj (by omega) (by decide) e
    omega
  · exact h.2.2.2 c hc
theorem QuX.at {I : Isl} {R : Rs} {S : St} (h : QuX I R S) {c : Nat} (hc : rIn R c) : S.1 102 c = nI (rD R (ixR R c)) := by
  have a := ixR_ok hc
  have b := (h.2.2.1 _ a.1).2.2.1
  rw [a.2] at b
  exact b
theorem QuX.add {I : Isl} {R : Rs} {S : St} (h : QuX I R S) {c b y d : Nat} (hc : c < 7 ^ iM I) (hn : ¬ rIn R c) (hd : d < 99999) (hr : rC R < 16807) : QuX I (rAdd R c b y d) (setI (setI (setI S 102 c (nI d)) 103 (rC R) (nI c)) 83 36 (nI (rC R + 1))) := by
  have hp := (Pre.add R c b y d).2
  have eC : rC (rAdd R c b y d) = rC R + 1 := rfl
  have eK : rK (rAdd R c b y d) (rC R) = c := upW_eq _ _ _
  have eD : rD (rAdd R c b y d) (rC R) = d := upW_eq _ _ _
  have hin : ∀ x, rIn (rAdd R c b y d) x ↔ rIn R x ∨ x = c := fun x => rIn_add
  generalize rAdd R c b y d = R' at hp eC eK eD hin ⊢
  refine ⟨by rw [rdI_eq, eC], by omega, fun j hj => ?_, fun x hx hnx => ?_⟩
  · by_cases q : j < rC R
    · obtain ⟨a1, a2, a3, a4⟩ := h.2.2.1 j q
      obtain ⟨p1, _, _, p4⟩ := hp j q
      have hne : ¬ rK R j = c := fun e => hn ⟨j, q, e⟩
      rw [p1, p4]
      exact ⟨by rw [rdI_k (by decide), rdI_j (by omega), rdI_k (by decide)]; exact a1, a2, by rw [rdI_k (by decide), rdI_k (by decide), rdI_j hne]; exact a3, a4⟩
    · obtain rfl : j = rC R := by omega
      rw [eK, eD]
      exact ⟨by rw [rdI_k (by decide), rdI_eq], hc, by rw [rdI_k (by decide), rdI_k (by decide), rdI_eq], hd⟩
  · have h1 := mt (hin x).mpr hnx
    rw [rdI_k (by decide), rdI_k (by decide), rdI_j (fun e => h1 (Or.inr e))]
    exact h.2.2.2 x hx (fun q => h1 (Or.inl q))
theorem QuX.start {I : Isl} {S : St} {c0 : Nat} (hc : c0 < 7 ^ iM I) (h1 : S.1 83 36 = nI 1) (h2 : S.1 103 0 = nI c0) (h3 : S.1 102 c0 = nI 0) (h4 : ∀ c, c < 7 ^ iM I → ¬ c = c0 → S.1 102 c = nI 99999) : QuX I (r0 c0) S := by
  refine ⟨h1, (by decide : (1 : Nat) ≤ 16807), fun j hj => ?_, fun c hcc hn => h4 c hcc (fun e => hn ⟨0, Nat.one_pos, e.symm⟩)⟩
  obtain rfl : j = 0 := by have : j < 1 := hj; omega
  exact ⟨h2, hc, h3, (by decide : (0 : Nat) < 99999)⟩
theorem p7le {I : Isl} (hO : IOK I) : 7 ^ iM I ≤ 16807 := pow7_le hO.2.1

