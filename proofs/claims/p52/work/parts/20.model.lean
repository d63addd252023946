/-! ===== the reference: small methods ===== -/
def IsM (I : Isl) (S : St) : Prop := S.1 83 10 = nI (iP I) ∧ S.1 83 11 = nI (iM I) ∧ S.1 83 13 = nI (iB I) ∧ S.1 83 15 = nI (iW I) ∧ (∀ t, t < iM I → S.1 90 t = nI (iK I t)) ∧ (∀ b, b < iB I → S.1 91 b = nI (iG I b)) ∧ ∀ v, v < iW I → ∀ j, j < 4 → S.1 92 (4 * v + j) = nI (iV I v j)
def MW (I : Isl) (w : Nat → Nat) (S : St) : Prop := ∀ t, t < iM I → S.1 97 t = nI (w t)
theorem IsM.keep {I : Isl} {S S' : St} (h : IsM I S) (e0 : ∀ j, j ∈ [10, 11, 13, 15] → S'.1 83 j = S.1 83 j) (e : ∀ a, a ∈ [90, 91, 92] → ∀ b, S'.1 a b = S.1 a b) : IsM I S' := by
  obtain ⟨h1, h2, h3, h4, h5, h6, h7⟩ := h
  exact ⟨(e0 _ (by decide)).trans h1, (e0 _ (by decide)).trans h2, (e0 _ (by decide)).trans h3, (e0 _ (by decide)).trans h4, fun t ht => (e _ (by decide) t).trans (h5 t ht), fun b hb => (e _ (by decide) b).trans (h6 b hb), fun v hv j hj => (e _ (by decide) _).trans (h7 v hv j hj)⟩
theorem in_iff {x : Int32} {n : Nat} (hn : n ≤ 900) : ((nI 0).toInt ≤ x.toInt ∧ x.toInt ≤ (nI n - nI 1).toInt) ↔ (0 ≤ x.toInt ∧ x.toInt < (n : Int)) := by
  rw [toI_sub (by rw [tiN (by omega)]; omega) (by rw [tiN (by omega)]; omega) (by rw [tiN (by omega)]; omega) (by rw [tiN (by omega)]; omega), tiN (show n < 2147483648 by omega), tiN (show 0 < 2147483648 by omega), tiN (show 1 < 2147483648 by omega)]
  omega
theorem ne_nI {x : Int32} {n : Nat} (h : ¬ x = nI n) : ¬ x.toInt = (n : Int) := fun q => h (nI_of_int q)
theorem has_iff {s k : Nat} : s / 2 ^ k % 2 = 1 ↔ s.testBit k = true := by rw [Nat.testBit_eq_decide_div_mod_eq, decide_eq_true_eq]

def fndM (S : St) (f : Nat) : St := setI (setI S 83 0 (nI f)) 84 f (S.1 84 f + nI 1)
def lkS (S : St) (n : Nat) : St := (fun a b => if a = 97 ∧ b < n then S.1 93 b else S.1 a b, S.2)
theorem lkS_0 (S : St) : lkS S 0 = S := st_ext rfl fun a b => if_neg (by omega)
theorem lkS_k {S : St} {n a b : Nat} (h : ¬ a = 97) : (lkS S n).1 a b = S.1 a b := if_neg fun q => h q.1
theorem lkS_s (S : St) (i : Nat) : setI (lkS S i) 97 i (S.1 93 i) = lkS S (i + 1) := by
  refine st_ext rfl fun a b => ?_
  by_cases ha : a = 97
  · subst ha
    by_cases hb : b = i
    · subst hb
      rw [rdI_eq]
      exact (if_pos ⟨rfl, Nat.lt_succ_self b⟩).symm
    · rw [rdI_j hb]
      by_cases h : b < i
      · exact (if_pos ⟨rfl, h⟩).trans (if_pos ⟨rfl, by omega⟩).symm
      · exact (if_neg (by omega)).trans (if_neg (by omega)).symm
  · rw [rdI_k ha, lkS_k ha, lkS_k ha]
theorem lkS_W {I : Isl} {w : Nat → Nat} {S : St} (h : ∀ t, t < iM I → S.1 93 t = nI (w t)) : MW I w (lkS S (iM I)) := fun t ht => (if_pos ⟨rfl, ht⟩).trans (h t ht)
theorem IsM.lk {I : Isl} {S : St} (h : IsM I S) (n : Nat) : IsM I (lkS S n) := h.keep (fun j _ => lkS_k (by decide)) (fun a ha b => lkS_k (by intro e; subst e; revert ha; decide))

def loS (S : St) (c i : Nat) : St := (fun a b => if a = 97 ∧ b < i then nI (digF c b) else S.1 a b, S.2)
theorem loS_0 (S : St) (c : Nat) : loS S c 0 = S := st_ext rfl fun a b => if_neg (by omega)
theorem loS_k {S : St} {c i a b : Nat} (h : ¬ a = 97) : (loS S c i).1 a b = S.1 a b := if_neg fun q => h q.1
theorem loS_s (S : St) (c i : Nat) : setI (loS S c i) 97 i (nI (digF c i)) = loS S c (i + 1) := by
  refine st_ext rfl fun a b => ?_
  by_cases ha : a = 97
  · subst ha
    by_cases hb : b = i
    · subst hb
      rw [rdI_eq]
      exact (if_pos ⟨rfl, Nat.lt_succ_self b⟩).symm
    · rw [rdI_j hb]
      by_cases h : b < i
      · exact (if_pos ⟨rfl, h⟩).trans (if_pos ⟨rfl, by omega⟩).symm
      · exact (if_neg (by omega)).trans (if_neg (by omega)).symm
  · rw [rdI_k ha, loS_k ha, loS_k ha]
theorem loS_W {I : Isl} (S : St) (c : Nat) : MW I (digF c) (loS S c (iM I)) := fun t ht => if_pos ⟨rfl, ht⟩
theorem IsM.lo {I : Isl} {S : St} (h : IsM I S) (c n : Nat) : IsM I (loS S c n) := h.keep (fun j _ => loS_k (by decide)) (fun a ha b => loS_k (by intro e; subst e; revert ha; decide))

theorem IOK.inj {I : Isl} (hO : IOK I) {b c : Nat} (hb : b < iB I) (hc : c < iB I) (h : iG I b = iG I c) : b = c := by
  have h4 := hO.2.2.2.1
  have hlt := hO.2.2.2.2.2.2.1
  rcases (show b = 0 ∨ b = 1 by omega) with rfl | rfl <;> rcases (show c = 0 ∨ c = 1 by omega) with rfl | rfl
  · rfl
  · have := hlt (by omega); omega
  · have := hlt (by omega); omega
  · rfl

