/-! ===== days, the reference ===== -/
/-- u by the states' numbers -/
noncomputable def UC (R : Rs) (u : Nat → Nat) (c : Nat) : Nat := i2 (rIn R c) (u (ixR R c)) 0
theorem UC_no {R : Rs} {u : Nat → Nat} {c : Nat} (h : ¬ rIn R c) : UC R u c = 0 := by unfold UC; rw [e2_1 h]
theorem UC_in {I : Isl} {L c0 : Nat} (hO : IOK I) (h0 : OKc I L c0) {u : Nat → Nat} {j : Nat} (hj : j < rC (fR I L c0)) : UC (fR I L c0) u (rK (fR I L c0) j) = u j := by
  have hin : rIn (fR I L c0) (rK (fR I L c0) j) := ⟨j, hj, rfl⟩
  have a := ixR_ok hin
  unfold UC
  rw [e2_0 hin, (fR_inv hO h0).2.1 _ j a.1 hj a.2]
theorem UC_ne {R : Rs} {u : Nat → Nat} {c : Nat} (h : ¬ UC R u c = 0) : ∃ j, j < rC R ∧ rK R j = c := Classical.byContradiction fun q => h (UC_no q)
theorem UC_le {R : Rs} {u : Nat → Nat} {B : Nat} (h : ∀ i, u i ≤ B) (c : Nat) : UC R u c ≤ B := by
  unfold UC
  by_cases q : rIn R c
  · rw [e2_0 q]; exact h _
  · rw [e2_1 q]; exact Nat.zero_le _
/-- one step from d to c -/
def adC (I : Isl) (L d c : Nat) : Prop := ∃ t, t < 7 * iM I ∧ mb I L d t = true ∧ nx I d t = c
theorem UC_st {I : Isl} {L c0 : Nat} (hO : IOK I) (h0 : OKc I L c0) {u : Nat → Nat} {c y : Nat} (h : IsMx (UC (fR I L c0) u) (7 ^ iM I) c y (fun d => ¬ UC (fR I L c0) u d = 0 ∧ adC I L d c)) : y = UC (fR I L c0) (stU I L (fR I L c0) u) c := by
  have hv := fR_inv hO h0
  by_cases hin : rIn (fR I L c0) c
  · obtain ⟨i, hi, rfl⟩ := hin
    rw [UC_in hO h0 hi]
    apply Nat.le_antisymm
    · have hm := ((stU_mx (I := I) (L := L) (u := u) hi) _).mp (Nat.le_refl _)
      refine (h _).mpr ⟨by rw [UC_in hO h0 hi]; exact hm.1, fun d hd hp => ?_⟩
      obtain ⟨j, hj, rfl⟩ := UC_ne hp.1
      rw [UC_in hO h0 hj]
      obtain ⟨t, t1, t2, t3⟩ := hp.2
      exact hm.2 j hj (adjR_sym hO h0 hj ⟨t, t1, t2, t3⟩)
    · have hm := (h _).mp (Nat.le_refl _)
      rw [UC_in hO h0 hi] at hm
      refine ((stU_mx hi) _).mpr ⟨hm.1, fun j hj hp => ?_⟩
      by_cases q : u j = 0
      · rw [q]; exact Nat.zero_le _
      · have hk := hm.2 (rK (fR I L c0) j) (hv.2.2.1 j hj).1 ⟨by rw [UC_in hO h0 hj]; exact q, adjR_sym hO h0 hi hp⟩
        rw [UC_in hO h0 hj] at hk
        exact hk
  · rw [UC_no hin]
    refine Nat.le_zero.mp ((h 0).mpr ⟨Nat.le_of_eq (UC_no hin), fun d hd hp => ?_⟩)
    obtain ⟨j, hj, rfl⟩ := UC_ne hp.1
    obtain ⟨t, t1, t2, t3⟩ := hp.2
    obtain ⟨k, k1, k2, _⟩ := hv.2.2.2.2.1 j t hj (Or.inl (by have := (bN_ok hO h0).2; omega)) t1 t2
    exact absurd ⟨k, k1, k2.trans t3⟩ hin
/-- the pairs looked at -/
def Pst (I : Isl) (L : Nat) (U : Nat → Nat) (s i c d : Nat) : Prop := (d < s ∧ ¬ U d = 0 ∧ adC I L d c) ∨ (d = s ∧ ∃ t, t < i ∧ mb I L s t = true ∧ nx I s t = c)
theorem vI_gt {a b : Nat} (ha : a ≤ 900) (hb : b ≤ 900) : (if (vI a).toInt > (vI b).toInt then vI a else vI b) = vI (max a b) := by
  rw [vI_i ha, vI_i hb]
  by_cases q : b < a
  · rw [if_pos (by omega), Nat.max_eq_left (by omega)]
  · rw [if_neg (by omega), Nat.max_eq_right (by omega)]
theorem vI_neg {a : Nat} (ha : a ≤ 900) : (vI a).toInt < 0 ↔ a = 0 := by rw [vI_i ha]; omega
def FYr (a : Nat) : Prop := a = 97 ∨ a = 105 ∨ a = 106
theorem frY {S S' : St} (h : F97 S S') : Fr FYr S S' := ⟨h.1, fun a ha b => h.2 a (fun q => ha (Or.inl q)) b⟩
theorem IsM.fdr {I : Isl} {S S' : St} (h : IsM I S) (hf : Fr FYr S S') : IsM I S' := h.keep (fun j _ => hf.2 83 (by unfold FYr; decide) j) (fun a ha b => hf.2 a (by unfold FYr; intro e; rcases e with rfl | rfl | rfl <;> revert ha <;> decide) b)
theorem FrYset {S S1 : St} {k j : Nat} {v : Int32} (h : Fr FYr S S1) (hk : FYr k) : Fr FYr S (setI S1 k j v) := ⟨h.1, fun a ha b => (rdI_k (fun q => ha (by rw [q]; exact hk))).trans (h.2 a ha b)⟩

