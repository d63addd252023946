/-! ===== days, the reference: the works, the most ===== -/
/-- what the first k works bring at an hour where things lie as c says -/
noncomputable def pgU (I : Isl) (h c k : Nat) : Nat := sm (fun v => i2 (iV I v 0 = h ∧ canF I (digF c) v) (iV I v 3) 0) k
theorem pg_t {I : Isl} {h c k : Nat} (e : iV I k 0 = h) (hc : canF I (digF c) k) : pgU I h c (k + 1) = pgU I h c k + iV I k 3 := by
  unfold pgU
  rw [sm_s, e2_0 ⟨e, hc⟩]
theorem pg_f {I : Isl} {h c k : Nat} (hn : ¬ (iV I k 0 = h ∧ canF I (digF c) k)) : pgU I h c (k + 1) = pgU I h c k + 0 := by
  unfold pgU
  rw [sm_s, e2_1 hn]
theorem pg_all {I : Isl} {h c : Nat} : pgU I h c (iW I) = wthF I (dbF I (digF c) (iW I) &&& hmF I h) := by
  unfold pgU wthF
  refine sm_congr fun v hv => ?_
  have hb : (dbF I (digF c) (iW I) &&& hmF I h).testBit v = true ↔ (iV I v 0 = h ∧ canF I (digF c) v) := by
    rw [Nat.testBit_and, Bool.and_eq_true, dbF_bit]
    unfold hmF
    rw [mk_bit]
    simp only [hv, decide_true, Bool.true_and, beq_iff_eq, true_and]
    exact ⟨fun h => ⟨h.2, h.1⟩, fun h => ⟨h.2, h.1⟩⟩
  by_cases q : iV I v 0 = h ∧ canF I (digF c) v
  · rw [e2_0 q, has_iff.mpr (hb.mpr q), Nat.one_mul]
  · rw [e2_1 q]
    have h2 : ¬ (dbF I (digF c) (iW I) &&& hmF I h) / 2 ^ v % 2 = 1 := fun z => q (hb.mp (has_iff.mp z))
    have h3 : (dbF I (digF c) (iW I) &&& hmF I h) / 2 ^ v % 2 = 0 := by omega
    rw [h3, Nat.zero_mul]
theorem UC_gn {I : Isl} {L c0 : Nat} (hO : IOK I) (h0 : OKc I L c0) {u : Nat → Nat} {h c : Nat} (hU : ¬ UC (fR I L c0) u c = 0) : UC (fR I L c0) (gnU I (fR I L c0) h u) c = UC (fR I L c0) u c + pgU I h c (iW I) := by
  obtain ⟨j, hj, rfl⟩ := UC_ne hU
  rw [UC_in hO h0 hj] at hU ⊢
  rw [UC_in hO h0 hj, gn_p hU, pg_all]
  rfl
theorem UC_gn0 {I : Isl} {L c0 : Nat} (hO : IOK I) (h0 : OKc I L c0) {u : Nat → Nat} {h c : Nat} (hU : UC (fR I L c0) u c = 0) : UC (fR I L c0) (gnU I (fR I L c0) h u) c = 0 := by
  by_cases hin : rIn (fR I L c0) c
  · obtain ⟨j, hj, rfl⟩ := hin
    rw [UC_in hO h0 hj] at hU ⊢
    exact gn_0.mpr hU
  · exact UC_no hin
theorem pg_le {I : Isl} (hO : IOK I) {h c : Nat} : ∀ k, k ≤ iW I → pgU I h c k ≤ 9 * k
  | 0, _ => Nat.le_refl _
  | k + 1, hk => by
    have ih := pg_le (h := h) (c := c) hO k (by omega)
    have hv := (hO.v k (by omega)).2.2.2
    unfold pgU at ih ⊢
    rw [sm_s]
    by_cases q : iV I k 0 = h ∧ canF I (digF c) k
    · rw [e2_0 q]; omega
    · rw [e2_1 q]; omega

theorem UC_mx {I : Isl} {L c0 : Nat} (hO : IOK I) (h0 : OKc I L c0) {u : Nat → Nat} : max 1 (mx (UC (fR I L c0) u) (7 ^ iM I)) = max 1 (mx u (rC (fR I L c0))) := by
  have e : mx (UC (fR I L c0) u) (7 ^ iM I) = mx u (rC (fR I L c0)) := by
    apply Nat.le_antisymm
    · refine mx_iff.mpr fun c hc => ?_
      by_cases q : UC (fR I L c0) u c = 0
      · rw [q]; exact Nat.zero_le _
      · obtain ⟨j, hj, rfl⟩ := UC_ne q
        rw [UC_in hO h0 hj]
        exact mx_iff.mp (Nat.le_refl _) j hj
    · refine mx_iff.mpr fun j hj => ?_
      have h := mx_iff.mp (Nat.le_refl (mx (UC (fR I L c0) u) (7 ^ iM I))) _ ((fR_inv hO h0).2.2.1 j hj).1
      rw [UC_in hO h0 hj] at h
      exact h
  rw [e]
theorem UC_0 {I : Isl} {L c0 : Nat} (hO : IOK I) (h0 : OKc I L c0) (c : Nat) : UC (fR I L c0) (fun x => if x = 0 then 1 else 0) c = if c = c0 then 1 else 0 := by
  have hv := fR_inv hO h0
  by_cases hin : rIn (fR I L c0) c
  · obtain ⟨j, hj, rfl⟩ := hin
    rw [UC_in hO h0 hj]
    by_cases q : j = 0
    · rw [if_pos q, q, if_pos hv.1.2.1]
    · rw [if_neg q, if_neg (fun e => q (hv.2.1 j 0 hj hv.1.1 (e.trans hv.1.2.1.symm)))]
  · rw [UC_no hin, if_neg (fun e => hin ⟨0, hv.1.1, hv.1.2.1.trans e.symm⟩)]
theorem vI_mx {a b : Nat} (ha : a ≤ 900) (hb : b ≤ 900) : (if (vI (max 1 a)).toInt > (vI b).toInt then vI (max 1 a) else vI b) = vI (max 1 (max a b)) := by
  rw [vI_gt (by omega) hb, Nat.max_assoc]

