/-! ===== pure: more steps an hour, a greater limit bring no less; never more than all ===== -/
theorem may_up {I : Isl} {w : Nat → Nat} {L L' t to : Nat} (hl : L ≤ L') (h : mayF I w L t to) : mayF I w L' t to := by
  obtain ⟨h1, h2, h3⟩ := h
  refine ⟨h1, h2, ?_⟩
  have hf : fitF I w L t to → fitF I w L' t to := fun h => h.imp id (fun k => Nat.le_trans k hl)
  by_cases a : 5 ≤ w t
  · rw [if_pos a] at h3 ⊢
    exact ⟨h3.1, hf h3.2⟩
  · rw [if_neg a] at h3 ⊢
    by_cases b : 5 ≤ to
    · rw [if_pos b] at h3 ⊢; exact h3
    · rw [if_neg b] at h3 ⊢
      by_cases c : to = 4
      · rw [if_pos c] at h3 ⊢; exact h3
      · rw [if_neg c] at h3 ⊢; exact hf h3
def domU (R R' : Rs) (u u' : Nat → Nat) : Prop := ∀ i, i < rC R → ¬ u i = 0 → ∃ i', i' < rC R' ∧ rK R' i' = rK R i ∧ u i ≤ u' i'
theorem IsMx.att {u : Nat → Nat} {N x y : Nat} {P : Nat → Prop} (h : IsMx u N x y P) (hy : ¬ y = 0) : y ≤ u x ∨ ∃ j, j < N ∧ P j ∧ y ≤ u j := Classical.byContradiction fun q => by
  have : y ≤ y - 1 := (h (y - 1)).mpr ⟨Classical.byContradiction fun k => q (Or.inl (by omega)), fun j hj hp => Classical.byContradiction fun k => q (Or.inr ⟨j, hj, hp, by omega⟩)⟩
  omega
theorem stU_ge {I : Isl} {L : Nat} {R : Rs} {u : Nat → Nat} {x : Nat} (hx : x < rC R) : u x ≤ stU I L R u x := ((stU_mx (I := I) (L := L) (u := u) hx) _).mp (Nat.le_refl _) |>.1
theorem stU_adj {I : Isl} {L : Nat} {R : Rs} {u : Nat → Nat} {x j : Nat} (hx : x < rC R) (hj : j < rC R) (ha : adjR I L R x j) : u j ≤ stU I L R u x := ((stU_mx (I := I) (L := L) (u := u) hx) _).mp (Nat.le_refl _) |>.2 j hj ha
theorem dom_st {I : Isl} {L L' c0 : Nat} (hO : IOK I) (hl : L ≤ L') (h0 : OKc I L c0) (h0' : OKc I L' c0) {u u' : Nat → Nat} (h : domU (fR I L c0) (fR I L' c0) u u') : domU (fR I L c0) (fR I L' c0) (stU I L (fR I L c0) u) (stU I L' (fR I L' c0) u') := fun i hi hne => by
  have hv := fR_inv hO h0
  have hv' := fR_inv hO h0'
  rcases (stU_mx (I := I) (L := L) (u := u) hi).att hne with k | ⟨j, hj, ha, k⟩
  · obtain ⟨i', a, b, c⟩ := h i hi (by omega)
    exact ⟨i', a, b, Nat.le_trans k (Nat.le_trans c (stU_ge a))⟩
  · obtain ⟨j', a, b, c⟩ := h j hj (by omega)
    obtain ⟨s, s1, s2, s3⟩ := ha
    have hb := mb_back hO (hv.2.2.1 i hi) s1 s2
    rw [s3, ← b] at hb
    have hbm : mb I L' (rK (fR I L' c0) j') (7 * (s / 7) + digF (rK (fR I L c0) i) (s / 7)) = true := mb_iff.mpr (may_up hl (mb_iff.mp hb.2.1))
    obtain ⟨i', e1, e2, -⟩ := hv'.2.2.2.2.1 j' _ a (Or.inl (by have := (bN_ok hO h0').2; omega)) hb.1 hbm
    rw [hb.2.2] at e2
    refine ⟨i', e1, e2, Nat.le_trans k (Nat.le_trans c (stU_adj e1 a ⟨s, s1, ?_, ?_⟩))⟩
    · rw [e2]; exact mb_iff.mpr (may_up hl (mb_iff.mp s2))
    · rw [e2, s3, b]
theorem dom_more {I : Isl} {L' : Nat} {R R' : Rs} {u u' : Nat → Nat} (h : domU R R' u u') : domU R R' u (stU I L' R' u') := fun i hi hne => by
  obtain ⟨i', a, b, c⟩ := h i hi hne
  exact ⟨i', a, b, Nat.le_trans c (stU_ge a)⟩
theorem dom_it {I : Isl} {L L' c0 : Nat} (hO : IOK I) (hl : L ≤ L') (h0 : OKc I L c0) (h0' : OKc I L' c0) {u u' : Nat → Nat} (h : domU (fR I L c0) (fR I L' c0) u u') : ∀ a, domU (fR I L c0) (fR I L' c0) (itU I L (fR I L c0) u a) (itU I L' (fR I L' c0) u' a)
  | 0 => h
  | a + 1 => dom_st hO hl h0 h0' (dom_it hO hl h0 h0' h a)
theorem dom_itd {I : Isl} {L L' c0 : Nat} (hO : IOK I) (hl : L ≤ L') (h0 : OKc I L c0) (h0' : OKc I L' c0) {u u' : Nat → Nat} (h : domU (fR I L c0) (fR I L' c0) u u') (a : Nat) : ∀ d, domU (fR I L c0) (fR I L' c0) (itU I L (fR I L c0) u a) (itU I L' (fR I L' c0) u' (a + d))
  | 0 => dom_it hO hl h0 h0' h a
  | d + 1 => dom_more (dom_itd hO hl h0 h0' h a d)
theorem dom_gn {I : Isl} {R R' : Rs} {u u' : Nat → Nat} (hd : Nat) (h : domU R R' u u') : domU R R' (gnU I R hd u) (gnU I R' hd u') := fun i hi hne => by
  have hu : ¬ u i = 0 := fun q => hne (gn_0.mpr q)
  obtain ⟨i', a, b, c⟩ := h i hi hu
  refine ⟨i', a, b, ?_⟩
  rw [gn_p hu, gn_p (show ¬ u' i' = 0 by omega)]
  have e : gW I R' (hmF I hd) i' = gW I R (hmF I hd) i := by unfold gW; rw [b]
  rw [e]
  omega
theorem dom_dy {I : Isl} {L L' c0 a d : Nat} (hO : IOK I) (hl : L ≤ L') (h0 : OKc I L c0) (h0' : OKc I L' c0) : ∀ h, domU (fR I L c0) (fR I L' c0) (dyU I L (fR I L c0) a h) (dyU I L' (fR I L' c0) (a + d) h)
  | 0 => fun i hi hne => by
    have hv := fR_inv hO h0
    have hv' := fR_inv hO h0'
    have q : i = 0 := Classical.byContradiction fun k => hne (if_neg k)
    subst q
    exact ⟨0, hv'.1.1, by rw [hv.1.2.1, hv'.1.2.1], Nat.le_refl _⟩
  | h + 1 => dom_gn h (dom_itd hO hl h0 h0' (dom_dy hO hl h0 h0' h) a d)
theorem dyA_up {I : Isl} {L L' c0 a d : Nat} (hO : IOK I) (hl : L ≤ L') (h0 : OKc I L c0) (h0' : OKc I L' c0) : dyA I L c0 a ≤ dyA I L' c0 (a + d) := by
  unfold dyA dyM
  refine Nat.max_le.mpr ⟨Nat.le_max_left _ _, mx_iff.mpr fun i hi => ?_⟩
  by_cases q : dyU I L (fR I L c0) a 6 i = 0
  · rw [q]; exact Nat.zero_le _
  · obtain ⟨i', e1, -, e3⟩ := dom_dy (a := a) (d := d) hO hl h0 h0' 6 i hi q
    exact Nat.le_trans e3 (Nat.le_trans (mx_iff.mp (Nat.le_refl _) i' e1) (Nat.le_max_right _ _))
theorem OKc.up {I : Isl} {L L' c : Nat} (hl : L ≤ L') (h : OKc I L c) : OKc I L' c := ⟨h.1, h.2.mono hl⟩
theorem wth_and {I : Isl} {a b : Nat} : wthF I (a &&& b) ≤ wthF I b := dq_mono fun w _ => by
  refine Nat.mul_le_mul_right _ ?_
  by_cases q : (a &&& b) / 2 ^ w % 2 = 1
  · have h := has_iff.mp q
    rw [Nat.testBit_and, Bool.and_eq_true] at h
    rw [q, has_iff.mpr h.2]
    exact Nat.le_refl _
  · omega
theorem wth_hm {I : Isl} {h : Nat} : wthF I (hmF I h) = sm (fun w => if iV I w 0 = h then iV I w 3 else 0) (iW I) := sm_congr fun w hw => by
  have hb : (hmF I h).testBit w = (iV I w 0 == h) := by
    unfold hmF
    rw [mk_bit]
    simp [hw]
  by_cases q : iV I w 0 = h
  · rw [has_iff.mpr (by rw [hb]; exact beq_iff_eq.mpr q), if_pos q, Nat.one_mul]
  · have : ¬ hmF I h / 2 ^ w % 2 = 1 := fun k => q (beq_iff_eq.mp (by rw [← hb]; exact has_iff.mp k))
    rw [show hmF I h / 2 ^ w % 2 = 0 by omega, if_neg q, Nat.zero_mul]
theorem wth_hours {I : Isl} (hO : IOK I) : sm (fun h => wthF I (hmF I h)) 6 = sm (fun v => iV I v 3) (iW I) := by
  rw [show (fun h => wthF I (hmF I h)) = (fun h => sm (fun w => if iV I w 0 = h then iV I w 3 else 0) (iW I)) from funext fun h => wth_hm]
  exact dq_tot fun t ht _ => (hO.v t ht).1
theorem dy_all {I : Isl} {L a : Nat} {R : Rs} : ∀ h i, dyU I L R a h i ≤ 1 + sm (fun h => wthF I (hmF I h)) h
  | 0, i => by
    show (if i = 0 then 1 else 0) ≤ _
    split <;> omega
  | h + 1, i => by
    have h1 := it_le (I := I) (L := L) (R := R) (dy_all (I := I) (L := L) (a := a) (R := R) h) a i
    have h2 : gW I R (hmF I h) i ≤ wthF I (hmF I h) := wth_and
    rw [sm_s]
    show (if itU I L R (dyU I L R a h) a i = 0 then 0 else itU I L R (dyU I L R a h) a i + gW I R (hmF I h) i) ≤ _
    split <;> omega
theorem dyA_all {I : Isl} {L c0 a : Nat} (hO : IOK I) : dyA I L c0 a ≤ 1 + sm (fun v => iV I v 3) (iW I) := by
  rw [← wth_hours hO]
  exact Nat.max_le.mpr ⟨by omega, mx_iff.mpr fun i _ => dy_all 6 i⟩
