/-! ===== days, pure ===== -/
/-- the most of x and of u's before n with P -/
noncomputable def mxP (P : Nat → Prop) (u : Nat → Nat) (x : Nat) : Nat → Nat
  | 0 => x
  | n + 1 => i2 (P n) (max (mxP P u x n) (u n)) (mxP P u x n)
theorem mxP_iff {P : Nat → Prop} {u : Nat → Nat} {x b : Nat} : ∀ n, mxP P u x n ≤ b ↔ (x ≤ b ∧ ∀ j, j < n → P j → u j ≤ b)
  | 0 => ⟨fun h => ⟨h, fun j hj => absurd hj (Nat.not_lt_zero j)⟩, fun h => h.1⟩
  | n + 1 => by
    have ih := @mxP_iff P u x b n
    rw [mxP]
    by_cases hp : P n
    · rw [e2_0 hp, Nat.max_le, ih]
      constructor
      · rintro ⟨⟨h1, h2⟩, h3⟩
        refine ⟨h1, fun j hj hq => ?_⟩
        rcases Nat.lt_succ_iff_lt_or_eq.mp hj with k | k
        · exact h2 j k hq
        · rw [k]; exact h3
      · rintro ⟨h1, h2⟩
        exact ⟨⟨h1, fun j hj hq => h2 j (Nat.lt_succ_of_lt hj) hq⟩, h2 n (Nat.lt_succ_self n) hp⟩
    · rw [e2_1 hp, ih]
      constructor
      · rintro ⟨h1, h2⟩
        refine ⟨h1, fun j hj hq => ?_⟩
        rcases Nat.lt_succ_iff_lt_or_eq.mp hj with k | k
        · exact h2 j k hq
        · rw [k] at hq; exact absurd hq hp
      · rintro ⟨h1, h2⟩
        exact ⟨h1, fun j hj hq => h2 j (Nat.lt_succ_of_lt hj) hq⟩
/-- one step, or none, from each -/
noncomputable def stU (I : Isl) (L : Nat) (R : Rs) (u : Nat → Nat) : Nat → Nat := fun x => i2 (x < rC R) (mxP (fun j => adjR I L R x j) u (u x) (rC R)) 0
theorem stU_mx {I : Isl} {L : Nat} {R : Rs} {u : Nat → Nat} {x : Nat} (hx : x < rC R) : IsMx u (rC R) x (stU I L R u x) (fun j => adjR I L R x j) := fun b => by
  unfold stU
  rw [e2_0 hx]
  exact mxP_iff (rC R)
theorem stU_o {I : Isl} {L : Nat} {R : Rs} {u : Nat → Nat} {x : Nat} (hx : ¬ x < rC R) : stU I L R u x = 0 := by unfold stU; rw [e2_1 hx]
/-- the works of an hour -/
def hmF (I : Isl) (h : Nat) : Nat := mk (fun w => iV I w 0 == h) (iW I)
noncomputable def gnU (I : Isl) (R : Rs) (h : Nat) (u : Nat → Nat) : Nat → Nat := fun x => if u x = 0 then 0 else u x + gW I R (hmF I h) x
noncomputable def itU (I : Isl) (L : Nat) (R : Rs) (u : Nat → Nat) : Nat → Nat → Nat
  | 0 => u
  | k + 1 => stU I L R (itU I L R u k)
noncomputable def dyU (I : Isl) (L : Nat) (R : Rs) (a : Nat) : Nat → Nat → Nat
  | 0 => fun x => if x = 0 then 1 else 0
  | h + 1 => gnU I R h (itU I L R (dyU I L R a h) a)
/-- the most that can be done till an hour, and one more -/
noncomputable def dyM (I : Isl) (L c0 a h : Nat) : Nat := max 1 (mx (dyU I L (fR I L c0) a h) (rC (fR I L c0)))
/-- come to within D steps -/
def SupU (R : Rs) (D : Nat) (u : Nat → Nat) : Prop := ∀ i, ¬ u i = 0 ↔ (i < rC R ∧ rD R i ≤ D)
theorem sup_0 {I : Isl} {L c0 : Nat} (hO : IOK I) (h0 : OKc I L c0) : SupU (fR I L c0) 0 (fun x => if x = 0 then 1 else 0) := fun i => by
  have hv := fR_inv hO h0
  by_cases q : i = 0
  · subst q
    exact ⟨fun _ => ⟨hv.1.1, Nat.le_of_eq hv.1.2.2⟩, fun _ => by show ¬ (if (0 : Nat) = 0 then 1 else 0) = 0; rw [if_pos rfl]; decide⟩
  · constructor
    · intro h; exact absurd (if_neg q) h
    · rintro ⟨h1, h2⟩
      have := hv.2.2.2.1 i (by omega) h1
      omega
theorem sup_st {I : Isl} {L c0 D : Nat} {u : Nat → Nat} (hO : IOK I) (h0 : OKc I L c0) (hs : SupU (fR I L c0) D u) : SupU (fR I L c0) (D + 1) (stU I L (fR I L c0) u) := fun i => by
  have hv := fR_inv hO h0
  by_cases hi : i < rC (fR I L c0)
  · have hm := (stU_mx (I := I) (L := L) (u := u) hi) 0
    constructor
    · intro h
      refine ⟨hi, ?_⟩
      rcases Nat.lt_or_ge (D + 1) (rD (fR I L c0) i) with q | q
      · refine absurd (Nat.le_zero.mp (hm.mpr ⟨?_, fun j hj hp => ?_⟩)) h
        · exact Nat.le_of_eq (Classical.byContradiction fun k => by have := ((hs i).mp k).2; omega)
        · exact Nat.le_of_eq (Classical.byContradiction fun k => by
            have h1 := ((hs j).mp k).2
            have h2 := adj_depth hO h0 hj hi (adjR_sym hO h0 hi hp)
            omega)
      · exact q
    · rintro ⟨_, h2⟩ e
      have hz := hm.mp (Nat.le_of_eq e)
      by_cases q : rD (fR I L c0) i ≤ D
      · exact (hs i).mpr ⟨hi, q⟩ (Nat.le_zero.mp hz.1)
      · have hi0 : 0 < i := by
          rcases Nat.eq_zero_or_pos i with k | k
          · rw [k, hv.1.2.2] at q; omega
          · exact k
        obtain ⟨a, b, c, d, f, _⟩ := hv.2.2.2.1 i hi0 hi
        have hj : rB (fR I L c0) i < rC (fR I L c0) := by omega
        have hadj : adjR I L (fR I L c0) (rB (fR I L c0) i) i := ⟨_, b, c, d⟩
        exact (hs _).mpr ⟨hj, by omega⟩ (Nat.le_zero.mp (hz.2 _ hj (adjR_sym hO h0 hj hadj)))
  · rw [stU_o hi]
    exact ⟨fun h => absurd rfl h, fun h => absurd h.1 hi⟩
theorem sup_it {I : Isl} {L c0 D : Nat} {u : Nat → Nat} (hO : IOK I) (h0 : OKc I L c0) (hs : SupU (fR I L c0) D u) : ∀ k, SupU (fR I L c0) (D + k) (itU I L (fR I L c0) u k)
  | 0 => hs
  | k + 1 => sup_st hO h0 (sup_it hO h0 hs k)
theorem gn_0 {I : Isl} {R : Rs} {h : Nat} {u : Nat → Nat} {i : Nat} : gnU I R h u i = 0 ↔ u i = 0 := by
  unfold gnU
  by_cases q : u i = 0
  · rw [if_pos q]; exact ⟨fun _ => q, fun _ => rfl⟩
  · rw [if_neg q]; omega
theorem sup_gn {I : Isl} {R : Rs} {D h : Nat} {u : Nat → Nat} (hs : SupU R D u) : SupU R D (gnU I R h u) := fun i => (not_congr gn_0).trans (hs i)
theorem sup_dy {I : Isl} {L c0 a : Nat} (hO : IOK I) (h0 : OKc I L c0) : ∀ h, SupU (fR I L c0) (h * a) (dyU I L (fR I L c0) a h)
  | 0 => by rw [Nat.zero_mul]; exact sup_0 hO h0
  | h + 1 => by
    rw [Nat.succ_mul]
    exact sup_gn (sup_it hO h0 (sup_dy hO h0 h) a)
theorem gW_le {I : Isl} (hO : IOK I) (R : Rs) (W i : Nat) : gW I R W i ≤ 72 := wth_le hO _
theorem st_le {I : Isl} {L B : Nat} {R : Rs} {u : Nat → Nat} (hu : ∀ i, u i ≤ B) (i : Nat) : stU I L R u i ≤ B := by
  by_cases hi : i < rC R
  · exact (stU_mx hi).le hu
  · rw [stU_o hi]; exact Nat.zero_le _
theorem it_le {I : Isl} {L B : Nat} {R : Rs} {u : Nat → Nat} (hu : ∀ i, u i ≤ B) : ∀ k i, itU I L R u k i ≤ B
  | 0, i => hu i
  | k + 1, i => st_le (it_le hu k) i
theorem dy_le {I : Isl} {L a : Nat} {R : Rs} (hO : IOK I) : ∀ h i, dyU I L R a h i ≤ 1 + 72 * h
  | 0, i => by
    show (if i = 0 then 1 else 0) ≤ _
    split <;> omega
  | h + 1, i => by
    have h1 := it_le (I := I) (L := L) (R := R) (dy_le (L := L) (a := a) (R := R) hO h) a i
    have h2 := gW_le hO R (hmF I h) i
    show (if itU I L R (dyU I L R a h) a i = 0 then 0 else itU I L R (dyU I L R a h) a i + gW I R (hmF I h) i) ≤ _
    split <;> omega
theorem hm_0 {I : Isl} {h : Nat} (hh : lhF I ≤ h) : hmF I h = 0 := by
  unfold hmF
  refine (mk_congr (g := fun _ => false) (fun i hi => ?_)).trans (Nat.eq_of_testBit_eq fun i => by rw [mk_bit, Nat.zero_testBit, Bool.and_false])
  have := mx_iff.mp hh i hi
  have : ¬ iV I i 0 = h := by omega
  exact beq_eq_false_iff_ne.mpr this
theorem hm_lt (I : Isl) (h : Nat) : hmF I h < 2 ^ iW I := mk_lt _ _
theorem mx_st {I : Isl} {L : Nat} {R : Rs} {u : Nat → Nat} : mx (stU I L R u) (rC R) = mx u (rC R) := by
  apply Nat.le_antisymm
  · refine mx_iff.mpr fun i hi => ((stU_mx hi) _).mpr ⟨mx_iff.mp (Nat.le_refl _) i hi, fun j hj _ => mx_iff.mp (Nat.le_refl _) j hj⟩
  · refine mx_iff.mpr fun i hi => Nat.le_trans (((stU_mx (I := I) (L := L) (u := u) hi) _).mp (Nat.le_refl _)).1 (mx_iff.mp (Nat.le_refl _) i hi)
theorem mx_it {I : Isl} {L : Nat} {R : Rs} {u : Nat → Nat} : ∀ k, mx (itU I L R u k) (rC R) = mx u (rC R)
  | 0 => rfl
  | k + 1 => mx_st.trans (mx_it k)
theorem dyM_s {I : Isl} {L c0 a h : Nat} (hh : lhF I ≤ h) : dyM I L c0 a (h + 1) = dyM I L c0 a h := by
  have e : dyU I L (fR I L c0) a (h + 1) = itU I L (fR I L c0) (dyU I L (fR I L c0) a h) a := by
    funext i
    show (if itU I L (fR I L c0) (dyU I L (fR I L c0) a h) a i = 0 then 0 else itU I L (fR I L c0) (dyU I L (fR I L c0) a h) a i + gW I (fR I L c0) (hmF I h) i) = _
    rw [hm_0 hh, gW_0]
    split
    · rename_i q; exact q.symm
    · rfl
  unfold dyM
  rw [e, mx_it]
theorem dyM_k {I : Isl} {L c0 a : Nat} : ∀ k, dyM I L c0 a (lhF I + k) = dyM I L c0 a (lhF I)
  | 0 => rfl
  | k + 1 => (dyM_s (h := lhF I + k) (by omega)).trans (dyM_k k)
theorem lh6 {I : Isl} (hO : IOK I) : lhF I ≤ 6 := mx_le fun w hw => by have := hO.v w hw; omega
/-- the most of a day -/
noncomputable def dyA (I : Isl) (L c0 a : Nat) : Nat := dyM I L c0 a 6
theorem dyA_l {I : Isl} {L c0 a : Nat} (hO : IOK I) : dyM I L c0 a (lhF I) = dyA I L c0 a := by
  have h := dyM_k (I := I) (L := L) (c0 := c0) (a := a) (6 - lhF I)
  rw [show lhF I + (6 - lhF I) = 6 by have := lh6 hO; omega] at h
  exact h.symm
theorem dyA_le {I : Isl} {L c0 a : Nat} (hO : IOK I) : dyA I L c0 a ≤ 500 := by
  refine Nat.max_le.mpr ⟨by decide, mx_le fun i _ => ?_⟩
  have := dy_le (I := I) (L := L) (a := a) (R := fR I L c0) hO 6 i
  omega
theorem dyA_1 {I : Isl} {L c0 a : Nat} : 1 ≤ dyA I L c0 a := Nat.le_max_left _ _
theorem mx_tail {u : Nat → Nat} {n m : Nat} (h : ∀ i, n ≤ i → i < m → u i = 0) (hnm : n ≤ m) : mx u m = mx u n := by
  apply Nat.le_antisymm
  · refine mx_iff.mpr fun i hi => ?_
    by_cases q : i < n
    · exact mx_iff.mp (Nat.le_refl _) i q
    · rw [h i (by omega) hi]; exact Nat.zero_le _
  · exact mx_iff.mpr fun i hi => mx_iff.mp (Nat.le_refl _) i (by omega)
/-! ===== days, the class: best ===== -/
theorem c_last {S : St} {I : Isl} (hI : IsX 11 I S) (hO : IOK I) : C 1 30 yX1_lastHour mX1_lastHour [.ref 11] S (pu (.int (vI (lhF I))) S) := c_X1_lastHour hI hO
theorem vI_p {n : Nat} : vI (n + 1) = nI n := by
  unfold vI
  rw [nI_subN (by omega)]
  rfl
/-- so far are the days: en have been come to -/
def BeX (I : Isl) (L c0 e en D : Nat) (u : Nat → Nat) (S S1 : St) : Prop :=
  Fr FDy S S1 ∧ SeX I L c0 e S1 ∧ en ≤ e ∧ (∀ i, i < en → rD (fR I L c0) i ≤ D) ∧ (en = rC (fR I L c0) ∨ (en < rC (fR I L c0) ∧ D < rD (fR I L c0) en)) ∧ (∀ j, j < en → S1.1 79 j = vI (u j) ∧ S1.1 81 j = nI (dbF I (digF (rK (fR I L c0) j)) (iW I)))
theorem BeX.out {I : Isl} {L c0 e en D : Nat} {u : Nat → Nat} {S S1 : St} (hO : IOK I) (h0 : OKc I L c0) (h : BeX I L c0 e en D u S S1) (hs : SupU (fR I L c0) D u) : ∀ i, en ≤ i → u i = 0 := fun i hi => by
  refine Classical.byContradiction fun k => ?_
  have h1 := (hs i).mp k
  rcases h.2.2.2.2.1 with q | q
  · omega
  · have := (fR_inv hO h0).mono i h1.1 en hi
    omega
theorem BeX.ins {I : Isl} {L c0 e en D : Nat} {u : Nat → Nat} {S S1 : St} (h : BeX I L c0 e en D u S S1) (hs : SupU (fR I L c0) D u) : ∀ i, i < en → ¬ u i = 0 := fun i hi => by
  refine (hs i).mpr ⟨?_, h.2.2.2.1 i hi⟩
  rcases h.2.2.2.2.1 with q | q <;> omega
theorem BeX.enN {I : Isl} {L c0 e en D : Nat} {u : Nat → Nat} {S S1 : St} (h : BeX I L c0 e en D u S S1) : en ≤ rC (fR I L c0) := by
  rcases h.2.2.2.2.1 with q | q <;> omega
theorem BeX.pos {I : Isl} {L c0 e en D : Nat} {u : Nat → Nat} {S S1 : St} (hO : IOK I) (h0 : OKc I L c0) (h : BeX I L c0 e en D u S S1) (hs : SupU (fR I L c0) D u) : 0 < en := by
  rcases Nat.eq_zero_or_pos en with q | q
  · have hv := fR_inv hO h0
    exact absurd (h.out hO h0 hs 0 (by omega)) ((hs 0).mpr ⟨hv.1.1, by rw [hv.1.2.2]; exact Nat.zero_le _⟩)
  · exact q
theorem SeX.sr {I : Isl} {L c0 e : Nat} {S : St} (hL1 : 1 ≤ L) (hL7 : L ≤ 6) (h0 : OKc I L c0) (h : SeX I L c0 e S) : SrX I S := ⟨⟨_, h.1⟩, Or.inr ⟨L, c0, e, ⟨hL1, hL7⟩, h0, h⟩⟩
theorem gn_p {I : Isl} {R : Rs} {h : Nat} {u : Nat → Nat} {i : Nat} (k : ¬ u i = 0) : gnU I R h u i = u i + gW I R (hmF I h) i := if_neg k
theorem IsT.keep {I : Isl} {S S' : St} (h : IsT I S) (e : ∀ a b, a = 21 ∨ a = 22 → S'.1 a b = S.1 a b) : IsT I S' := ⟨fun x hx => (e 21 x (Or.inl rfl)).trans (h.1 x hx), fun s hs => (e 22 s (Or.inr rfl)).trans (h.2 s hs)⟩

set_option maxHeartbeats 4000000 in
set_option maxRecDepth 100000 in
theorem lp_be3 {S : St} {I : Isl} (hI : IsX 11 I S) (hO : IOK I) (hT : IsT I S) {L c0 : Nat} (hL1 : 1 ≤ L) (hL7 : L ≤ 6) (h0 : OKc I L c0) (hR : Roomy I L c0) {a l e : Nat} (ha : a ≤ 2) (hl : lhF I = l + 1) (he : rC (bfs I L c0 e) = e ∨ (e < rC (bfs I L c0 e) ∧ a * (l + 1) < rD (bfs I L c0 e) e)) {v1 v2 : Int32} {h en : Nat} {S1 : St} (hE : BeX I L c0 e en (h * a) (dyU I L (fR I L c0) a h) S S1) (hh : h = l + 1)  : ∀ (k : Nat), (k ≤ en) → X 5 150 mX0_best (qi (fun r S' => r = vI (dyA I L c0 a) ∧ Fr FDy S S' ∧ SrX I S')) 127 [(7, .int (nI k)), (6, .int (vI (max 1 (mx (dyU I L (fR I L c0) a h) k)))), (5, .int (nI en)), (4, .int (nI l)), (0, .ref 78), (1, .int v1), (2, .int v2), (3, .int (nI a))] [] S1 := by
  intro k
  induction hm : 8526 - k using Nat.strongRecOn generalizing k with
  | _ mm ih =>
    intro hk
    have hO1 := hO.1
    have hO2 := hO.2.1
    have hO3 := hO.2.2.1
    have hO4 := hO.2.2.2.1
    have hl6 := lh6 hO
    have hfr : rC (fR I L c0) ≤ 8525 := hR.1 _ (bN_ok hO h0).1
    have hen := hE.enN
    have hb1 : mx (dyU I L (fR I L c0) a h) k ≤ 433 := mx_le fun i _ => by have := dy_le (I := I) (L := L) (a := a) (R := (fR I L c0)) hO h i; omega
    have hb2 := dy_le (I := I) (L := L) (a := a) (R := (fR I L c0)) hO h k
    have hmx : (if vI (max 1 (mx (dyU I L (fR I L c0) a h) k)) < vI ((dyU I L (fR I L c0) a h) k) then vI ((dyU I L (fR I L c0) a h) k) else vI (max 1 (mx (dyU I L (fR I L c0) a h) k))) = vI (max 1 (mx (dyU I L (fR I L c0) a h) (k + 1))) := by
      rw [mx_s, ← Nat.max_assoc]
      have t1 := vI_i (show max 1 (mx (dyU I L (fR I L c0) a h) k) ≤ 900 by omega)
      have t2 := vI_i (show (dyU I L (fR I L c0) a h) k ≤ 900 by omega)
      by_cases q : max 1 (mx (dyU I L (fR I L c0) a h) k) < (dyU I L (fR I L c0) a h) k
      · rw [if_pos (Int32.lt_iff_toInt_lt.mpr (by omega)), Nat.max_eq_right (Nat.le_of_lt q)]
      · rw [if_neg (fun z => by have := Int32.lt_iff_toInt_lt.mp z; omega), Nat.max_eq_left (show (dyU I L (fR I L c0) a h) k ≤ max 1 (mx (dyU I L (fR I L c0) a h) k) by omega)]
    refine x_iload 0 dX0_best_127 rfl ?_
    refine x_iload 2 dX0_best_129 rfl ?_
    refine y_ic_ge 154 dX0_best_131 (by decide) (by omega) (by omega) (fun c_131 => ?_) (fun c_131 => ?_)
    · refine x_iload 1 dX0_best_154 rfl ?_
      refine x_iret rfl dX0_best_156 (by
        obtain rfl : k = en := (by omega)
        have e1 := mx_tail (u := (dyU I L (fR I L c0) a h)) (n := k) (m := rC (fR I L c0)) (fun i h1 _ => hE.out hO h0 (sup_dy hO h0 h) i h1) hen
        have e2 : max 1 (mx (dyU I L (fR I L c0) a h) k) = dyA I L c0 a := by rw [← e1, ← dyA_l hO, hl, ← hh]; rfl
        exact ⟨_, rfl, by rw [e2], hE.1, SeX.sr hL1 hL7 h0 hE.2.1⟩)
    · refine x_iload 1 dX0_best_134 rfl ?_
      refine x_aload_n 4 dX0_best_136 rfl rfl ?_
      refine x_getR fX0_9 dX0_best_137 l78 rfl ?_
      refine x_iload 0 dX0_best_140 rfl ?_
      refine y_iald dX0_best_142 l79 (by omega) (by decide) (hE.2.2.2.2.2 k (by omega)).1 ?_
      refine x_max nX0_67 dX0_best_143 (Nat.le_of_ble_eq_true rfl) (Nat.le_of_ble_eq_true rfl) (Nat.le_of_ble_eq_true rfl) ?_
      rw [hmx]
      refine x_istore (lv' := [(6, _), (7, _), (5, _), (4, _), (0, _), (1, _), (2, _), (3, _)]) dX0_best_146 (by decide) rfl ?_
      refine y_iinc (lv' := [(7, _), (6, _), (5, _), (4, _), (0, _), (1, _), (2, _), (3, _)]) 1 dX0_best_148 rfl (by decide) rfl ?_
      refine x_goto 127 dX0_best_151 (by decide) ?_
      refine x_pick (lv' := [(7, _), (6, _), (5, _), (4, _), (0, _), (1, _), (2, _), (3, _)]) [0, 1, 2, 3, 4, 5, 6, 7] rfl ?_
      exact ih (8526 - (k + 1)) (by omega) (k + 1) rfl (by omega)

set_option maxHeartbeats 4000000 in
set_option maxRecDepth 100000 in
theorem lp_be1 {S : St} {I : Isl} (hI : IsX 11 I S) (hO : IOK I) (hT : IsT I S) {L c0 : Nat} (hL1 : 1 ≤ L) (hL7 : L ≤ 6) (h0 : OKc I L c0) (hR : Roomy I L c0) {a l e : Nat} (ha : a ≤ 2) (hl : lhF I = l + 1) (he : rC (bfs I L c0 e) = e ∨ (e < rC (bfs I L c0 e) ∧ a * (l + 1) < rD (bfs I L c0 e) e)) {v1 v2 : Int32} {h : Nat} (hh : h ≤ l) {Q : Option Value → St → Prop} (kk : ∀ en S2, BeX I L c0 e en (h * a + a) (itU I L (fR I L c0) (dyU I L (fR I L c0) a h) a) S S2 → X 5 150 mX0_best Q 99 [(5, .int (nI en)), (6, .int (nI h)), (4, .int (nI l)), (0, .ref 78), (1, .int v1), (2, .int v2), (3, .int (nI a))] [] S2)  : ∀ (j : Nat) (en : Nat) (S1 : St), (j ≤ a) → (BeX I L c0 e en (h * a + j) (itU I L (fR I L c0) (dyU I L (fR I L c0) a h) j) S S1) → X 5 150 mX0_best (Q) 66 [(7, .int (nI ((j + 1)))), (5, .int (nI en)), (6, .int (nI h)), (4, .int (nI l)), (0, .ref 78), (1, .int v1), (2, .int v2), (3, .int (nI a))] [] S1 := by
  intro j en S1
  induction hm : a - j using Nat.strongRecOn generalizing j en S1 with
  | _ mm ih =>
    intro hj hE
    have hO1 := hO.1
    have hO2 := hO.2.1
    have hO3 := hO.2.2.1
    have hO4 := hO.2.2.2.1
    have hl6 := lh6 hO
    have hfr : rC (fR I L c0) ≤ 8525 := hR.1 _ (bN_ok hO h0).1
    have hen := hE.enN
    have hsp := sup_it hO h0 (sup_dy (a := a) hO h0 h) j
    have hout := hE.out hO h0 hsp
    have hla : h * a ≤ l * a := Nat.mul_le_mul_right a hh
    have hla2 : a * (l + 1) = l * a + a := by rw [Nat.mul_comm, Nat.succ_mul]
    have hl2 : l * a ≤ 5 * 2 := Nat.mul_le_mul (by omega) ha
    have hal := alive_le hE.2.1.2.2.2.2.2.2.2
    have hI1 : IsX 11 I S1 := hI.keep (fun a h1 h2 b => hE.1.2 a (by unfold FDy FS; omega) b)
    have hu : ∀ i, (itU I L (fR I L c0) (dyU I L (fR I L c0) a h) j) i ≤ 500 := it_le (fun i => by have := dy_le (I := I) (L := L) (a := a) (R := (fR I L c0)) hO h i; omega) j
    have he2 : j < a → rC (bfs I L c0 e) = e ∨ (e < rC (bfs I L c0 e) ∧ h * a + (j + 1) < rD (bfs I L c0 e) e) := fun q => he.imp id (fun k => ⟨k.1, by omega⟩)
    refine x_iload 0 dX0_best_66 rfl ?_
    refine x_iload_n 7 dX0_best_68 rfl rfl ?_
    refine y_ic_gt 99 dX0_best_69 (by decide) (by omega) (by omega) (fun c_69 => ?_) (fun c_69 => ?_)
    · refine x_pick (lv' := [(5, _), (6, _), (4, _), (0, _), (1, _), (2, _), (3, _)]) [1, 2, 3, 4, 5, 6, 7] rfl ?_
      obtain rfl : j = a := (by omega)
      exact kk en S1 hE
    · refine x_aload_n 4 dX0_best_72 rfl rfl ?_
      refine x_iload 1 dX0_best_73 rfl ?_
      refine x_iload 2 dX0_best_75 rfl ?_
      refine x_iload_n 7 dX0_best_77 rfl rfl ?_
      refine y_imul dX0_best_78 ?_
      refine x_iload 0 dX0_best_79 rfl ?_
      refine y_iadd dX0_best_81 ?_
      refine x_callVqi (as := [_, _]) (rest := []) vX0_54 (c_X0_takeOn (u := (itU I L (fR I L c0) (dyU I L (fR I L c0) a h) j)) hI1 hO h0 hfr (he2 (by omega)) (by omega) (fun i h1 _ => hout i h1) hE.2.1 (Nat.le_trans hE.2.2.1 hal) (fun i hi => Nat.le_trans (hE.2.2.2.1 i hi) (by omega)) ((hE.2.2.2.2.2 0 (hE.pos hO h0 hsp)).1) (hE.2.2.2.2.2)) dX0_best_82 l78 rfl rfl rfl (Nat.le_of_ble_eq_true rfl) (Nat.le_of_ble_eq_true rfl) (Nat.le_of_ble_eq_true rfl) (fun r_82 S_82 q_82 => ?_)
      obtain ⟨en2, rfl, g1, g2, g3, g4, g5, g6, g7, g8⟩ := q_82
      have hI2 : IsX 11 I S_82 := hI1.keep (fun a h1 h2 b => g3.2 a (by unfold FDy FS; omega) b)
      refine x_istore (lv' := [(5, _), (7, _), (6, _), (4, _), (0, _), (1, _), (2, _), (3, _)]) dX0_best_85 (by decide) rfl ?_
      refine x_aload_n 4 dX0_best_87 rfl rfl ?_
      refine x_iload 0 dX0_best_88 rfl ?_
      refine x_callVqv (as := [_]) (rest := []) vX0_58 (c_X0_spread (u := (itU I L (fR I L c0) (dyU I L (fR I L c0) a h) j)) (u' := (itU I L (fR I L c0) (dyU I L (fR I L c0) a h) (j + 1))) hI2 hO h0 g4 g2 hfr (hR.2 e g4.2.2.2.2.2.2.2) hu (fun i hi => hout i (by omega)) (fun i hi => (g8 i hi).1) (fun x hx => stU_mx (by rcases g6 with q | q <;> omega))) dX0_best_90 l78 rfl rfl rfl (Nat.le_of_ble_eq_true rfl) (Nat.le_of_ble_eq_true rfl) (Nat.le_of_ble_eq_true rfl) (fun S_90 q_90 => ?_)
      refine y_iinc (lv' := [(7, _), (5, _), (6, _), (4, _), (0, _), (1, _), (2, _), (3, _)]) 1 dX0_best_93 rfl (by decide) rfl ?_
      refine x_goto 66 dX0_best_96 (by decide) ?_
      refine x_pick (lv' := [(7, _), (5, _), (6, _), (4, _), (0, _), (1, _), (2, _), (3, _)]) [0, 1, 2, 3, 4, 5, 6, 7] rfl ?_
      refine ih (a - (j + 1)) (by omega) (j + 1) en2 S_90 rfl (by omega) ⟨(hE.1.trans g3).trans (q_90.1.wider (fun a h => by unfold FDy; omega)), g4.keep (fun a b ha => q_90.1.2 a (by omega) b) (q_90.1.2 45 (by decide) 5), g2, g5, g6, fun i hi => ⟨q_90.2 i hi, (q_90.1.2 81 (by decide) i).trans (g8 i hi).2⟩⟩

set_option maxHeartbeats 4000000 in
set_option maxRecDepth 100000 in
theorem lp_be12 {S : St} {I : Isl} (hI : IsX 11 I S) (hO : IOK I) (hT : IsT I S) {L c0 : Nat} (hL1 : 1 ≤ L) (hL7 : L ≤ 6) (h0 : OKc I L c0) (hR : Roomy I L c0) {a l e : Nat} (ha : a ≤ 2) (hl : lhF I = l + 1) (he : rC (bfs I L c0 e) = e ∨ (e < rC (bfs I L c0 e) ∧ a * (l + 1) < rD (bfs I L c0 e) e)) {v1 v2 : Int32} {h : Nat} (hh : h ≤ l) {Q : Option Value → St → Prop} (kk : ∀ en S2, BeX I L c0 e en ((h + 1) * a) (dyU I L (fR I L c0) a (h + 1)) S S2 → X 5 150 mX0_best Q 56 [(6, .int (nI (h + 1))), (5, .int (nI en)), (4, .int (nI l)), (0, .ref 78), (1, .int v1), (2, .int v2), (3, .int (nI a))] [] S2)  : ∀ (en : Nat) (S1 : St), (BeX I L c0 e en (h * a + a) (itU I L (fR I L c0) (dyU I L (fR I L c0) a h) a) S S1) → X 5 150 mX0_best (Q) 99 [(5, .int (nI en)), (6, .int (nI h)), (4, .int (nI l)), (0, .ref 78), (1, .int v1), (2, .int v2), (3, .int (nI a))] [] S1 := by
  intro en S1
  induction hm : 0 * en using Nat.strongRecOn generalizing en S1 with
  | _ mm ih =>
    intro hE
    have hO1 := hO.1
    have hO2 := hO.2.1
    have hO3 := hO.2.2.1
    have hO4 := hO.2.2.2.1
    have hl6 := lh6 hO
    have hfr : rC (fR I L c0) ≤ 8525 := hR.1 _ (bN_ok hO h0).1
    have hen := hE.enN
    have hsp := sup_it hO h0 (sup_dy (a := a) hO h0 h) a
    have hI1 : IsX 11 I S1 := hI.keep (fun a h1 h2 b => hE.1.2 a (by unfold FDy FS; omega) b)
    have hT1 : IsT I S1 := hT.keep (fun a b hab => hE.1.2 a (by unfold FDy FS; omega) b)
    have hby : S1.1 21 h = nI (hmF I h) := hT1.1 h (by omega)
    refine x_aload_n 3 dX0_best_99 rfl rfl ?_
    refine x_aload_n 3 dX0_best_100 rfl rfl ?_
    refine x_getR fX0_21 dX0_best_101 l78 rfl ?_
    refine x_getR fX0_61 dX0_best_104 l11 rfl ?_
    refine x_iload 1 dX0_best_107 rfl ?_
    refine y_iald dX0_best_109 l21 (by omega) (by decide) hby ?_
    refine x_iload 0 dX0_best_110 rfl ?_
    refine x_callVqv (as := [_, _]) (rest := []) vX0_64 (c_X0_gain (u := (itU I L (fR I L c0) (dyU I L (fR I L c0) a h) a)) hI1 hO hT1 (hm_lt I h) (by omega) hE.2.2.2.2.2) dX0_best_112 l78 rfl rfl rfl (Nat.le_of_ble_eq_true rfl) (Nat.le_of_ble_eq_true rfl) (Nat.le_of_ble_eq_true rfl) (fun S_112 q_112 => ?_)
    refine y_iinc (lv' := [(6, _), (5, _), (4, _), (0, _), (1, _), (2, _), (3, _)]) 1 dX0_best_115 rfl (by decide) rfl ?_
    refine x_goto 56 dX0_best_118 (by decide) ?_
    refine x_pick (lv' := [(6, _), (5, _), (4, _), (0, _), (1, _), (2, _), (3, _)]) [0, 1, 2, 3, 4, 5, 6] rfl ?_
    refine kk en S_112 ⟨hE.1.trans (q_112.1.wider (fun a h => by unfold FDy; omega)), hE.2.1.keep (fun a b ha => q_112.1.2 a (by omega) b) (q_112.1.2 45 (by decide) 5), hE.2.2.1, by rw [Nat.succ_mul]; exact hE.2.2.2.1, by rw [Nat.succ_mul]; exact hE.2.2.2.2.1, fun i hi => ⟨?_, (q_112.1.2 81 (by decide) i).trans (hE.2.2.2.2.2 i hi).2⟩⟩
    rw [q_112.2 i hi]
    exact congrArg vI (gn_p (hE.ins hsp i hi)).symm

set_option maxHeartbeats 4000000 in
set_option maxRecDepth 100000 in
theorem lp_be2 {S : St} {I : Isl} (hI : IsX 11 I S) (hO : IOK I) (hT : IsT I S) {L c0 : Nat} (hL1 : 1 ≤ L) (hL7 : L ≤ 6) (h0 : OKc I L c0) (hR : Roomy I L c0) {a l e : Nat} (ha : a ≤ 2) (hl : lhF I = l + 1) (he : rC (bfs I L c0 e) = e ∨ (e < rC (bfs I L c0 e) ∧ a * (l + 1) < rD (bfs I L c0 e) e)) {v1 v2 : Int32}  : ∀ (h : Nat) (en : Nat) (S1 : St), (h ≤ l + 1) → (BeX I L c0 e en (h * a) (dyU I L (fR I L c0) a h) S S1) → X 5 150 mX0_best (qi (fun r S' => r = vI (dyA I L c0 a) ∧ Fr FDy S S' ∧ SrX I S')) 56 [(6, .int (nI h)), (5, .int (nI en)), (4, .int (nI l)), (0, .ref 78), (1, .int v1), (2, .int v2), (3, .int (nI a))] [] S1 := by
  intro h en S1
  induction hm : l + 1 - h using Nat.strongRecOn generalizing h en S1 with
  | _ mm ih =>
    intro hh hE
    have hO1 := hO.1
    have hO2 := hO.2.1
    have hO3 := hO.2.2.1
    have hO4 := hO.2.2.2.1
    have hl6 := lh6 hO
    have hfr : rC (fR I L c0) ≤ 8525 := hR.1 _ (bN_ok hO h0).1
    have hen := hE.enN
    refine x_iload 0 dX0_best_56 rfl ?_
    refine x_iload 2 dX0_best_58 rfl ?_
    refine y_ic_gt 121 dX0_best_60 (by decide) (by omega) (by omega) (fun c_60 => ?_) (fun c_60 => ?_)
    · refine x_iconst (v := nI 0) dX0_best_121 (by decide) ?_
      refine x_istore (lv' := [(6, _), (5, _), (4, _), (0, _), (1, _), (2, _), (3, _)]) dX0_best_122 (by decide) rfl ?_
      refine x_iconst (v := nI 0) dX0_best_124 (by decide) ?_
      refine x_istore (lv' := [(7, _), (6, _), (5, _), (4, _), (0, _), (1, _), (2, _), (3, _)]) dX0_best_125 (by decide) rfl ?_
      refine x_pick (lv' := [(7, _), (6, _), (5, _), (4, _), (0, _), (1, _), (2, _), (3, _)]) [0, 1, 2, 3, 4, 5, 6, 7] rfl ?_
      have hh9 := lp_be3 hI hO hT hL1 hL7 h0 hR ha hl he hE (v1 := v1) (v2 := v2) (by omega) 0 (Nat.zero_le _)
      have e9 : vI (max 1 (mx (dyU I L (fR I L c0) a h) 0)) = nI 0 := vI_1
      rw [e9] at hh9
      exact hh9
    · refine x_iconst (v := nI 1) dX0_best_63 (by decide) ?_
      refine x_istore (lv' := [(7, _), (6, _), (5, _), (4, _), (0, _), (1, _), (2, _), (3, _)]) dX0_best_64 (by decide) rfl ?_
      refine x_pick (lv' := [(7, _), (5, _), (6, _), (4, _), (0, _), (1, _), (2, _), (3, _)]) [0, 2, 1, 3, 4, 5, 6, 7] rfl ?_
      exact lp_be1 hI hO hT hL1 hL7 h0 hR ha hl he (by omega) (fun en2 S2 hE2 => lp_be12 hI hO hT hL1 hL7 h0 hR ha hl he (by omega) (fun en3 S3 hE3 => ih (l + 1 - (h + 1)) (by omega) (h + 1) en3 S3 rfl (by omega) hE3) en2 S2 hE2) 0 en S1 (Nat.zero_le _) hE

set_option maxHeartbeats 4000000 in
set_option maxRecDepth 100000 in
theorem c_X0_best {S : St} {I : Isl} (hI : IsX 11 I S) (hO : IOK I) (hT : IsT I S) {L c0 : Nat} (hL1 : 1 ≤ L) (hL7 : L ≤ 6) (h0 : OKc I L c0) (hR : Roomy I L c0) (hs : SrX I S) {a : Nat} (ha : a ≤ 2)  : C 5 150 yX0_best mX0_best [.ref 78, .int (nI c0), .int (nI L), .int (nI a)] S (qi (fun r S' => r = vI (dyA I L c0 a) ∧ Fr FDy S S' ∧ SrX I S')) := by
  have hO1 := hO.1
  have hO2 := hO.2.1
  have hO3 := hO.2.2.1
  have hO4 := hO.2.2.2.1
  have hl6 := lh6 hO
  have hfr : rC (fR I L c0) ≤ 8525 := hR.1 _ (bN_ok hO h0).1
  refine C.ofX (by decide) rfl (Nat.le_of_ble_eq_true rfl) ?_
  show X 5 150 mX0_best (qi (fun r S' => r = vI (dyA I L c0 a) ∧ Fr FDy S S' ∧ SrX I S')) 0 [(0, .ref 78), (1, .int (nI c0)), (2, .int (nI L)), (3, .int (nI a))] [] S
  refine x_aload_n 0 dX0_best_0 rfl rfl ?_
  refine x_getR fX0_21 dX0_best_1 l78 rfl ?_
  refine x_callVu (as := []) (rest := []) vX0_38 (c_last hI hO) dX0_best_4 l11 rfl rfl rfl (Nat.le_of_ble_eq_true rfl) (Nat.le_of_ble_eq_true rfl) (Nat.le_of_ble_eq_true rfl) ?_
  refine x_istore (lv' := [(4, _), (0, _), (1, _), (2, _), (3, _)]) dX0_best_7 (by decide) rfl ?_
  refine x_iload 0 dX0_best_9 rfl ?_
  refine x_if_ge 16 dX0_best_11 (by decide) (fun c_11 => ?_) (fun c_11 => ?_)
  · obtain ⟨l, hl⟩ : ∃ l, lhF I = l + 1 := by
      rcases hq : lhF I with _ | l
      · rw [hq] at c_11; exact absurd c_11 (by decide)
      · exact ⟨l, rfl⟩
    have hal : a * (l + 1) ≤ 2 * 6 := Nat.mul_le_mul ha (by omega)
    rw [hl, vI_p]
    refine x_aload_n 1 dX0_best_16 rfl rfl ?_
    refine x_getR fX0_25 dX0_best_17 l78 rfl ?_
    refine x_iload_n 2 dX0_best_20 rfl rfl ?_
    refine x_iload_n 3 dX0_best_21 rfl rfl ?_
    refine x_callVqv (as := [_, _]) (rest := []) vX0_44 (c_X6_begin hI hO hL1 hL7 h0 hs) dX0_best_22 l74 rfl rfl rfl (Nat.le_of_ble_eq_true rfl) (Nat.le_of_ble_eq_true rfl) (Nat.le_of_ble_eq_true rfl) (fun S_22 q_22 => ?_)
    obtain ⟨f1, e0, f2⟩ := q_22
    have hI1 : IsX 11 I S_22 := hI.keep (fun a h1 h2 b => f1.2 a (by unfold FS; omega) b)
    refine x_aload_n 1 dX0_best_25 rfl rfl ?_
    refine x_getR fX0_25 dX0_best_26 l78 rfl ?_
    refine x_iload_n 4 dX0_best_29 rfl rfl ?_
    refine x_iload 0 dX0_best_30 rfl ?_
    refine x_iconst (v := nI 1) dX0_best_32 (by decide) ?_
    refine y_iadd dX0_best_33 ?_
    refine y_imul dX0_best_34 ?_
    refine x_callVqv (as := [_]) (rest := []) vX0_50 (c_X6_expandTo hI1 hO hL7 h0 hR f2 (k := a * (l + 1)) (by omega) (hDall2 hO h0 hR)) dX0_best_35 l74 rfl rfl rfl (Nat.le_of_ble_eq_true rfl) (Nat.le_of_ble_eq_true rfl) (Nat.le_of_ble_eq_true rfl) (fun S_35 q_35 => ?_)
    obtain ⟨e, g1, g2, g3, g4⟩ := q_35
    have hI2 : IsX 11 I S_35 := hI1.keep (fun a h1 h2 b => g1.2 a (by unfold FS; omega) b)
    have hI3 : IsX 11 I (setI S_35 79 0 (nI 0)) := hI2.keep (fun a h1 h2 b => rdI_k (by omega))
    have hx3 : SeX I L c0 e (setI S_35 79 0 (nI 0)) := g2.keep (fun a b ha => rdI_k (by omega)) (rdI_k (by decide))
    refine x_aload_n 1 dX0_best_38 rfl rfl ?_
    refine x_getR fX0_9 dX0_best_39 l78 rfl ?_
    refine x_iconst (v := nI 0) dX0_best_42 (by decide) ?_
    refine x_iconst (v := nI 0) dX0_best_43 (by decide) ?_
    refine y_iast dX0_best_44 l79 (by omega) (by decide) ?_
    refine x_aload_n 1 dX0_best_45 rfl rfl ?_
    refine x_iconst (v := nI 0) dX0_best_46 (by decide) ?_
    refine x_iconst (v := nI 0) dX0_best_47 (by decide) ?_
    refine x_callVqi (as := [_, _]) (rest := []) vX0_54 (c_X0_takeOn (u := fun x => if x = 0 then 1 else 0) hI3 hO h0 hfr (g4.imp id (fun k => ⟨k.1, by omega⟩)) (by omega) (fun i _ h1 => if_neg (by omega)) hx3 (Nat.zero_le _) (fun j hj => absurd hj (Nat.not_lt_zero j)) rdI_eq (fun j hj => absurd hj (Nat.not_lt_zero j))) dX0_best_48 l78 rfl rfl rfl (Nat.le_of_ble_eq_true rfl) (Nat.le_of_ble_eq_true rfl) (Nat.le_of_ble_eq_true rfl) (fun r_48 S_48 q_48 => ?_)
    obtain ⟨en, rfl, k1, k2, k3, k4, k5, k6, k7, k8⟩ := q_48
    have hE : BeX I L c0 e en (0 * a) (dyU I L (fR I L c0) a 0) S S_48 := ⟨((f1.trans g1).wider (fun a h => Or.inl h)).trans (⟨k3.1, fun a h b => (k3.2 a h b).trans (rdI_k (fun q => h (Or.inr (Or.inr (by omega)))))⟩), k4, k2, by rw [Nat.zero_mul]; exact k5, by rw [Nat.zero_mul]; exact k6, k8⟩
    refine x_istore (lv' := [(5, _), (4, _), (0, _), (1, _), (2, _), (3, _)]) dX0_best_51 (by decide) rfl ?_
    refine x_iconst (v := nI 0) dX0_best_53 (by decide) ?_
    refine x_istore (lv' := [(6, _), (5, _), (4, _), (0, _), (1, _), (2, _), (3, _)]) dX0_best_54 (by decide) rfl ?_
    refine x_pick (lv' := [(6, _), (5, _), (4, _), (0, _), (1, _), (2, _), (3, _)]) [0, 1, 2, 3, 4, 5, 6] rfl ?_
    exact lp_be2 hI hO hT hL1 hL7 h0 hR ha hl g4 0 en S_48 (Nat.zero_le _) hE
  · refine x_iconst (v := nI 0) dX0_best_14 (by decide) ?_
    refine x_iret rfl dX0_best_15 (by
      refine ⟨_, rfl, ?_, Fr.refl, hs⟩
      have hz : lhF I = 0 := by
        rcases hq : lhF I with _ | l
        · rfl
        · rw [hq] at c_11
          have := vI_i (show l + 1 ≤ 900 by omega)
          exact absurd c_11 (by omega)
      have e1 : dyA I L c0 a = 1 := by
        rw [← dyA_l hO, hz]
        refine Nat.le_antisymm (Nat.max_le.mpr ⟨Nat.le_refl _, mx_le fun i _ => ?_⟩) (Nat.le_max_left _ _)
        exact dy_le (I := I) (L := L) (a := a) (R := fR I L c0) hO 0 i
      rw [e1, vI_1])

