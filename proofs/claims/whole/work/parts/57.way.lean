/-! ===== the reference: fewest, way ===== -/

set_option maxHeartbeats 400000 in
set_option maxRecDepth 100000 in
theorem c_X11_fewest {S : St} {I : Isl} (hI : IsM I S) (hO : IOK I) {w : Nat → Nat} (hw0 : ∀ t, t < iM I → S.1 93 t = nI (w t)) {L : Nat} (hL : S.1 83 17 = nI L) (hL7 : L ≤ 6) (hv : VS I w L) (hS : RwM S) {x : Int32} : C 6 180 yX11_fewest mX11_fewest [.ref 83, .int x] S (qi (i5 (¬ (0 ≤ x.toInt ∧ x.toInt < 6)) ((S.1 85 (tn x)).toInt < 0) (¬ (S.1 85 (tn x)).toInt = (iM I : Int)) (¬ ∀ t, t < iM I → (S.1 86 (60 * tn x + t) = -1 ∨ S.1 86 (60 * tn x + t) = nI 4 ∨ (0 ≤ (S.1 86 (60 * tn x + t)).toInt ∧ (S.1 86 (60 * tn x + t)).toInt < (iP I : Int)))) (an (-1) S) (an (-3) (fndM S 1)) (an (-3) (fndM S 5)) (an (-3) (fndM S 3)) (fun r S' => (∃ i, i < rC (fR I L (codeF I w)) ∧ wantP I (fun t => S.1 86 (60 * tn x + t)) (rK (fR I L (codeF I w)) i) ∧ (∀ j, j < i → ¬ wantP I (fun t => S.1 86 (60 * tn x + t)) (rK (fR I L (codeF I w)) j)) ∧ r = nI (rD (fR I L (codeF I w)) i) ∧ ∃ S2, FrN S S2 ∧ S' = setI S2 83 2 (nI (sm (nearT I L (codeF I w) i (fun t => S.1 86 (60 * tn x + t))) (rC (fR I L (codeF I w)))))) ∨ (r = -9 ∧ (∀ j, j < rC (fR I L (codeF I w)) → ¬ wantP I (fun t => S.1 86 (60 * tn x + t)) (rK (fR I L (codeF I w)) j)) ∧ FrN S S')))) := by
  have hO1 := hO.1
  have hO2 := hO.2.1
  have hO3 := hO.2.2.1
  have hO4 := hO.2.2.2.1
  refine C.ofX (by decide) rfl (Nat.le_of_ble_eq_true rfl) ?_
  show X 6 180 mX11_fewest (qi (i5 (¬ (0 ≤ x.toInt ∧ x.toInt < 6)) ((S.1 85 (tn x)).toInt < 0) (¬ (S.1 85 (tn x)).toInt = (iM I : Int)) (¬ ∀ t, t < iM I → (S.1 86 (60 * tn x + t) = -1 ∨ S.1 86 (60 * tn x + t) = nI 4 ∨ (0 ≤ (S.1 86 (60 * tn x + t)).toInt ∧ (S.1 86 (60 * tn x + t)).toInt < (iP I : Int)))) (an (-1) S) (an (-3) (fndM S 1)) (an (-3) (fndM S 5)) (an (-3) (fndM S 3)) (fun r S' => (∃ i, i < rC (fR I L (codeF I w)) ∧ wantP I (fun t => S.1 86 (60 * tn x + t)) (rK (fR I L (codeF I w)) i) ∧ (∀ j, j < i → ¬ wantP I (fun t => S.1 86 (60 * tn x + t)) (rK (fR I L (codeF I w)) j)) ∧ r = nI (rD (fR I L (codeF I w)) i) ∧ ∃ S2, FrN S S2 ∧ S' = setI S2 83 2 (nI (sm (nearT I L (codeF I w) i (fun t => S.1 86 (60 * tn x + t))) (rC (fR I L (codeF I w)))))) ∨ (r = -9 ∧ (∀ j, j < rC (fR I L (codeF I w)) → ¬ wantP I (fun t => S.1 86 (60 * tn x + t)) (rK (fR I L (codeF I w)) j)) ∧ FrN S S')))) 0 [(0, .ref 83), (1, .int x)] [] S
  refine x_iload_n 1 dX11_fewest_0 rfl rfl ?_
  refine x_callSb (as := [_]) (rest := []) sX11_108 c_X11_isRow dX11_fewest_1 rfl rfl (Nat.le_of_ble_eq_true rfl) (Nat.le_of_ble_eq_true rfl) (Nat.le_of_ble_eq_true rfl) (fun c_1 => ?_) (fun c_1 => ?_)
  · refine t_if_ne 9 dX11_fewest_4 (by decide) (by decide) ?_
    obtain ⟨a, ha, rfl⟩ := nI_ex (x := x) (n := 6) (by omega) (by omega)
    have ea : (nI a).toInt = (a : Int) := tiN (by omega)
    have ta : tn (nI a) = a := tnN (by omega)
    refine x_aload_n 0 dX11_fewest_9 rfl rfl ?_
    refine x_iload_n 1 dX11_fewest_10 rfl rfl ?_
    refine x_callVu (as := [_]) (rest := []) vX11_281 (c_X11_needWanted hI hO hS ha) dX11_fewest_11 l83 rfl rfl rfl (Nat.le_of_ble_eq_true rfl) (Nat.le_of_ble_eq_true rfl) (Nat.le_of_ble_eq_true rfl) ?_
    refine x_istore_n (lv' := [(2, _), (0, _), (1, _)]) dX11_fewest_14 rfl (by decide) rfl ?_
    refine x_iload_n 0 dX11_fewest_15 rfl rfl ?_
    refine x_if_ge 21 dX11_fewest_16 (by decide) (fun c_16 => ?_) (fun c_16 => ?_)
    · have n0 : (nI 0).toInt = 0 := rfl
      obtain ⟨n1, n2, n3⟩ := need_ok c_16
      refine x_cast (e4_3 n1 n2 n3) ?_
      refine x_aload_n 1 dX11_fewest_21 rfl rfl ?_
      refine x_iload_n 2 dX11_fewest_22 rfl rfl ?_
      refine x_callVqi (as := [_]) (rest := []) vX11_284 (c_X11_nearest hI hO hw0 hL hL7 hv ha (fun t ht => Classical.byContradiction fun k => n3 (fun q => k (q t ht)))) dX11_fewest_23 l83 rfl rfl rfl (Nat.le_of_ble_eq_true rfl) (Nat.le_of_ble_eq_true rfl) (Nat.le_of_ble_eq_true rfl) (fun r_23 S_23 q_23 => ?_)
      obtain ⟨f1, f2, f3⟩ := q_23
      refine x_istore_n (lv' := [(3, _), (2, _), (0, _), (1, _)]) dX11_fewest_26 rfl (by decide) rfl ?_
      refine x_iload_n 0 dX11_fewest_27 rfl rfl ?_
      refine x_bipush (v := -9) dX11_fewest_28 (by decide) ?_
      refine x_ic_ne 38 dX11_fewest_30 (by decide) (fun c_30 => ?_) (fun c_30 => ?_)
      · obtain ⟨f, g1, g2, g3, g4, g5⟩ := f3.resolve_left (fun k => c_30 k.1)
        refine x_aload_n 2 dX11_fewest_38 rfl rfl ?_
        refine x_aload_n 2 dX11_fewest_39 rfl rfl ?_
        refine y_getI fX11_275 dX11_fewest_40 l83 rfl g5 ?_
        refine x_iload_n 0 dX11_fewest_43 rfl rfl ?_
        refine x_callVu (as := [_, _]) (rest := []) vX11_120 c_X11_tells dX11_fewest_44 l83 rfl rfl rfl (Nat.le_of_ble_eq_true rfl) (Nat.le_of_ble_eq_true rfl) (Nat.le_of_ble_eq_true rfl) ?_
        refine x_iret rfl dX11_fewest_47 (by simp only [ta]; first | (rw [g4]; exact q5_4 (by omega) n1 n2 n3 (Or.inl ⟨f, g1, g2, g3, rfl, _, f1, rfl⟩)) | (rcases f3 with ⟨_, f4⟩ | ⟨f, f5, _, _, f4, _⟩; exact q5_4 (by omega) n1 n2 n3 (Or.inr ⟨rfl, f4, f1⟩); exact absurd (f4.symm.trans c_30) (nI_ne9 (by have := (f2.2.2.1 f f5).2.2.2; omega))))
      · refine x_bipush (v := -9) dX11_fewest_33 (by decide) ?_
        refine x_goto 47 dX11_fewest_35 (by decide) ?_
        refine x_iret rfl dX11_fewest_47 (by simp only [ta]; first | (rw [g4]; exact q5_4 (by omega) n1 n2 n3 (Or.inl ⟨f, g1, g2, g3, rfl, _, f1, rfl⟩)) | (rcases f3 with ⟨_, f4⟩ | ⟨f, f5, _, _, f4, _⟩; exact q5_4 (by omega) n1 n2 n3 (Or.inr ⟨rfl, f4, f1⟩); exact absurd (f4.symm.trans c_30) (nI_ne9 (by have := (f2.2.2.1 f f5).2.2.2; omega))))
    · refine x_iload_n 0 dX11_fewest_19 rfl rfl ?_
      refine x_iret rfl dX11_fewest_20 (by simp only [ta]; exact need_no (by omega) c_16)
  · refine u_if_ne 9 dX11_fewest_4 (by decide) (by decide) ?_
    refine x_iconst (v := -1) dX11_fewest_7 (by decide) ?_
    refine x_iret rfl dX11_fewest_8 (q5_0 c_1 ⟨rfl, rfl⟩)

/-! what leads on -/
noncomputable def ixT (I : Isl) (R : Rs) (i s : Nat) : Nat := ixR R (nx I (rK R i) s)
def leadK (I : Isl) (L : Nat) (R : Rs) (W : Nat → Prop) : Nat → Nat → Prop
  | 0, i => W i
  | k + 1, i => ∃ s, s < 7 * iM I ∧ mb I L (rK R i) s = true ∧ rD R (ixT I R i s) = rD R i + 1 ∧ leadK I L R W k (ixT I R i s)
def leadN (I : Isl) (L : Nat) (R : Rs) (W : Nat → Prop) (n i : Nat) : Prop := rD R i ≤ n ∧ leadK I L R W (n - rD R i) i
theorem ixT_ok {I : Isl} {L c0 i s : Nat} (hO : IOK I) (h0 : OKc I L c0) (hi : i < rC (fR I L c0)) (hs : s < 7 * iM I) (hm : mb I L (rK (fR I L c0) i) s = true) :
    ixT I (fR I L c0) i s < rC (fR I L c0) ∧ rK (fR I L c0) (ixT I (fR I L c0) i s) = nx I (rK (fR I L c0) i) s ∧ (ixT I (fR I L c0) i s = 0 ∨ rB (fR I L c0) (ixT I (fR I L c0) i s) < i ∨ (rB (fR I L c0) (ixT I (fR I L c0) i s) = i ∧ rY (fR I L c0) (ixT I (fR I L c0) i s) ≤ s)) := by
  have hv := fR_inv hO h0
  have hN := (bN_ok hO h0).2
  obtain ⟨k, k1, k2, k3⟩ := hv.2.2.2.2.1 i s hi (Or.inl (by omega)) hs hm
  have hok := ixR_ok (R := fR I L c0) (c := nx I (rK (fR I L c0) i) s) ⟨k, k1, k2⟩
  have e : ixR (fR I L c0) (nx I (rK (fR I L c0) i) s) = k := hv.2.1 _ _ hok.1 k1 (hok.2.trans k2.symm)
  unfold ixT
  rw [e]
  exact ⟨k1, k2, k3⟩
theorem ixT_by {I : Isl} {L c0 j : Nat} (hO : IOK I) (h0 : OKc I L c0) (hj0 : 0 < j) (hj : j < rC (fR I L c0)) : ixT I (fR I L c0) (rB (fR I L c0) j) (rY (fR I L c0) j) = j := by
  have hv := fR_inv hO h0
  obtain ⟨a, b, c, d, e, f⟩ := hv.2.2.2.1 j hj0 hj
  have h1 := ixT_ok hO h0 (i := rB (fR I L c0) j) (by omega) b c
  exact hv.2.1 _ _ h1.1 hj (h1.2.1.trans d)
theorem lead_min {I : Isl} {L c0 f : Nat} {W : Nat → Prop} (hO : IOK I) (h0 : OKc I L c0) (hf : f < rC (fR I L c0)) (hW : W f) (hn : ∀ j, j < f → ¬ W j) : ∀ k, k ≤ rD (fR I L c0) f →
    leadK I L (fR I L c0) W k (upR (fR I L c0) f k) ∧ ∀ j, j < rC (fR I L c0) → rD (fR I L c0) j + k = rD (fR I L c0) f → leadK I L (fR I L c0) W k j → upR (fR I L c0) f k ≤ j
  | 0, _ => ⟨hW, fun j _ _ hl => by
      rcases Nat.lt_or_ge j f with q | q
      · exact absurd hl (hn j q)
      · exact q⟩
  | k + 1, hk => by
    obtain ⟨ih1, ih2⟩ := lead_min hO h0 hf hW hn k (by omega)
    have hu := upR_d hO h0 hf k (by omega)
    have hv := fR_inv hO h0
    have hne : 0 < upR (fR I L c0) f k := by
      rcases Nat.eq_zero_or_pos (upR (fR I L c0) f k) with q | q
      · rw [q, hv.1.2.2] at hu; omega
      · exact q
    have hlt : upR (fR I L c0) f k < rC (fR I L c0) := by omega
    obtain ⟨a, b, c, d, e, _⟩ := hv.2.2.2.1 _ hne hlt
    have hix := ixT_by hO h0 hne hlt
    refine ⟨⟨rY (fR I L c0) (upR (fR I L c0) f k), b, c, by show rD (fR I L c0) (ixT I (fR I L c0) (rB (fR I L c0) (upR (fR I L c0) f k)) _) = rD (fR I L c0) (rB (fR I L c0) (upR (fR I L c0) f k)) + 1; rw [hix]; exact e, by show leadK I L (fR I L c0) W k (ixT I (fR I L c0) (rB (fR I L c0) (upR (fR I L c0) f k)) _); rw [hix]; exact ih1⟩, fun j hj hd hl => ?_⟩
    obtain ⟨s, s1, s2, s3, s4⟩ := hl
    have ht := ixT_ok hO h0 hj s1 s2
    have hm := ih2 _ ht.1 (by omega) s4
    have hr0 : ¬ ixT I (fR I L c0) j s = 0 := fun q => by rw [q, hv.1.2.2] at s3; omega
    show rB (fR I L c0) (upR (fR I L c0) f k) ≤ j
    by_cases q : upR (fR I L c0) f k = ixT I (fR I L c0) j s
    · rw [q]; omega
    · have h6 := hv.2.2.2.2.2 (upR (fR I L c0) f k) (ixT I (fR I L c0) j s) hne (by omega) ht.1
      omega
/-- from the k + 1-th before f the least step that leads on is the tree's -/
theorem lead_step {I : Isl} {L c0 f k : Nat} {W : Nat → Prop} (hO : IOK I) (h0 : OKc I L c0) (hf : f < rC (fR I L c0)) (hW : W f) (hn : ∀ j, j < f → ¬ W j) (hk : k + 1 ≤ rD (fR I L c0) f) :
    (rY (fR I L c0) (upR (fR I L c0) f k) < 7 * iM I ∧ mb I L (rK (fR I L c0) (upR (fR I L c0) f (k + 1))) (rY (fR I L c0) (upR (fR I L c0) f k)) = true ∧ ixT I (fR I L c0) (upR (fR I L c0) f (k + 1)) (rY (fR I L c0) (upR (fR I L c0) f k)) = upR (fR I L c0) f k ∧ leadN I L (fR I L c0) W (rD (fR I L c0) f) (upR (fR I L c0) f k)) ∧
    ∀ s, s < rY (fR I L c0) (upR (fR I L c0) f k) → ¬ (mb I L (rK (fR I L c0) (upR (fR I L c0) f (k + 1))) s = true ∧ rD (fR I L c0) (ixT I (fR I L c0) (upR (fR I L c0) f (k + 1)) s) = rD (fR I L c0) (upR (fR I L c0) f (k + 1)) + 1 ∧ leadN I L (fR I L c0) W (rD (fR I L c0) f) (ixT I (fR I L c0) (upR (fR I L c0) f (k + 1)) s)) := by
  have hu := upR_d hO h0 hf k (by omega)
  have hu1 := upR_d hO h0 hf (k + 1) hk
  have hv := fR_inv hO h0
  have hm := lead_min hO h0 hf hW hn k (by omega)
  have hne : 0 < upR (fR I L c0) f k := by
    rcases Nat.eq_zero_or_pos (upR (fR I L c0) f k) with q | q
    · rw [q, hv.1.2.2] at hu; omega
    · exact q
  have hlt : upR (fR I L c0) f k < rC (fR I L c0) := by omega
  obtain ⟨a, b, c, d, e, _⟩ := hv.2.2.2.1 _ hne hlt
  have hix := ixT_by hO h0 hne hlt
  have eu : upR (fR I L c0) f (k + 1) = rB (fR I L c0) (upR (fR I L c0) f k) := rfl
  rw [eu] at hu1 ⊢
  refine ⟨⟨b, c, hix, by omega, by rw [show rD (fR I L c0) f - rD (fR I L c0) (upR (fR I L c0) f k) = k by omega]; exact hm.1⟩, fun s hs hq => ?_⟩
  obtain ⟨q1, q2, q3, q4⟩ := hq
  have ht := ixT_ok hO h0 (i := rB (fR I L c0) (upR (fR I L c0) f k)) (by omega) (s := s) (by omega) q1
  have hd2 : rD (fR I L c0) (ixT I (fR I L c0) (rB (fR I L c0) (upR (fR I L c0) f k)) s) + k = rD (fR I L c0) f := by omega
  rw [show rD (fR I L c0) f - rD (fR I L c0) (ixT I (fR I L c0) (rB (fR I L c0) (upR (fR I L c0) f k)) s) = k by omega] at q4
  have hmin := hm.2 _ ht.1 hd2 q4
  have hr0 : ¬ ixT I (fR I L c0) (rB (fR I L c0) (upR (fR I L c0) f k)) s = 0 := fun q => by rw [q, hv.1.2.2] at q2; omega
  by_cases q : upR (fR I L c0) f k = ixT I (fR I L c0) (rB (fR I L c0) (upR (fR I L c0) f k)) s
  · rw [← q] at ht; omega
  · have h6 := hv.2.2.2.2.2 (upR (fR I L c0) f k) (ixT I (fR I L c0) (rB (fR I L c0) (upR (fR I L c0) f k)) s) hne (by omega) ht.1
    omega
