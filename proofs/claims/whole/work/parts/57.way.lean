/-! ===== the reference: fewest, way ===== -/

set_option maxHeartbeats 4000000 in
set_option maxRecDepth 100000 in
theorem c_X11_fewest {S : St} {I : Isl} (hI : IsM I S) (hO : IOK I) {w : Nat → Nat} (hw0 : ∀ t, t < iM I → S.1 93 t = nI (w t)) {L : Nat} (hL : S.1 83 17 = nI L) (hL7 : L ≤ 6) (hv : VS I w L) (hS : RwM S) {x : Int32} : C 6 180 yX11_fewest mX11_fewest [.ref 83, .int x] S (qi (i5 (¬ (0 ≤ x.toInt ∧ x.toInt < 6)) ((S.1 85 (tn x)).toInt < 0) (¬ (S.1 85 (tn x)).toInt = (iM I : Int)) (¬ ∀ t, t < iM I → (S.1 86 (60 * tn x + t) = -1 ∨ S.1 86 (60 * tn x + t) = nI 4 ∨ (0 ≤ (S.1 86 (60 * tn x + t)).toInt ∧ (S.1 86 (60 * tn x + t)).toInt < (iP I : Int)))) (an (-1) S) (an (-3) (fndM S 1)) (an (-3) (fndM S 5)) (an (-3) (fndM S 3)) (fun r S' => (∃ i, i < rC (fR I L (codeF I w)) ∧ wantP I (fun t => S.1 86 (60 * tn x + t)) (rK (fR I L (codeF I w)) i) ∧ (∀ j, j < i → ¬ wantP I (fun t => S.1 86 (60 * tn x + t)) (rK (fR I L (codeF I w)) j)) ∧ r = nI (rD (fR I L (codeF I w)) i) ∧ ∃ S2, FrN S S2 ∧ S' = setI S2 83 2 (nI (sm (nearT I L (codeF I w) i (fun t => S.1 86 (60 * tn x + t))) (rC (fR I L (codeF I w)))))) ∨ (r = -9 ∧ (∀ j, j < rC (fR I L (codeF I w)) → ¬ wantP I (fun t => S.1 86 (60 * tn x + t)) (rK (fR I L (codeF I w)) j)) ∧ FrN S S')))) := by
  have hO1 := hO.1
  have hO2 := hO.2.1
  have hO3 := hO.2.2.1
  have hO4 := hO.2.2.2.1
  refine C.ofX (by decide) rfl (Nat.le_of_ble_eq_true rfl) ?_
  show X 6 180 mX11_fewest (qi (i5 (¬ (0 ≤ x.toInt ∧ x.toInt < 6)) ((S.1 85 (tn x)).toInt < 0) (¬ (S.1 85 (tn x)).toInt = (iM I : Int)) (¬ ∀ t, t < iM I → (S.1 86 (60 * tn x + t) = -1 ∨ S.1 86 (60 * tn x + t) = nI 4 ∨ (0 ≤ (S.1 86 (60 * tn x + t)).toInt ∧ (S.1 86 (60 * tn x + t)).toInt < (iP I : Int)))) (an (-1) S) (an (-3) (fndM S 1)) (an (-3) (fndM S 5)) (an (-3) (fndM S 3)) (fun r S' => (∃ i, i < rC (fR I L (codeF I w)) ∧ wantP I (fun t => S.1 86 (60 * tn x + t)) (rK (fR I L (codeF I w)) i) ∧ (∀ j, j < i → ¬ wantP I (fun t => S.1 86 (60 * tn x + t)) (rK (fR I L (codeF I w)) j)) ∧ r = nI (rD (fR I L (codeF I w)) i) ∧ ∃ S2, FrN S S2 ∧ S' = setI S2 83 2 (nI (sm (nearT I L (codeF I w) i (fun t => S.1 86 (60 * tn x + t))) (rC (fR I L (codeF I w)))))) ∨ (r = -9 ∧ (∀ j, j < rC (fR I L (codeF I w)) → ¬ wantP I (fun t => S.1 86 (60 * tn x + t)) (rK (fR I L (codeF I w)) j)) ∧ FrN S S')))) 0 [(0, .ref 83), (1, .int x)] [] S
  refine x_iload_n 1 dX11_fewest_0 rfl rfl ?_
  refine x_callSb (as := [_]) (rest := []) sX11_108 c_X11_isRow dX11_fewest_1 rfl rfl (Nat.le_of_ble_eq_true rfl) (Nat.le_of_ble_eq_true rfl) (Nat.le_of_ble_eq_true rfl) (fun c_1 => ?_) (fun c_1 => ?_)
  · refine t_if_ne 9 dX11_fewest_4 (by decide) (by decide) ?_
    obtain ⟨a, ha, rfl⟩ := nI_ex (x := x) (n := 6) (by omega) (by omega)
    have ea : (nI a).toInt = (a : Int) := tiN (by omega)
    have ta : tn (nI a) = a := tnN (by omega)
    refine x_aload_n 0 dX11_fewest_9 rfl rfl ?_
    refine x_iload_n 1 dX11_fewest_10 rfl rfl ?_
    refine x_callVu (as := [_]) (rest := []) vX11_281 (c_X11_needWanted hI hO hS ha) dX11_fewest_11 l83 rfl rfl rfl (Nat.le_of_ble_eq_true rfl) (Nat.le_of_ble_eq_true rfl) (Nat.le_of_ble_eq_true rfl) ?_
    refine x_istore_n (lv' := [(2, _), (0, _), (1, _)]) dX11_fewest_14 rfl (by decide) rfl ?_
    refine x_iload_n 0 dX11_fewest_15 rfl rfl ?_
    refine x_if_ge 21 dX11_fewest_16 (by decide) (fun c_16 => ?_) (fun c_16 => ?_)
    · have n0 : (nI 0).toInt = 0 := rfl
      obtain ⟨n1, n2, n3⟩ := need_ok c_16
      refine x_cast (e4_3 n1 n2 n3) ?_
      refine x_aload_n 1 dX11_fewest_21 rfl rfl ?_
      refine x_iload_n 2 dX11_fewest_22 rfl rfl ?_
      refine x_callVqi (as := [_]) (rest := []) vX11_284 (c_X11_nearest hI hO hw0 hL hL7 hv ha (fun t ht => Classical.byContradiction fun k => n3 (fun q => k (q t ht)))) dX11_fewest_23 l83 rfl rfl rfl (Nat.le_of_ble_eq_true rfl) (Nat.le_of_ble_eq_true rfl) (Nat.le_of_ble_eq_true rfl) (fun r_23 S_23 q_23 => ?_)
      obtain ⟨f1, f2, f3⟩ := q_23
      refine x_istore_n (lv' := [(3, _), (2, _), (0, _), (1, _)]) dX11_fewest_26 rfl (by decide) rfl ?_
      refine x_iload_n 0 dX11_fewest_27 rfl rfl ?_
      refine x_bipush (v := -9) dX11_fewest_28 (by decide) ?_
      refine x_ic_ne 38 dX11_fewest_30 (by decide) (fun c_30 => ?_) (fun c_30 => ?_)
      · obtain ⟨f, g1, g2, g3, g4, g5⟩ := f3.resolve_left (fun k => c_30 k.1)
        refine x_aload_n 2 dX11_fewest_38 rfl rfl ?_
        refine x_aload_n 2 dX11_fewest_39 rfl rfl ?_
        refine y_getI fX11_275 dX11_fewest_40 l83 rfl g5 ?_
        refine x_iload_n 0 dX11_fewest_43 rfl rfl ?_
        refine x_callVu (as := [_, _]) (rest := []) vX11_120 c_X11_tells dX11_fewest_44 l83 rfl rfl rfl (Nat.le_of_ble_eq_true rfl) (Nat.le_of_ble_eq_true rfl) (Nat.le_of_ble_eq_true rfl) ?_
        refine x_iret rfl dX11_fewest_47 (by simp only [ta]; first | (rw [g4]; exact q5_4 (by omega) n1 n2 n3 (Or.inl ⟨f, g1, g2, g3, rfl, _, f1, rfl⟩)) | (rcases f3 with ⟨_, f4⟩ | ⟨f, f5, _, _, f4, _⟩; exact q5_4 (by omega) n1 n2 n3 (Or.inr ⟨rfl, f4, f1⟩); exact absurd (f4.symm.trans c_30) (nI_ne9 (by have := (f2.2.2.1 f f5).2.2.2; omega))))
      · refine x_bipush (v := -9) dX11_fewest_33 (by decide) ?_
        refine x_goto 47 dX11_fewest_35 (by decide) ?_
        refine x_iret rfl dX11_fewest_47 (by simp only [ta]; first | (rw [g4]; exact q5_4 (by omega) n1 n2 n3 (Or.inl ⟨f, g1, g2, g3, rfl, _, f1, rfl⟩)) | (rcases f3 with ⟨_, f4⟩ | ⟨f, f5, _, _, f4, _⟩; exact q5_4 (by omega) n1 n2 n3 (Or.inr ⟨rfl, f4, f1⟩); exact absurd (f4.symm.trans c_30) (nI_ne9 (by have := (f2.2.2.1 f f5).2.2.2; omega))))
    · refine x_iload_n 0 dX11_fewest_19 rfl rfl ?_
      refine x_iret rfl dX11_fewest_20 (by simp only [ta]; exact need_no (by omega) c_16)
  · refine u_if_ne 9 dX11_fewest_4 (by decide) (by decide) ?_
    refine x_iconst (v := -1) dX11_fewest_7 (by decide) ?_
    refine x_iret rfl dX11_fewest_8 (q5_0 c_1 ⟨rfl, rfl⟩)

/-! what leads on -/
noncomputable def ixT (I : Isl) (R : Rs) (i s : Nat) : Nat := ixR R (nx I (rK R i) s)
def leadK (I : Isl) (L : Nat) (R : Rs) (W : Nat → Prop) : Nat → Nat → Prop
  | 0, i => W i
  | k + 1, i => ∃ s, s < 7 * iM I ∧ mb I L (rK R i) s = true ∧ rD R (ixT I R i s) = rD R i + 1 ∧ leadK I L R W k (ixT I R i s)
def leadN (I : Isl) (L : Nat) (R : Rs) (W : Nat → Prop) (n i : Nat) : Prop := rD R i ≤ n ∧ leadK I L R W (n - rD R i) i
theorem ixT_ok {I : Isl} {L c0 i s : Nat} (hO : IOK I) (h0 : OKc I L c0) (hi : i < rC (fR I L c0)) (hs : s < 7 * iM I) (hm : mb I L (rK (fR I L c0) i) s = true) :
    ixT I (fR I L c0) i s < rC (fR I L c0) ∧ rK (fR I L c0) (ixT I (fR I L c0) i s) = nx I (rK (fR I L c0) i) s ∧ (ixT I (fR I L c0) i s = 0 ∨ rB (fR I L c0) (ixT I (fR I L c0) i s) < i ∨ (rB (fR I L c0) (ixT I (fR I L c0) i s) = i ∧ rY (fR I L c0) (ixT I (fR I L c0) i s) ≤ s)) := by
  have hv := fR_inv hO h0
  have hN := (bN_ok hO h0).2
  obtain ⟨k, k1, k2, k3⟩ := hv.2.2.2.2.1 i s hi (Or.inl (by omega)) hs hm
  have hok := ixR_ok (R := fR I L c0) (c := nx I (rK (fR I L c0) i) s) ⟨k, k1, k2⟩
  have e : ixR (fR I L c0) (nx I (rK (fR I L c0) i) s) = k := hv.2.1 _ _ hok.1 k1 (hok.2.trans k2.symm)
  unfold ixT
  rw [e]
  exact ⟨k1, k2, k3⟩
theorem ixT_by {I : Isl} {L c0 j : Nat} (hO : IOK I) (h0 : OKc I L c0) (hj0 : 0 < j) (hj : j < rC (fR I L c0)) : ixT I (fR I L c0) (rB (fR I L c0) j) (rY (fR I L c0) j) = j := by
  have hv := fR_inv hO h0
  obtain ⟨a, b, c, d, e, f⟩ := hv.2.2.2.1 j hj0 hj
  have h1 := ixT_ok hO h0 (i := rB (fR I L c0) j) (by omega) b c
  exact hv.2.1 _ _ h1.1 hj (h1.2.1.trans d)
theorem lead_min {I : Isl} {L c0 f : Nat} {W : Nat → Prop} (hO : IOK I) (h0 : OKc I L c0) (hf : f < rC (fR I L c0)) (hW : W f) (hn : ∀ j, j < f → ¬ W j) : ∀ k, k ≤ rD (fR I L c0) f →
    leadK I L (fR I L c0) W k (upR (fR I L c0) f k) ∧ ∀ j, j < rC (fR I L c0) → rD (fR I L c0) j + k = rD (fR I L c0) f → leadK I L (fR I L c0) W k j → upR (fR I L c0) f k ≤ j
  | 0, _ => ⟨hW, fun j _ _ hl => by
      rcases Nat.lt_or_ge j f with q | q
      · exact absurd hl (hn j q)
      · exact q⟩
  | k + 1, hk => by
    obtain ⟨ih1, ih2⟩ := lead_min hO h0 hf hW hn k (by omega)
    have hu := upR_d hO h0 hf k (by omega)
    have hv := fR_inv hO h0
    have hne : 0 < upR (fR I L c0) f k := by
      rcases Nat.eq_zero_or_pos (upR (fR I L c0) f k) with q | q
      · rw [q, hv.1.2.2] at hu; omega
      · exact q
    have hlt : upR (fR I L c0) f k < rC (fR I L c0) := by omega
    obtain ⟨a, b, c, d, e, _⟩ := hv.2.2.2.1 _ hne hlt
    have hix := ixT_by hO h0 hne hlt
    refine ⟨⟨rY (fR I L c0) (upR (fR I L c0) f k), b, c, by show rD (fR I L c0) (ixT I (fR I L c0) (rB (fR I L c0) (upR (fR I L c0) f k)) _) = rD (fR I L c0) (rB (fR I L c0) (upR (fR I L c0) f k)) + 1; rw [hix]; exact e, by show leadK I L (fR I L c0) W k (ixT I (fR I L c0) (rB (fR I L c0) (upR (fR I L c0) f k)) _); rw [hix]; exact ih1⟩, fun j hj hd hl => ?_⟩
    obtain ⟨s, s1, s2, s3, s4⟩ := hl
    have ht := ixT_ok hO h0 hj s1 s2
    have hm := ih2 _ ht.1 (by omega) s4
    have hr0 : ¬ ixT I (fR I L c0) j s = 0 := fun q => by rw [q, hv.1.2.2] at s3; omega
    show rB (fR I L c0) (upR (fR I L c0) f k) ≤ j
    by_cases q : upR (fR I L c0) f k = ixT I (fR I L c0) j s
    · rw [q]; omega
    · have h6 := hv.2.2.2.2.2 (upR (fR I L c0) f k) (ixT I (fR I L c0) j s) hne (by omega) ht.1
      omega
/-- from the k + 1-th before f the least step that leads on is the tree's -/
theorem lead_step {I : Isl} {L c0 f k : Nat} {W : Nat → Prop} (hO : IOK I) (h0 : OKc I L c0) (hf : f < rC (fR I L c0)) (hW : W f) (hn : ∀ j, j < f → ¬ W j) (hk : k + 1 ≤ rD (fR I L c0) f) :
    (rY (fR I L c0) (upR (fR I L c0) f k) < 7 * iM I ∧ mb I L (rK (fR I L c0) (upR (fR I L c0) f (k + 1))) (rY (fR I L c0) (upR (fR I L c0) f k)) = true ∧ ixT I (fR I L c0) (upR (fR I L c0) f (k + 1)) (rY (fR I L c0) (upR (fR I L c0) f k)) = upR (fR I L c0) f k ∧ leadN I L (fR I L c0) W (rD (fR I L c0) f) (upR (fR I L c0) f k)) ∧
    ∀ s, s < rY (fR I L c0) (upR (fR I L c0) f k) → ¬ (mb I L (rK (fR I L c0) (upR (fR I L c0) f (k + 1))) s = true ∧ rD (fR I L c0) (ixT I (fR I L c0) (upR (fR I L c0) f (k + 1)) s) = rD (fR I L c0) (upR (fR I L c0) f (k + 1)) + 1 ∧ leadN I L (fR I L c0) W (rD (fR I L c0) f) (ixT I (fR I L c0) (upR (fR I L c0) f (k + 1)) s)) := by
  have hu := upR_d hO h0 hf k (by omega)
  have hu1 := upR_d hO h0 hf (k + 1) hk
  have hv := fR_inv hO h0
  have hm := lead_min hO h0 hf hW hn k (by omega)
  have hne : 0 < upR (fR I L c0) f k := by
    rcases Nat.eq_zero_or_pos (upR (fR I L c0) f k) with q | q
    · rw [q, hv.1.2.2] at hu; omega
    · exact q
  have hlt : upR (fR I L c0) f k < rC (fR I L c0) := by omega
  obtain ⟨a, b, c, d, e, _⟩ := hv.2.2.2.1 _ hne hlt
  have hix := ixT_by hO h0 hne hlt
  have eu : upR (fR I L c0) f (k + 1) = rB (fR I L c0) (upR (fR I L c0) f k) := rfl
  rw [eu] at hu1 ⊢
  refine ⟨⟨b, c, hix, by omega, by rw [show rD (fR I L c0) f - rD (fR I L c0) (upR (fR I L c0) f k) = k by omega]; exact hm.1⟩, fun s hs hq => ?_⟩
  obtain ⟨q1, q2, q3, q4⟩ := hq
  have ht := ixT_ok hO h0 (i := rB (fR I L c0) (upR (fR I L c0) f k)) (by omega) (s := s) (by omega) q1
  have hd2 : rD (fR I L c0) (ixT I (fR I L c0) (rB (fR I L c0) (upR (fR I L c0) f k)) s) + k = rD (fR I L c0) f := by omega
  rw [show rD (fR I L c0) f - rD (fR I L c0) (ixT I (fR I L c0) (rB (fR I L c0) (upR (fR I L c0) f k)) s) = k by omega] at q4
  have hmin := hm.2 _ ht.1 hd2 q4
  have hr0 : ¬ ixT I (fR I L c0) (rB (fR I L c0) (upR (fR I L c0) f k)) s = 0 := fun q => by rw [q, hv.1.2.2] at q2; omega
  by_cases q : upR (fR I L c0) f k = ixT I (fR I L c0) (rB (fR I L c0) (upR (fR I L c0) f k)) s
  · rw [← q] at ht; omega
  · have h6 := hv.2.2.2.2.2 (upR (fR I L c0) f k) (ixT I (fR I L c0) (rB (fR I L c0) (upR (fR I L c0) f k)) s) hne (by omega) ht.1
    omega

/-- leads, as numbers of states -/
def LdX (I : Isl) (lc : Nat → Int32) (S : St) : Prop := ∀ c, c < 7 ^ iM I → S.1 104 c = lc c
def LSp (I : Isl) (L c0 : Nat) (lc : Nat → Int32) (i s : Nat) : Prop := mb I L (rK (fR I L c0) i) s = true ∧ rD (fR I L c0) (ixT I (fR I L c0) i s) = rD (fR I L c0) i + 1 ∧ ¬ lc (rK (fR I L c0) (ixT I (fR I L c0) i s)) = 0

set_option maxHeartbeats 4000000 in
set_option maxRecDepth 100000 in
theorem lp_ls {S : St} {I : Isl} (hI : IsM I S) (hO : IOK I) {L c0 : Nat} (hL : S.1 83 17 = nI L) (hL7 : L ≤ 6) (h0 : OKc I L c0) (hq : QuX I (fR I L c0) S) {lc : Nat → Int32} (hlc : LdX I lc S) {i : Nat} (hi : i < rC (fR I L c0))  : ∀ (s : Nat) (S1 : St), (s ≤ 7 * iM I) → (F97 S S1) → (MW I (digF (rK (fR I L c0) i)) S1) → (∀ s', s' < s → ¬ LSp I L c0 lc i s') → X 4 120 mX11_leadingStep (qi (fun r S' => F97 S S' ∧ MW I (digF (rK (fR I L c0) i)) S' ∧ ((∃ s, r = nI s ∧ s < 7 * iM I ∧ LSp I L c0 lc i s ∧ ∀ s', s' < s → ¬ LSp I L c0 lc i s') ∨ (r = -9 ∧ ∀ s, s < 7 * iM I → ¬ LSp I L c0 lc i s)))) 12 [(2, .int (nI s)), (1, .int (nI ((rD (fR I L c0) i)))), (0, .ref 83)] [] S1 := by
  intro s S1
  induction hm : 7 * iM I - s using Nat.strongRecOn generalizing s S1 with
  | _ mm ih =>
    intro hs hf x2 hn
    have hO1 := hO.1
    have hO2 := hO.2.1
    have hO3 := hO.2.2.1
    have hO4 := hO.2.2.2.1
    have h7 := p7le hO
    have hiv := fR_inv hO h0
    have hok := hiv.2.2.1 i hi
    have hwk := hok.2.ok hO
    have hw7 := hwk.w7 hO
    have hI1 := hI.f97 hf
    have x3 := hq.f97 hf
    have hmb : mb I L (rK (fR I L c0) i) s = true ↔ mayF I (digF (rK (fR I L c0) i)) L (s / 7) (s % 7) := mb_iff
    have hdi := (hq.2.2.1 i hi).2.2.2
    refine x_iload_n 0 dX11_leadingStep_12 rfl rfl ?_
    refine x_bipush (v := nI 7) dX11_leadingStep_13 (by decide) ?_
    refine x_aload_n 2 dX11_leadingStep_15 rfl rfl ?_
    refine y_getI fX11_181 dX11_leadingStep_16 l83 rfl hI1.2.1 ?_
    refine y_imul dX11_leadingStep_19 ?_
    refine y_ic_ge 108 dX11_leadingStep_20 (by decide) (by omega) (by omega) (fun c_20 => ?_) (fun c_20 => ?_)
    · refine x_bipush (v := -9) dX11_leadingStep_108 (by decide) ?_
      refine x_iret rfl dX11_leadingStep_110 ⟨_, rfl, hf, x2, Or.inr ⟨rfl, fun s' h => hn s' (by omega)⟩⟩
    · refine x_aload_n 2 dX11_leadingStep_23 rfl rfl ?_
      refine x_iload_n 0 dX11_leadingStep_24 rfl rfl ?_
      refine x_bipush (v := nI 7) dX11_leadingStep_25 (by decide) ?_
      refine y_idiv dX11_leadingStep_27 (by omega) (by omega) (by omega) ?_
      refine x_iload_n 0 dX11_leadingStep_28 rfl rfl ?_
      refine x_bipush (v := nI 7) dX11_leadingStep_29 (by decide) ?_
      refine y_irem dX11_leadingStep_31 (by omega) (by omega) (by omega) ?_
      refine x_callVb (as := [_, _]) (rest := []) vX11_241 (c_X11_mayStep hI1 hO x2 hwk ((hf.2 83 (by decide) 17).trans hL) (by omega) (by omega) (Nat.mod_lt _ (by decide))) dX11_leadingStep_32 l83 rfl rfl rfl (Nat.le_of_ble_eq_true rfl) (Nat.le_of_ble_eq_true rfl) (Nat.le_of_ble_eq_true rfl) (fun c_32 => ?_) (fun c_32 => ?_)
      · refine u_if_eq 102 dX11_leadingStep_35 (by decide) (by decide) ?_
        have hm := hmb.mpr c_32
        have hix := ixT_ok hO h0 hi (by omega) hm
        have hnx := nx_ok hO hok (by omega) hm
        have hnl := hnx.lt hO
        have hqx := hq.2.2.1 _ hix.1
        have hdt := hqx.2.2.2
        have hfar : S1.1 102 (nx I (rK (fR I L c0) i) s) = nI (rD (fR I L c0) (ixT I (fR I L c0) i s)) := by
          have h := (hf.2 102 (by decide) (rK (fR I L c0) (ixT I (fR I L c0) i s))).trans hqx.2.2.1
          rw [hix.2.1] at h
          exact h
        have hlead : S1.1 104 (nx I (rK (fR I L c0) i) s) = lc (rK (fR I L c0) (ixT I (fR I L c0) i s)) := by
          have h := (hf.2 104 (by decide) (rK (fR I L c0) (ixT I (fR I L c0) i s))).trans (hlc _ hqx.2.1)
          rw [hix.2.1] at h ⊢
          exact h
        refine x_aload_n 2 dX11_leadingStep_38 rfl rfl ?_
        refine x_getR fX11_50 dX11_leadingStep_39 l83 rfl ?_
        refine x_iload_n 0 dX11_leadingStep_42 rfl rfl ?_
        refine x_bipush (v := nI 7) dX11_leadingStep_43 (by decide) ?_
        refine y_idiv dX11_leadingStep_45 (by omega) (by omega) (by omega) ?_
        refine y_iald dX11_leadingStep_46 l97 (by omega) (by decide) (x2 (s / 7) (by omega)) ?_
        refine x_istore_n (lv' := [(3, _), (2, _), (1, _), (0, _)]) dX11_leadingStep_47 rfl (by decide) rfl ?_
        refine x_aload_n 3 dX11_leadingStep_48 rfl rfl ?_
        refine x_getR fX11_50 dX11_leadingStep_49 l83 rfl ?_
        refine x_iload_n 1 dX11_leadingStep_52 rfl rfl ?_
        refine x_bipush (v := nI 7) dX11_leadingStep_53 (by decide) ?_
        refine y_idiv dX11_leadingStep_55 (by omega) (by omega) (by omega) ?_
        refine x_iload_n 1 dX11_leadingStep_56 rfl rfl ?_
        refine x_bipush (v := nI 7) dX11_leadingStep_57 (by decide) ?_
        refine y_irem dX11_leadingStep_59 (by omega) (by omega) (by omega) ?_
        refine y_iast dX11_leadingStep_60 l97 (by omega) (by decide) ?_
        refine x_aload_n 3 dX11_leadingStep_61 rfl rfl ?_
        refine x_callVu (as := []) (rest := []) vX11_251 (c_codeNx (hI1.fl (FrL.refl.set (Or.inl (Or.inl rfl)))) hO (c := (rK (fR I L c0) i)) (fun t ht => by by_cases q : t = s / 7; rw [q, upW_eq, rdI_eq]; rw [upW_ne q, rdI_j q]; exact x2 t ht)) dX11_leadingStep_62 l83 rfl rfl rfl (Nat.le_of_ble_eq_true rfl) (Nat.le_of_ble_eq_true rfl) (Nat.le_of_ble_eq_true rfl) ?_
        refine x_istore (lv' := [(4, _), (3, _), (2, _), (1, _), (0, _)]) dX11_leadingStep_65 (by decide) rfl ?_
        refine x_aload_n 4 dX11_leadingStep_67 rfl rfl ?_
        refine x_getR fX11_50 dX11_leadingStep_68 l83 rfl ?_
        refine x_iload_n 2 dX11_leadingStep_71 rfl rfl ?_
        refine x_bipush (v := nI 7) dX11_leadingStep_72 (by decide) ?_
        refine y_idiv dX11_leadingStep_74 (by omega) (by omega) (by omega) ?_
        refine x_iload_n 1 dX11_leadingStep_75 rfl rfl ?_
        refine y_iast dX11_leadingStep_76 l97 (by omega) (by decide) ?_
        have hf2 : F97 S (setI (setI S1 97 (s / 7) (nI (s % 7))) 97 (s / 7) (nI (digF (rK (fR I L c0) i) (s / 7)))) := hf.trans ⟨rfl, fun a ha b => (rdI_k ha).trans (rdI_k ha)⟩
        have hm2 : MW I (digF (rK (fR I L c0) i)) (setI (setI S1 97 (s / 7) (nI (s % 7))) 97 (s / 7) (nI (digF (rK (fR I L c0) i) (s / 7)))) := fun t ht => by
          by_cases q : t = s / 7
          · rw [q, rdI_eq]
          · rw [rdI_j q, rdI_j q]; exact x2 t ht
        refine x_aload_n 4 dX11_leadingStep_77 rfl rfl ?_
        refine x_getR fX11_65 dX11_leadingStep_78 l83 rfl ?_
        refine x_iload 0 dX11_leadingStep_81 rfl ?_
        refine y_iald dX11_leadingStep_83 l102 (by omega) (by decide) ((((rdI_k (by decide))).trans (rdI_k (by decide))).trans hfar) ?_
        refine x_iload_n 3 dX11_leadingStep_84 rfl rfl ?_
        refine x_iconst (v := nI 1) dX11_leadingStep_85 (by decide) ?_
        refine y_iadd dX11_leadingStep_86 ?_
        refine y_ic_ne 102 dX11_leadingStep_87 (by decide) (by omega) (by omega) (fun c_87 => ?_) (fun c_87 => ?_)
        · refine y_iinc (lv' := [(2, _), (4, _), (3, _), (1, _), (0, _)]) 2 dX11_leadingStep_102 rfl (by decide) rfl ?_
          refine x_goto 12 dX11_leadingStep_105 (by decide) ?_
          refine x_pick (lv' := [(2, _), (1, _), (0, _)]) [0, 3, 4] rfl ?_
          exact ih (7 * iM I - (s + 1)) (by omega) (s + 1) _ rfl (by omega) hf2 hm2 (fun s' h => by rcases Nat.lt_succ_iff_lt_or_eq.mp h with k | k; exact hn s' k; subst k; first | exact fun q => c_87 q.2.1 | exact fun q => q.2.2 c_97)
        · refine x_aload_n 4 dX11_leadingStep_90 rfl rfl ?_
          refine x_getR fX11_71 dX11_leadingStep_91 l83 rfl ?_
          refine x_iload 0 dX11_leadingStep_94 rfl ?_
          refine y_zald dX11_leadingStep_96 l104 (by omega) (by decide) ((((rdI_k (by decide))).trans (rdI_k (by decide))).trans hlead) ?_
          refine x_if_eq 102 dX11_leadingStep_97 (by decide) (fun c_97 => ?_) (fun c_97 => ?_)
          · refine y_iinc (lv' := [(2, _), (4, _), (3, _), (1, _), (0, _)]) 2 dX11_leadingStep_102 rfl (by decide) rfl ?_
            refine x_goto 12 dX11_leadingStep_105 (by decide) ?_
            refine x_pick (lv' := [(2, _), (1, _), (0, _)]) [0, 3, 4] rfl ?_
            exact ih (7 * iM I - (s + 1)) (by omega) (s + 1) _ rfl (by omega) hf2 hm2 (fun s' h => by rcases Nat.lt_succ_iff_lt_or_eq.mp h with k | k; exact hn s' k; subst k; first | exact fun q => c_87 q.2.1 | exact fun q => q.2.2 c_97)
          · refine x_iload_n 2 dX11_leadingStep_100 rfl rfl ?_
            refine x_iret rfl dX11_leadingStep_101 ⟨_, rfl, hf2, hm2, Or.inl ⟨s, rfl, by omega, ⟨hm, by omega, c_97⟩, hn⟩⟩
      · refine t_if_eq 102 dX11_leadingStep_35 (by decide) (by decide) ?_
        refine y_iinc (lv' := [(2, _), (1, _), (0, _)]) 0 dX11_leadingStep_102 rfl (by decide) rfl ?_
        refine x_goto 12 dX11_leadingStep_105 (by decide) ?_
        refine x_pick (lv' := [(2, _), (1, _), (0, _)]) [0, 1, 2] rfl ?_
        exact ih (7 * iM I - (s + 1)) (by omega) (s + 1) S1 rfl (by omega) hf x2 (fun s' h => by rcases Nat.lt_succ_iff_lt_or_eq.mp h with k | k; exact hn s' k; subst k; exact fun q => c_32 (hmb.mp q.1))

set_option maxHeartbeats 4000000 in
set_option maxRecDepth 100000 in
theorem c_X11_leadingStep {S : St} {I : Isl} (hI : IsM I S) (hO : IOK I) {L c0 : Nat} (hL : S.1 83 17 = nI L) (hL7 : L ≤ 6) (h0 : OKc I L c0) (hq : QuX I (fR I L c0) S) {lc : Nat → Int32} (hlc : LdX I lc S) {i : Nat} (hi : i < rC (fR I L c0)) (hmw : MW I (digF (rK (fR I L c0) i)) S)  : C 4 120 yX11_leadingStep mX11_leadingStep [.ref 83] S (qi (fun r S' => F97 S S' ∧ MW I (digF (rK (fR I L c0) i)) S' ∧ ((∃ s, r = nI s ∧ s < 7 * iM I ∧ LSp I L c0 lc i s ∧ ∀ s', s' < s → ¬ LSp I L c0 lc i s') ∨ (r = -9 ∧ ∀ s, s < 7 * iM I → ¬ LSp I L c0 lc i s)))) := by
  have hO1 := hO.1
  have hO2 := hO.2.1
  have hO3 := hO.2.2.1
  have hO4 := hO.2.2.2.1
  have h7 := p7le hO
  have hiv := fR_inv hO h0
  have hok := hiv.2.2.1 i hi
  have hwk := hok.2.ok hO
  have hw7 := hwk.w7 hO
  have hqi := hq.2.2.1 i hi
  refine C.ofX (by decide) rfl (Nat.le_of_ble_eq_true rfl) ?_
  show X 4 120 mX11_leadingStep (qi (fun r S' => F97 S S' ∧ MW I (digF (rK (fR I L c0) i)) S' ∧ ((∃ s, r = nI s ∧ s < 7 * iM I ∧ LSp I L c0 lc i s ∧ ∀ s', s' < s → ¬ LSp I L c0 lc i s') ∨ (r = -9 ∧ ∀ s, s < 7 * iM I → ¬ LSp I L c0 lc i s)))) 0 [(0, .ref 83)] [] S
  refine x_aload_n 0 dX11_leadingStep_0 rfl rfl ?_
  refine x_getR fX11_65 dX11_leadingStep_1 l83 rfl ?_
  refine x_aload_n 0 dX11_leadingStep_4 rfl rfl ?_
  refine x_callVu (as := []) (rest := [_]) vX11_251 (show C _ _ _ _ _ _ (pu (.int (nI (rK (fR I L c0) i))) S) by
      have h := c_X11_code hI hO hmw
      rw [show codeF I (digF (rK (fR I L c0) i)) = (rK (fR I L c0) i) from code_dig hok.1] at h
      exact h) dX11_leadingStep_5 l83 rfl rfl rfl (Nat.le_of_ble_eq_true rfl) (Nat.le_of_ble_eq_true rfl) (Nat.le_of_ble_eq_true rfl) ?_
  refine y_iald dX11_leadingStep_8 l102 (Nat.lt_of_lt_of_le hqi.2.1 h7) (by decide) hqi.2.2.1 ?_
  refine x_istore_n (lv' := [(1, _), (0, _)]) dX11_leadingStep_9 rfl (by decide) rfl ?_
  refine x_iconst (v := nI 0) dX11_leadingStep_10 (by decide) ?_
  refine x_istore_n (lv' := [(2, _), (1, _), (0, _)]) dX11_leadingStep_11 rfl (by decide) rfl ?_
  refine x_pick (lv' := [(2, _), (1, _), (0, _)]) [0, 1, 2] rfl ?_
  exact lp_ls hI hO hL hL7 h0 hq hlc hi 0 S (Nat.zero_le _) Fr.refl hmw (fun s h => absurd h (Nat.not_lt_zero s))

theorem nar_b0 : vp_nar .boolean (nI 0) = 0 := by decide +kernel
theorem nar_b1 : vp_nar .boolean (nI 1) = 1 := by decide +kernel
theorem nar_c0 : vp_nar .boolean 0 = 0 := by decide +kernel
theorem nar_c1 : vp_nar .boolean 1 = 1 := by decide +kernel
/-- which lead, of the places from i on -/
noncomputable def LC (I : Isl) (L c0 : Nat) (W : Nat → Prop) (n i c : Nat) : Int32 := @ite Int32 (∃ j, i ≤ j ∧ j < rC (fR I L c0) ∧ rK (fR I L c0) j = c ∧ leadN I L (fR I L c0) W n j) (Classical.propDecidable _) 1 0
theorem LC_t {I : Isl} {L c0 n i c j : Nat} {W : Nat → Prop} (h : i ≤ j ∧ j < rC (fR I L c0) ∧ rK (fR I L c0) j = c ∧ leadN I L (fR I L c0) W n j) : LC I L c0 W n i c = 1 := if_pos ⟨j, h⟩
theorem LC_f {I : Isl} {L c0 n i c : Nat} {W : Nat → Prop} (h : ¬ ∃ j, i ≤ j ∧ j < rC (fR I L c0) ∧ rK (fR I L c0) j = c ∧ leadN I L (fR I L c0) W n j) : LC I L c0 W n i c = 0 := if_neg h
theorem LC_end {I : Isl} {L c0 n c : Nat} {W : Nat → Prop} : LC I L c0 W n (rC (fR I L c0)) c = 0 := LC_f fun ⟨j, h1, h2, _⟩ => by omega
theorem LC_at {I : Isl} {L c0 n i j : Nat} {W : Nat → Prop} (hO : IOK I) (h0 : OKc I L c0) (hij : i ≤ j) (hj : j < rC (fR I L c0)) : ¬ LC I L c0 W n i (rK (fR I L c0) j) = 0 ↔ leadN I L (fR I L c0) W n j := by
  constructor
  · intro h
    refine Classical.byContradiction fun q => h (LC_f fun ⟨k, h1, h2, h3, h4⟩ => ?_)
    rw [(fR_inv hO h0).2.1 k j h2 hj h3] at h4
    exact q h4
  · intro h e
    rw [LC_t ⟨hij, hj, rfl, h⟩] at e
    exact absurd e (by decide)
theorem LC_s {I : Isl} {L c0 n i c : Nat} {W : Nat → Prop} (hc : ¬ rK (fR I L c0) i = c) : LC I L c0 W n i c = LC I L c0 W n (i + 1) c := by
  by_cases h : ∃ j, i ≤ j ∧ j < rC (fR I L c0) ∧ rK (fR I L c0) j = c ∧ leadN I L (fR I L c0) W n j
  · obtain ⟨j, h1, h2, h3, h4⟩ := h
    have hji : ¬ j = i := fun e => by rw [e] at h3; exact hc h3
    rw [LC_t ⟨h1, h2, h3, h4⟩, LC_t ⟨by omega, h2, h3, h4⟩]
  · rw [LC_f h, LC_f (fun ⟨j, h1, h2, h3, h4⟩ => h ⟨j, by omega, h2, h3, h4⟩)]
theorem LC_i {I : Isl} {L c0 n i : Nat} {W : Nat → Prop} (hO : IOK I) (h0 : OKc I L c0) (hi : i < rC (fR I L c0)) : (leadN I L (fR I L c0) W n i → LC I L c0 W n i (rK (fR I L c0) i) = 1) ∧ (¬ leadN I L (fR I L c0) W n i → LC I L c0 W n i (rK (fR I L c0) i) = 0) :=
  ⟨fun h => LC_t ⟨Nat.le_refl _, hi, rfl, h⟩, fun h => Classical.byContradiction fun q => h ((LC_at hO h0 (Nat.le_refl _) hi).mp q)⟩
theorem LC_01 {I : Isl} {L c0 n i c : Nat} {W : Nat → Prop} : LC I L c0 W n i c = 0 ∨ LC I L c0 W n i c = 1 := by
  unfold LC
  split
  · exact Or.inr rfl
  · exact Or.inl rfl
/-- but for looking and for what leads -/
def FrQ (S S' : St) : Prop := Fr (fun a => a = 97 ∨ a = 104) S S'
theorem QuX.fq {I : Isl} {R : Rs} {S S' : St} (h : QuX I R S) (f : FrQ S S') : QuX I R S' := h.keep (fun b => ⟨f.2 102 (by decide) b, f.2 103 (by decide) b⟩) (f.2 83 (by decide) 36)
theorem IsM.fq {I : Isl} {S S' : St} (h : IsM I S) (f : FrQ S S') : IsM I S' := h.keep (fun j _ => f.2 83 (by decide) j) (fun a ha b => f.2 a (by intro e; rcases e with rfl | rfl <;> revert ha <;> decide) b)
theorem FrQ.of {S S' : St} (f : F97 S S') : FrQ S S' := Fr.wider f (fun a h => Or.inl h)

/-- a way is laid in row b -/
def WayM (S S' : St) (b n : Nat) (R : Rs) (f : Nat) : Prop := S'.2 = S.2 ∧ S'.1 85 b = nI n ∧ (∀ r, ¬ r = b → S'.1 85 r = S.1 85 r) ∧ (∀ k, k < n → S'.1 86 (60 * b + k) = wayF R f n k) ∧ (∀ j, ¬ (60 * b ≤ j ∧ j < 60 * b + 60) → S'.1 86 j = S.1 86 j) ∧ ∀ c j, ¬ (c = 85 ∨ c = 86 ∨ c = 97 ∨ c = 102 ∨ c = 103 ∨ c = 104) → ¬ (c = 83 ∧ (j = 36 ∨ j = 37)) → S'.1 c j = S.1 c j

set_option maxHeartbeats 4000000 in
set_option maxRecDepth 100000 in
theorem lp_wyM3 {S : St} {I : Isl} (hI : IsM I S) (hO : IOK I) {w : Nat → Nat} (hw0 : ∀ t, t < iM I → S.1 93 t = nI (w t)) {L : Nat} (hL : S.1 83 17 = nI L) (hL7 : L ≤ 6) (hv : VS I w L) {a b nn f : Nat} (ha : a < 6) (hb : b < 6) (hok : ∀ t, t < iM I → (S.1 86 (60 * a + t) = -1 ∨ S.1 86 (60 * a + t) = nI 4 ∨ (0 ≤ (S.1 86 (60 * a + t)).toInt ∧ (S.1 86 (60 * a + t)).toInt < (iP I : Int)))) (hf0 : f < rC (fR I L (codeF I w))) (hfw : (fun j => wantP I (fun t => S.1 86 (60 * a + t)) (rK (fR I L (codeF I w)) j)) f) (hfn : ∀ j, j < f → ¬ (fun j => wantP I (fun t => S.1 86 (60 * a + t)) (rK (fR I L (codeF I w)) j)) j) (hnn : nn = rD (fR I L (codeF I w)) f) (hn60 : nn ≤ 60) {S0 : St} (f0 : FrN S S0) (q0 : QuX I (fR I L (codeF I w)) S0) {S1 : St} (f1 : FrQ S0 S1) (hlc : LdX I (fun c => (LC I L (codeF I w) (fun j => wantP I (fun t => S.1 86 (60 * a + t)) (rK (fR I L (codeF I w)) j)) nn 0 c)) S1)  : ∀ (k : Nat) (S3 : St), (k ≤ nn) → (F97 (rwS (rwS (setI S1 85 b (nI nn)) 86 (60 * b) 60 (fun _ => nI 0)) 86 (60 * b) k (wayF (fR I L (codeF I w)) f nn)) S3) → (MW I (digF (rK (fR I L (codeF I w)) (upR (fR I L (codeF I w)) f (nn - k)))) S3) → X 6 180 mX11_way (qi (fun r S' => r = nI nn ∧ WayM S S' b nn (fR I L (codeF I w)) f)) 207 [(5, .int (nI k)), (4, .int (nI nn)), (0, .ref 83), (1, .int (nI a)), (2, .int (nI b))] [] S3 := by
  intro k S3
  induction hm : 61 - k using Nat.strongRecOn generalizing k S3 with
  | _ mm ih =>
    intro hk f3 hmw
    have hO1 := hO.1
    have hO2 := hO.2.1
    have hO3 := hO.2.2.1
    have hO4 := hO.2.2.2.1
    have hw := hv.ok hO
    have hw7 := hw.w7 hO
    have h7 := p7le hO
    have h0 := hv.okc hO
    have hup := upR_d hO h0 hf0 (nn - k) (by omega)
    have hI3 : IsM I S3 := ((hI.fn f0).fq f1).keep (fun j _ => (f3.2 83 (by decide) j).trans ((rwS_k (by decide)).trans ((rwS_k (by decide)).trans (rdI_k (by decide))))) (fun c hc j => (f3.2 c (by intro e; subst e; revert hc; decide) j).trans ((rwS_k (by intro e; subst e; revert hc; decide)).trans ((rwS_k (by intro e; subst e; revert hc; decide)).trans (rdI_k (by intro e; subst e; revert hc; decide)))))
    have q3 : QuX I (fR I L (codeF I w)) S3 := (q0.fq f1).keep (fun j => ⟨(f3.2 102 (by decide) j).trans ((rwS_k (by decide)).trans ((rwS_k (by decide)).trans (rdI_k (by decide)))), (f3.2 103 (by decide) j).trans ((rwS_k (by decide)).trans ((rwS_k (by decide)).trans (rdI_k (by decide))))⟩) ((f3.2 83 (by decide) 36).trans ((rwS_k (by decide)).trans ((rwS_k (by decide)).trans (rdI_k (by decide)))))
    have hlc3 : LdX I (fun c => (LC I L (codeF I w) (fun j => wantP I (fun t => S.1 86 (60 * a + t)) (rK (fR I L (codeF I w)) j)) nn 0 c)) S3 := fun c hc => (f3.2 104 (by decide) c).trans ((rwS_k (by decide)).trans ((rwS_k (by decide)).trans ((rdI_k (by decide)).trans (hlc c hc))))
    have hL3 : S3.1 83 17 = nI L := (f3.2 83 (by decide) 17).trans ((rwS_k (by decide)).trans ((rwS_k (by decide)).trans ((rdI_k (by decide)).trans ((f1.2 83 (by decide) 17).trans ((f0.2 83 17 (by decide) (by decide)).trans hL)))))
    refine x_iload 0 dX11_way_207 rfl ?_
    refine x_iload 1 dX11_way_209 rfl ?_
    refine y_ic_ge 255 dX11_way_211 (by decide) (by omega) (by omega) (fun c_211 => ?_) (fun c_211 => ?_)
    · refine x_iload 1 dX11_way_255 rfl ?_
      refine x_iret rfl dX11_way_257 (by
        have hkn : k = nn := by omega
        rw [hkn] at f3
        have hz : ∀ c j, ¬ c = 97 → S3.1 c j = (rwS (rwS (setI S1 85 b (nI nn)) 86 (60 * b) 60 (fun _ => nI 0)) 86 (60 * b) nn (wayF (fR I L (codeF I w)) f nn)).1 c j := fun c j hc => f3.2 c hc j
        refine ⟨_, rfl, rfl, f3.1.trans (f1.1.trans f0.1), ?_, fun r hr => ?_, fun j hj => ?_, fun j hj => ?_, fun c j h1 h2 => ?_⟩
        · rw [hz 85 b (by decide), rwS_k (by decide), rwS_k (by decide), rdI_eq]
        · rw [hz 85 r (by decide), rwS_k (by decide), rwS_k (by decide), rdI_j hr, f1.2 85 (by decide) r]
          exact f0.2 85 r (by decide) (by omega)
        · rw [hz 86 _ (by decide), rwS_at hj]
        · rw [hz 86 _ (by decide), rwS_d, if_neg (by omega), rwS_d, if_neg (by omega), rdI_k (by decide), f1.2 86 (by decide) j]
          exact f0.2 86 j (by decide) (by omega)
        · rw [hz c j (by omega), rwS_k (by omega), rwS_k (by omega), rdI_k (by omega), f1.2 c (by omega) j]
          exact f0.2 c j (by omega) (by omega))
    · refine x_aload_n 2 dX11_way_214 rfl rfl ?_
      refine x_callVqi (as := []) (rest := []) vX11_287 (c_X11_leadingStep hI3 hO hL3 hL7 h0 q3 hlc3 (i := upR (fR I L (codeF I w)) f (nn - k)) (by omega) hmw) dX11_way_215 l83 rfl rfl rfl (Nat.le_of_ble_eq_true rfl) (Nat.le_of_ble_eq_true rfl) (Nat.le_of_ble_eq_true rfl) (fun r_215 S_215 q_215 => ?_)
      obtain ⟨g1, g2, g3⟩ := q_215
      have hs := lead_step (W := (fun j => wantP I (fun t => S.1 86 (60 * a + t)) (rK (fR I L (codeF I w)) j))) hO h0 hf0 hfw hfn (k := nn - 1 - k) (by clear g3; omega)
      rw [show nn - 1 - k + 1 = nn - k by clear g3; omega, ← hnn] at hs
      obtain ⟨⟨s1, s2, s3, s4⟩, s5⟩ := hs
      have hu2 := upR_d hO h0 hf0 (nn - 1 - k) (by clear g3; omega)
      have hls : LSp I L (codeF I w) (fun c => (LC I L (codeF I w) (fun j => wantP I (fun t => S.1 86 (60 * a + t)) (rK (fR I L (codeF I w)) j)) nn 0 c)) (upR (fR I L (codeF I w)) f (nn - k)) (rY (fR I L (codeF I w)) (upR (fR I L (codeF I w)) f (nn - 1 - k))) := ⟨s2, by clear g3; rw [s3]; omega, by clear g3; rw [s3]; exact (LC_at hO h0 (Nat.zero_le _) (by omega)).mpr s4⟩
      obtain ⟨s, rfl, t1, t2, t3⟩ := g3.resolve_right (fun q => q.2 _ s1 hls)
      clear g3
      have hse : s = rY (fR I L (codeF I w)) (upR (fR I L (codeF I w)) f (nn - 1 - k)) := by
        rcases Nat.lt_trichotomy s (rY (fR I L (codeF I w)) (upR (fR I L (codeF I w)) f (nn - 1 - k))) with q | q | q
        · have ht := ixT_ok hO h0 (i := upR (fR I L (codeF I w)) f (nn - k)) (by omega) t1 t2.1
          exact absurd ⟨t2.1, t2.2.1, (LC_at hO h0 (Nat.zero_le _) ht.1).mp t2.2.2⟩ (s5 s q)
        · exact q
        · exact absurd hls (t3 _ q)
      subst hse
      refine x_istore (lv' := [(6, _), (5, _), (4, _), (0, _), (1, _), (2, _)]) dX11_way_218 (by decide) rfl ?_
      refine x_aload_n 3 dX11_way_220 rfl rfl ?_
      refine x_getR fX11_16 dX11_way_221 l83 rfl ?_
      refine x_bipush (v := nI 60) dX11_way_224 (by decide) ?_
      refine x_iload_n 5 dX11_way_226 rfl rfl ?_
      refine y_imul dX11_way_227 ?_
      refine x_iload 1 dX11_way_228 rfl ?_
      refine y_iadd dX11_way_230 ?_
      refine x_iload 0 dX11_way_231 rfl ?_
      refine y_iast dX11_way_233 l86 (by omega) (by decide) ?_
      refine x_aload_n 3 dX11_way_234 rfl rfl ?_
      refine x_getR fX11_50 dX11_way_235 l83 rfl ?_
      refine x_iload 0 dX11_way_238 rfl ?_
      refine x_bipush (v := nI 7) dX11_way_240 (by decide) ?_
      refine y_idiv dX11_way_242 (by omega) (by omega) (by omega) ?_
      refine x_iload 0 dX11_way_243 rfl ?_
      refine x_bipush (v := nI 7) dX11_way_245 (by decide) ?_
      refine y_irem dX11_way_247 (by omega) (by omega) (by omega) ?_
      refine y_iast dX11_way_248 l97 (by omega) (by decide) ?_
      refine y_iinc (lv' := [(5, _), (6, _), (4, _), (0, _), (1, _), (2, _)]) 1 dX11_way_249 rfl (by decide) rfl ?_
      refine x_goto 207 dX11_way_252 (by decide) ?_
      refine x_pick (lv' := [(5, _), (4, _), (0, _), (1, _), (2, _)]) [0, 2, 3, 4, 5] rfl ?_
      have hwk : nI (rY (fR I L (codeF I w)) (upR (fR I L (codeF I w)) f (nn - 1 - k))) = wayF (fR I L (codeF I w)) f nn k := rfl
      have hix := ixT_ok hO h0 (i := upR (fR I L (codeF I w)) f (nn - k)) (by omega) s1 s2
      refine ih (61 - (k + 1)) (by omega) (k + 1) _ rfl (by omega) ⟨(g1.1.trans f3.1), fun c hc j => ?_⟩ (fun t ht => ?_)
      · rw [rdI_k hc, ← rwS_s]
        by_cases q : c = 86 ∧ j = 60 * b + k
        · rw [q.1, q.2, rdI_eq, rdI_eq, hwk]
        · have h1 : S_215.1 c j = (rwS (rwS (setI S1 85 b (nI nn)) 86 (60 * b) 60 (fun _ => nI 0)) 86 (60 * b) k (wayF (fR I L (codeF I w)) f nn)).1 c j := (g1.2 c hc j).trans (f3.2 c hc j)
          by_cases q1 : c = 86
          · rw [rdI_j (fun e => q ⟨q1, e⟩), rdI_j (fun e => q ⟨q1, e⟩)]; exact h1
          · rw [rdI_k q1, rdI_k q1]; exact h1
      · have e1 : digF (rK (fR I L (codeF I w)) (upR (fR I L (codeF I w)) f (nn - (k + 1)))) t = upW (digF (rK (fR I L (codeF I w)) (upR (fR I L (codeF I w)) f (nn - k)))) (rY (fR I L (codeF I w)) (upR (fR I L (codeF I w)) f (nn - 1 - k)) / 7) (rY (fR I L (codeF I w)) (upR (fR I L (codeF I w)) f (nn - 1 - k)) % 7) t := by
          have e0 : rK (fR I L (codeF I w)) (upR (fR I L (codeF I w)) f (nn - 1 - k)) = nx I (rK (fR I L (codeF I w)) (upR (fR I L (codeF I w)) f (nn - k))) (rY (fR I L (codeF I w)) (upR (fR I L (codeF I w)) f (nn - 1 - k))) := by rw [← hix.2.1, s3]
          rw [show nn - (k + 1) = nn - 1 - k by omega, e0]
          have hok2 := (fR_inv hO h0).2.2.1 (upR (fR I L (codeF I w)) f (nn - k)) (by omega)
          have hw2 := ((VS_step hO hok2.2 (t := rY (fR I L (codeF I w)) (upR (fR I L (codeF I w)) f (nn - 1 - k)) / 7) (to := rY (fR I L (codeF I w)) (upR (fR I L (codeF I w)) f (nn - 1 - k)) % 7) (by omega) (mb_iff.mp s2)).ok hO).w7 hO
          exact dig_code hw2 t ht
        rw [e1]
        by_cases q : t = rY (fR I L (codeF I w)) (upR (fR I L (codeF I w)) f (nn - 1 - k)) / 7
        · rw [q, upW_eq, rdI_eq]
        · rw [upW_ne q, rdI_j q, rdI_k (by decide)]
          exact g2 t ht

theorem LC_lo {I : Isl} {L c0 n i j : Nat} {W : Nat → Prop} (hO : IOK I) (h0 : OKc I L c0) (hj : j < rC (fR I L c0)) (hij : j < i) : LC I L c0 W n i (rK (fR I L c0) j) = 0 := LC_f fun ⟨k, h1, h2, h3, _⟩ => by
  have := (fR_inv hO h0).2.1 k j h2 hj h3
  omega
theorem ld_skip {I : Isl} {L c0 n i : Nat} {W : Nat → Prop} {S : St} (hO : IOK I) (h0 : OKc I L c0) (hi : 0 < i) (hir : i - 1 < rC (fR I L c0)) (h : LdX I (fun c => LC I L c0 W n i c) S) (hn : ¬ leadN I L (fR I L c0) W n (i - 1)) : LdX I (fun c => LC I L c0 W n (i - 1) c) S := fun c hc => by
  rw [h c hc]
  show LC I L c0 W n i c = LC I L c0 W n (i - 1) c
  by_cases q : rK (fR I L c0) (i - 1) = c
  · rw [← q, LC_lo hO h0 hir (by omega), (LC_i hO h0 hir).2 hn]
  · rw [LC_s q, show i - 1 + 1 = i by omega]
theorem ld_step {I : Isl} {L c0 n i : Nat} {W : Nat → Prop} {S S1 : St} {v : Int32} (hi : 0 < i) (h : LdX I (fun c => LC I L c0 W n i c) S) (f : F97 S S1) (hv : v = LC I L c0 W n (i - 1) (rK (fR I L c0) (i - 1))) : LdX I (fun c => LC I L c0 W n (i - 1) c) (setI S1 104 (rK (fR I L c0) (i - 1)) v) := fun c hc => by
  show _ = LC I L c0 W n (i - 1) c
  by_cases q : rK (fR I L c0) (i - 1) = c
  · rw [← q, rdI_eq, hv]
  · rw [rdI_j (fun e => q e.symm), f.2 104 (by decide) c, h c hc, LC_s q, show i - 1 + 1 = i by omega]
theorem lead_iff {I : Isl} {L c0 n i : Nat} {W : Nat → Prop} (hO : IOK I) (h0 : OKc I L c0) (hi : 0 < i) (hir : i - 1 < rC (fR I L c0)) (hd : rD (fR I L c0) (i - 1) < n) : leadN I L (fR I L c0) W n (i - 1) ↔ ∃ s, s < 7 * iM I ∧ LSp I L c0 (fun c => LC I L c0 W n i c) (i - 1) s := by
  have hv := fR_inv hO h0
  have key : ∀ s, s < 7 * iM I → mb I L (rK (fR I L c0) (i - 1)) s = true → rD (fR I L c0) (ixT I (fR I L c0) (i - 1) s) = rD (fR I L c0) (i - 1) + 1 → (¬ LC I L c0 W n i (rK (fR I L c0) (ixT I (fR I L c0) (i - 1) s)) = 0 ↔ leadK I L (fR I L c0) W (n - (rD (fR I L c0) (i - 1) + 1)) (ixT I (fR I L c0) (i - 1) s)) := by
    intro s hs hm he
    have ht := ixT_ok hO h0 hir hs hm
    have hge : i ≤ ixT I (fR I L c0) (i - 1) s := by
      rcases Nat.lt_or_ge (ixT I (fR I L c0) (i - 1) s) i with q | q
      · have := hv.mono (i - 1) hir (ixT I (fR I L c0) (i - 1) s) (by omega)
        omega
      · exact q
    rw [LC_at hO h0 hge ht.1]
    unfold leadN
    rw [he]
    exact ⟨fun h => h.2, fun h => ⟨by omega, h⟩⟩
  unfold leadN
  constructor
  · rintro ⟨_, h⟩
    rw [show n - rD (fR I L c0) (i - 1) = (n - (rD (fR I L c0) (i - 1) + 1)) + 1 by omega] at h
    obtain ⟨s, s1, s2, s3, s4⟩ := h
    exact ⟨s, s1, s2, s3, (key s s1 s2 s3).mpr s4⟩
  · rintro ⟨s, s1, s2, s3, s4⟩
    refine ⟨by omega, ?_⟩
    rw [show n - rD (fR I L c0) (i - 1) = (n - (rD (fR I L c0) (i - 1) + 1)) + 1 by omega]
    exact ⟨s, s1, s2, s3, (key s s1 s2 s3).mp s4⟩
theorem upR_top {I : Isl} {L c0 f : Nat} (hO : IOK I) (h0 : OKc I L c0) (hf : f < rC (fR I L c0)) : upR (fR I L c0) f (rD (fR I L c0) f) = 0 := by
  have h := upR_d hO h0 hf (rD (fR I L c0) f) (Nat.le_refl _)
  rcases Nat.eq_zero_or_pos (upR (fR I L c0) f (rD (fR I L c0) f)) with q | q
  · exact q
  · have := (fR_inv hO h0).2.2.2.1 _ q (by omega)
    omega

set_option maxHeartbeats 4000000 in
set_option maxRecDepth 100000 in
theorem lp_wyM2 {S : St} {I : Isl} (hI : IsM I S) (hO : IOK I) {w : Nat → Nat} (hw0 : ∀ t, t < iM I → S.1 93 t = nI (w t)) {L : Nat} (hL : S.1 83 17 = nI L) (hL7 : L ≤ 6) (hv : VS I w L) {a b nn f : Nat} (ha : a < 6) (hb : b < 6) (hok : ∀ t, t < iM I → (S.1 86 (60 * a + t) = -1 ∨ S.1 86 (60 * a + t) = nI 4 ∨ (0 ≤ (S.1 86 (60 * a + t)).toInt ∧ (S.1 86 (60 * a + t)).toInt < (iP I : Int)))) (hf0 : f < rC (fR I L (codeF I w))) (hfw : (fun j => wantP I (fun t => S.1 86 (60 * a + t)) (rK (fR I L (codeF I w)) j)) f) (hfn : ∀ j, j < f → ¬ (fun j => wantP I (fun t => S.1 86 (60 * a + t)) (rK (fR I L (codeF I w)) j)) j) (hnn : nn = rD (fR I L (codeF I w)) f) (hn60 : nn ≤ 60) {S0 : St} (f0 : FrN S S0) (q0 : QuX I (fR I L (codeF I w)) S0) {S1 : St} (f1 : FrQ S0 S1) (hlc : LdX I (fun c => (LC I L (codeF I w) (fun j => wantP I (fun t => S.1 86 (60 * a + t)) (rK (fR I L (codeF I w)) j)) nn 0 c)) S1)  : ∀ (k : Nat), (k ≤ 60) → X 6 180 mX11_way (qi (fun r S' => r = nI nn ∧ WayM S S' b nn (fR I L (codeF I w)) f)) 174 [(5, .int (nI k)), (4, .int (nI nn)), (0, .ref 83), (1, .int (nI a)), (2, .int (nI b))] [] (rwS (setI S1 85 b (nI nn)) 86 (60 * b) k (fun _ => nI 0)) := by
  intro k
  induction hm : 61 - k using Nat.strongRecOn generalizing k with
  | _ mm ih =>
    intro hk
    have hO1 := hO.1
    have hO2 := hO.2.1
    have hO3 := hO.2.2.1
    have hO4 := hO.2.2.2.1
    have hw := hv.ok hO
    have hw7 := hw.w7 hO
    have h7 := p7le hO
    have h0 := hv.okc hO
    have hI3 : IsM I (rwS (setI S1 85 b (nI nn)) 86 (60 * b) k (fun _ => nI 0)) := ((hI.fn f0).fq f1).keep (fun j _ => (rwS_k (by decide)).trans (rdI_k (by decide))) (fun c hc j => (rwS_k (by intro e; subst e; revert hc; decide)).trans (rdI_k (by intro e; subst e; revert hc; decide)))
    have hw1 : ∀ t, t < iM I → ((rwS (setI S1 85 b (nI nn)) 86 (60 * b) k (fun _ => nI 0))).1 93 t = nI (w t) := fun t ht => (rwS_k (by decide)).trans ((rdI_k (by decide)).trans ((f1.2 93 (by decide) t).trans ((f0.2 93 t (by decide) (by omega)).trans (hw0 t ht))))
    refine x_iload 0 dX11_way_174 rfl ?_
    refine x_bipush (v := nI 60) dX11_way_176 (by decide) ?_
    refine y_ic_ge 200 dX11_way_178 (by decide) (by omega) (by omega) (fun c_178 => ?_) (fun c_178 => ?_)
    · refine x_aload_n 2 dX11_way_200 rfl rfl ?_
      refine x_callVv (as := []) (rest := []) vX11_217 (c_X11_lookNow hI3 hO) dX11_way_201 l83 rfl rfl rfl (Nat.le_of_ble_eq_true rfl) (Nat.le_of_ble_eq_true rfl) (Nat.le_of_ble_eq_true rfl) ?_
      refine x_iconst (v := nI 0) dX11_way_204 (by decide) ?_
      refine x_istore (lv' := [(5, _), (4, _), (0, _), (1, _), (2, _)]) dX11_way_205 (by decide) rfl ?_
      refine x_pick (lv' := [(5, _), (4, _), (0, _), (1, _), (2, _)]) [0, 1, 2, 3, 4] rfl ?_
      obtain rfl : k = 60 := (by omega)
      have et := upR_top hO h0 hf0
      rw [← hnn] at et
      have ec : rK (fR I L (codeF I w)) 0 = codeF I w := (fR_inv hO h0).1.2.1
      exact lp_wyM3 hI hO hw0 hL hL7 hv ha hb hok hf0 hfw hfn hnn hn60 f0 q0 f1 hlc 0 _ (Nat.zero_le _) (by rw [rwS_0]; exact lkS_f _ _) (fun t ht => by rw [Nat.sub_zero, et, ec]; rw [show digF (codeF I w) t = w t from dig_code hw7 t ht]; exact lkS_W hw1 t ht)
    · refine x_aload_n 2 dX11_way_181 rfl rfl ?_
      refine x_getR fX11_16 dX11_way_182 l83 rfl ?_
      refine x_bipush (v := nI 60) dX11_way_185 (by decide) ?_
      refine x_iload_n 4 dX11_way_187 rfl rfl ?_
      refine y_imul dX11_way_188 ?_
      refine x_iload 0 dX11_way_189 rfl ?_
      refine y_iadd dX11_way_191 ?_
      refine x_iconst (v := nI 0) dX11_way_192 (by decide) ?_
      refine y_iast dX11_way_193 l86 (by omega) (by decide) ?_
      refine y_iinc (lv' := [(5, _), (4, _), (0, _), (1, _), (2, _)]) 0 dX11_way_194 rfl (by decide) rfl ?_
      refine x_goto 174 dX11_way_197 (by decide) ?_
      refine x_pick (lv' := [(5, _), (4, _), (0, _), (1, _), (2, _)]) [0, 1, 2, 3, 4] rfl ?_
      refine x_cast (rwS_s (setI S1 85 b (nI nn)) 86 (60 * b) k (fun _ => nI 0)) ?_
      exact ih (61 - (k + 1)) (by omega) (k + 1) rfl (by omega)

theorem toI_dec {i : Nat} (h : i ≤ 16807) : (nI i - nI 1).toInt = (i : Int) - 1 := by
  rw [Int32.toInt_sub, tiN (by omega), tiN (by decide), Int.bmod_eq_of_le (by omega) (by omega)]
  rfl

set_option maxHeartbeats 4000000 in
set_option maxRecDepth 100000 in
theorem lp_wyM1 {S : St} {I : Isl} (hI : IsM I S) (hO : IOK I) {w : Nat → Nat} (hw0 : ∀ t, t < iM I → S.1 93 t = nI (w t)) {L : Nat} (hL : S.1 83 17 = nI L) (hL7 : L ≤ 6) (hv : VS I w L) {a b nn f : Nat} (ha : a < 6) (hb : b < 6) (hok : ∀ t, t < iM I → (S.1 86 (60 * a + t) = -1 ∨ S.1 86 (60 * a + t) = nI 4 ∨ (0 ≤ (S.1 86 (60 * a + t)).toInt ∧ (S.1 86 (60 * a + t)).toInt < (iP I : Int)))) (hf0 : f < rC (fR I L (codeF I w))) (hfw : (fun j => wantP I (fun t => S.1 86 (60 * a + t)) (rK (fR I L (codeF I w)) j)) f) (hfn : ∀ j, j < f → ¬ (fun j => wantP I (fun t => S.1 86 (60 * a + t)) (rK (fR I L (codeF I w)) j)) j) (hnn : nn = rD (fR I L (codeF I w)) f) (hn60 : nn ≤ 60) {S0 : St} (f0 : FrN S S0) (q0 : QuX I (fR I L (codeF I w)) S0)  : ∀ (i : Nat) (S2 : St), (i ≤ rC (fR I L (codeF I w))) → (FrQ S0 S2) → (LdX I (fun c => (LC I L (codeF I w) (fun j => wantP I (fun t => S.1 86 (60 * a + t)) (rK (fR I L (codeF I w)) j)) nn i c)) S2) → X 6 180 mX11_way (qi (fun r S' => r = nI nn ∧ WayM S S' b nn (fR I L (codeF I w)) f)) 79 [(5, .int (nI i - nI 1)), (4, .int (nI nn)), (0, .ref 83), (1, .int (nI a)), (2, .int (nI b))] [] S2 := by
  intro i S2
  induction hm : i + 0 using Nat.strongRecOn generalizing i S2 with
  | _ mm ih =>
    intro hi f2 hlc
    have hO1 := hO.1
    have hO2 := hO.2.1
    have hO3 := hO.2.2.1
    have hO4 := hO.2.2.2.1
    have hw := hv.ok hO
    have hw7 := hw.w7 hO
    have h7 := p7le hO
    have h0 := hv.okc hO
    have q2 := q0.fq f2
    have hle := q0.2.1
    have hI2 := (hI.fn f0).fq f2
    have e3 : (nI i - nI 1).toInt = (i : Int) - 1 := toI_dec (by omega)
    have hqi := q2.2.2.1 (i - 1)
    have hwq := fun h => ((fR_inv hO h0).2.2.1 (i - 1) h).2.ok hO
    have hrow : ∀ t, (loS S2 (rK (fR I L (codeF I w)) (i - 1)) (iM I)).1 86 (60 * a + t) = S.1 86 (60 * a + t) := fun t => (loS_k (by decide)).trans ((f2.2 86 (by decide) _).trans (f0.2 86 _ (by decide) (by omega)))
    have hwe : (fun t => (loS S2 (rK (fR I L (codeF I w)) (i - 1)) (iM I)).1 86 (60 * a + t)) = (fun t => S.1 86 (60 * a + t)) := funext hrow
    have hL2 : (loS S2 (rK (fR I L (codeF I w)) (i - 1)) (iM I)).1 83 17 = nI L := (loS_k (by decide)).trans ((f2.2 83 (by decide) 17).trans ((f0.2 83 17 (by decide) (by decide)).trans hL))
    refine x_iload 0 dX11_way_79 rfl ?_
    refine x_if_lt 163 dX11_way_81 (by decide) (fun c_81 => ?_) (fun c_81 => ?_)
    · refine x_aload_n 2 dX11_way_163 rfl rfl ?_
      refine x_getR fX11_13 dX11_way_164 l83 rfl ?_
      refine x_iload_n 4 dX11_way_167 rfl rfl ?_
      refine x_iload 1 dX11_way_168 rfl ?_
      refine y_iast dX11_way_170 l85 (by omega) (by decide) ?_
      refine x_iconst (v := nI 0) dX11_way_171 (by decide) ?_
      refine x_istore (lv' := [(5, _), (4, _), (0, _), (1, _), (2, _)]) dX11_way_172 (by decide) rfl ?_
      refine x_pick (lv' := [(5, _), (4, _), (0, _), (1, _), (2, _)]) [0, 1, 2, 3, 4] rfl ?_
      obtain rfl : i = 0 := (by omega)
      have hh := lp_wyM2 hI hO hw0 hL hL7 hv ha hb hok hf0 hfw hfn hnn hn60 f0 q0 f2 hlc 0 (Nat.zero_le _)
      rw [rwS_0] at hh
      exact hh
    · rw [nI_subN (a := i) (b := 1) (by omega)]
      refine x_aload_n 2 dX11_way_84 rfl rfl ?_
      refine x_getR fX11_65 dX11_way_85 l83 rfl ?_
      refine x_aload_n 2 dX11_way_88 rfl rfl ?_
      refine x_getR fX11_68 dX11_way_89 l83 rfl ?_
      refine x_iload 0 dX11_way_92 rfl ?_
      refine y_iald dX11_way_94 l103 (by omega) (by decide) (hqi (by omega)).1 ?_
      refine y_iald dX11_way_95 l102 (Nat.lt_of_lt_of_le (hqi (by omega)).2.1 h7) (by decide) (hqi (by omega)).2.2.1 ?_
      have hdl := (hqi (by omega)).2.2.2
      refine x_istore (lv' := [(6, _), (5, _), (4, _), (0, _), (1, _), (2, _)]) dX11_way_96 (by decide) rfl ?_
      refine x_iload 0 dX11_way_98 rfl ?_
      refine x_iload 2 dX11_way_100 rfl ?_
      refine y_ic_gt 157 dX11_way_102 (by decide) (by omega) (by omega) (fun c_102 => ?_) (fun c_102 => ?_)
      · refine x_iinc (lv' := [(5, _), (6, _), (4, _), (0, _), (1, _), (2, _)]) 1 dX11_way_157 rfl rfl (by decide) rfl ?_
        rw [nI_m1]
        refine x_goto 79 dX11_way_160 (by decide) ?_
        refine x_pick (lv' := [(5, _), (4, _), (0, _), (1, _), (2, _)]) [0, 2, 3, 4, 5] rfl ?_
        exact ih (i - 1 + 0) (by omega) (i - 1) S2 rfl (by omega) f2 (ld_skip hO h0 (by omega) (by omega) hlc (fun q => absurd q.1 (by omega)))
      · refine x_aload_n 3 dX11_way_105 rfl rfl ?_
        refine x_aload_n 3 dX11_way_106 rfl rfl ?_
        refine x_getR fX11_68 dX11_way_107 l83 rfl ?_
        refine x_iload 1 dX11_way_110 rfl ?_
        refine y_iald dX11_way_112 l103 (by omega) (by decide) (hqi (by omega)).1 ?_
        refine x_callVv (as := [_]) (rest := []) vX11_255 (c_X11_look hI2 hO (Nat.lt_of_lt_of_le (hqi (by omega)).2.1 h7)) dX11_way_113 l83 rfl rfl rfl (Nat.le_of_ble_eq_true rfl) (Nat.le_of_ble_eq_true rfl) (Nat.le_of_ble_eq_true rfl) ?_
        refine x_aload_n 3 dX11_way_116 rfl rfl ?_
        refine x_getR fX11_71 dX11_way_117 l83 rfl ?_
        refine x_aload_n 3 dX11_way_120 rfl rfl ?_
        refine x_getR fX11_68 dX11_way_121 l83 rfl ?_
        refine x_iload 1 dX11_way_124 rfl ?_
        refine y_iald dX11_way_126 l103 (by omega) (by decide) ((loS_k (by decide)).trans (hqi (by omega)).1) ?_
        refine x_iload 0 dX11_way_127 rfl ?_
        refine x_iload 2 dX11_way_129 rfl ?_
        refine y_ic_ne 142 dX11_way_131 (by decide) (by omega) (by omega) (fun c_131 => ?_) (fun c_131 => ?_)
        · refine x_aload_n 3 dX11_way_142 rfl rfl ?_
          refine x_callVqi (as := []) (rest := [_, _]) vX11_287 (c_X11_leadingStep (hI2.lo _ _) hO hL2 hL7 h0 (q2.f97 (loS_f _ _ _)) (lc := fun c => (LC I L (codeF I w) (fun j => wantP I (fun t => S.1 86 (60 * a + t)) (rK (fR I L (codeF I w)) j)) nn i c)) (fun c hc => (loS_k (by decide)).trans (hlc c hc)) (i := i - 1) (by omega) (fun t ht => if_pos ⟨rfl, ht⟩)) dX11_way_143 l83 rfl rfl rfl (Nat.le_of_ble_eq_true rfl) (Nat.le_of_ble_eq_true rfl) (Nat.le_of_ble_eq_true rfl) (fun r_143 S_143 q_143 => ?_)
          obtain ⟨g1, g2, g3⟩ := q_143
          refine x_bipush (v := -9) dX11_way_146 (by decide) ?_
          refine x_ic_eq 155 dX11_way_148 (by decide) (fun c_148 => ?_) (fun c_148 => ?_)
          · refine x_iconst (v := nI 0) dX11_way_155 (by decide) ?_
            refine y_zast dX11_way_156 l104 (Nat.lt_of_lt_of_le (hqi (by omega)).2.1 h7) (by decide) ?_
            refine x_iinc (lv' := [(5, _), (6, _), (4, _), (0, _), (1, _), (2, _)]) 1 dX11_way_157 rfl rfl (by decide) rfl ?_
            rw [nI_m1]
            refine x_goto 79 dX11_way_160 (by decide) ?_
            refine x_pick (lv' := [(5, _), (4, _), (0, _), (1, _), (2, _)]) [0, 2, 3, 4, 5] rfl ?_
            refine ih (i - 1 + 0) (by omega) (i - 1) _ rfl (by omega) (f2.trans ⟨g1.1, fun c hc j => (rdI_k (by omega)).trans ((g1.2 c (by omega) j).trans (loS_k (by omega)))⟩) (ld_step (by omega) hlc ((loS_f _ _ _).trans g1) ?_)
            rw [nar_b0]
            have hli := lead_iff (W := (fun j => wantP I (fun t => S.1 86 (60 * a + t)) (rK (fR I L (codeF I w)) j))) (n := nn) hO h0 (i := i) (by clear g3; omega) (by clear g3; omega) (by clear g3; omega)
            exact ((LC_i hO h0 (by clear g3; omega)).2 (fun q => by
              obtain ⟨s, t1, t2⟩ := hli.mp q
              rcases g3 with ⟨s', rfl, s1, _, _⟩ | ⟨_, h2⟩
              · exact absurd c_148 (nI_ne9 (by omega))
              · exact h2 s t1 t2)).symm
          · refine x_iconst (v := nI 1) dX11_way_151 (by decide) ?_
            refine x_goto 156 dX11_way_152 (by decide) ?_
            refine y_zast dX11_way_156 l104 (Nat.lt_of_lt_of_le (hqi (by omega)).2.1 h7) (by decide) ?_
            refine x_iinc (lv' := [(5, _), (6, _), (4, _), (0, _), (1, _), (2, _)]) 1 dX11_way_157 rfl rfl (by decide) rfl ?_
            rw [nI_m1]
            refine x_goto 79 dX11_way_160 (by decide) ?_
            refine x_pick (lv' := [(5, _), (4, _), (0, _), (1, _), (2, _)]) [0, 2, 3, 4, 5] rfl ?_
            refine ih (i - 1 + 0) (by omega) (i - 1) _ rfl (by omega) (f2.trans ⟨g1.1, fun c hc j => (rdI_k (by omega)).trans ((g1.2 c (by omega) j).trans (loS_k (by omega)))⟩) (ld_step (by omega) hlc ((loS_f _ _ _).trans g1) ?_)
            rw [nar_b1]
            have hli := lead_iff (W := (fun j => wantP I (fun t => S.1 86 (60 * a + t)) (rK (fR I L (codeF I w)) j))) (n := nn) hO h0 (i := i) (by clear g3; omega) (by clear g3; omega) (by clear g3; omega)
            obtain ⟨s, _, t1, t2, _⟩ := g3.resolve_right (fun q => c_148 q.1)
            exact ((LC_i hO h0 (by clear g3; omega)).1 (hli.mpr ⟨s, t1, t2⟩)).symm
        · refine x_aload_n 3 dX11_way_134 rfl rfl ?_
          refine x_iload_n 4 dX11_way_135 rfl rfl ?_
          refine x_callVb (as := [_]) (rest := [_, _]) vX11_278 (show C _ _ _ _ _ _ (pb (wantP I (fun t => S.1 86 (60 * a + t)) (rK (fR I L (codeF I w)) (i - 1))) _) by
              have h := c_X11_isWanted (hI2.lo (rK (fR I L (codeF I w)) (i - 1)) (iM I)) hO (w := digF (rK (fR I L (codeF I w)) (i - 1))) (fun t ht => if_pos ⟨rfl, ht⟩) (hwq (by omega)) ha (fun t ht => by rw [hrow t]; exact hok t ht)
              rw [hwe] at h
              exact h) dX11_way_136 l83 rfl rfl rfl (Nat.le_of_ble_eq_true rfl) (Nat.le_of_ble_eq_true rfl) (Nat.le_of_ble_eq_true rfl) (fun c_136 => ?_) (fun c_136 => ?_)
          · refine x_goto 156 dX11_way_139 (by decide) ?_
            refine y_zast dX11_way_156 l104 (Nat.lt_of_lt_of_le (hqi (by omega)).2.1 h7) (by decide) ?_
            refine x_iinc (lv' := [(5, _), (6, _), (4, _), (0, _), (1, _), (2, _)]) 1 dX11_way_157 rfl rfl (by decide) rfl ?_
            rw [nI_m1]
            refine x_goto 79 dX11_way_160 (by decide) ?_
            refine x_pick (lv' := [(5, _), (4, _), (0, _), (1, _), (2, _)]) [0, 2, 3, 4, 5] rfl ?_
            refine ih (i - 1 + 0) (by omega) (i - 1) _ rfl (by omega) (f2.trans ⟨rfl, fun c hc j => (rdI_k (by omega)).trans (loS_k (by omega))⟩) (ld_step (by omega) hlc (loS_f _ _ _) ?_)
            rw [nar_c1]
            have hwn : leadN I L (fR I L (codeF I w)) (fun j => wantP I (fun t => S.1 86 (60 * a + t)) (rK (fR I L (codeF I w)) j)) nn (i - 1) ↔ wantP I (fun t => S.1 86 (60 * a + t)) (rK (fR I L (codeF I w)) (i - 1)) := by
              unfold leadN
              rw [show nn - (rD (fR I L (codeF I w)) (i - 1)) = 0 by omega]
              exact ⟨fun h => h.2, fun h => ⟨by omega, h⟩⟩
            exact ((LC_i hO h0 (by omega)).1 (hwn.mpr c_136)).symm
          · refine x_goto 156 dX11_way_139 (by decide) ?_
            refine y_zast dX11_way_156 l104 (Nat.lt_of_lt_of_le (hqi (by omega)).2.1 h7) (by decide) ?_
            refine x_iinc (lv' := [(5, _), (6, _), (4, _), (0, _), (1, _), (2, _)]) 1 dX11_way_157 rfl rfl (by decide) rfl ?_
            rw [nI_m1]
            refine x_goto 79 dX11_way_160 (by decide) ?_
            refine x_pick (lv' := [(5, _), (4, _), (0, _), (1, _), (2, _)]) [0, 2, 3, 4, 5] rfl ?_
            refine ih (i - 1 + 0) (by omega) (i - 1) _ rfl (by omega) (f2.trans ⟨rfl, fun c hc j => (rdI_k (by omega)).trans (loS_k (by omega))⟩) (ld_step (by omega) hlc (loS_f _ _ _) ?_)
            rw [nar_c0]
            have hwn : leadN I L (fR I L (codeF I w)) (fun j => wantP I (fun t => S.1 86 (60 * a + t)) (rK (fR I L (codeF I w)) j)) nn (i - 1) ↔ wantP I (fun t => S.1 86 (60 * a + t)) (rK (fR I L (codeF I w)) (i - 1)) := by
              unfold leadN
              rw [show nn - (rD (fR I L (codeF I w)) (i - 1)) = 0 by omega]
              exact ⟨fun h => h.2, fun h => ⟨by omega, h⟩⟩
            exact ((LC_i hO h0 (by omega)).2 (fun q => c_136 (hwn.mp q))).symm

set_option maxHeartbeats 4000000 in
set_option maxRecDepth 100000 in
theorem lp_wyM0 {S : St} {I : Isl} (hI : IsM I S) (hO : IOK I) {w : Nat → Nat} (hw0 : ∀ t, t < iM I → S.1 93 t = nI (w t)) {L : Nat} (hL : S.1 83 17 = nI L) (hL7 : L ≤ 6) (hv : VS I w L) {a b nn f : Nat} (ha : a < 6) (hb : b < 6) (hok : ∀ t, t < iM I → (S.1 86 (60 * a + t) = -1 ∨ S.1 86 (60 * a + t) = nI 4 ∨ (0 ≤ (S.1 86 (60 * a + t)).toInt ∧ (S.1 86 (60 * a + t)).toInt < (iP I : Int)))) (hf0 : f < rC (fR I L (codeF I w))) (hfw : (fun j => wantP I (fun t => S.1 86 (60 * a + t)) (rK (fR I L (codeF I w)) j)) f) (hfn : ∀ j, j < f → ¬ (fun j => wantP I (fun t => S.1 86 (60 * a + t)) (rK (fR I L (codeF I w)) j)) j) (hnn : nn = rD (fR I L (codeF I w)) f) (hn60 : nn ≤ 60) {S0 : St} (f0 : FrN S S0) (q0 : QuX I (fR I L (codeF I w)) S0)  : ∀ (k : Nat), (k ≤ 7 ^ iM I) → X 6 180 mX11_way (qi (fun r S' => r = nI nn ∧ WayM S S' b nn (fR I L (codeF I w)) f)) 48 [(5, .int (nI k)), (4, .int (nI nn)), (0, .ref 83), (1, .int (nI a)), (2, .int (nI b))] [] (rwS S0 104 0 k (fun _ => (0 : Int32))) := by
  intro k
  induction hm : 7 ^ iM I - k using Nat.strongRecOn generalizing k with
  | _ mm ih =>
    intro hk
    have hO1 := hO.1
    have hO2 := hO.2.1
    have hO3 := hO.2.2.1
    have hO4 := hO.2.2.2.1
    have hw := hv.ok hO
    have hw7 := hw.w7 hO
    have h7 := p7le hO
    have h0 := hv.okc hO
    have f2 : FrQ S0 (rwS S0 104 0 k (fun _ => (0 : Int32))) := ⟨rfl, fun c hc j => rwS_k (by omega)⟩
    have hI2 := (hI.fn f0).fq f2
    have q2 := q0.fq f2
    have hle := q0.2.1
    refine x_iload 0 dX11_way_48 rfl ?_
    refine x_aload_n 2 dX11_way_50 rfl rfl ?_
    refine x_callVu (as := []) (rest := [_]) vX11_265 (c_X11_stateMany hI2 hO) dX11_way_51 l83 rfl rfl rfl (Nat.le_of_ble_eq_true rfl) (Nat.le_of_ble_eq_true rfl) (Nat.le_of_ble_eq_true rfl) ?_
    refine y_ic_ge 71 dX11_way_54 (by decide) (by omega) (by omega) (fun c_54 => ?_) (fun c_54 => ?_)
    · refine x_aload_n 2 dX11_way_71 rfl rfl ?_
      refine y_getI fX11_269 dX11_way_72 l83 rfl q2.1 ?_
      refine x_iconst (v := nI 1) dX11_way_75 (by decide) ?_
      refine x_isub dX11_way_76 ?_
      refine x_istore (lv' := [(5, _), (4, _), (0, _), (1, _), (2, _)]) dX11_way_77 (by decide) rfl ?_
      refine x_pick (lv' := [(5, _), (4, _), (0, _), (1, _), (2, _)]) [0, 1, 2, 3, 4] rfl ?_
      obtain rfl : k = 7 ^ iM I := (by omega)
      exact lp_wyM1 hI hO hw0 hL hL7 hv ha hb hok hf0 hfw hfn hnn hn60 f0 q0 (rC (fR I L (codeF I w))) _ (Nat.le_refl _) f2 (fun c hc => (rwS_at0 hc).trans LC_end.symm)
    · refine x_aload_n 2 dX11_way_57 rfl rfl ?_
      refine x_getR fX11_71 dX11_way_58 l83 rfl ?_
      refine x_iload 0 dX11_way_61 rfl ?_
      refine x_iconst (v := nI 0) dX11_way_63 (by decide) ?_
      refine y_zast dX11_way_64 l104 (by omega) (by decide) ?_
      rw [nar_b0]
      refine y_iinc (lv' := [(5, _), (4, _), (0, _), (1, _), (2, _)]) 0 dX11_way_65 rfl (by decide) rfl ?_
      refine x_goto 48 dX11_way_68 (by decide) ?_
      refine x_pick (lv' := [(5, _), (4, _), (0, _), (1, _), (2, _)]) [0, 1, 2, 3, 4] rfl ?_
      refine x_cast (rwS_s0 S0 104 k (fun _ => (0 : Int32))) ?_
      exact ih (7 ^ iM I - (k + 1)) (by omega) (k + 1) rfl (by omega)

set_option maxHeartbeats 4000000 in
set_option maxRecDepth 100000 in
theorem c_X11_way {S : St} {I : Isl} (hI : IsM I S) (hO : IOK I) {w : Nat → Nat} (hw0 : ∀ t, t < iM I → S.1 93 t = nI (w t)) {L : Nat} (hL : S.1 83 17 = nI L) (hL7 : L ≤ 6) (hv : VS I w L) (hS : RwM S) (h60 : ∀ i, i < rC (fR I L (codeF I w)) → rD (fR I L (codeF I w)) i ≤ 60) {x y : Int32} : C 6 180 yX11_way mX11_way [.ref 83, .int x, .int y] S (qi (i5 (¬ ((0 ≤ x.toInt ∧ x.toInt < 6) ∧ 0 ≤ y.toInt ∧ y.toInt < 6)) ((S.1 85 (tn x)).toInt < 0) (¬ (S.1 85 (tn x)).toInt = (iM I : Int)) (¬ ∀ t, t < iM I → (S.1 86 (60 * tn x + t) = -1 ∨ S.1 86 (60 * tn x + t) = nI 4 ∨ (0 ≤ (S.1 86 (60 * tn x + t)).toInt ∧ (S.1 86 (60 * tn x + t)).toInt < (iP I : Int)))) (an (-1) S) (an (-3) (fndM S 1)) (an (-3) (fndM S 5)) (an (-3) (fndM S 3)) (fun r S' => (∃ i, i < rC (fR I L (codeF I w)) ∧ wantP I (fun t => S.1 86 (60 * tn x + t)) (rK (fR I L (codeF I w)) i) ∧ (∀ j, j < i → ¬ wantP I (fun t => S.1 86 (60 * tn x + t)) (rK (fR I L (codeF I w)) j)) ∧ r = nI (rD (fR I L (codeF I w)) i) ∧ WayM S S' (tn y) (rD (fR I L (codeF I w)) i) (fR I L (codeF I w)) i) ∨ (r = -9 ∧ (∀ j, j < rC (fR I L (codeF I w)) → ¬ wantP I (fun t => S.1 86 (60 * tn x + t)) (rK (fR I L (codeF I w)) j)) ∧ FrN S S')))) := by
  have hO1 := hO.1
  have hO2 := hO.2.1
  have hO3 := hO.2.2.1
  have hO4 := hO.2.2.2.1
  refine C.ofX (by decide) rfl (Nat.le_of_ble_eq_true rfl) ?_
  show X 6 180 mX11_way (qi (i5 (¬ ((0 ≤ x.toInt ∧ x.toInt < 6) ∧ 0 ≤ y.toInt ∧ y.toInt < 6)) ((S.1 85 (tn x)).toInt < 0) (¬ (S.1 85 (tn x)).toInt = (iM I : Int)) (¬ ∀ t, t < iM I → (S.1 86 (60 * tn x + t) = -1 ∨ S.1 86 (60 * tn x + t) = nI 4 ∨ (0 ≤ (S.1 86 (60 * tn x + t)).toInt ∧ (S.1 86 (60 * tn x + t)).toInt < (iP I : Int)))) (an (-1) S) (an (-3) (fndM S 1)) (an (-3) (fndM S 5)) (an (-3) (fndM S 3)) (fun r S' => (∃ i, i < rC (fR I L (codeF I w)) ∧ wantP I (fun t => S.1 86 (60 * tn x + t)) (rK (fR I L (codeF I w)) i) ∧ (∀ j, j < i → ¬ wantP I (fun t => S.1 86 (60 * tn x + t)) (rK (fR I L (codeF I w)) j)) ∧ r = nI (rD (fR I L (codeF I w)) i) ∧ WayM S S' (tn y) (rD (fR I L (codeF I w)) i) (fR I L (codeF I w)) i) ∨ (r = -9 ∧ (∀ j, j < rC (fR I L (codeF I w)) → ¬ wantP I (fun t => S.1 86 (60 * tn x + t)) (rK (fR I L (codeF I w)) j)) ∧ FrN S S')))) 0 [(0, .ref 83), (1, .int x), (2, .int y)] [] S
  refine x_iload_n 1 dX11_way_0 rfl rfl ?_
  refine x_callSb (as := [_]) (rest := []) sX11_108 c_X11_isRow dX11_way_1 rfl rfl (Nat.le_of_ble_eq_true rfl) (Nat.le_of_ble_eq_true rfl) (Nat.le_of_ble_eq_true rfl) (fun c_1 => ?_) (fun c_1 => ?_)
  · refine u_if_eq 14 dX11_way_4 (by decide) (by decide) ?_
    refine x_iload_n 2 dX11_way_7 rfl rfl ?_
    refine x_callSb (as := [_]) (rest := []) sX11_108 c_X11_isRow dX11_way_8 rfl rfl (Nat.le_of_ble_eq_true rfl) (Nat.le_of_ble_eq_true rfl) (Nat.le_of_ble_eq_true rfl) (fun c_8 => ?_) (fun c_8 => ?_)
    · refine t_if_ne 16 dX11_way_11 (by decide) (by decide) ?_
      obtain ⟨a, ha, rfl⟩ := nI_ex (x := x) (n := 6) (by omega) (by omega)
      have ea : (nI a).toInt = (a : Int) := tiN (by omega)
      have ta : tn (nI a) = a := tnN (by omega)
      obtain ⟨b, hb, rfl⟩ := nI_ex (x := y) (n := 6) (by omega) (by omega)
      have eb : (nI b).toInt = (b : Int) := tiN (by omega)
      have tb : tn (nI b) = b := tnN (by omega)
      have hy6 : 0 ≤ (nI b).toInt ∧ (nI b).toInt < 6 := by omega
      refine x_aload_n 0 dX11_way_16 rfl rfl ?_
      refine x_iload_n 1 dX11_way_17 rfl rfl ?_
      refine x_callVu (as := [_]) (rest := []) vX11_281 (c_X11_needWanted hI hO hS ha) dX11_way_18 l83 rfl rfl rfl (Nat.le_of_ble_eq_true rfl) (Nat.le_of_ble_eq_true rfl) (Nat.le_of_ble_eq_true rfl) ?_
      refine x_istore_n (lv' := [(3, _), (0, _), (1, _), (2, _)]) dX11_way_21 rfl (by decide) rfl ?_
      refine x_iload_n 0 dX11_way_22 rfl rfl ?_
      refine x_if_ge 28 dX11_way_23 (by decide) (fun c_23 => ?_) (fun c_23 => ?_)
      · have n0 : (nI 0).toInt = 0 := rfl
        obtain ⟨n1, n2, n3⟩ := need_ok c_23
        have hok2 : ∀ t, t < iM I → (S.1 86 (60 * a + t) = -1 ∨ S.1 86 (60 * a + t) = nI 4 ∨ (0 ≤ (S.1 86 (60 * a + t)).toInt ∧ (S.1 86 (60 * a + t)).toInt < (iP I : Int))) := fun t ht => Classical.byContradiction fun k => n3 (fun q => k (q t ht))
        refine x_cast (e4_3 n1 n2 n3) ?_
        refine x_aload_n 1 dX11_way_28 rfl rfl ?_
        refine x_iload_n 2 dX11_way_29 rfl rfl ?_
        refine x_callVqi (as := [_]) (rest := []) vX11_284 (c_X11_nearest hI hO hw0 hL hL7 hv ha hok2) dX11_way_30 l83 rfl rfl rfl (Nat.le_of_ble_eq_true rfl) (Nat.le_of_ble_eq_true rfl) (Nat.le_of_ble_eq_true rfl) (fun r_30 S_30 q_30 => ?_)
        obtain ⟨f1, f2, f3⟩ := q_30
        refine x_istore (lv' := [(4, _), (3, _), (0, _), (1, _), (2, _)]) dX11_way_33 (by decide) rfl ?_
        refine x_iload 0 dX11_way_35 rfl ?_
        refine x_bipush (v := -9) dX11_way_37 (by decide) ?_
        refine x_ic_ne 45 dX11_way_39 (by decide) (fun c_39 => ?_) (fun c_39 => ?_)
        · obtain ⟨f, g1, g2, g3, g4, g5⟩ := f3.resolve_left (fun k => c_39 k.1)
          rw [show ((4, Value.int r_30) : Nat × Value) = (4, Value.int (nI (rD (fR I L (codeF I w)) f))) from by rw [g4]]
          refine x_iconst (v := nI 0) dX11_way_45 (by decide) ?_
          refine x_istore (lv' := [(5, _), (4, _), (3, _), (0, _), (1, _), (2, _)]) dX11_way_46 (by decide) rfl ?_
          refine x_pick (lv' := [(5, _), (4, _), (0, _), (1, _), (2, _)]) [0, 1, 3, 4, 5] rfl ?_
          have hh := lp_wyM0 hI hO hw0 hL hL7 hv ha hb (nn := rD (fR I L (codeF I w)) f) hok2 g1 g2 g3 rfl (h60 f g1) f1 f2 0 (Nat.zero_le _)
          rw [rwS_0] at hh
          refine hh.mono (fun v S' hq => ?_)
          obtain ⟨r, rfl, rfl, hr⟩ := hq
          simp only [ta, tb]
          exact q5_4 (fun h => h ⟨by omega, hy6⟩) n1 n2 n3 (Or.inl ⟨f, g1, g2, g3, rfl, hr⟩)
        · refine x_bipush (v := -9) dX11_way_42 (by decide) ?_
          refine x_iret rfl dX11_way_44 (by simp only [ta, tb]; rcases f3 with ⟨_, f4⟩ | ⟨f, f5, _, _, f4, _⟩; exact q5_4 (fun h => h ⟨by omega, hy6⟩) n1 n2 n3 (Or.inr ⟨rfl, f4, f1⟩); exact absurd (f4.symm.trans c_39) (nI_ne9 (by have := (f2.2.2.1 f f5).2.2.2; omega)))
      · refine x_iload_n 0 dX11_way_26 rfl rfl ?_
        refine x_iret rfl dX11_way_27 (by simp only [ta, tb]; exact need_no (fun h => h ⟨by omega, hy6⟩) c_23)
    · refine u_if_ne 16 dX11_way_11 (by decide) (by decide) ?_
      refine x_iconst (v := -1) dX11_way_14 (by decide) ?_
      refine x_iret rfl dX11_way_15 (q5_0 (fun h => by first | exact c_1 h.1 | exact c_8 h.2) ⟨rfl, rfl⟩)
  · refine t_if_eq 14 dX11_way_4 (by decide) (by decide) ?_
    refine x_iconst (v := -1) dX11_way_14 (by decide) ?_
    refine x_iret rfl dX11_way_15 (q5_0 (fun h => by first | exact c_1 h.1 | exact c_8 h.2) ⟨rfl, rfl⟩)
