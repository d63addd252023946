/-! ===== all, till, fewest, way: the class ===== -/
theorem hDall2 {I : Isl} {L c0 : Nat} (hO : IOK I) (h0 : OKc I L c0) (hR : Roomy I L c0) : ∀ e j, alive I L c0 e → j < rC (bfs I L c0 e) → rD (bfs I L c0 e) j < 16807 := fun e j ha hj => Nat.lt_trans (hDall hO h0 hR e j ha hj) (by decide)

set_option maxHeartbeats 4000000 in
set_option maxRecDepth 100000 in
theorem c_X10_all {S : St} {I : Isl} (hI : IsX 11 I S) (hO : IOK I) {w : Nat → Nat} (hP : PlT 35 I w S) {L : Nat} (hL : S.1 35 5 = nI L) (hL7 : L ≤ 6) (hv : VS I w L) (hL1 : 1 ≤ L) (hR : Roomy I L (codeF I w)) (hs : SrX I S) : C 5 150 yX10_all mX10_all [.ref 0] S (qi (fun r S' => r = nI (rC (fR I L (codeF I w))) ∧ ∃ e S2, Fr FS S S2 ∧ SeX I L (codeF I w) e S2 ∧ S' = setI S2 1 0 (nI (rD (fR I L (codeF I w)) (rC (fR I L (codeF I w)) - 1))))) := by
  have hO1 := hO.1
  have hO2 := hO.2.1
  have hO3 := hO.2.2.1
  have hO4 := hO.2.2.2.1
  have hw := hv.ok hO
  have hw7 := hw.w7 hO
  have h0 := hv.okc hO
  refine C.ofX (by decide) rfl (Nat.le_of_ble_eq_true rfl) ?_
  show X 5 150 mX10_all (qi (fun r S' => r = nI (rC (fR I L (codeF I w))) ∧ ∃ e S2, Fr FS S S2 ∧ SeX I L (codeF I w) e S2 ∧ S' = setI S2 1 0 (nI (rD (fR I L (codeF I w)) (rC (fR I L (codeF I w)) - 1))))) 0 [(0, .ref 0)] [] S
  refine x_aload_n 0 dX10_all_0 rfl rfl ?_
  refine x_getR fX10_83 dX10_all_1 l0 rfl ?_
  refine x_aload_n 0 dX10_all_4 rfl rfl ?_
  refine x_getR fX10_49 dX10_all_5 l0 rfl ?_
  refine x_callVu (as := []) (rest := [_]) vX10_274 (c_X3_code (Or.inl rfl) hI hO hP.1 hw7) dX10_all_8 l35 rfl rfl rfl (Nat.le_of_ble_eq_true rfl) (Nat.le_of_ble_eq_true rfl) (Nat.le_of_ble_eq_true rfl) ?_
  refine x_aload_n 0 dX10_all_11 rfl rfl ?_
  refine x_getR fX10_49 dX10_all_12 l0 rfl ?_
  refine y_getI fX10_231 dX10_all_15 l35 rfl hL ?_
  refine x_callVqv (as := [_, _]) (rest := []) vX10_310 (c_X6_begin hI hO hL1 hL7 h0 hs) dX10_all_18 l74 rfl rfl rfl (Nat.le_of_ble_eq_true rfl) (Nat.le_of_ble_eq_true rfl) (Nat.le_of_ble_eq_true rfl) (fun S_18 q_18 => ?_)
  obtain ⟨f1, e0, f2⟩ := q_18
  have hI1 : IsX 11 I S_18 := hI.keep (fun a h1 h2 b => f1.2 a (by unfold FS; omega) b)
  refine x_aload_n 0 dX10_all_21 rfl rfl ?_
  refine x_getR fX10_83 dX10_all_22 l0 rfl ?_
  refine x_sipush (v := nI 8525) dX10_all_25 (by decide +kernel) ?_
  refine x_callVqv (as := [_]) (rest := []) vX10_321 (c_X6_expandTo hI1 hO hL7 h0 hR f2 (k := 8525) (by omega) (hDall2 hO h0 hR)) dX10_all_28 l74 rfl rfl rfl (Nat.le_of_ble_eq_true rfl) (Nat.le_of_ble_eq_true rfl) (Nat.le_of_ble_eq_true rfl) (fun S_28 q_28 => ?_)
  obtain ⟨e1, g1, g2, g3, g4⟩ := q_28
  have ga := g2.2.2.2.2.2.2.2
  have hf1 := g4.resolve_right (fun q => by have := hDall hO h0 hR e1 e1 ga q.1; omega)
  have hf2 := fR_full hO h0 ga hf1
  have hen : e1 = bN I L (codeF I w) := by have := (bN_ok hO h0).2; omega
  have hpos : 0 < rC (fR I L (codeF I w)) := (fR_inv hO h0).1.1
  have hrc := hR.1 _ ga
  have hI2 : IsX 11 I S_28 := hI1.keep (fun a h1 h2 b => g1.2 a (by unfold FS; omega) b)
  have hfe : bfs I L (codeF I w) e1 = fR I L (codeF I w) := by rw [hen]; rfl
  rw [hfe] at hrc hf1
  refine x_aload_n 0 dX10_all_31 rfl rfl ?_
  refine x_getR fX10_83 dX10_all_32 l0 rfl ?_
  refine x_callVu (as := []) (rest := []) vX10_324 (c_X6_found hI2 hO g2) dX10_all_35 l74 rfl rfl rfl (Nat.le_of_ble_eq_true rfl) (Nat.le_of_ble_eq_true rfl) (Nat.le_of_ble_eq_true rfl) ?_
  rw [hfe]
  refine x_istore_n (lv' := [(1, _), (0, _)]) dX10_all_38 rfl (by decide) rfl ?_
  refine x_aload_n 1 dX10_all_39 rfl rfl ?_
  refine x_getR fX10_10 dX10_all_40 l0 rfl ?_
  refine x_aload_n 1 dX10_all_43 rfl rfl ?_
  refine x_getR fX10_83 dX10_all_44 l0 rfl ?_
  refine x_iload_n 0 dX10_all_47 rfl rfl ?_
  refine x_iconst (v := nI 1) dX10_all_48 (by decide) ?_
  refine y_isub dX10_all_49 (by omega) ?_
  refine x_callVu (as := [_]) (rest := [_]) vX10_307 (c_X6_depthOf hI2 hO h0 g2 (by rw [hfe]; omega)) dX10_all_50 l74 rfl rfl rfl (Nat.le_of_ble_eq_true rfl) (Nat.le_of_ble_eq_true rfl) (Nat.le_of_ble_eq_true rfl) ?_
  rw [hfe]
  refine x_callVu (as := [_]) (rest := []) vX10_131 c_X9_tell dX10_all_53 l1 rfl rfl rfl (Nat.le_of_ble_eq_true rfl) (Nat.le_of_ble_eq_true rfl) (Nat.le_of_ble_eq_true rfl) ?_
  refine x_pop dX10_all_56 rfl ?_
  refine x_iload_n 0 dX10_all_57 rfl rfl ?_
  refine x_iret rfl dX10_all_58 ⟨_, rfl, rfl, e1, _, f1.trans g1, g2, rfl⟩

set_option maxHeartbeats 4000000 in
set_option maxRecDepth 100000 in
theorem c_X10_till {S : St} {I : Isl} (hI : IsX 11 I S) (hO : IOK I) {w : Nat → Nat} (hP : PlT 35 I w S) {L : Nat} (hL : S.1 35 5 = nI L) (hL7 : L ≤ 6) (hv : VS I w L) (hL1 : 1 ≤ L) (hR : Roomy I L (codeF I w)) (hs : SrX I S) {x : Int32} : C 6 180 yX10_till mX10_till [.ref 0, .int x] S (qi (i2 (¬ (0 ≤ x.toInt ∧ x.toInt < (iW I : Int))) (an (-1) S) (fun r S' => ((∃ i, i < rC (fR I L (codeF I w)) ∧ (canF I (digF (rK (fR I L (codeF I w)) i)) (tn x)) ∧ (∀ j, j < i → ¬ (canF I (digF (rK (fR I L (codeF I w)) j)) (tn x))) ∧ r = nI (rD (fR I L (codeF I w)) i)) ∨ (r = -9 ∧ ∀ j, j < rC (fR I L (codeF I w)) → ¬ (canF I (digF (rK (fR I L (codeF I w)) j)) (tn x)))) ∧ Fr FS S S' ∧ ∃ e, SeX I L (codeF I w) e S'))) := by
  have hO1 := hO.1
  have hO2 := hO.2.1
  have hO3 := hO.2.2.1
  have hO4 := hO.2.2.2.1
  have hw := hv.ok hO
  have hw7 := hw.w7 hO
  have h0 := hv.okc hO
  refine C.ofX (by decide) rfl (Nat.le_of_ble_eq_true rfl) ?_
  show X 6 180 mX10_till (qi (i2 (¬ (0 ≤ x.toInt ∧ x.toInt < (iW I : Int))) (an (-1) S) (fun r S' => ((∃ i, i < rC (fR I L (codeF I w)) ∧ (canF I (digF (rK (fR I L (codeF I w)) i)) (tn x)) ∧ (∀ j, j < i → ¬ (canF I (digF (rK (fR I L (codeF I w)) j)) (tn x))) ∧ r = nI (rD (fR I L (codeF I w)) i)) ∨ (r = -9 ∧ ∀ j, j < rC (fR I L (codeF I w)) → ¬ (canF I (digF (rK (fR I L (codeF I w)) j)) (tn x)))) ∧ Fr FS S S' ∧ ∃ e, SeX I L (codeF I w) e S'))) 0 [(0, .ref 0), (1, .int x)] [] S
  refine x_aload_n 0 dX10_till_0 rfl rfl ?_
  refine x_getR fX10_40 dX10_till_1 l0 rfl ?_
  refine x_iload_n 1 dX10_till_4 rfl rfl ?_
  refine x_callVb (as := [_]) (rest := []) vX10_218 (c_X1_isWork (Or.inl rfl) hI hO) dX10_till_5 l11 rfl rfl rfl (Nat.le_of_ble_eq_true rfl) (Nat.le_of_ble_eq_true rfl) (Nat.le_of_ble_eq_true rfl) (fun c_5 => ?_) (fun c_5 => ?_)
  · refine t_if_ne 13 dX10_till_8 (by decide) (by decide) ?_
    obtain ⟨a, ha, rfl⟩ := nI_ex (x := x) (n := iW I) (by omega) (by omega)
    have ea : (nI a).toInt = (a : Int) := tiN (by omega)
    have ta : tn (nI a) = a := tnN (by omega)
    refine x_aload_n 0 dX10_till_13 rfl rfl ?_
    refine x_getR fX10_83 dX10_till_14 l0 rfl ?_
    refine x_aload_n 0 dX10_till_17 rfl rfl ?_
    refine x_getR fX10_49 dX10_till_18 l0 rfl ?_
    refine x_callVu (as := []) (rest := [_]) vX10_274 (c_X3_code (Or.inl rfl) hI hO hP.1 hw7) dX10_till_21 l35 rfl rfl rfl (Nat.le_of_ble_eq_true rfl) (Nat.le_of_ble_eq_true rfl) (Nat.le_of_ble_eq_true rfl) ?_
    refine x_aload_n 0 dX10_till_24 rfl rfl ?_
    refine x_getR fX10_49 dX10_till_25 l0 rfl ?_
    refine y_getI fX10_231 dX10_till_28 l35 rfl hL ?_
    refine x_callVqv (as := [_, _]) (rest := []) vX10_310 (c_X6_begin hI hO hL1 hL7 h0 hs) dX10_till_31 l74 rfl rfl rfl (Nat.le_of_ble_eq_true rfl) (Nat.le_of_ble_eq_true rfl) (Nat.le_of_ble_eq_true rfl) (fun S_31 q_31 => ?_)
    obtain ⟨f1, e0, f2⟩ := q_31
    have hI1 : IsX 11 I S_31 := hI.keep (fun a h1 h2 b => f1.2 a (by unfold FS; omega) b)
    refine x_aload_n 0 dX10_till_34 rfl rfl ?_
    refine x_getR fX10_83 dX10_till_35 l0 rfl ?_
    refine x_iload_n 1 dX10_till_38 rfl rfl ?_
    refine x_callVqi (as := [_]) (rest := []) vX10_327 (c_X6_firstDoing hI1 hO hL7 h0 hR ha f2) dX10_till_39 l74 rfl rfl rfl (Nat.le_of_ble_eq_true rfl) (Nat.le_of_ble_eq_true rfl) (Nat.le_of_ble_eq_true rfl) (fun r_39 S_39 q_39 => ?_)
    obtain ⟨e1, g1, g2, g3⟩ := q_39
    have ga := g2.2.2.2.2.2.2.2
    have gp := fR_pre hO h0 ga
    have hI2 : IsX 11 I S_39 := hI1.keep (fun a h1 h2 b => g1.2 a (by unfold FS; omega) b)
    refine x_istore_n (lv' := [(2, _), (0, _), (1, _)]) dX10_till_42 rfl (by decide) rfl ?_
    refine x_iload_n 0 dX10_till_43 rfl rfl ?_
    refine x_bipush (v := -9) dX10_till_44 (by decide) ?_
    refine x_ic_ne 54 dX10_till_46 (by decide) (fun c_46 => ?_) (fun c_46 => ?_)
    · obtain ⟨i, rfl, g4, g5, g6⟩ := g3.resolve_right (fun k => c_46 k.1)
      refine x_aload_n 1 dX10_till_54 rfl rfl ?_
      refine x_getR fX10_83 dX10_till_55 l0 rfl ?_
      refine x_iload_n 0 dX10_till_58 rfl rfl ?_
      refine x_callVu (as := [_]) (rest := []) vX10_307 (c_X6_depthOf hI2 hO h0 g2 g4) dX10_till_59 l74 rfl rfl rfl (Nat.le_of_ble_eq_true rfl) (Nat.le_of_ble_eq_true rfl) (Nat.le_of_ble_eq_true rfl) ?_
      refine x_iret rfl dX10_till_62 (by simp only [ta]; exact q2_1 (by omega) ⟨Or.inl ⟨i, Nat.lt_of_lt_of_le g4 gp.1, g5, g6, by rw [(gp.2 i g4).2.2.2]⟩, f1.trans g1, e1, g2⟩)
    · refine x_bipush (v := -9) dX10_till_49 (by decide) ?_
      refine x_goto 62 dX10_till_51 (by decide) ?_
      refine x_iret rfl dX10_till_62 (by simp only [ta]; refine q2_1 (by omega) ⟨Or.inr ⟨rfl, ?_⟩, f1.trans g1, e1, g2⟩; rcases g3 with ⟨i, rfl, g4, _, _⟩ | g3; exact absurd c_46 (nI_ne9 (by have := g2.1.2.1; omega)); exact g3.2)
  · refine u_if_ne 13 dX10_till_8 (by decide) (by decide) ?_
    refine x_iconst (v := -1) dX10_till_11 (by decide) ?_
    refine x_iret rfl dX10_till_12 (q2_0 c_5 ⟨rfl, rfl⟩)

theorem rwS_st {S : St} {k n : Nat} {f : Nat → Int32} : setI (rwS S k 0 n f) k n (f n) = rwS S k 0 (n + 1) f := rwS_s0 S k n f

set_option maxHeartbeats 4000000 in
set_option maxRecDepth 100000 in
theorem lp_want2 {S : St} {I : Isl} (hI : IsX 11 I S) (hO : IOK I) {w : Nat → Nat} (hP : PlT 35 I w S) {L : Nat} (hL : S.1 35 5 = nI L) (hL7 : L ≤ 6) (hv : VS I w L) (hS : RwS 3 6 60 S) {a z : Nat} (ha : a < 6) (ez : S.1 4 a = nI z) (hz : z ≤ 60) (hzm : z = iM I) {S2 : St} {e : Nat} (f1 : Fr FS S S2) (f2 : SeX I L (codeF I w) e S2)  : ∀ (t : Nat), (t ≤ iM I) → X 3 90 mX10_wanted (qi (fun r S' => r = nI 0 ∧ ∃ S2 e, Fr FS S S2 ∧ SeX I L (codeF I w) e S2 ∧ S' = rwS S2 75 0 (iM I) (fun t => S.1 5 (a * 60 + t)))) 142 [(2, .int (nI t)), (0, .ref 0), (1, .int (nI a))] [] (rwS S2 75 0 t (fun t => S.1 5 (a * 60 + t))) := by
  intro t
  induction hm : iM I - t using Nat.strongRecOn generalizing t with
  | _ mm ih =>
    intro ht
    have hO1 := hO.1
    have hO2 := hO.2.1
    have hO3 := hO.2.2.1
    have hO4 := hO.2.2.2.1
    have hw := hv.ok hO
    have hw7 := hw.w7 hO
    refine x_iload_n 0 dX10_wanted_142 rfl rfl ?_
    refine x_aload_n 1 dX10_wanted_143 rfl rfl ?_
    refine x_getR fX10_40 dX10_wanted_144 l0 rfl ?_
    refine y_getI fX10_173 dX10_wanted_147 l11 rfl ((rwS_k (by decide)).trans ((f1.2 11 (by unfold FS; omega) 1).trans hI.2.1)) ?_
    refine y_ic_ge 176 dX10_wanted_150 (by decide) (by omega) (by omega) (fun c_150 => ?_) (fun c_150 => ?_)
    · refine x_iconst (v := nI 0) dX10_wanted_176 (by decide) ?_
      refine x_iret rfl dX10_wanted_177 (by obtain rfl : t = iM I := (by omega); exact ⟨_, rfl, rfl, S2, e, f1, f2, rfl⟩)
    · refine x_aload_n 1 dX10_wanted_153 rfl rfl ?_
      refine x_getR fX10_83 dX10_wanted_154 l0 rfl ?_
      refine x_iload_n 0 dX10_wanted_157 rfl rfl ?_
      refine x_aload_n 1 dX10_wanted_158 rfl rfl ?_
      refine x_getR fX10_21 dX10_wanted_159 l0 rfl ?_
      refine x_iload_n 2 dX10_wanted_162 rfl rfl ?_
      refine x_iload_n 0 dX10_wanted_163 rfl rfl ?_
      refine x_callVu (as := [_, _]) (rest := [_, _]) vX10_124 (c_getR (v := S.1 5 (a * 60 + t)) ((rwS_k (by decide)).trans ((f1.2 3 (by unfold FS; omega) 0).trans hS.1)) ha ((rwS_k (by decide)).trans ((f1.2 4 (by unfold FS; omega) a).trans ez)) hz (by omega) ((rwS_k (by decide)).trans (f1.2 5 (by unfold FS; omega) _))) dX10_wanted_164 l3 rfl rfl rfl (Nat.le_of_ble_eq_true rfl) (Nat.le_of_ble_eq_true rfl) (Nat.le_of_ble_eq_true rfl) ?_
      refine x_callVv (as := [_, _]) (rest := []) vX10_312 (c_X6_want (hI.keep (fun a h1 h2 b => (rwS_k (by omega)).trans (f1.2 a (by unfold FS; omega) b))) hO (by omega)) dX10_wanted_167 l74 rfl rfl rfl (Nat.le_of_ble_eq_true rfl) (Nat.le_of_ble_eq_true rfl) (Nat.le_of_ble_eq_true rfl) ?_
      refine y_iinc (lv' := [(2, _), (0, _), (1, _)]) 0 dX10_wanted_170 rfl (by decide) rfl ?_
      refine x_goto 142 dX10_wanted_173 (by decide) ?_
      refine x_pick (lv' := [(2, _), (0, _), (1, _)]) [0, 1, 2] rfl ?_
      refine x_cast (rwS_s0 S2 75 t (fun t => S.1 5 (a * 60 + t))) ?_
      exact ih (iM I - (t + 1)) (by omega) (t + 1) rfl (by omega)

set_option maxHeartbeats 4000000 in
set_option maxRecDepth 100000 in
theorem lp_want1 {S : St} {I : Isl} (hI : IsX 11 I S) (hO : IOK I) {w : Nat → Nat} (hP : PlT 35 I w S) {L : Nat} (hL : S.1 35 5 = nI L) (hL7 : L ≤ 6) (hv : VS I w L) (hL1 : 1 ≤ L) (hR : Roomy I L (codeF I w)) (hs : SrX I S) (hS : RwS 3 6 60 S) {a z : Nat} (ha : a < 6) (ez : S.1 4 a = nI z) (hz : z ≤ 60) (hzm : z = iM I)  : ∀ (t : Nat), (t ≤ iM I) → (∀ t', t' < t → (S.1 5 (a * 60 + t') = -1 ∨ S.1 5 (a * 60 + t') = nI 4 ∨ (0 ≤ (S.1 5 (a * 60 + t')).toInt ∧ (S.1 5 (a * 60 + t')).toInt < (iP I : Int)))) → X 3 90 mX10_wanted (qi (i2 (¬ (∀ t, t < iM I → (S.1 5 (a * 60 + t) = -1 ∨ S.1 5 (a * 60 + t) = nI 4 ∨ (0 ≤ (S.1 5 (a * 60 + t)).toInt ∧ (S.1 5 (a * 60 + t)).toInt < (iP I : Int))))) (an (-3) (fndS S 3)) (fun r S' => r = nI 0 ∧ ∃ S2 e, Fr FS S S2 ∧ SeX I L (codeF I w) e S2 ∧ S' = rwS S2 75 0 (iM I) (fun t => S.1 5 (a * 60 + t))))) 62 [(2, .int (nI t)), (0, .ref 0), (1, .int (nI a))] [] S := by
  intro t
  induction hm : iM I - t using Nat.strongRecOn generalizing t with
  | _ mm ih =>
    intro ht hx
    have hO1 := hO.1
    have hO2 := hO.2.1
    have hO3 := hO.2.2.1
    have hO4 := hO.2.2.2.1
    have hw := hv.ok hO
    have hw7 := hw.w7 hO
    have h0 := hv.okc hO
    refine x_iload_n 0 dX10_wanted_62 rfl rfl ?_
    refine x_aload_n 1 dX10_wanted_63 rfl rfl ?_
    refine x_getR fX10_40 dX10_wanted_64 l0 rfl ?_
    refine y_getI fX10_173 dX10_wanted_67 l11 rfl hI.2.1 ?_
    refine y_ic_ge 119 dX10_wanted_70 (by decide) (by omega) (by omega) (fun c_70 => ?_) (fun c_70 => ?_)
    · refine x_aload_n 1 dX10_wanted_119 rfl rfl ?_
      refine x_getR fX10_83 dX10_wanted_120 l0 rfl ?_
      refine x_aload_n 1 dX10_wanted_123 rfl rfl ?_
      refine x_getR fX10_49 dX10_wanted_124 l0 rfl ?_
      refine x_callVu (as := []) (rest := [_]) vX10_274 (c_X3_code (Or.inl rfl) hI hO hP.1 hw7) dX10_wanted_127 l35 rfl rfl rfl (Nat.le_of_ble_eq_true rfl) (Nat.le_of_ble_eq_true rfl) (Nat.le_of_ble_eq_true rfl) ?_
      refine x_aload_n 1 dX10_wanted_130 rfl rfl ?_
      refine x_getR fX10_49 dX10_wanted_131 l0 rfl ?_
      refine y_getI fX10_231 dX10_wanted_134 l35 rfl hL ?_
      refine x_callVqv (as := [_, _]) (rest := []) vX10_310 (c_X6_begin hI hO hL1 hL7 h0 hs) dX10_wanted_137 l74 rfl rfl rfl (Nat.le_of_ble_eq_true rfl) (Nat.le_of_ble_eq_true rfl) (Nat.le_of_ble_eq_true rfl) (fun S_137 q_137 => ?_)
      obtain ⟨f1, e0, f2⟩ := q_137
      have hI1 : IsX 11 I S_137 := hI.keep (fun a h1 h2 b => f1.2 a (by unfold FS; omega) b)
      refine x_iconst (v := nI 0) dX10_wanted_140 (by decide) ?_
      refine x_istore_n (lv' := [(2, _), (0, _), (1, _)]) dX10_wanted_141 rfl (by decide) rfl ?_
      refine x_pick (lv' := [(2, _), (0, _), (1, _)]) [0, 1, 2] rfl ?_
      have hh := lp_want2 hI hO hP hL hL7 hv hS ha ez hz hzm f1 f2 0 (Nat.zero_le _)
      rw [rwS_0] at hh
      refine hh.mono (fun v S' hq => ?_)
      obtain ⟨r, rfl, hr⟩ := hq
      exact q2_1 (fun h => h (fun t' ht' => hx t' (by omega))) hr
    · refine x_aload_n 1 dX10_wanted_73 rfl rfl ?_
      refine x_getR fX10_21 dX10_wanted_74 l0 rfl ?_
      refine x_iload_n 2 dX10_wanted_77 rfl rfl ?_
      refine x_iload_n 0 dX10_wanted_78 rfl rfl ?_
      refine x_callVu (as := [_, _]) (rest := []) vX10_124 (c_getR hS.1 ha ez hz (by omega) rfl) dX10_wanted_79 l3 rfl rfl rfl (Nat.le_of_ble_eq_true rfl) (Nat.le_of_ble_eq_true rfl) (Nat.le_of_ble_eq_true rfl) ?_
      refine x_istore_n (lv' := [(3, _), (2, _), (0, _), (1, _)]) dX10_wanted_82 rfl (by decide) rfl ?_
      refine x_iload_n 0 dX10_wanted_83 rfl rfl ?_
      refine x_iconst (v := -1) dX10_wanted_84 (by decide) ?_
      refine x_ic_eq 113 dX10_wanted_85 (by decide) (fun c_85 => ?_) (fun c_85 => ?_)
      · refine y_iinc (lv' := [(2, _), (3, _), (0, _), (1, _)]) 1 dX10_wanted_113 rfl (by decide) rfl ?_
        refine x_goto 62 dX10_wanted_116 (by decide) ?_
        refine x_pick (lv' := [(2, _), (0, _), (1, _)]) [0, 2, 3] rfl ?_
        exact ih (iM I - (t + 1)) (by omega) (t + 1) rfl (by omega) (fun t' h => by rcases Nat.lt_succ_iff_lt_or_eq.mp h with k | k; exact hx t' k; subst k; first | exact Or.inl c_85 | exact Or.inr (Or.inl c_90) | exact Or.inr (Or.inr c_98))
      · refine x_iload_n 0 dX10_wanted_88 rfl rfl ?_
        refine x_iconst (v := nI 4) dX10_wanted_89 (by decide) ?_
        refine x_ic_eq 113 dX10_wanted_90 (by decide) (fun c_90 => ?_) (fun c_90 => ?_)
        · refine y_iinc (lv' := [(2, _), (3, _), (0, _), (1, _)]) 1 dX10_wanted_113 rfl (by decide) rfl ?_
          refine x_goto 62 dX10_wanted_116 (by decide) ?_
          refine x_pick (lv' := [(2, _), (0, _), (1, _)]) [0, 2, 3] rfl ?_
          exact ih (iM I - (t + 1)) (by omega) (t + 1) rfl (by omega) (fun t' h => by rcases Nat.lt_succ_iff_lt_or_eq.mp h with k | k; exact hx t' k; subst k; first | exact Or.inl c_85 | exact Or.inr (Or.inl c_90) | exact Or.inr (Or.inr c_98))
        · refine x_aload_n 2 dX10_wanted_93 rfl rfl ?_
          refine x_getR fX10_40 dX10_wanted_94 l0 rfl ?_
          refine x_iload_n 0 dX10_wanted_97 rfl rfl ?_
          refine x_callVb (as := [_]) (rest := []) vX10_224 (c_X1_isPerson (Or.inl rfl) hI hO) dX10_wanted_98 l11 rfl rfl rfl (Nat.le_of_ble_eq_true rfl) (Nat.le_of_ble_eq_true rfl) (Nat.le_of_ble_eq_true rfl) (fun c_98 => ?_) (fun c_98 => ?_)
          · refine t_if_ne 113 dX10_wanted_101 (by decide) (by decide) ?_
            refine y_iinc (lv' := [(2, _), (3, _), (0, _), (1, _)]) 1 dX10_wanted_113 rfl (by decide) rfl ?_
            refine x_goto 62 dX10_wanted_116 (by decide) ?_
            refine x_pick (lv' := [(2, _), (0, _), (1, _)]) [0, 2, 3] rfl ?_
            exact ih (iM I - (t + 1)) (by omega) (t + 1) rfl (by omega) (fun t' h => by rcases Nat.lt_succ_iff_lt_or_eq.mp h with k | k; exact hx t' k; subst k; first | exact Or.inl c_85 | exact Or.inr (Or.inl c_90) | exact Or.inr (Or.inr c_98))
          · refine u_if_ne 113 dX10_wanted_101 (by decide) (by decide) ?_
            refine x_aload_n 2 dX10_wanted_104 rfl rfl ?_
            refine x_getR fX10_10 dX10_wanted_105 l0 rfl ?_
            refine x_iconst (v := nI 3) dX10_wanted_108 (by decide) ?_
            refine x_callVu (as := [_]) (rest := []) vX10_109 (c_X9_find (by decide) (by decide)) dX10_wanted_109 l1 rfl rfl rfl (Nat.le_of_ble_eq_true rfl) (Nat.le_of_ble_eq_true rfl) (Nat.le_of_ble_eq_true rfl) ?_
            refine x_iret rfl dX10_wanted_112 (q2_0 (fun h => by rcases h t (by omega) with k | k | k; exact c_85 k; exact c_90 k; exact c_98 k) ⟨rfl, rfl⟩)

set_option maxHeartbeats 4000000 in
set_option maxRecDepth 100000 in
theorem c_X10_wanted {S : St} {I : Isl} (hI : IsX 11 I S) (hO : IOK I) {w : Nat → Nat} (hP : PlT 35 I w S) {L : Nat} (hL : S.1 35 5 = nI L) (hL7 : L ≤ 6) (hv : VS I w L) (hL1 : 1 ≤ L) (hR : Roomy I L (codeF I w)) (hs : SrX I S) (hS : RwS 3 6 60 S) {x : Int32} : C 3 90 yX10_wanted mX10_wanted [.ref 0, .int x] S (qi (i5 (¬ (0 ≤ x.toInt ∧ x.toInt < 6)) ((S.1 4 (tn x)).toInt < 0) (¬ (S.1 4 (tn x)).toInt = (iM I : Int)) (¬ ∀ t, t < iM I → (S.1 5 (tn x * 60 + t) = -1 ∨ S.1 5 (tn x * 60 + t) = nI 4 ∨ (0 ≤ (S.1 5 (tn x * 60 + t)).toInt ∧ (S.1 5 (tn x * 60 + t)).toInt < (iP I : Int)))) (an (-1) S) (an (-3) (fndS S 1)) (an (-3) (fndS S 5)) (an (-3) (fndS S 3)) (fun r S' => r = nI 0 ∧ ∃ S2 e, Fr FS S S2 ∧ SeX I L (codeF I w) e S2 ∧ S' = rwS S2 75 0 (iM I) (fun t => S.1 5 (tn x * 60 + t))))) := by
  have hO1 := hO.1
  have hO2 := hO.2.1
  have hO3 := hO.2.2.1
  have hO4 := hO.2.2.2.1
  refine C.ofX (by decide) rfl (Nat.le_of_ble_eq_true rfl) ?_
  show X 3 90 mX10_wanted (qi (i5 (¬ (0 ≤ x.toInt ∧ x.toInt < 6)) ((S.1 4 (tn x)).toInt < 0) (¬ (S.1 4 (tn x)).toInt = (iM I : Int)) (¬ ∀ t, t < iM I → (S.1 5 (tn x * 60 + t) = -1 ∨ S.1 5 (tn x * 60 + t) = nI 4 ∨ (0 ≤ (S.1 5 (tn x * 60 + t)).toInt ∧ (S.1 5 (tn x * 60 + t)).toInt < (iP I : Int)))) (an (-1) S) (an (-3) (fndS S 1)) (an (-3) (fndS S 5)) (an (-3) (fndS S 3)) (fun r S' => r = nI 0 ∧ ∃ S2 e, Fr FS S S2 ∧ SeX I L (codeF I w) e S2 ∧ S' = rwS S2 75 0 (iM I) (fun t => S.1 5 (tn x * 60 + t))))) 0 [(0, .ref 0), (1, .int x)] [] S
  refine x_aload_n 0 dX10_wanted_0 rfl rfl ?_
  refine x_getR fX10_21 dX10_wanted_1 l0 rfl ?_
  refine x_iload_n 1 dX10_wanted_4 rfl rfl ?_
  refine x_callVb (as := [_]) (rest := []) vX10_105 (c_X5_isOne isR) dX10_wanted_5 l3 rfl rfl rfl (Nat.le_of_ble_eq_true rfl) (Nat.le_of_ble_eq_true rfl) (Nat.le_of_ble_eq_true rfl) (fun c_5 => ?_) (fun c_5 => ?_)
  · refine t_if_ne 13 dX10_wanted_8 (by decide) (by decide) ?_
    obtain ⟨a, ha, rfl⟩ := nI_ex (x := x) (n := 6) (by omega) (by omega)
    have ea : (nI a).toInt = (a : Int) := tiN (by omega)
    have ta : tn (nI a) = a := tnN (by omega)
    refine x_aload_n 0 dX10_wanted_13 rfl rfl ?_
    refine x_getR fX10_21 dX10_wanted_14 l0 rfl ?_
    refine x_iload_n 1 dX10_wanted_17 rfl rfl ?_
    refine x_callVb (as := [_]) (rest := []) vX10_117 (c_miss ha) dX10_wanted_18 l3 rfl rfl rfl (Nat.le_of_ble_eq_true rfl) (Nat.le_of_ble_eq_true rfl) (Nat.le_of_ble_eq_true rfl) (fun c_18 => ?_) (fun c_18 => ?_)
    · refine u_if_eq 33 dX10_wanted_21 (by decide) (by decide) ?_
      refine x_aload_n 0 dX10_wanted_24 rfl rfl ?_
      refine x_getR fX10_10 dX10_wanted_25 l0 rfl ?_
      refine x_iconst (v := nI 1) dX10_wanted_28 (by decide) ?_
      refine x_callVu (as := [_]) (rest := []) vX10_109 (c_X9_find (by decide) (by decide)) dX10_wanted_29 l1 rfl rfl rfl (Nat.le_of_ble_eq_true rfl) (Nat.le_of_ble_eq_true rfl) (Nat.le_of_ble_eq_true rfl) ?_
      refine x_iret rfl dX10_wanted_32 (by simp only [ta]; exact q5_1 (by omega) (by omega) ⟨rfl, rfl⟩)
    · refine t_if_eq 33 dX10_wanted_21 (by decide) (by decide) ?_
      obtain ⟨z, hz, ez⟩ := hS.nn ha c_18
      have ezi : (nI z).toInt = (z : Int) := tiN (by omega)
      refine x_aload_n 0 dX10_wanted_33 rfl rfl ?_
      refine x_getR fX10_21 dX10_wanted_34 l0 rfl ?_
      refine x_iload_n 1 dX10_wanted_37 rfl rfl ?_
      refine x_callVu (as := [_]) (rest := []) vX10_141 (c_sizeOf isR ha ez) dX10_wanted_38 l3 rfl rfl rfl (Nat.le_of_ble_eq_true rfl) (Nat.le_of_ble_eq_true rfl) (Nat.le_of_ble_eq_true rfl) ?_
      refine x_aload_n 0 dX10_wanted_41 rfl rfl ?_
      refine x_getR fX10_40 dX10_wanted_42 l0 rfl ?_
      refine y_getI fX10_173 dX10_wanted_45 l11 rfl hI.2.1 ?_
      refine y_ic_eq 60 dX10_wanted_48 (by decide) (by omega) (by omega) (fun c_48 => ?_) (fun c_48 => ?_)
      · refine x_iconst (v := nI 0) dX10_wanted_60 (by decide) ?_
        refine x_istore_n (lv' := [(2, _), (0, _), (1, _)]) dX10_wanted_61 rfl (by decide) rfl ?_
        refine x_pick (lv' := [(2, _), (0, _), (1, _)]) [0, 1, 2] rfl ?_
        refine (lp_want1 hI hO hP hL hL7 hv hL1 hR hs hS ha ez hz (by omega) 0 (Nat.zero_le _) (fun t h => absurd h (Nat.not_lt_zero t))).mono (fun v S' hq => ?_)
        obtain ⟨r, rfl, hr⟩ := hq
        simp only [ta, ez]
        by_cases hg : (∀ t, t < iM I → (S.1 5 (a * 60 + t) = -1 ∨ S.1 5 (a * 60 + t) = nI 4 ∨ (0 ≤ (S.1 5 (a * 60 + t)).toInt ∧ (S.1 5 (a * 60 + t)).toInt < (iP I : Int))))
        · rw [e2_1 (fun q => q hg)] at hr
          exact q5_4 (by omega) (by omega) (by omega) (fun q => q hg) hr
        · rw [e2_0 hg] at hr
          exact q5_3 (by omega) (by omega) (by omega) hg hr
      · refine x_aload_n 0 dX10_wanted_51 rfl rfl ?_
        refine x_getR fX10_10 dX10_wanted_52 l0 rfl ?_
        refine x_iconst (v := nI 5) dX10_wanted_55 (by decide) ?_
        refine x_callVu (as := [_]) (rest := []) vX10_109 (c_X9_find (by decide) (by decide)) dX10_wanted_56 l1 rfl rfl rfl (Nat.le_of_ble_eq_true rfl) (Nat.le_of_ble_eq_true rfl) (Nat.le_of_ble_eq_true rfl) ?_
        refine x_iret rfl dX10_wanted_59 (by simp only [ta, ez]; exact q5_2 (by omega) (by omega) (by omega) ⟨rfl, rfl⟩)
  · refine u_if_ne 13 dX10_wanted_8 (by decide) (by decide) ?_
    refine x_iconst (v := -1) dX10_wanted_11 (by decide) ?_
    refine x_iret rfl dX10_wanted_12 (q5_0 c_5 ⟨rfl, rfl⟩)

/-- an answer of one of five cases, taken apart: the first four are no 0 -/
theorem i5_split {p q r s : Prop} {S0 S1 S2 S3 : St} {e : Int32 → St → Prop} {x : Int32} {S : St} (h : i5 p q r s (an (-1) S0) (an (-3) S1) (an (-3) S2) (an (-3) S3) e x S) :
    (¬ x = 0 ∧ i5 p q r s (an (-1) S0) (an (-3) S1) (an (-3) S2) (an (-3) S3) (fun _ _ => False) x S) ∨ (¬ p ∧ ¬ q ∧ ¬ r ∧ ¬ s ∧ e x S) := by
  by_cases hp : p
  · rw [e5_0 hp] at h
    exact Or.inl ⟨by rw [h.1]; decide, by rw [e5_0 hp]; exact h⟩
  · by_cases hq : q
    · rw [e5_1 hp hq] at h
      exact Or.inl ⟨by rw [h.1]; decide, by rw [e5_1 hp hq]; exact h⟩
    · by_cases hr : r
      · rw [e5_2 hp hq hr] at h
        exact Or.inl ⟨by rw [h.1]; decide, by rw [e5_2 hp hq hr]; exact h⟩
      · by_cases hs : s
        · rw [e5_3 hp hq hr hs] at h
          exact Or.inl ⟨by rw [h.1]; decide, by rw [e5_3 hp hq hr hs]; exact h⟩
        · rw [e5_4 hp hq hr hs] at h
          exact Or.inr ⟨hp, hq, hr, hs, h⟩
theorem i5_put {p q r s : Prop} {S0 S1 S2 S3 : St} {e : Int32 → St → Prop} {x : Int32} {S : St} (h : i5 p q r s (an (-1) S0) (an (-3) S1) (an (-3) S2) (an (-3) S3) (fun _ _ => False) x S) : i5 p q r s (an (-1) S0) (an (-3) S1) (an (-3) S2) (an (-3) S3) e x S := by
  by_cases hp : p
  · rw [e5_0 hp] at h ⊢; exact h
  · by_cases hq : q
    · rw [e5_1 hp hq] at h ⊢; exact h
    · by_cases hr : r
      · rw [e5_2 hp hq hr] at h ⊢; exact h
      · by_cases hs : s
        · rw [e5_3 hp hq hr hs] at h ⊢; exact h
        · rw [e5_4 hp hq hr hs] at h; exact h.elim

set_option maxHeartbeats 4000000 in
set_option maxRecDepth 100000 in
theorem c_X10_fewest {S : St} {I : Isl} (hI : IsX 11 I S) (hO : IOK I) {w : Nat → Nat} (hP : PlT 35 I w S) {L : Nat} (hL : S.1 35 5 = nI L) (hL7 : L ≤ 6) (hv : VS I w L) (hL1 : 1 ≤ L) (hR : Roomy I L (codeF I w)) (hs : SrX I S) (hS : RwS 3 6 60 S) {x : Int32} : C 6 180 yX10_fewest mX10_fewest [.ref 0, .int x] S (qi (i5 (¬ (0 ≤ x.toInt ∧ x.toInt < 6)) ((S.1 4 (tn x)).toInt < 0) (¬ (S.1 4 (tn x)).toInt = (iM I : Int)) (¬ ∀ t, t < iM I → (S.1 5 (tn x * 60 + t) = -1 ∨ S.1 5 (tn x * 60 + t) = nI 4 ∨ (0 ≤ (S.1 5 (tn x * 60 + t)).toInt ∧ (S.1 5 (tn x * 60 + t)).toInt < (iP I : Int)))) (an (-1) S) (an (-3) (fndS S 1)) (an (-3) (fndS S 5)) (an (-3) (fndS S 3)) (fun r S' => (∃ i, i < rC (fR I L (codeF I w)) ∧ wantP I (fun t => S.1 5 (tn x * 60 + t)) (rK (fR I L (codeF I w)) i) ∧ (∀ j, j < i → ¬ wantP I (fun t => S.1 5 (tn x * 60 + t)) (rK (fR I L (codeF I w)) j)) ∧ r = nI (rD (fR I L (codeF I w)) i) ∧ ∃ S2 e, Fr (fun a => FS a ∨ a = 75) S S2 ∧ SeX I L (codeF I w) e S2 ∧ S' = setI S2 1 0 (nI (sm (nearT I L (codeF I w) i (fun t => S.1 5 (tn x * 60 + t))) (rC (fR I L (codeF I w)))))) ∨ (r = -9 ∧ (∀ j, j < rC (fR I L (codeF I w)) → ¬ wantP I (fun t => S.1 5 (tn x * 60 + t)) (rK (fR I L (codeF I w)) j)) ∧ ∃ e, Fr (fun a => FS a ∨ a = 75) S S' ∧ SeX I L (codeF I w) e S')))) := by
  have hO1 := hO.1
  have hO2 := hO.2.1
  have hO3 := hO.2.2.1
  have hO4 := hO.2.2.2.1
  have hw := hv.ok hO
  have hw7 := hw.w7 hO
  have h0 := hv.okc hO
  refine C.ofX (by decide) rfl (Nat.le_of_ble_eq_true rfl) ?_
  show X 6 180 mX10_fewest (qi (i5 (¬ (0 ≤ x.toInt ∧ x.toInt < 6)) ((S.1 4 (tn x)).toInt < 0) (¬ (S.1 4 (tn x)).toInt = (iM I : Int)) (¬ ∀ t, t < iM I → (S.1 5 (tn x * 60 + t) = -1 ∨ S.1 5 (tn x * 60 + t) = nI 4 ∨ (0 ≤ (S.1 5 (tn x * 60 + t)).toInt ∧ (S.1 5 (tn x * 60 + t)).toInt < (iP I : Int)))) (an (-1) S) (an (-3) (fndS S 1)) (an (-3) (fndS S 5)) (an (-3) (fndS S 3)) (fun r S' => (∃ i, i < rC (fR I L (codeF I w)) ∧ wantP I (fun t => S.1 5 (tn x * 60 + t)) (rK (fR I L (codeF I w)) i) ∧ (∀ j, j < i → ¬ wantP I (fun t => S.1 5 (tn x * 60 + t)) (rK (fR I L (codeF I w)) j)) ∧ r = nI (rD (fR I L (codeF I w)) i) ∧ ∃ S2 e, Fr (fun a => FS a ∨ a = 75) S S2 ∧ SeX I L (codeF I w) e S2 ∧ S' = setI S2 1 0 (nI (sm (nearT I L (codeF I w) i (fun t => S.1 5 (tn x * 60 + t))) (rC (fR I L (codeF I w)))))) ∨ (r = -9 ∧ (∀ j, j < rC (fR I L (codeF I w)) → ¬ wantP I (fun t => S.1 5 (tn x * 60 + t)) (rK (fR I L (codeF I w)) j)) ∧ ∃ e, Fr (fun a => FS a ∨ a = 75) S S' ∧ SeX I L (codeF I w) e S')))) 0 [(0, .ref 0), (1, .int x)] [] S
  refine x_aload_n 0 dX10_fewest_0 rfl rfl ?_
  refine x_iload_n 1 dX10_fewest_1 rfl rfl ?_
  refine x_callVqi (as := [_]) (rest := []) vX10_298 (c_X10_wanted hI hO hP hL hL7 hv hL1 hR hs hS) dX10_fewest_2 l0 rfl rfl rfl (Nat.le_of_ble_eq_true rfl) (Nat.le_of_ble_eq_true rfl) (Nat.le_of_ble_eq_true rfl) (fun r_2 S_2 q_2 => ?_)
  have hsp := i5_split q_2
  refine x_istore_n (lv' := [(2, _), (0, _), (1, _)]) dX10_fewest_5 rfl (by decide) rfl ?_
  refine x_iload_n 0 dX10_fewest_6 rfl rfl ?_
  refine x_if_eq 12 dX10_fewest_7 (by decide) (fun c_7 => ?_) (fun c_7 => ?_)
  · obtain ⟨hn1, hn2, hn3, hn4, hr0, S2, e0, f1, f2, rfl⟩ := hsp.resolve_left (fun k => k.1 c_7)
    have f3 : Fr (fun a => FS a ∨ a = 75) S (rwS S2 75 0 (iM I) (fun t => S.1 5 (tn x * 60 + t))) := ⟨f1.1, fun a ha b => (rwS_k (fun q => ha (Or.inr q))).trans (f1.2 a (fun q => ha (Or.inl q)) b)⟩
    have hx3 : SeX I L (codeF I w) e0 (rwS S2 75 0 (iM I) (fun t => S.1 5 (tn x * 60 + t))) := f2.keep (fun a b ha => rwS_k (by omega)) (rwS_k (by decide))
    have hI1 : IsX 11 I (rwS S2 75 0 (iM I) (fun t => S.1 5 (tn x * 60 + t))) := hI.keep (fun a h1 h2 b => f3.2 a (by unfold FS; omega) b)
    refine x_aload_n 1 dX10_fewest_12 rfl rfl ?_
    refine x_getR fX10_83 dX10_fewest_13 l0 rfl ?_
    refine x_callVqi (as := []) (rest := []) vX10_301 (c_X6_firstAsWanted hI1 hO hL7 h0 hR (wv := (fun t => S.1 5 (tn x * 60 + t))) (fun t ht => rwS_at0 ht) hx3) dX10_fewest_16 l74 rfl rfl rfl (Nat.le_of_ble_eq_true rfl) (Nat.le_of_ble_eq_true rfl) (Nat.le_of_ble_eq_true rfl) (fun r_16 S_16 q_16 => ?_)
    obtain ⟨e1, g1, g2, g3⟩ := q_16
    have ga := g2.2.2.2.2.2.2.2
    have gp := fR_pre hO h0 ga
    have hI2 : IsX 11 I S_16 := hI1.keep (fun a h1 h2 b => g1.2 a (by unfold FS; omega) b)
    have f4 : Fr (fun a => FS a ∨ a = 75) S S_16 := f3.trans (g1.wider (fun a h => Or.inl h))
    refine x_istore_n (lv' := [(3, _), (2, _), (0, _), (1, _)]) dX10_fewest_19 rfl (by decide) rfl ?_
    refine x_iload_n 0 dX10_fewest_20 rfl rfl ?_
    refine x_bipush (v := -9) dX10_fewest_21 (by decide) ?_
    refine x_ic_ne 29 dX10_fewest_23 (by decide) (fun c_23 => ?_) (fun c_23 => ?_)
    · obtain ⟨i, rfl, g4, g5, g6⟩ := g3.resolve_right (fun k => c_23 k.1)
      refine x_aload_n 2 dX10_fewest_29 rfl rfl ?_
      refine x_getR fX10_10 dX10_fewest_30 l0 rfl ?_
      refine x_aload_n 2 dX10_fewest_33 rfl rfl ?_
      refine x_getR fX10_83 dX10_fewest_34 l0 rfl ?_
      refine x_iload_n 0 dX10_fewest_37 rfl rfl ?_
      refine x_callVqi (as := [_]) (rest := [_]) vX10_304 (c_X6_asNear hI2 hO hL7 h0 hR (wv := (fun t => S.1 5 (tn x * 60 + t))) (fun t ht => (g1.2 75 (by unfold FS; omega) t).trans (rwS_at0 ht)) (Nat.lt_of_lt_of_le g4 gp.1) g6 g2 g4) dX10_fewest_38 l74 rfl rfl rfl (Nat.le_of_ble_eq_true rfl) (Nat.le_of_ble_eq_true rfl) (Nat.le_of_ble_eq_true rfl) (fun r_38 S_38 q_38 => ?_)
      obtain ⟨e2, k1, k2, k3, rfl⟩ := q_38
      have ka := k2.2.2.2.2.2.2.2
      have kp := fR_pre hO h0 ka
      have hI3 : IsX 11 I (setI S_38 1 0 (nI (sm (nearT I L (codeF I w) i (fun t => S.1 5 (tn x * 60 + t))) (rC (fR I L (codeF I w)))))) := hI2.keep (fun a h1 h2 b => (rdI_k (by omega)).trans (k1.2 a (by unfold FS; omega) b))
      refine x_callVu (as := [_]) (rest := []) vX10_131 c_X9_tell dX10_fewest_41 l1 rfl rfl rfl (Nat.le_of_ble_eq_true rfl) (Nat.le_of_ble_eq_true rfl) (Nat.le_of_ble_eq_true rfl) ?_
      refine x_pop dX10_fewest_44 rfl ?_
      refine x_aload_n 2 dX10_fewest_45 rfl rfl ?_
      refine x_getR fX10_83 dX10_fewest_46 l0 rfl ?_
      refine x_iload_n 0 dX10_fewest_49 rfl rfl ?_
      refine x_callVu (as := [_]) (rest := []) vX10_307 (c_X6_depthOf hI3 hO h0 (k2.keep (fun a b ha => rdI_k (by omega)) (rdI_k (by decide))) k3) dX10_fewest_50 l74 rfl rfl rfl (Nat.le_of_ble_eq_true rfl) (Nat.le_of_ble_eq_true rfl) (Nat.le_of_ble_eq_true rfl) ?_
      refine x_iret rfl dX10_fewest_53 (by rw [← (kp.2 i k3).2.2.2]; exact q5_4 hn1 hn2 hn3 hn4 (Or.inl ⟨i, Nat.lt_of_lt_of_le g4 gp.1, g5, g6, rfl, _, e2, f4.trans (k1.wider (fun a h => Or.inl h)), k2, rfl⟩))
    · refine x_bipush (v := -9) dX10_fewest_26 (by decide) ?_
      refine x_iret rfl dX10_fewest_28 (by refine q5_4 hn1 hn2 hn3 hn4 (Or.inr ⟨rfl, ?_, e1, f4, g2⟩); rcases g3 with ⟨i, rfl, g4, _, _⟩ | g3; exact absurd c_23 (nI_ne9 (by have := g2.1.2.1; omega)); exact g3.2)
  · refine x_iload_n 0 dX10_fewest_10 rfl rfl ?_
    refine x_iret rfl dX10_fewest_11 ⟨_, rfl, i5_put (hsp.resolve_right (fun k => c_7 k.2.2.2.2.1)).2⟩

/-- the k-th before i -/
def upR (R : Rs) (i : Nat) : Nat → Nat
  | 0 => i
  | k + 1 => rB R (upR R i k)
theorem upR_d {I : Isl} {L c0 : Nat} (hO : IOK I) (h0 : OKc I L c0) {i : Nat} (hi : i < rC (fR I L c0)) : ∀ k, k ≤ rD (fR I L c0) i → upR (fR I L c0) i k ≤ i ∧ rD (fR I L c0) (upR (fR I L c0) i k) + k = rD (fR I L c0) i
  | 0, _ => ⟨Nat.le_refl _, rfl⟩
  | k + 1, h => by
    have ih := upR_d hO h0 hi k (by omega)
    have hv := fR_inv hO h0
    have hne : ¬ upR (fR I L c0) i k = 0 := fun q => by rw [q, hv.1.2.2] at ih; omega
    have h4 := hv.2.2.2.1 (upR (fR I L c0) i k) (by omega) (by omega)
    show rB (fR I L c0) (upR (fR I L c0) i k) ≤ i ∧ rD (fR I L c0) (rB (fR I L c0) (upR (fR I L c0) i k)) + (k + 1) = rD (fR I L c0) i
    omega
/-- the steps of the way to i, n of them -/
def wayF (R : Rs) (i n k : Nat) : Int32 := nI (rY R (upR R i (n - 1 - k)))
def wayX (S : St) (b : Nat) (R : Rs) (i n : Nat) : St := rwS (setI S 4 b (nI n)) 5 (b * 60) n (wayF R i n)
/-- n places of k from a on hold f from j on, else v -/
def rwT (S : St) (k a n j : Nat) (v : Int32) (f : Nat → Int32) : St := (fun c b => if c = k ∧ a ≤ b ∧ b < a + n then (if j ≤ b - a then f (b - a) else v) else S.1 c b, S.2)
theorem rwT_d {S : St} {k a n j c b : Nat} {v : Int32} {f : Nat → Int32} : (rwT S k a n j v f).1 c b = if c = k ∧ a ≤ b ∧ b < a + n then (if j ≤ b - a then f (b - a) else v) else S.1 c b := rfl
theorem rwT_k {S : St} {k a n j c b : Nat} {v : Int32} {f : Nat → Int32} (h : ¬ c = k) : (rwT S k a n j v f).1 c b = S.1 c b := if_neg fun q => h q.1
theorem rwT_n (S : St) (k a n : Nat) (v : Int32) (f : Nat → Int32) : fillA S k a (a + n) v = rwT S k a n n v f := st_ext rfl fun c b => by
  rw [rwT_d]
  show (if c = k ∧ a ≤ b ∧ b < a + n then v else S.1 c b) = _
  by_cases h : c = k ∧ a ≤ b ∧ b < a + n
  · rw [if_pos h, if_pos h, if_neg (by omega)]
  · rw [if_neg h, if_neg h]
theorem rwT_0 (S : St) (k a n : Nat) (v : Int32) (f : Nat → Int32) : rwT S k a n 0 v f = rwS S k a n f := st_ext rfl fun c b => by
  rw [rwT_d, rwS_d]
  by_cases h : c = k ∧ a ≤ b ∧ b < a + n
  · rw [if_pos h, if_pos h, if_pos (Nat.zero_le _)]
  · rw [if_neg h, if_neg h]
theorem rwT_s (S : St) (k a n j : Nat) (v : Int32) (f : Nat → Int32) (hj : j < n) : setI (rwT S k a n (j + 1) v f) k (a + j) (f j) = rwT S k a n j v f := by
  refine st_ext rfl fun c b => ?_
  by_cases hc : c = k
  · subst hc
    by_cases hb : b = a + j
    · subst hb
      rw [rdI_eq, rwT_d, if_pos ⟨rfl, by omega, by omega⟩, if_pos (by omega), Nat.add_sub_cancel_left]
    · rw [rdI_j hb, rwT_d, rwT_d]
      by_cases h : a ≤ b ∧ b < a + n
      · rw [if_pos (show c = c ∧ a ≤ b ∧ b < a + n from ⟨rfl, h⟩), if_pos (show c = c ∧ a ≤ b ∧ b < a + n from ⟨rfl, h⟩)]
        by_cases q : j + 1 ≤ b - a
        · rw [if_pos q, if_pos (by omega)]
        · rw [if_neg q, if_neg (by omega)]
      · rw [if_neg (fun q => h q.2), if_neg (fun q => h q.2)]
  · rw [rdI_k hc, rwT_k hc, rwT_k hc]

set_option maxHeartbeats 4000000 in
set_option maxRecDepth 100000 in
theorem lp_wayX {S : St} {I : Isl} (hI : IsX 11 I S) (hO : IOK I) {w : Nat → Nat} (hP : PlT 35 I w S) {L : Nat} (hL : S.1 35 5 = nI L) (hL7 : L ≤ 6) (hv : VS I w L) (h0 : OKc I L (codeF I w)) (hS : RwS 3 6 60 S) {b : Nat} (hb : b < 6) {S2 : St} {e : Nat} (f1 : Fr (fun a => FS a ∨ a = 75) S S2) (f2 : SeX I L (codeF I w) e S2) {i : Nat} (hi : i < rC (bfs I L (codeF I w) e)) (h60 : (rD (fR I L (codeF I w)) i) ≤ 60)  : ∀ (j : Nat), (j ≤ (rD (fR I L (codeF I w)) i)) → X 6 180 mX10_way (pu (.int (nI (rD (fR I L (codeF I w)) i))) (wayX S2 b (fR I L (codeF I w)) i (rD (fR I L (codeF I w)) i))) 93 [(6, .int (nI j - nI 1)), (5, .int (nI ((rD (fR I L (codeF I w)) i)))), (4, .int (nI ((upR (fR I L (codeF I w)) i ((rD (fR I L (codeF I w)) i) - j))))), (0, .ref 0), (2, .int (nI b))] [] (rwT (setI S2 4 b (nI (rD (fR I L (codeF I w)) i))) 5 (b * 60) (rD (fR I L (codeF I w)) i) j (nI 0) (wayF (fR I L (codeF I w)) i (rD (fR I L (codeF I w)) i))) := by
  intro j
  induction hm : j + 0 using Nat.strongRecOn generalizing j with
  | _ mm ih =>
    intro hj
    have hO1 := hO.1
    have hO2 := hO.2.1
    have hO3 := hO.2.2.1
    have hO4 := hO.2.2.2.1
    have hw := hv.ok hO
    have hw7 := hw.w7 hO
    have e3 : (nI j - nI 1).toInt = (j : Int) - 1 := nI_m1i (by omega)
    have ga := f2.2.2.2.2.2.2.2
    have gp := fR_pre hO h0 ga
    have hif := Nat.lt_of_lt_of_le hi gp.1
    have hup := upR_d hO h0 hif ((rD (fR I L (codeF I w)) i) - j) (by omega)
    have hxx : ∀ k, SeX I L (codeF I w) e (rwT (setI S2 4 b (nI (rD (fR I L (codeF I w)) i))) 5 (b * 60) (rD (fR I L (codeF I w)) i) k (nI 0) (wayF (fR I L (codeF I w)) i (rD (fR I L (codeF I w)) i))) := fun k => f2.keep (fun a b ha => (rwT_k (by omega)).trans (rdI_k (by omega))) ((rwT_k (by decide)).trans (rdI_k (by decide)))
    have hII : ∀ k, IsX 11 I (rwT (setI S2 4 b (nI (rD (fR I L (codeF I w)) i))) 5 (b * 60) (rD (fR I L (codeF I w)) i) k (nI 0) (wayF (fR I L (codeF I w)) i (rD (fR I L (codeF I w)) i))) := fun k => hI.keep (fun a h1 h2 b => (rwT_k (by omega)).trans ((rdI_k (by omega)).trans (f1.2 a (by unfold FS; omega) b)))
    have hq := gp.2 (upR (fR I L (codeF I w)) i ((rD (fR I L (codeF I w)) i) - j)) (by omega)
    refine x_iload 0 dX10_way_93 rfl ?_
    refine x_if_lt 134 dX10_way_95 (by decide) (fun c_95 => ?_) (fun c_95 => ?_)
    · refine x_iload 1 dX10_way_134 rfl ?_
      refine x_iret rfl dX10_way_136 (by obtain rfl : j = 0 := (by omega); rw [rwT_0]; exact ⟨rfl, rfl⟩)
    · rw [nI_subN (a := j) (b := 1) (by omega)]
      refine x_aload_n 3 dX10_way_98 rfl rfl ?_
      refine x_getR fX10_21 dX10_way_99 l0 rfl ?_
      refine x_iload_n 4 dX10_way_102 rfl rfl ?_
      refine x_iload 0 dX10_way_103 rfl ?_
      refine x_aload_n 3 dX10_way_105 rfl rfl ?_
      refine x_getR fX10_83 dX10_way_106 l0 rfl ?_
      refine x_iload 2 dX10_way_109 rfl ?_
      refine x_callVu (as := [_]) (rest := [_, _, _]) vX10_315 (c_X6_stepTo (hII j) hO h0 (hxx j) (by omega)) dX10_way_111 l74 rfl rfl rfl (Nat.le_of_ble_eq_true rfl) (Nat.le_of_ble_eq_true rfl) (Nat.le_of_ble_eq_true rfl) ?_
      refine x_callVv (as := [_, _, _]) (rest := []) vX10_128 (c_X5_set isR ((rwT_k (by decide)).trans ((rdI_k (by decide)).trans ((f1.2 3 (by unfold FS; omega) 0).trans hS.1))) hb ((rwT_k (by decide)).trans rdI_eq) h60 (by omega)) dX10_way_114 l3 rfl rfl rfl (Nat.le_of_ble_eq_true rfl) (Nat.le_of_ble_eq_true rfl) (Nat.le_of_ble_eq_true rfl) ?_
      have hw9 : wayF (fR I L (codeF I w)) i (rD (fR I L (codeF I w)) i) (j - 1) = nI (rY (bfs I L (codeF I w) e) (upR (fR I L (codeF I w)) i ((rD (fR I L (codeF I w)) i) - j))) := by
        unfold wayF
        rw [show (rD (fR I L (codeF I w)) i) - 1 - (j - 1) = (rD (fR I L (codeF I w)) i) - j by omega, hq.2.2.1]
      have hs9 := rwT_s (setI S2 4 b (nI (rD (fR I L (codeF I w)) i))) 5 (b * 60) (rD (fR I L (codeF I w)) i) (j - 1) (nI 0) (wayF (fR I L (codeF I w)) i (rD (fR I L (codeF I w)) i)) (by omega)
      rw [show j - 1 + 1 = j by omega, hw9] at hs9
      refine x_cast hs9 ?_
      refine x_aload_n 3 dX10_way_117 rfl rfl ?_
      refine x_getR fX10_83 dX10_way_118 l0 rfl ?_
      refine x_iload 2 dX10_way_121 rfl ?_
      refine x_callVu (as := [_]) (rest := []) vX10_318 (c_X6_stateBefore (hII (j - 1)) hO h0 (hxx (j - 1)) (by omega)) dX10_way_123 l74 rfl rfl rfl (Nat.le_of_ble_eq_true rfl) (Nat.le_of_ble_eq_true rfl) (Nat.le_of_ble_eq_true rfl) ?_
      refine x_istore (lv' := [(4, _), (6, _), (5, _), (0, _), (2, _)]) dX10_way_126 (by decide) rfl ?_
      rw [show ((4, Value.int (nI (rB (bfs I L (codeF I w) e) (upR (fR I L (codeF I w)) i ((rD (fR I L (codeF I w)) i) - j))))) : Nat × Value) = (4, Value.int (nI (upR (fR I L (codeF I w)) i ((rD (fR I L (codeF I w)) i) - (j - 1))))) from by rw [show (rD (fR I L (codeF I w)) i) - (j - 1) = (rD (fR I L (codeF I w)) i) - j + 1 by omega]; exact congrArg (fun x => ((4, Value.int (nI x)) : Nat × Value)) hq.2.1.symm]
      refine x_iinc (lv' := [(6, _), (4, _), (5, _), (0, _), (2, _)]) 1 dX10_way_128 rfl rfl (by decide) rfl ?_
      rw [nI_m1]
      refine x_goto 93 dX10_way_131 (by decide) ?_
      refine x_pick (lv' := [(6, _), (5, _), (4, _), (0, _), (2, _)]) [0, 2, 1, 3, 4] rfl ?_
      exact ih (j - 1 + 0) (by omega) (j - 1) rfl (by omega)

theorem i5_p {α : Type} {p p' q r s : Prop} {a b c d e : α} (h : p' ↔ p) : i5 p' q r s a b c d e = i5 p q r s a b c d e := by rw [propext h]

set_option maxHeartbeats 4000000 in
set_option maxRecDepth 100000 in
theorem c_X10_way {S : St} {I : Isl} (hI : IsX 11 I S) (hO : IOK I) {w : Nat → Nat} (hP : PlT 35 I w S) {L : Nat} (hL : S.1 35 5 = nI L) (hL7 : L ≤ 6) (hv : VS I w L) (hL1 : 1 ≤ L) (hR : Roomy I L (codeF I w)) (hs : SrX I S) (hS : RwS 3 6 60 S) (h60 : ∀ i, i < rC (fR I L (codeF I w)) → rD (fR I L (codeF I w)) i ≤ 60) {x y : Int32} : C 6 180 yX10_way mX10_way [.ref 0, .int x, .int y] S (qi (i5 (¬ ((0 ≤ x.toInt ∧ x.toInt < 6) ∧ 0 ≤ y.toInt ∧ y.toInt < 6)) ((S.1 4 (tn x)).toInt < 0) (¬ (S.1 4 (tn x)).toInt = (iM I : Int)) (¬ ∀ t, t < iM I → (S.1 5 (tn x * 60 + t) = -1 ∨ S.1 5 (tn x * 60 + t) = nI 4 ∨ (0 ≤ (S.1 5 (tn x * 60 + t)).toInt ∧ (S.1 5 (tn x * 60 + t)).toInt < (iP I : Int)))) (an (-1) S) (an (-3) (fndS S 1)) (an (-3) (fndS S 5)) (an (-3) (fndS S 3)) (fun r S' => (∃ i, i < rC (fR I L (codeF I w)) ∧ wantP I (fun t => S.1 5 (tn x * 60 + t)) (rK (fR I L (codeF I w)) i) ∧ (∀ j, j < i → ¬ wantP I (fun t => S.1 5 (tn x * 60 + t)) (rK (fR I L (codeF I w)) j)) ∧ r = nI (rD (fR I L (codeF I w)) i) ∧ ∃ S2 e, Fr (fun a => FS a ∨ a = 75) S S2 ∧ SeX I L (codeF I w) e S2 ∧ S' = wayX S2 (tn y) (fR I L (codeF I w)) i (rD (fR I L (codeF I w)) i)) ∨ (r = -9 ∧ (∀ j, j < rC (fR I L (codeF I w)) → ¬ wantP I (fun t => S.1 5 (tn x * 60 + t)) (rK (fR I L (codeF I w)) j)) ∧ ∃ e, Fr (fun a => FS a ∨ a = 75) S S' ∧ SeX I L (codeF I w) e S')))) := by
  have hO1 := hO.1
  have hO2 := hO.2.1
  have hO3 := hO.2.2.1
  have hO4 := hO.2.2.2.1
  have hw := hv.ok hO
  have hw7 := hw.w7 hO
  have h0 := hv.okc hO
  refine C.ofX (by decide) rfl (Nat.le_of_ble_eq_true rfl) ?_
  show X 6 180 mX10_way (qi (i5 (¬ ((0 ≤ x.toInt ∧ x.toInt < 6) ∧ 0 ≤ y.toInt ∧ y.toInt < 6)) ((S.1 4 (tn x)).toInt < 0) (¬ (S.1 4 (tn x)).toInt = (iM I : Int)) (¬ ∀ t, t < iM I → (S.1 5 (tn x * 60 + t) = -1 ∨ S.1 5 (tn x * 60 + t) = nI 4 ∨ (0 ≤ (S.1 5 (tn x * 60 + t)).toInt ∧ (S.1 5 (tn x * 60 + t)).toInt < (iP I : Int)))) (an (-1) S) (an (-3) (fndS S 1)) (an (-3) (fndS S 5)) (an (-3) (fndS S 3)) (fun r S' => (∃ i, i < rC (fR I L (codeF I w)) ∧ wantP I (fun t => S.1 5 (tn x * 60 + t)) (rK (fR I L (codeF I w)) i) ∧ (∀ j, j < i → ¬ wantP I (fun t => S.1 5 (tn x * 60 + t)) (rK (fR I L (codeF I w)) j)) ∧ r = nI (rD (fR I L (codeF I w)) i) ∧ ∃ S2 e, Fr (fun a => FS a ∨ a = 75) S S2 ∧ SeX I L (codeF I w) e S2 ∧ S' = wayX S2 (tn y) (fR I L (codeF I w)) i (rD (fR I L (codeF I w)) i)) ∨ (r = -9 ∧ (∀ j, j < rC (fR I L (codeF I w)) → ¬ wantP I (fun t => S.1 5 (tn x * 60 + t)) (rK (fR I L (codeF I w)) j)) ∧ ∃ e, Fr (fun a => FS a ∨ a = 75) S S' ∧ SeX I L (codeF I w) e S')))) 0 [(0, .ref 0), (1, .int x), (2, .int y)] [] S
  refine x_aload_n 0 dX10_way_0 rfl rfl ?_
  refine x_getR fX10_21 dX10_way_1 l0 rfl ?_
  refine x_iload_n 1 dX10_way_4 rfl rfl ?_
  refine x_callVb (as := [_]) (rest := []) vX10_105 (c_X5_isOne isR) dX10_way_5 l3 rfl rfl rfl (Nat.le_of_ble_eq_true rfl) (Nat.le_of_ble_eq_true rfl) (Nat.le_of_ble_eq_true rfl) (fun c_5 => ?_) (fun c_5 => ?_)
  · refine u_if_eq 22 dX10_way_8 (by decide) (by decide) ?_
    refine x_aload_n 0 dX10_way_11 rfl rfl ?_
    refine x_getR fX10_21 dX10_way_12 l0 rfl ?_
    refine x_iload_n 2 dX10_way_15 rfl rfl ?_
    refine x_callVb (as := [_]) (rest := []) vX10_105 (c_X5_isOne isR) dX10_way_16 l3 rfl rfl rfl (Nat.le_of_ble_eq_true rfl) (Nat.le_of_ble_eq_true rfl) (Nat.le_of_ble_eq_true rfl) (fun c_16 => ?_) (fun c_16 => ?_)
    · refine t_if_ne 24 dX10_way_19 (by decide) (by decide) ?_
      obtain ⟨b, hb, rfl⟩ := nI_ex (x := y) (n := 6) (by omega) (by omega)
      have eb : (nI b).toInt = (b : Int) := tiN (by omega)
      have tb : tn (nI b) = b := tnN (by omega)
      have hy6 : 0 ≤ (nI b).toInt ∧ (nI b).toInt < 6 := by omega
      refine x_aload_n 0 dX10_way_24 rfl rfl ?_
      refine x_iload_n 1 dX10_way_25 rfl rfl ?_
      refine x_callVqi (as := [_]) (rest := []) vX10_298 (c_X10_wanted hI hO hP hL hL7 hv hL1 hR hs hS) dX10_way_26 l0 rfl rfl rfl (Nat.le_of_ble_eq_true rfl) (Nat.le_of_ble_eq_true rfl) (Nat.le_of_ble_eq_true rfl) (fun r_26 S_26 q_26 => ?_)
      have hsp := i5_split q_26
      refine x_istore_n (lv' := [(3, _), (0, _), (1, _), (2, _)]) dX10_way_29 rfl (by decide) rfl ?_
      refine x_iload_n 0 dX10_way_30 rfl rfl ?_
      refine x_if_eq 36 dX10_way_31 (by decide) (fun c_31 => ?_) (fun c_31 => ?_)
      · obtain ⟨hn1, hn2, hn3, hn4, hr0, S2, e0, f1, f2, rfl⟩ := hsp.resolve_left (fun k => k.1 c_31)
        have f3 : Fr (fun a => FS a ∨ a = 75) S (rwS S2 75 0 (iM I) (fun t => S.1 5 (tn x * 60 + t))) := ⟨f1.1, fun a ha b => (rwS_k (fun q => ha (Or.inr q))).trans (f1.2 a (fun q => ha (Or.inl q)) b)⟩
        have hx3 : SeX I L (codeF I w) e0 (rwS S2 75 0 (iM I) (fun t => S.1 5 (tn x * 60 + t))) := f2.keep (fun a b ha => rwS_k (by omega)) (rwS_k (by decide))
        have hI1 : IsX 11 I (rwS S2 75 0 (iM I) (fun t => S.1 5 (tn x * 60 + t))) := hI.keep (fun a h1 h2 b => f3.2 a (by unfold FS; omega) b)
        refine x_aload_n 1 dX10_way_36 rfl rfl ?_
        refine x_getR fX10_83 dX10_way_37 l0 rfl ?_
        refine x_callVqi (as := []) (rest := []) vX10_301 (c_X6_firstAsWanted hI1 hO hL7 h0 hR (wv := (fun t => S.1 5 (tn x * 60 + t))) (fun t ht => rwS_at0 ht) hx3) dX10_way_40 l74 rfl rfl rfl (Nat.le_of_ble_eq_true rfl) (Nat.le_of_ble_eq_true rfl) (Nat.le_of_ble_eq_true rfl) (fun r_40 S_40 q_40 => ?_)
        obtain ⟨e1, g1, g2, g3⟩ := q_40
        have ga := g2.2.2.2.2.2.2.2
        have gp := fR_pre hO h0 ga
        have hI2 : IsX 11 I S_40 := hI1.keep (fun a h1 h2 b => g1.2 a (by unfold FS; omega) b)
        have f4 : Fr (fun a => FS a ∨ a = 75) S S_40 := f3.trans (g1.wider (fun a h => Or.inl h))
        refine x_istore (lv' := [(4, _), (3, _), (0, _), (1, _), (2, _)]) dX10_way_43 (by decide) rfl ?_
        refine x_iload 0 dX10_way_45 rfl ?_
        refine x_bipush (v := -9) dX10_way_47 (by decide) ?_
        refine x_ic_ne 55 dX10_way_49 (by decide) (fun c_49 => ?_) (fun c_49 => ?_)
        · obtain ⟨i, rfl, g4, g5, g6⟩ := g3.resolve_right (fun k => c_49 k.1)
          have g7 := Nat.lt_of_lt_of_le g4 gp.1
          have g8 := h60 i g7
          have g9 := (gp.2 i g4).2.2.2
          refine x_aload_n 2 dX10_way_55 rfl rfl ?_
          refine x_getR fX10_83 dX10_way_56 l0 rfl ?_
          refine x_iload 0 dX10_way_59 rfl ?_
          refine x_callVu (as := [_]) (rest := []) vX10_307 (c_X6_depthOf hI2 hO h0 g2 g4) dX10_way_61 l74 rfl rfl rfl (Nat.le_of_ble_eq_true rfl) (Nat.le_of_ble_eq_true rfl) (Nat.le_of_ble_eq_true rfl) ?_
          rw [show (rD (bfs I L (codeF I w) e1) i) = (rD (fR I L (codeF I w)) i) from by exact g9.symm]
          refine x_istore (lv' := [(5, _), (4, _), (3, _), (0, _), (1, _), (2, _)]) dX10_way_64 (by decide) rfl ?_
          refine x_iload 0 dX10_way_66 rfl ?_
          refine x_bipush (v := nI 60) dX10_way_68 (by decide) ?_
          refine y_ic_le 76 dX10_way_70 (by decide) (by omega) (by omega) (fun c_70 => ?_) (fun c_70 => ?_)
          · refine x_aload_n 3 dX10_way_76 rfl rfl ?_
            refine x_getR fX10_21 dX10_way_77 l0 rfl ?_
            refine x_iload_n 5 dX10_way_80 rfl rfl ?_
            refine x_iload 0 dX10_way_81 rfl ?_
            refine x_iconst (v := nI 0) dX10_way_83 (by decide) ?_
            refine x_callVv (as := [_, _, _]) (rest := []) vX10_113 (c_X5_make isR ((f4.2 3 (by unfold FS; omega) 0).trans hS.1) hb (by omega)) dX10_way_84 l3 rfl rfl rfl (Nat.le_of_ble_eq_true rfl) (Nat.le_of_ble_eq_true rfl) (Nat.le_of_ble_eq_true rfl) ?_
            refine x_iload 0 dX10_way_87 rfl ?_
            refine x_iconst (v := nI 1) dX10_way_89 (by decide) ?_
            refine x_isub dX10_way_90 ?_
            refine x_istore (lv' := [(6, _), (5, _), (4, _), (3, _), (0, _), (1, _), (2, _)]) dX10_way_91 (by decide) rfl ?_
            refine x_pick (lv' := [(6, _), (5, _), (4, _), (0, _), (2, _)]) [0, 1, 2, 4, 6] rfl ?_
            have hh := lp_wayX hI hO hP hL hL7 hv h0 hS hb f4 g2 g4 (by omega) (rD (fR I L (codeF I w)) i) (Nat.le_refl _)
            rw [← rwT_n, show upR (fR I L (codeF I w)) i ((rD (fR I L (codeF I w)) i) - (rD (fR I L (codeF I w)) i)) = i from by rw [Nat.sub_self]; rfl] at hh
            refine hh.mono (fun v S' hq => ?_)
            obtain ⟨rfl, rfl⟩ := hq
            rw [i5_p (p := ¬ (0 ≤ x.toInt ∧ x.toInt < 6)) ⟨fun h k => h ⟨k, hy6⟩, fun h k => h k.1⟩, tb]
            exact q5_4 hn1 hn2 hn3 hn4 (Or.inl ⟨i, g7, g5, g6, rfl, _, e1, f4, g2, rfl⟩)
          · refine x_bipush (v := -9) dX10_way_73 (by decide) ?_
            refine x_iret rfl dX10_way_75 (by exfalso; omega)
        · refine x_bipush (v := -9) dX10_way_52 (by decide) ?_
          refine x_iret rfl dX10_way_54 (by rw [(i5_p (p := ¬ (0 ≤ x.toInt ∧ x.toInt < 6)) ⟨fun h k => h ⟨k, hy6⟩, fun h k => h k.1⟩)]; refine q5_4 hn1 hn2 hn3 hn4 (Or.inr ⟨rfl, ?_, e1, f4, g2⟩); rcases g3 with ⟨i, rfl, g4, _, _⟩ | g3; exact absurd c_49 (nI_ne9 (by have := g2.1.2.1; omega)); exact g3.2)
      · refine x_iload_n 0 dX10_way_34 rfl rfl ?_
        refine x_iret rfl dX10_way_35 ⟨_, rfl, by rw [(i5_p (p := ¬ (0 ≤ x.toInt ∧ x.toInt < 6)) ⟨fun h k => h ⟨k, hy6⟩, fun h k => h k.1⟩)]; exact i5_put (hsp.resolve_right (fun k => c_31 k.2.2.2.2.1)).2⟩
    · refine u_if_ne 24 dX10_way_19 (by decide) (by decide) ?_
      refine x_iconst (v := -1) dX10_way_22 (by decide) ?_
      refine x_iret rfl dX10_way_23 (q5_0 (fun h => by first | exact c_5 h.1 | exact c_16 h.2) ⟨rfl, rfl⟩)
  · refine t_if_eq 22 dX10_way_8 (by decide) (by decide) ?_
    refine x_iconst (v := -1) dX10_way_22 (by decide) ?_
    refine x_iret rfl dX10_way_23 (q5_0 (fun h => by first | exact c_5 h.1 | exact c_16 h.2) ⟨rfl, rfl⟩)

