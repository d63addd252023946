/-! ===== all that can be come to ===== -/
noncomputable def bN (I : Isl) (L c0 : Nat) : Nat := @dite Nat (∃ N, alive I L c0 N ∧ rC (bfs I L c0 N) = N) (Classical.propDecidable _) (fun h => Classical.choose h) (fun _ => 0)
noncomputable def fR (I : Isl) (L c0 : Nat) : Rs := bfs I L c0 (bN I L c0)
theorem bN_ok {I : Isl} {L c0 : Nat} (hO : IOK I) (h0 : OKc I L c0) : alive I L c0 (bN I L c0) ∧ rC (fR I L c0) = bN I L c0 := by
  unfold fR bN
  rw [dif_pos (bfs_end hO h0)]
  exact Classical.choose_spec (bfs_end hO h0)
theorem alive_bN {I : Isl} {L c0 e : Nat} (hO : IOK I) (h0 : OKc I L c0) (ha : alive I L c0 e) : e ≤ bN I L c0 := by
  rcases Nat.lt_or_ge (bN I L c0) e with q | q
  · have h1 := ha _ q
    have h2 := (bN_ok hO h0).2
    unfold fR at h2
    omega
  · exact q
theorem fR_pre {I : Isl} {L c0 e : Nat} (hO : IOK I) (h0 : OKc I L c0) (ha : alive I L c0 e) : Pre (bfs I L c0 e) (fR I L c0) := by
  have h := Pre.bf I L c0 e (bN I L c0 - e)
  rw [show e + (bN I L c0 - e) = bN I L c0 by have := alive_bN hO h0 ha; omega] at h
  exact h
theorem fR_full {I : Isl} {L c0 e : Nat} (hO : IOK I) (h0 : OKc I L c0) (ha : alive I L c0 e) (h : rC (bfs I L c0 e) = e) : rC (fR I L c0) = e := by
  have h1 := alive_bN hO h0 ha
  have h2 := (bN_ok hO h0)
  rcases Nat.lt_or_ge e (bN I L c0) with q | q
  · have := h2.1 e q
    omega
  · omega
theorem fR_inv {I : Isl} {L c0 : Nat} (hO : IOK I) (h0 : OKc I L c0) : Inv I L c0 (fR I L c0) (bN I L c0) 0 := bfs_inv hO h0 _ (bN_ok hO h0).1
theorem Inv.dle {I : Isl} {L c0 i s : Nat} {R : Rs} (h : Inv I L c0 R i s) : ∀ j, j < rC R → rD R j ≤ j := by
  intro j
  induction j using Nat.strongRecOn with
  | _ j ih =>
    intro hj
    by_cases h0 : j = 0
    · rw [h0, h.1.2.2]; exact Nat.le_refl _
    · have a := h.2.2.2.1 j (by omega) hj
      have b := ih (rB R j) a.1 (by omega)
      omega
theorem SeX.keep {I : Isl} {L c0 e : Nat} {S S' : St} (h : SeX I L c0 e S) (k : ∀ a b, (68 ≤ a ∧ a ≤ 74) ∨ a = 76 ∨ a = 77 → S'.1 a b = S.1 a b) (k5 : S'.1 45 5 = S.1 45 5) : SeX I L c0 e S' := by
  obtain ⟨h1, h2, h3, h4, h5, h6, h7, h8⟩ := h
  exact ⟨h1.fr (fun a a1 a2 b => k a b (by omega)), ⟨(k 74 6 (by omega)).trans h2.1, fun j hj => (k 76 j (by omega)).trans (h2.2 j hj)⟩, fun j hj => (k 77 j (by omega)).trans (h3 j hj), (k 74 7 (by omega)).trans h4, k5.trans h5, (k 74 8 (by omega)).trans h6, (k 74 9 (by omega)).trans h7, h8⟩
theorem SeX.f49 {I : Isl} {L c0 e : Nat} {S S' : St} (h : SeX I L c0 e S) (f : Fr (fun a => 46 ≤ a ∧ a ≤ 49) S S') : SeX I L c0 e S' := h.keep (fun a b ha => f.2 a (by omega) b) (f.2 45 (by omega) 5)
theorem fr49 {S S' : St} (f : Fr (fun a => 46 ≤ a ∧ a ≤ 49) S S') : Fr FS S S' := f.wider (fun a h => by unfold FS; omega)
/-- all are with whom they are wanted -/
def wantP (I : Isl) (wv : Nat → Int32) (c : Nat) : Prop := ∀ t, t < iM I → 0 ≤ (wv t).toInt → (whomF I (digF c) t : Int) = (wv t).toInt

set_option maxHeartbeats 4000000 in
set_option maxRecDepth 100000 in
theorem c_X6_isFound {S : St} {I : Isl} (hI : IsX 11 I S) (hO : IOK I) {L c0 e : Nat} (hx : SeX I L c0 e S) {x : Int32} : C 0 0 yX6_isFound mX6_isFound [.ref 74, .int x] S (pb (0 ≤ x.toInt ∧ x.toInt < (rC (bfs I L c0 e) : Int)) S) := by
  have hrc := hx.1.2.1
  refine C.ofX (by decide) rfl (Nat.le_of_ble_eq_true rfl) ?_
  show X 0 0 mX6_isFound (pb (0 ≤ x.toInt ∧ x.toInt < (rC (bfs I L c0 e) : Int)) S) 0 [(0, .ref 74), (1, .int x)] [] S
  refine x_iload_n 1 dX6_isFound_0 rfl rfl ?_
  refine x_if_lt 19 dX6_isFound_1 (by decide) (fun c_1 => ?_) (fun c_1 => ?_)
  · refine x_iconst (v := nI 0) dX6_isFound_19 (by decide) ?_
    refine x_zret rfl dX6_isFound_20 (by decide) ⟨Or.inr ⟨rfl, by omega⟩, rfl⟩
  · refine x_iload_n 1 dX6_isFound_4 rfl rfl ?_
    refine x_aload_n 0 dX6_isFound_5 rfl rfl ?_
    refine x_getR fX6_26 dX6_isFound_6 l74 rfl ?_
    refine y_getI fX6_61 dX6_isFound_9 l68 rfl hx.1.1 ?_
    refine z_ic_ge 19 dX6_isFound_12 (by decide) (by omega) (fun c_12 => ?_) (fun c_12 => ?_)
    · refine x_iconst (v := nI 0) dX6_isFound_19 (by decide) ?_
      refine x_zret rfl dX6_isFound_20 (by decide) ⟨Or.inr ⟨rfl, by omega⟩, rfl⟩
    · refine x_iconst (v := nI 1) dX6_isFound_15 (by decide) ?_
      refine x_goto 20 dX6_isFound_16 (by decide) ?_
      refine x_zret rfl dX6_isFound_20 (by decide) ⟨Or.inl ⟨rfl, by omega⟩, rfl⟩

set_option maxHeartbeats 4000000 in
set_option maxRecDepth 100000 in
theorem c_X6_codeOf {S : St} {I : Isl} (hI : IsX 11 I S) (hO : IOK I) {L c0 e : Nat} (h0 : OKc I L c0) (hx : SeX I L c0 e S) {i : Nat} (hi : i < rC (bfs I L c0 e))  : C 1 30 yX6_codeOf mX6_codeOf [.ref 74, .int (nI i)] S (pu (.int (nI (rK (bfs I L c0 e) i))) S) := by
  have hrc := hx.1.2.1
  have hxi := hx.1.2.2.1 i hi
  have ei : (nI i).toInt = (i : Int) := tiN (by omega)
  refine C.ofX (by decide) rfl (Nat.le_of_ble_eq_true rfl) ?_
  show X 1 30 mX6_codeOf (pu (.int (nI (rK (bfs I L c0 e) i))) S) 0 [(0, .ref 74), (1, .int (nI i))] [] S
  refine x_aload_n 0 dX6_codeOf_0 rfl rfl ?_
  refine x_iload_n 1 dX6_codeOf_1 rfl rfl ?_
  refine x_callVb (as := [_]) (rest := []) vX6_99 (c_X6_isFound hI hO hx) dX6_codeOf_2 l74 rfl rfl rfl (Nat.le_of_ble_eq_true rfl) (Nat.le_of_ble_eq_true rfl) (Nat.le_of_ble_eq_true rfl) (fun c_2 => ?_) (fun c_2 => ?_)
  · refine u_if_eq 20 dX6_codeOf_5 (by decide) (by decide) ?_
    refine x_aload_n 0 dX6_codeOf_8 rfl rfl ?_
    refine x_getR fX6_26 dX6_codeOf_9 l74 rfl ?_
    refine x_getR fX6_70 dX6_codeOf_12 l68 rfl ?_
    refine x_iload_n 1 dX6_codeOf_15 rfl rfl ?_
    refine y_iald dX6_codeOf_16 l69 (by omega) (by decide) hxi.1 ?_
    refine x_goto 21 dX6_codeOf_17 (by decide) ?_
    refine x_iret rfl dX6_codeOf_21 ⟨rfl, rfl⟩
  · refine t_if_eq 20 dX6_codeOf_5 (by decide) (by decide) ?_
    exact (show False by omega).elim

set_option maxHeartbeats 4000000 in
set_option maxRecDepth 100000 in
theorem c_X6_stepTo {S : St} {I : Isl} (hI : IsX 11 I S) (hO : IOK I) {L c0 e : Nat} (h0 : OKc I L c0) (hx : SeX I L c0 e S) {i : Nat} (hi : i < rC (bfs I L c0 e))  : C 1 30 yX6_stepTo mX6_stepTo [.ref 74, .int (nI i)] S (pu (.int (nI (rY (bfs I L c0 e) i))) S) := by
  have hrc := hx.1.2.1
  have hxi := hx.1.2.2.1 i hi
  have ei : (nI i).toInt = (i : Int) := tiN (by omega)
  refine C.ofX (by decide) rfl (Nat.le_of_ble_eq_true rfl) ?_
  show X 1 30 mX6_stepTo (pu (.int (nI (rY (bfs I L c0 e) i))) S) 0 [(0, .ref 74), (1, .int (nI i))] [] S
  refine x_aload_n 0 dX6_stepTo_0 rfl rfl ?_
  refine x_iload_n 1 dX6_stepTo_1 rfl rfl ?_
  refine x_callVb (as := [_]) (rest := []) vX6_99 (c_X6_isFound hI hO hx) dX6_stepTo_2 l74 rfl rfl rfl (Nat.le_of_ble_eq_true rfl) (Nat.le_of_ble_eq_true rfl) (Nat.le_of_ble_eq_true rfl) (fun c_2 => ?_) (fun c_2 => ?_)
  · refine u_if_eq 20 dX6_stepTo_5 (by decide) (by decide) ?_
    refine x_aload_n 0 dX6_stepTo_8 rfl rfl ?_
    refine x_getR fX6_26 dX6_stepTo_9 l74 rfl ?_
    refine x_getR fX6_103 dX6_stepTo_12 l68 rfl ?_
    refine x_iload_n 1 dX6_stepTo_15 rfl rfl ?_
    refine y_iald dX6_stepTo_16 l71 (by omega) (by decide) hxi.2.2.1 ?_
    refine x_goto 21 dX6_stepTo_17 (by decide) ?_
    refine x_iret rfl dX6_stepTo_21 ⟨rfl, rfl⟩
  · refine t_if_eq 20 dX6_stepTo_5 (by decide) (by decide) ?_
    exact (show False by omega).elim

set_option maxHeartbeats 4000000 in
set_option maxRecDepth 100000 in
theorem c_X6_stateBefore {S : St} {I : Isl} (hI : IsX 11 I S) (hO : IOK I) {L c0 e : Nat} (h0 : OKc I L c0) (hx : SeX I L c0 e S) {i : Nat} (hi : i < rC (bfs I L c0 e))  : C 1 30 yX6_stateBefore mX6_stateBefore [.ref 74, .int (nI i)] S (pu (.int (nI (rB (bfs I L c0 e) i))) S) := by
  have hrc := hx.1.2.1
  have hxi := hx.1.2.2.1 i hi
  have ei : (nI i).toInt = (i : Int) := tiN (by omega)
  refine C.ofX (by decide) rfl (Nat.le_of_ble_eq_true rfl) ?_
  show X 1 30 mX6_stateBefore (pu (.int (nI (rB (bfs I L c0 e) i))) S) 0 [(0, .ref 74), (1, .int (nI i))] [] S
  refine x_aload_n 0 dX6_stateBefore_0 rfl rfl ?_
  refine x_iload_n 1 dX6_stateBefore_1 rfl rfl ?_
  refine x_callVb (as := [_]) (rest := []) vX6_99 (c_X6_isFound hI hO hx) dX6_stateBefore_2 l74 rfl rfl rfl (Nat.le_of_ble_eq_true rfl) (Nat.le_of_ble_eq_true rfl) (Nat.le_of_ble_eq_true rfl) (fun c_2 => ?_) (fun c_2 => ?_)
  · refine u_if_eq 20 dX6_stateBefore_5 (by decide) (by decide) ?_
    refine x_aload_n 0 dX6_stateBefore_8 rfl rfl ?_
    refine x_getR fX6_26 dX6_stateBefore_9 l74 rfl ?_
    refine x_getR fX6_106 dX6_stateBefore_12 l68 rfl ?_
    refine x_iload_n 1 dX6_stateBefore_15 rfl rfl ?_
    refine y_iald dX6_stateBefore_16 l70 (by omega) (by decide) hxi.2.1 ?_
    refine x_goto 21 dX6_stateBefore_17 (by decide) ?_
    refine x_iret rfl dX6_stateBefore_21 ⟨rfl, rfl⟩
  · refine t_if_eq 20 dX6_stateBefore_5 (by decide) (by decide) ?_
    exact (show False by omega).elim

set_option maxHeartbeats 4000000 in
set_option maxRecDepth 100000 in
theorem c_X6_depthOf {S : St} {I : Isl} (hI : IsX 11 I S) (hO : IOK I) {L c0 e : Nat} (h0 : OKc I L c0) (hx : SeX I L c0 e S) {i : Nat} (hi : i < rC (bfs I L c0 e))  : C 1 30 yX6_depthOf mX6_depthOf [.ref 74, .int (nI i)] S (pu (.int (nI (rD (bfs I L c0 e) i))) S) := by
  have hrc := hx.1.2.1
  have hxi := hx.1.2.2.1 i hi
  have ei : (nI i).toInt = (i : Int) := tiN (by omega)
  refine C.ofX (by decide) rfl (Nat.le_of_ble_eq_true rfl) ?_
  show X 1 30 mX6_depthOf (pu (.int (nI (rD (bfs I L c0 e) i))) S) 0 [(0, .ref 74), (1, .int (nI i))] [] S
  refine x_aload_n 0 dX6_depthOf_0 rfl rfl ?_
  refine x_iload_n 1 dX6_depthOf_1 rfl rfl ?_
  refine x_callVb (as := [_]) (rest := []) vX6_99 (c_X6_isFound hI hO hx) dX6_depthOf_2 l74 rfl rfl rfl (Nat.le_of_ble_eq_true rfl) (Nat.le_of_ble_eq_true rfl) (Nat.le_of_ble_eq_true rfl) (fun c_2 => ?_) (fun c_2 => ?_)
  · refine u_if_eq 20 dX6_depthOf_5 (by decide) (by decide) ?_
    refine x_aload_n 0 dX6_depthOf_8 rfl rfl ?_
    refine x_getR fX6_26 dX6_depthOf_9 l74 rfl ?_
    refine x_getR fX6_64 dX6_depthOf_12 l68 rfl ?_
    refine x_iload_n 1 dX6_depthOf_15 rfl rfl ?_
    refine y_iald dX6_depthOf_16 l72 (by omega) (by decide) hxi.2.2.2.1 ?_
    refine x_goto 21 dX6_depthOf_17 (by decide) ?_
    refine x_iret rfl dX6_depthOf_21 ⟨rfl, rfl⟩
  · refine t_if_eq 20 dX6_depthOf_5 (by decide) (by decide) ?_
    exact (show False by omega).elim

set_option maxHeartbeats 4000000 in
set_option maxRecDepth 100000 in
theorem c_X6_found {S : St} {I : Isl} (hI : IsX 11 I S) (hO : IOK I) {L c0 e : Nat} (hx : SeX I L c0 e S) : C 0 0 yX6_found mX6_found [.ref 74] S (pu (.int (nI (rC (bfs I L c0 e)))) S) := by
  refine C.ofX (by decide) rfl (Nat.le_of_ble_eq_true rfl) ?_
  show X 0 0 mX6_found (pu (.int (nI (rC (bfs I L c0 e)))) S) 0 [(0, .ref 74)] [] S
  refine x_aload_n 0 dX6_found_0 rfl rfl ?_
  refine x_getR fX6_26 dX6_found_1 l74 rfl ?_
  refine y_getI fX6_61 dX6_found_4 l68 rfl hx.1.1 ?_
  refine x_iret rfl dX6_found_7 ⟨rfl, rfl⟩

set_option maxHeartbeats 4000000 in
set_option maxRecDepth 100000 in
theorem c_X6_spoil {S : St} : C 0 0 yX6_spoil mX6_spoil [.ref 74] S (pv (setI S 74 9 (nI 0))) := by
  refine C.ofX (by decide) rfl (Nat.le_of_ble_eq_true rfl) ?_
  show X 0 0 mX6_spoil (pv (setI S 74 9 (nI 0))) 0 [(0, .ref 74)] [] S
  refine x_aload_n 0 dX6_spoil_0 rfl rfl ?_
  refine x_iconst (v := nI 0) dX6_spoil_1 (by decide) ?_
  refine x_putI pX6_39 dX6_spoil_2 l74 rfl ?_
  refine x_vret rfl dX6_spoil_5 ⟨rfl, rfl⟩

set_option maxHeartbeats 4000000 in
set_option maxRecDepth 100000 in
theorem c_X6_want {S : St} {I : Isl} (hI : IsX 11 I S) (hO : IOK I) {t : Nat} {x : Int32} (ht : t < iM I) : C 1 30 yX6_want mX6_want [.ref 74, .int (nI t), .int x] S (pv (setI S 75 t x)) := by
  have hO2 := hO.2.1
  have et : (nI t).toInt = (t : Int) := tiN (by omega)
  refine C.ofX (by decide) rfl (Nat.le_of_ble_eq_true rfl) ?_
  show X 1 30 mX6_want (pv (setI S 75 t x)) 0 [(0, .ref 74), (1, .int (nI t)), (2, .int x)] [] S
  refine x_aload_n 0 dX6_want_0 rfl rfl ?_
  refine x_getR fX6_22 dX6_want_1 l74 rfl ?_
  refine x_iload_n 1 dX6_want_4 rfl rfl ?_
  refine x_callVb (as := [_]) (rest := []) vX6_109 (c_X1_isThing (Or.inl rfl) hI hO) dX6_want_5 l11 rfl rfl rfl (Nat.le_of_ble_eq_true rfl) (Nat.le_of_ble_eq_true rfl) (Nat.le_of_ble_eq_true rfl) (fun c_5 => ?_) (fun c_5 => ?_)
  · refine u_if_eq 18 dX6_want_8 (by decide) (by decide) ?_
    refine x_aload_n 0 dX6_want_11 rfl rfl ?_
    refine x_getR fX6_9 dX6_want_12 l74 rfl ?_
    refine x_iload_n 1 dX6_want_15 rfl rfl ?_
    refine x_iload_n 2 dX6_want_16 rfl rfl ?_
    refine y_iast dX6_want_17 l75 (by omega) (by decide) ?_
    refine x_vret rfl dX6_want_18 ⟨rfl, rfl⟩
  · refine t_if_eq 18 dX6_want_8 (by decide) (by decide) ?_
    refine x_vret rfl dX6_want_18 (show False by omega).elim

set_option maxHeartbeats 4000000 in
set_option maxRecDepth 100000 in
theorem lp_asW {S : St} {I : Isl} (hI : IsX 11 I S) (hO : IOK I) {L c0 e : Nat} (h0 : OKc I L c0) (hx : SeX I L c0 e S) {i : Nat} (hi : i < rC (bfs I L c0 e)) {wv : Nat → Int32} (hwv : ∀ t, t < iM I → S.1 75 t = wv t) {S1 : St} (hf : Fr (fun a => 46 ≤ a ∧ a ≤ 49) S S1) (hp : PlT 45 I (digF (rK (bfs I L c0 e) i)) S1)  : ∀ (t : Nat), (t ≤ iM I) → (∀ t', t' < t → 0 ≤ (wv t').toInt → (whomF I (digF (rK (bfs I L c0 e) i)) t' : Int) = (wv t').toInt) → X 3 90 mX6_asWanted (qi (fun r S' => Fr (fun a => 46 ≤ a ∧ a ≤ 49) S S' ∧ ((r = nI 1 ∧ wantP I wv (rK (bfs I L c0 e) i)) ∨ (r = nI 0 ∧ ¬ wantP I wv (rK (bfs I L c0 e) i))))) 18 [(2, .int (nI t)), (0, .ref 74), (1, .int (nI i))] [] S1 := by
  intro t
  induction hm : iM I - t using Nat.strongRecOn generalizing t with
  | _ mm ih =>
    intro ht hw
    have hO1 := hO.1
    have hO2 := hO.2.1
    have hO3 := hO.2.2.1
    have hO4 := hO.2.2.2.1
    have hrc := hx.1.2.1
    have hxi := hx.1.2.2.1 i hi
    have hiv := bfs_inv hO h0 e hx.2.2.2.2.2.2.2
    have hok := hiv.2.2.1 i hi
    have hwk := hok.2.ok hO
    have hI1 : IsX 11 I S1 := hI.keep (fun a h1 h2 b => hf.2 a (by omega) b)
    have hwh := @whomF_le I _ hwk t
    have tw : whomF I (digF (rK (bfs I L c0 e) i)) t ≤ 4 → (nI (whomF I (digF (rK (bfs I L c0 e) i)) t)).toInt = (whomF I (digF (rK (bfs I L c0 e) i)) t : Int) := fun q => tiN (by omega)
    refine x_iload_n 0 dX6_asWanted_18 rfl rfl ?_
    refine x_aload_n 1 dX6_asWanted_19 rfl rfl ?_
    refine x_getR fX6_22 dX6_asWanted_20 l74 rfl ?_
    refine y_getI fX6_76 dX6_asWanted_23 l11 rfl (hI1.2.1) ?_
    refine y_ic_ge 63 dX6_asWanted_26 (by decide) (by omega) (by omega) (fun c_26 => ?_) (fun c_26 => ?_)
    · refine x_iconst (v := nI 1) dX6_asWanted_63 (by decide) ?_
      refine x_zret rfl dX6_asWanted_64 (by decide) ⟨_, rfl, hf, Or.inl ⟨rfl, fun t' h hn => hw t' (by omega) hn⟩⟩
    · refine x_aload_n 1 dX6_asWanted_29 rfl rfl ?_
      refine x_getR fX6_9 dX6_asWanted_30 l74 rfl ?_
      refine x_iload_n 0 dX6_asWanted_33 rfl rfl ?_
      refine y_iald dX6_asWanted_34 l75 (by omega) (by decide) ((hf.2 75 (by omega) t).trans (hwv t (by omega))) ?_
      refine x_if_lt 57 dX6_asWanted_35 (by decide) (fun c_35 => ?_) (fun c_35 => ?_)
      · refine y_iinc (lv' := [(2, _), (0, _), (1, _)]) 0 dX6_asWanted_57 rfl (by decide) rfl ?_
        refine x_goto 18 dX6_asWanted_60 (by decide) ?_
        refine x_pick (lv' := [(2, _), (0, _), (1, _)]) [0, 1, 2] rfl ?_
        exact ih (iM I - (t + 1)) (by omega) (t + 1) rfl (by omega) (fun t' h hn => by rcases Nat.lt_succ_iff_lt_or_eq.mp h with k | k; exact hw t' k hn; subst k; first | (exfalso; omega) | (rw [← c_52]; exact (tw (hwh (by omega))).symm))
      · refine x_aload_n 1 dX6_asWanted_38 rfl rfl ?_
        refine x_getR fX6_35 dX6_asWanted_39 l74 rfl ?_
        refine x_iload_n 0 dX6_asWanted_42 rfl rfl ?_
        refine x_callVu (as := [_]) (rest := []) vX6_118 (c_X3_whom (Or.inr (Or.inr (Or.inl rfl))) hI1 hO hp.1 hwk (by omega)) dX6_asWanted_43 l45 rfl rfl rfl (Nat.le_of_ble_eq_true rfl) (Nat.le_of_ble_eq_true rfl) (Nat.le_of_ble_eq_true rfl) ?_
        refine x_aload_n 1 dX6_asWanted_46 rfl rfl ?_
        refine x_getR fX6_9 dX6_asWanted_47 l74 rfl ?_
        refine x_iload_n 0 dX6_asWanted_50 rfl rfl ?_
        refine y_iald dX6_asWanted_51 l75 (by omega) (by decide) ((hf.2 75 (by omega) t).trans (hwv t (by omega))) ?_
        refine x_ic_eq 57 dX6_asWanted_52 (by decide) (fun c_52 => ?_) (fun c_52 => ?_)
        · refine y_iinc (lv' := [(2, _), (0, _), (1, _)]) 0 dX6_asWanted_57 rfl (by decide) rfl ?_
          refine x_goto 18 dX6_asWanted_60 (by decide) ?_
          refine x_pick (lv' := [(2, _), (0, _), (1, _)]) [0, 1, 2] rfl ?_
          exact ih (iM I - (t + 1)) (by omega) (t + 1) rfl (by omega) (fun t' h hn => by rcases Nat.lt_succ_iff_lt_or_eq.mp h with k | k; exact hw t' k hn; subst k; first | (exfalso; omega) | (rw [← c_52]; exact (tw (hwh (by omega))).symm))
        · refine x_iconst (v := nI 0) dX6_asWanted_55 (by decide) ?_
          refine x_zret rfl dX6_asWanted_56 (by decide) ⟨_, rfl, hf, Or.inr ⟨rfl, fun h => c_52 (Int32.toInt_inj.mp ((tw (hwh (by omega))).trans (h t (by omega) c_35)))⟩⟩

set_option maxHeartbeats 4000000 in
set_option maxRecDepth 100000 in
theorem c_X6_asWanted {S : St} {I : Isl} (hI : IsX 11 I S) (hO : IOK I) {L c0 e : Nat} (h0 : OKc I L c0) (hx : SeX I L c0 e S) {i : Nat} (hi : i < rC (bfs I L c0 e)) {wv : Nat → Int32} (hwv : ∀ t, t < iM I → S.1 75 t = wv t)  : C 3 90 yX6_asWanted mX6_asWanted [.ref 74, .int (nI i)] S (qi (fun r S' => Fr (fun a => 46 ≤ a ∧ a ≤ 49) S S' ∧ ((r = nI 1 ∧ wantP I wv (rK (bfs I L c0 e) i)) ∨ (r = nI 0 ∧ ¬ wantP I wv (rK (bfs I L c0 e) i))))) := by
  have hO1 := hO.1
  have hO2 := hO.2.1
  have hO3 := hO.2.2.1
  have hO4 := hO.2.2.2.1
  have hrc := hx.1.2.1
  have hxi := hx.1.2.2.1 i hi
  have hiv := bfs_inv hO h0 e hx.2.2.2.2.2.2.2
  have hok := hiv.2.2.1 i hi
  refine C.ofX (by decide) rfl (Nat.le_of_ble_eq_true rfl) ?_
  show X 3 90 mX6_asWanted (qi (fun r S' => Fr (fun a => 46 ≤ a ∧ a ≤ 49) S S' ∧ ((r = nI 1 ∧ wantP I wv (rK (bfs I L c0 e) i)) ∨ (r = nI 0 ∧ ¬ wantP I wv (rK (bfs I L c0 e) i))))) 0 [(0, .ref 74), (1, .int (nI i))] [] S
  refine x_aload_n 0 dX6_asWanted_0 rfl rfl ?_
  refine x_getR fX6_35 dX6_asWanted_1 l74 rfl ?_
  refine x_aload_n 0 dX6_asWanted_4 rfl rfl ?_
  refine x_getR fX6_26 dX6_asWanted_5 l74 rfl ?_
  refine x_getR fX6_70 dX6_asWanted_8 l68 rfl ?_
  refine x_iload_n 1 dX6_asWanted_11 rfl rfl ?_
  refine y_iald dX6_asWanted_12 l69 (by omega) (by decide) hxi.1 ?_
  refine x_callVqv (as := [_]) (rest := []) vX6_73 (c_X3_decode (Or.inr (Or.inr (Or.inl rfl))) hI hO (hok.lt hO) (hok.2.ok hO)) dX6_asWanted_13 l45 rfl rfl rfl (Nat.le_of_ble_eq_true rfl) (Nat.le_of_ble_eq_true rfl) (Nat.le_of_ble_eq_true rfl) (fun S_13 q_13 => ?_)
  refine x_iconst (v := nI 0) dX6_asWanted_16 (by decide) ?_
  refine x_istore_n (lv' := [(2, _), (0, _), (1, _)]) dX6_asWanted_17 rfl (by decide) rfl ?_
  refine x_pick (lv' := [(2, _), (0, _), (1, _)]) [0, 1, 2] rfl ?_
  exact lp_asW hI hO h0 hx hi hwv (q_13.1.wider (fun a h => by omega)) q_13.2 0 (Nat.zero_le _) (fun t' h => absurd h (Nat.not_lt_zero t'))

set_option maxHeartbeats 4000000 in
set_option maxRecDepth 100000 in
theorem lp_fw {S : St} {I : Isl} (hI : IsX 11 I S) (hO : IOK I) {L c0 e0 : Nat} (hL7 : L ≤ 6) (h0 : OKc I L c0) (hR : Roomy I L c0) {wv : Nat → Int32} (hwv : ∀ t, t < iM I → S.1 75 t = wv t)  : ∀ (i : Nat) (S1 : St) (e : Nat), (Fr FS S S1 ∧ SeX I L c0 e S1) → (i ≤ 8525) → (∀ j, j < i → ¬ wantP I wv (rK (fR I L c0) j)) → X 5 150 mX6_firstAsWanted (qi (fun r S' => ∃ e, Fr FS S S' ∧ SeX I L c0 e S' ∧ ((∃ i, r = nI i ∧ i < rC (bfs I L c0 e) ∧ wantP I wv (rK (fR I L c0) i) ∧ ∀ j, j < i → ¬ wantP I wv (rK (fR I L c0) j)) ∨ (r = -9 ∧ ∀ j, j < rC (fR I L c0) → ¬ wantP I wv (rK (fR I L c0) j))))) 2 [(1, .int (nI i)), (0, .ref 74)] [] S1 := by
  intro i S1 e
  induction hm : 8525 - i using Nat.strongRecOn generalizing i S1 e with
  | _ mm ih =>
    intro hE hi hn
    have hO1 := hO.1
    have hO2 := hO.2.1
    have hO3 := hO.2.2.1
    have hO4 := hO.2.2.2.1
    obtain ⟨f1, f2⟩ := id hE
    have ha := f2.2.2.2.2.2.2.2
    have hI1 : IsX 11 I S1 := hI.keep (fun a h1 h2 b => f1.2 a (by unfold FS; omega) b)
    have hbn := (hR.1 _ (bN_ok hO h0).1)
    have hfr : rC (fR I L c0) ≤ 8525 := hbn
    refine x_iload_n 0 dX6_firstAsWanted_2 rfl rfl ?_
    refine x_sipush (v := nI 8525) dX6_firstAsWanted_3 (by decide +kernel) ?_
    refine y_ic_ge 33 dX6_firstAsWanted_6 (by decide) (by omega) (by omega) (fun c_6 => ?_) (fun c_6 => ?_)
    · refine x_bipush (v := -9) dX6_firstAsWanted_33 (by decide) ?_
      refine x_iret rfl dX6_firstAsWanted_35 (by
        first
        | exact ⟨_, rfl, e, f1, f2, Or.inr ⟨rfl, fun j hj => hn j (by omega)⟩⟩
        | (have g6 := (g4.resolve_left (fun k => absurd (k.1.symm.trans c_14) (by decide))).2
           have g7 := fR_full hO h0 ga g6.2
           exact ⟨_, rfl, e1, f1.trans g1, g2, Or.inr ⟨rfl, fun j hj => hn j (by omega)⟩⟩))
    · refine x_aload_n 1 dX6_firstAsWanted_9 rfl rfl ?_
      refine x_iload_n 0 dX6_firstAsWanted_10 rfl rfl ?_
      refine x_callVqi (as := [_]) (rest := []) vX6_112 (c_X6_has hI1 hO hL7 h0 hR f2 (by omega)) dX6_firstAsWanted_11 l74 rfl rfl rfl (Nat.le_of_ble_eq_true rfl) (Nat.le_of_ble_eq_true rfl) (Nat.le_of_ble_eq_true rfl) (fun r_11 S_11 q_11 => ?_)
      obtain ⟨e1, g1, g2, g3, g4⟩ := q_11
      have ga := g2.2.2.2.2.2.2.2
      have gp := fR_pre hO h0 ga
      refine x_if_eq 33 dX6_firstAsWanted_14 (by decide) (fun c_14 => ?_) (fun c_14 => ?_)
      · refine x_bipush (v := -9) dX6_firstAsWanted_33 (by decide) ?_
        refine x_iret rfl dX6_firstAsWanted_35 (by
          first
          | exact ⟨_, rfl, e, f1, f2, Or.inr ⟨rfl, fun j hj => hn j (by omega)⟩⟩
          | (have g6 := (g4.resolve_left (fun k => absurd (k.1.symm.trans c_14) (by decide))).2
             have g7 := fR_full hO h0 ga g6.2
             exact ⟨_, rfl, e1, f1.trans g1, g2, Or.inr ⟨rfl, fun j hj => hn j (by omega)⟩⟩))
      · have g5 := (g4.resolve_right (fun k => c_14 k.1)).2
        refine x_aload_n 1 dX6_firstAsWanted_17 rfl rfl ?_
        refine x_iload_n 0 dX6_firstAsWanted_18 rfl rfl ?_
        refine x_callVqi (as := [_]) (rest := []) vX6_115 (c_X6_asWanted (hI1.keep (fun a h1 h2 b => g1.2 a (by unfold FS; omega) b)) hO h0 g2 g5 (wv := wv) (fun t ht => (g1.2 75 (by unfold FS; omega) t).trans ((f1.2 75 (by unfold FS; omega) t).trans (hwv t ht)))) dX6_firstAsWanted_19 l74 rfl rfl rfl (Nat.le_of_ble_eq_true rfl) (Nat.le_of_ble_eq_true rfl) (Nat.le_of_ble_eq_true rfl) (fun r_19 S_19 q_19 => ?_)
        obtain ⟨w1, w2⟩ := q_19
        rw [← (gp.2 i g5).1] at w2
        refine x_if_eq 27 dX6_firstAsWanted_22 (by decide) (fun c_22 => ?_) (fun c_22 => ?_)
        · refine y_iinc (lv' := [(1, _), (0, _)]) 0 dX6_firstAsWanted_27 rfl (by decide) rfl ?_
          refine x_goto 2 dX6_firstAsWanted_30 (by decide) ?_
          refine x_pick (lv' := [(1, _), (0, _)]) [0, 1] rfl ?_
          have w3 := (w2.resolve_left (fun k => absurd (k.1.symm.trans c_22) (by decide))).2
          exact ih (8525 - (i + 1)) (by omega) (i + 1) S_19 e1 rfl ⟨(f1.trans g1).trans (fr49 w1), g2.f49 w1⟩ (by omega) (fun j hj => by rcases Nat.lt_succ_iff_lt_or_eq.mp hj with h | h; exact hn j h; subst h; exact w3)
        · refine x_iload_n 0 dX6_firstAsWanted_25 rfl rfl ?_
          refine x_iret rfl dX6_firstAsWanted_26 ⟨_, rfl, e1, (f1.trans g1).trans (fr49 w1), g2.f49 w1, Or.inl ⟨i, rfl, g5, (w2.resolve_right (fun k => c_22 k.1)).2, hn⟩⟩

set_option maxHeartbeats 4000000 in
set_option maxRecDepth 100000 in
theorem c_X6_firstAsWanted {S : St} {I : Isl} (hI : IsX 11 I S) (hO : IOK I) {L c0 e0 : Nat} (hL7 : L ≤ 6) (h0 : OKc I L c0) (hR : Roomy I L c0) {wv : Nat → Int32} (hwv : ∀ t, t < iM I → S.1 75 t = wv t) (hx : SeX I L c0 e0 S) : C 5 150 yX6_firstAsWanted mX6_firstAsWanted [.ref 74] S (qi (fun r S' => ∃ e, Fr FS S S' ∧ SeX I L c0 e S' ∧ ((∃ i, r = nI i ∧ i < rC (bfs I L c0 e) ∧ wantP I wv (rK (fR I L c0) i) ∧ ∀ j, j < i → ¬ wantP I wv (rK (fR I L c0) j)) ∨ (r = -9 ∧ ∀ j, j < rC (fR I L c0) → ¬ wantP I wv (rK (fR I L c0) j))))) := by
  refine C.ofX (by decide) rfl (Nat.le_of_ble_eq_true rfl) ?_
  show X 5 150 mX6_firstAsWanted (qi (fun r S' => ∃ e, Fr FS S S' ∧ SeX I L c0 e S' ∧ ((∃ i, r = nI i ∧ i < rC (bfs I L c0 e) ∧ wantP I wv (rK (fR I L c0) i) ∧ ∀ j, j < i → ¬ wantP I wv (rK (fR I L c0) j)) ∨ (r = -9 ∧ ∀ j, j < rC (fR I L c0) → ¬ wantP I wv (rK (fR I L c0) j))))) 0 [(0, .ref 74)] [] S
  refine x_iconst (v := nI 0) dX6_firstAsWanted_0 (by decide) ?_
  refine x_istore_n (lv' := [(1, _), (0, _)]) dX6_firstAsWanted_1 rfl (by decide) rfl ?_
  refine x_pick (lv' := [(1, _), (0, _)]) [0, 1] rfl ?_
  exact lp_fw (e0 := e0) hI hO hL7 h0 hR hwv 0 S e0 ⟨Fr.refl, hx⟩ (Nat.zero_le _) (fun j hj => absurd hj (Nat.not_lt_zero j))

set_option maxHeartbeats 4000000 in
set_option maxRecDepth 100000 in
theorem lp_fd {S : St} {I : Isl} (hI : IsX 11 I S) (hO : IOK I) {L c0 e0 : Nat} (hL7 : L ≤ 6) (h0 : OKc I L c0) (hR : Roomy I L c0) {v : Nat} (hv : v < iW I)  : ∀ (i : Nat) (S1 : St) (e : Nat), (Fr FS S S1 ∧ SeX I L c0 e S1) → (i ≤ 8525) → (∀ j, j < i → ¬ canF I (digF (rK (fR I L c0) j)) v) → X 5 150 mX6_firstDoing (qi (fun r S' => ∃ e, Fr FS S S' ∧ SeX I L c0 e S' ∧ ((∃ i, r = nI i ∧ i < rC (bfs I L c0 e) ∧ canF I (digF (rK (fR I L c0) i)) v ∧ ∀ j, j < i → ¬ canF I (digF (rK (fR I L c0) j)) v) ∨ (r = -9 ∧ ∀ j, j < rC (fR I L c0) → ¬ canF I (digF (rK (fR I L c0) j)) v)))) 2 [(2, .int (nI i)), (0, .ref 74), (1, .int (nI v))] [] S1 := by
  intro i S1 e
  induction hm : 8525 - i using Nat.strongRecOn generalizing i S1 e with
  | _ mm ih =>
    intro hE hi hn
    have hO1 := hO.1
    have hO2 := hO.2.1
    have hO3 := hO.2.2.1
    have hO4 := hO.2.2.2.1
    obtain ⟨f1, f2⟩ := id hE
    have ha := f2.2.2.2.2.2.2.2
    have hI1 : IsX 11 I S1 := hI.keep (fun a h1 h2 b => f1.2 a (by unfold FS; omega) b)
    have hbn := (hR.1 _ (bN_ok hO h0).1)
    have hfr : rC (fR I L c0) ≤ 8525 := hbn
    refine x_iload_n 0 dX6_firstDoing_2 rfl rfl ?_
    refine x_sipush (v := nI 8525) dX6_firstDoing_3 (by decide +kernel) ?_
    refine y_ic_ge 55 dX6_firstDoing_6 (by decide) (by omega) (by omega) (fun c_6 => ?_) (fun c_6 => ?_)
    · refine x_bipush (v := -9) dX6_firstDoing_55 (by decide) ?_
      refine x_iret rfl dX6_firstDoing_57 (by
        first
        | exact ⟨_, rfl, e, f1, f2, Or.inr ⟨rfl, fun j hj => hn j (by omega)⟩⟩
        | (have g6 := (g4.resolve_left (fun k => absurd (k.1.symm.trans c_14) (by decide))).2
           have g7 := fR_full hO h0 ga g6.2
           exact ⟨_, rfl, e1, f1.trans g1, g2, Or.inr ⟨rfl, fun j hj => hn j (by omega)⟩⟩))
    · refine x_aload_n 1 dX6_firstDoing_9 rfl rfl ?_
      refine x_iload_n 0 dX6_firstDoing_10 rfl rfl ?_
      refine x_callVqi (as := [_]) (rest := []) vX6_112 (c_X6_has hI1 hO hL7 h0 hR f2 (by omega)) dX6_firstDoing_11 l74 rfl rfl rfl (Nat.le_of_ble_eq_true rfl) (Nat.le_of_ble_eq_true rfl) (Nat.le_of_ble_eq_true rfl) (fun r_11 S_11 q_11 => ?_)
      obtain ⟨e1, g1, g2, g3, g4⟩ := q_11
      have ga := g2.2.2.2.2.2.2.2
      have gp := fR_pre hO h0 ga
      refine x_if_eq 55 dX6_firstDoing_14 (by decide) (fun c_14 => ?_) (fun c_14 => ?_)
      · refine x_bipush (v := -9) dX6_firstDoing_55 (by decide) ?_
        refine x_iret rfl dX6_firstDoing_57 (by
          first
          | exact ⟨_, rfl, e, f1, f2, Or.inr ⟨rfl, fun j hj => hn j (by omega)⟩⟩
          | (have g6 := (g4.resolve_left (fun k => absurd (k.1.symm.trans c_14) (by decide))).2
             have g7 := fR_full hO h0 ga g6.2
             exact ⟨_, rfl, e1, f1.trans g1, g2, Or.inr ⟨rfl, fun j hj => hn j (by omega)⟩⟩))
      · have g5 := (g4.resolve_right (fun k => c_14 k.1)).2
        have hok := (bfs_inv hO h0 e1 ga).2.2.1 i g5
        have hI2 : IsX 11 I S_11 := hI1.keep (fun a h1 h2 b => g1.2 a (by unfold FS; omega) b)
        have hxi := (g2.1.2.2.1 i g5).1
        have hdb : (dbF I (digF (rK (bfs I L c0 e1) i)) (iW I)) < 256 := dbF_lt hO3
        have hcc : (dbF I (digF (rK (bfs I L c0 e1) i)) (iW I)) / 2 ^ v % 2 = 1 ↔ canF I (digF (rK (fR I L c0) i)) v := by rw [has_iff, dbF_bit, (gp.2 i g5).1]; exact ⟨fun h => h.2, fun h => ⟨hv, h⟩⟩
        refine x_aload_n 1 dX6_firstDoing_17 rfl rfl ?_
        refine x_getR fX6_35 dX6_firstDoing_18 l74 rfl ?_
        refine x_aload_n 1 dX6_firstDoing_21 rfl rfl ?_
        refine x_getR fX6_26 dX6_firstDoing_22 l74 rfl ?_
        refine x_getR fX6_70 dX6_firstDoing_25 l68 rfl ?_
        refine x_iload_n 0 dX6_firstDoing_28 rfl rfl ?_
        refine y_iald dX6_firstDoing_29 l69 (by omega) (by decide) hxi ?_
        refine x_callVqv (as := [_]) (rest := []) vX6_73 (c_X3_decode (Or.inr (Or.inr (Or.inl rfl))) hI2 hO (hok.lt hO) (hok.2.ok hO)) dX6_firstDoing_30 l45 rfl rfl rfl (Nat.le_of_ble_eq_true rfl) (Nat.le_of_ble_eq_true rfl) (Nat.le_of_ble_eq_true rfl) (fun S_30 q_30 => ?_)
        have hI3 : IsX 11 I S_30 := hI2.keep (fun a h1 h2 b => q_30.1.2 a (by omega) b)
        refine x_aload_n 1 dX6_firstDoing_33 rfl rfl ?_
        refine x_getR fX6_35 dX6_firstDoing_34 l74 rfl ?_
        refine x_callVu (as := []) (rest := []) vX6_121 (c_X3_doable (Or.inr (Or.inr (Or.inl rfl))) hI3 hO q_30.2) dX6_firstDoing_37 l45 rfl rfl rfl (Nat.le_of_ble_eq_true rfl) (Nat.le_of_ble_eq_true rfl) (Nat.le_of_ble_eq_true rfl) ?_
        refine x_iload_n 2 dX6_firstDoing_40 rfl rfl ?_
        refine y_ishr dX6_firstDoing_41 (by omega) (by omega) ?_
        refine x_iconst (v := nI 1) dX6_firstDoing_42 (by decide) ?_
        refine y_iand dX6_firstDoing_43 ?_
        rw [show (((dbF I (digF (rK (bfs I L c0 e1) i)) (iW I)) / 2 ^ v) &&& 1) = ((dbF I (digF (rK (bfs I L c0 e1) i)) (iW I)) / 2 ^ v % 2) from by rw [Nat.and_one_is_mod]]
        refine y_if_eq 49 dX6_firstDoing_44 (by decide) (by omega) (fun c_44 => ?_) (fun c_44 => ?_)
        · refine y_iinc (lv' := [(2, _), (0, _), (1, _)]) 0 dX6_firstDoing_49 rfl (by decide) rfl ?_
          refine x_goto 2 dX6_firstDoing_52 (by decide) ?_
          refine x_pick (lv' := [(2, _), (0, _), (1, _)]) [0, 1, 2] rfl ?_
          exact ih (8525 - (i + 1)) (by omega) (i + 1) S_30 e1 rfl ⟨(f1.trans g1).trans (fr49 (q_30.1.wider (fun a h => by omega))), g2.f49 (q_30.1.wider (fun a h => by omega))⟩ (by omega) (fun j hj => by rcases Nat.lt_succ_iff_lt_or_eq.mp hj with h | h; exact hn j h; subst h; exact fun k => by have := hcc.mpr k; omega)
        · refine x_iload_n 0 dX6_firstDoing_47 rfl rfl ?_
          refine x_iret rfl dX6_firstDoing_48 ⟨_, rfl, e1, (f1.trans g1).trans (fr49 (q_30.1.wider (fun a h => by omega))), g2.f49 (q_30.1.wider (fun a h => by omega)), Or.inl ⟨i, rfl, g5, hcc.mp (by omega), hn⟩⟩

set_option maxHeartbeats 4000000 in
set_option maxRecDepth 100000 in
theorem c_X6_firstDoing {S : St} {I : Isl} (hI : IsX 11 I S) (hO : IOK I) {L c0 e0 : Nat} (hL7 : L ≤ 6) (h0 : OKc I L c0) (hR : Roomy I L c0) {v : Nat} (hv : v < iW I) (hx : SeX I L c0 e0 S) : C 5 150 yX6_firstDoing mX6_firstDoing [.ref 74, .int (nI v)] S (qi (fun r S' => ∃ e, Fr FS S S' ∧ SeX I L c0 e S' ∧ ((∃ i, r = nI i ∧ i < rC (bfs I L c0 e) ∧ canF I (digF (rK (fR I L c0) i)) v ∧ ∀ j, j < i → ¬ canF I (digF (rK (fR I L c0) j)) v) ∨ (r = -9 ∧ ∀ j, j < rC (fR I L c0) → ¬ canF I (digF (rK (fR I L c0) j)) v)))) := by
  refine C.ofX (by decide) rfl (Nat.le_of_ble_eq_true rfl) ?_
  show X 5 150 mX6_firstDoing (qi (fun r S' => ∃ e, Fr FS S S' ∧ SeX I L c0 e S' ∧ ((∃ i, r = nI i ∧ i < rC (bfs I L c0 e) ∧ canF I (digF (rK (fR I L c0) i)) v ∧ ∀ j, j < i → ¬ canF I (digF (rK (fR I L c0) j)) v) ∨ (r = -9 ∧ ∀ j, j < rC (fR I L c0) → ¬ canF I (digF (rK (fR I L c0) j)) v)))) 0 [(0, .ref 74), (1, .int (nI v))] [] S
  refine x_iconst (v := nI 0) dX6_firstDoing_0 (by decide) ?_
  refine x_istore_n (lv' := [(2, _), (0, _), (1, _)]) dX6_firstDoing_1 rfl (by decide) rfl ?_
  refine x_pick (lv' := [(2, _), (0, _), (1, _)]) [0, 1, 2] rfl ?_
  exact lp_fd (e0 := e0) hI hO hL7 h0 hR hv 0 S e0 ⟨Fr.refl, hx⟩ (Nat.zero_le _) (fun j hj => absurd hj (Nat.not_lt_zero j))

noncomputable def nearT (I : Isl) (L c0 f : Nat) (wv : Nat → Int32) (j : Nat) : Nat := if dec (rD (fR I L c0) j = rD (fR I L c0) f ∧ wantP I wv (rK (fR I L c0) j)) then 1 else 0
theorem nearT_1 {I : Isl} {L c0 f : Nat} {wv : Nat → Int32} {j : Nat} (h : rD (fR I L c0) j = rD (fR I L c0) f) (h2 : wantP I wv (rK (fR I L c0) j)) : nearT I L c0 f wv j = 1 := by unfold nearT; rw [dec_t ⟨h, h2⟩, if_pos rfl]
theorem nearT_0 {I : Isl} {L c0 f : Nat} {wv : Nat → Int32} {j : Nat} (h : ¬ (rD (fR I L c0) j = rD (fR I L c0) f ∧ wantP I wv (rK (fR I L c0) j))) : nearT I L c0 f wv j = 0 := by unfold nearT; rw [dec_f h, if_neg (by decide)]
theorem nearT_le {I : Isl} {L c0 f : Nat} {wv : Nat → Int32} (n : Nat) : sm (nearT I L c0 f wv) n ≤ 1 * n := sm_le fun j _ => by unfold nearT; split <;> decide
theorem sm_tail {T : Nat → Nat} {i n : Nat} (hin : i ≤ n) (h : ∀ j, i ≤ j → j < n → T j = 0) : sm T n = sm T i := by
  have e := sm_add T i (n - i)
  rw [show i + (n - i) = n by omega, sm_zero (n := n - i) (fun j hj => h (i + j) (by omega) (by omega))] at e
  exact e

set_option maxHeartbeats 4000000 in
set_option maxRecDepth 100000 in
theorem lp_near {S : St} {I : Isl} (hI : IsX 11 I S) (hO : IOK I) {L c0 e0 : Nat} (hL7 : L ≤ 6) (h0 : OKc I L c0) (hR : Roomy I L c0) {wv : Nat → Int32} (hwv : ∀ t, t < iM I → S.1 75 t = wv t) {f : Nat} (hf : f < rC (fR I L c0)) (hnf : ∀ j, j < f → ¬ wantP I wv (rK (fR I L c0) j))  : ∀ (i : Nat) (S1 : St) (e : Nat), (Fr FS S S1 ∧ SeX I L c0 e S1) → (f ≤ i) → (f < rC (bfs I L c0 e)) → (i ≤ rC (bfs I L c0 e)) → X 5 150 mX6_asNear (qi (fun r S' => ∃ e, Fr FS S S' ∧ SeX I L c0 e S' ∧ f < rC (bfs I L c0 e) ∧ r = nI (sm (nearT I L c0 f wv) (rC (fR I L c0))))) 4 [(3, .int (nI i)), (2, .int (nI ((sm (nearT I L c0 f wv) i)))), (0, .ref 74), (1, .int (nI f))] [] S1 := by
  intro i S1 e
  induction hm : 8525 - i using Nat.strongRecOn generalizing i S1 e with
  | _ mm ih =>
    intro hE hfi hfe hie
    have hO1 := hO.1
    have hO2 := hO.2.1
    have hO3 := hO.2.2.1
    have hO4 := hO.2.2.2.1
    obtain ⟨f1, f2⟩ := id hE
    have ha := f2.2.2.2.2.2.2.2
    have hI1 : IsX 11 I S1 := hI.keep (fun a h1 h2 b => f1.2 a (by unfold FS; omega) b)
    have hbn := (hR.1 _ (bN_ok hO h0).1)
    have hfr : rC (fR I L c0) ≤ 8525 := hbn
    have hpe := (fR_pre hO h0 ha).1
    have hnl := nearT_le (I := I) (L := L) (c0 := c0) (f := f) (wv := wv) i
    refine x_iload_n 0 dX6_asNear_4 rfl rfl ?_
    refine x_sipush (v := nI 8525) dX6_asNear_5 (by decide +kernel) ?_
    refine y_ic_ge 57 dX6_asNear_8 (by decide) (by omega) (by omega) (fun c_8 => ?_) (fun c_8 => ?_)
    · refine x_iload_n 1 dX6_asNear_57 rfl rfl ?_
      refine x_iret rfl dX6_asNear_58 (by
        first
        | exact ⟨_, rfl, e, f1, f2, hfe, by rw [show i = rC (fR I L c0) by omega]⟩
        | (have g6 := (g4.resolve_left (fun k => absurd (k.1.symm.trans c_16) (by decide))).2
           have g7 := fR_full hO h0 ga g6.2
           exact ⟨_, rfl, e1, f1.trans g1, g2, by omega, by rw [show i = rC (fR I L c0) by omega]⟩)
        | (refine ⟨_, rfl, e1, f1.trans g1, g2, by omega, congrArg nI (sm_tail (by omega) (fun j h1 h2 => nearT_0 (fun q => ?_))).symm⟩
           have m1 := (fR_inv hO h0).mono j h2 i h1
           have m2 := (fR_inv hO h0).mono i (by omega) f hfi
           omega))
    · refine x_aload_n 2 dX6_asNear_11 rfl rfl ?_
      refine x_iload_n 0 dX6_asNear_12 rfl rfl ?_
      refine x_callVqi (as := [_]) (rest := []) vX6_112 (c_X6_has hI1 hO hL7 h0 hR f2 (by omega)) dX6_asNear_13 l74 rfl rfl rfl (Nat.le_of_ble_eq_true rfl) (Nat.le_of_ble_eq_true rfl) (Nat.le_of_ble_eq_true rfl) (fun r_13 S_13 q_13 => ?_)
      obtain ⟨e1, g1, g2, g3, g4⟩ := q_13
      have ga := g2.2.2.2.2.2.2.2
      have gp := fR_pre hO h0 ga
      have g0 := g2.1.2.1
      refine x_if_eq 57 dX6_asNear_16 (by decide) (fun c_16 => ?_) (fun c_16 => ?_)
      · refine x_iload_n 1 dX6_asNear_57 rfl rfl ?_
        refine x_iret rfl dX6_asNear_58 (by
          first
          | exact ⟨_, rfl, e, f1, f2, hfe, by rw [show i = rC (fR I L c0) by omega]⟩
          | (have g6 := (g4.resolve_left (fun k => absurd (k.1.symm.trans c_16) (by decide))).2
             have g7 := fR_full hO h0 ga g6.2
             exact ⟨_, rfl, e1, f1.trans g1, g2, by omega, by rw [show i = rC (fR I L c0) by omega]⟩)
          | (refine ⟨_, rfl, e1, f1.trans g1, g2, by omega, congrArg nI (sm_tail (by omega) (fun j h1 h2 => nearT_0 (fun q => ?_))).symm⟩
             have m1 := (fR_inv hO h0).mono j h2 i h1
             have m2 := (fR_inv hO h0).mono i (by omega) f hfi
             omega))
      · have g5 := (g4.resolve_right (fun k => c_16 k.1)).2
        have gfe : f < rC (bfs I L c0 e1) := by omega
        have gpc := gp.1
        have gd1 := (gp.2 i g5).2.2.2
        have gd2 := (gp.2 f gfe).2.2.2
        have gb := ((bfs_inv hO h0 e1 ga).dle i g5)
        have gb2 := ((bfs_inv hO h0 e1 ga).dle f gfe)
        refine x_aload_n 2 dX6_asNear_19 rfl rfl ?_
        refine x_getR fX6_26 dX6_asNear_20 l74 rfl ?_
        refine x_getR fX6_64 dX6_asNear_23 l68 rfl ?_
        refine x_iload_n 0 dX6_asNear_26 rfl rfl ?_
        refine y_iald dX6_asNear_27 l72 (by omega) (by decide) (g2.1.2.2.1 i g5).2.2.2.1 ?_
        refine x_aload_n 2 dX6_asNear_28 rfl rfl ?_
        refine x_getR fX6_26 dX6_asNear_29 l74 rfl ?_
        refine x_getR fX6_64 dX6_asNear_32 l68 rfl ?_
        refine x_iload_n 3 dX6_asNear_35 rfl rfl ?_
        refine y_iald dX6_asNear_36 l72 (by omega) (by decide) (g2.1.2.2.1 f gfe).2.2.2.1 ?_
        refine y_ic_ne 57 dX6_asNear_37 (by decide) (by omega) (by omega) (fun c_37 => ?_) (fun c_37 => ?_)
        · refine x_iload_n 1 dX6_asNear_57 rfl rfl ?_
          refine x_iret rfl dX6_asNear_58 (by
            first
            | exact ⟨_, rfl, e, f1, f2, hfe, by rw [show i = rC (fR I L c0) by omega]⟩
            | (have g6 := (g4.resolve_left (fun k => absurd (k.1.symm.trans c_16) (by decide))).2
               have g7 := fR_full hO h0 ga g6.2
               exact ⟨_, rfl, e1, f1.trans g1, g2, by omega, by rw [show i = rC (fR I L c0) by omega]⟩)
            | (refine ⟨_, rfl, e1, f1.trans g1, g2, by omega, congrArg nI (sm_tail (by omega) (fun j h1 h2 => nearT_0 (fun q => ?_))).symm⟩
               have m1 := (fR_inv hO h0).mono j h2 i h1
               have m2 := (fR_inv hO h0).mono i (by omega) f hfi
               omega))
        · refine x_aload_n 2 dX6_asNear_40 rfl rfl ?_
          refine x_iload_n 0 dX6_asNear_41 rfl rfl ?_
          refine x_callVqi (as := [_]) (rest := []) vX6_115 (c_X6_asWanted (hI1.keep (fun a h1 h2 b => g1.2 a (by unfold FS; omega) b)) hO h0 g2 g5 (wv := wv) (fun t ht => (g1.2 75 (by unfold FS; omega) t).trans ((f1.2 75 (by unfold FS; omega) t).trans (hwv t ht)))) dX6_asNear_42 l74 rfl rfl rfl (Nat.le_of_ble_eq_true rfl) (Nat.le_of_ble_eq_true rfl) (Nat.le_of_ble_eq_true rfl) (fun r_42 S_42 q_42 => ?_)
          obtain ⟨w1, w2⟩ := q_42
          rw [← (gp.2 i g5).1] at w2
          refine x_if_eq 51 dX6_asNear_45 (by decide) (fun c_45 => ?_) (fun c_45 => ?_)
          · rw [show ((2, Value.int (nI ((sm (nearT I L c0 f wv) i)))) : Nat × Value) = (2, Value.int (nI (sm (nearT I L c0 f wv) (i + 1)))) from by first | rw [sm_s, nearT_1 (by omega) (w2.resolve_right (fun k => c_45 k.1)).2] | rw [sm_s, nearT_0 (fun q => (w2.resolve_left (fun k => absurd (k.1.symm.trans c_45) (by decide))).2 q.2), Nat.add_zero]]
            refine y_iinc (lv' := [(3, _), (2, _), (0, _), (1, _)]) 0 dX6_asNear_51 rfl (by decide) rfl ?_
            refine x_goto 4 dX6_asNear_54 (by decide) ?_
            refine x_pick (lv' := [(3, _), (2, _), (0, _), (1, _)]) [0, 1, 2, 3] rfl ?_
            exact ih (8525 - (i + 1)) (by omega) (i + 1) S_42 e1 rfl ⟨(f1.trans g1).trans (fr49 w1), g2.f49 w1⟩ (by omega) gfe (by omega)
          · refine y_iinc (lv' := [(2, _), (3, _), (0, _), (1, _)]) 1 dX6_asNear_48 rfl (by decide) rfl ?_
            rw [show ((2, Value.int (nI (((sm (nearT I L c0 f wv) i) + 1)))) : Nat × Value) = (2, Value.int (nI (sm (nearT I L c0 f wv) (i + 1)))) from by first | rw [sm_s, nearT_1 (by omega) (w2.resolve_right (fun k => c_45 k.1)).2] | rw [sm_s, nearT_0 (fun q => (w2.resolve_left (fun k => absurd (k.1.symm.trans c_45) (by decide))).2 q.2), Nat.add_zero]]
            refine y_iinc (lv' := [(3, _), (2, _), (0, _), (1, _)]) 1 dX6_asNear_51 rfl (by decide) rfl ?_
            refine x_goto 4 dX6_asNear_54 (by decide) ?_
            refine x_pick (lv' := [(3, _), (2, _), (0, _), (1, _)]) [0, 1, 2, 3] rfl ?_
            exact ih (8525 - (i + 1)) (by omega) (i + 1) S_42 e1 rfl ⟨(f1.trans g1).trans (fr49 w1), g2.f49 w1⟩ (by omega) gfe (by omega)

set_option maxHeartbeats 4000000 in
set_option maxRecDepth 100000 in
theorem c_X6_asNear {S : St} {I : Isl} (hI : IsX 11 I S) (hO : IOK I) {L c0 e0 : Nat} (hL7 : L ≤ 6) (h0 : OKc I L c0) (hR : Roomy I L c0) {wv : Nat → Int32} (hwv : ∀ t, t < iM I → S.1 75 t = wv t) {f : Nat} (hf : f < rC (fR I L c0)) (hnf : ∀ j, j < f → ¬ wantP I wv (rK (fR I L c0) j)) (hx : SeX I L c0 e0 S) (hfe : f < rC (bfs I L c0 e0)) : C 5 150 yX6_asNear mX6_asNear [.ref 74, .int (nI f)] S (qi (fun r S' => ∃ e, Fr FS S S' ∧ SeX I L c0 e S' ∧ f < rC (bfs I L c0 e) ∧ r = nI (sm (nearT I L c0 f wv) (rC (fR I L c0))))) := by
  refine C.ofX (by decide) rfl (Nat.le_of_ble_eq_true rfl) ?_
  show X 5 150 mX6_asNear (qi (fun r S' => ∃ e, Fr FS S S' ∧ SeX I L c0 e S' ∧ f < rC (bfs I L c0 e) ∧ r = nI (sm (nearT I L c0 f wv) (rC (fR I L c0))))) 0 [(0, .ref 74), (1, .int (nI f))] [] S
  refine x_iconst (v := nI 0) dX6_asNear_0 (by decide) ?_
  refine x_istore_n (lv' := [(2, _), (0, _), (1, _)]) dX6_asNear_1 rfl (by decide) rfl ?_
  refine x_iload_n 2 dX6_asNear_2 rfl rfl ?_
  refine x_istore_n (lv' := [(3, _), (2, _), (0, _), (1, _)]) dX6_asNear_3 rfl (by decide) rfl ?_
  refine x_pick (lv' := [(3, _), (2, _), (0, _), (1, _)]) [0, 1, 2, 3] rfl ?_
  have hh := lp_near (e0 := e0) hI hO hL7 h0 hR hwv hf hnf f S e0 ⟨Fr.refl, hx⟩ (Nat.le_refl _) hfe (by omega)
  rw [show sm (nearT I L c0 f wv) f = 0 from sm_zero (fun j hj => nearT_0 (fun q => hnf j hj q.2))] at hh
  exact hh

theorem VS.okc {I : Isl} {w : Nat → Nat} {L : Nat} (hO : IOK I) (h : VS I w L) : OKc I L (codeF I w) := OKc.code hO h
theorem hDall {I : Isl} {L c0 : Nat} (hO : IOK I) (h0 : OKc I L c0) (hR : Roomy I L c0) : ∀ e j, alive I L c0 e → j < rC (bfs I L c0 e) → rD (bfs I L c0 e) j < 8525 := fun e j ha hj => by
  have := (bfs_inv hO h0 e ha).dle j hj
  have := hR.1 e ha
  omega

