/-! ===== theft, thefts: the class ===== -/
def FT (a : Nat) : Prop := (55 ≤ a ∧ a ≤ 59) ∨ (68 ≤ a ∧ a ≤ 74)
/-- all that one alone comes to -/
noncomputable def tfE (I : Isl) (L p M c0 : Nat) : Rs := tfs I L p M c0 16807
theorem tfs_stop {I : Isl} {L p M c0 i : Nat} (h : ∀ j, i ≤ j → j < rC (tfs I L p M c0 i) → M ≤ rD (tfs I L p M c0 i) j) : ∀ d, tfs I L p M c0 (i + d) = tfs I L p M c0 i
  | 0 => rfl
  | d + 1 => by
    have ih := tfs_stop h d
    rw [← Nat.add_assoc, tfs, ih, e2_1 (fun q => by have := h (i + d) (by omega) q.1; omega)]
theorem tfE_stop {I : Isl} {L p M c0 i : Nat} (hi : i ≤ 16807) (h : ∀ j, i ≤ j → j < rC (tfs I L p M c0 i) → M ≤ rD (tfs I L p M c0 i) j) : tfE I L p M c0 = tfs I L p M c0 i := by
  have e := tfs_stop h (16807 - i)
  rw [show i + (16807 - i) = 16807 by omega] at e
  exact e
theorem tfE_pre {I : Isl} {L p M c0 i : Nat} (hi : i ≤ 16807) : Pre (tfs I L p M c0 i) (tfE I L p M c0) := by
  have e := Pre.tf I L p M c0 i (16807 - i)
  rw [show i + (16807 - i) = 16807 by omega] at e
  exact e
theorem tfs_t {I : Isl} {L p M c0 i : Nat} (h : i < rC (tfs I L p M c0 i)) (h2 : rD (tfs I L p M c0 i) i < M) : tfs I L p M c0 (i + 1) = txS I L p i (tfs I L p M c0 i) (7 * iM I) := by rw [tfs, e2_0 ⟨h, h2⟩]
theorem tfs_f {I : Isl} {L p M c0 i : Nat} (h : ¬ (i < rC (tfs I L p M c0 i) ∧ rD (tfs I L p M c0 i) i < M)) : tfs I L p M c0 (i + 1) = tfs I L p M c0 i := by rw [tfs, e2_1 h]

set_option maxHeartbeats 4000000 in
set_option maxRecDepth 100000 in
theorem c_X8_begin {S : St} {I : Isl} (hI : IsX 11 I S) (hO : IOK I) {w : Nat → Nat} (hP : PlT 35 I w S) {L : Nat} (hL : S.1 35 5 = nI L) (hL7 : L ≤ 6) (hv : VS I w L) {R : Rs} (hR : StX R S) : C 2 60 yX8_begin mX8_begin [.ref 82, .ref 35] S (qv (fun S' => Fr (fun a => a = 55 ∨ (68 ≤ a ∧ a ≤ 74)) S S' ∧ StX (r0 (codeF I w)) S' ∧ S'.1 55 5 = nI L ∧ S'.1 74 9 = nI 0)) := by
  have hO1 := hO.1
  have hO2 := hO.2.1
  have hO3 := hO.2.2.1
  have hO4 := hO.2.2.2.1
  have hw := hv.ok hO
  have hw7 := hw.w7 hO
  have hcl := (hv.okc hO).lt hO
  refine C.ofX (by decide) rfl (Nat.le_of_ble_eq_true rfl) ?_
  show X 2 60 mX8_begin (qv (fun S' => Fr (fun a => a = 55 ∨ (68 ≤ a ∧ a ≤ 74)) S S' ∧ StX (r0 (codeF I w)) S' ∧ S'.1 55 5 = nI L ∧ S'.1 74 9 = nI 0)) 0 [(0, .ref 82), (1, .ref 35)] [] S
  refine x_aload_n 0 dX8_begin_0 rfl rfl ?_
  refine x_getR fX8_19 dX8_begin_1 l82 rfl ?_
  refine x_callVv (as := []) (rest := []) vX8_64 c_X6_spoil dX8_begin_4 l74 rfl rfl rfl (Nat.le_of_ble_eq_true rfl) (Nat.le_of_ble_eq_true rfl) (Nat.le_of_ble_eq_true rfl) ?_
  refine x_aload_n 0 dX8_begin_7 rfl rfl ?_
  refine x_getR fX8_28 dX8_begin_8 l82 rfl ?_
  refine x_aload_n 1 dX8_begin_11 rfl rfl ?_
  refine y_getI fX8_69 dX8_begin_12 l35 rfl hL ?_
  refine x_putI pX8_69 dX8_begin_15 l55 rfl ?_
  refine x_aload_n 0 dX8_begin_18 rfl rfl ?_
  refine x_getR fX8_15 dX8_begin_19 l82 rfl ?_
  refine x_aload_n 1 dX8_begin_22 rfl rfl ?_
  refine x_callVu (as := []) (rest := [_]) vX8_72 (c_X3_code (Or.inl rfl) (hI.keep (fun a h1 h2 b => (rdI_k (by omega)).trans (rdI_k (by omega)))) hO (fun t ht => (rdI_k (by decide)).trans ((rdI_k (by decide)).trans (hP.1 t ht))) hw7) dX8_begin_23 l35 rfl rfl rfl (Nat.le_of_ble_eq_true rfl) (Nat.le_of_ble_eq_true rfl) (Nat.le_of_ble_eq_true rfl) ?_
  refine x_callVqv (as := [_]) (rest := []) vX8_75 (c_X7_begin (hR.fr (fun a h1 h2 b => (rdI_k (by omega)).trans (rdI_k (by omega)))) hcl) dX8_begin_26 l68 rfl rfl rfl (Nat.le_of_ble_eq_true rfl) (Nat.le_of_ble_eq_true rfl) (Nat.le_of_ble_eq_true rfl) (fun S_26 q_26 => ?_)
  refine x_vret rfl dX8_begin_29 ⟨rfl, ⟨q_26.1.1, fun a ha b => (q_26.1.2 a (by omega) b).trans ((rdI_k (by omega)).trans (rdI_k (by omega)))⟩, q_26.2, (q_26.1.2 55 (by omega) 5).trans rdI_eq, (q_26.1.2 74 (by omega) 9).trans ((rdI_k (by decide)).trans rdI_eq)⟩

set_option maxHeartbeats 4000000 in
set_option maxRecDepth 100000 in
theorem lp_ff {S : St} {I : Isl} (hI : IsX 11 I S) (hO : IOK I) {w : Nat → Nat} (hP : PlT 35 I w S) {L : Nat} (hL : S.1 35 5 = nI L) (hL7 : L ≤ 6) (hv : VS I w L) (hcnt : cb (fun c => dec (OKc I L c)) (7 ^ iM I) ≤ 8525) {p : Nat} (hpp : p < iP I) {t : Nat} (ht : t < iM I)  : ∀ (i : Nat) (S1 : St), (i ≤ 8525) → (Fr FT S S1 ∧ StX (tfs I L p 4 (codeF I w) i) S1 ∧ S1.1 55 5 = nI L ∧ S1.1 74 9 = nI 0) → (∀ j, j < i → ¬ whomF I (digF (rK (tfE I L p 4 (codeF I w)) j)) t = p) → X 5 150 mX8_fewestFor (qi (fun r S' => ((∃ i, i < rC (tfE I L p 4 (codeF I w)) ∧ whomF I (digF (rK (tfE I L p 4 (codeF I w)) i)) t = p ∧ (∀ j, j < i → ¬ whomF I (digF (rK (tfE I L p 4 (codeF I w)) j)) t = p) ∧ r = nI (rD (tfE I L p 4 (codeF I w)) i)) ∨ (r = -9 ∧ ∀ j, j < rC (tfE I L p 4 (codeF I w)) → ¬ whomF I (digF (rK (tfE I L p 4 (codeF I w)) j)) t = p)) ∧ Fr FT S S' ∧ (∃ R, StX R S') ∧ S'.1 74 9 = nI 0)) 8 [(4, .int (nI i)), (0, .ref 82), (1, .ref 35), (2, .int (nI p)), (3, .int (nI t))] [] S1 := by
  intro i S1
  induction hm : 8525 - i using Nat.strongRecOn generalizing i S1 with
  | _ mm ih =>
    intro hi hE hn
    have hO1 := hO.1
    have hO2 := hO.2.1
    have hO3 := hO.2.2.1
    have hO4 := hO.2.2.2.1
    have hw := hv.ok hO
    have hw7 := hw.w7 hO
    have h0 := hv.okc hO
    obtain ⟨x1, x2, x3, x4⟩ := id hE
    have hI1 : IsX 11 I S1 := hI.keep (fun a h1 h2 b => x1.2 a (by unfold FT; omega) b)
    have hti := tfs_inv (M := 4) hO hpp h0 i
    have hrc := x2.2.1
    have hxi := x2.2.2.1 i
    have hoki := hti.2.2.1 i
    have hdl := hti.dle i
    have hpe := tfE_pre (I := I) (L := L) (p := p) (M := 4) (c0 := codeF I w) (i := i)
    refine x_iload 0 dX8_fewestFor_8 rfl ?_
    refine x_sipush (v := nI 8525) dX8_fewestFor_10 (by decide +kernel) ?_
    refine y_ic_ge 95 dX8_fewestFor_13 (by decide) (by omega) (by omega) (fun c_13 => ?_) (fun c_13 => ?_)
    · refine x_bipush (v := -9) dX8_fewestFor_95 (by decide) ?_
      refine x_iret rfl dX8_fewestFor_97 ⟨_, rfl, Or.inr ⟨rfl, fun j hj => hn j (by have e := tfE_stop (I := I) (L := L) (p := p) (M := 4) (c0 := codeF I w) (i := i) (by omega) (fun j h1 h2 => by omega); rw [e] at hj; omega)⟩, x1, ⟨_, x2⟩, x4⟩
    · refine x_iload 0 dX8_fewestFor_16 rfl ?_
      refine x_aload_n 1 dX8_fewestFor_18 rfl rfl ?_
      refine x_getR fX8_15 dX8_fewestFor_19 l82 rfl ?_
      refine y_getI fX8_36 dX8_fewestFor_22 l68 rfl x2.1 ?_
      refine y_ic_ge 95 dX8_fewestFor_25 (by decide) (by omega) (by omega) (fun c_25 => ?_) (fun c_25 => ?_)
      · refine x_bipush (v := -9) dX8_fewestFor_95 (by decide) ?_
        refine x_iret rfl dX8_fewestFor_97 ⟨_, rfl, Or.inr ⟨rfl, fun j hj => hn j (by have e := tfE_stop (I := I) (L := L) (p := p) (M := 4) (c0 := codeF I w) (i := i) (by omega) (fun j h1 h2 => by omega); rw [e] at hj; omega)⟩, x1, ⟨_, x2⟩, x4⟩
      · refine x_aload_n 1 dX8_fewestFor_28 rfl rfl ?_
        refine x_getR fX8_28 dX8_fewestFor_29 l82 rfl ?_
        refine x_aload_n 1 dX8_fewestFor_32 rfl rfl ?_
        refine x_getR fX8_15 dX8_fewestFor_33 l82 rfl ?_
        refine x_getR fX8_42 dX8_fewestFor_36 l68 rfl ?_
        refine x_iload 0 dX8_fewestFor_39 rfl ?_
        refine y_iald dX8_fewestFor_41 l69 (by omega) (by decide) (hxi (by omega)).1 ?_
        refine x_callVqv (as := [_]) (rest := []) vX8_46 (c_X3_decode (Or.inr (Or.inr (Or.inr (Or.inr rfl)))) hI1 hO ((hoki (by omega)).lt hO) ((hoki (by omega)).2.ok hO)) dX8_fewestFor_42 l55 rfl rfl rfl (Nat.le_of_ble_eq_true rfl) (Nat.le_of_ble_eq_true rfl) (Nat.le_of_ble_eq_true rfl) (fun S_42 q_42 => ?_)
        have hI2 : IsX 11 I S_42 := hI1.keep (fun a h1 h2 b => q_42.1.2 a (by omega) b)
        have y1 : Fr FT S S_42 := x1.trans (q_42.1.wider (fun a h => by unfold FT; omega))
        have y2 : StX (tfs I L p 4 (codeF I w) i) S_42 := x2.fr (fun a h1 h2 b => q_42.1.2 a (by omega) b)
        have y3 : S_42.1 55 5 = nI L := (q_42.1.2 55 (by omega) 5).trans x3
        have y4 : S_42.1 74 9 = nI 0 := (q_42.1.2 74 (by omega) 9).trans x4
        have hok := hoki (by omega)
        have hwk := hok.2.ok hO
        refine x_aload_n 1 dX8_fewestFor_45 rfl rfl ?_
        refine x_getR fX8_28 dX8_fewestFor_46 l82 rfl ?_
        refine x_iload_n 4 dX8_fewestFor_49 rfl rfl ?_
        refine x_callVu (as := [_]) (rest := []) vX8_50 (c_X3_whom (Or.inr (Or.inr (Or.inr (Or.inr rfl)))) hI2 hO q_42.2.1 hwk ht) dX8_fewestFor_50 l55 rfl rfl rfl (Nat.le_of_ble_eq_true rfl) (Nat.le_of_ble_eq_true rfl) (Nat.le_of_ble_eq_true rfl) ?_
        have hwh := whomF_le hwk ht
        have hpi := (hpe (by omega)).2 i (by omega)
        refine x_iload_n 3 dX8_fewestFor_53 rfl rfl ?_
        refine y_ic_ne 68 dX8_fewestFor_54 (by decide) (by omega) (by omega) (fun c_54 => ?_) (fun c_54 => ?_)
        · have hnw : ¬ whomF I (digF (rK (tfE I L p 4 (codeF I w)) i)) t = p := by rw [hpi.1]; exact c_54
          have hdl2 := hdl (by omega)
          refine x_aload_n 1 dX8_fewestFor_68 rfl rfl ?_
          refine x_getR fX8_15 dX8_fewestFor_69 l82 rfl ?_
          refine x_getR fX8_54 dX8_fewestFor_72 l68 rfl ?_
          refine x_iload 0 dX8_fewestFor_75 rfl ?_
          refine y_iald dX8_fewestFor_77 l72 (by omega) (by decide) ((q_42.1.2 72 (by omega) i).trans (hxi (by omega)).2.2.2.1) ?_
          refine x_iconst (v := nI 4) dX8_fewestFor_78 (by decide) ?_
          refine y_ic_ge 89 dX8_fewestFor_79 (by decide) (by omega) (by omega) (fun c_79 => ?_) (fun c_79 => ?_)
          · refine y_iinc (lv' := [(4, _), (0, _), (1, _), (2, _), (3, _)]) 0 dX8_fewestFor_89 rfl (by decide) rfl ?_
            refine x_goto 8 dX8_fewestFor_92 (by decide) ?_
            refine x_pick (lv' := [(4, _), (0, _), (1, _), (2, _), (3, _)]) [0, 1, 2, 3, 4] rfl ?_
            refine ih (8525 - (i + 1)) (by omega) (i + 1) S_42 rfl (by omega) ⟨y1, ?_, y3, y4⟩ (fun j hj => by rcases Nat.lt_succ_iff_lt_or_eq.mp hj with h | h; exact hn j h; subst h; exact hnw)
            rw [tfs_f (fun q => by omega)]; exact y2
          · refine x_aload_n 1 dX8_fewestFor_82 rfl rfl ?_
            refine x_iload 0 dX8_fewestFor_83 rfl ?_
            refine x_iload_n 3 dX8_fewestFor_85 rfl rfl ?_
            refine x_callVqv (as := [_, _]) (rest := []) vX8_57 (c_X8_expand hI2 hO y3 hL7 hpp (by omega) hok (by
                have h1 := tfs_inv (M := 4) hO hpp h0 (i + 1)
                have h2 := h1.cnt
                rw [tfs_t (by omega) (by omega)] at h2
                omega) q_42.2 y2) dX8_fewestFor_86 l82 rfl rfl rfl (Nat.le_of_ble_eq_true rfl) (Nat.le_of_ble_eq_true rfl) (Nat.le_of_ble_eq_true rfl) (fun S_86 q_86 => ?_)
            
            refine y_iinc (lv' := [(4, _), (0, _), (1, _), (2, _), (3, _)]) 0 dX8_fewestFor_89 rfl (by decide) rfl ?_
            refine x_goto 8 dX8_fewestFor_92 (by decide) ?_
            refine x_pick (lv' := [(4, _), (0, _), (1, _), (2, _), (3, _)]) [0, 1, 2, 3, 4] rfl ?_
            refine ih (8525 - (i + 1)) (by omega) (i + 1) S_86 rfl (by omega) ⟨y1.trans (q_86.1.wider (fun a h => by unfold FT; omega)), ?_, (q_86.1.2 55 (by omega) 5).trans y3, (q_86.1.2 74 (by omega) 9).trans y4⟩ (fun j hj => by rcases Nat.lt_succ_iff_lt_or_eq.mp hj with h | h; exact hn j h; subst h; exact hnw)
            rw [tfs_t (by omega) (by omega)]; exact q_86.2
        · refine x_aload_n 1 dX8_fewestFor_57 rfl rfl ?_
          refine x_getR fX8_15 dX8_fewestFor_58 l82 rfl ?_
          refine x_getR fX8_54 dX8_fewestFor_61 l68 rfl ?_
          refine x_iload 0 dX8_fewestFor_64 rfl ?_
          refine y_iald dX8_fewestFor_66 l72 (by omega) (by decide) ((q_42.1.2 72 (by omega) i).trans (hxi (by omega)).2.2.2.1) ?_
          refine x_iret rfl dX8_fewestFor_67 ⟨_, rfl, Or.inl ⟨i, Nat.lt_of_lt_of_le (by omega) (hpe (by omega)).1, by rw [hpi.1]; exact c_54, hn, by rw [hpi.2.2.2]⟩, y1, ⟨_, y2⟩, y4⟩

set_option maxHeartbeats 4000000 in
set_option maxRecDepth 100000 in
theorem c_X8_fewestFor {S : St} {I : Isl} (hI : IsX 11 I S) (hO : IOK I) {w : Nat → Nat} (hP : PlT 35 I w S) {L : Nat} (hL : S.1 35 5 = nI L) (hL7 : L ≤ 6) (hv : VS I w L) (hcnt : cb (fun c => dec (OKc I L c)) (7 ^ iM I) ≤ 8525) {p : Nat} (hpp : p < iP I) {t : Nat} (ht : t < iM I) {R : Rs} (hR : StX R S) : C 5 150 yX8_fewestFor mX8_fewestFor [.ref 82, .ref 35, .int (nI p), .int (nI t)] S (qi (fun r S' => ((∃ i, i < rC (tfE I L p 4 (codeF I w)) ∧ whomF I (digF (rK (tfE I L p 4 (codeF I w)) i)) t = p ∧ (∀ j, j < i → ¬ whomF I (digF (rK (tfE I L p 4 (codeF I w)) j)) t = p) ∧ r = nI (rD (tfE I L p 4 (codeF I w)) i)) ∨ (r = -9 ∧ ∀ j, j < rC (tfE I L p 4 (codeF I w)) → ¬ whomF I (digF (rK (tfE I L p 4 (codeF I w)) j)) t = p)) ∧ Fr FT S S' ∧ (∃ R, StX R S') ∧ S'.1 74 9 = nI 0)) := by
  refine C.ofX (by decide) rfl (Nat.le_of_ble_eq_true rfl) ?_
  show X 5 150 mX8_fewestFor (qi (fun r S' => ((∃ i, i < rC (tfE I L p 4 (codeF I w)) ∧ whomF I (digF (rK (tfE I L p 4 (codeF I w)) i)) t = p ∧ (∀ j, j < i → ¬ whomF I (digF (rK (tfE I L p 4 (codeF I w)) j)) t = p) ∧ r = nI (rD (tfE I L p 4 (codeF I w)) i)) ∨ (r = -9 ∧ ∀ j, j < rC (tfE I L p 4 (codeF I w)) → ¬ whomF I (digF (rK (tfE I L p 4 (codeF I w)) j)) t = p)) ∧ Fr FT S S' ∧ (∃ R, StX R S') ∧ S'.1 74 9 = nI 0)) 0 [(0, .ref 82), (1, .ref 35), (2, .int (nI p)), (3, .int (nI t))] [] S
  refine x_aload_n 0 dX8_fewestFor_0 rfl rfl ?_
  refine x_aload_n 1 dX8_fewestFor_1 rfl rfl ?_
  refine x_callVqv (as := [_]) (rest := []) vX8_32 (c_X8_begin hI hO hP hL hL7 hv hR) dX8_fewestFor_2 l82 rfl rfl rfl (Nat.le_of_ble_eq_true rfl) (Nat.le_of_ble_eq_true rfl) (Nat.le_of_ble_eq_true rfl) (fun S_2 q_2 => ?_)
  refine x_iconst (v := nI 0) dX8_fewestFor_5 (by decide) ?_
  refine x_istore (lv' := [(4, _), (0, _), (1, _), (2, _), (3, _)]) dX8_fewestFor_6 (by decide) rfl ?_
  refine x_pick (lv' := [(4, _), (0, _), (1, _), (2, _), (3, _)]) [0, 1, 2, 3, 4] rfl ?_
  exact lp_ff hI hO hP hL hL7 hv hcnt hpp ht 0 S_2 (Nat.zero_le _) ⟨q_2.1.wider (fun a h => by unfold FT; omega), q_2.2.1, q_2.2.2.1, q_2.2.2.2⟩ (fun j hj => absurd hj (Nat.not_lt_zero j))

theorem c_heldT {S : St} {I : Isl} {w : Nat → Nat} (hI : IsX 11 I S) (hO : IOK I) (hP : PlT 55 I w S) {p : Nat} (hp : p ≤ 4) : C 0 0 yX3_heldBy mX3_heldBy [.ref 55, .int (nI p)] S (pu (.int (nI (heldF I w p))) S) := by
  have h := c_X3_heldBy (Or.inr (Or.inr (Or.inr (Or.inr rfl)))) hI hO hP (p := p) (by omega)
  rw [if_pos hp] at h
  exact h

set_option maxHeartbeats 4000000 in
set_option maxRecDepth 100000 in
theorem lp_wi {S : St} {I : Isl} (hI : IsX 11 I S) (hO : IOK I) {w : Nat → Nat} (hP : PlT 35 I w S) {L : Nat} (hL : S.1 35 5 = nI L) (hL7 : L ≤ 6) (hv : VS I w L) (hcnt : cb (fun c => dec (OKc I L c)) (7 ^ iM I) ≤ 8525) {p : Nat} (hpp : p < iP I) {M : Nat} (hM : M ≤ 4)  : ∀ (i : Nat) (S1 : St), (i ≤ 8525) → (i ≤ rC (tfE I L p M (codeF I w))) → (Fr FT S S1 ∧ StX (tfs I L p M (codeF I w) i) S1 ∧ S1.1 55 5 = nI L ∧ S1.1 74 9 = nI 0) → X 5 150 mX8_within (qi (fun r S' => r = nI (oo (fun j => heldF I (digF (rK (tfE I L p M (codeF I w)) j)) p) (rC (tfE I L p M (codeF I w)))) ∧ Fr FT S S' ∧ (∃ R, StX R S') ∧ S'.1 74 9 = nI 0)) 11 [(5, .int (nI i)), (4, .int (nI ((oo (fun j => heldF I (digF (rK (tfE I L p M (codeF I w)) j)) p) i)))), (0, .ref 82), (1, .ref 35), (2, .int (nI p)), (3, .int (nI M))] [] S1 := by
  intro i S1
  induction hm : 8525 - i using Nat.strongRecOn generalizing i S1 with
  | _ mm ih =>
    intro hi hie hE
    have hO1 := hO.1
    have hO2 := hO.2.1
    have hO3 := hO.2.2.1
    have hO4 := hO.2.2.2.1
    have hw := hv.ok hO
    have hw7 := hw.w7 hO
    have h0 := hv.okc hO
    obtain ⟨x1, x2, x3, x4⟩ := id hE
    have hI1 : IsX 11 I S1 := hI.keep (fun a h1 h2 b => x1.2 a (by unfold FT; omega) b)
    have hti := tfs_inv (M := M) hO hpp h0 i
    have hrc := x2.2.1
    have hxi := x2.2.2.1 i
    have hoki := hti.2.2.1 i
    have hdl := hti.dle i
    have hpe := tfE_pre (I := I) (L := L) (p := p) (M := M) (c0 := codeF I w) (i := i)
    refine x_iload 0 dX8_within_11 rfl ?_
    refine x_sipush (v := nI 8525) dX8_within_13 (by decide +kernel) ?_
    refine y_ic_ge 88 dX8_within_16 (by decide) (by omega) (by omega) (fun c_16 => ?_) (fun c_16 => ?_)
    · refine x_iload 1 dX8_within_88 rfl ?_
      refine x_iret rfl dX8_within_90 (by
        have e := tfE_stop (I := I) (L := L) (p := p) (M := M) (c0 := codeF I w) (i := i) (by omega) (fun j h1 h2 => by omega)
        have e2 : rC (tfE I L p M (codeF I w)) ≤ i := by rw [e]; omega
        have e3 : i ≤ rC (tfE I L p M (codeF I w)) := hie
        exact ⟨_, rfl, by rw [show i = rC (tfE I L p M (codeF I w)) by omega], x1, ⟨_, x2⟩, x4⟩)
    · refine x_iload 0 dX8_within_19 rfl ?_
      refine x_aload_n 2 dX8_within_21 rfl rfl ?_
      refine x_getR fX8_15 dX8_within_22 l82 rfl ?_
      refine y_getI fX8_36 dX8_within_25 l68 rfl x2.1 ?_
      refine y_ic_ge 88 dX8_within_28 (by decide) (by omega) (by omega) (fun c_28 => ?_) (fun c_28 => ?_)
      · refine x_iload 1 dX8_within_88 rfl ?_
        refine x_iret rfl dX8_within_90 (by
          have e := tfE_stop (I := I) (L := L) (p := p) (M := M) (c0 := codeF I w) (i := i) (by omega) (fun j h1 h2 => by omega)
          have e2 : rC (tfE I L p M (codeF I w)) ≤ i := by rw [e]; omega
          have e3 : i ≤ rC (tfE I L p M (codeF I w)) := hie
          exact ⟨_, rfl, by rw [show i = rC (tfE I L p M (codeF I w)) by omega], x1, ⟨_, x2⟩, x4⟩)
      · refine x_aload_n 2 dX8_within_31 rfl rfl ?_
        refine x_getR fX8_28 dX8_within_32 l82 rfl ?_
        refine x_aload_n 2 dX8_within_35 rfl rfl ?_
        refine x_getR fX8_15 dX8_within_36 l82 rfl ?_
        refine x_getR fX8_42 dX8_within_39 l68 rfl ?_
        refine x_iload 0 dX8_within_42 rfl ?_
        refine y_iald dX8_within_44 l69 (by omega) (by decide) (hxi (by omega)).1 ?_
        refine x_callVqv (as := [_]) (rest := []) vX8_46 (c_X3_decode (Or.inr (Or.inr (Or.inr (Or.inr rfl)))) hI1 hO ((hoki (by omega)).lt hO) ((hoki (by omega)).2.ok hO)) dX8_within_45 l55 rfl rfl rfl (Nat.le_of_ble_eq_true rfl) (Nat.le_of_ble_eq_true rfl) (Nat.le_of_ble_eq_true rfl) (fun S_45 q_45 => ?_)
        have hI2 : IsX 11 I S_45 := hI1.keep (fun a h1 h2 b => q_45.1.2 a (by omega) b)
        have y1 : Fr FT S S_45 := x1.trans (q_45.1.wider (fun a h => by unfold FT; omega))
        have y2 : StX (tfs I L p M (codeF I w) i) S_45 := x2.fr (fun a h1 h2 b => q_45.1.2 a (by omega) b)
        have y3 : S_45.1 55 5 = nI L := (q_45.1.2 55 (by omega) 5).trans x3
        have y4 : S_45.1 74 9 = nI 0 := (q_45.1.2 74 (by omega) 9).trans x4
        have hok := hoki (by omega)
        have hwk := hok.2.ok hO
        refine x_iload 1 dX8_within_48 rfl ?_
        refine x_aload_n 2 dX8_within_50 rfl rfl ?_
        refine x_getR fX8_28 dX8_within_51 l82 rfl ?_
        refine x_iload_n 4 dX8_within_54 rfl rfl ?_
        refine x_callVu (as := [_]) (rest := [_]) vX8_61 (c_heldT hI2 hO q_45.2 (p := p) (by omega)) dX8_within_55 l55 rfl rfl rfl (Nat.le_of_ble_eq_true rfl) (Nat.le_of_ble_eq_true rfl) (Nat.le_of_ble_eq_true rfl) ?_
        refine y_ior dX8_within_58 ?_
        refine x_istore (lv' := [(4, _), (5, _), (0, _), (1, _), (2, _), (3, _)]) dX8_within_59 (by decide) rfl ?_
        have hpi := (hpe (by omega)).2 i (by omega)
        have hdl2 := hdl (by omega)
        rw [show ((4, Value.int (nI (((oo (fun j => heldF I (digF (rK (tfE I L p M (codeF I w)) j)) p) i) ||| (heldF I (digF (rK (tfs I L p M (codeF I w) i) i)) p))))) : Nat × Value) = (4, Value.int (nI (oo (fun j => heldF I (digF (rK (tfE I L p M (codeF I w)) j)) p) (i + 1)))) from by rw [oo_s, hpi.1]]
        refine x_aload_n 2 dX8_within_61 rfl rfl ?_
        refine x_getR fX8_15 dX8_within_62 l82 rfl ?_
        refine x_getR fX8_54 dX8_within_65 l68 rfl ?_
        refine x_iload 1 dX8_within_68 rfl ?_
        refine y_iald dX8_within_70 l72 (by omega) (by decide) ((q_45.1.2 72 (by omega) i).trans (hxi (by omega)).2.2.2.1) ?_
        refine x_iload_n 5 dX8_within_71 rfl rfl ?_
        refine y_ic_ge 82 dX8_within_72 (by decide) (by omega) (by omega) (fun c_72 => ?_) (fun c_72 => ?_)
        · refine y_iinc (lv' := [(5, _), (4, _), (0, _), (1, _), (2, _), (3, _)]) 1 dX8_within_82 rfl (by decide) rfl ?_
          refine x_goto 11 dX8_within_85 (by decide) ?_
          refine x_pick (lv' := [(5, _), (4, _), (0, _), (1, _), (2, _), (3, _)]) [0, 1, 2, 3, 4, 5] rfl ?_
          refine ih (8525 - (i + 1)) (by omega) (i + 1) S_45 rfl (by omega) (by have := (hpe (by omega)).1; omega) ⟨y1, ?_, y3, y4⟩
          rw [tfs_f (fun q => by omega)]; exact y2
        · refine x_aload_n 2 dX8_within_75 rfl rfl ?_
          refine x_iload 1 dX8_within_76 rfl ?_
          refine x_iload_n 4 dX8_within_78 rfl rfl ?_
          refine x_callVqv (as := [_, _]) (rest := []) vX8_57 (c_X8_expand hI2 hO y3 hL7 hpp (by omega) hok (by
              have h1 := tfs_inv (M := M) hO hpp h0 (i + 1)
              have h2 := h1.cnt
              rw [tfs_t (by omega) (by omega)] at h2
              omega) q_45.2 y2) dX8_within_79 l82 rfl rfl rfl (Nat.le_of_ble_eq_true rfl) (Nat.le_of_ble_eq_true rfl) (Nat.le_of_ble_eq_true rfl) (fun S_79 q_79 => ?_)
          
          refine y_iinc (lv' := [(5, _), (4, _), (0, _), (1, _), (2, _), (3, _)]) 1 dX8_within_82 rfl (by decide) rfl ?_
          refine x_goto 11 dX8_within_85 (by decide) ?_
          refine x_pick (lv' := [(5, _), (4, _), (0, _), (1, _), (2, _), (3, _)]) [0, 1, 2, 3, 4, 5] rfl ?_
          refine ih (8525 - (i + 1)) (by omega) (i + 1) S_79 rfl (by omega) (by have := (hpe (by omega)).1; omega) ⟨y1.trans (q_79.1.wider (fun a h => by unfold FT; omega)), ?_, (q_79.1.2 55 (by omega) 5).trans y3, (q_79.1.2 74 (by omega) 9).trans y4⟩
          rw [tfs_t (by omega) (by omega)]; exact q_79.2

set_option maxHeartbeats 4000000 in
set_option maxRecDepth 100000 in
theorem c_X8_within {S : St} {I : Isl} (hI : IsX 11 I S) (hO : IOK I) {w : Nat → Nat} (hP : PlT 35 I w S) {L : Nat} (hL : S.1 35 5 = nI L) (hL7 : L ≤ 6) (hv : VS I w L) (hcnt : cb (fun c => dec (OKc I L c)) (7 ^ iM I) ≤ 8525) {p : Nat} (hpp : p < iP I) {M : Nat} (hM : M ≤ 4) {R : Rs} (hR : StX R S) : C 5 150 yX8_within mX8_within [.ref 82, .ref 35, .int (nI p), .int (nI M)] S (qi (fun r S' => r = nI (oo (fun j => heldF I (digF (rK (tfE I L p M (codeF I w)) j)) p) (rC (tfE I L p M (codeF I w)))) ∧ Fr FT S S' ∧ (∃ R, StX R S') ∧ S'.1 74 9 = nI 0)) := by
  refine C.ofX (by decide) rfl (Nat.le_of_ble_eq_true rfl) ?_
  show X 5 150 mX8_within (qi (fun r S' => r = nI (oo (fun j => heldF I (digF (rK (tfE I L p M (codeF I w)) j)) p) (rC (tfE I L p M (codeF I w)))) ∧ Fr FT S S' ∧ (∃ R, StX R S') ∧ S'.1 74 9 = nI 0)) 0 [(0, .ref 82), (1, .ref 35), (2, .int (nI p)), (3, .int (nI M))] [] S
  refine x_iconst (v := nI 0) dX8_within_0 (by decide) ?_
  refine x_istore (lv' := [(4, _), (0, _), (1, _), (2, _), (3, _)]) dX8_within_1 (by decide) rfl ?_
  refine x_aload_n 1 dX8_within_3 rfl rfl ?_
  refine x_aload_n 2 dX8_within_4 rfl rfl ?_
  refine x_callVqv (as := [_]) (rest := []) vX8_32 (c_X8_begin hI hO hP hL hL7 hv hR) dX8_within_5 l82 rfl rfl rfl (Nat.le_of_ble_eq_true rfl) (Nat.le_of_ble_eq_true rfl) (Nat.le_of_ble_eq_true rfl) (fun S_5 q_5 => ?_)
  refine x_iconst (v := nI 0) dX8_within_8 (by decide) ?_
  refine x_istore (lv' := [(5, _), (4, _), (0, _), (1, _), (2, _), (3, _)]) dX8_within_9 (by decide) rfl ?_
  refine x_pick (lv' := [(5, _), (4, _), (0, _), (1, _), (2, _), (3, _)]) [0, 1, 2, 3, 4, 5] rfl ?_
  exact lp_wi hI hO hP hL hL7 hv hcnt hpp hM 0 S_5 (Nat.zero_le _) (Nat.zero_le _) ⟨q_5.1.wider (fun a h => by unfold FT; omega), q_5.2.1, q_5.2.2.1, q_5.2.2.2⟩

set_option maxHeartbeats 4000000 in
set_option maxRecDepth 100000 in
theorem c_X10_theft {S : St} {I : Isl} (hI : IsX 11 I S) (hO : IOK I) {w : Nat → Nat} (hP : PlT 35 I w S) {L : Nat} (hL : S.1 35 5 = nI L) (hL7 : L ≤ 6) (hv : VS I w L) (hcnt : cb (fun c => dec (OKc I L c)) (7 ^ iM I) ≤ 8525) {R : Rs} (hR : StX R S) {x y : Int32} : C 6 180 yX10_theft mX10_theft [.ref 0, .int x, .int y] S (qi (i2 (¬ ((0 ≤ x.toInt ∧ x.toInt < (iP I : Int)) ∧ 0 ≤ y.toInt ∧ y.toInt < (iM I : Int))) (an (-1) S) (fun r S' => ((∃ i, i < rC (tfE I L (tn x) 4 (codeF I w)) ∧ whomF I (digF (rK (tfE I L (tn x) 4 (codeF I w)) i)) (tn y) = tn x ∧ (∀ j, j < i → ¬ whomF I (digF (rK (tfE I L (tn x) 4 (codeF I w)) j)) (tn y) = tn x) ∧ r = nI (rD (tfE I L (tn x) 4 (codeF I w)) i)) ∨ (r = -9 ∧ ∀ j, j < rC (tfE I L (tn x) 4 (codeF I w)) → ¬ whomF I (digF (rK (tfE I L (tn x) 4 (codeF I w)) j)) (tn y) = tn x)) ∧ Fr FT S S' ∧ (∃ R, StX R S') ∧ S'.1 74 9 = nI 0))) := by
  have n0 : (nI 0).toInt = 0 := rfl
  have n1 : (nI 1).toInt = 1 := rfl
  have n3 : (nI 3).toInt = 3 := rfl
  have n5 : (nI 5).toInt = 5 := rfl
  have n7 : (nI 7).toInt = 7 := rfl
  have n2 : (nI 2).toInt = 2 := rfl
  have n6 : (nI 6).toInt = 6 := rfl
  have hO1 := hO.1
  have hO2 := hO.2.1
  have hO3 := hO.2.2.1
  have hO4 := hO.2.2.2.1
  refine C.ofX (by decide) rfl (Nat.le_of_ble_eq_true rfl) ?_
  show X 6 180 mX10_theft (qi (i2 (¬ ((0 ≤ x.toInt ∧ x.toInt < (iP I : Int)) ∧ 0 ≤ y.toInt ∧ y.toInt < (iM I : Int))) (an (-1) S) (fun r S' => ((∃ i, i < rC (tfE I L (tn x) 4 (codeF I w)) ∧ whomF I (digF (rK (tfE I L (tn x) 4 (codeF I w)) i)) (tn y) = tn x ∧ (∀ j, j < i → ¬ whomF I (digF (rK (tfE I L (tn x) 4 (codeF I w)) j)) (tn y) = tn x) ∧ r = nI (rD (tfE I L (tn x) 4 (codeF I w)) i)) ∨ (r = -9 ∧ ∀ j, j < rC (tfE I L (tn x) 4 (codeF I w)) → ¬ whomF I (digF (rK (tfE I L (tn x) 4 (codeF I w)) j)) (tn y) = tn x)) ∧ Fr FT S S' ∧ (∃ R, StX R S') ∧ S'.1 74 9 = nI 0))) 0 [(0, .ref 0), (1, .int x), (2, .int y)] [] S
  refine x_aload_n 0 dX10_theft_0 rfl rfl ?_
  refine x_getR fX10_40 dX10_theft_1 l0 rfl ?_
  refine x_iload_n 1 dX10_theft_4 rfl rfl ?_
  refine x_callVb (as := [_]) (rest := []) vX10_224 (c_X1_isPerson (Or.inl rfl) hI hO) dX10_theft_5 l11 rfl rfl rfl (Nat.le_of_ble_eq_true rfl) (Nat.le_of_ble_eq_true rfl) (Nat.le_of_ble_eq_true rfl) (fun c_5 => ?_) (fun c_5 => ?_)
  · refine u_if_eq 22 dX10_theft_8 (by decide) (by decide) ?_
    refine x_aload_n 0 dX10_theft_11 rfl rfl ?_
    refine x_getR fX10_40 dX10_theft_12 l0 rfl ?_
    refine x_iload_n 2 dX10_theft_15 rfl rfl ?_
    refine x_callVb (as := [_]) (rest := []) vX10_176 (c_X1_isThing (Or.inl rfl) hI hO) dX10_theft_16 l11 rfl rfl rfl (Nat.le_of_ble_eq_true rfl) (Nat.le_of_ble_eq_true rfl) (Nat.le_of_ble_eq_true rfl) (fun c_16 => ?_) (fun c_16 => ?_)
    · refine t_if_ne 24 dX10_theft_19 (by decide) (by decide) ?_
      obtain ⟨a, ha, rfl⟩ := nI_ex (x := x) (n := iP I) (by omega) (by omega)
      have ea : (nI a).toInt = (a : Int) := tiN (by omega)
      have ta : tn (nI a) = a := tnN (by omega)
      obtain ⟨b, hb, rfl⟩ := nI_ex (x := y) (n := iM I) (by omega) (by omega)
      have eb : (nI b).toInt = (b : Int) := tiN (by omega)
      have tb : tn (nI b) = b := tnN (by omega)
      refine x_aload_n 0 dX10_theft_24 rfl rfl ?_
      refine x_getR fX10_101 dX10_theft_25 l0 rfl ?_
      refine x_aload_n 0 dX10_theft_28 rfl rfl ?_
      refine x_getR fX10_49 dX10_theft_29 l0 rfl ?_
      refine x_iload_n 1 dX10_theft_32 rfl rfl ?_
      refine x_iload_n 2 dX10_theft_33 rfl rfl ?_
      refine x_callVqi (as := [_, _, _]) (rest := []) vX10_337 (c_X8_fewestFor hI hO hP hL hL7 hv hcnt ha hb hR) dX10_theft_34 l82 rfl rfl rfl (Nat.le_of_ble_eq_true rfl) (Nat.le_of_ble_eq_true rfl) (Nat.le_of_ble_eq_true rfl) (fun r_34 S_34 q_34 => ?_)
      refine x_iret rfl dX10_theft_37 (by simp only [ta, tb]; exact q2_1 (fun h => h ⟨by omega, by omega⟩) q_34)
    · refine u_if_ne 24 dX10_theft_19 (by decide) (by decide) ?_
      refine x_iconst (v := -1) dX10_theft_22 (by decide) ?_
      refine x_iret rfl dX10_theft_23 (q2_0 (fun h => by first | exact c_5 h.1 | exact c_16 h.2) ⟨rfl, rfl⟩)
  · refine t_if_eq 22 dX10_theft_8 (by decide) (by decide) ?_
    refine x_iconst (v := -1) dX10_theft_22 (by decide) ?_
    refine x_iret rfl dX10_theft_23 (q2_0 (fun h => by first | exact c_5 h.1 | exact c_16 h.2) ⟨rfl, rfl⟩)

set_option maxHeartbeats 4000000 in
set_option maxRecDepth 100000 in
theorem c_X10_thefts {S : St} {I : Isl} (hI : IsX 11 I S) (hO : IOK I) {w : Nat → Nat} (hP : PlT 35 I w S) {L : Nat} (hL : S.1 35 5 = nI L) (hL7 : L ≤ 6) (hv : VS I w L) (hcnt : cb (fun c => dec (OKc I L c)) (7 ^ iM I) ≤ 8525) {R : Rs} (hR : StX R S) {x y : Int32} : C 6 180 yX10_thefts mX10_thefts [.ref 0, .int x, .int y] S (qi (i2 (¬ ((0 ≤ x.toInt ∧ x.toInt < (iP I : Int)) ∧ 0 ≤ y.toInt ∧ y.toInt ≤ 3)) (an (-1) S) (fun r S' => r = nI (oo (fun j => heldF I (digF (rK (tfE I L (tn x) (tn y) (codeF I w)) j)) (tn x)) (rC (tfE I L (tn x) (tn y) (codeF I w)))) ∧ Fr FT S S' ∧ (∃ R, StX R S') ∧ S'.1 74 9 = nI 0))) := by
  have n0 : (nI 0).toInt = 0 := rfl
  have n1 : (nI 1).toInt = 1 := rfl
  have n3 : (nI 3).toInt = 3 := rfl
  have n5 : (nI 5).toInt = 5 := rfl
  have n7 : (nI 7).toInt = 7 := rfl
  have n2 : (nI 2).toInt = 2 := rfl
  have n6 : (nI 6).toInt = 6 := rfl
  have hO1 := hO.1
  have hO2 := hO.2.1
  have hO3 := hO.2.2.1
  have hO4 := hO.2.2.2.1
  refine C.ofX (by decide) rfl (Nat.le_of_ble_eq_true rfl) ?_
  show X 6 180 mX10_thefts (qi (i2 (¬ ((0 ≤ x.toInt ∧ x.toInt < (iP I : Int)) ∧ 0 ≤ y.toInt ∧ y.toInt ≤ 3)) (an (-1) S) (fun r S' => r = nI (oo (fun j => heldF I (digF (rK (tfE I L (tn x) (tn y) (codeF I w)) j)) (tn x)) (rC (tfE I L (tn x) (tn y) (codeF I w)))) ∧ Fr FT S S' ∧ (∃ R, StX R S') ∧ S'.1 74 9 = nI 0))) 0 [(0, .ref 0), (1, .int x), (2, .int y)] [] S
  refine x_aload_n 0 dX10_thefts_0 rfl rfl ?_
  refine x_getR fX10_40 dX10_thefts_1 l0 rfl ?_
  refine x_iload_n 1 dX10_thefts_4 rfl rfl ?_
  refine x_callVb (as := [_]) (rest := []) vX10_224 (c_X1_isPerson (Or.inl rfl) hI hO) dX10_thefts_5 l11 rfl rfl rfl (Nat.le_of_ble_eq_true rfl) (Nat.le_of_ble_eq_true rfl) (Nat.le_of_ble_eq_true rfl) (fun c_5 => ?_) (fun c_5 => ?_)
  · refine u_if_eq 20 dX10_thefts_8 (by decide) (by decide) ?_
    refine x_iload_n 2 dX10_thefts_11 rfl rfl ?_
    refine x_if_lt 20 dX10_thefts_12 (by decide) (fun c_12 => ?_) (fun c_12 => ?_)
    · refine x_iconst (v := -1) dX10_thefts_20 (by decide) ?_
      refine x_iret rfl dX10_thefts_21 (q2_0 (fun h => by first | exact c_5 h.1 | omega) ⟨rfl, rfl⟩)
    · refine x_iload_n 2 dX10_thefts_15 rfl rfl ?_
      refine x_iconst (v := nI 3) dX10_thefts_16 (by decide) ?_
      refine z_ic_le 22 dX10_thefts_17 (by decide) (by omega) (fun c_17 => ?_) (fun c_17 => ?_)
      · obtain ⟨a, ha, rfl⟩ := nI_ex (x := x) (n := iP I) (by omega) (by omega)
        have ea : (nI a).toInt = (a : Int) := tiN (by omega)
        have ta : tn (nI a) = a := tnN (by omega)
        obtain ⟨b, hb, rfl⟩ := nI_ex (x := y) (n := 4) (by omega) (by omega)
        have eb : (nI b).toInt = (b : Int) := tiN (by omega)
        have tb : tn (nI b) = b := tnN (by omega)
        refine x_aload_n 0 dX10_thefts_22 rfl rfl ?_
        refine x_getR fX10_101 dX10_thefts_23 l0 rfl ?_
        refine x_aload_n 0 dX10_thefts_26 rfl rfl ?_
        refine x_getR fX10_49 dX10_thefts_27 l0 rfl ?_
        refine x_iload_n 1 dX10_thefts_30 rfl rfl ?_
        refine x_iload_n 2 dX10_thefts_31 rfl rfl ?_
        refine x_callVqi (as := [_, _, _]) (rest := []) vX10_341 (c_X8_within hI hO hP hL hL7 hv hcnt ha (by omega) hR) dX10_thefts_32 l82 rfl rfl rfl (Nat.le_of_ble_eq_true rfl) (Nat.le_of_ble_eq_true rfl) (Nat.le_of_ble_eq_true rfl) (fun r_32 S_32 q_32 => ?_)
        refine x_iret rfl dX10_thefts_35 (by simp only [ta, tb]; exact q2_1 (fun h => h ⟨by omega, by omega, by omega⟩) q_32)
      · refine x_iconst (v := -1) dX10_thefts_20 (by decide) ?_
        refine x_iret rfl dX10_thefts_21 (q2_0 (fun h => by first | exact c_5 h.1 | omega) ⟨rfl, rfl⟩)
  · refine t_if_eq 20 dX10_thefts_8 (by decide) (by decide) ?_
    refine x_iconst (v := -1) dX10_thefts_20 (by decide) ?_
    refine x_iret rfl dX10_thefts_21 (q2_0 (fun h => by first | exact c_5 h.1 | omega) ⟨rfl, rfl⟩)

