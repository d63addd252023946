/-! ===== most, hand, creed: the class ===== -/
theorem VS.mono {I : Isl} {w : Nat → Nat} {L L' : Nat} (h : VS I w L) (hl : L ≤ L') : VS I w L' := ⟨h.1, h.2.1, fun p hp => Nat.le_trans (h.2.2 p hp) hl⟩
theorem VS.over {I : Isl} {w : Nat → Nat} {L v : Nat} (h : VS I w L) (hv : ¬ ∃ p, p < iP I ∧ v < loadF I w p) : VS I w v := ⟨h.1, h.2.1, fun p hp => by
  rcases Nat.lt_or_ge v (loadF I w p) with q | q
  · exact absurd ⟨p, hp, q⟩ hv
  · exact q⟩
theorem SrX.keep {I : Isl} {S S' : St} (h : SrX I S) (k : ∀ a b, (68 ≤ a ∧ a ≤ 74) ∨ a = 76 ∨ a = 77 → S'.1 a b = S.1 a b) (k5 : S'.1 45 5 = S.1 45 5) : SrX I S' := by
  obtain ⟨⟨R, hR⟩, h2⟩ := h
  refine ⟨⟨R, hR.fr (fun a a1 a2 b => k a b (by omega))⟩, h2.imp (fun e => (k 74 9 (by omega)).trans e) ?_⟩
  rintro ⟨L, c0, e, h3, h4, h5⟩
  exact ⟨L, c0, e, h3, h4, h5.keep k k5⟩
theorem wth_allT {I : Isl} {S : St} (hT : IsT I S) : S.1 22 (2 ^ iW I - 1) = nI (sm (fun v => iV I v 3) (iW I)) := by
  rw [hT.2 _ (by have := Nat.pow_pos (n := iW I) (show 0 < 2 by decide); omega), wth_all]
theorem c_wall {S : St} {I : Isl} (hI : IsX 11 I S) (hO : IOK I) (hT : IsT I S) : C 1 30 yX1_worthOfAll mX1_worthOfAll [.ref 11] S (pu (.int (nI (sm (fun v => iV I v 3) (iW I)))) S) := by
  have h := c_X1_worthOfAll hI hO
  rw [wth_allT hT] at h
  exact h

set_option maxHeartbeats 4000000 in
set_option maxRecDepth 100000 in
theorem c_X10_most {S : St} {I : Isl} (hI : IsX 11 I S) (hO : IOK I) {w : Nat → Nat} (hP : PlT 35 I w S) {L : Nat} (hL : S.1 35 5 = nI L) (hL7 : L ≤ 6) (hv : VS I w L) (hL1 : 1 ≤ L) (hT : IsT I S) (hR : Roomy I L (codeF I w)) (hs : SrX I S) {x : Int32} : C 6 180 yX10_most mX10_most [.ref 0, .int x] S (qi (i2 (¬ (0 ≤ x.toInt ∧ x.toInt ≤ 2)) (an (-1) S) (fun r S' => r = vI (dyA I L (codeF I w) (tn x)) ∧ Fr FDy (setI S 1 0 (nI (sm (fun v => iV I v 3) (iW I)))) S' ∧ SrX I S'))) := by
  have n0 : (nI 0).toInt = 0 := rfl
  have n1 : (nI 1).toInt = 1 := rfl
  have n3 : (nI 3).toInt = 3 := rfl
  have n5 : (nI 5).toInt = 5 := rfl
  have n7 : (nI 7).toInt = 7 := rfl
  have n2 : (nI 2).toInt = 2 := rfl
  have n6 : (nI 6).toInt = 6 := rfl
  have hO1 := hO.1
  have hO2 := hO.2.1
  have hO3 := hO.2.2.1
  have hO4 := hO.2.2.2.1
  have hw := hv.ok hO
  have hw7 := hw.w7 hO
  have h0 := hv.okc hO
  have hI1 : IsX 11 I (setI S 1 0 (nI (sm (fun v => iV I v 3) (iW I)))) := hI.keep (fun a h1 h2 b => rdI_k (by omega))
  have hT1 : IsT I (setI S 1 0 (nI (sm (fun v => iV I v 3) (iW I)))) := hT.keep (fun a b h => rdI_k (by omega))
  have hs1 : SrX I (setI S 1 0 (nI (sm (fun v => iV I v 3) (iW I)))) := hs.keep (fun a b h => rdI_k (by omega)) (rdI_k (by decide))
  refine C.ofX (by decide) rfl (Nat.le_of_ble_eq_true rfl) ?_
  show X 6 180 mX10_most (qi (i2 (¬ (0 ≤ x.toInt ∧ x.toInt ≤ 2)) (an (-1) S) (fun r S' => r = vI (dyA I L (codeF I w) (tn x)) ∧ Fr FDy (setI S 1 0 (nI (sm (fun v => iV I v 3) (iW I)))) S' ∧ SrX I S'))) 0 [(0, .ref 0), (1, .int x)] [] S
  refine x_iload_n 1 dX10_most_0 rfl rfl ?_
  refine x_if_lt 9 dX10_most_1 (by decide) (fun c_1 => ?_) (fun c_1 => ?_)
  · refine x_iconst (v := -1) dX10_most_9 (by decide) ?_
    refine x_iret rfl dX10_most_10 (q2_0 (by omega) ⟨rfl, rfl⟩)
  · refine x_iload_n 1 dX10_most_4 rfl rfl ?_
    refine x_iconst (v := nI 2) dX10_most_5 (by decide) ?_
    refine z_ic_le 11 dX10_most_6 (by decide) (by omega) (fun c_6 => ?_) (fun c_6 => ?_)
    · obtain ⟨a, ha, rfl⟩ := nI_ex (x := x) (n := 3) (by omega) (by omega)
      have ea : (nI a).toInt = (a : Int) := tiN (by omega)
      have ta : tn (nI a) = a := tnN (by omega)
      refine x_aload_n 0 dX10_most_11 rfl rfl ?_
      refine x_getR fX10_10 dX10_most_12 l0 rfl ?_
      refine x_aload_n 0 dX10_most_15 rfl rfl ?_
      refine x_getR fX10_40 dX10_most_16 l0 rfl ?_
      refine x_callVu (as := []) (rest := [_]) vX10_330 (c_wall hI hO hT) dX10_most_19 l11 rfl rfl rfl (Nat.le_of_ble_eq_true rfl) (Nat.le_of_ble_eq_true rfl) (Nat.le_of_ble_eq_true rfl) ?_
      refine x_callVu (as := [_]) (rest := []) vX10_131 c_X9_tell dX10_most_22 l1 rfl rfl rfl (Nat.le_of_ble_eq_true rfl) (Nat.le_of_ble_eq_true rfl) (Nat.le_of_ble_eq_true rfl) ?_
      refine x_pop dX10_most_25 rfl ?_
      refine x_aload_n 0 dX10_most_26 rfl rfl ?_
      refine x_getR fX10_92 dX10_most_27 l0 rfl ?_
      refine x_aload_n 0 dX10_most_30 rfl rfl ?_
      refine x_getR fX10_49 dX10_most_31 l0 rfl ?_
      refine x_callVu (as := []) (rest := [_]) vX10_274 (c_X3_code (Or.inl rfl) hI1 hO (fun t ht => (rdI_k (by decide)).trans (hP.1 t ht)) hw7) dX10_most_34 l35 rfl rfl rfl (Nat.le_of_ble_eq_true rfl) (Nat.le_of_ble_eq_true rfl) (Nat.le_of_ble_eq_true rfl) ?_
      refine x_aload_n 0 dX10_most_37 rfl rfl ?_
      refine x_getR fX10_49 dX10_most_38 l0 rfl ?_
      refine y_getI fX10_231 dX10_most_41 l35 rfl hL ?_
      refine x_iload_n 1 dX10_most_44 rfl rfl ?_
      refine x_callVqi (as := [_, _, _]) (rest := []) vX10_333 (c_X0_best hI1 hO hT1 hL1 hL7 h0 hR hs1 (a := a) (by omega)) dX10_most_45 l78 rfl rfl rfl (Nat.le_of_ble_eq_true rfl) (Nat.le_of_ble_eq_true rfl) (Nat.le_of_ble_eq_true rfl) (fun r_45 S_45 q_45 => ?_)
      obtain ⟨b1, b2, b3⟩ := q_45
      refine x_iret rfl dX10_most_48 (by simp only [ta]; exact q2_1 (by omega) ⟨b1, b2, b3⟩)
    · refine x_iconst (v := -1) dX10_most_9 (by decide) ?_
      refine x_iret rfl dX10_most_10 (q2_0 (by omega) ⟨rfl, rfl⟩)

set_option maxHeartbeats 4000000 in
set_option maxRecDepth 100000 in
theorem c_X10_hand {S : St} {I : Isl} (hI : IsX 11 I S) (hO : IOK I) {w : Nat → Nat} (hP : PlT 35 I w S) {L : Nat} (hL : S.1 35 5 = nI L) (hL7 : L ≤ 6) (hv : VS I w L) (hL1 : 1 ≤ L) (hT : IsT I S) (hR : Roomy I L (codeF I w)) (hs : SrX I S) (hR2 : L < 6 → Roomy I (L + 1) (codeF I w)) {x : Int32} : C 6 180 yX10_hand mX10_hand [.ref 0, .int x] S (qi (i3 (¬ (0 ≤ x.toInt ∧ x.toInt ≤ 2)) (L = 6) (an (-1) S) (an (nI 0) S) (fun r S' => r = vI (dyA I (L + 1) (codeF I w) (tn x)) - vI (dyA I L (codeF I w) (tn x)) ∧ Fr FDy S S' ∧ SrX I S'))) := by
  have n0 : (nI 0).toInt = 0 := rfl
  have n1 : (nI 1).toInt = 1 := rfl
  have n3 : (nI 3).toInt = 3 := rfl
  have n5 : (nI 5).toInt = 5 := rfl
  have n7 : (nI 7).toInt = 7 := rfl
  have n2 : (nI 2).toInt = 2 := rfl
  have n6 : (nI 6).toInt = 6 := rfl
  have hO1 := hO.1
  have hO2 := hO.2.1
  have hO3 := hO.2.2.1
  have hO4 := hO.2.2.2.1
  have hw := hv.ok hO
  have hw7 := hw.w7 hO
  have h0 := hv.okc hO
  refine C.ofX (by decide) rfl (Nat.le_of_ble_eq_true rfl) ?_
  show X 6 180 mX10_hand (qi (i3 (¬ (0 ≤ x.toInt ∧ x.toInt ≤ 2)) (L = 6) (an (-1) S) (an (nI 0) S) (fun r S' => r = vI (dyA I (L + 1) (codeF I w) (tn x)) - vI (dyA I L (codeF I w) (tn x)) ∧ Fr FDy S S' ∧ SrX I S'))) 0 [(0, .ref 0), (1, .int x)] [] S
  refine x_iload_n 1 dX10_hand_0 rfl rfl ?_
  refine x_if_lt 9 dX10_hand_1 (by decide) (fun c_1 => ?_) (fun c_1 => ?_)
  · refine x_iconst (v := -1) dX10_hand_9 (by decide) ?_
    refine x_iret rfl dX10_hand_10 (q3_0 (by omega) ⟨rfl, rfl⟩)
  · refine x_iload_n 1 dX10_hand_4 rfl rfl ?_
    refine x_iconst (v := nI 2) dX10_hand_5 (by decide) ?_
    refine z_ic_le 11 dX10_hand_6 (by decide) (by omega) (fun c_6 => ?_) (fun c_6 => ?_)
    · obtain ⟨a, ha, rfl⟩ := nI_ex (x := x) (n := 3) (by omega) (by omega)
      have ea : (nI a).toInt = (a : Int) := tiN (by omega)
      have ta : tn (nI a) = a := tnN (by omega)
      refine x_aload_n 0 dX10_hand_11 rfl rfl ?_
      refine x_getR fX10_49 dX10_hand_12 l0 rfl ?_
      refine y_getI fX10_231 dX10_hand_15 l35 rfl hL ?_
      refine x_bipush (v := nI 6) dX10_hand_18 (by decide) ?_
      refine y_ic_lt 25 dX10_hand_20 (by decide) (by omega) (by omega) (fun c_20 => ?_) (fun c_20 => ?_)
      · refine x_aload_n 0 dX10_hand_25 rfl rfl ?_
        refine x_getR fX10_92 dX10_hand_26 l0 rfl ?_
        refine x_aload_n 0 dX10_hand_29 rfl rfl ?_
        refine x_getR fX10_49 dX10_hand_30 l0 rfl ?_
        refine x_callVu (as := []) (rest := [_]) vX10_274 (c_X3_code (Or.inl rfl) hI hO hP.1 hw7) dX10_hand_33 l35 rfl rfl rfl (Nat.le_of_ble_eq_true rfl) (Nat.le_of_ble_eq_true rfl) (Nat.le_of_ble_eq_true rfl) ?_
        refine x_aload_n 0 dX10_hand_36 rfl rfl ?_
        refine x_getR fX10_49 dX10_hand_37 l0 rfl ?_
        refine y_getI fX10_231 dX10_hand_40 l35 rfl hL ?_
        refine x_iload_n 1 dX10_hand_43 rfl rfl ?_
        refine x_callVqi (as := [_, _, _]) (rest := []) vX10_333 (c_X0_best hI hO hT hL1 hL7 h0 hR hs (a := a) (by omega)) dX10_hand_44 l78 rfl rfl rfl (Nat.le_of_ble_eq_true rfl) (Nat.le_of_ble_eq_true rfl) (Nat.le_of_ble_eq_true rfl) (fun r_44 S_44 q_44 => ?_)
        obtain ⟨b1, b2, b3⟩ := q_44
        have hI2 : IsX 11 I S_44 := hI.keep (fun a h1 h2 b => b2.2 a (by unfold FDy FS; omega) b)
        have hT2 : IsT I S_44 := hT.keep (fun a b h => b2.2 a (by unfold FDy FS; omega) b)
        have hP2 : ∀ t, t < iM I → S_44.1 36 t = nI (w t) := fun t ht => (b2.2 36 (by unfold FDy FS; omega) t).trans (hP.1 t ht)
        have h02 := (hv.mono (Nat.le_succ L)).okc hO
        refine x_istore_n (lv' := [(2, _), (0, _), (1, _)]) dX10_hand_47 rfl (by decide) rfl ?_
        refine x_aload_n 1 dX10_hand_48 rfl rfl ?_
        refine x_getR fX10_92 dX10_hand_49 l0 rfl ?_
        refine x_aload_n 1 dX10_hand_52 rfl rfl ?_
        refine x_getR fX10_49 dX10_hand_53 l0 rfl ?_
        refine x_callVu (as := []) (rest := [_]) vX10_274 (c_X3_code (Or.inl rfl) hI2 hO hP2 hw7) dX10_hand_56 l35 rfl rfl rfl (Nat.le_of_ble_eq_true rfl) (Nat.le_of_ble_eq_true rfl) (Nat.le_of_ble_eq_true rfl) ?_
        refine x_aload_n 1 dX10_hand_59 rfl rfl ?_
        refine x_getR fX10_49 dX10_hand_60 l0 rfl ?_
        refine y_getI fX10_231 dX10_hand_63 l35 rfl ((b2.2 35 (by unfold FDy FS; omega) 5).trans hL) ?_
        refine x_iconst (v := nI 1) dX10_hand_66 (by decide) ?_
        refine y_iadd dX10_hand_67 ?_
        refine x_iload_n 2 dX10_hand_68 rfl rfl ?_
        refine x_callVqi (as := [_, _, _]) (rest := []) vX10_333 (c_X0_best hI2 hO hT2 (L := L + 1) (by omega) (by omega) h02 (hR2 (by omega)) b3 (a := a) (by omega)) dX10_hand_69 l78 rfl rfl rfl (Nat.le_of_ble_eq_true rfl) (Nat.le_of_ble_eq_true rfl) (Nat.le_of_ble_eq_true rfl) (fun r_69 S_69 q_69 => ?_)
        obtain ⟨d1, d2, d3⟩ := q_69
        refine x_iload_n 0 dX10_hand_72 rfl rfl ?_
        refine x_isub dX10_hand_73 ?_
        refine x_iret rfl dX10_hand_74 (by simp only [ta]; exact q3_2 (by omega) (by omega) ⟨by rw [b1, d1], b2.trans d2, d3⟩)
      · refine x_iconst (v := nI 0) dX10_hand_23 (by decide) ?_
        refine x_iret rfl dX10_hand_24 (q3_1 (by omega) (by omega) ⟨rfl, rfl⟩)
    · refine x_iconst (v := -1) dX10_hand_9 (by decide) ?_
      refine x_iret rfl dX10_hand_10 (q3_0 (by omega) ⟨rfl, rfl⟩)

set_option maxHeartbeats 4000000 in
set_option maxRecDepth 100000 in
theorem c_X10_creed {S : St} {I : Isl} (hI : IsX 11 I S) (hO : IOK I) {w : Nat → Nat} (hP : PlT 35 I w S) {L : Nat} (hL : S.1 35 5 = nI L) (hL7 : L ≤ 6) (hv : VS I w L) (hT : IsT I S) (hs : SrX I S) {y x : Int32} (hR : ∀ v, 1 ≤ v → v ≤ 6 → (¬ ∃ p, p < iP I ∧ v < loadF I w p) → Roomy I v (codeF I w))  : C 6 180 yX10_creed mX10_creed [.ref 0, .int y, .int x] S (qi (i3 (¬ ((1 ≤ y.toInt ∧ y.toInt ≤ 6) ∧ 0 ≤ x.toInt ∧ x.toInt ≤ 2)) (∃ p, p < iP I ∧ tn y < loadF I w p) (an (-1) S) (an (-4) S) (fun r S' => r = vI (dyA I (tn y) (codeF I w) (tn x)) ∧ Fr FDy S S' ∧ SrX I S'))) := by
  have n0 : (nI 0).toInt = 0 := rfl
  have n1 : (nI 1).toInt = 1 := rfl
  have n3 : (nI 3).toInt = 3 := rfl
  have n5 : (nI 5).toInt = 5 := rfl
  have n7 : (nI 7).toInt = 7 := rfl
  have n2 : (nI 2).toInt = 2 := rfl
  have n6 : (nI 6).toInt = 6 := rfl
  have hO1 := hO.1
  have hO2 := hO.2.1
  have hO3 := hO.2.2.1
  have hO4 := hO.2.2.2.1
  have hw := hv.ok hO
  have hw7 := hw.w7 hO
  have h0 := hv.okc hO
  have hh := hvF_le (w := w) hO
  refine C.ofX (by decide) rfl (Nat.le_of_ble_eq_true rfl) ?_
  show X 6 180 mX10_creed (qi (i3 (¬ ((1 ≤ y.toInt ∧ y.toInt ≤ 6) ∧ 0 ≤ x.toInt ∧ x.toInt ≤ 2)) (∃ p, p < iP I ∧ tn y < loadF I w p) (an (-1) S) (an (-4) S) (fun r S' => r = vI (dyA I (tn y) (codeF I w) (tn x)) ∧ Fr FDy S S' ∧ SrX I S'))) 0 [(0, .ref 0), (1, .int y), (2, .int x)] [] S
  refine x_iload_n 1 dX10_creed_0 rfl rfl ?_
  refine x_iconst (v := nI 1) dX10_creed_1 (by decide) ?_
  refine z_ic_lt 20 dX10_creed_2 (by decide) (by omega) (fun c_2 => ?_) (fun c_2 => ?_)
  · refine x_iconst (v := -1) dX10_creed_20 (by decide) ?_
    refine x_iret rfl dX10_creed_21 (q3_0 (by omega) ⟨rfl, rfl⟩)
  · refine x_iload_n 1 dX10_creed_5 rfl rfl ?_
    refine x_bipush (v := nI 6) dX10_creed_6 (by decide) ?_
    refine z_ic_gt 20 dX10_creed_8 (by decide) (by omega) (fun c_8 => ?_) (fun c_8 => ?_)
    · refine x_iconst (v := -1) dX10_creed_20 (by decide) ?_
      refine x_iret rfl dX10_creed_21 (q3_0 (by omega) ⟨rfl, rfl⟩)
    · refine x_iload_n 2 dX10_creed_11 rfl rfl ?_
      refine x_if_lt 20 dX10_creed_12 (by decide) (fun c_12 => ?_) (fun c_12 => ?_)
      · refine x_iconst (v := -1) dX10_creed_20 (by decide) ?_
        refine x_iret rfl dX10_creed_21 (q3_0 (by omega) ⟨rfl, rfl⟩)
      · refine x_iload_n 2 dX10_creed_15 rfl rfl ?_
        refine x_iconst (v := nI 2) dX10_creed_16 (by decide) ?_
        refine z_ic_le 22 dX10_creed_17 (by decide) (by omega) (fun c_17 => ?_) (fun c_17 => ?_)
        · obtain ⟨b, hb, rfl⟩ := nI_ex (x := y) (n := 7) (by omega) (by omega)
          have eb : (nI b).toInt = (b : Int) := tiN (by omega)
          have tb : tn (nI b) = b := tnN (by omega)
          obtain ⟨a, ha, rfl⟩ := nI_ex (x := x) (n := 3) (by omega) (by omega)
          have ea : (nI a).toInt = (a : Int) := tiN (by omega)
          have ta : tn (nI a) = a := tnN (by omega)
          refine x_aload_n 0 dX10_creed_22 rfl rfl ?_
          refine x_getR fX10_49 dX10_creed_23 l0 rfl ?_
          refine x_callVu (as := []) (rest := []) vX10_227 (c_X3_heaviest (Or.inl rfl) hI hO hP) dX10_creed_26 l35 rfl rfl rfl (Nat.le_of_ble_eq_true rfl) (Nat.le_of_ble_eq_true rfl) (Nat.le_of_ble_eq_true rfl) ?_
          refine x_iload_n 1 dX10_creed_29 rfl rfl ?_
          refine y_ic_le 36 dX10_creed_30 (by decide) (by omega) (by omega) (fun c_30 => ?_) (fun c_30 => ?_)
          · have hno : ¬ ∃ p, p < iP I ∧ b < loadF I w p := fun h => absurd (hv_iff.mpr h) (by omega)
            have h02 := (hv.over hno).okc hO
            refine x_aload_n 0 dX10_creed_36 rfl rfl ?_
            refine x_getR fX10_92 dX10_creed_37 l0 rfl ?_
            refine x_aload_n 0 dX10_creed_40 rfl rfl ?_
            refine x_getR fX10_49 dX10_creed_41 l0 rfl ?_
            refine x_callVu (as := []) (rest := [_]) vX10_274 (c_X3_code (Or.inl rfl) hI hO hP.1 hw7) dX10_creed_44 l35 rfl rfl rfl (Nat.le_of_ble_eq_true rfl) (Nat.le_of_ble_eq_true rfl) (Nat.le_of_ble_eq_true rfl) ?_
            refine x_iload_n 1 dX10_creed_47 rfl rfl ?_
            refine x_iload_n 2 dX10_creed_48 rfl rfl ?_
            refine x_callVqi (as := [_, _, _]) (rest := []) vX10_333 (c_X0_best hI hO hT (by omega) (by omega) h02 (hR b (by omega) (by omega) hno) hs (a := a) (by omega)) dX10_creed_49 l78 rfl rfl rfl (Nat.le_of_ble_eq_true rfl) (Nat.le_of_ble_eq_true rfl) (Nat.le_of_ble_eq_true rfl) (fun r_49 S_49 q_49 => ?_)
            obtain ⟨b1, b2, b3⟩ := q_49
            refine x_iret rfl dX10_creed_52 (by simp only [ta, tb]; exact q3_2 (by omega) hno ⟨b1, b2, b3⟩)
          · refine x_bipush (v := -4) dX10_creed_33 (by decide) ?_
            refine x_iret rfl dX10_creed_35 (by simp only [ta, tb]; exact q3_1 (by omega) (hv_iff.mp c_30) ⟨rfl, rfl⟩)
        · refine x_iconst (v := -1) dX10_creed_20 (by decide) ?_
          refine x_iret rfl dX10_creed_21 (q3_0 (by omega) ⟨rfl, rfl⟩)

