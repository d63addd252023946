/-! ===== most, hand, creed: the reference ===== -/

set_option maxHeartbeats 4000000 in
set_option maxRecDepth 100000 in
theorem c_X11_most {S : St} {I : Isl} (hI : IsM I S) (hO : IOK I) {w : Nat → Nat} (hw0 : ∀ t, t < iM I → S.1 93 t = nI (w t)) {L : Nat} (hL : S.1 83 17 = nI L) (hL7 : L ≤ 6) (hv : VS I w L) {x : Int32} : C 6 180 yX11_most mX11_most [.ref 83, .int x] S (qi (i2 (¬ (0 ≤ x.toInt ∧ x.toInt ≤ 2)) (an (-1) S) (fun r S' => r = vI (dyA I L (codeF I w) (tn x)) ∧ ∃ S2, Fr FYr S S2 ∧ S' = setI S2 83 2 (nI (sm (fun v => iV I v 3) (iW I)))))) := by
  have n0 : (nI 0).toInt = 0 := rfl
  have n1 : (nI 1).toInt = 1 := rfl
  have n3 : (nI 3).toInt = 3 := rfl
  have n5 : (nI 5).toInt = 5 := rfl
  have n7 : (nI 7).toInt = 7 := rfl
  have n2 : (nI 2).toInt = 2 := rfl
  have n6 : (nI 6).toInt = 6 := rfl
  have hO1 := hO.1
  have hO2 := hO.2.1
  have hO3 := hO.2.2.1
  have hO4 := hO.2.2.2.1
  have hw := hv.ok hO
  have hw7 := hw.w7 hO
  refine C.ofX (by decide) rfl (Nat.le_of_ble_eq_true rfl) ?_
  show X 6 180 mX11_most (qi (i2 (¬ (0 ≤ x.toInt ∧ x.toInt ≤ 2)) (an (-1) S) (fun r S' => r = vI (dyA I L (codeF I w) (tn x)) ∧ ∃ S2, Fr FYr S S2 ∧ S' = setI S2 83 2 (nI (sm (fun v => iV I v 3) (iW I)))))) 0 [(0, .ref 83), (1, .int x)] [] S
  refine x_iload_n 1 dX11_most_0 rfl rfl ?_
  refine x_iconst (v := nI 0) dX11_most_1 (by decide) ?_
  refine x_iconst (v := nI 2) dX11_most_2 (by decide) ?_
  refine x_callSb (as := [_, _, _]) (rest := []) sX11_98 c_X11_in dX11_most_3 rfl rfl (Nat.le_of_ble_eq_true rfl) (Nat.le_of_ble_eq_true rfl) (Nat.le_of_ble_eq_true rfl) (fun c_3 => ?_) (fun c_3 => ?_)
  · refine u_if_eq 25 dX11_most_6 (by decide) (by decide) ?_
    obtain ⟨a, ha, rfl⟩ := nI_ex (x := x) (n := 3) (by omega) (by omega)
    have ea : (nI a).toInt = (a : Int) := tiN (by omega)
    have ta : tn (nI a) = a := tnN (by omega)
    refine x_aload_n 0 dX11_most_9 rfl rfl ?_
    refine x_aload_n 0 dX11_most_10 rfl rfl ?_
    refine x_callVu (as := []) (rest := [_]) vX11_299 (c_X11_allWorth hI hO) dX11_most_11 l83 rfl rfl rfl (Nat.le_of_ble_eq_true rfl) (Nat.le_of_ble_eq_true rfl) (Nat.le_of_ble_eq_true rfl) ?_
    refine x_aload_n 0 dX11_most_14 rfl rfl ?_
    refine x_iload_n 1 dX11_most_15 rfl rfl ?_
    refine x_callVqi (as := [_]) (rest := [_, _]) vX11_302 (c_X11_mostBy hI hO hw0 hL hL7 hv (a := a) (by omega)) dX11_most_16 l83 rfl rfl rfl (Nat.le_of_ble_eq_true rfl) (Nat.le_of_ble_eq_true rfl) (Nat.le_of_ble_eq_true rfl) (fun r_16 S_16 q_16 => ?_)
    obtain ⟨b1, b2⟩ := q_16
    refine x_callVu (as := [_, _]) (rest := []) vX11_120 c_X11_tells dX11_most_19 l83 rfl rfl rfl (Nat.le_of_ble_eq_true rfl) (Nat.le_of_ble_eq_true rfl) (Nat.le_of_ble_eq_true rfl) ?_
    refine x_goto 26 dX11_most_22 (by decide) ?_
    refine x_iret rfl dX11_most_26 (by first | exact q2_0 c_3 ⟨rfl, rfl⟩ | (simp only [ta]; exact q2_1 (by omega) ⟨b1, _, b2, rfl⟩))
  · refine t_if_eq 25 dX11_most_6 (by decide) (by decide) ?_
    refine x_iconst (v := -1) dX11_most_25 (by decide) ?_
    refine x_iret rfl dX11_most_26 (by first | exact q2_0 c_3 ⟨rfl, rfl⟩ | (simp only [ta]; exact q2_1 (by omega) ⟨b1, _, b2, rfl⟩))

set_option maxHeartbeats 4000000 in
set_option maxRecDepth 100000 in
theorem c_X11_mostWith {S : St} {I : Isl} (hI : IsM I S) (hO : IOK I) {w : Nat → Nat} (hw0 : ∀ t, t < iM I → S.1 93 t = nI (w t)) {L : Nat} (hL : S.1 83 17 = nI L) (hL7 : L ≤ 6) (hv : VS I w L) {v a : Nat} (hv6 : v ≤ 6) (hvv : VS I w v) (ha : a ≤ 2)  : C 6 180 yX11_mostWith mX11_mostWith [.ref 83, .int (nI v), .int (nI a)] S (qi (fun r S' => r = vI (dyA I v (codeF I w) a) ∧ Fr FYr S S')) := by
  have hO1 := hO.1
  have hO2 := hO.2.1
  have hO3 := hO.2.2.1
  have hO4 := hO.2.2.2.1
  have hw := hv.ok hO
  have hw7 := hw.w7 hO
  refine C.ofX (by decide) rfl (Nat.le_of_ble_eq_true rfl) ?_
  show X 6 180 mX11_mostWith (qi (fun r S' => r = vI (dyA I v (codeF I w) a) ∧ Fr FYr S S')) 0 [(0, .ref 83), (1, .int (nI v)), (2, .int (nI a))] [] S
  refine x_aload_n 0 dX11_mostWith_0 rfl rfl ?_
  refine y_getI fX11_91 dX11_mostWith_1 l83 rfl hL ?_
  refine x_istore_n (lv' := [(3, _), (0, _), (1, _), (2, _)]) dX11_mostWith_4 rfl (by decide) rfl ?_
  refine x_aload_n 1 dX11_mostWith_5 rfl rfl ?_
  refine x_iload_n 2 dX11_mostWith_6 rfl rfl ?_
  refine x_putI pX11_91 dX11_mostWith_7 l83 rfl ?_
  refine x_aload_n 1 dX11_mostWith_10 rfl rfl ?_
  refine x_iload_n 3 dX11_mostWith_11 rfl rfl ?_
  refine x_callVqi (as := [_]) (rest := []) vX11_302 (c_X11_mostBy (hI.keep (fun j hj => rdI_j (by intro e; rw [e] at hj; revert hj; decide)) (fun a ha b => rdI_k (by intro e; rw [e] at ha; revert ha; decide))) hO (fun t ht => (rdI_k (by decide)).trans (hw0 t ht)) rdI_eq hv6 hvv ha) dX11_mostWith_12 l83 rfl rfl rfl (Nat.le_of_ble_eq_true rfl) (Nat.le_of_ble_eq_true rfl) (Nat.le_of_ble_eq_true rfl) (fun r_12 S_12 q_12 => ?_)
  obtain ⟨b1, b2⟩ := q_12
  refine x_istore (lv' := [(4, _), (3, _), (0, _), (1, _), (2, _)]) dX11_mostWith_15 (by decide) rfl ?_
  refine x_aload_n 2 dX11_mostWith_17 rfl rfl ?_
  refine x_iload_n 1 dX11_mostWith_18 rfl rfl ?_
  refine x_putI pX11_91 dX11_mostWith_19 l83 rfl ?_
  refine x_iload 0 dX11_mostWith_22 rfl ?_
  refine x_iret rfl dX11_mostWith_24 ⟨_, rfl, b1, b2.1, fun a ha b => by
    by_cases q : a = 83
    · rw [q]
      by_cases k : b = 17
      · rw [k, rdI_eq]; exact hL.symm
      · rw [rdI_j k]
        exact (b2.2 83 (by unfold FYr; decide) b).trans (rdI_j k)
    · exact (rdI_k q).trans ((b2.2 a ha b).trans (rdI_k q))⟩

set_option maxHeartbeats 4000000 in
set_option maxRecDepth 100000 in
theorem c_X11_hand {S : St} {I : Isl} (hI : IsM I S) (hO : IOK I) {w : Nat → Nat} (hw0 : ∀ t, t < iM I → S.1 93 t = nI (w t)) {L : Nat} (hL : S.1 83 17 = nI L) (hL7 : L ≤ 6) (hv : VS I w L) {x : Int32} : C 7 210 yX11_hand mX11_hand [.ref 83, .int x] S (qi (i3 (¬ (0 ≤ x.toInt ∧ x.toInt ≤ 2)) (L = 6) (an (-1) S) (an (nI 0) S) (fun r S' => r = vI (dyA I (L + 1) (codeF I w) (tn x)) - vI (dyA I L (codeF I w) (tn x)) ∧ Fr FYr S S'))) := by
  have n0 : (nI 0).toInt = 0 := rfl
  have n1 : (nI 1).toInt = 1 := rfl
  have n3 : (nI 3).toInt = 3 := rfl
  have n5 : (nI 5).toInt = 5 := rfl
  have n7 : (nI 7).toInt = 7 := rfl
  have n2 : (nI 2).toInt = 2 := rfl
  have n6 : (nI 6).toInt = 6 := rfl
  have hO1 := hO.1
  have hO2 := hO.2.1
  have hO3 := hO.2.2.1
  have hO4 := hO.2.2.2.1
  have hw := hv.ok hO
  have hw7 := hw.w7 hO
  refine C.ofX (by decide) rfl (Nat.le_of_ble_eq_true rfl) ?_
  show X 7 210 mX11_hand (qi (i3 (¬ (0 ≤ x.toInt ∧ x.toInt ≤ 2)) (L = 6) (an (-1) S) (an (nI 0) S) (fun r S' => r = vI (dyA I (L + 1) (codeF I w) (tn x)) - vI (dyA I L (codeF I w) (tn x)) ∧ Fr FYr S S'))) 0 [(0, .ref 83), (1, .int x)] [] S
  refine x_iload_n 1 dX11_hand_0 rfl rfl ?_
  refine x_iconst (v := nI 0) dX11_hand_1 (by decide) ?_
  refine x_iconst (v := nI 2) dX11_hand_2 (by decide) ?_
  refine x_callSb (as := [_, _, _]) (rest := []) sX11_98 c_X11_in dX11_hand_3 rfl rfl (Nat.le_of_ble_eq_true rfl) (Nat.le_of_ble_eq_true rfl) (Nat.le_of_ble_eq_true rfl) (fun c_3 => ?_) (fun c_3 => ?_)
  · refine t_if_ne 11 dX11_hand_6 (by decide) (by decide) ?_
    obtain ⟨a, ha, rfl⟩ := nI_ex (x := x) (n := 3) (by omega) (by omega)
    have ea : (nI a).toInt = (a : Int) := tiN (by omega)
    have ta : tn (nI a) = a := tnN (by omega)
    refine x_aload_n 0 dX11_hand_11 rfl rfl ?_
    refine y_getI fX11_91 dX11_hand_12 l83 rfl hL ?_
    refine x_bipush (v := nI 6) dX11_hand_15 (by decide) ?_
    refine y_ic_ne 24 dX11_hand_17 (by decide) (by omega) (by omega) (fun c_17 => ?_) (fun c_17 => ?_)
    · refine x_aload_n 0 dX11_hand_24 rfl rfl ?_
      refine x_aload_n 0 dX11_hand_25 rfl rfl ?_
      refine y_getI fX11_91 dX11_hand_26 l83 rfl hL ?_
      refine x_iconst (v := nI 1) dX11_hand_29 (by decide) ?_
      refine y_iadd dX11_hand_30 ?_
      refine x_iload_n 1 dX11_hand_31 rfl rfl ?_
      refine x_callVqi (as := [_, _]) (rest := []) vX11_305 (c_X11_mostWith hI hO hw0 hL hL7 hv (v := L + 1) (a := a) (by omega) (hv.mono (Nat.le_succ L)) (by omega)) dX11_hand_32 l83 rfl rfl rfl (Nat.le_of_ble_eq_true rfl) (Nat.le_of_ble_eq_true rfl) (Nat.le_of_ble_eq_true rfl) (fun r_32 S_32 q_32 => ?_)
      obtain ⟨b1, b2⟩ := q_32
      refine x_aload_n 0 dX11_hand_35 rfl rfl ?_
      refine x_iload_n 1 dX11_hand_36 rfl rfl ?_
      refine x_callVqi (as := [_]) (rest := [_]) vX11_302 (c_X11_mostBy (hI.fdr b2) hO (fun t ht => (b2.2 93 (by unfold FYr; decide) t).trans (hw0 t ht)) ((b2.2 83 (by unfold FYr; decide) 17).trans hL) hL7 hv (a := a) (by omega)) dX11_hand_37 l83 rfl rfl rfl (Nat.le_of_ble_eq_true rfl) (Nat.le_of_ble_eq_true rfl) (Nat.le_of_ble_eq_true rfl) (fun r_37 S_37 q_37 => ?_)
      obtain ⟨d1, d2⟩ := q_37
      refine x_isub dX11_hand_40 ?_
      refine x_iret rfl dX11_hand_41 (by first | exact q3_1 (by omega) (by omega) ⟨rfl, rfl⟩ | (simp only [ta]; exact q3_2 (by omega) (by omega) ⟨by rw [b1, d1], b2.trans d2⟩))
    · refine x_iconst (v := nI 0) dX11_hand_20 (by decide) ?_
      refine x_goto 41 dX11_hand_21 (by decide) ?_
      refine x_iret rfl dX11_hand_41 (by first | exact q3_1 (by omega) (by omega) ⟨rfl, rfl⟩ | (simp only [ta]; exact q3_2 (by omega) (by omega) ⟨by rw [b1, d1], b2.trans d2⟩))
  · refine u_if_ne 11 dX11_hand_6 (by decide) (by decide) ?_
    refine x_iconst (v := -1) dX11_hand_9 (by decide) ?_
    refine x_iret rfl dX11_hand_10 (q3_0 (by omega) ⟨rfl, rfl⟩)

set_option maxHeartbeats 4000000 in
set_option maxRecDepth 100000 in
theorem c_X11_creed {S : St} {I : Isl} (hI : IsM I S) (hO : IOK I) {w : Nat → Nat} (hw0 : ∀ t, t < iM I → S.1 93 t = nI (w t)) {L : Nat} (hL : S.1 83 17 = nI L) (hL7 : L ≤ 6) (hv : VS I w L) {y x : Int32} : C 7 210 yX11_creed mX11_creed [.ref 83, .int y, .int x] S (qi (i3 (¬ ((1 ≤ y.toInt ∧ y.toInt ≤ 6) ∧ 0 ≤ x.toInt ∧ x.toInt ≤ 2)) (∃ p, p < iP I ∧ tn y < loadF I w p) (an (-1) S) (an (-4) (lkS S (iM I))) (fun r S' => r = vI (dyA I (tn y) (codeF I w) (tn x)) ∧ Fr FYr S S'))) := by
  have n0 : (nI 0).toInt = 0 := rfl
  have n1 : (nI 1).toInt = 1 := rfl
  have n3 : (nI 3).toInt = 3 := rfl
  have n5 : (nI 5).toInt = 5 := rfl
  have n7 : (nI 7).toInt = 7 := rfl
  have n2 : (nI 2).toInt = 2 := rfl
  have n6 : (nI 6).toInt = 6 := rfl
  have hO1 := hO.1
  have hO2 := hO.2.1
  have hO3 := hO.2.2.1
  have hO4 := hO.2.2.2.1
  have hw := hv.ok hO
  have hw7 := hw.w7 hO
  refine C.ofX (by decide) rfl (Nat.le_of_ble_eq_true rfl) ?_
  show X 7 210 mX11_creed (qi (i3 (¬ ((1 ≤ y.toInt ∧ y.toInt ≤ 6) ∧ 0 ≤ x.toInt ∧ x.toInt ≤ 2)) (∃ p, p < iP I ∧ tn y < loadF I w p) (an (-1) S) (an (-4) (lkS S (iM I))) (fun r S' => r = vI (dyA I (tn y) (codeF I w) (tn x)) ∧ Fr FYr S S'))) 0 [(0, .ref 83), (1, .int y), (2, .int x)] [] S
  refine x_iload_n 1 dX11_creed_0 rfl rfl ?_
  refine x_iconst (v := nI 1) dX11_creed_1 (by decide) ?_
  refine x_bipush (v := nI 6) dX11_creed_2 (by decide) ?_
  refine x_callSb (as := [_, _, _]) (rest := []) sX11_98 c_X11_in dX11_creed_4 rfl rfl (Nat.le_of_ble_eq_true rfl) (Nat.le_of_ble_eq_true rfl) (Nat.le_of_ble_eq_true rfl) (fun c_4 => ?_) (fun c_4 => ?_)
  · refine u_if_eq 19 dX11_creed_7 (by decide) (by decide) ?_
    refine x_iload_n 2 dX11_creed_10 rfl rfl ?_
    refine x_iconst (v := nI 0) dX11_creed_11 (by decide) ?_
    refine x_iconst (v := nI 2) dX11_creed_12 (by decide) ?_
    refine x_callSb (as := [_, _, _]) (rest := []) sX11_98 c_X11_in dX11_creed_13 rfl rfl (Nat.le_of_ble_eq_true rfl) (Nat.le_of_ble_eq_true rfl) (Nat.le_of_ble_eq_true rfl) (fun c_13 => ?_) (fun c_13 => ?_)
    · refine t_if_ne 21 dX11_creed_16 (by decide) (by decide) ?_
      obtain ⟨b, hb, rfl⟩ := nI_ex (x := y) (n := 7) (by omega) (by omega)
      have eb : (nI b).toInt = (b : Int) := tiN (by omega)
      have tb : tn (nI b) = b := tnN (by omega)
      obtain ⟨a, ha, rfl⟩ := nI_ex (x := x) (n := 3) (by omega) (by omega)
      have ea : (nI a).toInt = (a : Int) := tiN (by omega)
      have ta : tn (nI a) = a := tnN (by omega)
      refine x_aload_n 0 dX11_creed_21 rfl rfl ?_
      refine x_iload_n 1 dX11_creed_22 rfl rfl ?_
      refine x_callVb (as := [_]) (rest := []) vX11_238 (c_X11_isOver hI hO hw0 hw7 (v := b) (by omega)) dX11_creed_23 l83 rfl rfl rfl (Nat.le_of_ble_eq_true rfl) (Nat.le_of_ble_eq_true rfl) (Nat.le_of_ble_eq_true rfl) (fun c_23 => ?_) (fun c_23 => ?_)
      · refine u_if_eq 34 dX11_creed_26 (by decide) (by decide) ?_
        refine x_bipush (v := -4) dX11_creed_29 (by decide) ?_
        refine x_goto 40 dX11_creed_31 (by decide) ?_
        refine x_iret rfl dX11_creed_40 (by simp only [ta, tb]; first | exact q3_1 (by omega) c_23 ⟨rfl, rfl⟩ | exact q3_2 (by omega) c_23 ⟨b1, (frY (lkS_f _ _)).trans b2⟩)
      · refine t_if_eq 34 dX11_creed_26 (by decide) (by decide) ?_
        refine x_aload_n 0 dX11_creed_34 rfl rfl ?_
        refine x_iload_n 1 dX11_creed_35 rfl rfl ?_
        refine x_iload_n 2 dX11_creed_36 rfl rfl ?_
        refine x_callVqi (as := [_, _]) (rest := []) vX11_305 (c_X11_mostWith (hI.lk _) hO (fun t ht => (lkS_k (by decide)).trans (hw0 t ht)) ((lkS_k (by decide)).trans hL) hL7 hv (v := b) (a := a) (by omega) (hv.over c_23) (by omega)) dX11_creed_37 l83 rfl rfl rfl (Nat.le_of_ble_eq_true rfl) (Nat.le_of_ble_eq_true rfl) (Nat.le_of_ble_eq_true rfl) (fun r_37 S_37 q_37 => ?_)
        obtain ⟨b1, b2⟩ := q_37
        refine x_iret rfl dX11_creed_40 (by simp only [ta, tb]; first | exact q3_1 (by omega) c_23 ⟨rfl, rfl⟩ | exact q3_2 (by omega) c_23 ⟨b1, (frY (lkS_f _ _)).trans b2⟩)
    · refine u_if_ne 21 dX11_creed_16 (by decide) (by decide) ?_
      refine x_iconst (v := -1) dX11_creed_19 (by decide) ?_
      refine x_iret rfl dX11_creed_20 (q3_0 (by omega) ⟨rfl, rfl⟩)
  · refine t_if_eq 19 dX11_creed_7 (by decide) (by decide) ?_
    refine x_iconst (v := -1) dX11_creed_19 (by decide) ?_
    refine x_iret rfl dX11_creed_20 (q3_0 (by omega) ⟨rfl, rfl⟩)
