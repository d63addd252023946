/-! ===== answers and stores in two, three, four cases ===== -/
noncomputable def i2 {α : Type} (p : Prop) (a b : α) : α := @ite α p (Classical.propDecidable p) a b
noncomputable def i3 {α : Type} (p q : Prop) (a b c : α) : α := @ite α p (Classical.propDecidable p) a (@ite α q (Classical.propDecidable q) b c)
noncomputable def i4 {α : Type} (p q r : Prop) (a b c d : α) : α := @ite α p (Classical.propDecidable p) a (@ite α q (Classical.propDecidable q) b (@ite α r (Classical.propDecidable r) c d))
section
variable {p q r : Prop} {a b c d : Int32} {s t u v : St}
theorem p2_0 (h : p) : pu (.int (i2 p a b)) (i2 p s t) (some (.int a)) s := ⟨by unfold i2; rw [if_pos h], by unfold i2; rw [if_pos h]⟩
theorem p2_1 (h : ¬ p) : pu (.int (i2 p a b)) (i2 p s t) (some (.int b)) t := ⟨by unfold i2; rw [if_neg h], by unfold i2; rw [if_neg h]⟩
theorem p3_0 (h : p) : pu (.int (i3 p q a b c)) (i3 p q s t u) (some (.int a)) s := ⟨by unfold i3; rw [if_pos h], by unfold i3; rw [if_pos h]⟩
theorem p3_1 (h : ¬ p) (h2 : q) : pu (.int (i3 p q a b c)) (i3 p q s t u) (some (.int b)) t := ⟨by unfold i3; rw [if_neg h, if_pos h2], by unfold i3; rw [if_neg h, if_pos h2]⟩
theorem p3_2 (h : ¬ p) (h2 : ¬ q) : pu (.int (i3 p q a b c)) (i3 p q s t u) (some (.int c)) u := ⟨by unfold i3; rw [if_neg h, if_neg h2], by unfold i3; rw [if_neg h, if_neg h2]⟩
theorem p4_0 (h : p) : pu (.int (i4 p q r a b c d)) (i4 p q r s t u v) (some (.int a)) s := ⟨by unfold i4; rw [if_pos h], by unfold i4; rw [if_pos h]⟩
theorem p4_1 (h : ¬ p) (h2 : q) : pu (.int (i4 p q r a b c d)) (i4 p q r s t u v) (some (.int b)) t := ⟨by unfold i4; rw [if_neg h, if_pos h2], by unfold i4; rw [if_neg h, if_pos h2]⟩
theorem p4_2 (h : ¬ p) (h2 : ¬ q) (h3 : r) : pu (.int (i4 p q r a b c d)) (i4 p q r s t u v) (some (.int c)) u := ⟨by unfold i4; rw [if_neg h, if_neg h2, if_pos h3], by unfold i4; rw [if_neg h, if_neg h2, if_pos h3]⟩
theorem p4_3 (h : ¬ p) (h2 : ¬ q) (h3 : ¬ r) : pu (.int (i4 p q r a b c d)) (i4 p q r s t u v) (some (.int d)) v := ⟨by unfold i4; rw [if_neg h, if_neg h2, if_neg h3], by unfold i4; rw [if_neg h, if_neg h2, if_neg h3]⟩
theorem i2_same {α : Type} {p : Prop} {a : α} : i2 p a a = a := by unfold i2; split <;> rfl
end
theorem VS.ok {I : Isl} {w : Nat → Nat} {L : Nat} (hO : IOK I) (h : VS I w L) : WOK I w := by
  refine ⟨fun t ht => ?_, fun b hb => ?_⟩
  · have := (h.1 t ht).1
    unfold plcF at this
    have := hO.1
    omega
  · have hg := hO.2.2.2.2.2.1 b hb
    exact (h.1 _ hg.1).2.2 hg.2
theorem VS.whom {I : Isl} {w : Nat → Nat} {L : Nat} (hO : IOK I) (h : VS I w L) : ∀ t, t < iM I → plcF I (whomF I w t) := by
  intro t ht
  unfold whomF
  by_cases q : w t ≤ 4
  · rw [if_pos q]; exact (h.1 t ht).1
  · rw [if_neg q]
    have hw := (h.ok hO).1 t ht
    exact (h.1 _ (hO.2.2.2.2.2.1 (w t - 5) (by omega)).1).1

set_option maxHeartbeats 4000000 in
set_option maxRecDepth 100000 in
theorem c_X10_asked {S : St} : C 0 0 yX10_asked mX10_asked [.ref 0] S (pu (.int (S.1 1 0)) S) := by
  refine C.ofX (by decide) rfl (Nat.le_of_ble_eq_true rfl) ?_
  show X 0 0 mX10_asked (pu (.int (S.1 1 0)) S) 0 [(0, .ref 0)] [] S
  refine x_aload_n 0 dX10_asked_0 rfl rfl ?_
  refine x_getR fX10_10 dX10_asked_1 l0 rfl ?_
  refine y_getI fX10_373 dX10_asked_4 l1 rfl rfl ?_
  refine x_iret rfl dX10_asked_7 ⟨rfl, rfl⟩

set_option maxHeartbeats 4000000 in
set_option maxRecDepth 100000 in
theorem c_X10_upper {S : St} : C 0 0 yX10_upper mX10_upper [.ref 0] S (pu (.long (S.2 1 1)) S) := by
  refine C.ofX (by decide) rfl (Nat.le_of_ble_eq_true rfl) ?_
  show X 0 0 mX10_upper (pu (.long (S.2 1 1)) S) 0 [(0, .ref 0)] [] S
  refine x_aload_n 0 dX10_upper_0 rfl rfl ?_
  refine x_getR fX10_10 dX10_upper_1 l0 rfl ?_
  refine y_getL fX10_376 dX10_upper_4 l1 rfl rfl ?_
  refine x_lret rfl dX10_upper_7 ⟨rfl, rfl⟩

set_option maxHeartbeats 4000000 in
set_option maxRecDepth 100000 in
theorem c_X10_lower {S : St} : C 0 0 yX10_lower mX10_lower [.ref 0] S (pu (.long (S.2 1 2)) S) := by
  refine C.ofX (by decide) rfl (Nat.le_of_ble_eq_true rfl) ?_
  show X 0 0 mX10_lower (pu (.long (S.2 1 2)) S) 0 [(0, .ref 0)] [] S
  refine x_aload_n 0 dX10_lower_0 rfl rfl ?_
  refine x_getR fX10_10 dX10_lower_1 l0 rfl ?_
  refine y_getL fX10_380 dX10_lower_4 l1 rfl rfl ?_
  refine x_lret rfl dX10_lower_7 ⟨rfl, rfl⟩

set_option maxHeartbeats 4000000 in
set_option maxRecDepth 100000 in
theorem c_X10_countOf {S : St} {I : Isl} (hI : IsX 11 I S) (hO : IOK I) {a : Nat} (ha : a < 8) : C 1 30 yX10_countOf mX10_countOf [.ref 0, .int (nI a)] S (pu (.int (if a = 0 then nI (iP I) else if a = 1 then nI (iM I) else if a = 2 then nI (iW I) else if a = 3 then S.1 60 0 else if a = 4 then nI (iB I) else if a = 5 then S.1 63 0 else if a = 6 then nI (sm (fun r => if (S.1 4 r).toInt < 0 then 0 else 1) 6) else nI (sm (fun r => if (S.1 7 r).toInt < 0 then 0 else 1) 4))) S) := by
  refine C.ofX (by decide) rfl (Nat.le_of_ble_eq_true rfl) ?_
  show X 1 30 mX10_countOf (pu (.int (if a = 0 then nI (iP I) else if a = 1 then nI (iM I) else if a = 2 then nI (iW I) else if a = 3 then S.1 60 0 else if a = 4 then nI (iB I) else if a = 5 then S.1 63 0 else if a = 6 then nI (sm (fun r => if (S.1 4 r).toInt < 0 then 0 else 1) 6) else nI (sm (fun r => if (S.1 7 r).toInt < 0 then 0 else 1) 4))) S) 0 [(0, .ref 0), (1, .int (nI a))] [] S
  refine x_iload_n 1 dX10_countOf_0 rfl rfl ?_
  by_cases cs_1 : a = 0 ∨ a = 1 ∨ a = 2 ∨ a = 3 ∨ a = 4 ∨ a = 5 ∨ a = 6
  · rcases cs_1 with rfl | rfl | rfl | rfl | rfl | rfl | rfl
    · refine x_tin (off := 43) 44 dX10_countOf_1 (by decide) (by decide) (by decide) (by decide) ?_
      refine x_aload_n 0 dX10_countOf_44 rfl rfl ?_
      refine x_getR fX10_40 dX10_countOf_45 l0 rfl ?_
      refine y_getI fX10_271 dX10_countOf_48 l11 rfl hI.1 ?_
      refine x_iret rfl dX10_countOf_51 ⟨by rw [if_pos (by omega)], rfl⟩
    · refine x_tin (off := 51) 52 dX10_countOf_1 (by decide) (by decide) (by decide) (by decide) ?_
      refine x_aload_n 0 dX10_countOf_52 rfl rfl ?_
      refine x_getR fX10_40 dX10_countOf_53 l0 rfl ?_
      refine y_getI fX10_173 dX10_countOf_56 l11 rfl hI.2.1 ?_
      refine x_iret rfl dX10_countOf_59 ⟨by rw [if_neg (by omega), if_pos (by omega)], rfl⟩
    · refine x_tin (off := 59) 60 dX10_countOf_1 (by decide) (by decide) (by decide) (by decide) ?_
      refine x_aload_n 0 dX10_countOf_60 rfl rfl ?_
      refine x_getR fX10_40 dX10_countOf_61 l0 rfl ?_
      refine y_getI fX10_386 dX10_countOf_64 l11 rfl hI.2.2.1 ?_
      refine x_iret rfl dX10_countOf_67 ⟨by rw [if_neg (by omega), if_neg (by omega), if_pos (by omega)], rfl⟩
    · refine x_tin (off := 67) 68 dX10_countOf_1 (by decide) (by decide) (by decide) (by decide) ?_
      refine x_aload_n 0 dX10_countOf_68 rfl rfl ?_
      refine x_getR fX10_61 dX10_countOf_69 l0 rfl ?_
      refine y_getI fX10_163 dX10_countOf_72 l60 rfl rfl ?_
      refine x_iret rfl dX10_countOf_75 ⟨by rw [if_neg (by omega), if_neg (by omega), if_neg (by omega), if_pos (by omega)], rfl⟩
    · refine x_tin (off := 75) 76 dX10_countOf_1 (by decide) (by decide) (by decide) (by decide) ?_
      refine x_aload_n 0 dX10_countOf_76 rfl rfl ?_
      refine x_getR fX10_40 dX10_countOf_77 l0 rfl ?_
      refine y_getI fX10_389 dX10_countOf_80 l11 rfl hI.2.2.2.1 ?_
      refine x_iret rfl dX10_countOf_83 ⟨by rw [if_neg (by omega), if_neg (by omega), if_neg (by omega), if_neg (by omega), if_pos (by omega)], rfl⟩
    · refine x_tin (off := 83) 84 dX10_countOf_1 (by decide) (by decide) (by decide) (by decide) ?_
      refine x_aload_n 0 dX10_countOf_84 rfl rfl ?_
      refine x_getR fX10_65 dX10_countOf_85 l0 rfl ?_
      refine y_getI fX10_163 dX10_countOf_88 l63 rfl rfl ?_
      refine x_iret rfl dX10_countOf_91 ⟨by rw [if_neg (by omega), if_neg (by omega), if_neg (by omega), if_neg (by omega), if_neg (by omega), if_pos (by omega)], rfl⟩
    · refine x_tin (off := 91) 92 dX10_countOf_1 (by decide) (by decide) (by decide) (by decide) ?_
      refine x_aload_n 0 dX10_countOf_92 rfl rfl ?_
      refine x_getR fX10_21 dX10_countOf_93 l0 rfl ?_
      refine x_callVu (as := []) (rest := []) vX10_392 (c_X5_there isR) dX10_countOf_96 l3 rfl rfl rfl (Nat.le_of_ble_eq_true rfl) (Nat.le_of_ble_eq_true rfl) (Nat.le_of_ble_eq_true rfl) ?_
      refine x_iret rfl dX10_countOf_99 ⟨by rw [if_neg (by omega), if_neg (by omega), if_neg (by omega), if_neg (by omega), if_neg (by omega), if_neg (by omega), if_pos (by omega)], rfl⟩
  · refine x_tout 100 dX10_countOf_1 (by rw [tiN (by omega)]; omega) (by decide) ?_
    refine x_aload_n 0 dX10_countOf_100 rfl rfl ?_
    refine x_getR fX10_25 dX10_countOf_101 l0 rfl ?_
    refine x_callVu (as := []) (rest := []) vX10_392 (c_X5_there isTx) dX10_countOf_104 l6 rfl rfl rfl (Nat.le_of_ble_eq_true rfl) (Nat.le_of_ble_eq_true rfl) (Nat.le_of_ble_eq_true rfl) ?_
    refine x_iret rfl dX10_countOf_107 ⟨by rw [if_neg (by omega), if_neg (by omega), if_neg (by omega), if_neg (by omega), if_neg (by omega), if_neg (by omega), if_neg (by omega)], rfl⟩

set_option maxHeartbeats 4000000 in
set_option maxRecDepth 100000 in
theorem c_X10_count {S : St} {I : Isl} (hI : IsX 11 I S) (hO : IOK I) {x : Int32} : C 2 60 yX10_count mX10_count [.ref 0, .int x] S (pu (.int (i2 (¬ (0 ≤ x.toInt ∧ x.toInt < 8)) (-1) (if tn x = 0 then nI (iP I) else if tn x = 1 then nI (iM I) else if tn x = 2 then nI (iW I) else if tn x = 3 then S.1 60 0 else if tn x = 4 then nI (iB I) else if tn x = 5 then S.1 63 0 else if tn x = 6 then nI (sm (fun r => if (S.1 4 r).toInt < 0 then 0 else 1) 6) else nI (sm (fun r => if (S.1 7 r).toInt < 0 then 0 else 1) 4)))) (i2 (¬ (0 ≤ x.toInt ∧ x.toInt < 8)) S S)) := by
  have n0 : (nI 0).toInt = 0 := rfl
  have n1 : (nI 1).toInt = 1 := rfl
  have n3 : (nI 3).toInt = 3 := rfl
  have n5 : (nI 5).toInt = 5 := rfl
  have n7 : (nI 7).toInt = 7 := rfl
  have n2 : (nI 2).toInt = 2 := rfl
  have n6 : (nI 6).toInt = 6 := rfl
  refine C.ofX (by decide) rfl (Nat.le_of_ble_eq_true rfl) ?_
  show X 2 60 mX10_count (pu (.int (i2 (¬ (0 ≤ x.toInt ∧ x.toInt < 8)) (-1) (if tn x = 0 then nI (iP I) else if tn x = 1 then nI (iM I) else if tn x = 2 then nI (iW I) else if tn x = 3 then S.1 60 0 else if tn x = 4 then nI (iB I) else if tn x = 5 then S.1 63 0 else if tn x = 6 then nI (sm (fun r => if (S.1 4 r).toInt < 0 then 0 else 1) 6) else nI (sm (fun r => if (S.1 7 r).toInt < 0 then 0 else 1) 4)))) (i2 (¬ (0 ≤ x.toInt ∧ x.toInt < 8)) S S)) 0 [(0, .ref 0), (1, .int x)] [] S
  refine x_iload_n 1 dX10_count_0 rfl rfl ?_
  refine x_if_lt 10 dX10_count_1 (by decide) (fun c_1 => ?_) (fun c_1 => ?_)
  · refine x_iconst (v := -1) dX10_count_10 (by decide) ?_
    refine x_iret rfl dX10_count_11 (p2_0 (by omega))
  · refine x_iload_n 1 dX10_count_4 rfl rfl ?_
    refine x_bipush (v := nI 8) dX10_count_5 (by decide) ?_
    refine z_ic_lt 12 dX10_count_7 (by decide) (by omega) (fun c_7 => ?_) (fun c_7 => ?_)
    · obtain ⟨a, ha, rfl⟩ := nI_ex (x := x) (n := 8) (by omega) (by omega)
      have ea : (nI a).toInt = (a : Int) := tiN (by omega)
      have ta : tn (nI a) = a := tnN (by omega)
      refine x_aload_n 0 dX10_count_12 rfl rfl ?_
      refine x_iload_n 1 dX10_count_13 rfl rfl ?_
      refine x_callVu (as := [_]) (rest := []) vX10_383 (c_X10_countOf hI hO ha) dX10_count_14 l0 rfl rfl rfl (Nat.le_of_ble_eq_true rfl) (Nat.le_of_ble_eq_true rfl) (Nat.le_of_ble_eq_true rfl) ?_
      refine x_iret rfl dX10_count_17 (by simp only [ta]; exact p2_1 (by omega))
    · refine x_iconst (v := -1) dX10_count_10 (by decide) ?_
      refine x_iret rfl dX10_count_11 (p2_0 (by omega))

theorem sm_zero {f : Nat → Nat} : ∀ {n : Nat}, (∀ i, i < n → f i = 0) → sm f n = 0
  | 0, _ => rfl
  | n + 1, h => by rw [sm_s, sm_zero (fun i hi => h i (Nat.lt_succ_of_lt hi)), h n (Nat.lt_succ_self n)]

set_option maxHeartbeats 4000000 in
set_option maxRecDepth 100000 in
theorem c_X10_saw {S : St} {I : Isl} (hI : IsX 11 I S) (hO : IOK I) {c : Nat} (h0 : S.1 63 0 = nI c) (hc : c ≤ 8) {x y : Int32} : C 2 60 yX10_saw mX10_saw [.ref 0, .int x, .int y] S (pu (.int (i3 (¬ ((0 ≤ x.toInt ∧ x.toInt < (iW I : Int)) ∧ 0 ≤ y.toInt ∧ y.toInt ≤ 1)) (c = 8) (-1) (-2) (nI c))) (i3 (¬ ((0 ≤ x.toInt ∧ x.toInt < (iW I : Int)) ∧ 0 ≤ y.toInt ∧ y.toInt ≤ 1)) (c = 8) S S (setI (setI (setI S 64 c x) 65 c y) 63 0 (nI (c + 1))))) := by
  have n0 : (nI 0).toInt = 0 := rfl
  have n1 : (nI 1).toInt = 1 := rfl
  have n3 : (nI 3).toInt = 3 := rfl
  have n5 : (nI 5).toInt = 5 := rfl
  have n7 : (nI 7).toInt = 7 := rfl
  have n2 : (nI 2).toInt = 2 := rfl
  have n6 : (nI 6).toInt = 6 := rfl
  have hO1 := hO.1
  have hO2 := hO.2.1
  have hO3 := hO.2.2.1
  have hO4 := hO.2.2.2.1
  refine C.ofX (by decide) rfl (Nat.le_of_ble_eq_true rfl) ?_
  show X 2 60 mX10_saw (pu (.int (i3 (¬ ((0 ≤ x.toInt ∧ x.toInt < (iW I : Int)) ∧ 0 ≤ y.toInt ∧ y.toInt ≤ 1)) (c = 8) (-1) (-2) (nI c))) (i3 (¬ ((0 ≤ x.toInt ∧ x.toInt < (iW I : Int)) ∧ 0 ≤ y.toInt ∧ y.toInt ≤ 1)) (c = 8) S S (setI (setI (setI S 64 c x) 65 c y) 63 0 (nI (c + 1))))) 0 [(0, .ref 0), (1, .int x), (2, .int y)] [] S
  refine x_aload_n 0 dX10_saw_0 rfl rfl ?_
  refine x_getR fX10_40 dX10_saw_1 l0 rfl ?_
  refine x_iload_n 1 dX10_saw_4 rfl rfl ?_
  refine x_callVb (as := [_]) (rest := []) vX10_218 (c_X1_isWork (Or.inl rfl) hI hO) dX10_saw_5 l11 rfl rfl rfl (Nat.le_of_ble_eq_true rfl) (Nat.le_of_ble_eq_true rfl) (Nat.le_of_ble_eq_true rfl) (fun c_5 => ?_) (fun c_5 => ?_)
  · refine u_if_eq 20 dX10_saw_8 (by decide) (by decide) ?_
    refine x_iload_n 2 dX10_saw_11 rfl rfl ?_
    refine x_if_lt 20 dX10_saw_12 (by decide) (fun c_12 => ?_) (fun c_12 => ?_)
    · refine x_iconst (v := -1) dX10_saw_20 (by decide) ?_
      refine x_iret rfl dX10_saw_21 (p3_0 (by omega))
    · refine x_iload_n 2 dX10_saw_15 rfl rfl ?_
      refine x_iconst (v := nI 1) dX10_saw_16 (by decide) ?_
      refine z_ic_le 22 dX10_saw_17 (by decide) (by omega) (fun c_17 => ?_) (fun c_17 => ?_)
      · refine x_aload_n 0 dX10_saw_22 rfl rfl ?_
        refine x_getR fX10_65 dX10_saw_23 l0 rfl ?_
        refine x_callVb (as := []) (rest := []) vX10_240 (c_X2_isFull (Or.inr ⟨rfl, rfl⟩) h0 hc) dX10_saw_26 l63 rfl rfl rfl (Nat.le_of_ble_eq_true rfl) (Nat.le_of_ble_eq_true rfl) (Nat.le_of_ble_eq_true rfl) (fun c_26 => ?_) (fun c_26 => ?_)
        · refine u_if_eq 35 dX10_saw_29 (by decide) (by decide) ?_
          refine x_bipush (v := -2) dX10_saw_32 (by decide) ?_
          refine x_iret rfl dX10_saw_34 (p3_1 (by omega) (by omega))
        · refine t_if_eq 35 dX10_saw_29 (by decide) (by decide) ?_
          refine x_aload_n 0 dX10_saw_35 rfl rfl ?_
          refine x_getR fX10_65 dX10_saw_36 l0 rfl ?_
          refine x_iload_n 1 dX10_saw_39 rfl rfl ?_
          refine x_iload_n 2 dX10_saw_40 rfl rfl ?_
          refine x_callVv (as := [_, _]) (rest := []) vX10_247 (c_X2_add (c := 8) (Or.inr ⟨rfl, rfl⟩) h0 (by omega)) dX10_saw_41 l63 rfl rfl rfl (Nat.le_of_ble_eq_true rfl) (Nat.le_of_ble_eq_true rfl) (Nat.le_of_ble_eq_true rfl) ?_
          refine x_aload_n 0 dX10_saw_44 rfl rfl ?_
          refine x_getR fX10_65 dX10_saw_45 l0 rfl ?_
          refine y_getI fX10_163 dX10_saw_48 l63 rfl rdI_eq ?_
          refine x_iconst (v := nI 1) dX10_saw_51 (by decide) ?_
          refine y_isub dX10_saw_52 (by omega) ?_
          rw [show ((c + 1) - 1) = c from by omega]
          refine x_iret rfl dX10_saw_53 (p3_2 (by omega) (by omega))
      · refine x_iconst (v := -1) dX10_saw_20 (by decide) ?_
        refine x_iret rfl dX10_saw_21 (p3_0 (by omega))
  · refine t_if_eq 20 dX10_saw_8 (by decide) (by decide) ?_
    refine x_iconst (v := -1) dX10_saw_20 (by decide) ?_
    refine x_iret rfl dX10_saw_21 (p3_0 (by omega))

set_option maxHeartbeats 4000000 in
set_option maxRecDepth 100000 in
theorem c_X10_forget {S : St} {c : Nat} (h0 : S.1 63 0 = nI c) (hc : c ≤ 8) {x : Int32} : C 0 0 yX10_forget mX10_forget [.ref 0, .int x] S (pu (.int (i2 (¬ (0 ≤ x.toInt ∧ x.toInt ≤ (c : Int))) (-1) (nI (c - tn x)))) (i2 (¬ (0 ≤ x.toInt ∧ x.toInt ≤ (c : Int))) S (setI S 63 0 x))) := by
  have n0 : (nI 0).toInt = 0 := rfl
  have n1 : (nI 1).toInt = 1 := rfl
  have n3 : (nI 3).toInt = 3 := rfl
  have n5 : (nI 5).toInt = 5 := rfl
  have n7 : (nI 7).toInt = 7 := rfl
  have n2 : (nI 2).toInt = 2 := rfl
  have n6 : (nI 6).toInt = 6 := rfl
  refine C.ofX (by decide) rfl (Nat.le_of_ble_eq_true rfl) ?_
  show X 0 0 mX10_forget (pu (.int (i2 (¬ (0 ≤ x.toInt ∧ x.toInt ≤ (c : Int))) (-1) (nI (c - tn x)))) (i2 (¬ (0 ≤ x.toInt ∧ x.toInt ≤ (c : Int))) S (setI S 63 0 x))) 0 [(0, .ref 0), (1, .int x)] [] S
  refine x_iload_n 1 dX10_forget_0 rfl rfl ?_
  refine x_if_lt 15 dX10_forget_1 (by decide) (fun c_1 => ?_) (fun c_1 => ?_)
  · refine x_iconst (v := -1) dX10_forget_15 (by decide) ?_
    refine x_iret rfl dX10_forget_16 (p2_0 (by omega))
  · refine x_iload_n 1 dX10_forget_4 rfl rfl ?_
    refine x_aload_n 0 dX10_forget_5 rfl rfl ?_
    refine x_getR fX10_65 dX10_forget_6 l0 rfl ?_
    refine y_getI fX10_163 dX10_forget_9 l63 rfl h0 ?_
    refine z_ic_le 17 dX10_forget_12 (by decide) (by omega) (fun c_12 => ?_) (fun c_12 => ?_)
    · obtain ⟨a, ha, rfl⟩ := nI_ex (x := x) (n := 9) (by omega) (by omega)
      have ea : (nI a).toInt = (a : Int) := tiN (by omega)
      have ta : tn (nI a) = a := tnN (by omega)
      refine x_aload_n 0 dX10_forget_17 rfl rfl ?_
      refine x_getR fX10_65 dX10_forget_18 l0 rfl ?_
      refine y_getI fX10_163 dX10_forget_21 l63 rfl h0 ?_
      refine x_iload_n 1 dX10_forget_24 rfl rfl ?_
      refine y_isub dX10_forget_25 (by omega) ?_
      refine x_istore_n (lv' := [(2, _), (0, _), (1, _)]) dX10_forget_26 rfl (by decide) rfl ?_
      refine x_aload_n 1 dX10_forget_27 rfl rfl ?_
      refine x_getR fX10_65 dX10_forget_28 l0 rfl ?_
      refine x_iload_n 2 dX10_forget_31 rfl rfl ?_
      refine x_putI pX10_163 dX10_forget_32 l63 rfl ?_
      refine x_iload_n 0 dX10_forget_35 rfl rfl ?_
      refine x_iret rfl dX10_forget_36 (by simp only [ta]; exact p2_1 (by omega))
    · refine x_iconst (v := -1) dX10_forget_15 (by decide) ?_
      refine x_iret rfl dX10_forget_16 (p2_0 (by omega))

set_option maxHeartbeats 4000000 in
set_option maxRecDepth 100000 in
theorem c_X10_load {S : St} {I : Isl} (hI : IsX 11 I S) (hO : IOK I) {w : Nat → Nat} (hP : PlT 35 I w S) {x : Int32} : C 1 30 yX10_load mX10_load [.ref 0, .int x] S (pu (.int (i2 (¬ (0 ≤ x.toInt ∧ x.toInt < (iP I : Int))) (-1) (nI (loadF I w (tn x))))) (i2 (¬ (0 ≤ x.toInt ∧ x.toInt < (iP I : Int))) S (setI S 1 0 (nI (heldF I w (tn x)))))) := by
  have n0 : (nI 0).toInt = 0 := rfl
  have n1 : (nI 1).toInt = 1 := rfl
  have n3 : (nI 3).toInt = 3 := rfl
  have n5 : (nI 5).toInt = 5 := rfl
  have n7 : (nI 7).toInt = 7 := rfl
  have n2 : (nI 2).toInt = 2 := rfl
  have n6 : (nI 6).toInt = 6 := rfl
  have hO1 := hO.1
  have hO2 := hO.2.1
  have hO3 := hO.2.2.1
  have hO4 := hO.2.2.2.1
  refine C.ofX (by decide) rfl (Nat.le_of_ble_eq_true rfl) ?_
  show X 1 30 mX10_load (pu (.int (i2 (¬ (0 ≤ x.toInt ∧ x.toInt < (iP I : Int))) (-1) (nI (loadF I w (tn x))))) (i2 (¬ (0 ≤ x.toInt ∧ x.toInt < (iP I : Int))) S (setI S 1 0 (nI (heldF I w (tn x)))))) 0 [(0, .ref 0), (1, .int x)] [] S
  refine x_aload_n 0 dX10_load_0 rfl rfl ?_
  refine x_getR fX10_40 dX10_load_1 l0 rfl ?_
  refine x_iload_n 1 dX10_load_4 rfl rfl ?_
  refine x_callVb (as := [_]) (rest := []) vX10_224 (c_X1_isPerson (Or.inl rfl) hI hO) dX10_load_5 l11 rfl rfl rfl (Nat.le_of_ble_eq_true rfl) (Nat.le_of_ble_eq_true rfl) (Nat.le_of_ble_eq_true rfl) (fun c_5 => ?_) (fun c_5 => ?_)
  · refine t_if_ne 13 dX10_load_8 (by decide) (by decide) ?_
    obtain ⟨a, ha, rfl⟩ := nI_ex (x := x) (n := iP I) (by omega) (by omega)
    have ea : (nI a).toInt = (a : Int) := tiN (by omega)
    have ta : tn (nI a) = a := tnN (by omega)
    refine x_aload_n 0 dX10_load_13 rfl rfl ?_
    refine x_getR fX10_10 dX10_load_14 l0 rfl ?_
    refine x_aload_n 0 dX10_load_17 rfl rfl ?_
    refine x_getR fX10_49 dX10_load_18 l0 rfl ?_
    refine x_iload_n 1 dX10_load_21 rfl rfl ?_
    refine x_callVu (as := [_]) (rest := [_]) vX10_210 (c_X3_heldBy (p := a) (Or.inl rfl) hI hO hP (by omega)) dX10_load_22 l35 rfl rfl rfl (Nat.le_of_ble_eq_true rfl) (Nat.le_of_ble_eq_true rfl) (Nat.le_of_ble_eq_true rfl) ?_
    rw [if_pos (show a ≤ 4 by omega)]
    refine x_callVu (as := [_]) (rest := []) vX10_131 c_X9_tell dX10_load_25 l1 rfl rfl rfl (Nat.le_of_ble_eq_true rfl) (Nat.le_of_ble_eq_true rfl) (Nat.le_of_ble_eq_true rfl) ?_
    refine x_pop dX10_load_28 rfl ?_
    refine x_aload_n 0 dX10_load_29 rfl rfl ?_
    refine x_getR fX10_49 dX10_load_30 l0 rfl ?_
    refine x_iload_n 1 dX10_load_33 rfl rfl ?_
    refine x_callVu (as := [_]) (rest := []) vX10_201 (c_X3_loadOf (p := a) (w := w) (S := setI S 1 0 (nI (heldF I w a))) (Or.inl rfl) (hI.keep (fun c h1 h2 b => rdI_k (by omega))) hO (hP.keep (fun c h1 h2 b => rdI_k (by omega))) (by omega)) dX10_load_34 l35 rfl rfl rfl (Nat.le_of_ble_eq_true rfl) (Nat.le_of_ble_eq_true rfl) (Nat.le_of_ble_eq_true rfl) ?_
    rw [if_pos (show a ≤ 4 by omega)]
    refine x_iret rfl dX10_load_37 (by simp only [ta]; exact p2_1 (by omega))
  · refine u_if_ne 13 dX10_load_8 (by decide) (by decide) ?_
    refine x_iconst (v := -1) dX10_load_11 (by decide) ?_
    refine x_iret rfl dX10_load_12 (p2_0 (by omega))

set_option maxHeartbeats 4000000 in
set_option maxRecDepth 100000 in
theorem c_X10_can {S : St} {I : Isl} (hI : IsX 11 I S) (hO : IOK I) {w : Nat → Nat} (hP : PlT 35 I w S) (hT : IsT I S) : C 1 30 yX10_can mX10_can [.ref 0] S (pu (.int (nI (dbF I w (iW I)))) (setI S 1 0 (nI (wthF I (dbF I w (iW I)))))) := by
  have hO1 := hO.1
  have hO2 := hO.2.1
  have hO3 := hO.2.2.1
  have hO4 := hO.2.2.2.1
  have hd : dbF I w (iW I) < 2 ^ iW I := mk_lt _ _
  have h8 : 2 ^ iW I ≤ 2 ^ 8 := Nat.pow_le_pow_right (by decide) hO3
  refine C.ofX (by decide) rfl (Nat.le_of_ble_eq_true rfl) ?_
  show X 1 30 mX10_can (pu (.int (nI (dbF I w (iW I)))) (setI S 1 0 (nI (wthF I (dbF I w (iW I)))))) 0 [(0, .ref 0)] [] S
  refine x_aload_n 0 dX10_can_0 rfl rfl ?_
  refine x_getR fX10_49 dX10_can_1 l0 rfl ?_
  refine x_callVu (as := []) (rest := []) vX10_283 (c_X3_doable (Or.inl rfl) hI hO hP) dX10_can_4 l35 rfl rfl rfl (Nat.le_of_ble_eq_true rfl) (Nat.le_of_ble_eq_true rfl) (Nat.le_of_ble_eq_true rfl) ?_
  refine x_istore_n (lv' := [(1, _), (0, _)]) dX10_can_7 rfl (by decide) rfl ?_
  refine x_aload_n 1 dX10_can_8 rfl rfl ?_
  refine x_getR fX10_10 dX10_can_9 l0 rfl ?_
  refine x_aload_n 1 dX10_can_12 rfl rfl ?_
  refine x_getR fX10_40 dX10_can_13 l0 rfl ?_
  refine x_iload_n 0 dX10_can_16 rfl rfl ?_
  refine x_callVu (as := [_]) (rest := [_]) vX10_286 (c_X1_worthOf (by omega) (hT.2 _ hd)) dX10_can_17 l11 rfl rfl rfl (Nat.le_of_ble_eq_true rfl) (Nat.le_of_ble_eq_true rfl) (Nat.le_of_ble_eq_true rfl) ?_
  refine x_callVu (as := [_]) (rest := []) vX10_131 c_X9_tell dX10_can_20 l1 rfl rfl rfl (Nat.le_of_ble_eq_true rfl) (Nat.le_of_ble_eq_true rfl) (Nat.le_of_ble_eq_true rfl) ?_
  refine x_pop dX10_can_23 rfl ?_
  refine x_iload_n 0 dX10_can_24 rfl rfl ?_
  refine x_iret rfl dX10_can_25 ⟨rfl, rfl⟩

