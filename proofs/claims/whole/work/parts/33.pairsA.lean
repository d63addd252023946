/-! ===== answers and stores in two, three, four cases ===== -/
noncomputable def i2 {α : Type} (p : Prop) (a b : α) : α := @ite α p (Classical.propDecidable p) a b
noncomputable def i3 {α : Type} (p q : Prop) (a b c : α) : α := @ite α p (Classical.propDecidable p) a (@ite α q (Classical.propDecidable q) b c)
noncomputable def i4 {α : Type} (p q r : Prop) (a b c d : α) : α := @ite α p (Classical.propDecidable p) a (@ite α q (Classical.propDecidable q) b (@ite α r (Classical.propDecidable r) c d))
section
variable {p q r : Prop} {a b c d : Int32} {s t u v : St}
theorem p2_0 (h : p) : pu (.int (i2 p a b)) (i2 p s t) (some (.int a)) s := ⟨by unfold i2; rw [if_pos h], by unfold i2; rw [if_pos h]⟩
theorem p2_1 (h : ¬ p) : pu (.int (i2 p a b)) (i2 p s t) (some (.int b)) t := ⟨by unfold i2; rw [if_neg h], by unfold i2; rw [if_neg h]⟩
theorem p3_0 (h : p) : pu (.int (i3 p q a b c)) (i3 p q s t u) (some (.int a)) s := ⟨by unfold i3; rw [if_pos h], by unfold i3; rw [if_pos h]⟩
theorem p3_1 (h : ¬ p) (h2 : q) : pu (.int (i3 p q a b c)) (i3 p q s t u) (some (.int b)) t := ⟨by unfold i3; rw [if_neg h, if_pos h2], by unfold i3; rw [if_neg h, if_pos h2]⟩
theorem p3_2 (h : ¬ p) (h2 : ¬ q) : pu (.int (i3 p q a b c)) (i3 p q s t u) (some (.int c)) u := ⟨by unfold i3; rw [if_neg h, if_neg h2], by unfold i3; rw [if_neg h, if_neg h2]⟩
theorem p4_0 (h : p) : pu (.int (i4 p q r a b c d)) (i4 p q r s t u v) (some (.int a)) s := ⟨by unfold i4; rw [if_pos h], by unfold i4; rw [if_pos h]⟩
theorem p4_1 (h : ¬ p) (h2 : q) : pu (.int (i4 p q r a b c d)) (i4 p q r s t u v) (some (.int b)) t := ⟨by unfold i4; rw [if_neg h, if_pos h2], by unfold i4; rw [if_neg h, if_pos h2]⟩
theorem p4_2 (h : ¬ p) (h2 : ¬ q) (h3 : r) : pu (.int (i4 p q r a b c d)) (i4 p q r s t u v) (some (.int c)) u := ⟨by unfold i4; rw [if_neg h, if_neg h2, if_pos h3], by unfold i4; rw [if_neg h, if_neg h2, if_pos h3]⟩
theorem p4_3 (h : ¬ p) (h2 : ¬ q) (h3 : ¬ r) : pu (.int (i4 p q r a b c d)) (i4 p q r s t u v) (some (.int d)) v := ⟨by unfold i4; rw [if_neg h, if_neg h2, if_neg h3], by unfold i4; rw [if_neg h, if_neg h2, if_neg h3]⟩
theorem i2_same {α : Type} {p : Prop} {a : α} : i2 p a a = a := by unfold i2; split <;> rfl
end
theorem VS.ok {I : Isl} {w : Nat → Nat} {L : Nat} (hO : IOK I) (h : VS I w L) : WOK I w := by
  refine ⟨fun t ht => ?_, fun b hb => ?_⟩
  · have := (h.1 t ht).1
    unfold plcF at this
    have := hO.1
    omega
  · have hg := hO.2.2.2.2.2.1 b hb
    exact (h.1 _ hg.1).2.2 hg.2
theorem VS.whom {I : Isl} {w : Nat → Nat} {L : Nat} (hO : IOK I) (h : VS I w L) : ∀ t, t < iM I → plcF I (whomF I w t) := by
  intro t ht
  unfold whomF
  by_cases q : w t ≤ 4
  · rw [if_pos q]; exact (h.1 t ht).1
  · rw [if_neg q]
    have hw := (h.ok hO).1 t ht
    exact (h.1 _ (hO.2.2.2.2.2.1 (w t - 5) (by omega)).1).1

set_option maxHeartbeats 4000000 in
set_option maxRecDepth 100000 in
theorem c_X10_asked {S : St} : C 0 0 yX10_asked mX10_asked [.ref 0] S (pu (.int (S.1 1 0)) S) := by
  refine C.ofX (by decide) rfl (Nat.le_of_ble_eq_true rfl) ?_
  show X 0 0 mX10_asked (pu (.int (S.1 1 0)) S) 0 [(0, .ref 0)] [] S
  refine x_aload_n 0 dX10_asked_0 rfl rfl ?_
  refine x_getR fX10_10 dX10_asked_1 l0 rfl ?_
  refine y_getI fX10_373 dX10_asked_4 l1 rfl rfl ?_
  refine x_iret rfl dX10_asked_7 ⟨rfl, rfl⟩

set_option maxHeartbeats 4000000 in
set_option maxRecDepth 100000 in
theorem c_X10_finding {S : St} : C 0 0 yX10_finding mX10_finding [.ref 0] S (pu (.int (S.1 1 3)) S) := by
  refine C.ofX (by decide) rfl (Nat.le_of_ble_eq_true rfl) ?_
  show X 0 0 mX10_finding (pu (.int (S.1 1 3)) S) 0 [(0, .ref 0)] [] S
  refine x_aload_n 0 dX10_finding_0 rfl rfl ?_
  refine x_getR fX10_10 dX10_finding_1 l0 rfl ?_
  refine y_getI fX10_395 dX10_finding_4 l1 rfl rfl ?_
  refine x_iret rfl dX10_finding_7 ⟨rfl, rfl⟩

set_option maxHeartbeats 4000000 in
set_option maxRecDepth 100000 in
theorem c_X10_upper {S : St} : C 0 0 yX10_upper mX10_upper [.ref 0] S (pu (.long (S.2 1 1)) S) := by
  refine C.ofX (by decide) rfl (Nat.le_of_ble_eq_true rfl) ?_
  show X 0 0 mX10_upper (pu (.long (S.2 1 1)) S) 0 [(0, .ref 0)] [] S
  refine x_aload_n 0 dX10_upper_0 rfl rfl ?_
  refine x_getR fX10_10 dX10_upper_1 l0 rfl ?_
  refine y_getL fX10_376 dX10_upper_4 l1 rfl rfl ?_
  refine x_lret rfl dX10_upper_7 ⟨rfl, rfl⟩

set_option maxHeartbeats 4000000 in
set_option maxRecDepth 100000 in
theorem c_X10_lower {S : St} : C 0 0 yX10_lower mX10_lower [.ref 0] S (pu (.long (S.2 1 2)) S) := by
  refine C.ofX (by decide) rfl (Nat.le_of_ble_eq_true rfl) ?_
  show X 0 0 mX10_lower (pu (.long (S.2 1 2)) S) 0 [(0, .ref 0)] [] S
  refine x_aload_n 0 dX10_lower_0 rfl rfl ?_
  refine x_getR fX10_10 dX10_lower_1 l0 rfl ?_
  refine y_getL fX10_380 dX10_lower_4 l1 rfl rfl ?_
  refine x_lret rfl dX10_lower_7 ⟨rfl, rfl⟩

set_option maxHeartbeats 4000000 in
set_option maxRecDepth 100000 in
theorem c_X11_asked {S : St} : C 0 0 yX11_asked mX11_asked [.ref 83] S (pu (.int (S.1 83 2)) S) := by
  refine C.ofX (by decide) rfl (Nat.le_of_ble_eq_true rfl) ?_
  show X 0 0 mX11_asked (pu (.int (S.1 83 2)) S) 0 [(0, .ref 83)] [] S
  refine x_aload_n 0 dX11_asked_0 rfl rfl ?_
  refine y_getI fX11_102 dX11_asked_1 l83 rfl rfl ?_
  refine x_iret rfl dX11_asked_4 ⟨rfl, rfl⟩

set_option maxHeartbeats 4000000 in
set_option maxRecDepth 100000 in
theorem c_X11_finding {S : St} : C 0 0 yX11_finding mX11_finding [.ref 83] S (pu (.int (S.1 83 0)) S) := by
  refine C.ofX (by decide) rfl (Nat.le_of_ble_eq_true rfl) ?_
  show X 0 0 mX11_finding (pu (.int (S.1 83 0)) S) 0 [(0, .ref 83)] [] S
  refine x_aload_n 0 dX11_finding_0 rfl rfl ?_
  refine y_getI fX11_95 dX11_finding_1 l83 rfl rfl ?_
  refine x_iret rfl dX11_finding_4 ⟨rfl, rfl⟩

set_option maxHeartbeats 4000000 in
set_option maxRecDepth 100000 in
theorem c_X11_upper {S : St} : C 0 0 yX11_upper mX11_upper [.ref 83] S (pu (.long (S.2 83 3)) S) := by
  refine C.ofX (by decide) rfl (Nat.le_of_ble_eq_true rfl) ?_
  show X 0 0 mX11_upper (pu (.long (S.2 83 3)) S) 0 [(0, .ref 83)] [] S
  refine x_aload_n 0 dX11_upper_0 rfl rfl ?_
  refine y_getL fX11_105 dX11_upper_1 l83 rfl rfl ?_
  refine x_lret rfl dX11_upper_4 ⟨rfl, rfl⟩

set_option maxHeartbeats 4000000 in
set_option maxRecDepth 100000 in
theorem c_X11_lower {S : St} : C 0 0 yX11_lower mX11_lower [.ref 83] S (pu (.long (S.2 83 4)) S) := by
  refine C.ofX (by decide) rfl (Nat.le_of_ble_eq_true rfl) ?_
  show X 0 0 mX11_lower (pu (.long (S.2 83 4)) S) 0 [(0, .ref 83)] [] S
  refine x_aload_n 0 dX11_lower_0 rfl rfl ?_
  refine y_getL fX11_87 dX11_lower_1 l83 rfl rfl ?_
  refine x_lret rfl dX11_lower_4 ⟨rfl, rfl⟩

set_option maxHeartbeats 4000000 in
set_option maxRecDepth 100000 in
theorem c_X10_findings {S : St} {x : Int32} : C 0 0 yX10_findings mX10_findings [.ref 0, .int x] S (pu (.int (i2 (¬ (1 ≤ x.toInt ∧ x.toInt ≤ 5)) (-1) (S.1 2 (tn x)))) (i2 (¬ (1 ≤ x.toInt ∧ x.toInt ≤ 5)) S S)) := by
  refine C.ofX (by decide) rfl (Nat.le_of_ble_eq_true rfl) ?_
  show X 0 0 mX10_findings (pu (.int (i2 (¬ (1 ≤ x.toInt ∧ x.toInt ≤ 5)) (-1) (S.1 2 (tn x)))) (i2 (¬ (1 ≤ x.toInt ∧ x.toInt ≤ 5)) S S)) 0 [(0, .ref 0), (1, .int x)] [] S
  refine x_iload_n 1 dX10_findings_0 rfl rfl ?_
  refine x_iconst (v := nI 1) dX10_findings_1 (by decide) ?_
  refine z_ic_lt 10 dX10_findings_2 (by decide) (by omega) (fun c_2 => ?_) (fun c_2 => ?_)
  · refine x_iconst (v := -1) dX10_findings_10 (by decide) ?_
    refine x_iret rfl dX10_findings_11 (p2_0 (by omega))
  · refine x_iload_n 1 dX10_findings_5 rfl rfl ?_
    refine x_iconst (v := nI 5) dX10_findings_6 (by decide) ?_
    refine z_ic_le 12 dX10_findings_7 (by decide) (by omega) (fun c_7 => ?_) (fun c_7 => ?_)
    · obtain ⟨a, ha, rfl⟩ := nI_ex (x := x) (n := 6) (by omega) (by omega)
      have ea : (nI a).toInt = (a : Int) := tiN (by omega)
      have ta : tn (nI a) = a := tnN (by omega)
      refine x_aload_n 0 dX10_findings_12 rfl rfl ?_
      refine x_getR fX10_10 dX10_findings_13 l0 rfl ?_
      refine x_getR fX10_398 dX10_findings_16 l1 rfl ?_
      refine x_iload_n 1 dX10_findings_19 rfl rfl ?_
      refine y_iald dX10_findings_20 l2 (by omega) (by decide) rfl ?_
      refine x_iret rfl dX10_findings_21 (by simp only [ta]; exact p2_1 (by omega))
    · refine x_iconst (v := -1) dX10_findings_10 (by decide) ?_
      refine x_iret rfl dX10_findings_11 (p2_0 (by omega))

set_option maxHeartbeats 4000000 in
set_option maxRecDepth 100000 in
theorem c_X11_findings {S : St} {x : Int32} : C 1 30 yX11_findings mX11_findings [.ref 83, .int x] S (pu (.int (i2 (¬ (1 ≤ x.toInt ∧ x.toInt ≤ 5)) (-1) (S.1 84 (tn x)))) (i2 (¬ (1 ≤ x.toInt ∧ x.toInt ≤ 5)) S S)) := by
  have n0 : (nI 0).toInt = 0 := rfl
  have n1 : (nI 1).toInt = 1 := rfl
  have n3 : (nI 3).toInt = 3 := rfl
  have n5 : (nI 5).toInt = 5 := rfl
  have n7 : (nI 7).toInt = 7 := rfl
  have n2 : (nI 2).toInt = 2 := rfl
  have n6 : (nI 6).toInt = 6 := rfl
  refine C.ofX (by decide) rfl (Nat.le_of_ble_eq_true rfl) ?_
  show X 1 30 mX11_findings (pu (.int (i2 (¬ (1 ≤ x.toInt ∧ x.toInt ≤ 5)) (-1) (S.1 84 (tn x)))) (i2 (¬ (1 ≤ x.toInt ∧ x.toInt ≤ 5)) S S)) 0 [(0, .ref 83), (1, .int x)] [] S
  refine x_iload_n 1 dX11_findings_0 rfl rfl ?_
  refine x_iconst (v := nI 1) dX11_findings_1 (by decide) ?_
  refine x_iconst (v := nI 5) dX11_findings_2 (by decide) ?_
  refine x_callSb (as := [_, _, _]) (rest := []) sX11_98 c_X11_in dX11_findings_3 rfl rfl (Nat.le_of_ble_eq_true rfl) (Nat.le_of_ble_eq_true rfl) (Nat.le_of_ble_eq_true rfl) (fun c_3 => ?_) (fun c_3 => ?_)
  · refine u_if_eq 18 dX11_findings_6 (by decide) (by decide) ?_
    obtain ⟨a, ha, rfl⟩ := nI_ex (x := x) (n := 6) (by omega) (by omega)
    have ea : (nI a).toInt = (a : Int) := tiN (by omega)
    have ta : tn (nI a) = a := tnN (by omega)
    refine x_aload_n 0 dX11_findings_9 rfl rfl ?_
    refine x_getR fX11_7 dX11_findings_10 l83 rfl ?_
    refine x_iload_n 1 dX11_findings_13 rfl rfl ?_
    refine y_iald dX11_findings_14 l84 (by omega) (by decide) rfl ?_
    refine x_goto 19 dX11_findings_15 (by decide) ?_
    refine x_iret rfl dX11_findings_19 (by simp only [ta]; exact p2_1 (by omega))
  · refine t_if_eq 18 dX11_findings_6 (by decide) (by decide) ?_
    refine x_iconst (v := -1) dX11_findings_18 (by decide) ?_
    refine x_iret rfl dX11_findings_19 (p2_0 (by omega))

set_option maxHeartbeats 4000000 in
set_option maxRecDepth 100000 in
theorem c_X10_countOf {S : St} {I : Isl} (hI : IsX 11 I S) (hO : IOK I) {a : Nat} (ha : a < 8) : C 1 30 yX10_countOf mX10_countOf [.ref 0, .int (nI a)] S (pu (.int (if a = 0 then nI (iP I) else if a = 1 then nI (iM I) else if a = 2 then nI (iW I) else if a = 3 then S.1 60 0 else if a = 4 then nI (iB I) else if a = 5 then S.1 63 0 else if a = 6 then nI (sm (fun r => if (S.1 4 r).toInt < 0 then 0 else 1) 6) else nI (sm (fun r => if (S.1 7 r).toInt < 0 then 0 else 1) 4))) S) := by
  refine C.ofX (by decide) rfl (Nat.le_of_ble_eq_true rfl) ?_
  show X 1 30 mX10_countOf (pu (.int (if a = 0 then nI (iP I) else if a = 1 then nI (iM I) else if a = 2 then nI (iW I) else if a = 3 then S.1 60 0 else if a = 4 then nI (iB I) else if a = 5 then S.1 63 0 else if a = 6 then nI (sm (fun r => if (S.1 4 r).toInt < 0 then 0 else 1) 6) else nI (sm (fun r => if (S.1 7 r).toInt < 0 then 0 else 1) 4))) S) 0 [(0, .ref 0), (1, .int (nI a))] [] S
  refine x_iload_n 1 dX10_countOf_0 rfl rfl ?_
  by_cases cs_1 : a = 0 ∨ a = 1 ∨ a = 2 ∨ a = 3 ∨ a = 4 ∨ a = 5 ∨ a = 6
  · rcases cs_1 with rfl | rfl | rfl | rfl | rfl | rfl | rfl
    · refine x_tin (off := 43) 44 dX10_countOf_1 (by decide) (by decide) (by decide) (by decide) ?_
      refine x_aload_n 0 dX10_countOf_44 rfl rfl ?_
      refine x_getR fX10_40 dX10_countOf_45 l0 rfl ?_
      refine y_getI fX10_271 dX10_countOf_48 l11 rfl hI.1 ?_
      refine x_iret rfl dX10_countOf_51 ⟨by rw [if_pos (by omega)], rfl⟩
    · refine x_tin (off := 51) 52 dX10_countOf_1 (by decide) (by decide) (by decide) (by decide) ?_
      refine x_aload_n 0 dX10_countOf_52 rfl rfl ?_
      refine x_getR fX10_40 dX10_countOf_53 l0 rfl ?_
      refine y_getI fX10_173 dX10_countOf_56 l11 rfl hI.2.1 ?_
      refine x_iret rfl dX10_countOf_59 ⟨by rw [if_neg (by omega), if_pos (by omega)], rfl⟩
    · refine x_tin (off := 59) 60 dX10_countOf_1 (by decide) (by decide) (by decide) (by decide) ?_
      refine x_aload_n 0 dX10_countOf_60 rfl rfl ?_
      refine x_getR fX10_40 dX10_countOf_61 l0 rfl ?_
      refine y_getI fX10_386 dX10_countOf_64 l11 rfl hI.2.2.1 ?_
      refine x_iret rfl dX10_countOf_67 ⟨by rw [if_neg (by omega), if_neg (by omega), if_pos (by omega)], rfl⟩
    · refine x_tin (off := 67) 68 dX10_countOf_1 (by decide) (by decide) (by decide) (by decide) ?_
      refine x_aload_n 0 dX10_countOf_68 rfl rfl ?_
      refine x_getR fX10_61 dX10_countOf_69 l0 rfl ?_
      refine y_getI fX10_163 dX10_countOf_72 l60 rfl rfl ?_
      refine x_iret rfl dX10_countOf_75 ⟨by rw [if_neg (by omega), if_neg (by omega), if_neg (by omega), if_pos (by omega)], rfl⟩
    · refine x_tin (off := 75) 76 dX10_countOf_1 (by decide) (by decide) (by decide) (by decide) ?_
      refine x_aload_n 0 dX10_countOf_76 rfl rfl ?_
      refine x_getR fX10_40 dX10_countOf_77 l0 rfl ?_
      refine y_getI fX10_389 dX10_countOf_80 l11 rfl hI.2.2.2.1 ?_
      refine x_iret rfl dX10_countOf_83 ⟨by rw [if_neg (by omega), if_neg (by omega), if_neg (by omega), if_neg (by omega), if_pos (by omega)], rfl⟩
    · refine x_tin (off := 83) 84 dX10_countOf_1 (by decide) (by decide) (by decide) (by decide) ?_
      refine x_aload_n 0 dX10_countOf_84 rfl rfl ?_
      refine x_getR fX10_65 dX10_countOf_85 l0 rfl ?_
      refine y_getI fX10_163 dX10_countOf_88 l63 rfl rfl ?_
      refine x_iret rfl dX10_countOf_91 ⟨by rw [if_neg (by omega), if_neg (by omega), if_neg (by omega), if_neg (by omega), if_neg (by omega), if_pos (by omega)], rfl⟩
    · refine x_tin (off := 91) 92 dX10_countOf_1 (by decide) (by decide) (by decide) (by decide) ?_
      refine x_aload_n 0 dX10_countOf_92 rfl rfl ?_
      refine x_getR fX10_21 dX10_countOf_93 l0 rfl ?_
      refine x_callVu (as := []) (rest := []) vX10_392 (c_X5_there isR) dX10_countOf_96 l3 rfl rfl rfl (Nat.le_of_ble_eq_true rfl) (Nat.le_of_ble_eq_true rfl) (Nat.le_of_ble_eq_true rfl) ?_
      refine x_iret rfl dX10_countOf_99 ⟨by rw [if_neg (by omega), if_neg (by omega), if_neg (by omega), if_neg (by omega), if_neg (by omega), if_neg (by omega), if_pos (by omega)], rfl⟩
  · refine x_tout 100 dX10_countOf_1 (by rw [tiN (by omega)]; omega) (by decide) ?_
    refine x_aload_n 0 dX10_countOf_100 rfl rfl ?_
    refine x_getR fX10_25 dX10_countOf_101 l0 rfl ?_
    refine x_callVu (as := []) (rest := []) vX10_392 (c_X5_there isTx) dX10_countOf_104 l6 rfl rfl rfl (Nat.le_of_ble_eq_true rfl) (Nat.le_of_ble_eq_true rfl) (Nat.le_of_ble_eq_true rfl) ?_
    refine x_iret rfl dX10_countOf_107 ⟨by rw [if_neg (by omega), if_neg (by omega), if_neg (by omega), if_neg (by omega), if_neg (by omega), if_neg (by omega), if_neg (by omega)], rfl⟩

set_option maxHeartbeats 4000000 in
set_option maxRecDepth 100000 in
theorem c_X10_count {S : St} {I : Isl} (hI : IsX 11 I S) (hO : IOK I) {x : Int32} : C 2 60 yX10_count mX10_count [.ref 0, .int x] S (pu (.int (i2 (¬ (0 ≤ x.toInt ∧ x.toInt < 8)) (-1) (if tn x = 0 then nI (iP I) else if tn x = 1 then nI (iM I) else if tn x = 2 then nI (iW I) else if tn x = 3 then S.1 60 0 else if tn x = 4 then nI (iB I) else if tn x = 5 then S.1 63 0 else if tn x = 6 then nI (sm (fun r => if (S.1 4 r).toInt < 0 then 0 else 1) 6) else nI (sm (fun r => if (S.1 7 r).toInt < 0 then 0 else 1) 4)))) (i2 (¬ (0 ≤ x.toInt ∧ x.toInt < 8)) S S)) := by
  have n0 : (nI 0).toInt = 0 := rfl
  have n1 : (nI 1).toInt = 1 := rfl
  have n3 : (nI 3).toInt = 3 := rfl
  have n5 : (nI 5).toInt = 5 := rfl
  have n7 : (nI 7).toInt = 7 := rfl
  have n2 : (nI 2).toInt = 2 := rfl
  have n6 : (nI 6).toInt = 6 := rfl
  refine C.ofX (by decide) rfl (Nat.le_of_ble_eq_true rfl) ?_
  show X 2 60 mX10_count (pu (.int (i2 (¬ (0 ≤ x.toInt ∧ x.toInt < 8)) (-1) (if tn x = 0 then nI (iP I) else if tn x = 1 then nI (iM I) else if tn x = 2 then nI (iW I) else if tn x = 3 then S.1 60 0 else if tn x = 4 then nI (iB I) else if tn x = 5 then S.1 63 0 else if tn x = 6 then nI (sm (fun r => if (S.1 4 r).toInt < 0 then 0 else 1) 6) else nI (sm (fun r => if (S.1 7 r).toInt < 0 then 0 else 1) 4)))) (i2 (¬ (0 ≤ x.toInt ∧ x.toInt < 8)) S S)) 0 [(0, .ref 0), (1, .int x)] [] S
  refine x_iload_n 1 dX10_count_0 rfl rfl ?_
  refine x_if_lt 10 dX10_count_1 (by decide) (fun c_1 => ?_) (fun c_1 => ?_)
  · refine x_iconst (v := -1) dX10_count_10 (by decide) ?_
    refine x_iret rfl dX10_count_11 (p2_0 (by omega))
  · refine x_iload_n 1 dX10_count_4 rfl rfl ?_
    refine x_bipush (v := nI 8) dX10_count_5 (by decide) ?_
    refine z_ic_lt 12 dX10_count_7 (by decide) (by omega) (fun c_7 => ?_) (fun c_7 => ?_)
    · obtain ⟨a, ha, rfl⟩ := nI_ex (x := x) (n := 8) (by omega) (by omega)
      have ea : (nI a).toInt = (a : Int) := tiN (by omega)
      have ta : tn (nI a) = a := tnN (by omega)
      refine x_aload_n 0 dX10_count_12 rfl rfl ?_
      refine x_iload_n 1 dX10_count_13 rfl rfl ?_
      refine x_callVu (as := [_]) (rest := []) vX10_383 (c_X10_countOf hI hO ha) dX10_count_14 l0 rfl rfl rfl (Nat.le_of_ble_eq_true rfl) (Nat.le_of_ble_eq_true rfl) (Nat.le_of_ble_eq_true rfl) ?_
      refine x_iret rfl dX10_count_17 (by simp only [ta]; exact p2_1 (by omega))
    · refine x_iconst (v := -1) dX10_count_10 (by decide) ?_
      refine x_iret rfl dX10_count_11 (p2_0 (by omega))

theorem sm_zero {f : Nat → Nat} : ∀ {n : Nat}, (∀ i, i < n → f i = 0) → sm f n = 0
  | 0, _ => rfl
  | n + 1, h => by rw [sm_s, sm_zero (fun i hi => h i (Nat.lt_succ_of_lt hi)), h n (Nat.lt_succ_self n)]

set_option maxHeartbeats 4000000 in
set_option maxRecDepth 100000 in
theorem lp_counted2 {S : St} {I : Isl} (hI : IsM I S) (hO : IOK I) {a : Nat} (ha : a < 8) : ∀ (i : Nat) (S1 : St), S1 = S → i ≤ 4 → X 0 0 mX11_counted (pu (.int (if a = 0 then nI (iP I) else if a = 1 then nI (iM I) else if a = 2 then nI (iW I) else if a = 3 then S.1 83 29 else if a = 4 then nI (iB I) else if a = 5 then S.1 83 42 else if a = 6 then nI (sm (fun r => if (S.1 85 r).toInt < 0 then 0 else 1) 6) else nI (sm (fun r => if (S.1 88 r).toInt < 0 then 0 else 1) 4))) S) 41 [(3, .int (nI i)), (2, .int (nI (((sm (fun r => if a = 6 ∧ ¬ (S.1 85 r).toInt < 0 then 1 else 0) 6) + (sm (fun r => if a = 7 ∧ ¬ (S.1 88 r).toInt < 0 then 1 else 0) i))))), (0, .ref 83), (1, .int (nI a))] [] S1 := by
  intro i
  induction hm : 4 - i using Nat.strongRecOn generalizing i with
  | _ mm ih =>
    intro S1 hS1 hi
    replace hS1 := hS1.symm
    subst hS1
    have hO1 := hO.1
    refine x_iload_n 0 dX11_counted_41 rfl rfl ?_
    refine x_iconst (v := nI 4) dX11_counted_42 (by decide) ?_
    refine y_ic_ge 75 dX11_counted_43 (by decide) (by omega) (by omega) (fun c_43 => ?_) (fun c_43 => ?_)
    · refine x_iload_n 3 dX11_counted_75 rfl rfl ?_
      by_cases cs_76 : a = 0 ∨ a = 1 ∨ a = 2 ∨ a = 3 ∨ a = 4 ∨ a = 5
      · rcases cs_76 with rfl | rfl | rfl | rfl | rfl | rfl
        · refine x_tin (off := 40) 116 dX11_counted_76 (by decide) (by decide) (by decide) (by decide) ?_
          refine x_aload_n 2 dX11_counted_116 rfl rfl ?_
          refine y_getI fX11_178 dX11_counted_117 l83 rfl hI.1 ?_
          refine x_iret rfl dX11_counted_120 ⟨by rw [if_pos (by omega)], rfl⟩
        · refine x_tin (off := 45) 121 dX11_counted_76 (by decide) (by decide) (by decide) (by decide) ?_
          refine x_aload_n 2 dX11_counted_121 rfl rfl ?_
          refine y_getI fX11_181 dX11_counted_122 l83 rfl hI.2.1 ?_
          refine x_iret rfl dX11_counted_125 ⟨by rw [if_neg (by omega), if_pos (by omega)], rfl⟩
        · refine x_tin (off := 50) 126 dX11_counted_76 (by decide) (by decide) (by decide) (by decide) ?_
          refine x_aload_n 2 dX11_counted_126 rfl rfl ?_
          refine y_getI fX11_184 dX11_counted_127 l83 rfl hI.2.2.2.1 ?_
          refine x_iret rfl dX11_counted_130 ⟨by rw [if_neg (by omega), if_neg (by omega), if_pos (by omega)], rfl⟩
        · refine x_tin (off := 55) 131 dX11_counted_76 (by decide) (by decide) (by decide) (by decide) ?_
          refine x_aload_n 2 dX11_counted_131 rfl rfl ?_
          refine y_getI fX11_190 dX11_counted_132 l83 rfl rfl ?_
          refine x_iret rfl dX11_counted_135 ⟨by rw [if_neg (by omega), if_neg (by omega), if_neg (by omega), if_pos (by omega)], rfl⟩
        · refine x_tin (off := 60) 136 dX11_counted_76 (by decide) (by decide) (by decide) (by decide) ?_
          refine x_aload_n 2 dX11_counted_136 rfl rfl ?_
          refine y_getI fX11_187 dX11_counted_137 l83 rfl hI.2.2.1 ?_
          refine x_iret rfl dX11_counted_140 ⟨by rw [if_neg (by omega), if_neg (by omega), if_neg (by omega), if_neg (by omega), if_pos (by omega)], rfl⟩
        · refine x_tin (off := 65) 141 dX11_counted_76 (by decide) (by decide) (by decide) (by decide) ?_
          refine x_aload_n 2 dX11_counted_141 rfl rfl ?_
          refine y_getI fX11_193 dX11_counted_142 l83 rfl rfl ?_
          refine x_iret rfl dX11_counted_145 ⟨by rw [if_neg (by omega), if_neg (by omega), if_neg (by omega), if_neg (by omega), if_neg (by omega), if_pos (by omega)], rfl⟩
      · refine x_tout 146 dX11_counted_76 (by rw [tiN (by omega)]; omega) (by decide) ?_
        refine x_iload_n 1 dX11_counted_146 rfl rfl ?_
        refine x_iret rfl dX11_counted_147 (by obtain rfl : i = 4 := (by omega); refine ⟨?_, rfl⟩; by_cases h6 : a = 6; subst h6; rw [if_neg (by omega), if_neg (by omega), if_neg (by omega), if_neg (by omega), if_neg (by omega), if_neg (by omega), if_pos rfl, sm_zero (n := 4) (fun i _ => if_neg (by omega)), Nat.add_zero]; refine congrArg some (congrArg Value.int (congrArg nI (sm_congr fun i _ => ?_))); by_cases q : (S.1 85 i).toInt < 0; rw [if_pos q, if_neg (by omega)]; rw [if_neg q, if_pos ⟨rfl, q⟩]; obtain rfl : a = 7 := (by omega); rw [if_neg (by omega), if_neg (by omega), if_neg (by omega), if_neg (by omega), if_neg (by omega), if_neg (by omega), if_neg (by omega), sm_zero (n := 6) (fun i _ => if_neg (by omega)), Nat.zero_add]; refine congrArg some (congrArg Value.int (congrArg nI (sm_congr fun i _ => ?_))); by_cases q : (S.1 88 i).toInt < 0; rw [if_pos q, if_neg (by omega)]; rw [if_neg q, if_pos ⟨rfl, q⟩])
    · refine x_iload_n 1 dX11_counted_46 rfl rfl ?_
      refine x_iload_n 3 dX11_counted_47 rfl rfl ?_
      refine x_bipush (v := nI 7) dX11_counted_48 (by decide) ?_
      refine y_ic_ne 66 dX11_counted_50 (by decide) (by omega) (by omega) (fun c_50 => ?_) (fun c_50 => ?_)
      · refine x_iconst (v := nI 0) dX11_counted_66 (by decide) ?_
        refine y_iadd dX11_counted_67 ?_
        refine x_istore_n (lv' := [(2, _), (3, _), (0, _), (1, _)]) dX11_counted_68 rfl (by decide) rfl ?_
        rw [show (((sm (fun r => if a = 6 ∧ ¬ (S.1 85 r).toInt < 0 then 1 else 0) 6) + (sm (fun r => if a = 7 ∧ ¬ (S.1 88 r).toInt < 0 then 1 else 0) i)) + 0) = ((sm (fun r => if a = 6 ∧ ¬ (S.1 85 r).toInt < 0 then 1 else 0) 6) + (sm (fun r => if a = 7 ∧ ¬ (S.1 88 r).toInt < 0 then 1 else 0) (i + 1))) from by rw [sm_s (f := fun r => if a = 7 ∧ ¬ (S.1 88 r).toInt < 0 then 1 else 0), ← Nat.add_assoc]; first | rw [if_pos (by omega)] | rw [if_neg (by omega)]]
        refine y_iinc (lv' := [(3, _), (2, _), (0, _), (1, _)]) 1 dX11_counted_69 rfl (by decide) rfl ?_
        refine x_goto 41 dX11_counted_72 (by decide) ?_
        refine x_pick (lv' := [(3, _), (2, _), (0, _), (1, _)]) [0, 1, 2, 3] rfl ?_
        exact ih (4 - (i + 1)) (by omega) (i + 1) rfl _ rfl (by omega)
      · refine x_aload_n 2 dX11_counted_53 rfl rfl ?_
        refine x_getR fX11_22 dX11_counted_54 l83 rfl ?_
        refine x_iload_n 0 dX11_counted_57 rfl rfl ?_
        refine y_iald dX11_counted_58 l88 (by omega) (by decide) rfl ?_
        refine x_if_lt 66 dX11_counted_59 (by decide) (fun c_59 => ?_) (fun c_59 => ?_)
        · refine x_iconst (v := nI 0) dX11_counted_66 (by decide) ?_
          refine y_iadd dX11_counted_67 ?_
          refine x_istore_n (lv' := [(2, _), (3, _), (0, _), (1, _)]) dX11_counted_68 rfl (by decide) rfl ?_
          rw [show (((sm (fun r => if a = 6 ∧ ¬ (S.1 85 r).toInt < 0 then 1 else 0) 6) + (sm (fun r => if a = 7 ∧ ¬ (S.1 88 r).toInt < 0 then 1 else 0) i)) + 0) = ((sm (fun r => if a = 6 ∧ ¬ (S.1 85 r).toInt < 0 then 1 else 0) 6) + (sm (fun r => if a = 7 ∧ ¬ (S.1 88 r).toInt < 0 then 1 else 0) (i + 1))) from by rw [sm_s (f := fun r => if a = 7 ∧ ¬ (S.1 88 r).toInt < 0 then 1 else 0), ← Nat.add_assoc]; first | rw [if_pos (by omega)] | rw [if_neg (by omega)]]
          refine y_iinc (lv' := [(3, _), (2, _), (0, _), (1, _)]) 1 dX11_counted_69 rfl (by decide) rfl ?_
          refine x_goto 41 dX11_counted_72 (by decide) ?_
          refine x_pick (lv' := [(3, _), (2, _), (0, _), (1, _)]) [0, 1, 2, 3] rfl ?_
          exact ih (4 - (i + 1)) (by omega) (i + 1) rfl _ rfl (by omega)
        · refine x_iconst (v := nI 1) dX11_counted_62 (by decide) ?_
          refine x_goto 67 dX11_counted_63 (by decide) ?_
          refine y_iadd dX11_counted_67 ?_
          refine x_istore_n (lv' := [(2, _), (3, _), (0, _), (1, _)]) dX11_counted_68 rfl (by decide) rfl ?_
          rw [show (((sm (fun r => if a = 6 ∧ ¬ (S.1 85 r).toInt < 0 then 1 else 0) 6) + (sm (fun r => if a = 7 ∧ ¬ (S.1 88 r).toInt < 0 then 1 else 0) i)) + 1) = ((sm (fun r => if a = 6 ∧ ¬ (S.1 85 r).toInt < 0 then 1 else 0) 6) + (sm (fun r => if a = 7 ∧ ¬ (S.1 88 r).toInt < 0 then 1 else 0) (i + 1))) from by rw [sm_s (f := fun r => if a = 7 ∧ ¬ (S.1 88 r).toInt < 0 then 1 else 0), ← Nat.add_assoc]; first | rw [if_pos (by omega)] | rw [if_neg (by omega)]]
          refine y_iinc (lv' := [(3, _), (2, _), (0, _), (1, _)]) 1 dX11_counted_69 rfl (by decide) rfl ?_
          refine x_goto 41 dX11_counted_72 (by decide) ?_
          refine x_pick (lv' := [(3, _), (2, _), (0, _), (1, _)]) [0, 1, 2, 3] rfl ?_
          exact ih (4 - (i + 1)) (by omega) (i + 1) rfl _ rfl (by omega)

set_option maxHeartbeats 4000000 in
set_option maxRecDepth 100000 in
theorem lp_counted {S : St} {I : Isl} (hI : IsM I S) (hO : IOK I) {a : Nat} (ha : a < 8) : ∀ (i : Nat) (S1 : St), S1 = S → i ≤ 6 → X 0 0 mX11_counted (pu (.int (if a = 0 then nI (iP I) else if a = 1 then nI (iM I) else if a = 2 then nI (iW I) else if a = 3 then S.1 83 29 else if a = 4 then nI (iB I) else if a = 5 then S.1 83 42 else if a = 6 then nI (sm (fun r => if (S.1 85 r).toInt < 0 then 0 else 1) 6) else nI (sm (fun r => if (S.1 88 r).toInt < 0 then 0 else 1) 4))) S) 4 [(3, .int (nI i)), (2, .int (nI ((sm (fun r => if a = 6 ∧ ¬ (S.1 85 r).toInt < 0 then 1 else 0) i)))), (0, .ref 83), (1, .int (nI a))] [] S1 := by
  intro i
  induction hm : 6 - i using Nat.strongRecOn generalizing i with
  | _ mm ih =>
    intro S1 hS1 hi
    replace hS1 := hS1.symm
    subst hS1
    refine x_iload_n 0 dX11_counted_4 rfl rfl ?_
    refine x_bipush (v := nI 6) dX11_counted_5 (by decide) ?_
    refine y_ic_ge 39 dX11_counted_7 (by decide) (by omega) (by omega) (fun c_7 => ?_) (fun c_7 => ?_)
    · refine x_iconst (v := nI 0) dX11_counted_39 (by decide) ?_
      refine x_istore_n (lv' := [(3, _), (2, _), (0, _), (1, _)]) dX11_counted_40 rfl (by decide) rfl ?_
      refine x_pick (lv' := [(3, _), (2, _), (0, _), (1, _)]) [0, 1, 2, 3] rfl ?_
      obtain rfl : i = 6 := (by omega)
      exact lp_counted2 hI hO ha 0 S rfl (Nat.zero_le _)
    · refine x_iload_n 1 dX11_counted_10 rfl rfl ?_
      refine x_iload_n 3 dX11_counted_11 rfl rfl ?_
      refine x_bipush (v := nI 6) dX11_counted_12 (by decide) ?_
      refine y_ic_ne 30 dX11_counted_14 (by decide) (by omega) (by omega) (fun c_14 => ?_) (fun c_14 => ?_)
      · refine x_iconst (v := nI 0) dX11_counted_30 (by decide) ?_
        refine y_iadd dX11_counted_31 ?_
        refine x_istore_n (lv' := [(2, _), (3, _), (0, _), (1, _)]) dX11_counted_32 rfl (by decide) rfl ?_
        rw [show ((sm (fun r => if a = 6 ∧ ¬ (S.1 85 r).toInt < 0 then 1 else 0) i) + 0) = (sm (fun r => if a = 6 ∧ ¬ (S.1 85 r).toInt < 0 then 1 else 0) (i + 1)) from by rw [sm_s]; first | rw [if_pos (by omega)] | rw [if_neg (by omega)]]
        refine y_iinc (lv' := [(3, _), (2, _), (0, _), (1, _)]) 1 dX11_counted_33 rfl (by decide) rfl ?_
        refine x_goto 4 dX11_counted_36 (by decide) ?_
        refine x_pick (lv' := [(3, _), (2, _), (0, _), (1, _)]) [0, 1, 2, 3] rfl ?_
        exact ih (6 - (i + 1)) (by omega) (i + 1) rfl _ rfl (by omega)
      · refine x_aload_n 2 dX11_counted_17 rfl rfl ?_
        refine x_getR fX11_13 dX11_counted_18 l83 rfl ?_
        refine x_iload_n 0 dX11_counted_21 rfl rfl ?_
        refine y_iald dX11_counted_22 l85 (by omega) (by decide) rfl ?_
        refine x_if_lt 30 dX11_counted_23 (by decide) (fun c_23 => ?_) (fun c_23 => ?_)
        · refine x_iconst (v := nI 0) dX11_counted_30 (by decide) ?_
          refine y_iadd dX11_counted_31 ?_
          refine x_istore_n (lv' := [(2, _), (3, _), (0, _), (1, _)]) dX11_counted_32 rfl (by decide) rfl ?_
          rw [show ((sm (fun r => if a = 6 ∧ ¬ (S.1 85 r).toInt < 0 then 1 else 0) i) + 0) = (sm (fun r => if a = 6 ∧ ¬ (S.1 85 r).toInt < 0 then 1 else 0) (i + 1)) from by rw [sm_s]; first | rw [if_pos (by omega)] | rw [if_neg (by omega)]]
          refine y_iinc (lv' := [(3, _), (2, _), (0, _), (1, _)]) 1 dX11_counted_33 rfl (by decide) rfl ?_
          refine x_goto 4 dX11_counted_36 (by decide) ?_
          refine x_pick (lv' := [(3, _), (2, _), (0, _), (1, _)]) [0, 1, 2, 3] rfl ?_
          exact ih (6 - (i + 1)) (by omega) (i + 1) rfl _ rfl (by omega)
        · refine x_iconst (v := nI 1) dX11_counted_26 (by decide) ?_
          refine x_goto 31 dX11_counted_27 (by decide) ?_
          refine y_iadd dX11_counted_31 ?_
          refine x_istore_n (lv' := [(2, _), (3, _), (0, _), (1, _)]) dX11_counted_32 rfl (by decide) rfl ?_
          rw [show ((sm (fun r => if a = 6 ∧ ¬ (S.1 85 r).toInt < 0 then 1 else 0) i) + 1) = (sm (fun r => if a = 6 ∧ ¬ (S.1 85 r).toInt < 0 then 1 else 0) (i + 1)) from by rw [sm_s]; first | rw [if_pos (by omega)] | rw [if_neg (by omega)]]
          refine y_iinc (lv' := [(3, _), (2, _), (0, _), (1, _)]) 1 dX11_counted_33 rfl (by decide) rfl ?_
          refine x_goto 4 dX11_counted_36 (by decide) ?_
          refine x_pick (lv' := [(3, _), (2, _), (0, _), (1, _)]) [0, 1, 2, 3] rfl ?_
          exact ih (6 - (i + 1)) (by omega) (i + 1) rfl _ rfl (by omega)

set_option maxHeartbeats 4000000 in
set_option maxRecDepth 100000 in
theorem c_X11_counted {S : St} {I : Isl} (hI : IsM I S) (hO : IOK I) {a : Nat} (ha : a < 8) : C 0 0 yX11_counted mX11_counted [.ref 83, .int (nI a)] S (pu (.int (if a = 0 then nI (iP I) else if a = 1 then nI (iM I) else if a = 2 then nI (iW I) else if a = 3 then S.1 83 29 else if a = 4 then nI (iB I) else if a = 5 then S.1 83 42 else if a = 6 then nI (sm (fun r => if (S.1 85 r).toInt < 0 then 0 else 1) 6) else nI (sm (fun r => if (S.1 88 r).toInt < 0 then 0 else 1) 4))) S) := by
  refine C.ofX (by decide) rfl (Nat.le_of_ble_eq_true rfl) ?_
  show X 0 0 mX11_counted (pu (.int (if a = 0 then nI (iP I) else if a = 1 then nI (iM I) else if a = 2 then nI (iW I) else if a = 3 then S.1 83 29 else if a = 4 then nI (iB I) else if a = 5 then S.1 83 42 else if a = 6 then nI (sm (fun r => if (S.1 85 r).toInt < 0 then 0 else 1) 6) else nI (sm (fun r => if (S.1 88 r).toInt < 0 then 0 else 1) 4))) S) 0 [(0, .ref 83), (1, .int (nI a))] [] S
  refine x_iconst (v := nI 0) dX11_counted_0 (by decide) ?_
  refine x_istore_n (lv' := [(2, _), (0, _), (1, _)]) dX11_counted_1 rfl (by decide) rfl ?_
  refine x_iconst (v := nI 0) dX11_counted_2 (by decide) ?_
  refine x_istore_n (lv' := [(3, _), (2, _), (0, _), (1, _)]) dX11_counted_3 rfl (by decide) rfl ?_
  refine x_pick (lv' := [(3, _), (2, _), (0, _), (1, _)]) [0, 1, 2, 3] rfl ?_
  exact lp_counted hI hO ha 0 S rfl (Nat.zero_le _)

set_option maxHeartbeats 4000000 in
set_option maxRecDepth 100000 in
theorem c_X11_count {S : St} {I : Isl} (hI : IsM I S) (hO : IOK I) {x : Int32} : C 1 30 yX11_count mX11_count [.ref 83, .int x] S (pu (.int (i2 (¬ (0 ≤ x.toInt ∧ x.toInt < 8)) (-1) (if tn x = 0 then nI (iP I) else if tn x = 1 then nI (iM I) else if tn x = 2 then nI (iW I) else if tn x = 3 then S.1 83 29 else if tn x = 4 then nI (iB I) else if tn x = 5 then S.1 83 42 else if tn x = 6 then nI (sm (fun r => if (S.1 85 r).toInt < 0 then 0 else 1) 6) else nI (sm (fun r => if (S.1 88 r).toInt < 0 then 0 else 1) 4)))) (i2 (¬ (0 ≤ x.toInt ∧ x.toInt < 8)) S S)) := by
  have n0 : (nI 0).toInt = 0 := rfl
  have n1 : (nI 1).toInt = 1 := rfl
  have n3 : (nI 3).toInt = 3 := rfl
  have n5 : (nI 5).toInt = 5 := rfl
  have n7 : (nI 7).toInt = 7 := rfl
  have n2 : (nI 2).toInt = 2 := rfl
  have n6 : (nI 6).toInt = 6 := rfl
  refine C.ofX (by decide) rfl (Nat.le_of_ble_eq_true rfl) ?_
  show X 1 30 mX11_count (pu (.int (i2 (¬ (0 ≤ x.toInt ∧ x.toInt < 8)) (-1) (if tn x = 0 then nI (iP I) else if tn x = 1 then nI (iM I) else if tn x = 2 then nI (iW I) else if tn x = 3 then S.1 83 29 else if tn x = 4 then nI (iB I) else if tn x = 5 then S.1 83 42 else if tn x = 6 then nI (sm (fun r => if (S.1 85 r).toInt < 0 then 0 else 1) 6) else nI (sm (fun r => if (S.1 88 r).toInt < 0 then 0 else 1) 4)))) (i2 (¬ (0 ≤ x.toInt ∧ x.toInt < 8)) S S)) 0 [(0, .ref 83), (1, .int x)] [] S
  refine x_iload_n 1 dX11_count_0 rfl rfl ?_
  refine x_iconst (v := nI 0) dX11_count_1 (by decide) ?_
  refine x_bipush (v := nI 7) dX11_count_2 (by decide) ?_
  refine x_callSb (as := [_, _, _]) (rest := []) sX11_98 c_X11_in dX11_count_4 rfl rfl (Nat.le_of_ble_eq_true rfl) (Nat.le_of_ble_eq_true rfl) (Nat.le_of_ble_eq_true rfl) (fun c_4 => ?_) (fun c_4 => ?_)
  · refine u_if_eq 18 dX11_count_7 (by decide) (by decide) ?_
    obtain ⟨a, ha, rfl⟩ := nI_ex (x := x) (n := 8) (by omega) (by omega)
    have ea : (nI a).toInt = (a : Int) := tiN (by omega)
    have ta : tn (nI a) = a := tnN (by omega)
    refine x_aload_n 0 dX11_count_10 rfl rfl ?_
    refine x_iload_n 1 dX11_count_11 rfl rfl ?_
    refine x_callVu (as := [_]) (rest := []) vX11_339 (c_X11_counted hI hO ha) dX11_count_12 l83 rfl rfl rfl (Nat.le_of_ble_eq_true rfl) (Nat.le_of_ble_eq_true rfl) (Nat.le_of_ble_eq_true rfl) ?_
    refine x_goto 19 dX11_count_15 (by decide) ?_
    refine x_iret rfl dX11_count_19 (by simp only [ta]; exact p2_1 (by omega))
  · refine t_if_eq 18 dX11_count_7 (by decide) (by decide) ?_
    refine x_iconst (v := -1) dX11_count_18 (by decide) ?_
    refine x_iret rfl dX11_count_19 (p2_0 (by omega))

set_option maxHeartbeats 4000000 in
set_option maxRecDepth 100000 in
theorem c_X10_saw {S : St} {I : Isl} (hI : IsX 11 I S) (hO : IOK I) {c : Nat} (h0 : S.1 63 0 = nI c) (hc : c ≤ 8) {x y : Int32} : C 2 60 yX10_saw mX10_saw [.ref 0, .int x, .int y] S (pu (.int (i3 (¬ ((0 ≤ x.toInt ∧ x.toInt < (iW I : Int)) ∧ 0 ≤ y.toInt ∧ y.toInt ≤ 1)) (c = 8) (-1) (-2) (nI c))) (i3 (¬ ((0 ≤ x.toInt ∧ x.toInt < (iW I : Int)) ∧ 0 ≤ y.toInt ∧ y.toInt ≤ 1)) (c = 8) S S (setI (setI (setI S 64 c x) 65 c y) 63 0 (nI (c + 1))))) := by
  have n0 : (nI 0).toInt = 0 := rfl
  have n1 : (nI 1).toInt = 1 := rfl
  have n3 : (nI 3).toInt = 3 := rfl
  have n5 : (nI 5).toInt = 5 := rfl
  have n7 : (nI 7).toInt = 7 := rfl
  have n2 : (nI 2).toInt = 2 := rfl
  have n6 : (nI 6).toInt = 6 := rfl
  have hO1 := hO.1
  have hO2 := hO.2.1
  have hO3 := hO.2.2.1
  have hO4 := hO.2.2.2.1
  refine C.ofX (by decide) rfl (Nat.le_of_ble_eq_true rfl) ?_
  show X 2 60 mX10_saw (pu (.int (i3 (¬ ((0 ≤ x.toInt ∧ x.toInt < (iW I : Int)) ∧ 0 ≤ y.toInt ∧ y.toInt ≤ 1)) (c = 8) (-1) (-2) (nI c))) (i3 (¬ ((0 ≤ x.toInt ∧ x.toInt < (iW I : Int)) ∧ 0 ≤ y.toInt ∧ y.toInt ≤ 1)) (c = 8) S S (setI (setI (setI S 64 c x) 65 c y) 63 0 (nI (c + 1))))) 0 [(0, .ref 0), (1, .int x), (2, .int y)] [] S
  refine x_aload_n 0 dX10_saw_0 rfl rfl ?_
  refine x_getR fX10_40 dX10_saw_1 l0 rfl ?_
  refine x_iload_n 1 dX10_saw_4 rfl rfl ?_
  refine x_callVb (as := [_]) (rest := []) vX10_218 (c_X1_isWork (Or.inl rfl) hI hO) dX10_saw_5 l11 rfl rfl rfl (Nat.le_of_ble_eq_true rfl) (Nat.le_of_ble_eq_true rfl) (Nat.le_of_ble_eq_true rfl) (fun c_5 => ?_) (fun c_5 => ?_)
  · refine u_if_eq 20 dX10_saw_8 (by decide) (by decide) ?_
    refine x_iload_n 2 dX10_saw_11 rfl rfl ?_
    refine x_if_lt 20 dX10_saw_12 (by decide) (fun c_12 => ?_) (fun c_12 => ?_)
    · refine x_iconst (v := -1) dX10_saw_20 (by decide) ?_
      refine x_iret rfl dX10_saw_21 (p3_0 (by omega))
    · refine x_iload_n 2 dX10_saw_15 rfl rfl ?_
      refine x_iconst (v := nI 1) dX10_saw_16 (by decide) ?_
      refine z_ic_le 22 dX10_saw_17 (by decide) (by omega) (fun c_17 => ?_) (fun c_17 => ?_)
      · refine x_aload_n 0 dX10_saw_22 rfl rfl ?_
        refine x_getR fX10_65 dX10_saw_23 l0 rfl ?_
        refine x_callVb (as := []) (rest := []) vX10_240 (c_X2_isFull (Or.inr ⟨rfl, rfl⟩) h0 hc) dX10_saw_26 l63 rfl rfl rfl (Nat.le_of_ble_eq_true rfl) (Nat.le_of_ble_eq_true rfl) (Nat.le_of_ble_eq_true rfl) (fun c_26 => ?_) (fun c_26 => ?_)
        · refine u_if_eq 35 dX10_saw_29 (by decide) (by decide) ?_
          refine x_bipush (v := -2) dX10_saw_32 (by decide) ?_
          refine x_iret rfl dX10_saw_34 (p3_1 (by omega) (by omega))
        · refine t_if_eq 35 dX10_saw_29 (by decide) (by decide) ?_
          refine x_aload_n 0 dX10_saw_35 rfl rfl ?_
          refine x_getR fX10_65 dX10_saw_36 l0 rfl ?_
          refine x_iload_n 1 dX10_saw_39 rfl rfl ?_
          refine x_iload_n 2 dX10_saw_40 rfl rfl ?_
          refine x_callVv (as := [_, _]) (rest := []) vX10_247 (c_X2_add (c := 8) (Or.inr ⟨rfl, rfl⟩) h0 (by omega)) dX10_saw_41 l63 rfl rfl rfl (Nat.le_of_ble_eq_true rfl) (Nat.le_of_ble_eq_true rfl) (Nat.le_of_ble_eq_true rfl) ?_
          refine x_aload_n 0 dX10_saw_44 rfl rfl ?_
          refine x_getR fX10_65 dX10_saw_45 l0 rfl ?_
          refine y_getI fX10_163 dX10_saw_48 l63 rfl rdI_eq ?_
          refine x_iconst (v := nI 1) dX10_saw_51 (by decide) ?_
          refine y_isub dX10_saw_52 (by omega) ?_
          rw [show ((c + 1) - 1) = c from by omega]
          refine x_iret rfl dX10_saw_53 (p3_2 (by omega) (by omega))
      · refine x_iconst (v := -1) dX10_saw_20 (by decide) ?_
        refine x_iret rfl dX10_saw_21 (p3_0 (by omega))
  · refine t_if_eq 20 dX10_saw_8 (by decide) (by decide) ?_
    refine x_iconst (v := -1) dX10_saw_20 (by decide) ?_
    refine x_iret rfl dX10_saw_21 (p3_0 (by omega))

set_option maxHeartbeats 4000000 in
set_option maxRecDepth 100000 in
theorem c_X11_saw {S : St} {I : Isl} (hI : IsM I S) (hO : IOK I) {c : Nat} (h0 : S.1 83 42 = nI c) (hc : c ≤ 8) {x y : Int32} : C 2 60 yX11_saw mX11_saw [.ref 83, .int x, .int y] S (pu (.int (i3 (¬ ((0 ≤ x.toInt ∧ x.toInt < (iW I : Int)) ∧ 0 ≤ y.toInt ∧ y.toInt ≤ 1)) (c = 8) (-1) (-2) (nI c))) (i3 (¬ ((0 ≤ x.toInt ∧ x.toInt < (iW I : Int)) ∧ 0 ≤ y.toInt ∧ y.toInt ≤ 1)) (c = 8) S S (setI (setI (setI S 107 c x) 108 c y) 83 42 (nI (c + 1))))) := by
  have n0 : (nI 0).toInt = 0 := rfl
  have n1 : (nI 1).toInt = 1 := rfl
  have n3 : (nI 3).toInt = 3 := rfl
  have n5 : (nI 5).toInt = 5 := rfl
  have n7 : (nI 7).toInt = 7 := rfl
  have n2 : (nI 2).toInt = 2 := rfl
  have n6 : (nI 6).toInt = 6 := rfl
  have hO1 := hO.1
  have hO2 := hO.2.1
  have hO3 := hO.2.2.1
  have hO4 := hO.2.2.2.1
  refine C.ofX (by decide) rfl (Nat.le_of_ble_eq_true rfl) ?_
  show X 2 60 mX11_saw (pu (.int (i3 (¬ ((0 ≤ x.toInt ∧ x.toInt < (iW I : Int)) ∧ 0 ≤ y.toInt ∧ y.toInt ≤ 1)) (c = 8) (-1) (-2) (nI c))) (i3 (¬ ((0 ≤ x.toInt ∧ x.toInt < (iW I : Int)) ∧ 0 ≤ y.toInt ∧ y.toInt ≤ 1)) (c = 8) S S (setI (setI (setI S 107 c x) 108 c y) 83 42 (nI (c + 1))))) 0 [(0, .ref 83), (1, .int x), (2, .int y)] [] S
  refine x_aload_n 0 dX11_saw_0 rfl rfl ?_
  refine x_iload_n 1 dX11_saw_1 rfl rfl ?_
  refine x_callVb (as := [_]) (rest := []) vX11_235 (c_X11_isWork (w := fun _ => 0) hI hO) dX11_saw_2 l83 rfl rfl rfl (Nat.le_of_ble_eq_true rfl) (Nat.le_of_ble_eq_true rfl) (Nat.le_of_ble_eq_true rfl) (fun c_2 => ?_) (fun c_2 => ?_)
  · refine u_if_eq 17 dX11_saw_5 (by decide) (by decide) ?_
    refine x_iload_n 2 dX11_saw_8 rfl rfl ?_
    refine x_iconst (v := nI 0) dX11_saw_9 (by decide) ?_
    refine x_iconst (v := nI 1) dX11_saw_10 (by decide) ?_
    refine x_callSb (as := [_, _, _]) (rest := []) sX11_98 c_X11_in dX11_saw_11 rfl rfl (Nat.le_of_ble_eq_true rfl) (Nat.le_of_ble_eq_true rfl) (Nat.le_of_ble_eq_true rfl) (fun c_11 => ?_) (fun c_11 => ?_)
    · refine t_if_ne 19 dX11_saw_14 (by decide) (by decide) ?_
      refine x_aload_n 0 dX11_saw_19 rfl rfl ?_
      refine y_getI fX11_193 dX11_saw_20 l83 rfl h0 ?_
      refine x_bipush (v := nI 8) dX11_saw_23 (by decide) ?_
      refine y_ic_ne 31 dX11_saw_25 (by decide) (by omega) (by omega) (fun c_25 => ?_) (fun c_25 => ?_)
      · refine x_aload_n 0 dX11_saw_31 rfl rfl ?_
        refine x_getR fX11_81 dX11_saw_32 l83 rfl ?_
        refine x_aload_n 0 dX11_saw_35 rfl rfl ?_
        refine y_getI fX11_193 dX11_saw_36 l83 rfl h0 ?_
        refine x_iload_n 1 dX11_saw_39 rfl rfl ?_
        refine y_iast dX11_saw_40 l107 (by omega) (by decide) ?_
        refine x_aload_n 0 dX11_saw_41 rfl rfl ?_
        refine x_getR fX11_84 dX11_saw_42 l83 rfl ?_
        refine x_aload_n 0 dX11_saw_45 rfl rfl ?_
        refine y_getI fX11_193 dX11_saw_46 l83 rfl (((rdI_k (by decide))).trans h0) ?_
        refine x_iload_n 2 dX11_saw_49 rfl rfl ?_
        refine y_iast dX11_saw_50 l108 (by omega) (by decide) ?_
        refine x_aload_n 0 dX11_saw_51 rfl rfl ?_
        refine x_dup dX11_saw_52 rfl ?_
        refine y_getI fX11_193 dX11_saw_53 l83 rfl ((((rdI_k (by decide))).trans (rdI_k (by decide))).trans h0) ?_
        refine x_iconst (v := nI 1) dX11_saw_56 (by decide) ?_
        refine y_iadd dX11_saw_57 ?_
        refine x_putI pX11_193 dX11_saw_58 l83 rfl ?_
        refine x_aload_n 0 dX11_saw_61 rfl rfl ?_
        refine y_getI fX11_193 dX11_saw_62 l83 rfl rdI_eq ?_
        refine x_iconst (v := nI 1) dX11_saw_65 (by decide) ?_
        refine y_isub dX11_saw_66 (by omega) ?_
        rw [show ((c + 1) - 1) = c from by omega]
        refine x_iret rfl dX11_saw_67 (p3_2 (by omega) (by omega))
      · refine x_bipush (v := -2) dX11_saw_28 (by decide) ?_
        refine x_iret rfl dX11_saw_30 (p3_1 (by omega) (by omega))
    · refine u_if_ne 19 dX11_saw_14 (by decide) (by decide) ?_
      refine x_iconst (v := -1) dX11_saw_17 (by decide) ?_
      refine x_iret rfl dX11_saw_18 (p3_0 (by omega))
  · refine t_if_eq 17 dX11_saw_5 (by decide) (by decide) ?_
    refine x_iconst (v := -1) dX11_saw_17 (by decide) ?_
    refine x_iret rfl dX11_saw_18 (p3_0 (by omega))

set_option maxHeartbeats 4000000 in
set_option maxRecDepth 100000 in
theorem c_X10_forget {S : St} {c : Nat} (h0 : S.1 63 0 = nI c) (hc : c ≤ 8) {x : Int32} : C 0 0 yX10_forget mX10_forget [.ref 0, .int x] S (pu (.int (i2 (¬ (0 ≤ x.toInt ∧ x.toInt ≤ (c : Int))) (-1) (nI (c - tn x)))) (i2 (¬ (0 ≤ x.toInt ∧ x.toInt ≤ (c : Int))) S (setI S 63 0 x))) := by
  have n0 : (nI 0).toInt = 0 := rfl
  have n1 : (nI 1).toInt = 1 := rfl
  have n3 : (nI 3).toInt = 3 := rfl
  have n5 : (nI 5).toInt = 5 := rfl
  have n7 : (nI 7).toInt = 7 := rfl
  have n2 : (nI 2).toInt = 2 := rfl
  have n6 : (nI 6).toInt = 6 := rfl
  refine C.ofX (by decide) rfl (Nat.le_of_ble_eq_true rfl) ?_
  show X 0 0 mX10_forget (pu (.int (i2 (¬ (0 ≤ x.toInt ∧ x.toInt ≤ (c : Int))) (-1) (nI (c - tn x)))) (i2 (¬ (0 ≤ x.toInt ∧ x.toInt ≤ (c : Int))) S (setI S 63 0 x))) 0 [(0, .ref 0), (1, .int x)] [] S
  refine x_iload_n 1 dX10_forget_0 rfl rfl ?_
  refine x_if_lt 15 dX10_forget_1 (by decide) (fun c_1 => ?_) (fun c_1 => ?_)
  · refine x_iconst (v := -1) dX10_forget_15 (by decide) ?_
    refine x_iret rfl dX10_forget_16 (p2_0 (by omega))
  · refine x_iload_n 1 dX10_forget_4 rfl rfl ?_
    refine x_aload_n 0 dX10_forget_5 rfl rfl ?_
    refine x_getR fX10_65 dX10_forget_6 l0 rfl ?_
    refine y_getI fX10_163 dX10_forget_9 l63 rfl h0 ?_
    refine z_ic_le 17 dX10_forget_12 (by decide) (by omega) (fun c_12 => ?_) (fun c_12 => ?_)
    · obtain ⟨a, ha, rfl⟩ := nI_ex (x := x) (n := 9) (by omega) (by omega)
      have ea : (nI a).toInt = (a : Int) := tiN (by omega)
      have ta : tn (nI a) = a := tnN (by omega)
      refine x_aload_n 0 dX10_forget_17 rfl rfl ?_
      refine x_getR fX10_65 dX10_forget_18 l0 rfl ?_
      refine y_getI fX10_163 dX10_forget_21 l63 rfl h0 ?_
      refine x_iload_n 1 dX10_forget_24 rfl rfl ?_
      refine y_isub dX10_forget_25 (by omega) ?_
      refine x_istore_n (lv' := [(2, _), (0, _), (1, _)]) dX10_forget_26 rfl (by decide) rfl ?_
      refine x_aload_n 1 dX10_forget_27 rfl rfl ?_
      refine x_getR fX10_65 dX10_forget_28 l0 rfl ?_
      refine x_iload_n 2 dX10_forget_31 rfl rfl ?_
      refine x_putI pX10_163 dX10_forget_32 l63 rfl ?_
      refine x_iload_n 0 dX10_forget_35 rfl rfl ?_
      refine x_iret rfl dX10_forget_36 (by simp only [ta]; exact p2_1 (by omega))
    · refine x_iconst (v := -1) dX10_forget_15 (by decide) ?_
      refine x_iret rfl dX10_forget_16 (p2_0 (by omega))

set_option maxHeartbeats 4000000 in
set_option maxRecDepth 100000 in
theorem c_X11_forget {S : St} {c : Nat} (h0 : S.1 83 42 = nI c) (hc : c ≤ 8) {x : Int32} : C 1 30 yX11_forget mX11_forget [.ref 83, .int x] S (pu (.int (i2 (¬ (0 ≤ x.toInt ∧ x.toInt ≤ (c : Int))) (-1) (nI (c - tn x)))) (i2 (¬ (0 ≤ x.toInt ∧ x.toInt ≤ (c : Int))) S (setI S 83 42 x))) := by
  have n0 : (nI 0).toInt = 0 := rfl
  have n1 : (nI 1).toInt = 1 := rfl
  have n3 : (nI 3).toInt = 3 := rfl
  have n5 : (nI 5).toInt = 5 := rfl
  have n7 : (nI 7).toInt = 7 := rfl
  have n2 : (nI 2).toInt = 2 := rfl
  have n6 : (nI 6).toInt = 6 := rfl
  have nc : (nI c).toInt = (c : Int) := tiN (by omega)
  refine C.ofX (by decide) rfl (Nat.le_of_ble_eq_true rfl) ?_
  show X 1 30 mX11_forget (pu (.int (i2 (¬ (0 ≤ x.toInt ∧ x.toInt ≤ (c : Int))) (-1) (nI (c - tn x)))) (i2 (¬ (0 ≤ x.toInt ∧ x.toInt ≤ (c : Int))) S (setI S 83 42 x))) 0 [(0, .ref 83), (1, .int x)] [] S
  refine x_iload_n 1 dX11_forget_0 rfl rfl ?_
  refine x_iconst (v := nI 0) dX11_forget_1 (by decide) ?_
  refine x_aload_n 0 dX11_forget_2 rfl rfl ?_
  refine y_getI fX11_193 dX11_forget_3 l83 rfl h0 ?_
  refine x_callSb (as := [_, _, _]) (rest := []) sX11_98 c_X11_in dX11_forget_6 rfl rfl (Nat.le_of_ble_eq_true rfl) (Nat.le_of_ble_eq_true rfl) (Nat.le_of_ble_eq_true rfl) (fun c_6 => ?_) (fun c_6 => ?_)
  · refine t_if_ne 14 dX11_forget_9 (by decide) (by decide) ?_
    obtain ⟨a, ha, rfl⟩ := nI_ex (x := x) (n := 9) (by omega) (by omega)
    have ea : (nI a).toInt = (a : Int) := tiN (by omega)
    have ta : tn (nI a) = a := tnN (by omega)
    refine x_aload_n 0 dX11_forget_14 rfl rfl ?_
    refine y_getI fX11_193 dX11_forget_15 l83 rfl h0 ?_
    refine x_iload_n 1 dX11_forget_18 rfl rfl ?_
    refine y_isub dX11_forget_19 (by omega) ?_
    refine x_istore_n (lv' := [(2, _), (0, _), (1, _)]) dX11_forget_20 rfl (by decide) rfl ?_
    refine x_aload_n 1 dX11_forget_21 rfl rfl ?_
    refine x_iload_n 2 dX11_forget_22 rfl rfl ?_
    refine x_putI pX11_193 dX11_forget_23 l83 rfl ?_
    refine x_iload_n 0 dX11_forget_26 rfl rfl ?_
    refine x_iret rfl dX11_forget_27 (by simp only [ta]; exact p2_1 (by omega))
  · refine u_if_ne 14 dX11_forget_9 (by decide) (by decide) ?_
    refine x_iconst (v := -1) dX11_forget_12 (by decide) ?_
    refine x_iret rfl dX11_forget_13 (p2_0 (by omega))

set_option maxHeartbeats 4000000 in
set_option maxRecDepth 100000 in
theorem c_X10_work {S : St} {I : Isl} (hI : IsX 11 I S) (hO : IOK I) {x y : Int32} : C 2 60 yX10_work mX10_work [.ref 0, .int x, .int y] S (pu (.int (i2 (¬ ((0 ≤ x.toInt ∧ x.toInt < (iW I : Int)) ∧ 0 ≤ y.toInt ∧ y.toInt ≤ 3)) (-1) 1)) (i2 (¬ ((0 ≤ x.toInt ∧ x.toInt < (iW I : Int)) ∧ 0 ≤ y.toInt ∧ y.toInt ≤ 3)) S (setI S 1 0 (nI (iV I (tn x) (tn y)))))) := by
  have n0 : (nI 0).toInt = 0 := rfl
  have n1 : (nI 1).toInt = 1 := rfl
  have n3 : (nI 3).toInt = 3 := rfl
  have n5 : (nI 5).toInt = 5 := rfl
  have n7 : (nI 7).toInt = 7 := rfl
  have n2 : (nI 2).toInt = 2 := rfl
  have n6 : (nI 6).toInt = 6 := rfl
  have hO1 := hO.1
  have hO2 := hO.2.1
  have hO3 := hO.2.2.1
  have hO4 := hO.2.2.2.1
  refine C.ofX (by decide) rfl (Nat.le_of_ble_eq_true rfl) ?_
  show X 2 60 mX10_work (pu (.int (i2 (¬ ((0 ≤ x.toInt ∧ x.toInt < (iW I : Int)) ∧ 0 ≤ y.toInt ∧ y.toInt ≤ 3)) (-1) 1)) (i2 (¬ ((0 ≤ x.toInt ∧ x.toInt < (iW I : Int)) ∧ 0 ≤ y.toInt ∧ y.toInt ≤ 3)) S (setI S 1 0 (nI (iV I (tn x) (tn y)))))) 0 [(0, .ref 0), (1, .int x), (2, .int y)] [] S
  refine x_aload_n 0 dX10_work_0 rfl rfl ?_
  refine x_getR fX10_40 dX10_work_1 l0 rfl ?_
  refine x_iload_n 1 dX10_work_4 rfl rfl ?_
  refine x_callVb (as := [_]) (rest := []) vX10_218 (c_X1_isWork (Or.inl rfl) hI hO) dX10_work_5 l11 rfl rfl rfl (Nat.le_of_ble_eq_true rfl) (Nat.le_of_ble_eq_true rfl) (Nat.le_of_ble_eq_true rfl) (fun c_5 => ?_) (fun c_5 => ?_)
  · refine u_if_eq 20 dX10_work_8 (by decide) (by decide) ?_
    refine x_iload_n 2 dX10_work_11 rfl rfl ?_
    refine x_if_lt 20 dX10_work_12 (by decide) (fun c_12 => ?_) (fun c_12 => ?_)
    · refine x_iconst (v := -1) dX10_work_20 (by decide) ?_
      refine x_iret rfl dX10_work_21 (p2_0 (by omega))
    · refine x_iload_n 2 dX10_work_15 rfl rfl ?_
      refine x_iconst (v := nI 3) dX10_work_16 (by decide) ?_
      refine z_ic_le 22 dX10_work_17 (by decide) (by omega) (fun c_17 => ?_) (fun c_17 => ?_)
      · obtain ⟨a, ha, rfl⟩ := nI_ex (x := x) (n := iW I) (by omega) (by omega)
        have ea : (nI a).toInt = (a : Int) := tiN (by omega)
        have ta : tn (nI a) = a := tnN (by omega)
        obtain ⟨b, hb, rfl⟩ := nI_ex (x := y) (n := 4) (by omega) (by omega)
        have eb : (nI b).toInt = (b : Int) := tiN (by omega)
        have tb : tn (nI b) = b := tnN (by omega)
        refine x_aload_n 0 dX10_work_22 rfl rfl ?_
        refine x_getR fX10_10 dX10_work_23 l0 rfl ?_
        refine x_aload_n 0 dX10_work_26 rfl rfl ?_
        refine x_getR fX10_40 dX10_work_27 l0 rfl ?_
        refine x_iload_n 1 dX10_work_30 rfl rfl ?_
        refine x_iload_n 2 dX10_work_31 rfl rfl ?_
        refine x_callVu (as := [_, _]) (rest := [_]) vX10_221 (c_X1_ofWork hI hO (by omega) (by omega)) dX10_work_32 l11 rfl rfl rfl (Nat.le_of_ble_eq_true rfl) (Nat.le_of_ble_eq_true rfl) (Nat.le_of_ble_eq_true rfl) ?_
        refine x_callVu (as := [_]) (rest := []) vX10_131 c_X9_tell dX10_work_35 l1 rfl rfl rfl (Nat.le_of_ble_eq_true rfl) (Nat.le_of_ble_eq_true rfl) (Nat.le_of_ble_eq_true rfl) ?_
        refine x_iret rfl dX10_work_38 (by simp only [ta, tb]; exact p2_1 (by omega))
      · refine x_iconst (v := -1) dX10_work_20 (by decide) ?_
        refine x_iret rfl dX10_work_21 (p2_0 (by omega))
  · refine t_if_eq 20 dX10_work_8 (by decide) (by decide) ?_
    refine x_iconst (v := -1) dX10_work_20 (by decide) ?_
    refine x_iret rfl dX10_work_21 (p2_0 (by omega))

set_option maxHeartbeats 4000000 in
set_option maxRecDepth 100000 in
theorem c_X11_work {S : St} {I : Isl} (hI : IsM I S) (hO : IOK I) {x y : Int32} : C 2 60 yX11_work mX11_work [.ref 83, .int x, .int y] S (pu (.int (i2 (¬ ((0 ≤ x.toInt ∧ x.toInt < (iW I : Int)) ∧ 0 ≤ y.toInt ∧ y.toInt ≤ 3)) (-1) 1)) (i2 (¬ ((0 ≤ x.toInt ∧ x.toInt < (iW I : Int)) ∧ 0 ≤ y.toInt ∧ y.toInt ≤ 3)) S (setI S 83 2 (nI (iV I (tn x) (tn y)))))) := by
  have n0 : (nI 0).toInt = 0 := rfl
  have n1 : (nI 1).toInt = 1 := rfl
  have n3 : (nI 3).toInt = 3 := rfl
  have n5 : (nI 5).toInt = 5 := rfl
  have n7 : (nI 7).toInt = 7 := rfl
  have n2 : (nI 2).toInt = 2 := rfl
  have n6 : (nI 6).toInt = 6 := rfl
  have hO1 := hO.1
  have hO2 := hO.2.1
  have hO3 := hO.2.2.1
  have hO4 := hO.2.2.2.1
  refine C.ofX (by decide) rfl (Nat.le_of_ble_eq_true rfl) ?_
  show X 2 60 mX11_work (pu (.int (i2 (¬ ((0 ≤ x.toInt ∧ x.toInt < (iW I : Int)) ∧ 0 ≤ y.toInt ∧ y.toInt ≤ 3)) (-1) 1)) (i2 (¬ ((0 ≤ x.toInt ∧ x.toInt < (iW I : Int)) ∧ 0 ≤ y.toInt ∧ y.toInt ≤ 3)) S (setI S 83 2 (nI (iV I (tn x) (tn y)))))) 0 [(0, .ref 83), (1, .int x), (2, .int y)] [] S
  refine x_aload_n 0 dX11_work_0 rfl rfl ?_
  refine x_iload_n 1 dX11_work_1 rfl rfl ?_
  refine x_callVb (as := [_]) (rest := []) vX11_235 (c_X11_isWork (w := fun _ => 0) hI hO) dX11_work_2 l83 rfl rfl rfl (Nat.le_of_ble_eq_true rfl) (Nat.le_of_ble_eq_true rfl) (Nat.le_of_ble_eq_true rfl) (fun c_2 => ?_) (fun c_2 => ?_)
  · refine u_if_eq 35 dX11_work_5 (by decide) (by decide) ?_
    refine x_iload_n 2 dX11_work_8 rfl rfl ?_
    refine x_iconst (v := nI 0) dX11_work_9 (by decide) ?_
    refine x_iconst (v := nI 3) dX11_work_10 (by decide) ?_
    refine x_callSb (as := [_, _, _]) (rest := []) sX11_98 c_X11_in dX11_work_11 rfl rfl (Nat.le_of_ble_eq_true rfl) (Nat.le_of_ble_eq_true rfl) (Nat.le_of_ble_eq_true rfl) (fun c_11 => ?_) (fun c_11 => ?_)
    · refine u_if_eq 35 dX11_work_14 (by decide) (by decide) ?_
      obtain ⟨a, ha, rfl⟩ := nI_ex (x := x) (n := iW I) (by omega) (by omega)
      have ea : (nI a).toInt = (a : Int) := tiN (by omega)
      have ta : tn (nI a) = a := tnN (by omega)
      obtain ⟨b, hb, rfl⟩ := nI_ex (x := y) (n := 4) (by omega) (by omega)
      have eb : (nI b).toInt = (b : Int) := tiN (by omega)
      have tb : tn (nI b) = b := tnN (by omega)
      refine x_aload_n 0 dX11_work_17 rfl rfl ?_
      refine x_aload_n 0 dX11_work_18 rfl rfl ?_
      refine x_getR fX11_35 dX11_work_19 l83 rfl ?_
      refine x_iconst (v := nI 4) dX11_work_22 (by decide) ?_
      refine x_iload_n 1 dX11_work_23 rfl rfl ?_
      refine y_imul dX11_work_24 ?_
      refine x_iload_n 2 dX11_work_25 rfl rfl ?_
      refine y_iadd dX11_work_26 ?_
      refine y_iald dX11_work_27 l92 (by omega) (by decide) (hI.2.2.2.2.2.2 _ ha _ hb) ?_
      refine x_iconst (v := nI 1) dX11_work_28 (by decide) ?_
      refine x_callVu (as := [_, _]) (rest := []) vX11_120 c_X11_tells dX11_work_29 l83 rfl rfl rfl (Nat.le_of_ble_eq_true rfl) (Nat.le_of_ble_eq_true rfl) (Nat.le_of_ble_eq_true rfl) ?_
      refine x_goto 36 dX11_work_32 (by decide) ?_
      refine x_iret rfl dX11_work_36 (by simp only [ta, tb]; exact p2_1 (by omega))
    · refine t_if_eq 35 dX11_work_14 (by decide) (by decide) ?_
      refine x_iconst (v := -1) dX11_work_35 (by decide) ?_
      refine x_iret rfl dX11_work_36 (p2_0 (by omega))
  · refine t_if_eq 35 dX11_work_5 (by decide) (by decide) ?_
    refine x_iconst (v := -1) dX11_work_35 (by decide) ?_
    refine x_iret rfl dX11_work_36 (p2_0 (by omega))

set_option maxHeartbeats 4000000 in
set_option maxRecDepth 100000 in
theorem c_X10_load {S : St} {I : Isl} (hI : IsX 11 I S) (hO : IOK I) {w : Nat → Nat} (hP : PlT 35 I w S) {x : Int32} : C 1 30 yX10_load mX10_load [.ref 0, .int x] S (pu (.int (i2 (¬ (0 ≤ x.toInt ∧ x.toInt < (iP I : Int))) (-1) (nI (loadF I w (tn x))))) (i2 (¬ (0 ≤ x.toInt ∧ x.toInt < (iP I : Int))) S (setI S 1 0 (nI (heldF I w (tn x)))))) := by
  have n0 : (nI 0).toInt = 0 := rfl
  have n1 : (nI 1).toInt = 1 := rfl
  have n3 : (nI 3).toInt = 3 := rfl
  have n5 : (nI 5).toInt = 5 := rfl
  have n7 : (nI 7).toInt = 7 := rfl
  have n2 : (nI 2).toInt = 2 := rfl
  have n6 : (nI 6).toInt = 6 := rfl
  have hO1 := hO.1
  have hO2 := hO.2.1
  have hO3 := hO.2.2.1
  have hO4 := hO.2.2.2.1
  refine C.ofX (by decide) rfl (Nat.le_of_ble_eq_true rfl) ?_
  show X 1 30 mX10_load (pu (.int (i2 (¬ (0 ≤ x.toInt ∧ x.toInt < (iP I : Int))) (-1) (nI (loadF I w (tn x))))) (i2 (¬ (0 ≤ x.toInt ∧ x.toInt < (iP I : Int))) S (setI S 1 0 (nI (heldF I w (tn x)))))) 0 [(0, .ref 0), (1, .int x)] [] S
  refine x_aload_n 0 dX10_load_0 rfl rfl ?_
  refine x_getR fX10_40 dX10_load_1 l0 rfl ?_
  refine x_iload_n 1 dX10_load_4 rfl rfl ?_
  refine x_callVb (as := [_]) (rest := []) vX10_224 (c_X1_isPerson (Or.inl rfl) hI hO) dX10_load_5 l11 rfl rfl rfl (Nat.le_of_ble_eq_true rfl) (Nat.le_of_ble_eq_true rfl) (Nat.le_of_ble_eq_true rfl) (fun c_5 => ?_) (fun c_5 => ?_)
  · refine t_if_ne 13 dX10_load_8 (by decide) (by decide) ?_
    obtain ⟨a, ha, rfl⟩ := nI_ex (x := x) (n := iP I) (by omega) (by omega)
    have ea : (nI a).toInt = (a : Int) := tiN (by omega)
    have ta : tn (nI a) = a := tnN (by omega)
    refine x_aload_n 0 dX10_load_13 rfl rfl ?_
    refine x_getR fX10_10 dX10_load_14 l0 rfl ?_
    refine x_aload_n 0 dX10_load_17 rfl rfl ?_
    refine x_getR fX10_49 dX10_load_18 l0 rfl ?_
    refine x_iload_n 1 dX10_load_21 rfl rfl ?_
    refine x_callVu (as := [_]) (rest := [_]) vX10_210 (c_X3_heldBy (p := a) (Or.inl rfl) hI hO hP (by omega)) dX10_load_22 l35 rfl rfl rfl (Nat.le_of_ble_eq_true rfl) (Nat.le_of_ble_eq_true rfl) (Nat.le_of_ble_eq_true rfl) ?_
    rw [if_pos (show a ≤ 4 by omega)]
    refine x_callVu (as := [_]) (rest := []) vX10_131 c_X9_tell dX10_load_25 l1 rfl rfl rfl (Nat.le_of_ble_eq_true rfl) (Nat.le_of_ble_eq_true rfl) (Nat.le_of_ble_eq_true rfl) ?_
    refine x_pop dX10_load_28 rfl ?_
    refine x_aload_n 0 dX10_load_29 rfl rfl ?_
    refine x_getR fX10_49 dX10_load_30 l0 rfl ?_
    refine x_iload_n 1 dX10_load_33 rfl rfl ?_
    refine x_callVu (as := [_]) (rest := []) vX10_201 (c_X3_loadOf (p := a) (w := w) (S := setI S 1 0 (nI (heldF I w a))) (Or.inl rfl) (hI.keep (fun c h1 h2 b => rdI_k (by omega))) hO (hP.keep (fun c h1 h2 b => rdI_k (by omega))) (by omega)) dX10_load_34 l35 rfl rfl rfl (Nat.le_of_ble_eq_true rfl) (Nat.le_of_ble_eq_true rfl) (Nat.le_of_ble_eq_true rfl) ?_
    rw [if_pos (show a ≤ 4 by omega)]
    refine x_iret rfl dX10_load_37 (by simp only [ta]; exact p2_1 (by omega))
  · refine u_if_ne 13 dX10_load_8 (by decide) (by decide) ?_
    refine x_iconst (v := -1) dX10_load_11 (by decide) ?_
    refine x_iret rfl dX10_load_12 (p2_0 (by omega))

set_option maxHeartbeats 4000000 in
set_option maxRecDepth 100000 in
theorem c_X11_load {S : St} {I : Isl} (hI : IsM I S) (hO : IOK I) {w : Nat → Nat} (hw0 : ∀ t, t < iM I → S.1 93 t = nI (w t)) (hw : WOK I w) {x : Int32} : C 2 60 yX11_load mX11_load [.ref 83, .int x] S (pu (.int (i2 (¬ (0 ≤ x.toInt ∧ x.toInt < (iP I : Int))) (-1) (nI (loadF I w (tn x))))) (i2 (¬ (0 ≤ x.toInt ∧ x.toInt < (iP I : Int))) (lkS S (iM I)) (setI (lkS S (iM I)) 83 2 (nI (heldF I w (tn x)))))) := by
  have n0 : (nI 0).toInt = 0 := rfl
  have n1 : (nI 1).toInt = 1 := rfl
  have n3 : (nI 3).toInt = 3 := rfl
  have n5 : (nI 5).toInt = 5 := rfl
  have n7 : (nI 7).toInt = 7 := rfl
  have n2 : (nI 2).toInt = 2 := rfl
  have n6 : (nI 6).toInt = 6 := rfl
  have hO1 := hO.1
  have hO2 := hO.2.1
  have hO3 := hO.2.2.1
  have hO4 := hO.2.2.2.1
  refine C.ofX (by decide) rfl (Nat.le_of_ble_eq_true rfl) ?_
  show X 2 60 mX11_load (pu (.int (i2 (¬ (0 ≤ x.toInt ∧ x.toInt < (iP I : Int))) (-1) (nI (loadF I w (tn x))))) (i2 (¬ (0 ≤ x.toInt ∧ x.toInt < (iP I : Int))) (lkS S (iM I)) (setI (lkS S (iM I)) 83 2 (nI (heldF I w (tn x)))))) 0 [(0, .ref 83), (1, .int x)] [] S
  refine x_aload_n 0 dX11_load_0 rfl rfl ?_
  refine x_callVv (as := []) (rest := []) vX11_217 (c_X11_lookNow hI hO) dX11_load_1 l83 rfl rfl rfl (Nat.le_of_ble_eq_true rfl) (Nat.le_of_ble_eq_true rfl) (Nat.le_of_ble_eq_true rfl) ?_
  refine x_aload_n 0 dX11_load_4 rfl rfl ?_
  refine x_iload_n 1 dX11_load_5 rfl rfl ?_
  refine x_callVb (as := [_]) (rest := []) vX11_196 (c_X11_isOne (w := w) (hI.lk _) hO) dX11_load_6 l83 rfl rfl rfl (Nat.le_of_ble_eq_true rfl) (Nat.le_of_ble_eq_true rfl) (Nat.le_of_ble_eq_true rfl) (fun c_6 => ?_) (fun c_6 => ?_)
  · refine u_if_eq 29 dX11_load_9 (by decide) (by decide) ?_
    obtain ⟨a, ha, rfl⟩ := nI_ex (x := x) (n := iP I) (by omega) (by omega)
    have ea : (nI a).toInt = (a : Int) := tiN (by omega)
    have ta : tn (nI a) = a := tnN (by omega)
    refine x_aload_n 0 dX11_load_12 rfl rfl ?_
    refine x_aload_n 0 dX11_load_13 rfl rfl ?_
    refine x_iload_n 1 dX11_load_14 rfl rfl ?_
    refine x_callVu (as := [_]) (rest := [_]) vX11_229 (c_X11_ownedBy (hI.lk _) hO (lkS_W hw0) hw (by omega)) dX11_load_15 l83 rfl rfl rfl (Nat.le_of_ble_eq_true rfl) (Nat.le_of_ble_eq_true rfl) (Nat.le_of_ble_eq_true rfl) ?_
    refine x_aload_n 0 dX11_load_18 rfl rfl ?_
    refine x_iload_n 1 dX11_load_19 rfl rfl ?_
    refine x_callVu (as := [_]) (rest := [_, _]) vX11_205 (c_X11_loadOf (hI.lk _) hO (lkS_W hw0) (hw.w7 hO) (by omega)) dX11_load_20 l83 rfl rfl rfl (Nat.le_of_ble_eq_true rfl) (Nat.le_of_ble_eq_true rfl) (Nat.le_of_ble_eq_true rfl) ?_
    refine x_callVu (as := [_, _]) (rest := []) vX11_120 c_X11_tells dX11_load_23 l83 rfl rfl rfl (Nat.le_of_ble_eq_true rfl) (Nat.le_of_ble_eq_true rfl) (Nat.le_of_ble_eq_true rfl) ?_
    refine x_goto 30 dX11_load_26 (by decide) ?_
    refine x_iret rfl dX11_load_30 (by simp only [ta]; exact p2_1 (by omega))
  · refine t_if_eq 29 dX11_load_9 (by decide) (by decide) ?_
    refine x_iconst (v := -1) dX11_load_29 (by decide) ?_
    refine x_iret rfl dX11_load_30 (p2_0 (by omega))

set_option maxHeartbeats 4000000 in
set_option maxRecDepth 100000 in
theorem c_X10_can {S : St} {I : Isl} (hI : IsX 11 I S) (hO : IOK I) {w : Nat → Nat} (hP : PlT 35 I w S) (hT : IsT I S) : C 1 30 yX10_can mX10_can [.ref 0] S (pu (.int (nI (dbF I w (iW I)))) (setI S 1 0 (nI (wthF I (dbF I w (iW I)))))) := by
  have hO1 := hO.1
  have hO2 := hO.2.1
  have hO3 := hO.2.2.1
  have hO4 := hO.2.2.2.1
  have hd : dbF I w (iW I) < 2 ^ iW I := mk_lt _ _
  have h8 : 2 ^ iW I ≤ 2 ^ 8 := Nat.pow_le_pow_right (by decide) hO3
  refine C.ofX (by decide) rfl (Nat.le_of_ble_eq_true rfl) ?_
  show X 1 30 mX10_can (pu (.int (nI (dbF I w (iW I)))) (setI S 1 0 (nI (wthF I (dbF I w (iW I)))))) 0 [(0, .ref 0)] [] S
  refine x_aload_n 0 dX10_can_0 rfl rfl ?_
  refine x_getR fX10_49 dX10_can_1 l0 rfl ?_
  refine x_callVu (as := []) (rest := []) vX10_283 (c_X3_doable (Or.inl rfl) hI hO hP) dX10_can_4 l35 rfl rfl rfl (Nat.le_of_ble_eq_true rfl) (Nat.le_of_ble_eq_true rfl) (Nat.le_of_ble_eq_true rfl) ?_
  refine x_istore_n (lv' := [(1, _), (0, _)]) dX10_can_7 rfl (by decide) rfl ?_
  refine x_aload_n 1 dX10_can_8 rfl rfl ?_
  refine x_getR fX10_10 dX10_can_9 l0 rfl ?_
  refine x_aload_n 1 dX10_can_12 rfl rfl ?_
  refine x_getR fX10_40 dX10_can_13 l0 rfl ?_
  refine x_iload_n 0 dX10_can_16 rfl rfl ?_
  refine x_callVu (as := [_]) (rest := [_]) vX10_286 (c_X1_worthOf (by omega) (hT.2 _ hd)) dX10_can_17 l11 rfl rfl rfl (Nat.le_of_ble_eq_true rfl) (Nat.le_of_ble_eq_true rfl) (Nat.le_of_ble_eq_true rfl) ?_
  refine x_callVu (as := [_]) (rest := []) vX10_131 c_X9_tell dX10_can_20 l1 rfl rfl rfl (Nat.le_of_ble_eq_true rfl) (Nat.le_of_ble_eq_true rfl) (Nat.le_of_ble_eq_true rfl) ?_
  refine x_pop dX10_can_23 rfl ?_
  refine x_iload_n 0 dX10_can_24 rfl rfl ?_
  refine x_iret rfl dX10_can_25 ⟨rfl, rfl⟩

set_option maxHeartbeats 4000000 in
set_option maxRecDepth 100000 in
theorem lp_Mcan {S : St} {I : Isl} (hI : IsM I S) (hO : IOK I) {w : Nat → Nat} (hw0 : ∀ t, t < iM I → S.1 93 t = nI (w t)) (hw : WOK I w)  : ∀ (i : Nat) (S1 : St), S1 = lkS S (iM I) → i ≤ iW I → X 2 60 mX11_can (pu (.int (nI (dbF I w (iW I)))) (setI (lkS S (iM I)) 83 2 (nI (wthF I (dbF I w (iW I)))))) 10 [(3, .int (nI i)), (2, .int (nI ((sm (fun v => dbF I w (iW I) / 2 ^ v % 2 * iV I v 3) i)))), (1, .int (nI ((dbF I w i)))), (0, .ref 83)] [] S1 := by
  intro i
  induction hm : iW I - i using Nat.strongRecOn generalizing i with
  | _ mm ih =>
    intro S1 hS1 hi
    replace hS1 := hS1.symm
    subst hS1
    have hO1 := hO.1
    have hO2 := hO.2.1
    have hO3 := hO.2.2.1
    have hO4 := hO.2.2.2.1
    have hI' := hI.lk (iM I)
    refine x_iload_n 0 dX11_can_10 rfl rfl ?_
    refine x_aload_n 3 dX11_can_11 rfl rfl ?_
    refine y_getI fX11_184 dX11_can_12 l83 rfl hI'.2.2.2.1 ?_
    refine y_ic_ge 51 dX11_can_15 (by decide) (by omega) (by omega) (fun c_15 => ?_) (fun c_15 => ?_)
    · refine x_aload_n 3 dX11_can_51 rfl rfl ?_
      refine x_iload_n 1 dX11_can_52 rfl rfl ?_
      refine x_iload_n 2 dX11_can_53 rfl rfl ?_
      refine x_callVu (as := [_, _]) (rest := []) vX11_120 c_X11_tells dX11_can_54 l83 rfl rfl rfl (Nat.le_of_ble_eq_true rfl) (Nat.le_of_ble_eq_true rfl) (Nat.le_of_ble_eq_true rfl) ?_
      refine x_iret rfl dX11_can_57 (by obtain rfl : i = iW I := (by omega); exact ⟨rfl, rfl⟩)
    · refine x_aload_n 3 dX11_can_18 rfl rfl ?_
      refine x_iload_n 0 dX11_can_19 rfl rfl ?_
      refine x_callVb (as := [_]) (rest := []) vX11_262 (c_X11_canWork hI' hO (lkS_W hw0) hw (by omega)) dX11_can_20 l83 rfl rfl rfl (Nat.le_of_ble_eq_true rfl) (Nat.le_of_ble_eq_true rfl) (Nat.le_of_ble_eq_true rfl) (fun c_20 => ?_) (fun c_20 => ?_)
      · refine u_if_eq 45 dX11_can_23 (by decide) (by decide) ?_
        refine x_iload_n 2 dX11_can_26 rfl rfl ?_
        refine x_iconst (v := nI 1) dX11_can_27 (by decide) ?_
        refine x_iload_n 0 dX11_can_28 rfl rfl ?_
        refine y_ishl dX11_can_29 (by omega) ?_
        refine y_ior dX11_can_30 ?_
        refine x_istore_n (lv' := [(1, _), (3, _), (2, _), (0, _)]) dX11_can_31 rfl (by decide) rfl ?_
        refine x_iload_n 2 dX11_can_32 rfl rfl ?_
        refine x_aload_n 3 dX11_can_33 rfl rfl ?_
        refine x_getR fX11_35 dX11_can_34 l83 rfl ?_
        refine x_iconst (v := nI 4) dX11_can_37 (by decide) ?_
        refine x_iload_n 1 dX11_can_38 rfl rfl ?_
        refine y_imul dX11_can_39 ?_
        refine x_iconst (v := nI 3) dX11_can_40 (by decide) ?_
        refine y_iadd dX11_can_41 ?_
        refine y_iald dX11_can_42 l92 (by omega) (by decide) (hI'.2.2.2.2.2.2 i (by omega) 3 (by decide)) ?_
        refine y_iadd dX11_can_43 ?_
        refine x_istore_n (lv' := [(2, _), (1, _), (3, _), (0, _)]) dX11_can_44 rfl (by decide) rfl ?_
        rw [show ((dbF I w i) ||| (1 * 2 ^ i)) = (dbF I w (i + 1)) from by rw [dbF_s]; first | rw [dec_t (show canF I w i from c_20), if_pos rfl, Nat.one_mul] | rw [dec_f (show ¬ canF I w i from c_20), if_neg (by decide), Nat.or_zero]]
        rw [show ((sm (fun v => dbF I w (iW I) / 2 ^ v % 2 * iV I v 3) i) + (iV I i 3)) = (sm (fun v => dbF I w (iW I) / 2 ^ v % 2 * iV I v 3) (i + 1)) from by rw [sm_s]; first | rw [has_iff.mpr (dbF_bit.mpr ⟨by omega, c_20⟩), Nat.one_mul] | rw [show dbF I w (iW I) / 2 ^ i % 2 = 0 from by have := mt has_iff.mp (mt (dbF_bit (I := I) (w := w) (n := iW I) (i := i)).mp (fun h => c_20 h.2)); omega, Nat.zero_mul, Nat.add_zero]]
        refine y_iinc (lv' := [(3, _), (2, _), (1, _), (0, _)]) 2 dX11_can_45 rfl (by decide) rfl ?_
        refine x_goto 10 dX11_can_48 (by decide) ?_
        refine x_pick (lv' := [(3, _), (2, _), (1, _), (0, _)]) [0, 1, 2, 3] rfl ?_
        exact ih (iW I - (i + 1)) (by omega) (i + 1) rfl _ rfl (by omega)
      · refine t_if_eq 45 dX11_can_23 (by decide) (by decide) ?_
        rw [show (dbF I w i) = (dbF I w (i + 1)) from by rw [dbF_s]; first | rw [dec_t (show canF I w i from c_20), if_pos rfl, Nat.one_mul] | rw [dec_f (show ¬ canF I w i from c_20), if_neg (by decide), Nat.or_zero]]
        rw [show (sm (fun v => dbF I w (iW I) / 2 ^ v % 2 * iV I v 3) i) = (sm (fun v => dbF I w (iW I) / 2 ^ v % 2 * iV I v 3) (i + 1)) from by rw [sm_s]; first | rw [has_iff.mpr (dbF_bit.mpr ⟨by omega, c_20⟩), Nat.one_mul] | rw [show dbF I w (iW I) / 2 ^ i % 2 = 0 from by have := mt has_iff.mp (mt (dbF_bit (I := I) (w := w) (n := iW I) (i := i)).mp (fun h => c_20 h.2)); omega, Nat.zero_mul, Nat.add_zero]]
        refine y_iinc (lv' := [(3, _), (2, _), (1, _), (0, _)]) 0 dX11_can_45 rfl (by decide) rfl ?_
        refine x_goto 10 dX11_can_48 (by decide) ?_
        refine x_pick (lv' := [(3, _), (2, _), (1, _), (0, _)]) [0, 1, 2, 3] rfl ?_
        exact ih (iW I - (i + 1)) (by omega) (i + 1) rfl _ rfl (by omega)

set_option maxHeartbeats 4000000 in
set_option maxRecDepth 100000 in
theorem c_X11_can {S : St} {I : Isl} (hI : IsM I S) (hO : IOK I) {w : Nat → Nat} (hw0 : ∀ t, t < iM I → S.1 93 t = nI (w t)) (hw : WOK I w)  : C 2 60 yX11_can mX11_can [.ref 83] S (pu (.int (nI (dbF I w (iW I)))) (setI (lkS S (iM I)) 83 2 (nI (wthF I (dbF I w (iW I)))))) := by
  refine C.ofX (by decide) rfl (Nat.le_of_ble_eq_true rfl) ?_
  show X 2 60 mX11_can (pu (.int (nI (dbF I w (iW I)))) (setI (lkS S (iM I)) 83 2 (nI (wthF I (dbF I w (iW I)))))) 0 [(0, .ref 83)] [] S
  refine x_aload_n 0 dX11_can_0 rfl rfl ?_
  refine x_callVv (as := []) (rest := []) vX11_217 (c_X11_lookNow hI hO) dX11_can_1 l83 rfl rfl rfl (Nat.le_of_ble_eq_true rfl) (Nat.le_of_ble_eq_true rfl) (Nat.le_of_ble_eq_true rfl) ?_
  refine x_iconst (v := nI 0) dX11_can_4 (by decide) ?_
  refine x_istore_n (lv' := [(1, _), (0, _)]) dX11_can_5 rfl (by decide) rfl ?_
  refine x_iconst (v := nI 0) dX11_can_6 (by decide) ?_
  refine x_istore_n (lv' := [(2, _), (1, _), (0, _)]) dX11_can_7 rfl (by decide) rfl ?_
  refine x_iconst (v := nI 0) dX11_can_8 (by decide) ?_
  refine x_istore_n (lv' := [(3, _), (2, _), (1, _), (0, _)]) dX11_can_9 rfl (by decide) rfl ?_
  refine x_pick (lv' := [(3, _), (2, _), (1, _), (0, _)]) [0, 1, 2, 3] rfl ?_
  exact lp_Mcan hI hO hw0 hw 0 _ rfl (Nat.zero_le _)
