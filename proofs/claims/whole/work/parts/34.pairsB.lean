theorem e4_0 {α : Type} {p q r : Prop} {a b c d : α} (h : p) : i4 p q r a b c d = a := by unfold i4; rw [if_pos h]
theorem e4_1 {α : Type} {p q r : Prop} {a b c d : α} (h : ¬ p) (h2 : q) : i4 p q r a b c d = b := by unfold i4; rw [if_neg h, if_pos h2]
theorem e4_2 {α : Type} {p q r : Prop} {a b c d : α} (h : ¬ p) (h2 : ¬ q) (h3 : r) : i4 p q r a b c d = c := by unfold i4; rw [if_neg h, if_neg h2, if_pos h3]
theorem e4_3 {α : Type} {p q r : Prop} {a b c d : α} (h : ¬ p) (h2 : ¬ q) (h3 : ¬ r) : i4 p q r a b c d = d := by unfold i4; rw [if_neg h, if_neg h2, if_neg h3]
theorem e3_0 {α : Type} {p q : Prop} {a b c : α} (h : p) : i3 p q a b c = a := by unfold i3; rw [if_pos h]
theorem e3_1 {α : Type} {p q : Prop} {a b c : α} (h : ¬ p) (h2 : q) : i3 p q a b c = b := by unfold i3; rw [if_neg h, if_pos h2]
theorem e3_2 {α : Type} {p q : Prop} {a b c : α} (h : ¬ p) (h2 : ¬ q) : i3 p q a b c = c := by unfold i3; rw [if_neg h, if_neg h2]
theorem e2_0 {α : Type} {p : Prop} {a b : α} (h : p) : i2 p a b = a := by unfold i2; rw [if_pos h]
theorem e2_1 {α : Type} {p : Prop} {a b : α} (h : ¬ p) : i2 p a b = b := by unfold i2; rw [if_neg h]
section
variable {p q r : Prop} {a b c d : Int32 → St → Prop} {x : Int32} {S : St}
theorem q4_0 (h : p) (k : a x S) : qi (i4 p q r a b c d) (some (.int x)) S := ⟨x, rfl, by rw [e4_0 h]; exact k⟩
theorem q4_1 (h : ¬ p) (h2 : q) (k : b x S) : qi (i4 p q r a b c d) (some (.int x)) S := ⟨x, rfl, by rw [e4_1 h h2]; exact k⟩
theorem q4_2 (h : ¬ p) (h2 : ¬ q) (h3 : r) (k : c x S) : qi (i4 p q r a b c d) (some (.int x)) S := ⟨x, rfl, by rw [e4_2 h h2 h3]; exact k⟩
theorem q4_3 (h : ¬ p) (h2 : ¬ q) (h3 : ¬ r) (k : d x S) : qi (i4 p q r a b c d) (some (.int x)) S := ⟨x, rfl, by rw [e4_3 h h2 h3]; exact k⟩
theorem q3_0 (h : p) (k : a x S) : qi (i3 p q a b c) (some (.int x)) S := ⟨x, rfl, by rw [e3_0 h]; exact k⟩
theorem q3_1 (h : ¬ p) (h2 : q) (k : b x S) : qi (i3 p q a b c) (some (.int x)) S := ⟨x, rfl, by rw [e3_1 h h2]; exact k⟩
theorem q3_2 (h : ¬ p) (h2 : ¬ q) (k : c x S) : qi (i3 p q a b c) (some (.int x)) S := ⟨x, rfl, by rw [e3_2 h h2]; exact k⟩
theorem q2_0 (h : p) (k : a x S) : qi (i2 p a b) (some (.int x)) S := ⟨x, rfl, by rw [e2_0 h]; exact k⟩
theorem q2_1 (h : ¬ p) (k : b x S) : qi (i2 p a b) (some (.int x)) S := ⟨x, rfl, by rw [e2_1 h]; exact k⟩
end
/-- an answer x, a store T -/
def an (x : Int32) (T : St) : Int32 → St → Prop := fun r S' => r = x ∧ S' = T
def bgI (I : Isl) (t : Nat) : Nat := if iG I 0 = t then 0 else 1
theorem bgI_ok {I : Isl} (hO : IOK I) {t : Nat} (ht : t < iM I) (h : bagK (iK I t)) : bgI I t < iB I ∧ iG I (bgI I t) = t := by
  obtain ⟨b, hb, rfl⟩ := hO.2.2.2.2.2.2.2.1 t ht h
  have := hO.2.2.2.1
  unfold bgI
  by_cases h0 : iG I 0 = iG I b
  · rw [if_pos h0]; exact ⟨by omega, h0⟩
  · rw [if_neg h0]
    have : b = 1 := by
      rcases Nat.lt_or_ge b 1 with q | q
      · exact absurd (by rw [show b = 0 by omega]) h0
      · omega
    subst this
    exact ⟨hb, rfl⟩
theorem c_inBagX {S : St} {k : Nat} {I : Isl} {w : Nat → Nat} (hk : isPl k) (hI : IsX 11 I S) (hO : IOK I) (hP : PlT k I w S) {t : Nat} (ht : t < iM I) (hb : bagK (iK I t)) : C 0 0 yX3_inBag mX3_inBag [.ref k, .int (nI t)] S (pu (.int (nI (insF I w (bgI I t)))) S) := by
  have h := c_X3_inBag hk hI hO hP (b := bgI I t) (bgI_ok hO ht hb).1
  rw [(bgI_ok hO ht hb).2] at h
  exact h
theorem c_inBagM {S : St} {I : Isl} {w : Nat → Nat} (hI : IsM I S) (hO : IOK I) (hw0 : MW I w S) (hwo : ∀ t, t < iM I → w t < 5 + iB I) {t : Nat} (ht : t < iM I) (hb : bagK (iK I t)) : C 0 0 yX11_insideMany mX11_insideMany [.ref 83, .int (nI t)] S (pu (.int (nI (insF I w (bgI I t)))) S) := by
  have h := c_X11_insideMany hI hO hw0 hwo (b := bgI I t) (bgI_ok hO ht hb).1
  rw [(bgI_ok hO ht hb).2] at h
  exact h
theorem c_roomM {S : St} {I : Isl} {w : Nat → Nat} (hI : IsM I S) (hO : IOK I) (hw0 : MW I w S) (hwo : ∀ t, t < iM I → w t < 5 + iB I) {t : Nat} (ht : t < iM I) (hb : bagK (iK I t)) : C 1 30 yX11_roomIn mX11_roomIn [.ref 83, .int (nI t)] S (pu (.int (nI (rm (iK I t)) - nI (insF I w (bgI I t)))) S) := by
  have h := c_X11_roomIn hI hO hw0 hwo (b := bgI I t) (bgI_ok hO ht hb).1
  rw [(bgI_ok hO ht hb).2] at h
  exact h
def isOfP (I : Isl) (t q : Nat) : Prop := iK I t = q ∨ (q = 1 ∧ bagK (iK I t)) ∨ (q = 2 ∧ livK (iK I t))
def thA (I : Isl) (w : Nat → Nat) (t h : Nat) : Nat := if h = 0 then iK I t else if h = 1 then w t else if h = 2 then wt (iK I t) else whomF I w t
def mkA (I : Isl) (w : Nat → Nat) (t q : Nat) : Int32 := if q = 1 then nI (insF I w (bgI I t)) else if q = 2 then nI (loadF I w (w t)) else if q = 3 then nI (sm (fun v => iV I v 2 / 2 ^ t % 2) (iW I)) else if q = 4 then nI (rm (iK I t)) - nI (insF I w (bgI I t)) else nI (popF (heldF I w (w t))) - nI 1

set_option maxHeartbeats 4000000 in
set_option maxRecDepth 100000 in
theorem c_X10_ofThing {S : St} {I : Isl} (hI : IsX 11 I S) (hO : IOK I) {w : Nat → Nat} (hP : PlT 35 I w S) (hw : WOK I w) {t h : Nat} (ht : t < iM I) (hh : h ≤ 3) : C 1 30 yX10_ofThing mX10_ofThing [.ref 0, .int (nI t), .int (nI h)] S (pu (.int (nI (thA I w t h))) S) := by
  have hO1 := hO.1
  have hO2 := hO.2.1
  have hO3 := hO.2.2.1
  have hO4 := hO.2.2.2.1
  refine C.ofX (by decide) rfl (Nat.le_of_ble_eq_true rfl) ?_
  show X 1 30 mX10_ofThing (pu (.int (nI (thA I w t h))) S) 0 [(0, .ref 0), (1, .int (nI t)), (2, .int (nI h))] [] S
  refine x_iload_n 2 dX10_ofThing_0 rfl rfl ?_
  by_cases cs_1 : h = 0 ∨ h = 1 ∨ h = 2
  · rcases cs_1 with rfl | rfl | rfl
    · refine x_tin (off := 27) 28 dX10_ofThing_1 (by decide) (by decide) (by decide) (by decide) ?_
      refine x_aload_n 0 dX10_ofThing_28 rfl rfl ?_
      refine x_getR fX10_40 dX10_ofThing_29 l0 rfl ?_
      refine x_getR fX10_182 dX10_ofThing_32 l11 rfl ?_
      refine x_iload_n 1 dX10_ofThing_35 rfl rfl ?_
      refine y_iald dX10_ofThing_36 l12 (by omega) (by decide) (hI.2.2.2.2.1 t ht).1 ?_
      refine x_iret rfl dX10_ofThing_37 ⟨rfl, rfl⟩
    · refine x_tin (off := 37) 38 dX10_ofThing_1 (by decide) (by decide) (by decide) (by decide) ?_
      refine x_aload_n 0 dX10_ofThing_38 rfl rfl ?_
      refine x_getR fX10_49 dX10_ofThing_39 l0 rfl ?_
      refine x_getR fX10_185 dX10_ofThing_42 l35 rfl ?_
      refine x_iload_n 1 dX10_ofThing_45 rfl rfl ?_
      refine y_iald dX10_ofThing_46 l36 (by omega) (by decide) (hP.1 t ht) ?_
      refine x_iret rfl dX10_ofThing_47 ⟨rfl, rfl⟩
    · refine x_tin (off := 47) 48 dX10_ofThing_1 (by decide) (by decide) (by decide) (by decide) ?_
      refine x_aload_n 0 dX10_ofThing_48 rfl rfl ?_
      refine x_getR fX10_40 dX10_ofThing_49 l0 rfl ?_
      refine x_getR fX10_188 dX10_ofThing_52 l11 rfl ?_
      refine x_iload_n 1 dX10_ofThing_55 rfl rfl ?_
      refine y_iald dX10_ofThing_56 l14 (by omega) (by decide) (hI.2.2.2.2.1 t ht).2.2.1 ?_
      refine x_iret rfl dX10_ofThing_57 ⟨rfl, rfl⟩
  · refine x_tout 58 dX10_ofThing_1 (by rw [tiN (by omega)]; omega) (by decide) ?_
    refine x_aload_n 0 dX10_ofThing_58 rfl rfl ?_
    refine x_getR fX10_49 dX10_ofThing_59 l0 rfl ?_
    refine x_iload_n 1 dX10_ofThing_62 rfl rfl ?_
    refine x_callVu (as := [_]) (rest := []) vX10_191 (c_X3_whom (Or.inl rfl) hI hO hP.1 hw ht) dX10_ofThing_63 l35 rfl rfl rfl (Nat.le_of_ble_eq_true rfl) (Nat.le_of_ble_eq_true rfl) (Nat.le_of_ble_eq_true rfl) ?_
    refine x_iret rfl dX10_ofThing_66 ⟨by obtain rfl : h = 3 := (by omega); rfl, rfl⟩

set_option maxHeartbeats 4000000 in
set_option maxRecDepth 100000 in
theorem c_X10_thing {S : St} {I : Isl} (hI : IsX 11 I S) (hO : IOK I) {w : Nat → Nat} (hP : PlT 35 I w S) {L : Nat} (hL : S.1 35 5 = nI L) (hL7 : L ≤ 6) (hv : VS I w L) {x y : Int32} : C 2 60 yX10_thing mX10_thing [.ref 0, .int x, .int y] S (pu (.int (i2 (¬ ((0 ≤ x.toInt ∧ x.toInt < (iM I : Int)) ∧ 0 ≤ y.toInt ∧ y.toInt ≤ 3)) (-1) 1)) (i2 (¬ ((0 ≤ x.toInt ∧ x.toInt < (iM I : Int)) ∧ 0 ≤ y.toInt ∧ y.toInt ≤ 3)) S (setI S 1 0 (nI (thA I w (tn x) (tn y)))))) := by
  have n0 : (nI 0).toInt = 0 := rfl
  have n1 : (nI 1).toInt = 1 := rfl
  have n3 : (nI 3).toInt = 3 := rfl
  have n5 : (nI 5).toInt = 5 := rfl
  have n7 : (nI 7).toInt = 7 := rfl
  have n2 : (nI 2).toInt = 2 := rfl
  have n6 : (nI 6).toInt = 6 := rfl
  have hO1 := hO.1
  have hO2 := hO.2.1
  have hO3 := hO.2.2.1
  have hO4 := hO.2.2.2.1
  have hw := hv.ok hO
  have hw7 := hw.w7 hO
  refine C.ofX (by decide) rfl (Nat.le_of_ble_eq_true rfl) ?_
  show X 2 60 mX10_thing (pu (.int (i2 (¬ ((0 ≤ x.toInt ∧ x.toInt < (iM I : Int)) ∧ 0 ≤ y.toInt ∧ y.toInt ≤ 3)) (-1) 1)) (i2 (¬ ((0 ≤ x.toInt ∧ x.toInt < (iM I : Int)) ∧ 0 ≤ y.toInt ∧ y.toInt ≤ 3)) S (setI S 1 0 (nI (thA I w (tn x) (tn y)))))) 0 [(0, .ref 0), (1, .int x), (2, .int y)] [] S
  refine x_aload_n 0 dX10_thing_0 rfl rfl ?_
  refine x_getR fX10_40 dX10_thing_1 l0 rfl ?_
  refine x_iload_n 1 dX10_thing_4 rfl rfl ?_
  refine x_callVb (as := [_]) (rest := []) vX10_176 (c_X1_isThing (Or.inl rfl) hI hO) dX10_thing_5 l11 rfl rfl rfl (Nat.le_of_ble_eq_true rfl) (Nat.le_of_ble_eq_true rfl) (Nat.le_of_ble_eq_true rfl) (fun c_5 => ?_) (fun c_5 => ?_)
  · refine u_if_eq 20 dX10_thing_8 (by decide) (by decide) ?_
    refine x_iload_n 2 dX10_thing_11 rfl rfl ?_
    refine x_if_lt 20 dX10_thing_12 (by decide) (fun c_12 => ?_) (fun c_12 => ?_)
    · refine x_iconst (v := -1) dX10_thing_20 (by decide) ?_
      refine x_iret rfl dX10_thing_21 (p2_0 (by omega))
    · refine x_iload_n 2 dX10_thing_15 rfl rfl ?_
      refine x_iconst (v := nI 3) dX10_thing_16 (by decide) ?_
      refine z_ic_le 22 dX10_thing_17 (by decide) (by omega) (fun c_17 => ?_) (fun c_17 => ?_)
      · obtain ⟨a, ha, rfl⟩ := nI_ex (x := x) (n := iM I) (by omega) (by omega)
        have ea : (nI a).toInt = (a : Int) := tiN (by omega)
        have ta : tn (nI a) = a := tnN (by omega)
        obtain ⟨b, hb, rfl⟩ := nI_ex (x := y) (n := 4) (by omega) (by omega)
        have eb : (nI b).toInt = (b : Int) := tiN (by omega)
        have tb : tn (nI b) = b := tnN (by omega)
        refine x_aload_n 0 dX10_thing_22 rfl rfl ?_
        refine x_getR fX10_10 dX10_thing_23 l0 rfl ?_
        refine x_aload_n 0 dX10_thing_26 rfl rfl ?_
        refine x_iload_n 1 dX10_thing_27 rfl rfl ?_
        refine x_iload_n 2 dX10_thing_28 rfl rfl ?_
        refine x_callVu (as := [_, _]) (rest := [_]) vX10_179 (c_X10_ofThing hI hO hP hw ha (by omega)) dX10_thing_29 l0 rfl rfl rfl (Nat.le_of_ble_eq_true rfl) (Nat.le_of_ble_eq_true rfl) (Nat.le_of_ble_eq_true rfl) ?_
        refine x_callVu (as := [_]) (rest := []) vX10_131 c_X9_tell dX10_thing_32 l1 rfl rfl rfl (Nat.le_of_ble_eq_true rfl) (Nat.le_of_ble_eq_true rfl) (Nat.le_of_ble_eq_true rfl) ?_
        refine x_iret rfl dX10_thing_35 (by simp only [ta, tb]; exact p2_1 (by omega))
      · refine x_iconst (v := -1) dX10_thing_20 (by decide) ?_
        refine x_iret rfl dX10_thing_21 (p2_0 (by omega))
  · refine t_if_eq 20 dX10_thing_8 (by decide) (by decide) ?_
    refine x_iconst (v := -1) dX10_thing_20 (by decide) ?_
    refine x_iret rfl dX10_thing_21 (p2_0 (by omega))

set_option maxHeartbeats 4000000 in
set_option maxRecDepth 100000 in
theorem c_X11_thing {S : St} {I : Isl} (hI : IsM I S) (hO : IOK I) {w : Nat → Nat} (hw0 : ∀ t, t < iM I → S.1 93 t = nI (w t)) {L : Nat} (hL : S.1 83 17 = nI L) (hL7 : L ≤ 6) (hv : VS I w L) {x y : Int32} : C 2 60 yX11_thing mX11_thing [.ref 83, .int x, .int y] S (pu (.int (i2 (¬ ((0 ≤ x.toInt ∧ x.toInt < (iM I : Int)) ∧ 0 ≤ y.toInt ∧ y.toInt ≤ 3)) (-1) 1)) (i2 (¬ ((0 ≤ x.toInt ∧ x.toInt < (iM I : Int)) ∧ 0 ≤ y.toInt ∧ y.toInt ≤ 3)) (lkS S (iM I)) (setI (lkS S (iM I)) 83 2 (nI (thA I w (tn x) (tn y)))))) := by
  have n0 : (nI 0).toInt = 0 := rfl
  have n1 : (nI 1).toInt = 1 := rfl
  have n3 : (nI 3).toInt = 3 := rfl
  have n5 : (nI 5).toInt = 5 := rfl
  have n7 : (nI 7).toInt = 7 := rfl
  have n2 : (nI 2).toInt = 2 := rfl
  have n6 : (nI 6).toInt = 6 := rfl
  have hO1 := hO.1
  have hO2 := hO.2.1
  have hO3 := hO.2.2.1
  have hO4 := hO.2.2.2.1
  have hw := hv.ok hO
  have hw7 := hw.w7 hO
  refine C.ofX (by decide) rfl (Nat.le_of_ble_eq_true rfl) ?_
  show X 2 60 mX11_thing (pu (.int (i2 (¬ ((0 ≤ x.toInt ∧ x.toInt < (iM I : Int)) ∧ 0 ≤ y.toInt ∧ y.toInt ≤ 3)) (-1) 1)) (i2 (¬ ((0 ≤ x.toInt ∧ x.toInt < (iM I : Int)) ∧ 0 ≤ y.toInt ∧ y.toInt ≤ 3)) (lkS S (iM I)) (setI (lkS S (iM I)) 83 2 (nI (thA I w (tn x) (tn y)))))) 0 [(0, .ref 83), (1, .int x), (2, .int y)] [] S
  refine x_aload_n 0 dX11_thing_0 rfl rfl ?_
  refine x_callVv (as := []) (rest := []) vX11_217 (c_X11_lookNow hI hO) dX11_thing_1 l83 rfl rfl rfl (Nat.le_of_ble_eq_true rfl) (Nat.le_of_ble_eq_true rfl) (Nat.le_of_ble_eq_true rfl) ?_
  refine x_aload_n 0 dX11_thing_4 rfl rfl ?_
  refine x_iload_n 1 dX11_thing_5 rfl rfl ?_
  refine x_callVb (as := [_]) (rest := []) vX11_220 (c_X11_isThing (w := w) (hI.lk _) hO) dX11_thing_6 l83 rfl rfl rfl (Nat.le_of_ble_eq_true rfl) (Nat.le_of_ble_eq_true rfl) (Nat.le_of_ble_eq_true rfl) (fun c_6 => ?_) (fun c_6 => ?_)
  · refine u_if_eq 35 dX11_thing_9 (by decide) (by decide) ?_
    refine x_iload_n 2 dX11_thing_12 rfl rfl ?_
    refine x_iconst (v := nI 0) dX11_thing_13 (by decide) ?_
    refine x_iconst (v := nI 3) dX11_thing_14 (by decide) ?_
    refine x_callSb (as := [_, _, _]) (rest := []) sX11_98 c_X11_in dX11_thing_15 rfl rfl (Nat.le_of_ble_eq_true rfl) (Nat.le_of_ble_eq_true rfl) (Nat.le_of_ble_eq_true rfl) (fun c_15 => ?_) (fun c_15 => ?_)
    · refine u_if_eq 35 dX11_thing_18 (by decide) (by decide) ?_
      obtain ⟨a, ha, rfl⟩ := nI_ex (x := x) (n := iM I) (by omega) (by omega)
      have ea : (nI a).toInt = (a : Int) := tiN (by omega)
      have ta : tn (nI a) = a := tnN (by omega)
      obtain ⟨b, hb, rfl⟩ := nI_ex (x := y) (n := 4) (by omega) (by omega)
      have eb : (nI b).toInt = (b : Int) := tiN (by omega)
      have tb : tn (nI b) = b := tnN (by omega)
      refine x_aload_n 0 dX11_thing_21 rfl rfl ?_
      refine x_aload_n 0 dX11_thing_22 rfl rfl ?_
      refine x_iload_n 1 dX11_thing_23 rfl rfl ?_
      refine x_iload_n 2 dX11_thing_24 rfl rfl ?_
      refine x_callVu (as := [_, _]) (rest := [_]) vX11_223 (c_X11_thingTells (h := b) (hI.lk _) hO (lkS_W hw0) hw ha (by omega)) dX11_thing_25 l83 rfl rfl rfl (Nat.le_of_ble_eq_true rfl) (Nat.le_of_ble_eq_true rfl) (Nat.le_of_ble_eq_true rfl) ?_
      refine x_iconst (v := nI 1) dX11_thing_28 (by decide) ?_
      refine x_callVu (as := [_, _]) (rest := []) vX11_120 c_X11_tells dX11_thing_29 l83 rfl rfl rfl (Nat.le_of_ble_eq_true rfl) (Nat.le_of_ble_eq_true rfl) (Nat.le_of_ble_eq_true rfl) ?_
      refine x_goto 36 dX11_thing_32 (by decide) ?_
      refine x_iret rfl dX11_thing_36 (by simp only [ta, tb]; exact p2_1 (by omega))
    · refine t_if_eq 35 dX11_thing_18 (by decide) (by decide) ?_
      refine x_iconst (v := -1) dX11_thing_35 (by decide) ?_
      refine x_iret rfl dX11_thing_36 (p2_0 (by omega))
  · refine t_if_eq 35 dX11_thing_9 (by decide) (by decide) ?_
    refine x_iconst (v := -1) dX11_thing_35 (by decide) ?_
    refine x_iret rfl dX11_thing_36 (p2_0 (by omega))

set_option maxHeartbeats 4000000 in
set_option maxRecDepth 100000 in
theorem c_X10_mark {S : St} {I : Isl} (hI : IsX 11 I S) (hO : IOK I) {w : Nat → Nat} (hP : PlT 35 I w S) {L : Nat} (hL : S.1 35 5 = nI L) (hL7 : L ≤ 6) (hv : VS I w L) {x y : Int32} : C 3 90 yX10_mark mX10_mark [.ref 0, .int x, .int y] S (pu (.int (i3 (¬ ((0 ≤ x.toInt ∧ x.toInt < (iM I : Int)) ∧ 1 ≤ y.toInt ∧ y.toInt ≤ 5)) (¬ isOfP I (tn x) (tn y)) (-1) (-3) (mkA I w (tn x) (tn y)))) (i3 (¬ ((0 ≤ x.toInt ∧ x.toInt < (iM I : Int)) ∧ 1 ≤ y.toInt ∧ y.toInt ≤ 5)) (¬ isOfP I (tn x) (tn y)) S (fndS S 3) S)) := by
  have n0 : (nI 0).toInt = 0 := rfl
  have n1 : (nI 1).toInt = 1 := rfl
  have n3 : (nI 3).toInt = 3 := rfl
  have n5 : (nI 5).toInt = 5 := rfl
  have n7 : (nI 7).toInt = 7 := rfl
  have n2 : (nI 2).toInt = 2 := rfl
  have n6 : (nI 6).toInt = 6 := rfl
  have hO1 := hO.1
  have hO2 := hO.2.1
  have hO3 := hO.2.2.1
  have hO4 := hO.2.2.2.1
  have hw := hv.ok hO
  have hw7 := hw.w7 hO
  refine C.ofX (by decide) rfl (Nat.le_of_ble_eq_true rfl) ?_
  show X 3 90 mX10_mark (pu (.int (i3 (¬ ((0 ≤ x.toInt ∧ x.toInt < (iM I : Int)) ∧ 1 ≤ y.toInt ∧ y.toInt ≤ 5)) (¬ isOfP I (tn x) (tn y)) (-1) (-3) (mkA I w (tn x) (tn y)))) (i3 (¬ ((0 ≤ x.toInt ∧ x.toInt < (iM I : Int)) ∧ 1 ≤ y.toInt ∧ y.toInt ≤ 5)) (¬ isOfP I (tn x) (tn y)) S (fndS S 3) S)) 0 [(0, .ref 0), (1, .int x), (2, .int y)] [] S
  refine x_aload_n 0 dX10_mark_0 rfl rfl ?_
  refine x_getR fX10_40 dX10_mark_1 l0 rfl ?_
  refine x_iload_n 1 dX10_mark_4 rfl rfl ?_
  refine x_callVb (as := [_]) (rest := []) vX10_176 (c_X1_isThing (Or.inl rfl) hI hO) dX10_mark_5 l11 rfl rfl rfl (Nat.le_of_ble_eq_true rfl) (Nat.le_of_ble_eq_true rfl) (Nat.le_of_ble_eq_true rfl) (fun c_5 => ?_) (fun c_5 => ?_)
  · refine u_if_eq 21 dX10_mark_8 (by decide) (by decide) ?_
    refine x_iload_n 2 dX10_mark_11 rfl rfl ?_
    refine x_iconst (v := nI 1) dX10_mark_12 (by decide) ?_
    refine z_ic_lt 21 dX10_mark_13 (by decide) (by omega) (fun c_13 => ?_) (fun c_13 => ?_)
    · refine x_iconst (v := -1) dX10_mark_21 (by decide) ?_
      refine x_iret rfl dX10_mark_22 (p3_0 (by omega))
    · refine x_iload_n 2 dX10_mark_16 rfl rfl ?_
      refine x_iconst (v := nI 5) dX10_mark_17 (by decide) ?_
      refine z_ic_le 23 dX10_mark_18 (by decide) (by omega) (fun c_18 => ?_) (fun c_18 => ?_)
      · obtain ⟨a, ha, rfl⟩ := nI_ex (x := x) (n := iM I) (by omega) (by omega)
        have ea : (nI a).toInt = (a : Int) := tiN (by omega)
        have ta : tn (nI a) = a := tnN (by omega)
        obtain ⟨b, hb, rfl⟩ := nI_ex (x := y) (n := 6) (by omega) (by omega)
        have eb : (nI b).toInt = (b : Int) := tiN (by omega)
        have tb : tn (nI b) = b := tnN (by omega)
        refine x_aload_n 0 dX10_mark_23 rfl rfl ?_
        refine x_getR fX10_40 dX10_mark_24 l0 rfl ?_
        refine x_iload_n 1 dX10_mark_27 rfl rfl ?_
        refine x_iload_n 2 dX10_mark_28 rfl rfl ?_
        refine x_callVb (as := [_, _]) (rest := []) vX10_194 (c_X1_isOf hI hO ha (by omega)) dX10_mark_29 l11 rfl rfl rfl (Nat.le_of_ble_eq_true rfl) (Nat.le_of_ble_eq_true rfl) (Nat.le_of_ble_eq_true rfl) (fun c_29 => ?_) (fun c_29 => ?_)
        · refine t_if_ne 44 dX10_mark_32 (by decide) (by decide) ?_
          refine x_iload_n 2 dX10_mark_44 rfl rfl ?_
          by_cases cs_45 : b = 1 ∨ b = 2 ∨ b = 3 ∨ b = 4
          · rcases cs_45 with rfl | rfl | rfl | rfl
            · refine x_tin (off := 31) 76 dX10_mark_45 (by decide) (by decide) (by decide) (by decide) ?_
              refine x_aload_n 0 dX10_mark_76 rfl rfl ?_
              refine x_getR fX10_49 dX10_mark_77 l0 rfl ?_
              refine x_iload_n 1 dX10_mark_80 rfl rfl ?_
              refine x_callVu (as := [_]) (rest := []) vX10_198 (c_inBagX (Or.inl rfl) hI hO hP ha (by unfold bagK at c_29; unfold bagK; omega)) dX10_mark_81 l35 rfl rfl rfl (Nat.le_of_ble_eq_true rfl) (Nat.le_of_ble_eq_true rfl) (Nat.le_of_ble_eq_true rfl) ?_
              refine x_iret rfl dX10_mark_84 (by simp only [ta, tb]; exact p3_2 (by omega) (fun h => h c_29))
            · refine x_tin (off := 40) 85 dX10_mark_45 (by decide) (by decide) (by decide) (by decide) ?_
              have hva := hv.1 a ha
              have hwl : w a < 4 := hva.2.1 (by unfold livK at c_29 ⊢; omega)
              refine x_aload_n 0 dX10_mark_85 rfl rfl ?_
              refine x_getR fX10_49 dX10_mark_86 l0 rfl ?_
              refine x_aload_n 0 dX10_mark_89 rfl rfl ?_
              refine x_getR fX10_49 dX10_mark_90 l0 rfl ?_
              refine x_getR fX10_185 dX10_mark_93 l35 rfl ?_
              refine x_iload_n 1 dX10_mark_96 rfl rfl ?_
              refine y_iald dX10_mark_97 l36 (by omega) (by decide) (hP.1 a ha) ?_
              refine x_callVu (as := [_]) (rest := []) vX10_201 (c_X3_loadOf (p := w a) (Or.inl rfl) hI hO hP (by omega)) dX10_mark_98 l35 rfl rfl rfl (Nat.le_of_ble_eq_true rfl) (Nat.le_of_ble_eq_true rfl) (Nat.le_of_ble_eq_true rfl) ?_
              rw [if_pos (show w a ≤ 4 by omega)]
              refine x_iret rfl dX10_mark_101 (by simp only [ta, tb]; exact p3_2 (by omega) (fun h => h c_29))
            · refine x_tin (off := 57) 102 dX10_mark_45 (by decide) (by decide) (by decide) (by decide) ?_
              refine x_aload_n 0 dX10_mark_102 rfl rfl ?_
              refine x_getR fX10_40 dX10_mark_103 l0 rfl ?_
              refine x_iload_n 1 dX10_mark_106 rfl rfl ?_
              refine x_callVu (as := [_]) (rest := []) vX10_204 (c_X1_wanting hI hO (by omega)) dX10_mark_107 l11 rfl rfl rfl (Nat.le_of_ble_eq_true rfl) (Nat.le_of_ble_eq_true rfl) (Nat.le_of_ble_eq_true rfl) ?_
              refine x_iret rfl dX10_mark_110 (by simp only [ta, tb]; exact p3_2 (by omega) (fun h => h c_29))
            · refine x_tin (off := 66) 111 dX10_mark_45 (by decide) (by decide) (by decide) (by decide) ?_
              refine x_aload_n 0 dX10_mark_111 rfl rfl ?_
              refine x_getR fX10_40 dX10_mark_112 l0 rfl ?_
              refine x_getR fX10_207 dX10_mark_115 l11 rfl ?_
              refine x_iload_n 1 dX10_mark_118 rfl rfl ?_
              refine y_iald dX10_mark_119 l15 (by omega) (by decide) (hI.2.2.2.2.1 a ha).2.2.2 ?_
              refine x_aload_n 0 dX10_mark_120 rfl rfl ?_
              refine x_getR fX10_49 dX10_mark_121 l0 rfl ?_
              refine x_iload_n 1 dX10_mark_124 rfl rfl ?_
              refine x_callVu (as := [_]) (rest := [_]) vX10_198 (c_inBagX (Or.inl rfl) hI hO hP ha (by unfold bagK at c_29; unfold bagK; omega)) dX10_mark_125 l35 rfl rfl rfl (Nat.le_of_ble_eq_true rfl) (Nat.le_of_ble_eq_true rfl) (Nat.le_of_ble_eq_true rfl) ?_
              refine x_isub dX10_mark_128 ?_
              refine x_iret rfl dX10_mark_129 (by simp only [ta, tb]; exact p3_2 (by omega) (fun h => h c_29))
          · refine x_tout 130 dX10_mark_45 (by rw [tiN (by omega)]; omega) (by decide) ?_
            obtain rfl : b = 5 := (by omega)
            have hva := hv.1 a ha
            have hwl : w a < 4 := hva.2.1 (by unfold livK at c_29 ⊢; omega)
            refine x_aload_n 0 dX10_mark_130 rfl rfl ?_
            refine x_getR fX10_49 dX10_mark_131 l0 rfl ?_
            refine x_aload_n 0 dX10_mark_134 rfl rfl ?_
            refine x_getR fX10_49 dX10_mark_135 l0 rfl ?_
            refine x_getR fX10_185 dX10_mark_138 l35 rfl ?_
            refine x_iload_n 1 dX10_mark_141 rfl rfl ?_
            refine y_iald dX10_mark_142 l36 (by omega) (by decide) (hP.1 a ha) ?_
            refine x_callVu (as := [_]) (rest := []) vX10_210 (c_X3_heldBy (p := w a) (Or.inl rfl) hI hO hP (by omega)) dX10_mark_143 l35 rfl rfl rfl (Nat.le_of_ble_eq_true rfl) (Nat.le_of_ble_eq_true rfl) (Nat.le_of_ble_eq_true rfl) ?_
            rw [if_pos (show w a ≤ 4 by omega)]
            refine x_callSu (as := [_]) (rest := []) sX10_213 (c_J6_bitCount_0f7a4 (by have := heldF_lt I hO w (w a); omega)) dX10_mark_146 rfl rfl (Nat.le_of_ble_eq_true rfl) (Nat.le_of_ble_eq_true rfl) (Nat.le_of_ble_eq_true rfl) ?_
            refine x_iconst (v := nI 1) dX10_mark_149 (by decide) ?_
            refine x_isub dX10_mark_150 ?_
            refine x_iret rfl dX10_mark_151 (by simp only [ta, tb]; exact p3_2 (by omega) (fun h => h c_29))
        · refine u_if_ne 44 dX10_mark_32 (by decide) (by decide) ?_
          refine x_aload_n 0 dX10_mark_35 rfl rfl ?_
          refine x_getR fX10_10 dX10_mark_36 l0 rfl ?_
          refine x_iconst (v := nI 3) dX10_mark_39 (by decide) ?_
          refine x_callVu (as := [_]) (rest := []) vX10_109 (c_X9_find (by decide) (by decide)) dX10_mark_40 l1 rfl rfl rfl (Nat.le_of_ble_eq_true rfl) (Nat.le_of_ble_eq_true rfl) (Nat.le_of_ble_eq_true rfl) ?_
          refine x_iret rfl dX10_mark_43 (by simp only [ta, tb]; exact p3_1 (by omega) c_29)
      · refine x_iconst (v := -1) dX10_mark_21 (by decide) ?_
        refine x_iret rfl dX10_mark_22 (p3_0 (by omega))
  · refine t_if_eq 21 dX10_mark_8 (by decide) (by decide) ?_
    refine x_iconst (v := -1) dX10_mark_21 (by decide) ?_
    refine x_iret rfl dX10_mark_22 (p3_0 (by omega))

set_option maxHeartbeats 4000000 in
set_option maxRecDepth 100000 in
theorem c_X11_mark {S : St} {I : Isl} (hI : IsM I S) (hO : IOK I) {w : Nat → Nat} (hw0 : ∀ t, t < iM I → S.1 93 t = nI (w t)) {L : Nat} (hL : S.1 83 17 = nI L) (hL7 : L ≤ 6) (hv : VS I w L) {x y : Int32} : C 2 60 yX11_mark mX11_mark [.ref 83, .int x, .int y] S (pu (.int (i3 (¬ ((0 ≤ x.toInt ∧ x.toInt < (iM I : Int)) ∧ 1 ≤ y.toInt ∧ y.toInt ≤ 5)) (¬ isOfP I (tn x) (tn y)) (-1) (-3) (mkA I w (tn x) (tn y)))) (i3 (¬ ((0 ≤ x.toInt ∧ x.toInt < (iM I : Int)) ∧ 1 ≤ y.toInt ∧ y.toInt ≤ 5)) (¬ isOfP I (tn x) (tn y)) S (fndM S 3) (lkS S (iM I)))) := by
  have n0 : (nI 0).toInt = 0 := rfl
  have n1 : (nI 1).toInt = 1 := rfl
  have n3 : (nI 3).toInt = 3 := rfl
  have n5 : (nI 5).toInt = 5 := rfl
  have n7 : (nI 7).toInt = 7 := rfl
  have n2 : (nI 2).toInt = 2 := rfl
  have n6 : (nI 6).toInt = 6 := rfl
  have hO1 := hO.1
  have hO2 := hO.2.1
  have hO3 := hO.2.2.1
  have hO4 := hO.2.2.2.1
  have hw := hv.ok hO
  have hw7 := hw.w7 hO
  refine C.ofX (by decide) rfl (Nat.le_of_ble_eq_true rfl) ?_
  show X 2 60 mX11_mark (pu (.int (i3 (¬ ((0 ≤ x.toInt ∧ x.toInt < (iM I : Int)) ∧ 1 ≤ y.toInt ∧ y.toInt ≤ 5)) (¬ isOfP I (tn x) (tn y)) (-1) (-3) (mkA I w (tn x) (tn y)))) (i3 (¬ ((0 ≤ x.toInt ∧ x.toInt < (iM I : Int)) ∧ 1 ≤ y.toInt ∧ y.toInt ≤ 5)) (¬ isOfP I (tn x) (tn y)) S (fndM S 3) (lkS S (iM I)))) 0 [(0, .ref 83), (1, .int x), (2, .int y)] [] S
  refine x_aload_n 0 dX11_mark_0 rfl rfl ?_
  refine x_iload_n 1 dX11_mark_1 rfl rfl ?_
  refine x_callVb (as := [_]) (rest := []) vX11_220 (c_X11_isThing (w := w) hI hO) dX11_mark_2 l83 rfl rfl rfl (Nat.le_of_ble_eq_true rfl) (Nat.le_of_ble_eq_true rfl) (Nat.le_of_ble_eq_true rfl) (fun c_2 => ?_) (fun c_2 => ?_)
  · refine u_if_eq 17 dX11_mark_5 (by decide) (by decide) ?_
    refine x_iload_n 2 dX11_mark_8 rfl rfl ?_
    refine x_iconst (v := nI 1) dX11_mark_9 (by decide) ?_
    refine x_iconst (v := nI 5) dX11_mark_10 (by decide) ?_
    refine x_callSb (as := [_, _, _]) (rest := []) sX11_98 c_X11_in dX11_mark_11 rfl rfl (Nat.le_of_ble_eq_true rfl) (Nat.le_of_ble_eq_true rfl) (Nat.le_of_ble_eq_true rfl) (fun c_11 => ?_) (fun c_11 => ?_)
    · refine t_if_ne 19 dX11_mark_14 (by decide) (by decide) ?_
      obtain ⟨a, ha, rfl⟩ := nI_ex (x := x) (n := iM I) (by omega) (by omega)
      have ea : (nI a).toInt = (a : Int) := tiN (by omega)
      have ta : tn (nI a) = a := tnN (by omega)
      obtain ⟨b, hb, rfl⟩ := nI_ex (x := y) (n := 6) (by omega) (by omega)
      have eb : (nI b).toInt = (b : Int) := tiN (by omega)
      have tb : tn (nI b) = b := tnN (by omega)
      have hva := hv.1 a ha
      have hka := hO.2.2.2.2.1 a ha
      have hwa7 := hw7 a ha
      refine x_aload_n 0 dX11_mark_19 rfl rfl ?_
      refine x_getR fX11_29 dX11_mark_20 l83 rfl ?_
      refine x_iload_n 1 dX11_mark_23 rfl rfl ?_
      refine y_iald dX11_mark_24 l90 (by omega) (by decide) (hI.2.2.2.2.1 a ha) ?_
      refine x_istore_n (lv' := [(3, _), (0, _), (1, _), (2, _)]) dX11_mark_25 rfl (by decide) rfl ?_
      refine x_iload_n 0 dX11_mark_26 rfl rfl ?_
      refine x_iload_n 3 dX11_mark_27 rfl rfl ?_
      refine y_ic_eq 57 dX11_mark_28 (by decide) (by omega) (by omega) (fun c_28 => ?_) (fun c_28 => ?_)
      · refine x_aload_n 1 dX11_mark_57 rfl rfl ?_
        refine x_callVv (as := []) (rest := []) vX11_217 (c_X11_lookNow hI hO) dX11_mark_58 l83 rfl rfl rfl (Nat.le_of_ble_eq_true rfl) (Nat.le_of_ble_eq_true rfl) (Nat.le_of_ble_eq_true rfl) ?_
        refine x_iload_n 3 dX11_mark_61 rfl rfl ?_
        by_cases cs_62 : b = 1 ∨ b = 2 ∨ b = 3 ∨ b = 4
        · rcases cs_62 with rfl | rfl | rfl | rfl
          · refine x_tin (off := 30) 92 dX11_mark_62 (by decide) (by decide) (by decide) (by decide) ?_
            refine x_aload_n 1 dX11_mark_92 rfl rfl ?_
            refine x_iload_n 2 dX11_mark_93 rfl rfl ?_
            refine x_callVu (as := [_]) (rest := []) vX11_202 (c_inBagM (hI.lk _) hO (lkS_W hw0) hw.1 ha (by unfold bagK; omega)) dX11_mark_94 l83 rfl rfl rfl (Nat.le_of_ble_eq_true rfl) (Nat.le_of_ble_eq_true rfl) (Nat.le_of_ble_eq_true rfl) ?_
            refine x_iret rfl dX11_mark_97 (by simp only [ta, tb]; exact p3_2 (by omega) (fun h => h (by unfold isOfP bagK livK; omega)))
          · refine x_tin (off := 36) 98 dX11_mark_62 (by decide) (by decide) (by decide) (by decide) ?_
            refine x_aload_n 1 dX11_mark_98 rfl rfl ?_
            refine x_aload_n 1 dX11_mark_99 rfl rfl ?_
            refine x_getR fX11_50 dX11_mark_100 l83 rfl ?_
            refine x_iload_n 2 dX11_mark_103 rfl rfl ?_
            refine y_iald dX11_mark_104 l97 (by omega) (by decide) (lkS_W hw0 a ha) ?_
            refine x_callVu (as := [_]) (rest := []) vX11_205 (c_X11_loadOf (hI.lk _) hO (lkS_W hw0) hw7 (by omega)) dX11_mark_105 l83 rfl rfl rfl (Nat.le_of_ble_eq_true rfl) (Nat.le_of_ble_eq_true rfl) (Nat.le_of_ble_eq_true rfl) ?_
            refine x_iret rfl dX11_mark_108 (by simp only [ta, tb]; exact p3_2 (by omega) (fun h => h (by unfold isOfP bagK livK; omega)))
          · refine x_tin (off := 47) 109 dX11_mark_62 (by decide) (by decide) (by decide) (by decide) ?_
            refine x_aload_n 1 dX11_mark_109 rfl rfl ?_
            refine x_iload_n 2 dX11_mark_110 rfl rfl ?_
            refine x_callVu (as := [_]) (rest := []) vX11_226 (c_X11_wantedIn (hI.lk _) hO (by omega)) dX11_mark_111 l83 rfl rfl rfl (Nat.le_of_ble_eq_true rfl) (Nat.le_of_ble_eq_true rfl) (Nat.le_of_ble_eq_true rfl) ?_
            refine x_iret rfl dX11_mark_114 (by simp only [ta, tb]; exact p3_2 (by omega) (fun h => h (by unfold isOfP bagK livK; omega)))
          · refine x_tin (off := 53) 115 dX11_mark_62 (by decide) (by decide) (by decide) (by decide) ?_
            refine x_aload_n 1 dX11_mark_115 rfl rfl ?_
            refine x_iload_n 2 dX11_mark_116 rfl rfl ?_
            refine x_callVu (as := [_]) (rest := []) vX11_214 (c_roomM (hI.lk _) hO (lkS_W hw0) hw.1 ha (by unfold bagK; omega)) dX11_mark_117 l83 rfl rfl rfl (Nat.le_of_ble_eq_true rfl) (Nat.le_of_ble_eq_true rfl) (Nat.le_of_ble_eq_true rfl) ?_
            refine x_iret rfl dX11_mark_120 (by simp only [ta, tb]; exact p3_2 (by omega) (fun h => h (by unfold isOfP bagK livK; omega)))
        · refine x_tout 121 dX11_mark_62 (by rw [tiN (by omega)]; omega) (by decide) ?_
          obtain rfl : b = 5 := (by omega)
          refine x_aload_n 1 dX11_mark_121 rfl rfl ?_
          refine x_aload_n 1 dX11_mark_122 rfl rfl ?_
          refine x_getR fX11_50 dX11_mark_123 l83 rfl ?_
          refine x_iload_n 2 dX11_mark_126 rfl rfl ?_
          refine y_iald dX11_mark_127 l97 (by omega) (by decide) (lkS_W hw0 a ha) ?_
          refine x_callVu (as := [_]) (rest := []) vX11_229 (c_X11_ownedBy (hI.lk _) hO (lkS_W hw0) hw (by omega)) dX11_mark_128 l83 rfl rfl rfl (Nat.le_of_ble_eq_true rfl) (Nat.le_of_ble_eq_true rfl) (Nat.le_of_ble_eq_true rfl) ?_
          refine x_callSu (as := [_]) (rest := []) sX11_232 (c_X11_bits (by have := heldF_lt I hO w (w a); omega)) dX11_mark_131 rfl rfl (Nat.le_of_ble_eq_true rfl) (Nat.le_of_ble_eq_true rfl) (Nat.le_of_ble_eq_true rfl) ?_
          refine x_iconst (v := nI 1) dX11_mark_134 (by decide) ?_
          refine x_isub dX11_mark_135 ?_
          refine x_iret rfl dX11_mark_136 (by simp only [ta, tb]; exact p3_2 (by omega) (fun h => h (by unfold isOfP bagK livK; omega)))
      · refine x_iload_n 3 dX11_mark_31 rfl rfl ?_
        refine x_iconst (v := nI 1) dX11_mark_32 (by decide) ?_
        refine y_ic_ne 41 dX11_mark_33 (by decide) (by omega) (by omega) (fun c_33 => ?_) (fun c_33 => ?_)
        · refine x_iload_n 3 dX11_mark_41 rfl rfl ?_
          refine x_iconst (v := nI 2) dX11_mark_42 (by decide) ?_
          refine y_ic_ne 51 dX11_mark_43 (by decide) (by omega) (by omega) (fun c_43 => ?_) (fun c_43 => ?_)
          · refine x_aload_n 1 dX11_mark_51 rfl rfl ?_
            refine x_iconst (v := nI 3) dX11_mark_52 (by decide) ?_
            refine x_callVu (as := [_]) (rest := []) vX11_112 (c_X11_meets (by decide)) dX11_mark_53 l83 rfl rfl rfl (Nat.le_of_ble_eq_true rfl) (Nat.le_of_ble_eq_true rfl) (Nat.le_of_ble_eq_true rfl) ?_
            refine x_iret rfl dX11_mark_56 (by simp only [ta, tb]; exact p3_1 (by omega) (by unfold isOfP bagK livK; omega))
          · refine x_iload_n 0 dX11_mark_46 rfl rfl ?_
            refine x_iconst (v := nI 5) dX11_mark_47 (by decide) ?_
            refine y_ic_eq 57 dX11_mark_48 (by decide) (by omega) (by omega) (fun c_48 => ?_) (fun c_48 => ?_)
            · refine x_aload_n 1 dX11_mark_57 rfl rfl ?_
              refine x_callVv (as := []) (rest := []) vX11_217 (c_X11_lookNow hI hO) dX11_mark_58 l83 rfl rfl rfl (Nat.le_of_ble_eq_true rfl) (Nat.le_of_ble_eq_true rfl) (Nat.le_of_ble_eq_true rfl) ?_
              refine x_iload_n 3 dX11_mark_61 rfl rfl ?_
              by_cases cs_62 : b = 1 ∨ b = 2 ∨ b = 3 ∨ b = 4
              · rcases cs_62 with rfl | rfl | rfl | rfl
                · refine x_tin (off := 30) 92 dX11_mark_62 (by decide) (by decide) (by decide) (by decide) ?_
                  refine x_aload_n 1 dX11_mark_92 rfl rfl ?_
                  refine x_iload_n 2 dX11_mark_93 rfl rfl ?_
                  refine x_callVu (as := [_]) (rest := []) vX11_202 (c_inBagM (hI.lk _) hO (lkS_W hw0) hw.1 ha (by unfold bagK; omega)) dX11_mark_94 l83 rfl rfl rfl (Nat.le_of_ble_eq_true rfl) (Nat.le_of_ble_eq_true rfl) (Nat.le_of_ble_eq_true rfl) ?_
                  refine x_iret rfl dX11_mark_97 (by simp only [ta, tb]; exact p3_2 (by omega) (fun h => h (by unfold isOfP bagK livK; omega)))
                · refine x_tin (off := 36) 98 dX11_mark_62 (by decide) (by decide) (by decide) (by decide) ?_
                  refine x_aload_n 1 dX11_mark_98 rfl rfl ?_
                  refine x_aload_n 1 dX11_mark_99 rfl rfl ?_
                  refine x_getR fX11_50 dX11_mark_100 l83 rfl ?_
                  refine x_iload_n 2 dX11_mark_103 rfl rfl ?_
                  refine y_iald dX11_mark_104 l97 (by omega) (by decide) (lkS_W hw0 a ha) ?_
                  refine x_callVu (as := [_]) (rest := []) vX11_205 (c_X11_loadOf (hI.lk _) hO (lkS_W hw0) hw7 (by omega)) dX11_mark_105 l83 rfl rfl rfl (Nat.le_of_ble_eq_true rfl) (Nat.le_of_ble_eq_true rfl) (Nat.le_of_ble_eq_true rfl) ?_
                  refine x_iret rfl dX11_mark_108 (by simp only [ta, tb]; exact p3_2 (by omega) (fun h => h (by unfold isOfP bagK livK; omega)))
                · refine x_tin (off := 47) 109 dX11_mark_62 (by decide) (by decide) (by decide) (by decide) ?_
                  refine x_aload_n 1 dX11_mark_109 rfl rfl ?_
                  refine x_iload_n 2 dX11_mark_110 rfl rfl ?_
                  refine x_callVu (as := [_]) (rest := []) vX11_226 (c_X11_wantedIn (hI.lk _) hO (by omega)) dX11_mark_111 l83 rfl rfl rfl (Nat.le_of_ble_eq_true rfl) (Nat.le_of_ble_eq_true rfl) (Nat.le_of_ble_eq_true rfl) ?_
                  refine x_iret rfl dX11_mark_114 (by simp only [ta, tb]; exact p3_2 (by omega) (fun h => h (by unfold isOfP bagK livK; omega)))
                · refine x_tin (off := 53) 115 dX11_mark_62 (by decide) (by decide) (by decide) (by decide) ?_
                  refine x_aload_n 1 dX11_mark_115 rfl rfl ?_
                  refine x_iload_n 2 dX11_mark_116 rfl rfl ?_
                  refine x_callVu (as := [_]) (rest := []) vX11_214 (c_roomM (hI.lk _) hO (lkS_W hw0) hw.1 ha (by unfold bagK; omega)) dX11_mark_117 l83 rfl rfl rfl (Nat.le_of_ble_eq_true rfl) (Nat.le_of_ble_eq_true rfl) (Nat.le_of_ble_eq_true rfl) ?_
                  refine x_iret rfl dX11_mark_120 (by simp only [ta, tb]; exact p3_2 (by omega) (fun h => h (by unfold isOfP bagK livK; omega)))
              · refine x_tout 121 dX11_mark_62 (by rw [tiN (by omega)]; omega) (by decide) ?_
                obtain rfl : b = 5 := (by omega)
                refine x_aload_n 1 dX11_mark_121 rfl rfl ?_
                refine x_aload_n 1 dX11_mark_122 rfl rfl ?_
                refine x_getR fX11_50 dX11_mark_123 l83 rfl ?_
                refine x_iload_n 2 dX11_mark_126 rfl rfl ?_
                refine y_iald dX11_mark_127 l97 (by omega) (by decide) (lkS_W hw0 a ha) ?_
                refine x_callVu (as := [_]) (rest := []) vX11_229 (c_X11_ownedBy (hI.lk _) hO (lkS_W hw0) hw (by omega)) dX11_mark_128 l83 rfl rfl rfl (Nat.le_of_ble_eq_true rfl) (Nat.le_of_ble_eq_true rfl) (Nat.le_of_ble_eq_true rfl) ?_
                refine x_callSu (as := [_]) (rest := []) sX11_232 (c_X11_bits (by have := heldF_lt I hO w (w a); omega)) dX11_mark_131 rfl rfl (Nat.le_of_ble_eq_true rfl) (Nat.le_of_ble_eq_true rfl) (Nat.le_of_ble_eq_true rfl) ?_
                refine x_iconst (v := nI 1) dX11_mark_134 (by decide) ?_
                refine x_isub dX11_mark_135 ?_
                refine x_iret rfl dX11_mark_136 (by simp only [ta, tb]; exact p3_2 (by omega) (fun h => h (by unfold isOfP bagK livK; omega)))
            · refine x_aload_n 1 dX11_mark_51 rfl rfl ?_
              refine x_iconst (v := nI 3) dX11_mark_52 (by decide) ?_
              refine x_callVu (as := [_]) (rest := []) vX11_112 (c_X11_meets (by decide)) dX11_mark_53 l83 rfl rfl rfl (Nat.le_of_ble_eq_true rfl) (Nat.le_of_ble_eq_true rfl) (Nat.le_of_ble_eq_true rfl) ?_
              refine x_iret rfl dX11_mark_56 (by simp only [ta, tb]; exact p3_1 (by omega) (by unfold isOfP bagK livK; omega))
        · refine x_iload_n 0 dX11_mark_36 rfl rfl ?_
          refine x_iconst (v := nI 4) dX11_mark_37 (by decide) ?_
          refine y_ic_eq 57 dX11_mark_38 (by decide) (by omega) (by omega) (fun c_38 => ?_) (fun c_38 => ?_)
          · refine x_aload_n 1 dX11_mark_57 rfl rfl ?_
            refine x_callVv (as := []) (rest := []) vX11_217 (c_X11_lookNow hI hO) dX11_mark_58 l83 rfl rfl rfl (Nat.le_of_ble_eq_true rfl) (Nat.le_of_ble_eq_true rfl) (Nat.le_of_ble_eq_true rfl) ?_
            refine x_iload_n 3 dX11_mark_61 rfl rfl ?_
            by_cases cs_62 : b = 1 ∨ b = 2 ∨ b = 3 ∨ b = 4
            · rcases cs_62 with rfl | rfl | rfl | rfl
              · refine x_tin (off := 30) 92 dX11_mark_62 (by decide) (by decide) (by decide) (by decide) ?_
                refine x_aload_n 1 dX11_mark_92 rfl rfl ?_
                refine x_iload_n 2 dX11_mark_93 rfl rfl ?_
                refine x_callVu (as := [_]) (rest := []) vX11_202 (c_inBagM (hI.lk _) hO (lkS_W hw0) hw.1 ha (by unfold bagK; omega)) dX11_mark_94 l83 rfl rfl rfl (Nat.le_of_ble_eq_true rfl) (Nat.le_of_ble_eq_true rfl) (Nat.le_of_ble_eq_true rfl) ?_
                refine x_iret rfl dX11_mark_97 (by simp only [ta, tb]; exact p3_2 (by omega) (fun h => h (by unfold isOfP bagK livK; omega)))
              · refine x_tin (off := 36) 98 dX11_mark_62 (by decide) (by decide) (by decide) (by decide) ?_
                refine x_aload_n 1 dX11_mark_98 rfl rfl ?_
                refine x_aload_n 1 dX11_mark_99 rfl rfl ?_
                refine x_getR fX11_50 dX11_mark_100 l83 rfl ?_
                refine x_iload_n 2 dX11_mark_103 rfl rfl ?_
                refine y_iald dX11_mark_104 l97 (by omega) (by decide) (lkS_W hw0 a ha) ?_
                refine x_callVu (as := [_]) (rest := []) vX11_205 (c_X11_loadOf (hI.lk _) hO (lkS_W hw0) hw7 (by omega)) dX11_mark_105 l83 rfl rfl rfl (Nat.le_of_ble_eq_true rfl) (Nat.le_of_ble_eq_true rfl) (Nat.le_of_ble_eq_true rfl) ?_
                refine x_iret rfl dX11_mark_108 (by simp only [ta, tb]; exact p3_2 (by omega) (fun h => h (by unfold isOfP bagK livK; omega)))
              · refine x_tin (off := 47) 109 dX11_mark_62 (by decide) (by decide) (by decide) (by decide) ?_
                refine x_aload_n 1 dX11_mark_109 rfl rfl ?_
                refine x_iload_n 2 dX11_mark_110 rfl rfl ?_
                refine x_callVu (as := [_]) (rest := []) vX11_226 (c_X11_wantedIn (hI.lk _) hO (by omega)) dX11_mark_111 l83 rfl rfl rfl (Nat.le_of_ble_eq_true rfl) (Nat.le_of_ble_eq_true rfl) (Nat.le_of_ble_eq_true rfl) ?_
                refine x_iret rfl dX11_mark_114 (by simp only [ta, tb]; exact p3_2 (by omega) (fun h => h (by unfold isOfP bagK livK; omega)))
              · refine x_tin (off := 53) 115 dX11_mark_62 (by decide) (by decide) (by decide) (by decide) ?_
                refine x_aload_n 1 dX11_mark_115 rfl rfl ?_
                refine x_iload_n 2 dX11_mark_116 rfl rfl ?_
                refine x_callVu (as := [_]) (rest := []) vX11_214 (c_roomM (hI.lk _) hO (lkS_W hw0) hw.1 ha (by unfold bagK; omega)) dX11_mark_117 l83 rfl rfl rfl (Nat.le_of_ble_eq_true rfl) (Nat.le_of_ble_eq_true rfl) (Nat.le_of_ble_eq_true rfl) ?_
                refine x_iret rfl dX11_mark_120 (by simp only [ta, tb]; exact p3_2 (by omega) (fun h => h (by unfold isOfP bagK livK; omega)))
            · refine x_tout 121 dX11_mark_62 (by rw [tiN (by omega)]; omega) (by decide) ?_
              obtain rfl : b = 5 := (by omega)
              refine x_aload_n 1 dX11_mark_121 rfl rfl ?_
              refine x_aload_n 1 dX11_mark_122 rfl rfl ?_
              refine x_getR fX11_50 dX11_mark_123 l83 rfl ?_
              refine x_iload_n 2 dX11_mark_126 rfl rfl ?_
              refine y_iald dX11_mark_127 l97 (by omega) (by decide) (lkS_W hw0 a ha) ?_
              refine x_callVu (as := [_]) (rest := []) vX11_229 (c_X11_ownedBy (hI.lk _) hO (lkS_W hw0) hw (by omega)) dX11_mark_128 l83 rfl rfl rfl (Nat.le_of_ble_eq_true rfl) (Nat.le_of_ble_eq_true rfl) (Nat.le_of_ble_eq_true rfl) ?_
              refine x_callSu (as := [_]) (rest := []) sX11_232 (c_X11_bits (by have := heldF_lt I hO w (w a); omega)) dX11_mark_131 rfl rfl (Nat.le_of_ble_eq_true rfl) (Nat.le_of_ble_eq_true rfl) (Nat.le_of_ble_eq_true rfl) ?_
              refine x_iconst (v := nI 1) dX11_mark_134 (by decide) ?_
              refine x_isub dX11_mark_135 ?_
              refine x_iret rfl dX11_mark_136 (by simp only [ta, tb]; exact p3_2 (by omega) (fun h => h (by unfold isOfP bagK livK; omega)))
          · refine x_iload_n 3 dX11_mark_41 rfl rfl ?_
            refine x_iconst (v := nI 2) dX11_mark_42 (by decide) ?_
            refine y_ic_ne 51 dX11_mark_43 (by decide) (by omega) (by omega) (fun c_43 => ?_) (fun c_43 => ?_)
            · refine x_aload_n 1 dX11_mark_51 rfl rfl ?_
              refine x_iconst (v := nI 3) dX11_mark_52 (by decide) ?_
              refine x_callVu (as := [_]) (rest := []) vX11_112 (c_X11_meets (by decide)) dX11_mark_53 l83 rfl rfl rfl (Nat.le_of_ble_eq_true rfl) (Nat.le_of_ble_eq_true rfl) (Nat.le_of_ble_eq_true rfl) ?_
              refine x_iret rfl dX11_mark_56 (by simp only [ta, tb]; exact p3_1 (by omega) (by unfold isOfP bagK livK; omega))
            · refine x_iload_n 0 dX11_mark_46 rfl rfl ?_
              refine x_iconst (v := nI 5) dX11_mark_47 (by decide) ?_
              refine y_ic_eq 57 dX11_mark_48 (by decide) (by omega) (by omega) (fun c_48 => ?_) (fun c_48 => ?_)
              · refine x_aload_n 1 dX11_mark_57 rfl rfl ?_
                refine x_callVv (as := []) (rest := []) vX11_217 (c_X11_lookNow hI hO) dX11_mark_58 l83 rfl rfl rfl (Nat.le_of_ble_eq_true rfl) (Nat.le_of_ble_eq_true rfl) (Nat.le_of_ble_eq_true rfl) ?_
                refine x_iload_n 3 dX11_mark_61 rfl rfl ?_
                by_cases cs_62 : b = 1 ∨ b = 2 ∨ b = 3 ∨ b = 4
                · rcases cs_62 with rfl | rfl | rfl | rfl
                  · refine x_tin (off := 30) 92 dX11_mark_62 (by decide) (by decide) (by decide) (by decide) ?_
                    refine x_aload_n 1 dX11_mark_92 rfl rfl ?_
                    refine x_iload_n 2 dX11_mark_93 rfl rfl ?_
                    refine x_callVu (as := [_]) (rest := []) vX11_202 (c_inBagM (hI.lk _) hO (lkS_W hw0) hw.1 ha (by unfold bagK; omega)) dX11_mark_94 l83 rfl rfl rfl (Nat.le_of_ble_eq_true rfl) (Nat.le_of_ble_eq_true rfl) (Nat.le_of_ble_eq_true rfl) ?_
                    refine x_iret rfl dX11_mark_97 (by simp only [ta, tb]; exact p3_2 (by omega) (fun h => h (by unfold isOfP bagK livK; omega)))
                  · refine x_tin (off := 36) 98 dX11_mark_62 (by decide) (by decide) (by decide) (by decide) ?_
                    refine x_aload_n 1 dX11_mark_98 rfl rfl ?_
                    refine x_aload_n 1 dX11_mark_99 rfl rfl ?_
                    refine x_getR fX11_50 dX11_mark_100 l83 rfl ?_
                    refine x_iload_n 2 dX11_mark_103 rfl rfl ?_
                    refine y_iald dX11_mark_104 l97 (by omega) (by decide) (lkS_W hw0 a ha) ?_
                    refine x_callVu (as := [_]) (rest := []) vX11_205 (c_X11_loadOf (hI.lk _) hO (lkS_W hw0) hw7 (by omega)) dX11_mark_105 l83 rfl rfl rfl (Nat.le_of_ble_eq_true rfl) (Nat.le_of_ble_eq_true rfl) (Nat.le_of_ble_eq_true rfl) ?_
                    refine x_iret rfl dX11_mark_108 (by simp only [ta, tb]; exact p3_2 (by omega) (fun h => h (by unfold isOfP bagK livK; omega)))
                  · refine x_tin (off := 47) 109 dX11_mark_62 (by decide) (by decide) (by decide) (by decide) ?_
                    refine x_aload_n 1 dX11_mark_109 rfl rfl ?_
                    refine x_iload_n 2 dX11_mark_110 rfl rfl ?_
                    refine x_callVu (as := [_]) (rest := []) vX11_226 (c_X11_wantedIn (hI.lk _) hO (by omega)) dX11_mark_111 l83 rfl rfl rfl (Nat.le_of_ble_eq_true rfl) (Nat.le_of_ble_eq_true rfl) (Nat.le_of_ble_eq_true rfl) ?_
                    refine x_iret rfl dX11_mark_114 (by simp only [ta, tb]; exact p3_2 (by omega) (fun h => h (by unfold isOfP bagK livK; omega)))
                  · refine x_tin (off := 53) 115 dX11_mark_62 (by decide) (by decide) (by decide) (by decide) ?_
                    refine x_aload_n 1 dX11_mark_115 rfl rfl ?_
                    refine x_iload_n 2 dX11_mark_116 rfl rfl ?_
                    refine x_callVu (as := [_]) (rest := []) vX11_214 (c_roomM (hI.lk _) hO (lkS_W hw0) hw.1 ha (by unfold bagK; omega)) dX11_mark_117 l83 rfl rfl rfl (Nat.le_of_ble_eq_true rfl) (Nat.le_of_ble_eq_true rfl) (Nat.le_of_ble_eq_true rfl) ?_
                    refine x_iret rfl dX11_mark_120 (by simp only [ta, tb]; exact p3_2 (by omega) (fun h => h (by unfold isOfP bagK livK; omega)))
                · refine x_tout 121 dX11_mark_62 (by rw [tiN (by omega)]; omega) (by decide) ?_
                  obtain rfl : b = 5 := (by omega)
                  refine x_aload_n 1 dX11_mark_121 rfl rfl ?_
                  refine x_aload_n 1 dX11_mark_122 rfl rfl ?_
                  refine x_getR fX11_50 dX11_mark_123 l83 rfl ?_
                  refine x_iload_n 2 dX11_mark_126 rfl rfl ?_
                  refine y_iald dX11_mark_127 l97 (by omega) (by decide) (lkS_W hw0 a ha) ?_
                  refine x_callVu (as := [_]) (rest := []) vX11_229 (c_X11_ownedBy (hI.lk _) hO (lkS_W hw0) hw (by omega)) dX11_mark_128 l83 rfl rfl rfl (Nat.le_of_ble_eq_true rfl) (Nat.le_of_ble_eq_true rfl) (Nat.le_of_ble_eq_true rfl) ?_
                  refine x_callSu (as := [_]) (rest := []) sX11_232 (c_X11_bits (by have := heldF_lt I hO w (w a); omega)) dX11_mark_131 rfl rfl (Nat.le_of_ble_eq_true rfl) (Nat.le_of_ble_eq_true rfl) (Nat.le_of_ble_eq_true rfl) ?_
                  refine x_iconst (v := nI 1) dX11_mark_134 (by decide) ?_
                  refine x_isub dX11_mark_135 ?_
                  refine x_iret rfl dX11_mark_136 (by simp only [ta, tb]; exact p3_2 (by omega) (fun h => h (by unfold isOfP bagK livK; omega)))
              · refine x_aload_n 1 dX11_mark_51 rfl rfl ?_
                refine x_iconst (v := nI 3) dX11_mark_52 (by decide) ?_
                refine x_callVu (as := [_]) (rest := []) vX11_112 (c_X11_meets (by decide)) dX11_mark_53 l83 rfl rfl rfl (Nat.le_of_ble_eq_true rfl) (Nat.le_of_ble_eq_true rfl) (Nat.le_of_ble_eq_true rfl) ?_
                refine x_iret rfl dX11_mark_56 (by simp only [ta, tb]; exact p3_1 (by omega) (by unfold isOfP bagK livK; omega))
    · refine u_if_ne 19 dX11_mark_14 (by decide) (by decide) ?_
      refine x_iconst (v := -1) dX11_mark_17 (by decide) ?_
      refine x_iret rfl dX11_mark_18 (p3_0 (by omega))
  · refine t_if_eq 17 dX11_mark_5 (by decide) (by decide) ?_
    refine x_iconst (v := -1) dX11_mark_17 (by decide) ?_
    refine x_iret rfl dX11_mark_18 (p3_0 (by omega))

theorem hv_iff {I : Isl} {w : Nat → Nat} {v : Nat} : v < hvF I w ↔ ∃ p, p < iP I ∧ v < loadF I w p := by
  unfold hvF
  generalize iP I = n
  induction n with
  | zero => exact ⟨fun h => absurd h (Nat.not_lt_zero _), fun ⟨p, h, _⟩ => absurd h (Nat.not_lt_zero _)⟩
  | succ n ih =>
    rw [mx_s]
    constructor
    · intro h
      by_cases q : v < mx (fun p => loadF I w p) n
      · obtain ⟨p, h1, h2⟩ := ih.mp q
        exact ⟨p, by omega, h2⟩
      · exact ⟨n, by omega, by omega⟩
    · rintro ⟨p, h1, h2⟩
      by_cases q : p < n
      · have := ih.mpr ⟨p, q, h2⟩
        omega
      · obtain rfl : p = n := by omega
        omega
theorem hvF_le {I : Isl} {w : Nat → Nat} (hO : IOK I) : hvF I w ≤ 10 := mx_le fun p _ => loadF_le I hO w p

set_option maxHeartbeats 4000000 in
set_option maxRecDepth 100000 in
theorem c_X10_limit {S : St} {I : Isl} (hI : IsX 11 I S) (hO : IOK I) {w : Nat → Nat} (hP : PlT 35 I w S) {L : Nat} (hL : S.1 35 5 = nI L) (hL7 : L ≤ 6) (hv : VS I w L) {x : Int32} : C 2 60 yX10_limit mX10_limit [.ref 0, .int x] S (pu (.int (i3 (¬ (1 ≤ x.toInt ∧ x.toInt ≤ 6)) (∃ p, p < iP I ∧ tn x < loadF I w p) (-1) (-4) (nI L))) (i3 (¬ (1 ≤ x.toInt ∧ x.toInt ≤ 6)) (∃ p, p < iP I ∧ tn x < loadF I w p) S S (setI (setI S 35 5 x) 60 0 (nI 0)))) := by
  have n0 : (nI 0).toInt = 0 := rfl
  have n1 : (nI 1).toInt = 1 := rfl
  have n3 : (nI 3).toInt = 3 := rfl
  have n5 : (nI 5).toInt = 5 := rfl
  have n7 : (nI 7).toInt = 7 := rfl
  have n2 : (nI 2).toInt = 2 := rfl
  have n6 : (nI 6).toInt = 6 := rfl
  have hO1 := hO.1
  have hO2 := hO.2.1
  have hO3 := hO.2.2.1
  have hO4 := hO.2.2.2.1
  have hw := hv.ok hO
  have hw7 := hw.w7 hO
  have hh := hvF_le (w := w) hO
  refine C.ofX (by decide) rfl (Nat.le_of_ble_eq_true rfl) ?_
  show X 2 60 mX10_limit (pu (.int (i3 (¬ (1 ≤ x.toInt ∧ x.toInt ≤ 6)) (∃ p, p < iP I ∧ tn x < loadF I w p) (-1) (-4) (nI L))) (i3 (¬ (1 ≤ x.toInt ∧ x.toInt ≤ 6)) (∃ p, p < iP I ∧ tn x < loadF I w p) S S (setI (setI S 35 5 x) 60 0 (nI 0)))) 0 [(0, .ref 0), (1, .int x)] [] S
  refine x_iload_n 1 dX10_limit_0 rfl rfl ?_
  refine x_iconst (v := nI 1) dX10_limit_1 (by decide) ?_
  refine z_ic_lt 11 dX10_limit_2 (by decide) (by omega) (fun c_2 => ?_) (fun c_2 => ?_)
  · refine x_iconst (v := -1) dX10_limit_11 (by decide) ?_
    refine x_iret rfl dX10_limit_12 (p3_0 (by omega))
  · refine x_iload_n 1 dX10_limit_5 rfl rfl ?_
    refine x_bipush (v := nI 6) dX10_limit_6 (by decide) ?_
    refine z_ic_le 13 dX10_limit_8 (by decide) (by omega) (fun c_8 => ?_) (fun c_8 => ?_)
    · obtain ⟨a, ha, rfl⟩ := nI_ex (x := x) (n := 7) (by omega) (by omega)
      have ea : (nI a).toInt = (a : Int) := tiN (by omega)
      have ta : tn (nI a) = a := tnN (by omega)
      refine x_aload_n 0 dX10_limit_13 rfl rfl ?_
      refine x_getR fX10_49 dX10_limit_14 l0 rfl ?_
      refine x_callVu (as := []) (rest := []) vX10_227 (c_X3_heaviest (Or.inl rfl) hI hO hP) dX10_limit_17 l35 rfl rfl rfl (Nat.le_of_ble_eq_true rfl) (Nat.le_of_ble_eq_true rfl) (Nat.le_of_ble_eq_true rfl) ?_
      refine x_iload_n 1 dX10_limit_20 rfl rfl ?_
      refine y_ic_le 27 dX10_limit_21 (by decide) (by omega) (by omega) (fun c_21 => ?_) (fun c_21 => ?_)
      · refine x_aload_n 0 dX10_limit_27 rfl rfl ?_
        refine x_getR fX10_49 dX10_limit_28 l0 rfl ?_
        refine y_getI fX10_231 dX10_limit_31 l35 rfl hL ?_
        refine x_istore_n (lv' := [(2, _), (0, _), (1, _)]) dX10_limit_34 rfl (by decide) rfl ?_
        refine x_aload_n 1 dX10_limit_35 rfl rfl ?_
        refine x_getR fX10_49 dX10_limit_36 l0 rfl ?_
        refine x_iload_n 2 dX10_limit_39 rfl rfl ?_
        refine x_putI pX10_231 dX10_limit_40 l35 rfl ?_
        refine x_aload_n 1 dX10_limit_43 rfl rfl ?_
        refine x_getR fX10_61 dX10_limit_44 l0 rfl ?_
        refine x_iconst (v := nI 0) dX10_limit_47 (by decide) ?_
        refine x_putI pX10_163 dX10_limit_48 l60 rfl ?_
        refine x_iload_n 0 dX10_limit_51 rfl rfl ?_
        refine x_iret rfl dX10_limit_52 (by simp only [ta]; exact p3_2 (by omega) (fun h => absurd (hv_iff.mpr h) (by omega)))
      · refine x_bipush (v := -4) dX10_limit_24 (by decide) ?_
        refine x_iret rfl dX10_limit_26 (by simp only [ta]; exact p3_1 (by omega) (hv_iff.mp c_21))
    · refine x_iconst (v := -1) dX10_limit_11 (by decide) ?_
      refine x_iret rfl dX10_limit_12 (p3_0 (by omega))

set_option maxHeartbeats 4000000 in
set_option maxRecDepth 100000 in
theorem c_X11_limit {S : St} {I : Isl} (hI : IsM I S) (hO : IOK I) {w : Nat → Nat} (hw0 : ∀ t, t < iM I → S.1 93 t = nI (w t)) {L : Nat} (hL : S.1 83 17 = nI L) (hL7 : L ≤ 6) (hv : VS I w L) {x : Int32} : C 3 90 yX11_limit mX11_limit [.ref 83, .int x] S (pu (.int (i3 (¬ (1 ≤ x.toInt ∧ x.toInt ≤ 6)) (∃ p, p < iP I ∧ tn x < loadF I w p) (-1) (-4) (nI L))) (i3 (¬ (1 ≤ x.toInt ∧ x.toInt ≤ 6)) (∃ p, p < iP I ∧ tn x < loadF I w p) S (lkS S (iM I)) (setI (setI (lkS S (iM I)) 83 17 x) 83 29 (nI 0)))) := by
  have n0 : (nI 0).toInt = 0 := rfl
  have n1 : (nI 1).toInt = 1 := rfl
  have n3 : (nI 3).toInt = 3 := rfl
  have n5 : (nI 5).toInt = 5 := rfl
  have n7 : (nI 7).toInt = 7 := rfl
  have n2 : (nI 2).toInt = 2 := rfl
  have n6 : (nI 6).toInt = 6 := rfl
  have hO1 := hO.1
  have hO2 := hO.2.1
  have hO3 := hO.2.2.1
  have hO4 := hO.2.2.2.1
  have hw := hv.ok hO
  have hw7 := hw.w7 hO
  refine C.ofX (by decide) rfl (Nat.le_of_ble_eq_true rfl) ?_
  show X 3 90 mX11_limit (pu (.int (i3 (¬ (1 ≤ x.toInt ∧ x.toInt ≤ 6)) (∃ p, p < iP I ∧ tn x < loadF I w p) (-1) (-4) (nI L))) (i3 (¬ (1 ≤ x.toInt ∧ x.toInt ≤ 6)) (∃ p, p < iP I ∧ tn x < loadF I w p) S (lkS S (iM I)) (setI (setI (lkS S (iM I)) 83 17 x) 83 29 (nI 0)))) 0 [(0, .ref 83), (1, .int x)] [] S
  refine x_iload_n 1 dX11_limit_0 rfl rfl ?_
  refine x_iconst (v := nI 1) dX11_limit_1 (by decide) ?_
  refine x_bipush (v := nI 6) dX11_limit_2 (by decide) ?_
  refine x_callSb (as := [_, _, _]) (rest := []) sX11_98 c_X11_in dX11_limit_4 rfl rfl (Nat.le_of_ble_eq_true rfl) (Nat.le_of_ble_eq_true rfl) (Nat.le_of_ble_eq_true rfl) (fun c_4 => ?_) (fun c_4 => ?_)
  · refine t_if_ne 12 dX11_limit_7 (by decide) (by decide) ?_
    obtain ⟨a, ha, rfl⟩ := nI_ex (x := x) (n := 7) (by omega) (by omega)
    have ea : (nI a).toInt = (a : Int) := tiN (by omega)
    have ta : tn (nI a) = a := tnN (by omega)
    refine x_aload_n 0 dX11_limit_12 rfl rfl ?_
    refine x_iload_n 1 dX11_limit_13 rfl rfl ?_
    refine x_callVb (as := [_]) (rest := []) vX11_238 (c_X11_isOver hI hO hw0 hw7 (by omega)) dX11_limit_14 l83 rfl rfl rfl (Nat.le_of_ble_eq_true rfl) (Nat.le_of_ble_eq_true rfl) (Nat.le_of_ble_eq_true rfl) (fun c_14 => ?_) (fun c_14 => ?_)
    · refine u_if_eq 23 dX11_limit_17 (by decide) (by decide) ?_
      refine x_bipush (v := -4) dX11_limit_20 (by decide) ?_
      refine x_iret rfl dX11_limit_22 (by simp only [ta]; exact p3_1 (by omega) c_14)
    · refine t_if_eq 23 dX11_limit_17 (by decide) (by decide) ?_
      refine x_aload_n 0 dX11_limit_23 rfl rfl ?_
      refine y_getI fX11_91 dX11_limit_24 l83 rfl hL ?_
      refine x_istore_n (lv' := [(2, _), (0, _), (1, _)]) dX11_limit_27 rfl (by decide) rfl ?_
      refine x_aload_n 1 dX11_limit_28 rfl rfl ?_
      refine x_iload_n 2 dX11_limit_29 rfl rfl ?_
      refine x_putI pX11_91 dX11_limit_30 l83 rfl ?_
      refine x_aload_n 1 dX11_limit_33 rfl rfl ?_
      refine x_iconst (v := nI 0) dX11_limit_34 (by decide) ?_
      refine x_putI pX11_190 dX11_limit_35 l83 rfl ?_
      refine x_iload_n 0 dX11_limit_38 rfl rfl ?_
      refine x_iret rfl dX11_limit_39 (by simp only [ta]; exact p3_2 (by omega) c_14)
  · refine u_if_ne 12 dX11_limit_7 (by decide) (by decide) ?_
    refine x_iconst (v := -1) dX11_limit_10 (by decide) ?_
    refine x_iret rfl dX11_limit_11 (p3_0 (by omega))

set_option maxHeartbeats 4000000 in
set_option maxRecDepth 100000 in
theorem c_X10_may {S : St} {I : Isl} (hI : IsX 11 I S) (hO : IOK I) {w : Nat → Nat} (hP : PlT 35 I w S) {L : Nat} (hL : S.1 35 5 = nI L) (hL7 : L ≤ 6) (hv : VS I w L) {x y : Int32} : C 4 120 yX10_may mX10_may [.ref 0, .int x, .int y] S (pu (.int (i3 (¬ ((0 ≤ x.toInt ∧ x.toInt < (iM I : Int)) ∧ plcI I y)) (mayF I w L (tn x) (tn y)) (-1) (nI 1) (nI 0))) (i3 (¬ ((0 ≤ x.toInt ∧ x.toInt < (iM I : Int)) ∧ plcI I y)) (mayF I w L (tn x) (tn y)) S S S)) := by
  have n0 : (nI 0).toInt = 0 := rfl
  have n1 : (nI 1).toInt = 1 := rfl
  have n3 : (nI 3).toInt = 3 := rfl
  have n5 : (nI 5).toInt = 5 := rfl
  have n7 : (nI 7).toInt = 7 := rfl
  have n2 : (nI 2).toInt = 2 := rfl
  have n6 : (nI 6).toInt = 6 := rfl
  have hO1 := hO.1
  have hO2 := hO.2.1
  have hO3 := hO.2.2.1
  have hO4 := hO.2.2.2.1
  have hw := hv.ok hO
  have hw7 := hw.w7 hO
  refine C.ofX (by decide) rfl (Nat.le_of_ble_eq_true rfl) ?_
  show X 4 120 mX10_may (pu (.int (i3 (¬ ((0 ≤ x.toInt ∧ x.toInt < (iM I : Int)) ∧ plcI I y)) (mayF I w L (tn x) (tn y)) (-1) (nI 1) (nI 0))) (i3 (¬ ((0 ≤ x.toInt ∧ x.toInt < (iM I : Int)) ∧ plcI I y)) (mayF I w L (tn x) (tn y)) S S S)) 0 [(0, .ref 0), (1, .int x), (2, .int y)] [] S
  refine x_aload_n 0 dX10_may_0 rfl rfl ?_
  refine x_getR fX10_40 dX10_may_1 l0 rfl ?_
  refine x_iload_n 1 dX10_may_4 rfl rfl ?_
  refine x_iload_n 2 dX10_may_5 rfl rfl ?_
  refine x_callVb (as := [_, _]) (rest := []) vX10_234 (c_X1_isStep hI hO) dX10_may_6 l11 rfl rfl rfl (Nat.le_of_ble_eq_true rfl) (Nat.le_of_ble_eq_true rfl) (Nat.le_of_ble_eq_true rfl) (fun c_6 => ?_) (fun c_6 => ?_)
  · refine t_if_ne 14 dX10_may_9 (by decide) (by decide) ?_
    have hpl := c_6.2
    unfold plcI at hpl
    obtain ⟨a, ha, rfl⟩ := nI_ex (x := x) (n := iM I) (by omega) (by omega)
    have ea : (nI a).toInt = (a : Int) := tiN (by omega)
    have ta : tn (nI a) = a := tnN (by omega)
    obtain ⟨b, hb, rfl⟩ := nI_ex (x := y) (n := 7) (by omega) (by omega)
    have eb : (nI b).toInt = (b : Int) := tiN (by omega)
    have tb : tn (nI b) = b := tnN (by omega)
    refine x_aload_n 0 dX10_may_14 rfl rfl ?_
    refine x_getR fX10_49 dX10_may_15 l0 rfl ?_
    refine x_iload_n 1 dX10_may_18 rfl rfl ?_
    refine x_iload_n 2 dX10_may_19 rfl rfl ?_
    refine x_callVb (as := [_, _]) (rest := []) vX10_237 (c_X3_allows (Or.inl rfl) hI hO hP hL (by omega) hw (hv.whom hO) ha hb) dX10_may_20 l35 rfl rfl rfl (Nat.le_of_ble_eq_true rfl) (Nat.le_of_ble_eq_true rfl) (Nat.le_of_ble_eq_true rfl) (fun c_20 => ?_) (fun c_20 => ?_)
    · refine u_if_eq 30 dX10_may_23 (by decide) (by decide) ?_
      refine x_iconst (v := nI 1) dX10_may_26 (by decide) ?_
      refine x_goto 31 dX10_may_27 (by decide) ?_
      refine x_iret rfl dX10_may_31 (by simp only [ta, tb]; exact p3_1 (fun h => h c_6) c_20)
    · refine t_if_eq 30 dX10_may_23 (by decide) (by decide) ?_
      refine x_iconst (v := nI 0) dX10_may_30 (by decide) ?_
      refine x_iret rfl dX10_may_31 (by simp only [ta, tb]; exact p3_2 (fun h => h c_6) c_20)
  · refine u_if_ne 14 dX10_may_9 (by decide) (by decide) ?_
    refine x_iconst (v := -1) dX10_may_12 (by decide) ?_
    refine x_iret rfl dX10_may_13 (p3_0 c_6)

set_option maxHeartbeats 4000000 in
set_option maxRecDepth 100000 in
theorem c_X11_may {S : St} {I : Isl} (hI : IsM I S) (hO : IOK I) {w : Nat → Nat} (hw0 : ∀ t, t < iM I → S.1 93 t = nI (w t)) {L : Nat} (hL : S.1 83 17 = nI L) (hL7 : L ≤ 6) (hv : VS I w L) {x y : Int32} : C 4 120 yX11_may mX11_may [.ref 83, .int x, .int y] S (pu (.int (i3 (¬ ((0 ≤ x.toInt ∧ x.toInt < (iM I : Int)) ∧ plcI I y)) (mayF I w L (tn x) (tn y)) (-1) (nI 1) (nI 0))) (i3 (¬ ((0 ≤ x.toInt ∧ x.toInt < (iM I : Int)) ∧ plcI I y)) (mayF I w L (tn x) (tn y)) (lkS S (iM I)) (lkS S (iM I)) (lkS S (iM I)))) := by
  have n0 : (nI 0).toInt = 0 := rfl
  have n1 : (nI 1).toInt = 1 := rfl
  have n3 : (nI 3).toInt = 3 := rfl
  have n5 : (nI 5).toInt = 5 := rfl
  have n7 : (nI 7).toInt = 7 := rfl
  have n2 : (nI 2).toInt = 2 := rfl
  have n6 : (nI 6).toInt = 6 := rfl
  have hO1 := hO.1
  have hO2 := hO.2.1
  have hO3 := hO.2.2.1
  have hO4 := hO.2.2.2.1
  have hw := hv.ok hO
  have hw7 := hw.w7 hO
  refine C.ofX (by decide) rfl (Nat.le_of_ble_eq_true rfl) ?_
  show X 4 120 mX11_may (pu (.int (i3 (¬ ((0 ≤ x.toInt ∧ x.toInt < (iM I : Int)) ∧ plcI I y)) (mayF I w L (tn x) (tn y)) (-1) (nI 1) (nI 0))) (i3 (¬ ((0 ≤ x.toInt ∧ x.toInt < (iM I : Int)) ∧ plcI I y)) (mayF I w L (tn x) (tn y)) (lkS S (iM I)) (lkS S (iM I)) (lkS S (iM I)))) 0 [(0, .ref 83), (1, .int x), (2, .int y)] [] S
  refine x_aload_n 0 dX11_may_0 rfl rfl ?_
  refine x_callVv (as := []) (rest := []) vX11_217 (c_X11_lookNow hI hO) dX11_may_1 l83 rfl rfl rfl (Nat.le_of_ble_eq_true rfl) (Nat.le_of_ble_eq_true rfl) (Nat.le_of_ble_eq_true rfl) ?_
  refine x_aload_n 0 dX11_may_4 rfl rfl ?_
  refine x_iload_n 1 dX11_may_5 rfl rfl ?_
  refine x_callVb (as := [_]) (rest := []) vX11_220 (c_X11_isThing (w := w) (hI.lk _) hO) dX11_may_6 l83 rfl rfl rfl (Nat.le_of_ble_eq_true rfl) (Nat.le_of_ble_eq_true rfl) (Nat.le_of_ble_eq_true rfl) (fun c_6 => ?_) (fun c_6 => ?_)
  · refine u_if_eq 20 dX11_may_9 (by decide) (by decide) ?_
    refine x_aload_n 0 dX11_may_12 rfl rfl ?_
    refine x_iload_n 2 dX11_may_13 rfl rfl ?_
    refine x_callVb (as := [_]) (rest := []) vX11_208 (c_X11_isPlace (w := w) (hI.lk _) hO) dX11_may_14 l83 rfl rfl rfl (Nat.le_of_ble_eq_true rfl) (Nat.le_of_ble_eq_true rfl) (Nat.le_of_ble_eq_true rfl) (fun c_14 => ?_) (fun c_14 => ?_)
    · refine t_if_ne 24 dX11_may_17 (by decide) (by decide) ?_
      have hpl := c_14
      unfold plcI at hpl
      obtain ⟨a, ha, rfl⟩ := nI_ex (x := x) (n := iM I) (by omega) (by omega)
      have ea : (nI a).toInt = (a : Int) := tiN (by omega)
      have ta : tn (nI a) = a := tnN (by omega)
      obtain ⟨b, hb, rfl⟩ := nI_ex (x := y) (n := 7) (by omega) (by omega)
      have eb : (nI b).toInt = (b : Int) := tiN (by omega)
      have tb : tn (nI b) = b := tnN (by omega)
      refine x_aload_n 0 dX11_may_24 rfl rfl ?_
      refine x_iload_n 1 dX11_may_25 rfl rfl ?_
      refine x_iload_n 2 dX11_may_26 rfl rfl ?_
      refine x_callVb (as := [_, _]) (rest := []) vX11_241 (c_X11_mayStep (hI.lk _) hO (lkS_W hw0) hw ((lkS_k (by decide)).trans hL) (by omega) ha hb) dX11_may_27 l83 rfl rfl rfl (Nat.le_of_ble_eq_true rfl) (Nat.le_of_ble_eq_true rfl) (Nat.le_of_ble_eq_true rfl) (fun c_27 => ?_) (fun c_27 => ?_)
      · refine u_if_eq 37 dX11_may_30 (by decide) (by decide) ?_
        refine x_iconst (v := nI 1) dX11_may_33 (by decide) ?_
        refine x_goto 38 dX11_may_34 (by decide) ?_
        refine x_iret rfl dX11_may_38 (by simp only [ta, tb]; exact p3_1 (fun h => h ⟨c_6, c_14⟩) c_27)
      · refine t_if_eq 37 dX11_may_30 (by decide) (by decide) ?_
        refine x_iconst (v := nI 0) dX11_may_37 (by decide) ?_
        refine x_iret rfl dX11_may_38 (by simp only [ta, tb]; exact p3_2 (fun h => h ⟨c_6, c_14⟩) c_27)
    · refine u_if_ne 24 dX11_may_17 (by decide) (by decide) ?_
      refine x_iconst (v := -1) dX11_may_20 (by decide) ?_
      refine x_goto 38 dX11_may_21 (by decide) ?_
      refine x_iret rfl dX11_may_38 (p3_0 (fun h => by first | exact c_6 h.1 | exact c_14 h.2))
  · refine t_if_eq 20 dX11_may_9 (by decide) (by decide) ?_
    refine x_iconst (v := -1) dX11_may_20 (by decide) ?_
    refine x_goto 38 dX11_may_21 (by decide) ?_
    refine x_iret rfl dX11_may_38 (p3_0 (fun h => by first | exact c_6 h.1 | exact c_14 h.2))

def dnS (S : St) (t f c : Nat) : St := setI (setI (setI S 61 c (nI t)) 62 c (nI f)) 60 0 (nI (c + 1))
def mvS (S : St) (t f to c : Nat) : St := setI (setI (setI (setI S 98 c (nI t)) 99 c (nI f)) 83 29 (nI (c + 1))) 93 t (nI to)
theorem dnS_k {S : St} {t f c a b : Nat} (h : ¬ (a = 60 ∨ a = 61 ∨ a = 62)) : (dnS S t f c).1 a b = S.1 a b := (rdI_k (by omega)).trans ((rdI_k (by omega)).trans (rdI_k (by omega)))

set_option maxHeartbeats 4000000 in
set_option maxRecDepth 100000 in
theorem c_X10_doStep {S : St} {I : Isl} (hI : IsX 11 I S) (hO : IOK I) {w : Nat → Nat} (hP : PlT 35 I w S) {c : Nat} (h0 : S.1 60 0 = nI c) (hc : c < 40) {t to : Nat} (ht : t < iM I) (hto : plcF I to) (hw : WOK I (upW w t to)) : C 4 120 yX10_doStep mX10_doStep [.ref 0, .int (nI t), .int (nI to)] S (pvT (dnS S t (w t) c) 35 I (upW w t to)) := by
  have hO1 := hO.1
  have hO2 := hO.2.1
  have hO3 := hO.2.2.1
  have hO4 := hO.2.2.2.1
  refine C.ofX (by decide) rfl (Nat.le_of_ble_eq_true rfl) ?_
  show X 4 120 mX10_doStep (pvT (dnS S t (w t) c) 35 I (upW w t to)) 0 [(0, .ref 0), (1, .int (nI t)), (2, .int (nI to))] [] S
  refine x_aload_n 0 dX10_doStep_0 rfl rfl ?_
  refine x_getR fX10_61 dX10_doStep_1 l0 rfl ?_
  refine x_iload_n 1 dX10_doStep_4 rfl rfl ?_
  refine x_aload_n 0 dX10_doStep_5 rfl rfl ?_
  refine x_getR fX10_49 dX10_doStep_6 l0 rfl ?_
  refine x_getR fX10_185 dX10_doStep_9 l35 rfl ?_
  refine x_iload_n 1 dX10_doStep_12 rfl rfl ?_
  refine y_iald dX10_doStep_13 l36 (by omega) (by decide) (hP.1 t ht) ?_
  refine x_callVv (as := [_, _]) (rest := []) vX10_247 (c_X2_add (c := 40) (Or.inl ⟨rfl, rfl⟩) h0 hc) dX10_doStep_14 l60 rfl rfl rfl (Nat.le_of_ble_eq_true rfl) (Nat.le_of_ble_eq_true rfl) (Nat.le_of_ble_eq_true rfl) ?_
  refine x_aload_n 0 dX10_doStep_17 rfl rfl ?_
  refine x_getR fX10_49 dX10_doStep_18 l0 rfl ?_
  refine x_iload_n 1 dX10_doStep_21 rfl rfl ?_
  refine x_iload_n 2 dX10_doStep_22 rfl rfl ?_
  refine x_callVqv (as := [_, _]) (rest := []) vX10_250 (c_X3_move (S := dnS S t (w t) c) (Or.inl rfl) (hI.keep (fun a h1 h2 b => dnS_k (by omega))) hO (hP.1.keep (fun b => dnS_k (by omega))) ht hto hw) dX10_doStep_23 l35 rfl rfl rfl (Nat.le_of_ble_eq_true rfl) (Nat.le_of_ble_eq_true rfl) (Nat.le_of_ble_eq_true rfl) (fun S_23 q_23 => ?_)
  refine x_vret rfl dX10_doStep_26 ⟨rfl, q_23⟩

set_option maxHeartbeats 4000000 in
set_option maxRecDepth 100000 in
theorem c_X10_step {S : St} {I : Isl} (hI : IsX 11 I S) (hO : IOK I) {w : Nat → Nat} (hP : PlT 35 I w S) {L : Nat} (hL : S.1 35 5 = nI L) (hL7 : L ≤ 6) (hv : VS I w L) {c : Nat} (h0 : S.1 60 0 = nI c) (hc : c ≤ 40) (hs : ∀ t to, t < iM I → to < 7 → mayF I w L t to → WOK I (upW w t to)) {x y : Int32} : C 5 150 yX10_step mX10_step [.ref 0, .int x, .int y] S (qi (i4 (¬ ((0 ≤ x.toInt ∧ x.toInt < (iM I : Int)) ∧ plcI I y)) (¬ mayF I w L (tn x) (tn y)) (c = 40) (an (-1) S) (an (-4) S) (an (-2) S) (fun r S' => r = nI 1 ∧ pvT (dnS S (tn x) (w (tn x)) c) 35 I (upW w (tn x) (tn y)) none S'))) := by
  have n0 : (nI 0).toInt = 0 := rfl
  have n1 : (nI 1).toInt = 1 := rfl
  have n3 : (nI 3).toInt = 3 := rfl
  have n5 : (nI 5).toInt = 5 := rfl
  have n7 : (nI 7).toInt = 7 := rfl
  have n2 : (nI 2).toInt = 2 := rfl
  have n6 : (nI 6).toInt = 6 := rfl
  have hO1 := hO.1
  have hO2 := hO.2.1
  have hO3 := hO.2.2.1
  have hO4 := hO.2.2.2.1
  have hw := hv.ok hO
  have hw7 := hw.w7 hO
  refine C.ofX (by decide) rfl (Nat.le_of_ble_eq_true rfl) ?_
  show X 5 150 mX10_step (qi (i4 (¬ ((0 ≤ x.toInt ∧ x.toInt < (iM I : Int)) ∧ plcI I y)) (¬ mayF I w L (tn x) (tn y)) (c = 40) (an (-1) S) (an (-4) S) (an (-2) S) (fun r S' => r = nI 1 ∧ pvT (dnS S (tn x) (w (tn x)) c) 35 I (upW w (tn x) (tn y)) none S'))) 0 [(0, .ref 0), (1, .int x), (2, .int y)] [] S
  refine x_aload_n 0 dX10_step_0 rfl rfl ?_
  refine x_getR fX10_40 dX10_step_1 l0 rfl ?_
  refine x_iload_n 1 dX10_step_4 rfl rfl ?_
  refine x_iload_n 2 dX10_step_5 rfl rfl ?_
  refine x_callVb (as := [_, _]) (rest := []) vX10_234 (c_X1_isStep hI hO) dX10_step_6 l11 rfl rfl rfl (Nat.le_of_ble_eq_true rfl) (Nat.le_of_ble_eq_true rfl) (Nat.le_of_ble_eq_true rfl) (fun c_6 => ?_) (fun c_6 => ?_)
  · refine t_if_ne 14 dX10_step_9 (by decide) (by decide) ?_
    have hpl := c_6.2
    unfold plcI at hpl
    obtain ⟨a, ha, rfl⟩ := nI_ex (x := x) (n := iM I) (by omega) (by omega)
    have ea : (nI a).toInt = (a : Int) := tiN (by omega)
    have ta : tn (nI a) = a := tnN (by omega)
    obtain ⟨b, hb, rfl⟩ := nI_ex (x := y) (n := 7) (by omega) (by omega)
    have eb : (nI b).toInt = (b : Int) := tiN (by omega)
    have tb : tn (nI b) = b := tnN (by omega)
    refine x_aload_n 0 dX10_step_14 rfl rfl ?_
    refine x_getR fX10_49 dX10_step_15 l0 rfl ?_
    refine x_iload_n 1 dX10_step_18 rfl rfl ?_
    refine x_iload_n 2 dX10_step_19 rfl rfl ?_
    refine x_callVb (as := [_, _]) (rest := []) vX10_237 (c_X3_allows (Or.inl rfl) hI hO hP hL (by omega) hw (hv.whom hO) ha hb) dX10_step_20 l35 rfl rfl rfl (Nat.le_of_ble_eq_true rfl) (Nat.le_of_ble_eq_true rfl) (Nat.le_of_ble_eq_true rfl) (fun c_20 => ?_) (fun c_20 => ?_)
    · refine t_if_ne 29 dX10_step_23 (by decide) (by decide) ?_
      refine x_aload_n 0 dX10_step_29 rfl rfl ?_
      refine x_getR fX10_61 dX10_step_30 l0 rfl ?_
      refine x_callVb (as := []) (rest := []) vX10_240 (c_X2_isFull (Or.inl ⟨rfl, rfl⟩) h0 hc) dX10_step_33 l60 rfl rfl rfl (Nat.le_of_ble_eq_true rfl) (Nat.le_of_ble_eq_true rfl) (Nat.le_of_ble_eq_true rfl) (fun c_33 => ?_) (fun c_33 => ?_)
      · refine u_if_eq 42 dX10_step_36 (by decide) (by decide) ?_
        refine x_bipush (v := -2) dX10_step_39 (by decide) ?_
        refine x_iret rfl dX10_step_41 (by simp only [ta, tb]; exact q4_2 (fun h => h c_6) (fun h => h c_20) c_33 ⟨rfl, rfl⟩)
      · refine t_if_eq 42 dX10_step_36 (by decide) (by decide) ?_
        refine x_aload_n 0 dX10_step_42 rfl rfl ?_
        refine x_iload_n 1 dX10_step_43 rfl rfl ?_
        refine x_iload_n 2 dX10_step_44 rfl rfl ?_
        refine x_callVqv (as := [_, _]) (rest := []) vX10_244 (c_X10_doStep hI hO hP h0 (by omega) ha c_20.1 (hs _ _ ha hb c_20)) dX10_step_45 l0 rfl rfl rfl (Nat.le_of_ble_eq_true rfl) (Nat.le_of_ble_eq_true rfl) (Nat.le_of_ble_eq_true rfl) (fun S_45 q_45 => ?_)
        refine x_iconst (v := nI 1) dX10_step_48 (by decide) ?_
        refine x_iret rfl dX10_step_49 (by simp only [ta, tb]; exact q4_3 (fun h => h c_6) (fun h => h c_20) c_33 ⟨rfl, rfl, q_45⟩)
    · refine u_if_ne 29 dX10_step_23 (by decide) (by decide) ?_
      refine x_bipush (v := -4) dX10_step_26 (by decide) ?_
      refine x_iret rfl dX10_step_28 (by simp only [ta, tb]; exact q4_1 (fun h => h c_6) c_20 ⟨rfl, rfl⟩)
  · refine u_if_ne 14 dX10_step_9 (by decide) (by decide) ?_
    refine x_iconst (v := -1) dX10_step_12 (by decide) ?_
    refine x_iret rfl dX10_step_13 (q4_0 c_6 ⟨rfl, rfl⟩)

set_option maxHeartbeats 4000000 in
set_option maxRecDepth 100000 in
theorem c_X11_moves {S : St} {I : Isl} (hI : IsM I S) (hO : IOK I) {w : Nat → Nat} (hw0 : ∀ t, t < iM I → S.1 93 t = nI (w t)) {c : Nat} (h0 : S.1 83 29 = nI c) (hc : c < 40) {t to : Nat} (ht : t < iM I) : C 0 0 yX11_moves mX11_moves [.ref 83, .int (nI t), .int (nI to)] S (pv (mvS S t (w t) to c)) := by
  have hO1 := hO.1
  have hO2 := hO.2.1
  have hO3 := hO.2.2.1
  have hO4 := hO.2.2.2.1
  refine C.ofX (by decide) rfl (Nat.le_of_ble_eq_true rfl) ?_
  show X 0 0 mX11_moves (pv (mvS S t (w t) to c)) 0 [(0, .ref 83), (1, .int (nI t)), (2, .int (nI to))] [] S
  refine x_aload_n 0 dX11_moves_0 rfl rfl ?_
  refine x_getR fX11_53 dX11_moves_1 l83 rfl ?_
  refine x_aload_n 0 dX11_moves_4 rfl rfl ?_
  refine y_getI fX11_190 dX11_moves_5 l83 rfl h0 ?_
  refine x_iload_n 1 dX11_moves_8 rfl rfl ?_
  refine y_iast dX11_moves_9 l98 (by omega) (by decide) ?_
  refine x_aload_n 0 dX11_moves_10 rfl rfl ?_
  refine x_getR fX11_56 dX11_moves_11 l83 rfl ?_
  refine x_aload_n 0 dX11_moves_14 rfl rfl ?_
  refine y_getI fX11_190 dX11_moves_15 l83 rfl (((rdI_k (by decide))).trans h0) ?_
  refine x_aload_n 0 dX11_moves_18 rfl rfl ?_
  refine x_getR fX11_38 dX11_moves_19 l83 rfl ?_
  refine x_iload_n 1 dX11_moves_22 rfl rfl ?_
  refine y_iald dX11_moves_23 l93 (by omega) (by decide) (((rdI_k (by decide))).trans (hw0 t ht)) ?_
  refine y_iast dX11_moves_24 l99 (by omega) (by decide) ?_
  refine x_aload_n 0 dX11_moves_25 rfl rfl ?_
  refine x_dup dX11_moves_26 rfl ?_
  refine y_getI fX11_190 dX11_moves_27 l83 rfl ((((rdI_k (by decide))).trans (rdI_k (by decide))).trans h0) ?_
  refine x_iconst (v := nI 1) dX11_moves_30 (by decide) ?_
  refine y_iadd dX11_moves_31 ?_
  refine x_putI pX11_190 dX11_moves_32 l83 rfl ?_
  refine x_aload_n 0 dX11_moves_35 rfl rfl ?_
  refine x_getR fX11_38 dX11_moves_36 l83 rfl ?_
  refine x_iload_n 1 dX11_moves_39 rfl rfl ?_
  refine x_iload_n 2 dX11_moves_40 rfl rfl ?_
  refine y_iast dX11_moves_41 l93 (by omega) (by decide) ?_
  refine x_vret rfl dX11_moves_42 ⟨rfl, rfl⟩

set_option maxHeartbeats 4000000 in
set_option maxRecDepth 100000 in
theorem c_X11_step {S : St} {I : Isl} (hI : IsM I S) (hO : IOK I) {w : Nat → Nat} (hw0 : ∀ t, t < iM I → S.1 93 t = nI (w t)) {L : Nat} (hL : S.1 83 17 = nI L) (hL7 : L ≤ 6) (hv : VS I w L) {c : Nat} (h0 : S.1 83 29 = nI c) (hc : c ≤ 40) {x y : Int32} : C 4 120 yX11_step mX11_step [.ref 83, .int x, .int y] S (pu (.int (i4 (¬ ((0 ≤ x.toInt ∧ x.toInt < (iM I : Int)) ∧ plcI I y)) (¬ mayF I w L (tn x) (tn y)) (c = 40) (-1) (-4) (-2) (nI 1))) (i4 (¬ ((0 ≤ x.toInt ∧ x.toInt < (iM I : Int)) ∧ plcI I y)) (¬ mayF I w L (tn x) (tn y)) (c = 40) S (lkS S (iM I)) (lkS S (iM I)) (mvS (lkS S (iM I)) (tn x) (w (tn x)) (tn y) c))) := by
  have n0 : (nI 0).toInt = 0 := rfl
  have n1 : (nI 1).toInt = 1 := rfl
  have n3 : (nI 3).toInt = 3 := rfl
  have n5 : (nI 5).toInt = 5 := rfl
  have n7 : (nI 7).toInt = 7 := rfl
  have n2 : (nI 2).toInt = 2 := rfl
  have n6 : (nI 6).toInt = 6 := rfl
  have hO1 := hO.1
  have hO2 := hO.2.1
  have hO3 := hO.2.2.1
  have hO4 := hO.2.2.2.1
  have hw := hv.ok hO
  have hw7 := hw.w7 hO
  refine C.ofX (by decide) rfl (Nat.le_of_ble_eq_true rfl) ?_
  show X 4 120 mX11_step (pu (.int (i4 (¬ ((0 ≤ x.toInt ∧ x.toInt < (iM I : Int)) ∧ plcI I y)) (¬ mayF I w L (tn x) (tn y)) (c = 40) (-1) (-4) (-2) (nI 1))) (i4 (¬ ((0 ≤ x.toInt ∧ x.toInt < (iM I : Int)) ∧ plcI I y)) (¬ mayF I w L (tn x) (tn y)) (c = 40) S (lkS S (iM I)) (lkS S (iM I)) (mvS (lkS S (iM I)) (tn x) (w (tn x)) (tn y) c))) 0 [(0, .ref 83), (1, .int x), (2, .int y)] [] S
  refine x_aload_n 0 dX11_step_0 rfl rfl ?_
  refine x_iload_n 1 dX11_step_1 rfl rfl ?_
  refine x_callVb (as := [_]) (rest := []) vX11_220 (c_X11_isThing (w := w) hI hO) dX11_step_2 l83 rfl rfl rfl (Nat.le_of_ble_eq_true rfl) (Nat.le_of_ble_eq_true rfl) (Nat.le_of_ble_eq_true rfl) (fun c_2 => ?_) (fun c_2 => ?_)
  · refine u_if_eq 16 dX11_step_5 (by decide) (by decide) ?_
    refine x_aload_n 0 dX11_step_8 rfl rfl ?_
    refine x_iload_n 2 dX11_step_9 rfl rfl ?_
    refine x_callVb (as := [_]) (rest := []) vX11_208 (c_X11_isPlace (w := w) hI hO) dX11_step_10 l83 rfl rfl rfl (Nat.le_of_ble_eq_true rfl) (Nat.le_of_ble_eq_true rfl) (Nat.le_of_ble_eq_true rfl) (fun c_10 => ?_) (fun c_10 => ?_)
    · refine t_if_ne 18 dX11_step_13 (by decide) (by decide) ?_
      have hpl := c_10
      unfold plcI at hpl
      obtain ⟨a, ha, rfl⟩ := nI_ex (x := x) (n := iM I) (by omega) (by omega)
      have ea : (nI a).toInt = (a : Int) := tiN (by omega)
      have ta : tn (nI a) = a := tnN (by omega)
      obtain ⟨b, hb, rfl⟩ := nI_ex (x := y) (n := 7) (by omega) (by omega)
      have eb : (nI b).toInt = (b : Int) := tiN (by omega)
      have tb : tn (nI b) = b := tnN (by omega)
      refine x_aload_n 0 dX11_step_18 rfl rfl ?_
      refine x_callVv (as := []) (rest := []) vX11_217 (c_X11_lookNow hI hO) dX11_step_19 l83 rfl rfl rfl (Nat.le_of_ble_eq_true rfl) (Nat.le_of_ble_eq_true rfl) (Nat.le_of_ble_eq_true rfl) ?_
      refine x_aload_n 0 dX11_step_22 rfl rfl ?_
      refine x_iload_n 1 dX11_step_23 rfl rfl ?_
      refine x_iload_n 2 dX11_step_24 rfl rfl ?_
      refine x_callVb (as := [_, _]) (rest := []) vX11_241 (c_X11_mayStep (hI.lk _) hO (lkS_W hw0) hw ((lkS_k (by decide)).trans hL) (by omega) ha hb) dX11_step_25 l83 rfl rfl rfl (Nat.le_of_ble_eq_true rfl) (Nat.le_of_ble_eq_true rfl) (Nat.le_of_ble_eq_true rfl) (fun c_25 => ?_) (fun c_25 => ?_)
      · refine t_if_ne 34 dX11_step_28 (by decide) (by decide) ?_
        refine x_aload_n 0 dX11_step_34 rfl rfl ?_
        refine y_getI fX11_190 dX11_step_35 l83 rfl ((lkS_k (by decide)).trans h0) ?_
        refine x_bipush (v := nI 40) dX11_step_38 (by decide) ?_
        refine y_ic_ne 46 dX11_step_40 (by decide) (by omega) (by omega) (fun c_40 => ?_) (fun c_40 => ?_)
        · refine x_aload_n 0 dX11_step_46 rfl rfl ?_
          refine x_iload_n 1 dX11_step_47 rfl rfl ?_
          refine x_iload_n 2 dX11_step_48 rfl rfl ?_
          refine x_callVv (as := [_, _]) (rest := []) vX11_244 (c_X11_moves (w := w) (hI.lk _) hO (fun t ht => (lkS_k (by decide)).trans (hw0 t ht)) ((lkS_k (by decide)).trans h0) (by omega) ha) dX11_step_49 l83 rfl rfl rfl (Nat.le_of_ble_eq_true rfl) (Nat.le_of_ble_eq_true rfl) (Nat.le_of_ble_eq_true rfl) ?_
          refine x_iconst (v := nI 1) dX11_step_52 (by decide) ?_
          refine x_iret rfl dX11_step_53 (by simp only [ta, tb]; exact p4_3 (fun h => h ⟨c_2, c_10⟩) (fun h => h c_25) c_40)
        · refine x_bipush (v := -2) dX11_step_43 (by decide) ?_
          refine x_iret rfl dX11_step_45 (by simp only [ta, tb]; exact p4_2 (fun h => h ⟨c_2, c_10⟩) (fun h => h c_25) c_40)
      · refine u_if_ne 34 dX11_step_28 (by decide) (by decide) ?_
        refine x_bipush (v := -4) dX11_step_31 (by decide) ?_
        refine x_iret rfl dX11_step_33 (by simp only [ta, tb]; exact p4_1 (fun h => h ⟨c_2, c_10⟩) c_25)
    · refine u_if_ne 18 dX11_step_13 (by decide) (by decide) ?_
      refine x_iconst (v := -1) dX11_step_16 (by decide) ?_
      refine x_iret rfl dX11_step_17 (p4_0 (fun h => by first | exact c_2 h.1 | exact c_10 h.2))
  · refine t_if_eq 16 dX11_step_5 (by decide) (by decide) ?_
    refine x_iconst (v := -1) dX11_step_16 (by decide) ?_
    refine x_iret rfl dX11_step_17 (p4_0 (fun h => by first | exact c_2 h.1 | exact c_10 h.2))
