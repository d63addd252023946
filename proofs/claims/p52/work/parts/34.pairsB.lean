theorem e4_0 {α : Type} {p q r : Prop} {a b c d : α} (h : p) : i4 p q r a b c d = a := by unfold i4; rw [if_pos h]
theorem e4_1 {α : Type} {p q r : Prop} {a b c d : α} (h : ¬ p) (h2 : q) : i4 p q r a b c d = b := by unfold i4; rw [if_neg h, if_pos h2]
theorem e4_2 {α : Type} {p q r : Prop} {a b c d : α} (h : ¬ p) (h2 : ¬ q) (h3 : r) : i4 p q r a b c d = c := by unfold i4; rw [if_neg h, if_neg h2, if_pos h3]
theorem e4_3 {α : Type} {p q r : Prop} {a b c d : α} (h : ¬ p) (h2 : ¬ q) (h3 : ¬ r) : i4 p q r a b c d = d := by unfold i4; rw [if_neg h, if_neg h2, if_neg h3]
theorem e3_0 {α : Type} {p q : Prop} {a b c : α} (h : p) : i3 p q a b c = a := by unfold i3; rw [if_pos h]
theorem e3_1 {α : Type} {p q : Prop} {a b c : α} (h : ¬ p) (h2 : q) : i3 p q a b c = b := by unfold i3; rw [if_neg h, if_pos h2]
theorem e3_2 {α : Type} {p q : Prop} {a b c : α} (h : ¬ p) (h2 : ¬ q) : i3 p q a b c = c := by unfold i3; rw [if_neg h, if_neg h2]
theorem e2_0 {α : Type} {p : Prop} {a b : α} (h : p) : i2 p a b = a := by unfold i2; rw [if_pos h]
theorem e2_1 {α : Type} {p : Prop} {a b : α} (h : ¬ p) : i2 p a b = b := by unfold i2; rw [if_neg h]
section
variable {p q r : Prop} {a b c d : Int32 → St → Prop} {x : Int32} {S : St}
theorem q4_0 (h : p) (k : a x S) : qi (i4 p q r a b c d) (some (.int x)) S := ⟨x, rfl, by rw [e4_0 h]; exact k⟩
theorem q4_1 (h : ¬ p) (h2 : q) (k : b x S) : qi (i4 p q r a b c d) (some (.int x)) S := ⟨x, rfl, by rw [e4_1 h h2]; exact k⟩
theorem q4_2 (h : ¬ p) (h2 : ¬ q) (h3 : r) (k : c x S) : qi (i4 p q r a b c d) (some (.int x)) S := ⟨x, rfl, by rw [e4_2 h h2 h3]; exact k⟩
theorem q4_3 (h : ¬ p) (h2 : ¬ q) (h3 : ¬ r) (k : d x S) : qi (i4 p q r a b c d) (some (.int x)) S := ⟨x, rfl, by rw [e4_3 h h2 h3]; exact k⟩
theorem q3_0 (h : p) (k : a x S) : qi (i3 p q a b c) (some (.int x)) S := ⟨x, rfl, by rw [e3_0 h]; exact k⟩
theorem q3_1 (h : ¬ p) (h2 : q) (k : b x S) : qi (i3 p q a b c) (some (.int x)) S := ⟨x, rfl, by rw [e3_1 h h2]; exact k⟩
theorem q3_2 (h : ¬ p) (h2 : ¬ q) (k : c x S) : qi (i3 p q a b c) (some (.int x)) S := ⟨x, rfl, by rw [e3_2 h h2]; exact k⟩
theorem q2_0 (h : p) (k : a x S) : qi (i2 p a b) (some (.int x)) S := ⟨x, rfl, by rw [e2_0 h]; exact k⟩
theorem q2_1 (h : ¬ p) (k : b x S) : qi (i2 p a b) (some (.int x)) S := ⟨x, rfl, by rw [e2_1 h]; exact k⟩
end
/-- an answer x, a store T -/
def an (x : Int32) (T : St) : Int32 → St → Prop := fun r S' => r = x ∧ S' = T
def bgI (I : Isl) (t : Nat) : Nat := if iG I 0 = t then 0 else 1
theorem bgI_ok {I : Isl} (hO : IOK I) {t : Nat} (ht : t < iM I) (h : bagK (iK I t)) : bgI I t < iB I ∧ iG I (bgI I t) = t := by
  obtain ⟨b, hb, rfl⟩ := hO.2.2.2.2.2.2.2.1 t ht h
  have := hO.2.2.2.1
  unfold bgI
  by_cases h0 : iG I 0 = iG I b
  · rw [if_pos h0]; exact ⟨by omega, h0⟩
  · rw [if_neg h0]
    have : b = 1 := by
      rcases Nat.lt_or_ge b 1 with q | q
      · exact absurd (by rw [show b = 0 by omega]) h0
      · omega
    subst this
    exact ⟨hb, rfl⟩
def isOfP (I : Isl) (t q : Nat) : Prop := iK I t = q ∨ (q = 1 ∧ bagK (iK I t)) ∨ (q = 2 ∧ livK (iK I t))
def thA (I : Isl) (w : Nat → Nat) (t h : Nat) : Nat := if h = 0 then iK I t else if h = 1 then w t else if h = 2 then wt (iK I t) else whomF I w t
def mkA (I : Isl) (w : Nat → Nat) (t q : Nat) : Int32 := if q = 1 then nI (insF I w (bgI I t)) else if q = 2 then nI (loadF I w (w t)) else if q = 3 then nI (sm (fun v => iV I v 2 / 2 ^ t % 2) (iW I)) else if q = 4 then nI (rm (iK I t)) - nI (insF I w (bgI I t)) else nI (popF (heldF I w (w t))) - nI 1

set_option maxHeartbeats 4000000 in
set_option maxRecDepth 100000 in
theorem c_X10_ofThing {S : St} {I : Isl} (hI : IsX 11 I S) (hO : IOK I) {w : Nat → Nat} (hP : PlT 35 I w S) (hw : WOK I w) {t h : Nat} (ht : t < iM I) (hh : h ≤ 3) : C 1 30 yX10_ofThing mX10_ofThing [.ref 0, .int (nI t), .int (nI h)] S (pu (.int (nI (thA I w t h))) S) := by
  have hO1 := hO.1
  have hO2 := hO.2.1
  have hO3 := hO.2.2.1
  have hO4 := hO.2.2.2.1
  refine C.ofX (by decide) rfl (Nat.le_of_ble_eq_true rfl) ?_
  show X 1 30 mX10_ofThing (pu (.int (nI (thA I w t h))) S) 0 [(0, .ref 0), (1, .int (nI t)), (2, .int (nI h))] [] S
  refine x_iload_n 2 dX10_ofThing_0 rfl rfl ?_
  by_cases cs_1 : h = 0 ∨ h = 1 ∨ h = 2
  · rcases cs_1 with rfl | rfl | rfl
    · refine x_tin (off := 27) 28 dX10_ofThing_1 (by decide) (by decide) (by decide) (by decide) ?_
      refine x_aload_n 0 dX10_ofThing_28 rfl rfl ?_
      refine x_getR fX10_40 dX10_ofThing_29 l0 rfl ?_
      refine x_getR fX10_182 dX10_ofThing_32 l11 rfl ?_
      refine x_iload_n 1 dX10_ofThing_35 rfl rfl ?_
      refine y_iald dX10_ofThing_36 l12 (by omega) (by decide) (hI.2.2.2.2.1 t ht).1 ?_
      refine x_iret rfl dX10_ofThing_37 ⟨rfl, rfl⟩
    · refine x_tin (off := 37) 38 dX10_ofThing_1 (by decide) (by decide) (by decide) (by decide) ?_
      refine x_aload_n 0 dX10_ofThing_38 rfl rfl ?_
      refine x_getR fX10_49 dX10_ofThing_39 l0 rfl ?_
      refine x_getR fX10_185 dX10_ofThing_42 l35 rfl ?_
      refine x_iload_n 1 dX10_ofThing_45 rfl rfl ?_
      refine y_iald dX10_ofThing_46 l36 (by omega) (by decide) (hP.1 t ht) ?_
      refine x_iret rfl dX10_ofThing_47 ⟨rfl, rfl⟩
    · refine x_tin (off := 47) 48 dX10_ofThing_1 (by decide) (by decide) (by decide) (by decide) ?_
      refine x_aload_n 0 dX10_ofThing_48 rfl rfl ?_
      refine x_getR fX10_40 dX10_ofThing_49 l0 rfl ?_
      refine x_getR fX10_188 dX10_ofThing_52 l11 rfl ?_
      refine x_iload_n 1 dX10_ofThing_55 rfl rfl ?_
      refine y_iald dX10_ofThing_56 l14 (by omega) (by decide) (hI.2.2.2.2.1 t ht).2.2.1 ?_
      refine x_iret rfl dX10_ofThing_57 ⟨rfl, rfl⟩
  · refine x_tout 58 dX10_ofThing_1 (by rw [tiN (by omega)]; omega) (by decide) ?_
    refine x_aload_n 0 dX10_ofThing_58 rfl rfl ?_
    refine x_getR fX10_49 dX10_ofThing_59 l0 rfl ?_
    refine x_iload_n 1 dX10_ofThing_62 rfl rfl ?_
    refine x_callVu (as := [_]) (rest := []) vX10_191 (c_X3_whom (Or.inl rfl) hI hO hP.1 hw ht) dX10_ofThing_63 l35 rfl rfl rfl (Nat.le_of_ble_eq_true rfl) (Nat.le_of_ble_eq_true rfl) (Nat.le_of_ble_eq_true rfl) ?_
    refine x_iret rfl dX10_ofThing_66 ⟨by obtain rfl : h = 3 := (by omega); rfl, rfl⟩

set_option maxHeartbeats 4000000 in
set_option maxRecDepth 100000 in
theorem c_X10_thing {S : St} {I : Isl} (hI : IsX 11 I S) (hO : IOK I) {w : Nat → Nat} (hP : PlT 35 I w S) {L : Nat} (hL : S.1 35 5 = nI L) (hL7 : L ≤ 6) (hv : VS I w L) {x y : Int32} : C 2 60 yX10_thing mX10_thing [.ref 0, .int x, .int y] S (pu (.int (i2 (¬ ((0 ≤ x.toInt ∧ x.toInt < (iM I : Int)) ∧ 0 ≤ y.toInt ∧ y.toInt ≤ 3)) (-1) 1)) (i2 (¬ ((0 ≤ x.toInt ∧ x.toInt < (iM I : Int)) ∧ 0 ≤ y.toInt ∧ y.toInt ≤ 3)) S (setI S 1 0 (nI (thA I w (tn x) (tn y)))))) := by
  have n0 : (nI 0).toInt = 0 := rfl
  have n1 : (nI 1).toInt = 1 := rfl
  have n3 : (nI 3).toInt = 3 := rfl
  have n5 : (nI 5).toInt = 5 := rfl
  have n7 : (nI 7).toInt = 7 := rfl
  have n2 : (nI 2).toInt = 2 := rfl
  have n6 : (nI 6).toInt = 6 := rfl
  have hO1 := hO.1
  have hO2 := hO.2.1
  have hO3 := hO.2.2.1
  have hO4 := hO.2.2.2.1
  have hw := hv.ok hO
  have hw7 := hw.w7 hO
  refine C.ofX (by decide) rfl (Nat.le_of_ble_eq_true rfl) ?_
  show X 2 60 mX10_thing (pu (.int (i2 (¬ ((0 ≤ x.toInt ∧ x.toInt < (iM I : Int)) ∧ 0 ≤ y.toInt ∧ y.toInt ≤ 3)) (-1) 1)) (i2 (¬ ((0 ≤ x.toInt ∧ x.toInt < (iM I : Int)) ∧ 0 ≤ y.toInt ∧ y.toInt ≤ 3)) S (setI S 1 0 (nI (thA I w (tn x) (tn y)))))) 0 [(0, .ref 0), (1, .int x), (2, .int y)] [] S
  refine x_aload_n 0 dX10_thing_0 rfl rfl ?_
  refine x_getR fX10_40 dX10_thing_1 l0 rfl ?_
  refine x_iload_n 1 dX10_thing_4 rfl rfl ?_
  refine x_callVb (as := [_]) (rest := []) vX10_176 (c_X1_isThing (Or.inl rfl) hI hO) dX10_thing_5 l11 rfl rfl rfl (Nat.le_of_ble_eq_true rfl) (Nat.le_of_ble_eq_true rfl) (Nat.le_of_ble_eq_true rfl) (fun c_5 => ?_) (fun c_5 => ?_)
  · refine u_if_eq 20 dX10_thing_8 (by decide) (by decide) ?_
    refine x_iload_n 2 dX10_thing_11 rfl rfl ?_
    refine x_if_lt 20 dX10_thing_12 (by decide) (fun c_12 => ?_) (fun c_12 => ?_)
    · refine x_iconst (v := -1) dX10_thing_20 (by decide) ?_
      refine x_iret rfl dX10_thing_21 (p2_0 (by omega))
    · refine x_iload_n 2 dX10_thing_15 rfl rfl ?_
      refine x_iconst (v := nI 3) dX10_thing_16 (by decide) ?_
      refine z_ic_le 22 dX10_thing_17 (by decide) (by omega) (fun c_17 => ?_) (fun c_17 => ?_)
      · obtain ⟨a, ha, rfl⟩ := nI_ex (x := x) (n := iM I) (by omega) (by omega)
        have ea : (nI a).toInt = (a : Int) := tiN (by omega)
        have ta : tn (nI a) = a := tnN (by omega)
        obtain ⟨b, hb, rfl⟩ := nI_ex (x := y) (n := 4) (by omega) (by omega)
        have eb : (nI b).toInt = (b : Int) := tiN (by omega)
        have tb : tn (nI b) = b := tnN (by omega)
        refine x_aload_n 0 dX10_thing_22 rfl rfl ?_
        refine x_getR fX10_10 dX10_thing_23 l0 rfl ?_
        refine x_aload_n 0 dX10_thing_26 rfl rfl ?_
        refine x_iload_n 1 dX10_thing_27 rfl rfl ?_
        refine x_iload_n 2 dX10_thing_28 rfl rfl ?_
        refine x_callVu (as := [_, _]) (rest := [_]) vX10_179 (c_X10_ofThing hI hO hP hw ha (by omega)) dX10_thing_29 l0 rfl rfl rfl (Nat.le_of_ble_eq_true rfl) (Nat.le_of_ble_eq_true rfl) (Nat.le_of_ble_eq_true rfl) ?_
        refine x_callVu (as := [_]) (rest := []) vX10_131 c_X9_tell dX10_thing_32 l1 rfl rfl rfl (Nat.le_of_ble_eq_true rfl) (Nat.le_of_ble_eq_true rfl) (Nat.le_of_ble_eq_true rfl) ?_
        refine x_iret rfl dX10_thing_35 (by simp only [ta, tb]; exact p2_1 (by omega))
      · refine x_iconst (v := -1) dX10_thing_20 (by decide) ?_
        refine x_iret rfl dX10_thing_21 (p2_0 (by omega))
  · refine t_if_eq 20 dX10_thing_8 (by decide) (by decide) ?_
    refine x_iconst (v := -1) dX10_thing_20 (by decide) ?_
    refine x_iret rfl dX10_thing_21 (p2_0 (by omega))

theorem hv_iff {I : Isl} {w : Nat → Nat} {v : Nat} : v < hvF I w ↔ ∃ p, p < iP I ∧ v < loadF I w p := by
  unfold hvF
  generalize iP I = n
  induction n with
  | zero => exact ⟨fun h => absurd h (Nat.not_lt_zero _), fun ⟨p, h, _⟩ => absurd h (Nat.not_lt_zero _)⟩
  | succ n ih =>
    rw [mx_s]
    constructor
    · intro h
      by_cases q : v < mx (fun p => loadF I w p) n
      · obtain ⟨p, h1, h2⟩ := ih.mp q
        exact ⟨p, by omega, h2⟩
      · exact ⟨n, by omega, by omega⟩
    · rintro ⟨p, h1, h2⟩
      by_cases q : p < n
      · have := ih.mpr ⟨p, q, h2⟩
        omega
      · obtain rfl : p = n := by omega
        omega
theorem hvF_le {I : Isl} {w : Nat → Nat} (hO : IOK I) : hvF I w ≤ 10 := mx_le fun p _ => loadF_le I hO w p

set_option maxHeartbeats 4000000 in
set_option maxRecDepth 100000 in
theorem c_X10_may {S : St} {I : Isl} (hI : IsX 11 I S) (hO : IOK I) {w : Nat → Nat} (hP : PlT 35 I w S) {L : Nat} (hL : S.1 35 5 = nI L) (hL7 : L ≤ 6) (hv : VS I w L) {x y : Int32} : C 4 120 yX10_may mX10_may [.ref 0, .int x, .int y] S (pu (.int (i3 (¬ ((0 ≤ x.toInt ∧ x.toInt < (iM I : Int)) ∧ plcI I y)) (mayF I w L (tn x) (tn y)) (-1) (nI 1) (nI 0))) (i3 (¬ ((0 ≤ x.toInt ∧ x.toInt < (iM I : Int)) ∧ plcI I y)) (mayF I w L (tn x) (tn y)) S S S)) := by
  have n0 : (nI 0).toInt = 0 := rfl
  have n1 : (nI 1).toInt = 1 := rfl
  have n3 : (nI 3).toInt = 3 := rfl
  have n5 : (nI 5).toInt = 5 := rfl
  have n7 : (nI 7).toInt = 7 := rfl
  have n2 : (nI 2).toInt = 2 := rfl
  have n6 : (nI 6).toInt = 6 := rfl
  have hO1 := hO.1
  have hO2 := hO.2.1
  have hO3 := hO.2.2.1
  have hO4 := hO.2.2.2.1
  have hw := hv.ok hO
  have hw7 := hw.w7 hO
  refine C.ofX (by decide) rfl (Nat.le_of_ble_eq_true rfl) ?_
  show X 4 120 mX10_may (pu (.int (i3 (¬ ((0 ≤ x.toInt ∧ x.toInt < (iM I : Int)) ∧ plcI I y)) (mayF I w L (tn x) (tn y)) (-1) (nI 1) (nI 0))) (i3 (¬ ((0 ≤ x.toInt ∧ x.toInt < (iM I : Int)) ∧ plcI I y)) (mayF I w L (tn x) (tn y)) S S S)) 0 [(0, .ref 0), (1, .int x), (2, .int y)] [] S
  refine x_aload_n 0 dX10_may_0 rfl rfl ?_
  refine x_getR fX10_40 dX10_may_1 l0 rfl ?_
  refine x_iload_n 1 dX10_may_4 rfl rfl ?_
  refine x_iload_n 2 dX10_may_5 rfl rfl ?_
  refine x_callVb (as := [_, _]) (rest := []) vX10_234 (c_X1_isStep hI hO) dX10_may_6 l11 rfl rfl rfl (Nat.le_of_ble_eq_true rfl) (Nat.le_of_ble_eq_true rfl) (Nat.le_of_ble_eq_true rfl) (fun c_6 => ?_) (fun c_6 => ?_)
  · refine t_if_ne 14 dX10_may_9 (by decide) (by decide) ?_
    have hpl := c_6.2
    unfold plcI at hpl
    obtain ⟨a, ha, rfl⟩ := nI_ex (x := x) (n := iM I) (by omega) (by omega)
    have ea : (nI a).toInt = (a : Int) := tiN (by omega)
    have ta : tn (nI a) = a := tnN (by omega)
    obtain ⟨b, hb, rfl⟩ := nI_ex (x := y) (n := 7) (by omega) (by omega)
    have eb : (nI b).toInt = (b : Int) := tiN (by omega)
    have tb : tn (nI b) = b := tnN (by omega)
    refine x_aload_n 0 dX10_may_14 rfl rfl ?_
    refine x_getR fX10_49 dX10_may_15 l0 rfl ?_
    refine x_iload_n 1 dX10_may_18 rfl rfl ?_
    refine x_iload_n 2 dX10_may_19 rfl rfl ?_
    refine x_callVb (as := [_, _]) (rest := []) vX10_237 (c_X3_allows (Or.inl rfl) hI hO hP hL (by omega) hw (hv.whom hO) ha hb) dX10_may_20 l35 rfl rfl rfl (Nat.le_of_ble_eq_true rfl) (Nat.le_of_ble_eq_true rfl) (Nat.le_of_ble_eq_true rfl) (fun c_20 => ?_) (fun c_20 => ?_)
    · refine u_if_eq 30 dX10_may_23 (by decide) (by decide) ?_
      refine x_iconst (v := nI 1) dX10_may_26 (by decide) ?_
      refine x_goto 31 dX10_may_27 (by decide) ?_
      refine x_iret rfl dX10_may_31 (by simp only [ta, tb]; exact p3_1 (fun h => h c_6) c_20)
    · refine t_if_eq 30 dX10_may_23 (by decide) (by decide) ?_
      refine x_iconst (v := nI 0) dX10_may_30 (by decide) ?_
      refine x_iret rfl dX10_may_31 (by simp only [ta, tb]; exact p3_2 (fun h => h c_6) c_20)
  · refine u_if_ne 14 dX10_may_9 (by decide) (by decide) ?_
    refine x_iconst (v := -1) dX10_may_12 (by decide) ?_
    refine x_iret rfl dX10_may_13 (p3_0 c_6)

def dnS (S : St) (t f c : Nat) : St := setI (setI (setI S 61 c (nI t)) 62 c (nI f)) 60 0 (nI (c + 1))
def mvS (S : St) (t f to c : Nat) : St := setI (setI (setI (setI S 98 c (nI t)) 99 c (nI f)) 83 29 (nI (c + 1))) 93 t (nI to)
theorem dnS_k {S : St} {t f c a b : Nat} (h : ¬ (a = 60 ∨ a = 61 ∨ a = 62)) : (dnS S t f c).1 a b = S.1 a b := (rdI_k (by omega)).trans ((rdI_k (by omega)).trans (rdI_k (by omega)))

set_option maxHeartbeats 4000000 in
set_option maxRecDepth 100000 in
theorem c_X10_doStep {S : St} {I : Isl} (hI : IsX 11 I S) (hO : IOK I) {w : Nat → Nat} (hP : PlT 35 I w S) {c : Nat} (h0 : S.1 60 0 = nI c) (hc : c < 40) {t to : Nat} (ht : t < iM I) (hto : plcF I to) (hw : WOK I (upW w t to)) : C 4 120 yX10_doStep mX10_doStep [.ref 0, .int (nI t), .int (nI to)] S (pvT (dnS S t (w t) c) 35 I (upW w t to)) := by
  have hO1 := hO.1
  have hO2 := hO.2.1
  have hO3 := hO.2.2.1
  have hO4 := hO.2.2.2.1
  refine C.ofX (by decide) rfl (Nat.le_of_ble_eq_true rfl) ?_
  show X 4 120 mX10_doStep (pvT (dnS S t (w t) c) 35 I (upW w t to)) 0 [(0, .ref 0), (1, .int (nI t)), (2, .int (nI to))] [] S
  refine x_aload_n 0 dX10_doStep_0 rfl rfl ?_
  refine x_getR fX10_61 dX10_doStep_1 l0 rfl ?_
  refine x_iload_n 1 dX10_doStep_4 rfl rfl ?_
  refine x_aload_n 0 dX10_doStep_5 rfl rfl ?_
  refine x_getR fX10_49 dX10_doStep_6 l0 rfl ?_
  refine x_getR fX10_185 dX10_doStep_9 l35 rfl ?_
  refine x_iload_n 1 dX10_doStep_12 rfl rfl ?_
  refine y_iald dX10_doStep_13 l36 (by omega) (by decide) (hP.1 t ht) ?_
  refine x_callVv (as := [_, _]) (rest := []) vX10_247 (c_X2_add (c := 40) (Or.inl ⟨rfl, rfl⟩) h0 hc) dX10_doStep_14 l60 rfl rfl rfl (Nat.le_of_ble_eq_true rfl) (Nat.le_of_ble_eq_true rfl) (Nat.le_of_ble_eq_true rfl) ?_
  refine x_aload_n 0 dX10_doStep_17 rfl rfl ?_
  refine x_getR fX10_49 dX10_doStep_18 l0 rfl ?_
  refine x_iload_n 1 dX10_doStep_21 rfl rfl ?_
  refine x_iload_n 2 dX10_doStep_22 rfl rfl ?_
  refine x_callVqv (as := [_, _]) (rest := []) vX10_250 (c_X3_move (S := dnS S t (w t) c) (Or.inl rfl) (hI.keep (fun a h1 h2 b => dnS_k (by omega))) hO (hP.1.keep (fun b => dnS_k (by omega))) ht hto hw) dX10_doStep_23 l35 rfl rfl rfl (Nat.le_of_ble_eq_true rfl) (Nat.le_of_ble_eq_true rfl) (Nat.le_of_ble_eq_true rfl) (fun S_23 q_23 => ?_)
  refine x_vret rfl dX10_doStep_26 ⟨rfl, q_23⟩

set_option maxHeartbeats 4000000 in
set_option maxRecDepth 100000 in
theorem c_X10_step {S : St} {I : Isl} (hI : IsX 11 I S) (hO : IOK I) {w : Nat → Nat} (hP : PlT 35 I w S) {L : Nat} (hL : S.1 35 5 = nI L) (hL7 : L ≤ 6) (hv : VS I w L) {c : Nat} (h0 : S.1 60 0 = nI c) (hc : c ≤ 40) (hs : ∀ t to, t < iM I → to < 7 → mayF I w L t to → WOK I (upW w t to)) {x y : Int32} : C 5 150 yX10_step mX10_step [.ref 0, .int x, .int y] S (qi (i4 (¬ ((0 ≤ x.toInt ∧ x.toInt < (iM I : Int)) ∧ plcI I y)) (¬ mayF I w L (tn x) (tn y)) (c = 40) (an (-1) S) (an (-4) S) (an (-2) S) (fun r S' => r = nI 1 ∧ pvT (dnS S (tn x) (w (tn x)) c) 35 I (upW w (tn x) (tn y)) none S'))) := by
  have n0 : (nI 0).toInt = 0 := rfl
  have n1 : (nI 1).toInt = 1 := rfl
  have n3 : (nI 3).toInt = 3 := rfl
  have n5 : (nI 5).toInt = 5 := rfl
  have n7 : (nI 7).toInt = 7 := rfl
  have n2 : (nI 2).toInt = 2 := rfl
  have n6 : (nI 6).toInt = 6 := rfl
  have hO1 := hO.1
  have hO2 := hO.2.1
  have hO3 := hO.2.2.1
  have hO4 := hO.2.2.2.1
  have hw := hv.ok hO
  have hw7 := hw.w7 hO
  refine C.ofX (by decide) rfl (Nat.le_of_ble_eq_true rfl) ?_
  show X 5 150 mX10_step (qi (i4 (¬ ((0 ≤ x.toInt ∧ x.toInt < (iM I : Int)) ∧ plcI I y)) (¬ mayF I w L (tn x) (tn y)) (c = 40) (an (-1) S) (an (-4) S) (an (-2) S) (fun r S' => r = nI 1 ∧ pvT (dnS S (tn x) (w (tn x)) c) 35 I (upW w (tn x) (tn y)) none S'))) 0 [(0, .ref 0), (1, .int x), (2, .int y)] [] S
  refine x_aload_n 0 dX10_step_0 rfl rfl ?_
  refine x_getR fX10_40 dX10_step_1 l0 rfl ?_
  refine x_iload_n 1 dX10_step_4 rfl rfl ?_
  refine x_iload_n 2 dX10_step_5 rfl rfl ?_
  refine x_callVb (as := [_, _]) (rest := []) vX10_234 (c_X1_isStep hI hO) dX10_step_6 l11 rfl rfl rfl (Nat.le_of_ble_eq_true rfl) (Nat.le_of_ble_eq_true rfl) (Nat.le_of_ble_eq_true rfl) (fun c_6 => ?_) (fun c_6 => ?_)
  · refine t_if_ne 14 dX10_step_9 (by decide) (by decide) ?_
    have hpl := c_6.2
    unfold plcI at hpl
    obtain ⟨a, ha, rfl⟩ := nI_ex (x := x) (n := iM I) (by omega) (by omega)
    have ea : (nI a).toInt = (a : Int) := tiN (by omega)
    have ta : tn (nI a) = a := tnN (by omega)
    obtain ⟨b, hb, rfl⟩ := nI_ex (x := y) (n := 7) (by omega) (by omega)
    have eb : (nI b).toInt = (b : Int) := tiN (by omega)
    have tb : tn (nI b) = b := tnN (by omega)
    refine x_aload_n 0 dX10_step_14 rfl rfl ?_
    refine x_getR fX10_49 dX10_step_15 l0 rfl ?_
    refine x_iload_n 1 dX10_step_18 rfl rfl ?_
    refine x_iload_n 2 dX10_step_19 rfl rfl ?_
    refine x_callVb (as := [_, _]) (rest := []) vX10_237 (c_X3_allows (Or.inl rfl) hI hO hP hL (by omega) hw (hv.whom hO) ha hb) dX10_step_20 l35 rfl rfl rfl (Nat.le_of_ble_eq_true rfl) (Nat.le_of_ble_eq_true rfl) (Nat.le_of_ble_eq_true rfl) (fun c_20 => ?_) (fun c_20 => ?_)
    · refine t_if_ne 29 dX10_step_23 (by decide) (by decide) ?_
      refine x_aload_n 0 dX10_step_29 rfl rfl ?_
      refine x_getR fX10_61 dX10_step_30 l0 rfl ?_
      refine x_callVb (as := []) (rest := []) vX10_240 (c_X2_isFull (Or.inl ⟨rfl, rfl⟩) h0 hc) dX10_step_33 l60 rfl rfl rfl (Nat.le_of_ble_eq_true rfl) (Nat.le_of_ble_eq_true rfl) (Nat.le_of_ble_eq_true rfl) (fun c_33 => ?_) (fun c_33 => ?_)
      · refine u_if_eq 42 dX10_step_36 (by decide) (by decide) ?_
        refine x_bipush (v := -2) dX10_step_39 (by decide) ?_
        refine x_iret rfl dX10_step_41 (by simp only [ta, tb]; exact q4_2 (fun h => h c_6) (fun h => h c_20) c_33 ⟨rfl, rfl⟩)
      · refine t_if_eq 42 dX10_step_36 (by decide) (by decide) ?_
        refine x_aload_n 0 dX10_step_42 rfl rfl ?_
        refine x_iload_n 1 dX10_step_43 rfl rfl ?_
        refine x_iload_n 2 dX10_step_44 rfl rfl ?_
        refine x_callVqv (as := [_, _]) (rest := []) vX10_244 (c_X10_doStep hI hO hP h0 (by omega) ha c_20.1 (hs _ _ ha hb c_20)) dX10_step_45 l0 rfl rfl rfl (Nat.le_of_ble_eq_true rfl) (Nat.le_of_ble_eq_true rfl) (Nat.le_of_ble_eq_true rfl) (fun S_45 q_45 => ?_)
        refine x_iconst (v := nI 1) dX10_step_48 (by decide) ?_
        refine x_iret rfl dX10_step_49 (by simp only [ta, tb]; exact q4_3 (fun h => h c_6) (fun h => h c_20) c_33 ⟨rfl, rfl, q_45⟩)
    · refine u_if_ne 29 dX10_step_23 (by decide) (by decide) ?_
      refine x_bipush (v := -4) dX10_step_26 (by decide) ?_
      refine x_iret rfl dX10_step_28 (by simp only [ta, tb]; exact q4_1 (fun h => h c_6) c_20 ⟨rfl, rfl⟩)
  · refine u_if_ne 14 dX10_step_9 (by decide) (by decide) ?_
    refine x_iconst (v := -1) dX10_step_12 (by decide) ?_
    refine x_iret rfl dX10_step_13 (q4_0 c_6 ⟨rfl, rfl⟩)

