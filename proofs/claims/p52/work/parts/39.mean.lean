/-! ===== mean, copy, image ===== -/
noncomputable def i5 {α : Type} (p q r s : Prop) (a b c d e : α) : α := @ite α p (Classical.propDecidable p) a (@ite α q (Classical.propDecidable q) b (@ite α r (Classical.propDecidable r) c (@ite α s (Classical.propDecidable s) d e)))
section
variable {α : Type} {p q r s : Prop} {a b c d e : α}
theorem e5_0 (h : p) : i5 p q r s a b c d e = a := by unfold i5; rw [if_pos h]
theorem e5_1 (h : ¬ p) (h2 : q) : i5 p q r s a b c d e = b := by unfold i5; rw [if_neg h, if_pos h2]
theorem e5_2 (h : ¬ p) (h2 : ¬ q) (h3 : r) : i5 p q r s a b c d e = c := by unfold i5; rw [if_neg h, if_neg h2, if_pos h3]
theorem e5_3 (h : ¬ p) (h2 : ¬ q) (h3 : ¬ r) (h4 : s) : i5 p q r s a b c d e = d := by unfold i5; rw [if_neg h, if_neg h2, if_neg h3, if_pos h4]
theorem e5_4 (h : ¬ p) (h2 : ¬ q) (h3 : ¬ r) (h4 : ¬ s) : i5 p q r s a b c d e = e := by unfold i5; rw [if_neg h, if_neg h2, if_neg h3, if_neg h4]
end
section
variable {p q r s : Prop} {a b c d e : Int32} {S0 S1 S2 S3 S4 : St}
theorem p5_0 (h : p) : pu (.int (i5 p q r s a b c d e)) (i5 p q r s S0 S1 S2 S3 S4) (some (.int a)) S0 := ⟨by rw [e5_0 h], by rw [e5_0 h]⟩
theorem p5_1 (h : ¬ p) (h2 : q) : pu (.int (i5 p q r s a b c d e)) (i5 p q r s S0 S1 S2 S3 S4) (some (.int b)) S1 := ⟨by rw [e5_1 h h2], by rw [e5_1 h h2]⟩
theorem p5_2 (h : ¬ p) (h2 : ¬ q) (h3 : r) : pu (.int (i5 p q r s a b c d e)) (i5 p q r s S0 S1 S2 S3 S4) (some (.int c)) S2 := ⟨by rw [e5_2 h h2 h3], by rw [e5_2 h h2 h3]⟩
theorem p5_3 (h : ¬ p) (h2 : ¬ q) (h3 : ¬ r) (h4 : s) : pu (.int (i5 p q r s a b c d e)) (i5 p q r s S0 S1 S2 S3 S4) (some (.int d)) S3 := ⟨by rw [e5_3 h h2 h3 h4], by rw [e5_3 h h2 h3 h4]⟩
theorem p5_4 (h : ¬ p) (h2 : ¬ q) (h3 : ¬ r) (h4 : ¬ s) : pu (.int (i5 p q r s a b c d e)) (i5 p q r s S0 S1 S2 S3 S4) (some (.int e)) S4 := ⟨by rw [e5_4 h h2 h3 h4], by rw [e5_4 h h2 h3 h4]⟩
end
section
variable {p q r s : Prop} {a b c d e : Int32 → St → Prop} {x : Int32} {S : St}
theorem q5_0 (h : p) (k : a x S) : qi (i5 p q r s a b c d e) (some (.int x)) S := ⟨x, rfl, by rw [e5_0 h]; exact k⟩
theorem q5_1 (h : ¬ p) (h2 : q) (k : b x S) : qi (i5 p q r s a b c d e) (some (.int x)) S := ⟨x, rfl, by rw [e5_1 h h2]; exact k⟩
theorem q5_2 (h : ¬ p) (h2 : ¬ q) (h3 : r) (k : c x S) : qi (i5 p q r s a b c d e) (some (.int x)) S := ⟨x, rfl, by rw [e5_2 h h2 h3]; exact k⟩
theorem q5_3 (h : ¬ p) (h2 : ¬ q) (h3 : ¬ r) (h4 : s) (k : d x S) : qi (i5 p q r s a b c d e) (some (.int x)) S := ⟨x, rfl, by rw [e5_3 h h2 h3 h4]; exact k⟩
theorem q5_4 (h : ¬ p) (h2 : ¬ q) (h3 : ¬ r) (h4 : ¬ s) (k : e x S) : qi (i5 p q r s a b c d e) (some (.int x)) S := ⟨x, rfl, by rw [e5_4 h h2 h3 h4]; exact k⟩
end
/-- n places of k from a on hold f -/
def rwS (S : St) (k a n : Nat) (f : Nat → Int32) : St := (fun c b => if c = k ∧ a ≤ b ∧ b < a + n then f (b - a) else S.1 c b, S.2)
theorem rwS_d {S : St} {k a n c b : Nat} {f : Nat → Int32} : (rwS S k a n f).1 c b = if c = k ∧ a ≤ b ∧ b < a + n then f (b - a) else S.1 c b := rfl
theorem rwS_k {S : St} {k a n c b : Nat} {f : Nat → Int32} (h : ¬ c = k) : (rwS S k a n f).1 c b = S.1 c b := if_neg fun q => h q.1
theorem rwS_at {S : St} {k a n i : Nat} {f : Nat → Int32} (h : i < n) : (rwS S k a n f).1 k (a + i) = f i := by rw [rwS_d, if_pos ⟨rfl, by omega, by omega⟩, Nat.add_sub_cancel_left]
theorem rwS_at0 {S : St} {k n i : Nat} {f : Nat → Int32} (h : i < n) : (rwS S k 0 n f).1 k i = f i := by rw [rwS_d, if_pos ⟨rfl, by omega, by omega⟩, Nat.sub_zero]
theorem rwS_0 (S : St) (k a : Nat) (f : Nat → Int32) : rwS S k a 0 f = S := st_ext rfl fun c b => by rw [rwS_d, if_neg (by omega)]
theorem rwS_s (S : St) (k a n : Nat) (f : Nat → Int32) : setI (rwS S k a n f) k (a + n) (f n) = rwS S k a (n + 1) f := by
  refine st_ext rfl fun c b => ?_
  by_cases hc : c = k
  · subst hc
    by_cases hb : b = a + n
    · subst hb
      rw [rdI_eq, rwS_at (Nat.lt_succ_self n)]
    · rw [rdI_j hb, rwS_d, rwS_d]
      by_cases h : a ≤ b ∧ b < a + n
      · rw [if_pos ⟨rfl, h⟩, if_pos ⟨rfl, by omega, by omega⟩]
      · rw [if_neg (fun q => h q.2), if_neg (fun q => h (by omega))]
  · rw [rdI_k hc, rwS_k hc, rwS_k hc]
theorem nL_nz1 : ∀ y, y < 101 → 0 < y → ¬ (nI y).toInt64 = 0 := by decide +kernel
theorem cmp_gt (a b : Int64) : 0 < (lg_cmp a b).toInt ↔ b.toInt < a.toInt := by
  unfold lg_cmp
  have h := @Int64.lt_iff_toInt_lt b a
  by_cases h1 : a > b
  · rw [if_pos h1]
    have := h.mp h1
    have e : (1 : Int32).toInt = 1 := by decide
    rw [e]
    omega
  · rw [if_neg h1]
    have h4 := mt h.mpr h1
    by_cases h2 : a = b
    · rw [if_pos h2]
      have e : (0 : Int32).toInt = 0 := by decide
      rw [e]
      omega
    · rw [if_neg h2]
      have e : (-1 : Int32).toInt = -1 := by decide
      rw [e]
      omega
theorem add64 (x y : Int32) : (x.toInt64 + y.toInt64).toInt = x.toInt + y.toInt := by
  have h1 := x.toInt_lt
  have h2 := y.toInt_lt
  have h3 := x.le_toInt
  have h4 := y.le_toInt
  rw [Int64.toInt_add, Int32.toInt_toInt64, Int32.toInt_toInt64, Int.bmod_eq_of_le (by omega) (by omega)]

theorem x_cast {fr lo : Nat} {M : MD} {Q : Option Value → St → Prop} {pc : Nat} {lv : List (Nat × Value)} {st : List Value} {S S' : St} (h : S = S') (kk : X fr lo M Q pc lv st S') : X fr lo M Q pc lv st S := by rw [h]; exact kk

theorem c_miss {S : St} {r : Nat} (hr : r < 6) : C 2 60 yX5_missing mX5_missing [.ref 3, .int (nI r)] S (pb ((S.1 4 r).toInt < 0) S) := c_X5_missing isR hr
theorem c_get {S : St} {k c ρ : Nat} {r i z : Nat} {v : Int32} (hk : isRows k c ρ) (h0 : S.1 k 0 = nI ρ) (hr : r < c) (hz : S.1 (k + 1) r = nI z) (hz2 : z ≤ ρ) (hi : i < z) (hv : S.1 (k + 2) (r * ρ + i) = v) : C 1 30 yX5_get mX5_get [.ref k, .int (nI r), .int (nI i)] S (pu (.int v) S) := by
  have h := c_X5_get (S := S) hk h0 hr hz hz2 hi
  rw [hv] at h
  exact h

def cpM (S : St) (r i to j n : Nat) : St := rwS (rwS S 87 0 n (fun k => S.1 86 (60 * r + (i + k)))) 86 (60 * to + j) n (fun k => S.1 86 (60 * r + (i + k)))

/-- an image is laid: the class's store, row a -/
def imX (S : St) (I : Isl) (w : Nat → Nat) (L a : Nat) : St := setI (rwS (fillA (setI S 4 a (nI (iM I + 1))) 5 (a * 60) (a * 60 + (iM I + 1)) (nI 0)) 5 (a * 60) (iM I) (fun t => nI (w t))) 5 (a * 60 + iM I) (nI L)
def imM (S : St) (I : Isl) (w : Nat → Nat) (L a : Nat) : St := rwS (setI S 85 a (nI (iM I + 1))) 86 (60 * a) 60 (fun t => if t < iM I then nI (w t) else if t = iM I then nI L else nI 0)

set_option maxHeartbeats 4000000 in
set_option maxRecDepth 100000 in
theorem lp_imX {S : St} {I : Isl} (hI : IsX 11 I S) (hO : IOK I) {w : Nat → Nat} (hP : PlT 35 I w S) {L : Nat} (hL : S.1 35 5 = nI L) (hL7 : L ≤ 6) (hv : VS I w L) (hS : RwS 3 6 60 S) {a : Nat} (ha : a < 6)  : ∀ (k : Nat), (k ≤ iM I) → X 3 90 mX10_image (pu (.int (nI (iM I + 1))) (imX S I w L a)) 33 [(2, .int (nI k)), (0, .ref 0), (1, .int (nI a))] [] (rwS (fillA (setI S 4 a (nI (iM I + 1))) 5 (a * 60) (a * 60 + (iM I + 1)) (nI 0)) 5 (a * 60) k (fun t => nI (w t))) := by
  intro k
  induction hm : iM I - k using Nat.strongRecOn generalizing k with
  | _ mm ih =>
    intro hk
    have hO1 := hO.1
    have hO2 := hO.2.1
    have hO3 := hO.2.2.1
    have hO4 := hO.2.2.2.1
    have hw := hv.ok hO
    have hw7 := hw.w7 hO
    refine x_iload_n 0 dX10_image_33 rfl rfl ?_
    refine x_aload_n 1 dX10_image_34 rfl rfl ?_
    refine x_getR fX10_40 dX10_image_35 l0 rfl ?_
    refine y_getI fX10_173 dX10_image_38 l11 rfl (((rwS_k (by decide)).trans ((fillA_k (by decide)).trans (rdI_k (by decide)))).trans hI.2.1) ?_
    refine y_ic_ge 68 dX10_image_41 (by decide) (by omega) (by omega) (fun c_41 => ?_) (fun c_41 => ?_)
    · refine x_aload_n 1 dX10_image_68 rfl rfl ?_
      refine x_getR fX10_21 dX10_image_69 l0 rfl ?_
      refine x_iload_n 2 dX10_image_72 rfl rfl ?_
      refine x_aload_n 1 dX10_image_73 rfl rfl ?_
      refine x_getR fX10_40 dX10_image_74 l0 rfl ?_
      refine y_getI fX10_173 dX10_image_77 l11 rfl (((rwS_k (by decide)).trans ((fillA_k (by decide)).trans (rdI_k (by decide)))).trans hI.2.1) ?_
      refine x_aload_n 1 dX10_image_80 rfl rfl ?_
      refine x_getR fX10_49 dX10_image_81 l0 rfl ?_
      refine y_getI fX10_231 dX10_image_84 l35 rfl (((rwS_k (by decide)).trans ((fillA_k (by decide)).trans (rdI_k (by decide)))).trans hL) ?_
      refine x_callVv (as := [_, _, _]) (rest := []) vX10_128 (c_X5_set isR (((rwS_k (by decide)).trans ((fillA_k (by decide)).trans (rdI_k (by decide)))).trans hS.1) ha ((rwS_k (by decide)).trans ((fillA_k (by decide)).trans rdI_eq)) (by omega) (by omega)) dX10_image_87 l3 rfl rfl rfl (Nat.le_of_ble_eq_true rfl) (Nat.le_of_ble_eq_true rfl) (Nat.le_of_ble_eq_true rfl) ?_
      refine x_aload_n 1 dX10_image_90 rfl rfl ?_
      refine x_getR fX10_40 dX10_image_91 l0 rfl ?_
      refine y_getI fX10_173 dX10_image_94 l11 rfl ((rdI_k (by decide)).trans (((rwS_k (by decide)).trans ((fillA_k (by decide)).trans (rdI_k (by decide)))).trans hI.2.1)) ?_
      refine x_iconst (v := nI 1) dX10_image_97 (by decide) ?_
      refine y_iadd dX10_image_98 ?_
      refine x_iret rfl dX10_image_99 (by obtain rfl : k = iM I := (by omega); exact ⟨rfl, rfl⟩)
    · refine x_aload_n 1 dX10_image_44 rfl rfl ?_
      refine x_getR fX10_21 dX10_image_45 l0 rfl ?_
      refine x_iload_n 2 dX10_image_48 rfl rfl ?_
      refine x_iload_n 0 dX10_image_49 rfl rfl ?_
      refine x_aload_n 1 dX10_image_50 rfl rfl ?_
      refine x_getR fX10_49 dX10_image_51 l0 rfl ?_
      refine x_getR fX10_185 dX10_image_54 l35 rfl ?_
      refine x_iload_n 0 dX10_image_57 rfl rfl ?_
      refine y_iald dX10_image_58 l36 (by omega) (by decide) (((rwS_k (by decide)).trans ((fillA_k (by decide)).trans (rdI_k (by decide)))).trans (hP.1 k (by omega))) ?_
      refine x_callVv (as := [_, _, _]) (rest := []) vX10_128 (c_X5_set isR (((rwS_k (by decide)).trans ((fillA_k (by decide)).trans (rdI_k (by decide)))).trans hS.1) ha ((rwS_k (by decide)).trans ((fillA_k (by decide)).trans rdI_eq)) (by omega) (by omega)) dX10_image_59 l3 rfl rfl rfl (Nat.le_of_ble_eq_true rfl) (Nat.le_of_ble_eq_true rfl) (Nat.le_of_ble_eq_true rfl) ?_
      refine y_iinc (lv' := [(2, _), (0, _), (1, _)]) 0 dX10_image_62 rfl (by decide) rfl ?_
      refine x_goto 33 dX10_image_65 (by decide) ?_
      refine x_pick (lv' := [(2, _), (0, _), (1, _)]) [0, 1, 2] rfl ?_
      rw [rwS_s]
      exact ih (iM I - (k + 1)) (by omega) (k + 1) rfl (by omega)

set_option maxHeartbeats 4000000 in
set_option maxRecDepth 100000 in
theorem c_X10_image {S : St} {I : Isl} (hI : IsX 11 I S) (hO : IOK I) {w : Nat → Nat} (hP : PlT 35 I w S) {L : Nat} (hL : S.1 35 5 = nI L) (hL7 : L ≤ 6) (hv : VS I w L) (hS : RwS 3 6 60 S) {x : Int32} : C 3 90 yX10_image mX10_image [.ref 0, .int x] S (pu (.int (i2 (¬ (0 ≤ x.toInt ∧ x.toInt < 6)) (-1) (nI (iM I + 1)))) (i2 (¬ (0 ≤ x.toInt ∧ x.toInt < 6)) S (imX S I w L (tn x)))) := by
  have hO1 := hO.1
  have hO2 := hO.2.1
  have hO3 := hO.2.2.1
  have hO4 := hO.2.2.2.1
  have hw := hv.ok hO
  have hw7 := hw.w7 hO
  refine C.ofX (by decide) rfl (Nat.le_of_ble_eq_true rfl) ?_
  show X 3 90 mX10_image (pu (.int (i2 (¬ (0 ≤ x.toInt ∧ x.toInt < 6)) (-1) (nI (iM I + 1)))) (i2 (¬ (0 ≤ x.toInt ∧ x.toInt < 6)) S (imX S I w L (tn x)))) 0 [(0, .ref 0), (1, .int x)] [] S
  refine x_aload_n 0 dX10_image_0 rfl rfl ?_
  refine x_getR fX10_21 dX10_image_1 l0 rfl ?_
  refine x_iload_n 1 dX10_image_4 rfl rfl ?_
  refine x_callVb (as := [_]) (rest := []) vX10_105 (c_X5_isOne isR) dX10_image_5 l3 rfl rfl rfl (Nat.le_of_ble_eq_true rfl) (Nat.le_of_ble_eq_true rfl) (Nat.le_of_ble_eq_true rfl) (fun c_5 => ?_) (fun c_5 => ?_)
  · refine t_if_ne 13 dX10_image_8 (by decide) (by decide) ?_
    obtain ⟨a, ha, rfl⟩ := nI_ex (x := x) (n := 6) (by omega) (by omega)
    have ea : (nI a).toInt = (a : Int) := tiN (by omega)
    have ta : tn (nI a) = a := tnN (by omega)
    refine x_aload_n 0 dX10_image_13 rfl rfl ?_
    refine x_getR fX10_21 dX10_image_14 l0 rfl ?_
    refine x_iload_n 1 dX10_image_17 rfl rfl ?_
    refine x_aload_n 0 dX10_image_18 rfl rfl ?_
    refine x_getR fX10_40 dX10_image_19 l0 rfl ?_
    refine y_getI fX10_173 dX10_image_22 l11 rfl hI.2.1 ?_
    refine x_iconst (v := nI 1) dX10_image_25 (by decide) ?_
    refine y_iadd dX10_image_26 ?_
    refine x_iconst (v := nI 0) dX10_image_27 (by decide) ?_
    refine x_callVv (as := [_, _, _]) (rest := []) vX10_113 (c_X5_make isR hS.1 ha (by omega)) dX10_image_28 l3 rfl rfl rfl (Nat.le_of_ble_eq_true rfl) (Nat.le_of_ble_eq_true rfl) (Nat.le_of_ble_eq_true rfl) ?_
    refine x_iconst (v := nI 0) dX10_image_31 (by decide) ?_
    refine x_istore_n (lv' := [(2, _), (0, _), (1, _)]) dX10_image_32 rfl (by decide) rfl ?_
    refine x_pick (lv' := [(2, _), (0, _), (1, _)]) [0, 1, 2] rfl ?_
    have hh := lp_imX hI hO hP hL hL7 hv hS ha 0 (Nat.zero_le _)
    rw [rwS_0] at hh
    refine hh.mono (fun v S' hq => ?_)
    obtain ⟨rfl, rfl⟩ := hq
    simp only [ta]
    exact p2_1 (by omega)
  · refine u_if_ne 13 dX10_image_8 (by decide) (by decide) ?_
    refine x_iconst (v := -1) dX10_image_11 (by decide) ?_
    refine x_iret rfl dX10_image_12 (p2_0 (by omega))

