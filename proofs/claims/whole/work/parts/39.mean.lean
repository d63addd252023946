/-! ===== mean, copy, image ===== -/
noncomputable def i5 {α : Type} (p q r s : Prop) (a b c d e : α) : α := @ite α p (Classical.propDecidable p) a (@ite α q (Classical.propDecidable q) b (@ite α r (Classical.propDecidable r) c (@ite α s (Classical.propDecidable s) d e)))
section
variable {α : Type} {p q r s : Prop} {a b c d e : α}
theorem e5_0 (h : p) : i5 p q r s a b c d e = a := by unfold i5; rw [if_pos h]
theorem e5_1 (h : ¬ p) (h2 : q) : i5 p q r s a b c d e = b := by unfold i5; rw [if_neg h, if_pos h2]
theorem e5_2 (h : ¬ p) (h2 : ¬ q) (h3 : r) : i5 p q r s a b c d e = c := by unfold i5; rw [if_neg h, if_neg h2, if_pos h3]
theorem e5_3 (h : ¬ p) (h2 : ¬ q) (h3 : ¬ r) (h4 : s) : i5 p q r s a b c d e = d := by unfold i5; rw [if_neg h, if_neg h2, if_neg h3, if_pos h4]
theorem e5_4 (h : ¬ p) (h2 : ¬ q) (h3 : ¬ r) (h4 : ¬ s) : i5 p q r s a b c d e = e := by unfold i5; rw [if_neg h, if_neg h2, if_neg h3, if_neg h4]
end
section
variable {p q r s : Prop} {a b c d e : Int32} {S0 S1 S2 S3 S4 : St}
theorem p5_0 (h : p) : pu (.int (i5 p q r s a b c d e)) (i5 p q r s S0 S1 S2 S3 S4) (some (.int a)) S0 := ⟨by rw [e5_0 h], by rw [e5_0 h]⟩
theorem p5_1 (h : ¬ p) (h2 : q) : pu (.int (i5 p q r s a b c d e)) (i5 p q r s S0 S1 S2 S3 S4) (some (.int b)) S1 := ⟨by rw [e5_1 h h2], by rw [e5_1 h h2]⟩
theorem p5_2 (h : ¬ p) (h2 : ¬ q) (h3 : r) : pu (.int (i5 p q r s a b c d e)) (i5 p q r s S0 S1 S2 S3 S4) (some (.int c)) S2 := ⟨by rw [e5_2 h h2 h3], by rw [e5_2 h h2 h3]⟩
theorem p5_3 (h : ¬ p) (h2 : ¬ q) (h3 : ¬ r) (h4 : s) : pu (.int (i5 p q r s a b c d e)) (i5 p q r s S0 S1 S2 S3 S4) (some (.int d)) S3 := ⟨by rw [e5_3 h h2 h3 h4], by rw [e5_3 h h2 h3 h4]⟩
theorem p5_4 (h : ¬ p) (h2 : ¬ q) (h3 : ¬ r) (h4 : ¬ s) : pu (.int (i5 p q r s a b c d e)) (i5 p q r s S0 S1 S2 S3 S4) (some (.int e)) S4 := ⟨by rw [e5_4 h h2 h3 h4], by rw [e5_4 h h2 h3 h4]⟩
end
section
variable {p q r s : Prop} {a b c d e : Int32 → St → Prop} {x : Int32} {S : St}
theorem q5_0 (h : p) (k : a x S) : qi (i5 p q r s a b c d e) (some (.int x)) S := ⟨x, rfl, by rw [e5_0 h]; exact k⟩
theorem q5_1 (h : ¬ p) (h2 : q) (k : b x S) : qi (i5 p q r s a b c d e) (some (.int x)) S := ⟨x, rfl, by rw [e5_1 h h2]; exact k⟩
theorem q5_2 (h : ¬ p) (h2 : ¬ q) (h3 : r) (k : c x S) : qi (i5 p q r s a b c d e) (some (.int x)) S := ⟨x, rfl, by rw [e5_2 h h2 h3]; exact k⟩
theorem q5_3 (h : ¬ p) (h2 : ¬ q) (h3 : ¬ r) (h4 : s) (k : d x S) : qi (i5 p q r s a b c d e) (some (.int x)) S := ⟨x, rfl, by rw [e5_3 h h2 h3 h4]; exact k⟩
theorem q5_4 (h : ¬ p) (h2 : ¬ q) (h3 : ¬ r) (h4 : ¬ s) (k : e x S) : qi (i5 p q r s a b c d e) (some (.int x)) S := ⟨x, rfl, by rw [e5_4 h h2 h3 h4]; exact k⟩
end
/-- n places of k from a on hold f -/
def rwS (S : St) (k a n : Nat) (f : Nat → Int32) : St := (fun c b => if c = k ∧ a ≤ b ∧ b < a + n then f (b - a) else S.1 c b, S.2)
theorem rwS_d {S : St} {k a n c b : Nat} {f : Nat → Int32} : (rwS S k a n f).1 c b = if c = k ∧ a ≤ b ∧ b < a + n then f (b - a) else S.1 c b := rfl
theorem rwS_k {S : St} {k a n c b : Nat} {f : Nat → Int32} (h : ¬ c = k) : (rwS S k a n f).1 c b = S.1 c b := if_neg fun q => h q.1
theorem rwS_at {S : St} {k a n i : Nat} {f : Nat → Int32} (h : i < n) : (rwS S k a n f).1 k (a + i) = f i := by rw [rwS_d, if_pos ⟨rfl, by omega, by omega⟩, Nat.add_sub_cancel_left]
theorem rwS_at0 {S : St} {k n i : Nat} {f : Nat → Int32} (h : i < n) : (rwS S k 0 n f).1 k i = f i := by rw [rwS_d, if_pos ⟨rfl, by omega, by omega⟩, Nat.sub_zero]
theorem rwS_0 (S : St) (k a : Nat) (f : Nat → Int32) : rwS S k a 0 f = S := st_ext rfl fun c b => by rw [rwS_d, if_neg (by omega)]
theorem rwS_s (S : St) (k a n : Nat) (f : Nat → Int32) : setI (rwS S k a n f) k (a + n) (f n) = rwS S k a (n + 1) f := by
  refine st_ext rfl fun c b => ?_
  by_cases hc : c = k
  · subst hc
    by_cases hb : b = a + n
    · subst hb
      rw [rdI_eq, rwS_at (Nat.lt_succ_self n)]
    · rw [rdI_j hb, rwS_d, rwS_d]
      by_cases h : a ≤ b ∧ b < a + n
      · rw [if_pos ⟨rfl, h⟩, if_pos ⟨rfl, by omega, by omega⟩]
      · rw [if_neg (fun q => h q.2), if_neg (fun q => h (by omega))]
  · rw [rdI_k hc, rwS_k hc, rwS_k hc]
theorem nL_nz1 : ∀ y, y < 101 → 0 < y → ¬ (nI y).toInt64 = 0 := by decide +kernel
theorem cmp_gt (a b : Int64) : 0 < (lg_cmp a b).toInt ↔ b.toInt < a.toInt := by
  unfold lg_cmp
  have h := @Int64.lt_iff_toInt_lt b a
  by_cases h1 : a > b
  · rw [if_pos h1]
    have := h.mp h1
    have e : (1 : Int32).toInt = 1 := by decide
    rw [e]
    omega
  · rw [if_neg h1]
    have h4 := mt h.mpr h1
    by_cases h2 : a = b
    · rw [if_pos h2]
      have e : (0 : Int32).toInt = 0 := by decide
      rw [e]
      omega
    · rw [if_neg h2]
      have e : (-1 : Int32).toInt = -1 := by decide
      rw [e]
      omega
theorem add64 (x y : Int32) : (x.toInt64 + y.toInt64).toInt = x.toInt + y.toInt := by
  have h1 := x.toInt_lt
  have h2 := y.toInt_lt
  have h3 := x.le_toInt
  have h4 := y.le_toInt
  rw [Int64.toInt_add, Int32.toInt_toInt64, Int32.toInt_toInt64, Int.bmod_eq_of_le (by omega) (by omega)]

theorem x_cast {fr lo : Nat} {M : MD} {Q : Option Value → St → Prop} {pc : Nat} {lv : List (Nat × Value)} {st : List Value} {S S' : St} (h : S = S') (kk : X fr lo M Q pc lv st S') : X fr lo M Q pc lv st S := by rw [h]; exact kk

theorem c_miss {S : St} {r : Nat} (hr : r < 6) : C 2 60 yX5_missing mX5_missing [.ref 3, .int (nI r)] S (pb ((S.1 4 r).toInt < 0) S) := c_X5_missing isR hr
theorem c_rowAtM {S : St} {r i : Nat} {v : Int32} (hr : r < 6) (hi : i < 60) (hv : S.1 86 (60 * r + i) = v) : C 0 0 yX11_rowAt mX11_rowAt [.ref 83, .int (nI r), .int (nI i)] S (pu (.int v) S) := by
  have h := c_X11_rowAt (S := S) hr hi
  rw [hv] at h
  exact h
theorem c_get {S : St} {k c ρ : Nat} {r i z : Nat} {v : Int32} (hk : isRows k c ρ) (h0 : S.1 k 0 = nI ρ) (hr : r < c) (hz : S.1 (k + 1) r = nI z) (hz2 : z ≤ ρ) (hi : i < z) (hv : S.1 (k + 2) (r * ρ + i) = v) : C 1 30 yX5_get mX5_get [.ref k, .int (nI r), .int (nI i)] S (pu (.int v) S) := by
  have h := c_X5_get (S := S) hk h0 hr hz hz2 hi
  rw [hv] at h
  exact h

set_option maxHeartbeats 4000000 in
set_option maxRecDepth 100000 in
theorem c_X10_mean {S : St} (hS : RwS 3 6 60 S) {x : Int32} : C 3 90 yX10_mean mX10_mean [.ref 0, .int x] S (pu (.int (i4 (¬ (0 ≤ x.toInt ∧ x.toInt < 6)) ((S.1 4 (tn x)).toInt < 0) ((S.1 4 (tn x)).toInt = 0) (-1) (-3) (-3) 1)) (i4 (¬ (0 ≤ x.toInt ∧ x.toInt < 6)) ((S.1 4 (tn x)).toInt < 0) ((S.1 4 (tn x)).toInt = 0) S (fndS S 1) (fndS S 4) (setI S 1 0 (((sl (fun i => (S.1 5 (tn x * 60 + i)).toInt64) (tn (S.1 4 (tn x)))) / (S.1 4 (tn x)).toInt64).toInt32)))) := by
  refine C.ofX (by decide) rfl (Nat.le_of_ble_eq_true rfl) ?_
  show X 3 90 mX10_mean (pu (.int (i4 (¬ (0 ≤ x.toInt ∧ x.toInt < 6)) ((S.1 4 (tn x)).toInt < 0) ((S.1 4 (tn x)).toInt = 0) (-1) (-3) (-3) 1)) (i4 (¬ (0 ≤ x.toInt ∧ x.toInt < 6)) ((S.1 4 (tn x)).toInt < 0) ((S.1 4 (tn x)).toInt = 0) S (fndS S 1) (fndS S 4) (setI S 1 0 (((sl (fun i => (S.1 5 (tn x * 60 + i)).toInt64) (tn (S.1 4 (tn x)))) / (S.1 4 (tn x)).toInt64).toInt32)))) 0 [(0, .ref 0), (1, .int x)] [] S
  refine x_aload_n 0 dX10_mean_0 rfl rfl ?_
  refine x_getR fX10_21 dX10_mean_1 l0 rfl ?_
  refine x_iload_n 1 dX10_mean_4 rfl rfl ?_
  refine x_callVb (as := [_]) (rest := []) vX10_105 (c_X5_isOne isR) dX10_mean_5 l3 rfl rfl rfl (Nat.le_of_ble_eq_true rfl) (Nat.le_of_ble_eq_true rfl) (Nat.le_of_ble_eq_true rfl) (fun c_5 => ?_) (fun c_5 => ?_)
  · refine t_if_ne 13 dX10_mean_8 (by decide) (by decide) ?_
    obtain ⟨a, ha, rfl⟩ := nI_ex (x := x) (n := 6) (by omega) (by omega)
    have ea : (nI a).toInt = (a : Int) := tiN (by omega)
    have ta : tn (nI a) = a := tnN (by omega)
    refine x_aload_n 0 dX10_mean_13 rfl rfl ?_
    refine x_getR fX10_21 dX10_mean_14 l0 rfl ?_
    refine x_iload_n 1 dX10_mean_17 rfl rfl ?_
    refine x_callVb (as := [_]) (rest := []) vX10_117 (c_X5_missing isR ha) dX10_mean_18 l3 rfl rfl rfl (Nat.le_of_ble_eq_true rfl) (Nat.le_of_ble_eq_true rfl) (Nat.le_of_ble_eq_true rfl) (fun c_18 => ?_) (fun c_18 => ?_)
    · refine u_if_eq 33 dX10_mean_21 (by decide) (by decide) ?_
      refine x_aload_n 0 dX10_mean_24 rfl rfl ?_
      refine x_getR fX10_10 dX10_mean_25 l0 rfl ?_
      refine x_iconst (v := nI 1) dX10_mean_28 (by decide) ?_
      refine x_callVu (as := [_]) (rest := []) vX10_109 (c_X9_find (by decide) (by decide)) dX10_mean_29 l1 rfl rfl rfl (Nat.le_of_ble_eq_true rfl) (Nat.le_of_ble_eq_true rfl) (Nat.le_of_ble_eq_true rfl) ?_
      refine x_iret rfl dX10_mean_32 (by simp only [ta]; exact p4_1 (by omega) (by omega))
    · refine t_if_eq 33 dX10_mean_21 (by decide) (by decide) ?_
      obtain ⟨z, hz, ez⟩ := hS.nn ha c_18
      have ezi : (nI z).toInt = (z : Int) := tiN (by omega)
      have tz : tn (nI z) = z := tnN (by omega)
      refine x_aload_n 0 dX10_mean_33 rfl rfl ?_
      refine x_getR fX10_21 dX10_mean_34 l0 rfl ?_
      refine x_iload_n 1 dX10_mean_37 rfl rfl ?_
      refine x_callVu (as := [_]) (rest := []) vX10_141 (c_sizeOf isR ha ez) dX10_mean_38 l3 rfl rfl rfl (Nat.le_of_ble_eq_true rfl) (Nat.le_of_ble_eq_true rfl) (Nat.le_of_ble_eq_true rfl) ?_
      refine x_istore_n (lv' := [(2, _), (0, _), (1, _)]) dX10_mean_41 rfl (by decide) rfl ?_
      refine x_iload_n 0 dX10_mean_42 rfl rfl ?_
      refine y_if_gt 55 dX10_mean_43 (by decide) (by omega) (fun c_43 => ?_) (fun c_43 => ?_)
      · refine x_aload_n 1 dX10_mean_55 rfl rfl ?_
        refine x_getR fX10_10 dX10_mean_56 l0 rfl ?_
        refine x_aload_n 1 dX10_mean_59 rfl rfl ?_
        refine x_getR fX10_21 dX10_mean_60 l0 rfl ?_
        refine x_iload_n 2 dX10_mean_63 rfl rfl ?_
        refine x_callVu (as := [_]) (rest := [_]) vX10_144 (c_X5_sum isR hS.1 ha ez hz) dX10_mean_64 l3 rfl rfl rfl (Nat.le_of_ble_eq_true rfl) (Nat.le_of_ble_eq_true rfl) (Nat.le_of_ble_eq_true rfl) ?_
        refine x_iload_n 0 dX10_mean_67 rfl rfl ?_
        refine x_i2l dX10_mean_68 ?_
        refine x_ldiv dX10_mean_69 (nL_nz1 z (by omega) (by omega)) ?_
        refine x_l2i dX10_mean_70 ?_
        refine x_callVu (as := [_]) (rest := []) vX10_131 c_X9_tell dX10_mean_71 l1 rfl rfl rfl (Nat.le_of_ble_eq_true rfl) (Nat.le_of_ble_eq_true rfl) (Nat.le_of_ble_eq_true rfl) ?_
        refine x_iret rfl dX10_mean_74 (by simp only [ta, ez, tz]; exact p4_3 (by omega) (by omega) (by omega))
      · refine x_aload_n 1 dX10_mean_46 rfl rfl ?_
        refine x_getR fX10_10 dX10_mean_47 l0 rfl ?_
        refine x_iconst (v := nI 4) dX10_mean_50 (by decide) ?_
        refine x_callVu (as := [_]) (rest := []) vX10_109 (c_X9_find (by decide) (by decide)) dX10_mean_51 l1 rfl rfl rfl (Nat.le_of_ble_eq_true rfl) (Nat.le_of_ble_eq_true rfl) (Nat.le_of_ble_eq_true rfl) ?_
        refine x_iret rfl dX10_mean_54 (by simp only [ta, ez]; exact p4_2 (by omega) (by omega) (by omega))
  · refine u_if_ne 13 dX10_mean_8 (by decide) (by decide) ?_
    refine x_iconst (v := -1) dX10_mean_11 (by decide) ?_
    refine x_iret rfl dX10_mean_12 (p4_0 (by omega))

set_option maxHeartbeats 4000000 in
set_option maxRecDepth 100000 in
theorem lp_meanM {S : St} {a z : Nat} (ha : a < 6) (ez : S.1 85 a = nI z) (hz : z ≤ 60) (hz0 : 0 < z)  : ∀ (k : Nat), (k ≤ z) → X 2 60 mX11_mean (pu (.int 1) (setI S 83 2 (((sl (fun i => (S.1 86 (60 * a + i)).toInt64) z) / (nI z).toInt64).toInt32))) 44 [(4, .int (nI k)), (2, .long (sl (fun i => (S.1 86 (60 * a + i)).toInt64) k)), (0, .ref 83), (1, .int (nI a))] [] S := by
  intro k
  induction hm : z - k using Nat.strongRecOn generalizing k with
  | _ mm ih =>
    intro hk
    refine x_iload 0 dX11_mean_44 rfl ?_
    refine x_aload_n 2 dX11_mean_46 rfl rfl ?_
    refine x_getR fX11_13 dX11_mean_47 l83 rfl ?_
    refine x_iload_n 3 dX11_mean_50 rfl rfl ?_
    refine y_iald dX11_mean_51 l85 (by omega) (by decide) ez ?_
    refine y_ic_ge 72 dX11_mean_52 (by decide) (by omega) (by omega) (fun c_52 => ?_) (fun c_52 => ?_)
    · refine x_aload_n 2 dX11_mean_72 rfl rfl ?_
      refine x_lload_n 1 dX11_mean_73 rfl rfl ?_
      refine x_aload_n 2 dX11_mean_74 rfl rfl ?_
      refine x_getR fX11_13 dX11_mean_75 l83 rfl ?_
      refine x_iload_n 3 dX11_mean_78 rfl rfl ?_
      refine y_iald dX11_mean_79 l85 (by omega) (by decide) ez ?_
      refine x_i2l dX11_mean_80 ?_
      refine x_ldiv dX11_mean_81 (nL_nz1 z (by omega) (by omega)) ?_
      refine x_l2i dX11_mean_82 ?_
      refine x_iconst (v := nI 1) dX11_mean_83 (by decide) ?_
      refine x_callVu (as := [_, _]) (rest := []) vX11_120 c_X11_tells dX11_mean_84 l83 rfl rfl rfl (Nat.le_of_ble_eq_true rfl) (Nat.le_of_ble_eq_true rfl) (Nat.le_of_ble_eq_true rfl) ?_
      refine x_iret rfl dX11_mean_87 (by obtain rfl : k = z := (by omega); exact ⟨rfl, rfl⟩)
    · refine x_lload_n 1 dX11_mean_55 rfl rfl ?_
      refine x_aload_n 2 dX11_mean_56 rfl rfl ?_
      refine x_iload_n 3 dX11_mean_57 rfl rfl ?_
      refine x_iload 0 dX11_mean_58 rfl ?_
      refine x_callVu (as := [_, _]) (rest := [_]) vX11_116 (c_X11_rowAt ha (by omega)) dX11_mean_60 l83 rfl rfl rfl (Nat.le_of_ble_eq_true rfl) (Nat.le_of_ble_eq_true rfl) (Nat.le_of_ble_eq_true rfl) ?_
      refine x_i2l dX11_mean_63 ?_
      refine x_ladd dX11_mean_64 ?_
      refine x_lstore_n (lv' := [(2, _), (4, _), (0, _), (1, _)]) dX11_mean_65 rfl (by decide) rfl ?_
      refine y_iinc (lv' := [(4, _), (2, _), (0, _), (1, _)]) 1 dX11_mean_66 rfl (by decide) rfl ?_
      refine x_goto 44 dX11_mean_69 (by decide) ?_
      refine x_pick (lv' := [(4, _), (2, _), (0, _), (1, _)]) [0, 1, 2, 3] rfl ?_
      exact ih (z - (k + 1)) (by omega) (k + 1) rfl (by omega)

set_option maxHeartbeats 4000000 in
set_option maxRecDepth 100000 in
theorem c_X11_mean {S : St} (hS : RwM S) {x : Int32} : C 2 60 yX11_mean mX11_mean [.ref 83, .int x] S (pu (.int (i4 (¬ (0 ≤ x.toInt ∧ x.toInt < 6)) ((S.1 85 (tn x)).toInt < 0) ((S.1 85 (tn x)).toInt = 0) (-1) (-3) (-3) 1)) (i4 (¬ (0 ≤ x.toInt ∧ x.toInt < 6)) ((S.1 85 (tn x)).toInt < 0) ((S.1 85 (tn x)).toInt = 0) S (fndM S 1) (fndM S 4) (setI S 83 2 (((sl (fun i => (S.1 86 (60 * tn x + i)).toInt64) (tn (S.1 85 (tn x)))) / (S.1 85 (tn x)).toInt64).toInt32)))) := by
  refine C.ofX (by decide) rfl (Nat.le_of_ble_eq_true rfl) ?_
  show X 2 60 mX11_mean (pu (.int (i4 (¬ (0 ≤ x.toInt ∧ x.toInt < 6)) ((S.1 85 (tn x)).toInt < 0) ((S.1 85 (tn x)).toInt = 0) (-1) (-3) (-3) 1)) (i4 (¬ (0 ≤ x.toInt ∧ x.toInt < 6)) ((S.1 85 (tn x)).toInt < 0) ((S.1 85 (tn x)).toInt = 0) S (fndM S 1) (fndM S 4) (setI S 83 2 (((sl (fun i => (S.1 86 (60 * tn x + i)).toInt64) (tn (S.1 85 (tn x)))) / (S.1 85 (tn x)).toInt64).toInt32)))) 0 [(0, .ref 83), (1, .int x)] [] S
  refine x_iload_n 1 dX11_mean_0 rfl rfl ?_
  refine x_callSb (as := [_]) (rest := []) sX11_108 c_X11_isRow dX11_mean_1 rfl rfl (Nat.le_of_ble_eq_true rfl) (Nat.le_of_ble_eq_true rfl) (Nat.le_of_ble_eq_true rfl) (fun c_1 => ?_) (fun c_1 => ?_)
  · refine t_if_ne 9 dX11_mean_4 (by decide) (by decide) ?_
    obtain ⟨a, ha, rfl⟩ := nI_ex (x := x) (n := 6) (by omega) (by omega)
    have ea : (nI a).toInt = (a : Int) := tiN (by omega)
    have ta : tn (nI a) = a := tnN (by omega)
    refine x_aload_n 0 dX11_mean_9 rfl rfl ?_
    refine x_getR fX11_13 dX11_mean_10 l83 rfl ?_
    refine x_iload_n 1 dX11_mean_13 rfl rfl ?_
    refine y_iald dX11_mean_14 l85 (by omega) (by decide) rfl ?_
    refine x_if_ge 24 dX11_mean_15 (by decide) (fun c_15 => ?_) (fun c_15 => ?_)
    · obtain ⟨z, hz, ez⟩ := hS.r ha (by omega)
      have ezi : (nI z).toInt = (z : Int) := tiN (by omega)
      have tz : tn (nI z) = z := tnN (by omega)
      refine x_aload_n 0 dX11_mean_24 rfl rfl ?_
      refine x_getR fX11_13 dX11_mean_25 l83 rfl ?_
      refine x_iload_n 1 dX11_mean_28 rfl rfl ?_
      refine y_iald dX11_mean_29 l85 (by omega) (by decide) ez ?_
      refine y_if_ne 39 dX11_mean_30 (by decide) (by omega) (fun c_30 => ?_) (fun c_30 => ?_)
      · refine x_lconst (v := 0) dX11_mean_39 rfl ?_
        refine x_lstore_n (lv' := [(2, _), (0, _), (1, _)]) dX11_mean_40 rfl (by decide) rfl ?_
        refine x_iconst (v := nI 0) dX11_mean_41 (by decide) ?_
        refine x_istore (lv' := [(4, _), (2, _), (0, _), (1, _)]) dX11_mean_42 (by decide) rfl ?_
        refine x_pick (lv' := [(4, _), (2, _), (0, _), (1, _)]) [0, 1, 2, 3] rfl ?_
        have hh := lp_meanM ha ez hz (by omega) 0 (Nat.zero_le _)
        refine hh.mono (fun v S' hq => ?_)
        obtain ⟨rfl, rfl⟩ := hq
        simp only [ta, ez, tz]
        exact p4_3 (by omega) (by omega) (by omega)
      · refine x_aload_n 0 dX11_mean_33 rfl rfl ?_
        refine x_iconst (v := nI 4) dX11_mean_34 (by decide) ?_
        refine x_callVu (as := [_]) (rest := []) vX11_112 (c_X11_meets (by decide)) dX11_mean_35 l83 rfl rfl rfl (Nat.le_of_ble_eq_true rfl) (Nat.le_of_ble_eq_true rfl) (Nat.le_of_ble_eq_true rfl) ?_
        refine x_iret rfl dX11_mean_38 (by simp only [ta, ez]; exact p4_2 (by omega) (by omega) (by omega))
    · refine x_aload_n 0 dX11_mean_18 rfl rfl ?_
      refine x_iconst (v := nI 1) dX11_mean_19 (by decide) ?_
      refine x_callVu (as := [_]) (rest := []) vX11_112 (c_X11_meets (by decide)) dX11_mean_20 l83 rfl rfl rfl (Nat.le_of_ble_eq_true rfl) (Nat.le_of_ble_eq_true rfl) (Nat.le_of_ble_eq_true rfl) ?_
      refine x_iret rfl dX11_mean_23 (by simp only [ta]; exact p4_1 (by omega) (by omega))
  · refine u_if_ne 9 dX11_mean_4 (by decide) (by decide) ?_
    refine x_iconst (v := -1) dX11_mean_7 (by decide) ?_
    refine x_iret rfl dX11_mean_8 (p4_0 (by omega))

set_option maxHeartbeats 4000000 in
set_option maxRecDepth 100000 in
theorem c_X10_copy {S : St} (hS : RwS 3 6 60 S) {x1 x2 x3 x4 x5 : Int32} : C 3 90 yX10_copy mX10_copy [.ref 0, .int x1, .int x2, .int x3, .int x4, .int x5] S (pu (.int (i5 (¬ ((0 ≤ x1.toInt ∧ x1.toInt < 6) ∧ 0 ≤ x3.toInt ∧ x3.toInt < 6)) (x5.toInt < 0) ((S.1 4 (tn x1)).toInt < 0 ∨ (S.1 4 (tn x3)).toInt < 0) (¬ (0 ≤ x2.toInt ∧ 0 ≤ x4.toInt ∧ x2.toInt + x5.toInt ≤ (S.1 4 (tn x1)).toInt ∧ x4.toInt + x5.toInt ≤ (S.1 4 (tn x3)).toInt)) (-1) (-3) (-3) (-3) 1)) (i5 (¬ ((0 ≤ x1.toInt ∧ x1.toInt < 6) ∧ 0 ≤ x3.toInt ∧ x3.toInt < 6)) (x5.toInt < 0) ((S.1 4 (tn x1)).toInt < 0 ∨ (S.1 4 (tn x3)).toInt < 0) (¬ (0 ≤ x2.toInt ∧ 0 ≤ x4.toInt ∧ x2.toInt + x5.toInt ≤ (S.1 4 (tn x1)).toInt ∧ x4.toInt + x5.toInt ≤ (S.1 4 (tn x3)).toInt)) S (fndS S 5) (fndS S 1) (fndS S 2) (cpA S 5 5 (tn x1 * 60 + tn x2) (tn x3 * 60 + tn x4) (tn x5)))) := by
  refine C.ofX (by decide) rfl (Nat.le_of_ble_eq_true rfl) ?_
  show X 3 90 mX10_copy (pu (.int (i5 (¬ ((0 ≤ x1.toInt ∧ x1.toInt < 6) ∧ 0 ≤ x3.toInt ∧ x3.toInt < 6)) (x5.toInt < 0) ((S.1 4 (tn x1)).toInt < 0 ∨ (S.1 4 (tn x3)).toInt < 0) (¬ (0 ≤ x2.toInt ∧ 0 ≤ x4.toInt ∧ x2.toInt + x5.toInt ≤ (S.1 4 (tn x1)).toInt ∧ x4.toInt + x5.toInt ≤ (S.1 4 (tn x3)).toInt)) (-1) (-3) (-3) (-3) 1)) (i5 (¬ ((0 ≤ x1.toInt ∧ x1.toInt < 6) ∧ 0 ≤ x3.toInt ∧ x3.toInt < 6)) (x5.toInt < 0) ((S.1 4 (tn x1)).toInt < 0 ∨ (S.1 4 (tn x3)).toInt < 0) (¬ (0 ≤ x2.toInt ∧ 0 ≤ x4.toInt ∧ x2.toInt + x5.toInt ≤ (S.1 4 (tn x1)).toInt ∧ x4.toInt + x5.toInt ≤ (S.1 4 (tn x3)).toInt)) S (fndS S 5) (fndS S 1) (fndS S 2) (cpA S 5 5 (tn x1 * 60 + tn x2) (tn x3 * 60 + tn x4) (tn x5)))) 0 [(0, .ref 0), (1, .int x1), (2, .int x2), (3, .int x3), (4, .int x4), (5, .int x5)] [] S
  refine x_aload_n 0 dX10_copy_0 rfl rfl ?_
  refine x_getR fX10_21 dX10_copy_1 l0 rfl ?_
  refine x_iload_n 1 dX10_copy_4 rfl rfl ?_
  refine x_callVb (as := [_]) (rest := []) vX10_105 (c_X5_isOne isR) dX10_copy_5 l3 rfl rfl rfl (Nat.le_of_ble_eq_true rfl) (Nat.le_of_ble_eq_true rfl) (Nat.le_of_ble_eq_true rfl) (fun c_5 => ?_) (fun c_5 => ?_)
  · refine u_if_eq 22 dX10_copy_8 (by decide) (by decide) ?_
    refine x_aload_n 0 dX10_copy_11 rfl rfl ?_
    refine x_getR fX10_21 dX10_copy_12 l0 rfl ?_
    refine x_iload_n 3 dX10_copy_15 rfl rfl ?_
    refine x_callVb (as := [_]) (rest := []) vX10_105 (c_X5_isOne isR) dX10_copy_16 l3 rfl rfl rfl (Nat.le_of_ble_eq_true rfl) (Nat.le_of_ble_eq_true rfl) (Nat.le_of_ble_eq_true rfl) (fun c_16 => ?_) (fun c_16 => ?_)
    · refine t_if_ne 24 dX10_copy_19 (by decide) (by decide) ?_
      obtain ⟨a, ha, rfl⟩ := nI_ex (x := x1) (n := 6) (by omega) (by omega)
      have ea : (nI a).toInt = (a : Int) := tiN (by omega)
      have ta : tn (nI a) = a := tnN (by omega)
      obtain ⟨b, hb, rfl⟩ := nI_ex (x := x3) (n := 6) (by omega) (by omega)
      have eb : (nI b).toInt = (b : Int) := tiN (by omega)
      have tb : tn (nI b) = b := tnN (by omega)
      refine x_iload 5 dX10_copy_24 rfl ?_
      refine x_if_ge 38 dX10_copy_26 (by decide) (fun c_26 => ?_) (fun c_26 => ?_)
      · refine x_aload_n 0 dX10_copy_38 rfl rfl ?_
        refine x_getR fX10_21 dX10_copy_39 l0 rfl ?_
        refine x_iload_n 1 dX10_copy_42 rfl rfl ?_
        refine x_callVb (as := [_]) (rest := []) vX10_117 (c_miss ha) dX10_copy_43 l3 rfl rfl rfl (Nat.le_of_ble_eq_true rfl) (Nat.le_of_ble_eq_true rfl) (Nat.le_of_ble_eq_true rfl) (fun c_43 => ?_) (fun c_43 => ?_)
        · refine t_if_ne 60 dX10_copy_46 (by decide) (by decide) ?_
          refine x_aload_n 0 dX10_copy_60 rfl rfl ?_
          refine x_getR fX10_10 dX10_copy_61 l0 rfl ?_
          refine x_iconst (v := nI 1) dX10_copy_64 (by decide) ?_
          refine x_callVu (as := [_]) (rest := []) vX10_109 (c_X9_find (by decide) (by decide)) dX10_copy_65 l1 rfl rfl rfl (Nat.le_of_ble_eq_true rfl) (Nat.le_of_ble_eq_true rfl) (Nat.le_of_ble_eq_true rfl) ?_
          refine x_iret rfl dX10_copy_68 (by simp only [ta, tb]; exact p5_2 (by omega) (by omega) (by omega))
        · refine u_if_ne 60 dX10_copy_46 (by decide) (by decide) ?_
          refine x_aload_n 0 dX10_copy_49 rfl rfl ?_
          refine x_getR fX10_21 dX10_copy_50 l0 rfl ?_
          refine x_iload_n 3 dX10_copy_53 rfl rfl ?_
          refine x_callVb (as := [_]) (rest := []) vX10_117 (c_miss hb) dX10_copy_54 l3 rfl rfl rfl (Nat.le_of_ble_eq_true rfl) (Nat.le_of_ble_eq_true rfl) (Nat.le_of_ble_eq_true rfl) (fun c_54 => ?_) (fun c_54 => ?_)
          · refine u_if_eq 69 dX10_copy_57 (by decide) (by decide) ?_
            refine x_aload_n 0 dX10_copy_60 rfl rfl ?_
            refine x_getR fX10_10 dX10_copy_61 l0 rfl ?_
            refine x_iconst (v := nI 1) dX10_copy_64 (by decide) ?_
            refine x_callVu (as := [_]) (rest := []) vX10_109 (c_X9_find (by decide) (by decide)) dX10_copy_65 l1 rfl rfl rfl (Nat.le_of_ble_eq_true rfl) (Nat.le_of_ble_eq_true rfl) (Nat.le_of_ble_eq_true rfl) ?_
            refine x_iret rfl dX10_copy_68 (by simp only [ta, tb]; exact p5_2 (by omega) (by omega) (by omega))
          · refine t_if_eq 69 dX10_copy_57 (by decide) (by decide) ?_
            obtain ⟨z, hz, ez⟩ := hS.nn ha c_43
            have ezi : (nI z).toInt = (z : Int) := tiN (by omega)
            obtain ⟨y, hy, ey⟩ := hS.nn hb c_54
            have eyi : (nI y).toInt = (y : Int) := tiN (by omega)
            refine x_aload_n 0 dX10_copy_69 rfl rfl ?_
            refine x_getR fX10_21 dX10_copy_70 l0 rfl ?_
            refine x_iload_n 1 dX10_copy_73 rfl rfl ?_
            refine x_iload_n 2 dX10_copy_74 rfl rfl ?_
            refine x_iload 5 dX10_copy_75 rfl ?_
            refine x_callVb (as := [_, _, _]) (rest := []) vX10_120 (c_X5_hasPlaces isR ha ez hz) dX10_copy_77 l3 rfl rfl rfl (Nat.le_of_ble_eq_true rfl) (Nat.le_of_ble_eq_true rfl) (Nat.le_of_ble_eq_true rfl) (fun c_77 => ?_) (fun c_77 => ?_)
            · refine u_if_eq 98 dX10_copy_80 (by decide) (by decide) ?_
              refine x_aload_n 0 dX10_copy_83 rfl rfl ?_
              refine x_getR fX10_21 dX10_copy_84 l0 rfl ?_
              refine x_iload_n 3 dX10_copy_87 rfl rfl ?_
              refine x_iload 4 dX10_copy_88 rfl ?_
              refine x_iload 5 dX10_copy_90 rfl ?_
              refine x_callVb (as := [_, _, _]) (rest := []) vX10_120 (c_X5_hasPlaces isR hb ey hy) dX10_copy_92 l3 rfl rfl rfl (Nat.le_of_ble_eq_true rfl) (Nat.le_of_ble_eq_true rfl) (Nat.le_of_ble_eq_true rfl) (fun c_92 => ?_) (fun c_92 => ?_)
              · refine t_if_ne 107 dX10_copy_95 (by decide) (by decide) ?_
                obtain ⟨e, he, rfl⟩ := nI_ex (x := x2) (n := z + 1) (by omega) (by omega)
                have ee : (nI e).toInt = (e : Int) := tiN (by omega)
                have te : tn (nI e) = e := tnN (by omega)
                obtain ⟨f, hf, rfl⟩ := nI_ex (x := x4) (n := y + 1) (by omega) (by omega)
                have ef : (nI f).toInt = (f : Int) := tiN (by omega)
                have tf : tn (nI f) = f := tnN (by omega)
                obtain ⟨g, hg, rfl⟩ := nI_ex (x := x5) (n := 61) (by omega) (by omega)
                have eg : (nI g).toInt = (g : Int) := tiN (by omega)
                have tg : tn (nI g) = g := tnN (by omega)
                refine x_aload_n 0 dX10_copy_107 rfl rfl ?_
                refine x_getR fX10_21 dX10_copy_108 l0 rfl ?_
                refine x_iload_n 1 dX10_copy_111 rfl rfl ?_
                refine x_iload_n 2 dX10_copy_112 rfl rfl ?_
                refine x_iload_n 3 dX10_copy_113 rfl rfl ?_
                refine x_iload 4 dX10_copy_114 rfl ?_
                refine x_iload 5 dX10_copy_116 rfl ?_
                refine x_callVv (as := [_, _, _, _, _]) (rest := []) vX10_137 (c_X5_shift isR hS.1 ha hb ez hz ey hy (by omega) (by omega)) dX10_copy_118 l3 rfl rfl rfl (Nat.le_of_ble_eq_true rfl) (Nat.le_of_ble_eq_true rfl) (Nat.le_of_ble_eq_true rfl) ?_
                refine x_iconst (v := nI 1) dX10_copy_121 (by decide) ?_
                refine x_iret rfl dX10_copy_122 (by simp only [ta, tb, ez, ey, te, tf, tg]; exact p5_4 (by omega) (by omega) (by omega) (by omega))
              · refine u_if_ne 107 dX10_copy_95 (by decide) (by decide) ?_
                refine x_aload_n 0 dX10_copy_98 rfl rfl ?_
                refine x_getR fX10_10 dX10_copy_99 l0 rfl ?_
                refine x_iconst (v := nI 2) dX10_copy_102 (by decide) ?_
                refine x_callVu (as := [_]) (rest := []) vX10_109 (c_X9_find (by decide) (by decide)) dX10_copy_103 l1 rfl rfl rfl (Nat.le_of_ble_eq_true rfl) (Nat.le_of_ble_eq_true rfl) (Nat.le_of_ble_eq_true rfl) ?_
                refine x_iret rfl dX10_copy_106 (by simp only [ta, tb, ez, ey]; exact p5_3 (by omega) (by omega) (by omega) (by omega))
            · refine t_if_eq 98 dX10_copy_80 (by decide) (by decide) ?_
              refine x_aload_n 0 dX10_copy_98 rfl rfl ?_
              refine x_getR fX10_10 dX10_copy_99 l0 rfl ?_
              refine x_iconst (v := nI 2) dX10_copy_102 (by decide) ?_
              refine x_callVu (as := [_]) (rest := []) vX10_109 (c_X9_find (by decide) (by decide)) dX10_copy_103 l1 rfl rfl rfl (Nat.le_of_ble_eq_true rfl) (Nat.le_of_ble_eq_true rfl) (Nat.le_of_ble_eq_true rfl) ?_
              refine x_iret rfl dX10_copy_106 (by simp only [ta, tb, ez, ey]; exact p5_3 (by omega) (by omega) (by omega) (by omega))
      · refine x_aload_n 0 dX10_copy_29 rfl rfl ?_
        refine x_getR fX10_10 dX10_copy_30 l0 rfl ?_
        refine x_iconst (v := nI 5) dX10_copy_33 (by decide) ?_
        refine x_callVu (as := [_]) (rest := []) vX10_109 (c_X9_find (by decide) (by decide)) dX10_copy_34 l1 rfl rfl rfl (Nat.le_of_ble_eq_true rfl) (Nat.le_of_ble_eq_true rfl) (Nat.le_of_ble_eq_true rfl) ?_
        refine x_iret rfl dX10_copy_37 (by simp only [ta, tb]; exact p5_1 (by omega) (by omega))
    · refine u_if_ne 24 dX10_copy_19 (by decide) (by decide) ?_
      refine x_iconst (v := -1) dX10_copy_22 (by decide) ?_
      refine x_iret rfl dX10_copy_23 (p5_0 (by omega))
  · refine t_if_eq 22 dX10_copy_8 (by decide) (by decide) ?_
    refine x_iconst (v := -1) dX10_copy_22 (by decide) ?_
    refine x_iret rfl dX10_copy_23 (p5_0 (by omega))

def cpM (S : St) (r i to j n : Nat) : St := rwS (rwS S 87 0 n (fun k => S.1 86 (60 * r + (i + k)))) 86 (60 * to + j) n (fun k => S.1 86 (60 * r + (i + k)))

set_option maxHeartbeats 4000000 in
set_option maxRecDepth 100000 in
theorem lp_copy2 {S : St} {a b e f g : Nat} (ha : a < 6) (hb : b < 6) (he : e + g ≤ 60) (hf : f + g ≤ 60)  : ∀ (k : Nat), (k ≤ g) → X 2 60 mX11_copy (pu (.int 1) (cpM S a e b f g)) 136 [(6, .int (nI k)), (0, .ref 83), (1, .int (nI a)), (2, .int (nI e)), (3, .int (nI b)), (4, .int (nI f)), (5, .int (nI g))] [] (rwS (rwS S 87 0 g (fun k => S.1 86 (60 * a + (e + k)))) 86 (60 * b + f) k (fun k => S.1 86 (60 * a + (e + k)))) := by
  intro k
  induction hm : g - k using Nat.strongRecOn generalizing k with
  | _ mm ih =>
    intro hk
    refine x_iload 0 dX11_copy_136 rfl ?_
    refine x_iload 6 dX11_copy_138 rfl ?_
    refine y_ic_ge 171 dX11_copy_140 (by decide) (by omega) (by omega) (fun c_140 => ?_) (fun c_140 => ?_)
    · refine x_iconst (v := nI 1) dX11_copy_171 (by decide) ?_
      refine x_iret rfl dX11_copy_172 (by obtain rfl : k = g := (by omega); exact ⟨rfl, rfl⟩)
    · refine x_aload_n 1 dX11_copy_143 rfl rfl ?_
      refine x_getR fX11_16 dX11_copy_144 l83 rfl ?_
      refine x_bipush (v := nI 60) dX11_copy_147 (by decide) ?_
      refine x_iload_n 4 dX11_copy_149 rfl rfl ?_
      refine y_imul dX11_copy_150 ?_
      refine x_iload 5 dX11_copy_151 rfl ?_
      refine y_iadd dX11_copy_153 ?_
      refine x_iload 0 dX11_copy_154 rfl ?_
      refine y_iadd dX11_copy_156 ?_
      refine x_aload_n 1 dX11_copy_157 rfl rfl ?_
      refine x_getR fX11_19 dX11_copy_158 l83 rfl ?_
      refine x_iload 0 dX11_copy_161 rfl ?_
      refine y_iald dX11_copy_163 l87 (by omega) (by decide) ((rwS_k (by decide)).trans (rwS_at0 (by omega))) ?_
      refine y_iast dX11_copy_164 l86 (by omega) (by decide) ?_
      refine y_iinc (lv' := [(6, _), (0, _), (1, _), (2, _), (3, _), (4, _), (5, _)]) 0 dX11_copy_165 rfl (by decide) rfl ?_
      refine x_goto 136 dX11_copy_168 (by decide) ?_
      refine x_pick (lv' := [(6, _), (0, _), (1, _), (2, _), (3, _), (4, _), (5, _)]) [0, 1, 2, 3, 4, 5, 6] rfl ?_
      rw [rwS_s]
      exact ih (g - (k + 1)) (by omega) (k + 1) rfl (by omega)

set_option maxHeartbeats 4000000 in
set_option maxRecDepth 100000 in
theorem lp_copy1 {S : St} {a b e f g : Nat} (ha : a < 6) (hb : b < 6) (he : e + g ≤ 60) (hf : f + g ≤ 60)  : ∀ (k : Nat), (k ≤ g) → X 2 60 mX11_copy (pu (.int 1) (cpM S a e b f g)) 104 [(6, .int (nI k)), (0, .ref 83), (1, .int (nI a)), (2, .int (nI e)), (3, .int (nI b)), (4, .int (nI f)), (5, .int (nI g))] [] (rwS S 87 0 k (fun k => S.1 86 (60 * a + (e + k)))) := by
  intro k
  induction hm : g - k using Nat.strongRecOn generalizing k with
  | _ mm ih =>
    intro hk
    refine x_iload 0 dX11_copy_104 rfl ?_
    refine x_iload 6 dX11_copy_106 rfl ?_
    refine y_ic_ge 133 dX11_copy_108 (by decide) (by omega) (by omega) (fun c_108 => ?_) (fun c_108 => ?_)
    · refine x_iconst (v := nI 0) dX11_copy_133 (by decide) ?_
      refine x_istore (lv' := [(6, _), (0, _), (1, _), (2, _), (3, _), (4, _), (5, _)]) dX11_copy_134 (by decide) rfl ?_
      refine x_pick (lv' := [(6, _), (0, _), (1, _), (2, _), (3, _), (4, _), (5, _)]) [0, 1, 2, 3, 4, 5, 6] rfl ?_
      obtain rfl : k = g := (by omega)
      have hh := lp_copy2 (S := S) ha hb he hf 0 (Nat.zero_le _)
      rw [rwS_0] at hh
      exact hh
    · refine x_aload_n 1 dX11_copy_111 rfl rfl ?_
      refine x_getR fX11_19 dX11_copy_112 l83 rfl ?_
      refine x_iload 0 dX11_copy_115 rfl ?_
      refine x_aload_n 1 dX11_copy_117 rfl rfl ?_
      refine x_iload_n 2 dX11_copy_118 rfl rfl ?_
      refine x_iload_n 3 dX11_copy_119 rfl rfl ?_
      refine x_iload 0 dX11_copy_120 rfl ?_
      refine y_iadd dX11_copy_122 ?_
      refine x_callVu (as := [_, _]) (rest := [_, _]) vX11_116 (c_rowAtM ha (by omega) (rwS_k (by decide))) dX11_copy_123 l83 rfl rfl rfl (Nat.le_of_ble_eq_true rfl) (Nat.le_of_ble_eq_true rfl) (Nat.le_of_ble_eq_true rfl) ?_
      refine y_iast dX11_copy_126 l87 (by omega) (by decide) ?_
      refine y_iinc (lv' := [(6, _), (0, _), (1, _), (2, _), (3, _), (4, _), (5, _)]) 0 dX11_copy_127 rfl (by decide) rfl ?_
      refine x_goto 104 dX11_copy_130 (by decide) ?_
      refine x_pick (lv' := [(6, _), (0, _), (1, _), (2, _), (3, _), (4, _), (5, _)]) [0, 1, 2, 3, 4, 5, 6] rfl ?_
      have hs := rwS_s S 87 0 k (fun k => S.1 86 (60 * a + (e + k)))
      rw [Nat.zero_add] at hs
      rw [hs]
      exact ih (g - (k + 1)) (by omega) (k + 1) rfl (by omega)

set_option maxHeartbeats 4000000 in
set_option maxRecDepth 100000 in
theorem c_X11_copy {S : St} (hS : RwM S) {x1 x2 x3 x4 x5 : Int32} : C 2 60 yX11_copy mX11_copy [.ref 83, .int x1, .int x2, .int x3, .int x4, .int x5] S (pu (.int (i5 (¬ ((0 ≤ x1.toInt ∧ x1.toInt < 6) ∧ 0 ≤ x3.toInt ∧ x3.toInt < 6)) (x5.toInt < 0) ((S.1 85 (tn x1)).toInt < 0 ∨ (S.1 85 (tn x3)).toInt < 0) (¬ (0 ≤ x2.toInt ∧ 0 ≤ x4.toInt ∧ x2.toInt + x5.toInt ≤ (S.1 85 (tn x1)).toInt ∧ x4.toInt + x5.toInt ≤ (S.1 85 (tn x3)).toInt)) (-1) (-3) (-3) (-3) 1)) (i5 (¬ ((0 ≤ x1.toInt ∧ x1.toInt < 6) ∧ 0 ≤ x3.toInt ∧ x3.toInt < 6)) (x5.toInt < 0) ((S.1 85 (tn x1)).toInt < 0 ∨ (S.1 85 (tn x3)).toInt < 0) (¬ (0 ≤ x2.toInt ∧ 0 ≤ x4.toInt ∧ x2.toInt + x5.toInt ≤ (S.1 85 (tn x1)).toInt ∧ x4.toInt + x5.toInt ≤ (S.1 85 (tn x3)).toInt)) S (fndM S 5) (fndM S 1) (fndM S 2) (cpM S (tn x1) (tn x2) (tn x3) (tn x4) (tn x5)))) := by
  refine C.ofX (by decide) rfl (Nat.le_of_ble_eq_true rfl) ?_
  show X 2 60 mX11_copy (pu (.int (i5 (¬ ((0 ≤ x1.toInt ∧ x1.toInt < 6) ∧ 0 ≤ x3.toInt ∧ x3.toInt < 6)) (x5.toInt < 0) ((S.1 85 (tn x1)).toInt < 0 ∨ (S.1 85 (tn x3)).toInt < 0) (¬ (0 ≤ x2.toInt ∧ 0 ≤ x4.toInt ∧ x2.toInt + x5.toInt ≤ (S.1 85 (tn x1)).toInt ∧ x4.toInt + x5.toInt ≤ (S.1 85 (tn x3)).toInt)) (-1) (-3) (-3) (-3) 1)) (i5 (¬ ((0 ≤ x1.toInt ∧ x1.toInt < 6) ∧ 0 ≤ x3.toInt ∧ x3.toInt < 6)) (x5.toInt < 0) ((S.1 85 (tn x1)).toInt < 0 ∨ (S.1 85 (tn x3)).toInt < 0) (¬ (0 ≤ x2.toInt ∧ 0 ≤ x4.toInt ∧ x2.toInt + x5.toInt ≤ (S.1 85 (tn x1)).toInt ∧ x4.toInt + x5.toInt ≤ (S.1 85 (tn x3)).toInt)) S (fndM S 5) (fndM S 1) (fndM S 2) (cpM S (tn x1) (tn x2) (tn x3) (tn x4) (tn x5)))) 0 [(0, .ref 83), (1, .int x1), (2, .int x2), (3, .int x3), (4, .int x4), (5, .int x5)] [] S
  refine x_iload_n 1 dX11_copy_0 rfl rfl ?_
  refine x_callSb (as := [_]) (rest := []) sX11_108 c_X11_isRow dX11_copy_1 rfl rfl (Nat.le_of_ble_eq_true rfl) (Nat.le_of_ble_eq_true rfl) (Nat.le_of_ble_eq_true rfl) (fun c_1 => ?_) (fun c_1 => ?_)
  · refine u_if_eq 14 dX11_copy_4 (by decide) (by decide) ?_
    refine x_iload_n 3 dX11_copy_7 rfl rfl ?_
    refine x_callSb (as := [_]) (rest := []) sX11_108 c_X11_isRow dX11_copy_8 rfl rfl (Nat.le_of_ble_eq_true rfl) (Nat.le_of_ble_eq_true rfl) (Nat.le_of_ble_eq_true rfl) (fun c_8 => ?_) (fun c_8 => ?_)
    · refine t_if_ne 16 dX11_copy_11 (by decide) (by decide) ?_
      obtain ⟨a, ha, rfl⟩ := nI_ex (x := x1) (n := 6) (by omega) (by omega)
      have ea : (nI a).toInt = (a : Int) := tiN (by omega)
      have ta : tn (nI a) = a := tnN (by omega)
      obtain ⟨b, hb, rfl⟩ := nI_ex (x := x3) (n := 6) (by omega) (by omega)
      have eb : (nI b).toInt = (b : Int) := tiN (by omega)
      have tb : tn (nI b) = b := tnN (by omega)
      refine x_iload 5 dX11_copy_16 rfl ?_
      refine x_if_ge 27 dX11_copy_18 (by decide) (fun c_18 => ?_) (fun c_18 => ?_)
      · refine x_aload_n 0 dX11_copy_27 rfl rfl ?_
        refine x_getR fX11_13 dX11_copy_28 l83 rfl ?_
        refine x_iload_n 1 dX11_copy_31 rfl rfl ?_
        refine y_iald dX11_copy_32 l85 (by omega) (by decide) rfl ?_
        refine x_if_lt 45 dX11_copy_33 (by decide) (fun c_33 => ?_) (fun c_33 => ?_)
        · refine x_aload_n 0 dX11_copy_45 rfl rfl ?_
          refine x_iconst (v := nI 1) dX11_copy_46 (by decide) ?_
          refine x_callVu (as := [_]) (rest := []) vX11_112 (c_X11_meets (by decide)) dX11_copy_47 l83 rfl rfl rfl (Nat.le_of_ble_eq_true rfl) (Nat.le_of_ble_eq_true rfl) (Nat.le_of_ble_eq_true rfl) ?_
          refine x_iret rfl dX11_copy_50 (by simp only [ta, tb]; exact p5_2 (by omega) (by omega) (by omega))
        · refine x_aload_n 0 dX11_copy_36 rfl rfl ?_
          refine x_getR fX11_13 dX11_copy_37 l83 rfl ?_
          refine x_iload_n 3 dX11_copy_40 rfl rfl ?_
          refine y_iald dX11_copy_41 l85 (by omega) (by decide) rfl ?_
          refine x_if_ge 51 dX11_copy_42 (by decide) (fun c_42 => ?_) (fun c_42 => ?_)
          · obtain ⟨z, hz, ez⟩ := hS.r ha (by omega)
            have ezi : (nI z).toInt = (z : Int) := tiN (by omega)
            obtain ⟨y, hy, ey⟩ := hS.r hb (by omega)
            have eyi : (nI y).toInt = (y : Int) := tiN (by omega)
            have g1 := cmp_gt (x2.toInt64 + x5.toInt64) (nI z).toInt64
            have g2 := cmp_gt (x4.toInt64 + x5.toInt64) (nI y).toInt64
            rw [add64, Int32.toInt_toInt64] at g1 g2
            refine x_iload_n 2 dX11_copy_51 rfl rfl ?_
            refine x_if_lt 95 dX11_copy_52 (by decide) (fun c_52 => ?_) (fun c_52 => ?_)
            · refine x_aload_n 0 dX11_copy_95 rfl rfl ?_
              refine x_iconst (v := nI 2) dX11_copy_96 (by decide) ?_
              refine x_callVu (as := [_]) (rest := []) vX11_112 (c_X11_meets (by decide)) dX11_copy_97 l83 rfl rfl rfl (Nat.le_of_ble_eq_true rfl) (Nat.le_of_ble_eq_true rfl) (Nat.le_of_ble_eq_true rfl) ?_
              refine x_iret rfl dX11_copy_100 (by simp only [ta, tb, ez, ey]; exact p5_3 (by omega) (by omega) (by omega) (by omega))
            · refine x_iload 4 dX11_copy_55 rfl ?_
              refine x_if_lt 95 dX11_copy_57 (by decide) (fun c_57 => ?_) (fun c_57 => ?_)
              · refine x_aload_n 0 dX11_copy_95 rfl rfl ?_
                refine x_iconst (v := nI 2) dX11_copy_96 (by decide) ?_
                refine x_callVu (as := [_]) (rest := []) vX11_112 (c_X11_meets (by decide)) dX11_copy_97 l83 rfl rfl rfl (Nat.le_of_ble_eq_true rfl) (Nat.le_of_ble_eq_true rfl) (Nat.le_of_ble_eq_true rfl) ?_
                refine x_iret rfl dX11_copy_100 (by simp only [ta, tb, ez, ey]; exact p5_3 (by omega) (by omega) (by omega) (by omega))
              · refine x_iload_n 2 dX11_copy_60 rfl rfl ?_
                refine x_i2l dX11_copy_61 ?_
                refine x_iload 5 dX11_copy_62 rfl ?_
                refine x_i2l dX11_copy_64 ?_
                refine x_ladd dX11_copy_65 ?_
                refine x_aload_n 0 dX11_copy_66 rfl rfl ?_
                refine x_getR fX11_13 dX11_copy_67 l83 rfl ?_
                refine x_iload_n 1 dX11_copy_70 rfl rfl ?_
                refine y_iald dX11_copy_71 l85 (by omega) (by decide) ez ?_
                refine x_i2l dX11_copy_72 ?_
                refine x_lcmp dX11_copy_73 ?_
                refine x_if_gt 95 dX11_copy_74 (by decide) (fun c_74 => ?_) (fun c_74 => ?_)
                · refine x_aload_n 0 dX11_copy_95 rfl rfl ?_
                  refine x_iconst (v := nI 2) dX11_copy_96 (by decide) ?_
                  refine x_callVu (as := [_]) (rest := []) vX11_112 (c_X11_meets (by decide)) dX11_copy_97 l83 rfl rfl rfl (Nat.le_of_ble_eq_true rfl) (Nat.le_of_ble_eq_true rfl) (Nat.le_of_ble_eq_true rfl) ?_
                  refine x_iret rfl dX11_copy_100 (by simp only [ta, tb, ez, ey]; exact p5_3 (by omega) (by omega) (by omega) (by omega))
                · refine x_iload 4 dX11_copy_77 rfl ?_
                  refine x_i2l dX11_copy_79 ?_
                  refine x_iload 5 dX11_copy_80 rfl ?_
                  refine x_i2l dX11_copy_82 ?_
                  refine x_ladd dX11_copy_83 ?_
                  refine x_aload_n 0 dX11_copy_84 rfl rfl ?_
                  refine x_getR fX11_13 dX11_copy_85 l83 rfl ?_
                  refine x_iload_n 3 dX11_copy_88 rfl rfl ?_
                  refine y_iald dX11_copy_89 l85 (by omega) (by decide) ey ?_
                  refine x_i2l dX11_copy_90 ?_
                  refine x_lcmp dX11_copy_91 ?_
                  refine x_if_le 101 dX11_copy_92 (by decide) (fun c_92 => ?_) (fun c_92 => ?_)
                  · obtain ⟨e, he, rfl⟩ := nI_ex (x := x2) (n := z + 1) (by omega) (by omega)
                    have ee : (nI e).toInt = (e : Int) := tiN (by omega)
                    have te : tn (nI e) = e := tnN (by omega)
                    obtain ⟨f, hf, rfl⟩ := nI_ex (x := x4) (n := y + 1) (by omega) (by omega)
                    have ef : (nI f).toInt = (f : Int) := tiN (by omega)
                    have tf : tn (nI f) = f := tnN (by omega)
                    obtain ⟨g, hg, rfl⟩ := nI_ex (x := x5) (n := 61) (by omega) (by omega)
                    have eg : (nI g).toInt = (g : Int) := tiN (by omega)
                    have tg : tn (nI g) = g := tnN (by omega)
                    refine x_iconst (v := nI 0) dX11_copy_101 (by decide) ?_
                    refine x_istore (lv' := [(6, _), (0, _), (1, _), (2, _), (3, _), (4, _), (5, _)]) dX11_copy_102 (by decide) rfl ?_
                    refine x_pick (lv' := [(6, _), (0, _), (1, _), (2, _), (3, _), (4, _), (5, _)]) [0, 1, 2, 3, 4, 5, 6] rfl ?_
                    have hh := lp_copy1 (S := S) ha hb (e := e) (f := f) (g := g) (by omega) (by omega) 0 (Nat.zero_le _)
                    rw [rwS_0] at hh
                    refine hh.mono (fun v S' hq => ?_)
                    obtain ⟨rfl, rfl⟩ := hq
                    exact (by simp only [ta, tb, ez, ey, te, tf, tg]; exact p5_4 (by omega) (by omega) (by omega) (by omega))
                  · refine x_aload_n 0 dX11_copy_95 rfl rfl ?_
                    refine x_iconst (v := nI 2) dX11_copy_96 (by decide) ?_
                    refine x_callVu (as := [_]) (rest := []) vX11_112 (c_X11_meets (by decide)) dX11_copy_97 l83 rfl rfl rfl (Nat.le_of_ble_eq_true rfl) (Nat.le_of_ble_eq_true rfl) (Nat.le_of_ble_eq_true rfl) ?_
                    refine x_iret rfl dX11_copy_100 (by simp only [ta, tb, ez, ey]; exact p5_3 (by omega) (by omega) (by omega) (by omega))
          · refine x_aload_n 0 dX11_copy_45 rfl rfl ?_
            refine x_iconst (v := nI 1) dX11_copy_46 (by decide) ?_
            refine x_callVu (as := [_]) (rest := []) vX11_112 (c_X11_meets (by decide)) dX11_copy_47 l83 rfl rfl rfl (Nat.le_of_ble_eq_true rfl) (Nat.le_of_ble_eq_true rfl) (Nat.le_of_ble_eq_true rfl) ?_
            refine x_iret rfl dX11_copy_50 (by simp only [ta, tb]; exact p5_2 (by omega) (by omega) (by omega))
      · refine x_aload_n 0 dX11_copy_21 rfl rfl ?_
        refine x_iconst (v := nI 5) dX11_copy_22 (by decide) ?_
        refine x_callVu (as := [_]) (rest := []) vX11_112 (c_X11_meets (by decide)) dX11_copy_23 l83 rfl rfl rfl (Nat.le_of_ble_eq_true rfl) (Nat.le_of_ble_eq_true rfl) (Nat.le_of_ble_eq_true rfl) ?_
        refine x_iret rfl dX11_copy_26 (by simp only [ta, tb]; exact p5_1 (by omega) (by omega))
    · refine u_if_ne 16 dX11_copy_11 (by decide) (by decide) ?_
      refine x_iconst (v := -1) dX11_copy_14 (by decide) ?_
      refine x_iret rfl dX11_copy_15 (p5_0 (by omega))
  · refine t_if_eq 14 dX11_copy_4 (by decide) (by decide) ?_
    refine x_iconst (v := -1) dX11_copy_14 (by decide) ?_
    refine x_iret rfl dX11_copy_15 (p5_0 (by omega))

/-- an image is laid: the class's store, row a -/
def imX (S : St) (I : Isl) (w : Nat → Nat) (L a : Nat) : St := setI (rwS (fillA (setI S 4 a (nI (iM I + 1))) 5 (a * 60) (a * 60 + (iM I + 1)) (nI 0)) 5 (a * 60) (iM I) (fun t => nI (w t))) 5 (a * 60 + iM I) (nI L)
def imM (S : St) (I : Isl) (w : Nat → Nat) (L a : Nat) : St := rwS (setI S 85 a (nI (iM I + 1))) 86 (60 * a) 60 (fun t => if t < iM I then nI (w t) else if t = iM I then nI L else nI 0)

set_option maxHeartbeats 4000000 in
set_option maxRecDepth 100000 in
theorem lp_imX {S : St} {I : Isl} (hI : IsX 11 I S) (hO : IOK I) {w : Nat → Nat} (hP : PlT 35 I w S) {L : Nat} (hL : S.1 35 5 = nI L) (hL7 : L ≤ 6) (hv : VS I w L) (hS : RwS 3 6 60 S) {a : Nat} (ha : a < 6)  : ∀ (k : Nat), (k ≤ iM I) → X 3 90 mX10_image (pu (.int (nI (iM I + 1))) (imX S I w L a)) 33 [(2, .int (nI k)), (0, .ref 0), (1, .int (nI a))] [] (rwS (fillA (setI S 4 a (nI (iM I + 1))) 5 (a * 60) (a * 60 + (iM I + 1)) (nI 0)) 5 (a * 60) k (fun t => nI (w t))) := by
  intro k
  induction hm : iM I - k using Nat.strongRecOn generalizing k with
  | _ mm ih =>
    intro hk
    have hO1 := hO.1
    have hO2 := hO.2.1
    have hO3 := hO.2.2.1
    have hO4 := hO.2.2.2.1
    have hw := hv.ok hO
    have hw7 := hw.w7 hO
    refine x_iload_n 0 dX10_image_33 rfl rfl ?_
    refine x_aload_n 1 dX10_image_34 rfl rfl ?_
    refine x_getR fX10_40 dX10_image_35 l0 rfl ?_
    refine y_getI fX10_173 dX10_image_38 l11 rfl (((rwS_k (by decide)).trans ((fillA_k (by decide)).trans (rdI_k (by decide)))).trans hI.2.1) ?_
    refine y_ic_ge 68 dX10_image_41 (by decide) (by omega) (by omega) (fun c_41 => ?_) (fun c_41 => ?_)
    · refine x_aload_n 1 dX10_image_68 rfl rfl ?_
      refine x_getR fX10_21 dX10_image_69 l0 rfl ?_
      refine x_iload_n 2 dX10_image_72 rfl rfl ?_
      refine x_aload_n 1 dX10_image_73 rfl rfl ?_
      refine x_getR fX10_40 dX10_image_74 l0 rfl ?_
      refine y_getI fX10_173 dX10_image_77 l11 rfl (((rwS_k (by decide)).trans ((fillA_k (by decide)).trans (rdI_k (by decide)))).trans hI.2.1) ?_
      refine x_aload_n 1 dX10_image_80 rfl rfl ?_
      refine x_getR fX10_49 dX10_image_81 l0 rfl ?_
      refine y_getI fX10_231 dX10_image_84 l35 rfl (((rwS_k (by decide)).trans ((fillA_k (by decide)).trans (rdI_k (by decide)))).trans hL) ?_
      refine x_callVv (as := [_, _, _]) (rest := []) vX10_128 (c_X5_set isR (((rwS_k (by decide)).trans ((fillA_k (by decide)).trans (rdI_k (by decide)))).trans hS.1) ha ((rwS_k (by decide)).trans ((fillA_k (by decide)).trans rdI_eq)) (by omega) (by omega)) dX10_image_87 l3 rfl rfl rfl (Nat.le_of_ble_eq_true rfl) (Nat.le_of_ble_eq_true rfl) (Nat.le_of_ble_eq_true rfl) ?_
      refine x_aload_n 1 dX10_image_90 rfl rfl ?_
      refine x_getR fX10_40 dX10_image_91 l0 rfl ?_
      refine y_getI fX10_173 dX10_image_94 l11 rfl ((rdI_k (by decide)).trans (((rwS_k (by decide)).trans ((fillA_k (by decide)).trans (rdI_k (by decide)))).trans hI.2.1)) ?_
      refine x_iconst (v := nI 1) dX10_image_97 (by decide) ?_
      refine y_iadd dX10_image_98 ?_
      refine x_iret rfl dX10_image_99 (by obtain rfl : k = iM I := (by omega); exact ⟨rfl, rfl⟩)
    · refine x_aload_n 1 dX10_image_44 rfl rfl ?_
      refine x_getR fX10_21 dX10_image_45 l0 rfl ?_
      refine x_iload_n 2 dX10_image_48 rfl rfl ?_
      refine x_iload_n 0 dX10_image_49 rfl rfl ?_
      refine x_aload_n 1 dX10_image_50 rfl rfl ?_
      refine x_getR fX10_49 dX10_image_51 l0 rfl ?_
      refine x_getR fX10_185 dX10_image_54 l35 rfl ?_
      refine x_iload_n 0 dX10_image_57 rfl rfl ?_
      refine y_iald dX10_image_58 l36 (by omega) (by decide) (((rwS_k (by decide)).trans ((fillA_k (by decide)).trans (rdI_k (by decide)))).trans (hP.1 k (by omega))) ?_
      refine x_callVv (as := [_, _, _]) (rest := []) vX10_128 (c_X5_set isR (((rwS_k (by decide)).trans ((fillA_k (by decide)).trans (rdI_k (by decide)))).trans hS.1) ha ((rwS_k (by decide)).trans ((fillA_k (by decide)).trans rdI_eq)) (by omega) (by omega)) dX10_image_59 l3 rfl rfl rfl (Nat.le_of_ble_eq_true rfl) (Nat.le_of_ble_eq_true rfl) (Nat.le_of_ble_eq_true rfl) ?_
      refine y_iinc (lv' := [(2, _), (0, _), (1, _)]) 0 dX10_image_62 rfl (by decide) rfl ?_
      refine x_goto 33 dX10_image_65 (by decide) ?_
      refine x_pick (lv' := [(2, _), (0, _), (1, _)]) [0, 1, 2] rfl ?_
      rw [rwS_s]
      exact ih (iM I - (k + 1)) (by omega) (k + 1) rfl (by omega)

set_option maxHeartbeats 4000000 in
set_option maxRecDepth 100000 in
theorem c_X10_image {S : St} {I : Isl} (hI : IsX 11 I S) (hO : IOK I) {w : Nat → Nat} (hP : PlT 35 I w S) {L : Nat} (hL : S.1 35 5 = nI L) (hL7 : L ≤ 6) (hv : VS I w L) (hS : RwS 3 6 60 S) {x : Int32} : C 3 90 yX10_image mX10_image [.ref 0, .int x] S (pu (.int (i2 (¬ (0 ≤ x.toInt ∧ x.toInt < 6)) (-1) (nI (iM I + 1)))) (i2 (¬ (0 ≤ x.toInt ∧ x.toInt < 6)) S (imX S I w L (tn x)))) := by
  have hO1 := hO.1
  have hO2 := hO.2.1
  have hO3 := hO.2.2.1
  have hO4 := hO.2.2.2.1
  have hw := hv.ok hO
  have hw7 := hw.w7 hO
  refine C.ofX (by decide) rfl (Nat.le_of_ble_eq_true rfl) ?_
  show X 3 90 mX10_image (pu (.int (i2 (¬ (0 ≤ x.toInt ∧ x.toInt < 6)) (-1) (nI (iM I + 1)))) (i2 (¬ (0 ≤ x.toInt ∧ x.toInt < 6)) S (imX S I w L (tn x)))) 0 [(0, .ref 0), (1, .int x)] [] S
  refine x_aload_n 0 dX10_image_0 rfl rfl ?_
  refine x_getR fX10_21 dX10_image_1 l0 rfl ?_
  refine x_iload_n 1 dX10_image_4 rfl rfl ?_
  refine x_callVb (as := [_]) (rest := []) vX10_105 (c_X5_isOne isR) dX10_image_5 l3 rfl rfl rfl (Nat.le_of_ble_eq_true rfl) (Nat.le_of_ble_eq_true rfl) (Nat.le_of_ble_eq_true rfl) (fun c_5 => ?_) (fun c_5 => ?_)
  · refine t_if_ne 13 dX10_image_8 (by decide) (by decide) ?_
    obtain ⟨a, ha, rfl⟩ := nI_ex (x := x) (n := 6) (by omega) (by omega)
    have ea : (nI a).toInt = (a : Int) := tiN (by omega)
    have ta : tn (nI a) = a := tnN (by omega)
    refine x_aload_n 0 dX10_image_13 rfl rfl ?_
    refine x_getR fX10_21 dX10_image_14 l0 rfl ?_
    refine x_iload_n 1 dX10_image_17 rfl rfl ?_
    refine x_aload_n 0 dX10_image_18 rfl rfl ?_
    refine x_getR fX10_40 dX10_image_19 l0 rfl ?_
    refine y_getI fX10_173 dX10_image_22 l11 rfl hI.2.1 ?_
    refine x_iconst (v := nI 1) dX10_image_25 (by decide) ?_
    refine y_iadd dX10_image_26 ?_
    refine x_iconst (v := nI 0) dX10_image_27 (by decide) ?_
    refine x_callVv (as := [_, _, _]) (rest := []) vX10_113 (c_X5_make isR hS.1 ha (by omega)) dX10_image_28 l3 rfl rfl rfl (Nat.le_of_ble_eq_true rfl) (Nat.le_of_ble_eq_true rfl) (Nat.le_of_ble_eq_true rfl) ?_
    refine x_iconst (v := nI 0) dX10_image_31 (by decide) ?_
    refine x_istore_n (lv' := [(2, _), (0, _), (1, _)]) dX10_image_32 rfl (by decide) rfl ?_
    refine x_pick (lv' := [(2, _), (0, _), (1, _)]) [0, 1, 2] rfl ?_
    have hh := lp_imX hI hO hP hL hL7 hv hS ha 0 (Nat.zero_le _)
    rw [rwS_0] at hh
    refine hh.mono (fun v S' hq => ?_)
    obtain ⟨rfl, rfl⟩ := hq
    simp only [ta]
    exact p2_1 (by omega)
  · refine u_if_ne 13 dX10_image_8 (by decide) (by decide) ?_
    refine x_iconst (v := -1) dX10_image_11 (by decide) ?_
    refine x_iret rfl dX10_image_12 (p2_0 (by omega))

set_option maxHeartbeats 4000000 in
set_option maxRecDepth 100000 in
theorem lp_imM {S : St} {I : Isl} (hI : IsM I S) (hO : IOK I) {w : Nat → Nat} (hw0 : ∀ t, t < iM I → S.1 93 t = nI (w t)) {L : Nat} (hL : S.1 83 17 = nI L) (hL7 : L ≤ 6) (hv : VS I w L) {a : Nat} (ha : a < 6)  : ∀ (k : Nat), (k ≤ 60) → X 2 60 mX11_image (pu (.int (nI (iM I + 1))) (imM S I w L a)) 23 [(2, .int (nI k)), (0, .ref 83), (1, .int (nI a))] [] (rwS (setI S 85 a (nI (iM I + 1))) 86 (60 * a) k (fun t => if t < iM I then nI (w t) else if t = iM I then nI L else nI 0)) := by
  intro k
  induction hm : 60 - k using Nat.strongRecOn generalizing k with
  | _ mm ih =>
    intro hk
    have hO1 := hO.1
    have hO2 := hO.2.1
    have hO3 := hO.2.2.1
    have hO4 := hO.2.2.2.1
    have hw := hv.ok hO
    have hw7 := hw.w7 hO
    refine x_iload_n 0 dX11_image_23 rfl rfl ?_
    refine x_bipush (v := nI 60) dX11_image_24 (by decide) ?_
    refine y_ic_ge 79 dX11_image_26 (by decide) (by omega) (by omega) (fun c_26 => ?_) (fun c_26 => ?_)
    · refine x_aload_n 1 dX11_image_79 rfl rfl ?_
      refine y_getI fX11_181 dX11_image_80 l83 rfl (((rwS_k (by decide)).trans (rdI_k (by decide))).trans hI.2.1) ?_
      refine x_iconst (v := nI 1) dX11_image_83 (by decide) ?_
      refine y_iadd dX11_image_84 ?_
      refine x_iret rfl dX11_image_85 (by obtain rfl : k = 60 := (by omega); exact ⟨rfl, rfl⟩)
    · refine x_aload_n 1 dX11_image_29 rfl rfl ?_
      refine x_getR fX11_16 dX11_image_30 l83 rfl ?_
      refine x_bipush (v := nI 60) dX11_image_33 (by decide) ?_
      refine x_iload_n 2 dX11_image_35 rfl rfl ?_
      refine y_imul dX11_image_36 ?_
      refine x_iload_n 0 dX11_image_37 rfl rfl ?_
      refine y_iadd dX11_image_38 ?_
      refine x_iload_n 0 dX11_image_39 rfl rfl ?_
      refine x_aload_n 1 dX11_image_40 rfl rfl ?_
      refine y_getI fX11_181 dX11_image_41 l83 rfl (((rwS_k (by decide)).trans (rdI_k (by decide))).trans hI.2.1) ?_
      refine y_ic_ge 56 dX11_image_44 (by decide) (by omega) (by omega) (fun c_44 => ?_) (fun c_44 => ?_)
      · refine x_iload_n 0 dX11_image_56 rfl rfl ?_
        refine x_aload_n 1 dX11_image_57 rfl rfl ?_
        refine y_getI fX11_181 dX11_image_58 l83 rfl (((rwS_k (by decide)).trans (rdI_k (by decide))).trans hI.2.1) ?_
        refine y_ic_ne 71 dX11_image_61 (by decide) (by omega) (by omega) (fun c_61 => ?_) (fun c_61 => ?_)
        · refine x_iconst (v := nI 0) dX11_image_71 (by decide) ?_
          rw [show (Value.int (nI 0)) = Value.int ((fun t => if t < iM I then nI (w t) else if t = iM I then nI L else nI 0) k) from by first | exact congrArg Value.int (if_pos (by omega)).symm | exact congrArg Value.int ((if_neg (by omega)).trans (if_pos (by omega))).symm | exact congrArg Value.int ((if_neg (by omega)).trans (if_neg (by omega))).symm]
          refine y_iast dX11_image_72 l86 (by omega) (by decide) ?_
          refine y_iinc (lv' := [(2, _), (0, _), (1, _)]) 0 dX11_image_73 rfl (by decide) rfl ?_
          refine x_goto 23 dX11_image_76 (by decide) ?_
          refine x_pick (lv' := [(2, _), (0, _), (1, _)]) [0, 1, 2] rfl ?_
          refine x_cast (rwS_s (setI S 85 a (nI (iM I + 1))) 86 (60 * a) k (fun t => if t < iM I then nI (w t) else if t = iM I then nI L else nI 0)) ?_
          exact ih (60 - (k + 1)) (by omega) (k + 1) rfl (by omega)
        · refine x_aload_n 1 dX11_image_64 rfl rfl ?_
          refine y_getI fX11_91 dX11_image_65 l83 rfl (((rwS_k (by decide)).trans (rdI_k (by decide))).trans hL) ?_
          refine x_goto 72 dX11_image_68 (by decide) ?_
          rw [show (Value.int (nI L)) = Value.int ((fun t => if t < iM I then nI (w t) else if t = iM I then nI L else nI 0) k) from by first | exact congrArg Value.int (if_pos (by omega)).symm | exact congrArg Value.int ((if_neg (by omega)).trans (if_pos (by omega))).symm | exact congrArg Value.int ((if_neg (by omega)).trans (if_neg (by omega))).symm]
          refine y_iast dX11_image_72 l86 (by omega) (by decide) ?_
          refine y_iinc (lv' := [(2, _), (0, _), (1, _)]) 0 dX11_image_73 rfl (by decide) rfl ?_
          refine x_goto 23 dX11_image_76 (by decide) ?_
          refine x_pick (lv' := [(2, _), (0, _), (1, _)]) [0, 1, 2] rfl ?_
          refine x_cast (rwS_s (setI S 85 a (nI (iM I + 1))) 86 (60 * a) k (fun t => if t < iM I then nI (w t) else if t = iM I then nI L else nI 0)) ?_
          exact ih (60 - (k + 1)) (by omega) (k + 1) rfl (by omega)
      · refine x_aload_n 1 dX11_image_47 rfl rfl ?_
        refine x_getR fX11_38 dX11_image_48 l83 rfl ?_
        refine x_iload_n 0 dX11_image_51 rfl rfl ?_
        refine y_iald dX11_image_52 l93 (by omega) (by decide) (((rwS_k (by decide)).trans (rdI_k (by decide))).trans (hw0 k (by omega))) ?_
        refine x_goto 72 dX11_image_53 (by decide) ?_
        rw [show (Value.int (nI (w k))) = Value.int ((fun t => if t < iM I then nI (w t) else if t = iM I then nI L else nI 0) k) from by first | exact congrArg Value.int (if_pos (by omega)).symm | exact congrArg Value.int ((if_neg (by omega)).trans (if_pos (by omega))).symm | exact congrArg Value.int ((if_neg (by omega)).trans (if_neg (by omega))).symm]
        refine y_iast dX11_image_72 l86 (by omega) (by decide) ?_
        refine y_iinc (lv' := [(2, _), (0, _), (1, _)]) 0 dX11_image_73 rfl (by decide) rfl ?_
        refine x_goto 23 dX11_image_76 (by decide) ?_
        refine x_pick (lv' := [(2, _), (0, _), (1, _)]) [0, 1, 2] rfl ?_
        refine x_cast (rwS_s (setI S 85 a (nI (iM I + 1))) 86 (60 * a) k (fun t => if t < iM I then nI (w t) else if t = iM I then nI L else nI 0)) ?_
        exact ih (60 - (k + 1)) (by omega) (k + 1) rfl (by omega)

set_option maxHeartbeats 4000000 in
set_option maxRecDepth 100000 in
theorem c_X11_image {S : St} {I : Isl} (hI : IsM I S) (hO : IOK I) {w : Nat → Nat} (hw0 : ∀ t, t < iM I → S.1 93 t = nI (w t)) {L : Nat} (hL : S.1 83 17 = nI L) (hL7 : L ≤ 6) (hv : VS I w L) {x : Int32} : C 2 60 yX11_image mX11_image [.ref 83, .int x] S (pu (.int (i2 (¬ (0 ≤ x.toInt ∧ x.toInt < 6)) (-1) (nI (iM I + 1)))) (i2 (¬ (0 ≤ x.toInt ∧ x.toInt < 6)) S (imM S I w L (tn x)))) := by
  have hO1 := hO.1
  have hO2 := hO.2.1
  have hO3 := hO.2.2.1
  have hO4 := hO.2.2.2.1
  have hw := hv.ok hO
  have hw7 := hw.w7 hO
  refine C.ofX (by decide) rfl (Nat.le_of_ble_eq_true rfl) ?_
  show X 2 60 mX11_image (pu (.int (i2 (¬ (0 ≤ x.toInt ∧ x.toInt < 6)) (-1) (nI (iM I + 1)))) (i2 (¬ (0 ≤ x.toInt ∧ x.toInt < 6)) S (imM S I w L (tn x)))) 0 [(0, .ref 83), (1, .int x)] [] S
  refine x_iload_n 1 dX11_image_0 rfl rfl ?_
  refine x_callSb (as := [_]) (rest := []) sX11_108 c_X11_isRow dX11_image_1 rfl rfl (Nat.le_of_ble_eq_true rfl) (Nat.le_of_ble_eq_true rfl) (Nat.le_of_ble_eq_true rfl) (fun c_1 => ?_) (fun c_1 => ?_)
  · refine t_if_ne 9 dX11_image_4 (by decide) (by decide) ?_
    obtain ⟨a, ha, rfl⟩ := nI_ex (x := x) (n := 6) (by omega) (by omega)
    have ea : (nI a).toInt = (a : Int) := tiN (by omega)
    have ta : tn (nI a) = a := tnN (by omega)
    refine x_aload_n 0 dX11_image_9 rfl rfl ?_
    refine x_getR fX11_13 dX11_image_10 l83 rfl ?_
    refine x_iload_n 1 dX11_image_13 rfl rfl ?_
    refine x_aload_n 0 dX11_image_14 rfl rfl ?_
    refine y_getI fX11_181 dX11_image_15 l83 rfl hI.2.1 ?_
    refine x_iconst (v := nI 1) dX11_image_18 (by decide) ?_
    refine y_iadd dX11_image_19 ?_
    refine y_iast dX11_image_20 l85 (by omega) (by decide) ?_
    refine x_iconst (v := nI 0) dX11_image_21 (by decide) ?_
    refine x_istore_n (lv' := [(2, _), (0, _), (1, _)]) dX11_image_22 rfl (by decide) rfl ?_
    refine x_pick (lv' := [(2, _), (0, _), (1, _)]) [0, 1, 2] rfl ?_
    have hh := lp_imM hI hO hw0 hL hL7 hv ha 0 (Nat.zero_le _)
    rw [rwS_0] at hh
    refine hh.mono (fun v S' hq => ?_)
    obtain ⟨rfl, rfl⟩ := hq
    simp only [ta]
    exact p2_1 (by omega)
  · refine u_if_ne 9 dX11_image_4 (by decide) (by decide) ?_
    refine x_iconst (v := -1) dX11_image_7 (by decide) ?_
    refine x_iret rfl dX11_image_8 (p2_0 (by omega))
