/-! ===== the reference: small methods ===== -/
def IsM (I : Isl) (S : St) : Prop := S.1 83 10 = nI (iP I) ∧ S.1 83 11 = nI (iM I) ∧ S.1 83 13 = nI (iB I) ∧ S.1 83 15 = nI (iW I) ∧ (∀ t, t < iM I → S.1 90 t = nI (iK I t)) ∧ (∀ b, b < iB I → S.1 91 b = nI (iG I b)) ∧ ∀ v, v < iW I → ∀ j, j < 4 → S.1 92 (4 * v + j) = nI (iV I v j)
def MW (I : Isl) (w : Nat → Nat) (S : St) : Prop := ∀ t, t < iM I → S.1 97 t = nI (w t)
theorem IsM.keep {I : Isl} {S S' : St} (h : IsM I S) (e0 : ∀ j, j ∈ [10, 11, 13, 15] → S'.1 83 j = S.1 83 j) (e : ∀ a, a ∈ [90, 91, 92] → ∀ b, S'.1 a b = S.1 a b) : IsM I S' := by
  obtain ⟨h1, h2, h3, h4, h5, h6, h7⟩ := h
  exact ⟨(e0 _ (by decide)).trans h1, (e0 _ (by decide)).trans h2, (e0 _ (by decide)).trans h3, (e0 _ (by decide)).trans h4, fun t ht => (e _ (by decide) t).trans (h5 t ht), fun b hb => (e _ (by decide) b).trans (h6 b hb), fun v hv j hj => (e _ (by decide) _).trans (h7 v hv j hj)⟩
theorem in_iff {x : Int32} {n : Nat} (hn : n ≤ 900) : ((nI 0).toInt ≤ x.toInt ∧ x.toInt ≤ (nI n - nI 1).toInt) ↔ (0 ≤ x.toInt ∧ x.toInt < (n : Int)) := by
  rw [toI_sub (by rw [tiN (by omega)]; omega) (by rw [tiN (by omega)]; omega) (by rw [tiN (by omega)]; omega) (by rw [tiN (by omega)]; omega), tiN (show n < 2147483648 by omega), tiN (show 0 < 2147483648 by omega), tiN (show 1 < 2147483648 by omega)]
  omega
theorem ne_nI {x : Int32} {n : Nat} (h : ¬ x = nI n) : ¬ x.toInt = (n : Int) := fun q => h (nI_of_int q)
theorem has_iff {s k : Nat} : s / 2 ^ k % 2 = 1 ↔ s.testBit k = true := by rw [Nat.testBit_eq_decide_div_mod_eq, decide_eq_true_eq]

set_option maxHeartbeats 4000000 in
set_option maxRecDepth 100000 in
theorem c_X11_in {S : St} {x y z : Int32} : C 0 0 yX11_in mX11_in [.int x, .int y, .int z] S (pb (y.toInt ≤ x.toInt ∧ x.toInt ≤ z.toInt) S) := by
  refine C.ofX (by decide) rfl (Nat.le_of_ble_eq_true rfl) ?_
  show X 0 0 mX11_in (pb (y.toInt ≤ x.toInt ∧ x.toInt ≤ z.toInt) S) 0 [(0, .int x), (1, .int y), (2, .int z)] [] S
  refine x_iload_n 0 dX11_in_0 rfl rfl ?_
  refine x_iload_n 1 dX11_in_1 rfl rfl ?_
  refine x_ic_lt 14 dX11_in_2 (by decide) (fun c_2 => ?_) (fun c_2 => ?_)
  · refine x_iconst (v := nI 0) dX11_in_14 (by decide) ?_
    refine x_zret rfl dX11_in_15 (by decide) ⟨Or.inr ⟨rfl, by omega⟩, rfl⟩
  · refine x_iload_n 0 dX11_in_5 rfl rfl ?_
    refine x_iload_n 2 dX11_in_6 rfl rfl ?_
    refine x_ic_gt 14 dX11_in_7 (by decide) (fun c_7 => ?_) (fun c_7 => ?_)
    · refine x_iconst (v := nI 0) dX11_in_14 (by decide) ?_
      refine x_zret rfl dX11_in_15 (by decide) ⟨Or.inr ⟨rfl, by omega⟩, rfl⟩
    · refine x_iconst (v := nI 1) dX11_in_10 (by decide) ?_
      refine x_goto 15 dX11_in_11 (by decide) ?_
      refine x_zret rfl dX11_in_15 (by decide) ⟨Or.inl ⟨rfl, by omega⟩, rfl⟩

set_option maxHeartbeats 4000000 in
set_option maxRecDepth 100000 in
theorem c_X11_has {S : St} {s k : Nat} (hs : s < 2147483648) (hk : k < 32) : C 0 0 yX11_has mX11_has [.int (nI s), .int (nI k)] S (pb (s.testBit k = true) S) := by
  refine C.ofX (by decide) rfl (Nat.le_of_ble_eq_true rfl) ?_
  show X 0 0 mX11_has (pb (s.testBit k = true) S) 0 [(0, .int (nI s)), (1, .int (nI k))] [] S
  refine x_iload_n 0 dX11_has_0 rfl rfl ?_
  refine x_iload_n 1 dX11_has_1 rfl rfl ?_
  refine y_ishr dX11_has_2 (by omega) (by omega) ?_
  refine x_iconst (v := nI 1) dX11_has_3 (by decide) ?_
  refine y_iand dX11_has_4 ?_
  rw [show ((s / 2 ^ k) &&& 1) = (s / 2 ^ k % 2) from by rw [Nat.and_one_is_mod]]
  refine x_iconst (v := nI 1) dX11_has_5 (by decide) ?_
  refine y_ic_ne 13 dX11_has_6 (by decide) (by omega) (by omega) (fun c_6 => ?_) (fun c_6 => ?_)
  · refine x_iconst (v := nI 0) dX11_has_13 (by decide) ?_
    refine x_zret rfl dX11_has_14 (by decide) ⟨Or.inr ⟨rfl, by exact fun h => absurd (has_iff.mpr h) (by omega)⟩, rfl⟩
  · refine x_iconst (v := nI 1) dX11_has_9 (by decide) ?_
    refine x_goto 14 dX11_has_10 (by decide) ?_
    refine x_zret rfl dX11_has_14 (by decide) ⟨Or.inl ⟨rfl, by exact has_iff.mp (by omega)⟩, rfl⟩

set_option maxHeartbeats 4000000 in
set_option maxRecDepth 100000 in
theorem c_X11_greater {S : St} {x y : Int32} : C 0 0 yX11_greater mX11_greater [.int x, .int y] S (pu (.int (if x.toInt > y.toInt then x else y)) S) := by
  refine C.ofX (by decide) rfl (Nat.le_of_ble_eq_true rfl) ?_
  show X 0 0 mX11_greater (pu (.int (if x.toInt > y.toInt then x else y)) S) 0 [(0, .int x), (1, .int y)] [] S
  refine x_iload_n 0 dX11_greater_0 rfl rfl ?_
  refine x_iload_n 1 dX11_greater_1 rfl rfl ?_
  refine x_ic_le 9 dX11_greater_2 (by decide) (fun c_2 => ?_) (fun c_2 => ?_)
  · refine x_iload_n 1 dX11_greater_9 rfl rfl ?_
    refine x_iret rfl dX11_greater_10 ⟨by first | rw [if_pos (by omega)] | rw [if_neg (by omega)], rfl⟩
  · refine x_iload_n 0 dX11_greater_5 rfl rfl ?_
    refine x_goto 10 dX11_greater_6 (by decide) ?_
    refine x_iret rfl dX11_greater_10 ⟨by first | rw [if_pos (by omega)] | rw [if_neg (by omega)], rfl⟩

def fndM (S : St) (f : Nat) : St := setI (setI S 83 0 (nI f)) 84 f (S.1 84 f + nI 1)
set_option maxHeartbeats 4000000 in
set_option maxRecDepth 100000 in
theorem c_X11_meets {S : St} {f : Nat} (h5 : f ≤ 5) : C 0 0 yX11_meets mX11_meets [.ref 83, .int (nI f)] S (pu (.int (-3)) (fndM S f)) := by
  refine C.ofX (by decide) rfl (Nat.le_of_ble_eq_true rfl) ?_
  show X 0 0 mX11_meets (pu (.int (-3)) (fndM S f)) 0 [(0, .ref 83), (1, .int (nI f))] [] S
  refine x_aload_n 0 dX11_meets_0 rfl rfl ?_
  refine x_iload_n 1 dX11_meets_1 rfl rfl ?_
  refine x_putI pX11_95 dX11_meets_2 l83 rfl ?_
  refine x_aload_n 0 dX11_meets_5 rfl rfl ?_
  refine x_getR fX11_7 dX11_meets_6 l83 rfl ?_
  refine x_iload_n 1 dX11_meets_9 rfl rfl ?_
  refine x_dup2 dX11_meets_10 rfl rfl ?_
  refine y_iald dX11_meets_11 l84 (by omega) (by decide) (rdI_k (by decide)) ?_
  refine x_iconst (v := nI 1) dX11_meets_12 (by decide) ?_
  refine x_iadd dX11_meets_13 ?_
  refine y_iast dX11_meets_14 l84 (by omega) (by decide) ?_
  refine x_bipush (v := -3) dX11_meets_15 (by decide) ?_
  refine x_iret rfl dX11_meets_17 ⟨rfl, rfl⟩

set_option maxHeartbeats 4000000 in
set_option maxRecDepth 100000 in
theorem c_X11_tells {S : St} {x y : Int32} : C 0 0 yX11_tells mX11_tells [.ref 83, .int x, .int y] S (pu (.int y) (setI S 83 2 x)) := by
  refine C.ofX (by decide) rfl (Nat.le_of_ble_eq_true rfl) ?_
  show X 0 0 mX11_tells (pu (.int y) (setI S 83 2 x)) 0 [(0, .ref 83), (1, .int x), (2, .int y)] [] S
  refine x_aload_n 0 dX11_tells_0 rfl rfl ?_
  refine x_iload_n 1 dX11_tells_1 rfl rfl ?_
  refine x_putI pX11_102 dX11_tells_2 l83 rfl ?_
  refine x_iload_n 2 dX11_tells_5 rfl rfl ?_
  refine x_iret rfl dX11_tells_6 ⟨rfl, rfl⟩

set_option maxHeartbeats 4000000 in
set_option maxRecDepth 100000 in
theorem c_X11_isRow {S : St} {x : Int32} : C 1 30 yX11_isRow mX11_isRow [.int x] S (pb (0 ≤ x.toInt ∧ x.toInt < 6) S) := by
  refine C.ofX (by decide) rfl (Nat.le_of_ble_eq_true rfl) ?_
  show X 1 30 mX11_isRow (pb (0 ≤ x.toInt ∧ x.toInt < 6) S) 0 [(0, .int x)] [] S
  refine x_iload_n 0 dX11_isRow_0 rfl rfl ?_
  refine x_iconst (v := nI 0) dX11_isRow_1 (by decide) ?_
  refine x_iconst (v := nI 5) dX11_isRow_2 (by decide) ?_
  refine x_callSb (as := [_, _, _]) (rest := []) sX11_98 c_X11_in dX11_isRow_3 rfl rfl (Nat.le_of_ble_eq_true rfl) (Nat.le_of_ble_eq_true rfl) (Nat.le_of_ble_eq_true rfl) (fun c_3 => ?_) (fun c_3 => ?_)
  · refine x_zret rfl dX11_isRow_6 (by decide) ⟨Or.inl ⟨rfl, by (have h0 : (nI 0).toInt = 0 := rfl; have h5 : (nI 5).toInt = 5 := rfl; omega)⟩, rfl⟩
  · refine x_zret rfl dX11_isRow_6 (by decide) ⟨Or.inr ⟨rfl, by (have h0 : (nI 0).toInt = 0 := rfl; have h5 : (nI 5).toInt = 5 := rfl; omega)⟩, rfl⟩

set_option maxHeartbeats 4000000 in
set_option maxRecDepth 100000 in
theorem c_X11_isText {S : St} {x : Int32} : C 1 30 yX11_isText mX11_isText [.int x] S (pb (0 ≤ x.toInt ∧ x.toInt < 4) S) := by
  refine C.ofX (by decide) rfl (Nat.le_of_ble_eq_true rfl) ?_
  show X 1 30 mX11_isText (pb (0 ≤ x.toInt ∧ x.toInt < 4) S) 0 [(0, .int x)] [] S
  refine x_iload_n 0 dX11_isText_0 rfl rfl ?_
  refine x_iconst (v := nI 0) dX11_isText_1 (by decide) ?_
  refine x_iconst (v := nI 3) dX11_isText_2 (by decide) ?_
  refine x_callSb (as := [_, _, _]) (rest := []) sX11_98 c_X11_in dX11_isText_3 rfl rfl (Nat.le_of_ble_eq_true rfl) (Nat.le_of_ble_eq_true rfl) (Nat.le_of_ble_eq_true rfl) (fun c_3 => ?_) (fun c_3 => ?_)
  · refine x_zret rfl dX11_isText_6 (by decide) ⟨Or.inl ⟨rfl, by (have h0 : (nI 0).toInt = 0 := rfl; have h5 : (nI 3).toInt = 3 := rfl; omega)⟩, rfl⟩
  · refine x_zret rfl dX11_isText_6 (by decide) ⟨Or.inr ⟨rfl, by (have h0 : (nI 0).toInt = 0 := rfl; have h5 : (nI 3).toInt = 3 := rfl; omega)⟩, rfl⟩

set_option maxHeartbeats 4000000 in
set_option maxRecDepth 100000 in
theorem c_X11_rowAt {S : St} {r i : Nat} (hr : r < 6) (hi : i < 60) : C 0 0 yX11_rowAt mX11_rowAt [.ref 83, .int (nI r), .int (nI i)] S (pu (.int (S.1 86 (60 * r + i))) S) := by
  refine C.ofX (by decide) rfl (Nat.le_of_ble_eq_true rfl) ?_
  show X 0 0 mX11_rowAt (pu (.int (S.1 86 (60 * r + i))) S) 0 [(0, .ref 83), (1, .int (nI r)), (2, .int (nI i))] [] S
  refine x_aload_n 0 dX11_rowAt_0 rfl rfl ?_
  refine x_getR fX11_16 dX11_rowAt_1 l83 rfl ?_
  refine x_bipush (v := nI 60) dX11_rowAt_4 (by decide) ?_
  refine x_iload_n 1 dX11_rowAt_6 rfl rfl ?_
  refine y_imul dX11_rowAt_7 ?_
  refine x_iload_n 2 dX11_rowAt_8 rfl rfl ?_
  refine y_iadd dX11_rowAt_9 ?_
  refine y_iald dX11_rowAt_10 l86 (by omega) (by decide) rfl ?_
  refine x_iret rfl dX11_rowAt_11 ⟨rfl, rfl⟩

set_option maxHeartbeats 4000000 in
set_option maxRecDepth 100000 in
theorem c_X11_byteAt {S : St} {t i z : Nat} (ht : t < 4) (hi : i < 2000) (hz : S.1 88 t = nI z) (hz1 : z ≤ 100) : C 0 0 yX11_byteAt mX11_byteAt [.ref 83, .int (nI t), .int (nI i)] S (pu (.int (if i < z then S.1 89 (100 * t + i) else nI 0)) S) := by
  refine C.ofX (by decide) rfl (Nat.le_of_ble_eq_true rfl) ?_
  show X 0 0 mX11_byteAt (pu (.int (if i < z then S.1 89 (100 * t + i) else nI 0)) S) 0 [(0, .ref 83), (1, .int (nI t)), (2, .int (nI i))] [] S
  refine x_iload_n 2 dX11_byteAt_0 rfl rfl ?_
  refine x_aload_n 0 dX11_byteAt_1 rfl rfl ?_
  refine x_getR fX11_22 dX11_byteAt_2 l83 rfl ?_
  refine x_iload_n 1 dX11_byteAt_5 rfl rfl ?_
  refine y_iald dX11_byteAt_6 l88 (by omega) (by decide) hz ?_
  refine y_ic_ge 24 dX11_byteAt_7 (by decide) (by omega) (by omega) (fun c_7 => ?_) (fun c_7 => ?_)
  · refine x_iconst (v := nI 0) dX11_byteAt_24 (by decide) ?_
    refine x_iret rfl dX11_byteAt_25 ⟨by first | rw [if_pos (by omega)] | rw [if_neg (by omega)], rfl⟩
  · refine x_aload_n 0 dX11_byteAt_10 rfl rfl ?_
    refine x_getR fX11_25 dX11_byteAt_11 l83 rfl ?_
    refine x_bipush (v := nI 100) dX11_byteAt_14 (by decide) ?_
    refine x_iload_n 1 dX11_byteAt_16 rfl rfl ?_
    refine y_imul dX11_byteAt_17 ?_
    refine x_iload_n 2 dX11_byteAt_18 rfl rfl ?_
    refine y_iadd dX11_byteAt_19 ?_
    refine y_bald dX11_byteAt_20 l89 (by omega) (by decide) rfl ?_
    refine x_goto 25 dX11_byteAt_21 (by decide) ?_
    refine x_iret rfl dX11_byteAt_25 ⟨by first | rw [if_pos (by omega)] | rw [if_neg (by omega)], rfl⟩

set_option maxHeartbeats 4000000 in
set_option maxRecDepth 100000 in
theorem c_X11_isOne {S : St} {I : Isl} {w : Nat → Nat} (hI : IsM I S) (hO : IOK I) {x : Int32} : C 1 30 yX11_isOne mX11_isOne [.ref 83, .int x] S (pb (0 ≤ x.toInt ∧ x.toInt < (iP I : Int)) S) := by
  have hO1 := hO.1
  have hO2 := hO.2.1
  have hO3 := hO.2.2.1
  have hO4 := hO.2.2.2.1
  refine C.ofX (by decide) rfl (Nat.le_of_ble_eq_true rfl) ?_
  show X 1 30 mX11_isOne (pb (0 ≤ x.toInt ∧ x.toInt < (iP I : Int)) S) 0 [(0, .ref 83), (1, .int x)] [] S
  refine x_iload_n 1 dX11_isOne_0 rfl rfl ?_
  refine x_iconst (v := nI 0) dX11_isOne_1 (by decide) ?_
  refine x_aload_n 0 dX11_isOne_2 rfl rfl ?_
  refine y_getI fX11_178 dX11_isOne_3 l83 rfl hI.1 ?_
  refine x_iconst (v := nI 1) dX11_isOne_6 (by decide) ?_
  refine x_isub dX11_isOne_7 ?_
  refine x_callSb (as := [_, _, _]) (rest := []) sX11_98 c_X11_in dX11_isOne_8 rfl rfl (Nat.le_of_ble_eq_true rfl) (Nat.le_of_ble_eq_true rfl) (Nat.le_of_ble_eq_true rfl) (fun c_8 => ?_) (fun c_8 => ?_)
  · refine x_zret rfl dX11_isOne_11 (by decide) ⟨Or.inl ⟨rfl, by exact (in_iff (by omega)).mp c_8⟩, rfl⟩
  · refine x_zret rfl dX11_isOne_11 (by decide) ⟨Or.inr ⟨rfl, by exact fun h => c_8 ((in_iff (by omega)).mpr h)⟩, rfl⟩

set_option maxHeartbeats 4000000 in
set_option maxRecDepth 100000 in
theorem c_X11_isThing {S : St} {I : Isl} {w : Nat → Nat} (hI : IsM I S) (hO : IOK I) {x : Int32} : C 1 30 yX11_isThing mX11_isThing [.ref 83, .int x] S (pb (0 ≤ x.toInt ∧ x.toInt < (iM I : Int)) S) := by
  have hO1 := hO.1
  have hO2 := hO.2.1
  have hO3 := hO.2.2.1
  have hO4 := hO.2.2.2.1
  refine C.ofX (by decide) rfl (Nat.le_of_ble_eq_true rfl) ?_
  show X 1 30 mX11_isThing (pb (0 ≤ x.toInt ∧ x.toInt < (iM I : Int)) S) 0 [(0, .ref 83), (1, .int x)] [] S
  refine x_iload_n 1 dX11_isThing_0 rfl rfl ?_
  refine x_iconst (v := nI 0) dX11_isThing_1 (by decide) ?_
  refine x_aload_n 0 dX11_isThing_2 rfl rfl ?_
  refine y_getI fX11_181 dX11_isThing_3 l83 rfl hI.2.1 ?_
  refine x_iconst (v := nI 1) dX11_isThing_6 (by decide) ?_
  refine x_isub dX11_isThing_7 ?_
  refine x_callSb (as := [_, _, _]) (rest := []) sX11_98 c_X11_in dX11_isThing_8 rfl rfl (Nat.le_of_ble_eq_true rfl) (Nat.le_of_ble_eq_true rfl) (Nat.le_of_ble_eq_true rfl) (fun c_8 => ?_) (fun c_8 => ?_)
  · refine x_zret rfl dX11_isThing_11 (by decide) ⟨Or.inl ⟨rfl, by exact (in_iff (by omega)).mp c_8⟩, rfl⟩
  · refine x_zret rfl dX11_isThing_11 (by decide) ⟨Or.inr ⟨rfl, by exact fun h => c_8 ((in_iff (by omega)).mpr h)⟩, rfl⟩

set_option maxHeartbeats 4000000 in
set_option maxRecDepth 100000 in
theorem c_X11_isWork {S : St} {I : Isl} {w : Nat → Nat} (hI : IsM I S) (hO : IOK I) {x : Int32} : C 1 30 yX11_isWork mX11_isWork [.ref 83, .int x] S (pb (0 ≤ x.toInt ∧ x.toInt < (iW I : Int)) S) := by
  have hO1 := hO.1
  have hO2 := hO.2.1
  have hO3 := hO.2.2.1
  have hO4 := hO.2.2.2.1
  refine C.ofX (by decide) rfl (Nat.le_of_ble_eq_true rfl) ?_
  show X 1 30 mX11_isWork (pb (0 ≤ x.toInt ∧ x.toInt < (iW I : Int)) S) 0 [(0, .ref 83), (1, .int x)] [] S
  refine x_iload_n 1 dX11_isWork_0 rfl rfl ?_
  refine x_iconst (v := nI 0) dX11_isWork_1 (by decide) ?_
  refine x_aload_n 0 dX11_isWork_2 rfl rfl ?_
  refine y_getI fX11_184 dX11_isWork_3 l83 rfl hI.2.2.2.1 ?_
  refine x_iconst (v := nI 1) dX11_isWork_6 (by decide) ?_
  refine x_isub dX11_isWork_7 ?_
  refine x_callSb (as := [_, _, _]) (rest := []) sX11_98 c_X11_in dX11_isWork_8 rfl rfl (Nat.le_of_ble_eq_true rfl) (Nat.le_of_ble_eq_true rfl) (Nat.le_of_ble_eq_true rfl) (fun c_8 => ?_) (fun c_8 => ?_)
  · refine x_zret rfl dX11_isWork_11 (by decide) ⟨Or.inl ⟨rfl, by exact (in_iff (by omega)).mp c_8⟩, rfl⟩
  · refine x_zret rfl dX11_isWork_11 (by decide) ⟨Or.inr ⟨rfl, by exact fun h => c_8 ((in_iff (by omega)).mpr h)⟩, rfl⟩

set_option maxHeartbeats 4000000 in
set_option maxRecDepth 100000 in
theorem c_X11_isPlace {S : St} {I : Isl} {w : Nat → Nat} (hI : IsM I S) (hO : IOK I) {x : Int32} : C 2 60 yX11_isPlace mX11_isPlace [.ref 83, .int x] S (pb (plcI I x) S) := by
  have hO1 := hO.1
  have hO2 := hO.2.1
  have hO3 := hO.2.2.1
  have hO4 := hO.2.2.2.1
  refine C.ofX (by decide) rfl (Nat.le_of_ble_eq_true rfl) ?_
  show X 2 60 mX11_isPlace (pb (plcI I x) S) 0 [(0, .ref 83), (1, .int x)] [] S
  refine x_aload_n 0 dX11_isPlace_0 rfl rfl ?_
  refine x_iload_n 1 dX11_isPlace_1 rfl rfl ?_
  refine x_callVb (as := [_]) (rest := []) vX11_196 (c_X11_isOne (w := w) hI hO) dX11_isPlace_2 l83 rfl rfl rfl (Nat.le_of_ble_eq_true rfl) (Nat.le_of_ble_eq_true rfl) (Nat.le_of_ble_eq_true rfl) (fun c_2 => ?_) (fun c_2 => ?_)
  · refine t_if_ne 29 dX11_isPlace_5 (by decide) (by decide) ?_
    refine x_iconst (v := nI 1) dX11_isPlace_29 (by decide) ?_
    refine x_goto 34 dX11_isPlace_30 (by decide) ?_
    refine x_zret rfl dX11_isPlace_34 (by decide) ⟨Or.inl ⟨rfl, by (first | exact Or.inl c_2 | (have h4 : (nI 4).toInt = 4 := rfl; exact Or.inr (by rw [c_10, h4]; omega)) | (rw [tiN (by decide), tiN (by omega)] at c_23; exact Or.inr (by omega)))⟩, rfl⟩
  · refine u_if_ne 29 dX11_isPlace_5 (by decide) (by decide) ?_
    refine x_iload_n 1 dX11_isPlace_8 rfl rfl ?_
    refine x_iconst (v := nI 4) dX11_isPlace_9 (by decide) ?_
    refine x_ic_eq 29 dX11_isPlace_10 (by decide) (fun c_10 => ?_) (fun c_10 => ?_)
    · refine x_iconst (v := nI 1) dX11_isPlace_29 (by decide) ?_
      refine x_goto 34 dX11_isPlace_30 (by decide) ?_
      refine x_zret rfl dX11_isPlace_34 (by decide) ⟨Or.inl ⟨rfl, by (first | exact Or.inl c_2 | (have h4 : (nI 4).toInt = 4 := rfl; exact Or.inr (by rw [c_10, h4]; omega)) | (rw [tiN (by decide), tiN (by omega)] at c_23; exact Or.inr (by omega)))⟩, rfl⟩
    · refine x_iload_n 1 dX11_isPlace_13 rfl rfl ?_
      refine x_iconst (v := nI 5) dX11_isPlace_14 (by decide) ?_
      refine x_iconst (v := nI 5) dX11_isPlace_15 (by decide) ?_
      refine x_aload_n 0 dX11_isPlace_16 rfl rfl ?_
      refine y_getI fX11_187 dX11_isPlace_17 l83 rfl hI.2.2.1 ?_
      refine y_iadd dX11_isPlace_20 ?_
      refine x_iconst (v := nI 1) dX11_isPlace_21 (by decide) ?_
      refine y_isub dX11_isPlace_22 (by omega) ?_
      refine x_callSb (as := [_, _, _]) (rest := []) sX11_98 c_X11_in dX11_isPlace_23 rfl rfl (Nat.le_of_ble_eq_true rfl) (Nat.le_of_ble_eq_true rfl) (Nat.le_of_ble_eq_true rfl) (fun c_23 => ?_) (fun c_23 => ?_)
      · refine u_if_eq 33 dX11_isPlace_26 (by decide) (by decide) ?_
        refine x_iconst (v := nI 1) dX11_isPlace_29 (by decide) ?_
        refine x_goto 34 dX11_isPlace_30 (by decide) ?_
        refine x_zret rfl dX11_isPlace_34 (by decide) ⟨Or.inl ⟨rfl, by (first | exact Or.inl c_2 | (have h4 : (nI 4).toInt = 4 := rfl; exact Or.inr (by rw [c_10, h4]; omega)) | (rw [tiN (by decide), tiN (by omega)] at c_23; exact Or.inr (by omega)))⟩, rfl⟩
      · refine t_if_eq 33 dX11_isPlace_26 (by decide) (by decide) ?_
        refine x_iconst (v := nI 0) dX11_isPlace_33 (by decide) ?_
        refine x_zret rfl dX11_isPlace_34 (by decide) ⟨Or.inr ⟨rfl, by (rw [tiN (by decide), tiN (by omega)] at c_23; have h4 := ne_nI c_10; unfold plcI; omega)⟩, rfl⟩

set_option maxHeartbeats 4000000 in
set_option maxRecDepth 100000 in
theorem c_X11_isStep {S : St} {I : Isl} {w : Nat → Nat} (hI : IsM I S) (hO : IOK I) {x : Int32} : C 3 90 yX11_isStep mX11_isStep [.ref 83, .int x] S (pb (0 ≤ x.toInt ∧ x.toInt.toNat / 7 < iM I ∧ plcF I (x.toInt.toNat % 7)) S) := by
  have hO1 := hO.1
  have hO2 := hO.2.1
  have hO3 := hO.2.2.1
  have hO4 := hO.2.2.2.1
  refine C.ofX (by decide) rfl (Nat.le_of_ble_eq_true rfl) ?_
  show X 3 90 mX11_isStep (pb (0 ≤ x.toInt ∧ x.toInt.toNat / 7 < iM I ∧ plcF I (x.toInt.toNat % 7)) S) 0 [(0, .ref 83), (1, .int x)] [] S
  refine x_iload_n 1 dX11_isStep_0 rfl rfl ?_
  refine x_if_lt 30 dX11_isStep_1 (by decide) (fun c_1 => ?_) (fun c_1 => ?_)
  · refine x_iconst (v := nI 0) dX11_isStep_30 (by decide) ?_
    refine x_zret rfl dX11_isStep_31 (by decide) ⟨Or.inr ⟨rfl, by (first | omega | exact fun h => c_9 ((num_iff hn).mpr h).1 | exact fun h => c_20 ((num_iff hn).mpr h).2)⟩, rfl⟩
  · obtain ⟨n, hn, rfl⟩ := nI_exP c_1
    refine x_aload_n 0 dX11_isStep_4 rfl rfl ?_
    refine x_iload_n 1 dX11_isStep_5 rfl rfl ?_
    refine x_bipush (v := nI 7) dX11_isStep_6 (by decide) ?_
    refine y_idiv dX11_isStep_8 (by omega) (by omega) (by omega) ?_
    refine x_callVb (as := [_]) (rest := []) vX11_220 (c_X11_isThing (w := w) hI hO) dX11_isStep_9 l83 rfl rfl rfl (Nat.le_of_ble_eq_true rfl) (Nat.le_of_ble_eq_true rfl) (Nat.le_of_ble_eq_true rfl) (fun c_9 => ?_) (fun c_9 => ?_)
    · refine u_if_eq 30 dX11_isStep_12 (by decide) (by decide) ?_
      refine x_aload_n 0 dX11_isStep_15 rfl rfl ?_
      refine x_iload_n 1 dX11_isStep_16 rfl rfl ?_
      refine x_bipush (v := nI 7) dX11_isStep_17 (by decide) ?_
      refine y_irem dX11_isStep_19 (by omega) (by omega) (by omega) ?_
      refine x_callVb (as := [_]) (rest := []) vX11_208 (c_X11_isPlace (w := w) hI hO) dX11_isStep_20 l83 rfl rfl rfl (Nat.le_of_ble_eq_true rfl) (Nat.le_of_ble_eq_true rfl) (Nat.le_of_ble_eq_true rfl) (fun c_20 => ?_) (fun c_20 => ?_)
      · refine u_if_eq 30 dX11_isStep_23 (by decide) (by decide) ?_
        refine x_iconst (v := nI 1) dX11_isStep_26 (by decide) ?_
        refine x_goto 31 dX11_isStep_27 (by decide) ?_
        refine x_zret rfl dX11_isStep_31 (by decide) ⟨Or.inl ⟨rfl, by exact (num_iff hn).mp ⟨c_9, c_20⟩⟩, rfl⟩
      · refine t_if_eq 30 dX11_isStep_23 (by decide) (by decide) ?_
        refine x_iconst (v := nI 0) dX11_isStep_30 (by decide) ?_
        refine x_zret rfl dX11_isStep_31 (by decide) ⟨Or.inr ⟨rfl, by (first | omega | exact fun h => c_9 ((num_iff hn).mpr h).1 | exact fun h => c_20 ((num_iff hn).mpr h).2)⟩, rfl⟩
    · refine t_if_eq 30 dX11_isStep_12 (by decide) (by decide) ?_
      refine x_iconst (v := nI 0) dX11_isStep_30 (by decide) ?_
      refine x_zret rfl dX11_isStep_31 (by decide) ⟨Or.inr ⟨rfl, by (first | omega | exact fun h => c_9 ((num_iff hn).mpr h).1 | exact fun h => c_20 ((num_iff hn).mpr h).2)⟩, rfl⟩

set_option maxHeartbeats 4000000 in
set_option maxRecDepth 100000 in
theorem c_X11_isBagKind {S : St} {q : Nat} (hq : q ≤ 5) : C 0 0 yX11_isBagKind mX11_isBagKind [.int (nI q)] S (pb (bagK q) S) := by
  refine C.ofX (by decide) rfl (Nat.le_of_ble_eq_true rfl) ?_
  show X 0 0 mX11_isBagKind (pb (bagK q) S) 0 [(0, .int (nI q))] [] S
  refine x_iload_n 0 dX11_isBagKind_0 rfl rfl ?_
  refine x_iconst (v := nI 1) dX11_isBagKind_1 (by decide) ?_
  refine y_ic_eq 10 dX11_isBagKind_2 (by decide) (by omega) (by omega) (fun c_2 => ?_) (fun c_2 => ?_)
  · refine x_iconst (v := nI 1) dX11_isBagKind_10 (by decide) ?_
    refine x_goto 15 dX11_isBagKind_11 (by decide) ?_
    refine x_zret rfl dX11_isBagKind_15 (by decide) ⟨Or.inl ⟨rfl, by (unfold bagK; omega)⟩, rfl⟩
  · refine x_iload_n 0 dX11_isBagKind_5 rfl rfl ?_
    refine x_iconst (v := nI 4) dX11_isBagKind_6 (by decide) ?_
    refine y_ic_ne 14 dX11_isBagKind_7 (by decide) (by omega) (by omega) (fun c_7 => ?_) (fun c_7 => ?_)
    · refine x_iconst (v := nI 0) dX11_isBagKind_14 (by decide) ?_
      refine x_zret rfl dX11_isBagKind_15 (by decide) ⟨Or.inr ⟨rfl, by (unfold bagK; omega)⟩, rfl⟩
    · refine x_iconst (v := nI 1) dX11_isBagKind_10 (by decide) ?_
      refine x_goto 15 dX11_isBagKind_11 (by decide) ?_
      refine x_zret rfl dX11_isBagKind_15 (by decide) ⟨Or.inl ⟨rfl, by (unfold bagK; omega)⟩, rfl⟩

set_option maxHeartbeats 4000000 in
set_option maxRecDepth 100000 in
theorem c_X11_isLivingKind {S : St} {q : Nat} (hq : q ≤ 5) : C 0 0 yX11_isLivingKind mX11_isLivingKind [.int (nI q)] S (pb (livK q) S) := by
  refine C.ofX (by decide) rfl (Nat.le_of_ble_eq_true rfl) ?_
  show X 0 0 mX11_isLivingKind (pb (livK q) S) 0 [(0, .int (nI q))] [] S
  refine x_iload_n 0 dX11_isLivingKind_0 rfl rfl ?_
  refine x_iconst (v := nI 2) dX11_isLivingKind_1 (by decide) ?_
  refine y_ic_eq 10 dX11_isLivingKind_2 (by decide) (by omega) (by omega) (fun c_2 => ?_) (fun c_2 => ?_)
  · refine x_iconst (v := nI 1) dX11_isLivingKind_10 (by decide) ?_
    refine x_goto 15 dX11_isLivingKind_11 (by decide) ?_
    refine x_zret rfl dX11_isLivingKind_15 (by decide) ⟨Or.inl ⟨rfl, by (unfold livK; omega)⟩, rfl⟩
  · refine x_iload_n 0 dX11_isLivingKind_5 rfl rfl ?_
    refine x_iconst (v := nI 5) dX11_isLivingKind_6 (by decide) ?_
    refine y_ic_ne 14 dX11_isLivingKind_7 (by decide) (by omega) (by omega) (fun c_7 => ?_) (fun c_7 => ?_)
    · refine x_iconst (v := nI 0) dX11_isLivingKind_14 (by decide) ?_
      refine x_zret rfl dX11_isLivingKind_15 (by decide) ⟨Or.inr ⟨rfl, by (unfold livK; omega)⟩, rfl⟩
    · refine x_iconst (v := nI 1) dX11_isLivingKind_10 (by decide) ?_
      refine x_goto 15 dX11_isLivingKind_11 (by decide) ?_
      refine x_zret rfl dX11_isLivingKind_15 (by decide) ⟨Or.inl ⟨rfl, by (unfold livK; omega)⟩, rfl⟩

set_option maxHeartbeats 4000000 in
set_option maxRecDepth 100000 in
theorem c_X11_counts {S : St} {q : Nat} (hq : q ≤ 5) : C 0 0 yX11_counts mX11_counts [.int (nI q)] S (pu (.int (nI (wt q))) S) := by
  refine C.ofX (by decide) rfl (Nat.le_of_ble_eq_true rfl) ?_
  show X 0 0 mX11_counts (pu (.int (nI (wt q))) S) 0 [(0, .int (nI q))] [] S
  refine x_iload_n 0 dX11_counts_0 rfl rfl ?_
  refine x_iconst (v := nI 3) dX11_counts_1 (by decide) ?_
  refine y_ic_eq 10 dX11_counts_2 (by decide) (by omega) (by omega) (fun c_2 => ?_) (fun c_2 => ?_)
  · refine x_iconst (v := nI 2) dX11_counts_10 (by decide) ?_
    refine x_goto 15 dX11_counts_11 (by decide) ?_
    refine x_iret rfl dX11_counts_15 ⟨by unfold wt; first | rw [if_pos (by omega)] | rw [if_neg (by omega)], rfl⟩
  · refine x_iload_n 0 dX11_counts_5 rfl rfl ?_
    refine x_iconst (v := nI 5) dX11_counts_6 (by decide) ?_
    refine y_ic_ne 14 dX11_counts_7 (by decide) (by omega) (by omega) (fun c_7 => ?_) (fun c_7 => ?_)
    · refine x_iconst (v := nI 1) dX11_counts_14 (by decide) ?_
      refine x_iret rfl dX11_counts_15 ⟨by unfold wt; first | rw [if_pos (by omega)] | rw [if_neg (by omega)], rfl⟩
    · refine x_iconst (v := nI 2) dX11_counts_10 (by decide) ?_
      refine x_goto 15 dX11_counts_11 (by decide) ?_
      refine x_iret rfl dX11_counts_15 ⟨by unfold wt; first | rw [if_pos (by omega)] | rw [if_neg (by omega)], rfl⟩

def lkS (S : St) (n : Nat) : St := (fun a b => if a = 97 ∧ b < n then S.1 93 b else S.1 a b, S.2)
theorem lkS_0 (S : St) : lkS S 0 = S := st_ext rfl fun a b => if_neg (by omega)
theorem lkS_k {S : St} {n a b : Nat} (h : ¬ a = 97) : (lkS S n).1 a b = S.1 a b := if_neg fun q => h q.1
theorem lkS_s (S : St) (i : Nat) : setI (lkS S i) 97 i (S.1 93 i) = lkS S (i + 1) := by
  refine st_ext rfl fun a b => ?_
  by_cases ha : a = 97
  · subst ha
    by_cases hb : b = i
    · subst hb
      rw [rdI_eq]
      exact (if_pos ⟨rfl, Nat.lt_succ_self b⟩).symm
    · rw [rdI_j hb]
      by_cases h : b < i
      · exact (if_pos ⟨rfl, h⟩).trans (if_pos ⟨rfl, by omega⟩).symm
      · exact (if_neg (by omega)).trans (if_neg (by omega)).symm
  · rw [rdI_k ha, lkS_k ha, lkS_k ha]
theorem lkS_W {I : Isl} {w : Nat → Nat} {S : St} (h : ∀ t, t < iM I → S.1 93 t = nI (w t)) : MW I w (lkS S (iM I)) := fun t ht => (if_pos ⟨rfl, ht⟩).trans (h t ht)
theorem IsM.lk {I : Isl} {S : St} (h : IsM I S) (n : Nat) : IsM I (lkS S n) := h.keep (fun j _ => lkS_k (by decide)) (fun a ha b => lkS_k (by intro e; subst e; revert ha; decide))

set_option maxHeartbeats 4000000 in
set_option maxRecDepth 100000 in
theorem lp_lookNow {S : St} {I : Isl} (hI : IsM I S) (hO : IOK I)  : ∀ (i : Nat) (S1 : St), S1 = lkS S i → i ≤ iM I → X 0 0 mX11_lookNow (pv (lkS S (iM I))) 2 [(1, .int (nI i)), (0, .ref 83)] [] S1 := by
  intro i
  induction hm : iM I - i using Nat.strongRecOn generalizing i with
  | _ mm ih =>
    intro S1 hS1 hi
    replace hS1 := hS1.symm
    subst hS1
    have hO1 := hO.1
    have hO2 := hO.2.1
    have hO3 := hO.2.2.1
    have hO4 := hO.2.2.2.1
    have hI1 := hI.lk i
    refine x_iload_n 0 dX11_lookNow_2 rfl rfl ?_
    refine x_aload_n 1 dX11_lookNow_3 rfl rfl ?_
    refine y_getI fX11_181 dX11_lookNow_4 l83 rfl hI1.2.1 ?_
    refine y_ic_ge 28 dX11_lookNow_7 (by decide) (by omega) (by omega) (fun c_7 => ?_) (fun c_7 => ?_)
    · refine x_vret rfl dX11_lookNow_28 (by obtain rfl : i = iM I := (by omega); exact ⟨rfl, rfl⟩)
    · refine x_aload_n 1 dX11_lookNow_10 rfl rfl ?_
      refine x_getR fX11_50 dX11_lookNow_11 l83 rfl ?_
      refine x_iload_n 0 dX11_lookNow_14 rfl rfl ?_
      refine x_aload_n 1 dX11_lookNow_15 rfl rfl ?_
      refine x_getR fX11_38 dX11_lookNow_16 l83 rfl ?_
      refine x_iload_n 0 dX11_lookNow_19 rfl rfl ?_
      refine y_iald dX11_lookNow_20 l93 (by omega) (by decide) (lkS_k (by decide)) ?_
      refine y_iast dX11_lookNow_21 l97 (by omega) (by decide) ?_
      refine y_iinc (lv' := [(1, _), (0, _)]) 0 dX11_lookNow_22 rfl (by decide) rfl ?_
      refine x_goto 2 dX11_lookNow_25 (by decide) ?_
      refine x_pick (lv' := [(1, _), (0, _)]) [0, 1] rfl ?_
      exact ih (iM I - (i + 1)) (by omega) (i + 1) rfl _ (lkS_s S i) (by omega)

set_option maxHeartbeats 4000000 in
set_option maxRecDepth 100000 in
theorem c_X11_lookNow {S : St} {I : Isl} (hI : IsM I S) (hO : IOK I)  : C 0 0 yX11_lookNow mX11_lookNow [.ref 83] S (pv (lkS S (iM I))) := by
  refine C.ofX (by decide) rfl (Nat.le_of_ble_eq_true rfl) ?_
  show X 0 0 mX11_lookNow (pv (lkS S (iM I))) 0 [(0, .ref 83)] [] S
  refine x_iconst (v := nI 0) dX11_lookNow_0 (by decide) ?_
  refine x_istore_n (lv' := [(1, _), (0, _)]) dX11_lookNow_1 rfl (by decide) rfl ?_
  refine x_pick (lv' := [(1, _), (0, _)]) [0, 1] rfl ?_
  exact lp_lookNow hI hO 0 S (lkS_0 S).symm (Nat.zero_le _)

def loS (S : St) (c i : Nat) : St := (fun a b => if a = 97 ∧ b < i then nI (digF c b) else S.1 a b, S.2)
theorem loS_0 (S : St) (c : Nat) : loS S c 0 = S := st_ext rfl fun a b => if_neg (by omega)
theorem loS_k {S : St} {c i a b : Nat} (h : ¬ a = 97) : (loS S c i).1 a b = S.1 a b := if_neg fun q => h q.1
theorem loS_s (S : St) (c i : Nat) : setI (loS S c i) 97 i (nI (digF c i)) = loS S c (i + 1) := by
  refine st_ext rfl fun a b => ?_
  by_cases ha : a = 97
  · subst ha
    by_cases hb : b = i
    · subst hb
      rw [rdI_eq]
      exact (if_pos ⟨rfl, Nat.lt_succ_self b⟩).symm
    · rw [rdI_j hb]
      by_cases h : b < i
      · exact (if_pos ⟨rfl, h⟩).trans (if_pos ⟨rfl, by omega⟩).symm
      · exact (if_neg (by omega)).trans (if_neg (by omega)).symm
  · rw [rdI_k ha, loS_k ha, loS_k ha]
theorem loS_W {I : Isl} (S : St) (c : Nat) : MW I (digF c) (loS S c (iM I)) := fun t ht => if_pos ⟨rfl, ht⟩
theorem IsM.lo {I : Isl} {S : St} (h : IsM I S) (c n : Nat) : IsM I (loS S c n) := h.keep (fun j _ => loS_k (by decide)) (fun a ha b => loS_k (by intro e; subst e; revert ha; decide))

set_option maxHeartbeats 4000000 in
set_option maxRecDepth 100000 in
theorem lp_look {S : St} {I : Isl} (hI : IsM I S) (hO : IOK I) {c : Nat} (hc : c < 16807)  : ∀ (i : Nat) (S1 : St), S1 = loS S c i → i ≤ iM I → X 0 0 mX11_look (pv (loS S c (iM I))) 4 [(3, .int (nI i)), (2, .int (nI ((c / 7 ^ i)))), (0, .ref 83), (1, .int (nI c))] [] S1 := by
  intro i
  induction hm : iM I - i using Nat.strongRecOn generalizing i with
  | _ mm ih =>
    intro S1 hS1 hi
    replace hS1 := hS1.symm
    subst hS1
    have hO1 := hO.1
    have hO2 := hO.2.1
    have hO3 := hO.2.2.1
    have hO4 := hO.2.2.2.1
    have hI1 := hI.lo c i
    have hci : c / 7 ^ i ≤ c := Nat.div_le_self _ _
    refine x_iload_n 0 dX11_look_4 rfl rfl ?_
    refine x_aload_n 2 dX11_look_5 rfl rfl ?_
    refine y_getI fX11_181 dX11_look_6 l83 rfl hI1.2.1 ?_
    refine y_ic_ge 33 dX11_look_9 (by decide) (by omega) (by omega) (fun c_9 => ?_) (fun c_9 => ?_)
    · refine x_vret rfl dX11_look_33 (by obtain rfl : i = iM I := (by omega); exact ⟨rfl, rfl⟩)
    · refine x_aload_n 2 dX11_look_12 rfl rfl ?_
      refine x_getR fX11_50 dX11_look_13 l83 rfl ?_
      refine x_iload_n 0 dX11_look_16 rfl rfl ?_
      refine x_iload_n 1 dX11_look_17 rfl rfl ?_
      refine x_bipush (v := nI 7) dX11_look_18 (by decide) ?_
      refine y_irem dX11_look_20 (by omega) (by omega) (by omega) ?_
      refine y_iast dX11_look_21 l97 (by omega) (by decide) ?_
      refine x_iload_n 1 dX11_look_22 rfl rfl ?_
      refine x_bipush (v := nI 7) dX11_look_23 (by decide) ?_
      refine y_idiv dX11_look_25 (by omega) (by omega) (by omega) ?_
      refine x_istore_n (lv' := [(2, _), (3, _), (0, _), (1, _)]) dX11_look_26 rfl (by decide) rfl ?_
      rw [show ((c / 7 ^ i) / 7) = (c / 7 ^ (i + 1)) from by rw [dig_div]]
      refine y_iinc (lv' := [(3, _), (2, _), (0, _), (1, _)]) 1 dX11_look_27 rfl (by decide) rfl ?_
      refine x_goto 4 dX11_look_30 (by decide) ?_
      refine x_pick (lv' := [(3, _), (2, _), (0, _), (1, _)]) [0, 1, 2, 3] rfl ?_
      exact ih (iM I - (i + 1)) (by omega) (i + 1) rfl _ (loS_s S c i) (by omega)

set_option maxHeartbeats 4000000 in
set_option maxRecDepth 100000 in
theorem c_X11_look {S : St} {I : Isl} (hI : IsM I S) (hO : IOK I) {c : Nat} (hc : c < 16807)  : C 0 0 yX11_look mX11_look [.ref 83, .int (nI c)] S (pv (loS S c (iM I))) := by
  refine C.ofX (by decide) rfl (Nat.le_of_ble_eq_true rfl) ?_
  show X 0 0 mX11_look (pv (loS S c (iM I))) 0 [(0, .ref 83), (1, .int (nI c))] [] S
  refine x_iload_n 1 dX11_look_0 rfl rfl ?_
  refine x_istore_n (lv' := [(2, _), (0, _), (1, _)]) dX11_look_1 rfl (by decide) rfl ?_
  refine x_iconst (v := nI 0) dX11_look_2 (by decide) ?_
  refine x_istore_n (lv' := [(3, _), (2, _), (0, _), (1, _)]) dX11_look_3 rfl (by decide) rfl ?_
  refine x_pick (lv' := [(3, _), (2, _), (0, _), (1, _)]) [0, 1, 2, 3] rfl ?_
  exact (by have := lp_look hI hO hc 0 S (loS_0 S c).symm (Nat.zero_le _); rw [Nat.pow_zero, Nat.div_one] at this; exact this)

set_option maxHeartbeats 4000000 in
set_option maxRecDepth 100000 in
theorem c_X11_with {S : St} {I : Isl} {w : Nat → Nat} (hI : IsM I S) (hO : IOK I) (hw0 : MW I w S) (hw : WOK I w) {t : Nat} (ht : t < iM I) : C 0 0 yX11_with mX11_with [.ref 83, .int (nI t)] S (pu (.int (nI (whomF I w t))) S) := by
  have hO1 := hO.1
  have hO2 := hO.2.1
  have hO3 := hO.2.2.1
  have hO4 := hO.2.2.2.1
  have hwt := hw.1 t ht
  refine C.ofX (by decide) rfl (Nat.le_of_ble_eq_true rfl) ?_
  show X 0 0 mX11_with (pu (.int (nI (whomF I w t))) S) 0 [(0, .ref 83), (1, .int (nI t))] [] S
  refine x_aload_n 0 dX11_with_0 rfl rfl ?_
  refine x_getR fX11_50 dX11_with_1 l83 rfl ?_
  refine x_iload_n 1 dX11_with_4 rfl rfl ?_
  refine y_iald dX11_with_5 l97 (by omega) (by decide) (hw0 t ht) ?_
  refine x_iconst (v := nI 5) dX11_with_6 (by decide) ?_
  refine y_ic_ge 19 dX11_with_7 (by decide) (by omega) (by omega) (fun c_7 => ?_) (fun c_7 => ?_)
  · refine x_aload_n 0 dX11_with_19 rfl rfl ?_
    refine x_getR fX11_50 dX11_with_20 l83 rfl ?_
    refine x_aload_n 0 dX11_with_23 rfl rfl ?_
    refine x_getR fX11_32 dX11_with_24 l83 rfl ?_
    refine x_aload_n 0 dX11_with_27 rfl rfl ?_
    refine x_getR fX11_50 dX11_with_28 l83 rfl ?_
    refine x_iload_n 1 dX11_with_31 rfl rfl ?_
    refine y_iald dX11_with_32 l97 (by omega) (by decide) (hw0 t ht) ?_
    refine x_iconst (v := nI 5) dX11_with_33 (by decide) ?_
    refine y_isub dX11_with_34 (by omega) ?_
    refine y_iald dX11_with_35 l91 (by omega) (by decide) (hI.2.2.2.2.2.1 _ (by omega)) ?_
    refine y_iald dX11_with_36 l97 (by have := (hO.2.2.2.2.2.1 (w t - 5) (by omega)).1; omega) (by decide) (hw0 _ (hO.2.2.2.2.2.1 _ (by omega)).1) ?_
    refine x_iret rfl dX11_with_37 ⟨by unfold whomF; first | rw [if_pos (by omega)] | rw [if_neg (by omega)], rfl⟩
  · refine x_aload_n 0 dX11_with_10 rfl rfl ?_
    refine x_getR fX11_50 dX11_with_11 l83 rfl ?_
    refine x_iload_n 1 dX11_with_14 rfl rfl ?_
    refine y_iald dX11_with_15 l97 (by omega) (by decide) (hw0 t ht) ?_
    refine x_goto 37 dX11_with_16 (by decide) ?_
    refine x_iret rfl dX11_with_37 ⟨by unfold whomF; first | rw [if_pos (by omega)] | rw [if_neg (by omega)], rfl⟩

set_option maxHeartbeats 4000000 in
set_option maxRecDepth 100000 in
theorem lp_loadOf {S : St} {I : Isl} {w : Nat → Nat} (hI : IsM I S) (hO : IOK I) (hw0 : MW I w S) (hw7 : ∀ t, t < iM I → w t < 7) {p : Nat} (hp : p < 100)  : ∀ (i : Nat) (S1 : St), S1 = S → i ≤ iM I → X 1 30 mX11_loadOf (pu (.int (nI (loadF I w p))) S) 4 [(3, .int (nI i)), (2, .int (nI ((sm (fun t => if w t = p then wt (iK I t) else 0) i)))), (0, .ref 83), (1, .int (nI p))] [] S1 := by
  intro i
  induction hm : iM I - i using Nat.strongRecOn generalizing i with
  | _ mm ih =>
    intro S1 hS1 hi
    replace hS1 := hS1.symm
    subst hS1
    have hO1 := hO.1
    have hO2 := hO.2.1
    have hO3 := hO.2.2.1
    have hO4 := hO.2.2.2.1
    have hwi := hw7 i
    have hK := hO.2.2.2.2.1 i
    refine x_iload_n 0 dX11_loadOf_4 rfl rfl ?_
    refine x_aload_n 2 dX11_loadOf_5 rfl rfl ?_
    refine y_getI fX11_181 dX11_loadOf_6 l83 rfl hI.2.1 ?_
    refine y_ic_ge 44 dX11_loadOf_9 (by decide) (by omega) (by omega) (fun c_9 => ?_) (fun c_9 => ?_)
    · refine x_iload_n 1 dX11_loadOf_44 rfl rfl ?_
      refine x_iret rfl dX11_loadOf_45 (by obtain rfl : i = iM I := (by omega); exact ⟨rfl, rfl⟩)
    · refine x_iload_n 1 dX11_loadOf_12 rfl rfl ?_
      refine x_aload_n 2 dX11_loadOf_13 rfl rfl ?_
      refine x_getR fX11_50 dX11_loadOf_14 l83 rfl ?_
      refine x_iload_n 0 dX11_loadOf_17 rfl rfl ?_
      refine y_iald dX11_loadOf_18 l97 (by omega) (by decide) (hw0 i (by omega)) ?_
      refine x_iload_n 3 dX11_loadOf_19 rfl rfl ?_
      refine y_ic_ne 35 dX11_loadOf_20 (by decide) (by omega) (by omega) (fun c_20 => ?_) (fun c_20 => ?_)
      · refine x_iconst (v := nI 0) dX11_loadOf_35 (by decide) ?_
        refine y_iadd dX11_loadOf_36 ?_
        refine x_istore_n (lv' := [(2, _), (3, _), (0, _), (1, _)]) dX11_loadOf_37 rfl (by decide) rfl ?_
        rw [show ((sm (fun t => if w t = p then wt (iK I t) else 0) i) + 0) = (sm (fun t => if w t = p then wt (iK I t) else 0) (i + 1)) from by rw [sm_s]; first | rw [if_neg (by omega)] | rw [if_pos (by omega)]]
        refine y_iinc (lv' := [(3, _), (2, _), (0, _), (1, _)]) 1 dX11_loadOf_38 rfl (by decide) rfl ?_
        refine x_goto 4 dX11_loadOf_41 (by decide) ?_
        refine x_pick (lv' := [(3, _), (2, _), (0, _), (1, _)]) [0, 1, 2, 3] rfl ?_
        exact ih (iM I - (i + 1)) (by omega) (i + 1) rfl _ rfl (by omega)
      · refine x_aload_n 2 dX11_loadOf_23 rfl rfl ?_
        refine x_getR fX11_29 dX11_loadOf_24 l83 rfl ?_
        refine x_iload_n 0 dX11_loadOf_27 rfl rfl ?_
        refine y_iald dX11_loadOf_28 l90 (by omega) (by decide) (hI.2.2.2.2.1 i (by omega)) ?_
        refine x_callSu (as := [_]) (rest := [_]) sX11_159 (c_X11_counts (by have := hK (by omega); omega)) dX11_loadOf_29 rfl rfl (Nat.le_of_ble_eq_true rfl) (Nat.le_of_ble_eq_true rfl) (Nat.le_of_ble_eq_true rfl) ?_
        refine x_goto 36 dX11_loadOf_32 (by decide) ?_
        refine y_iadd dX11_loadOf_36 ?_
        refine x_istore_n (lv' := [(2, _), (3, _), (0, _), (1, _)]) dX11_loadOf_37 rfl (by decide) rfl ?_
        rw [show ((sm (fun t => if w t = p then wt (iK I t) else 0) i) + (wt (iK I i))) = (sm (fun t => if w t = p then wt (iK I t) else 0) (i + 1)) from by rw [sm_s]; first | rw [if_neg (by omega)] | rw [if_pos (by omega)]]
        refine y_iinc (lv' := [(3, _), (2, _), (0, _), (1, _)]) 1 dX11_loadOf_38 rfl (by decide) rfl ?_
        refine x_goto 4 dX11_loadOf_41 (by decide) ?_
        refine x_pick (lv' := [(3, _), (2, _), (0, _), (1, _)]) [0, 1, 2, 3] rfl ?_
        exact ih (iM I - (i + 1)) (by omega) (i + 1) rfl _ rfl (by omega)

set_option maxHeartbeats 4000000 in
set_option maxRecDepth 100000 in
theorem c_X11_loadOf {S : St} {I : Isl} {w : Nat → Nat} (hI : IsM I S) (hO : IOK I) (hw0 : MW I w S) (hw7 : ∀ t, t < iM I → w t < 7) {p : Nat} (hp : p < 100)  : C 1 30 yX11_loadOf mX11_loadOf [.ref 83, .int (nI p)] S (pu (.int (nI (loadF I w p))) S) := by
  refine C.ofX (by decide) rfl (Nat.le_of_ble_eq_true rfl) ?_
  show X 1 30 mX11_loadOf (pu (.int (nI (loadF I w p))) S) 0 [(0, .ref 83), (1, .int (nI p))] [] S
  refine x_iconst (v := nI 0) dX11_loadOf_0 (by decide) ?_
  refine x_istore_n (lv' := [(2, _), (0, _), (1, _)]) dX11_loadOf_1 rfl (by decide) rfl ?_
  refine x_iconst (v := nI 0) dX11_loadOf_2 (by decide) ?_
  refine x_istore_n (lv' := [(3, _), (2, _), (0, _), (1, _)]) dX11_loadOf_3 rfl (by decide) rfl ?_
  refine x_pick (lv' := [(3, _), (2, _), (0, _), (1, _)]) [0, 1, 2, 3] rfl ?_
  exact lp_loadOf hI hO hw0 hw7 hp 0 S rfl (Nat.zero_le _)

set_option maxHeartbeats 4000000 in
set_option maxRecDepth 100000 in
theorem lp_ownedBy {S : St} {I : Isl} {w : Nat → Nat} (hI : IsM I S) (hO : IOK I) (hw0 : MW I w S) (hw : WOK I w) {p : Nat} (hp : p < 100)  : ∀ (i : Nat) (S1 : St), S1 = S → i ≤ iM I → X 1 30 mX11_ownedBy (pu (.int (nI (heldF I w p))) S) 4 [(3, .int (nI i)), (2, .int (nI ((mk (fun t => whomF I w t == p) i)))), (0, .ref 83), (1, .int (nI p))] [] S1 := by
  intro i
  induction hm : iM I - i using Nat.strongRecOn generalizing i with
  | _ mm ih =>
    intro S1 hS1 hi
    replace hS1 := hS1.symm
    subst hS1
    have hO1 := hO.1
    have hO2 := hO.2.1
    have hO3 := hO.2.2.1
    have hO4 := hO.2.2.2.1
    have hwh := @whomF_le I w hw i
    refine x_iload_n 0 dX11_ownedBy_4 rfl rfl ?_
    refine x_aload_n 2 dX11_ownedBy_5 rfl rfl ?_
    refine y_getI fX11_181 dX11_ownedBy_6 l83 rfl hI.2.1 ?_
    refine y_ic_ge 37 dX11_ownedBy_9 (by decide) (by omega) (by omega) (fun c_9 => ?_) (fun c_9 => ?_)
    · refine x_iload_n 1 dX11_ownedBy_37 rfl rfl ?_
      refine x_iret rfl dX11_ownedBy_38 (by obtain rfl : i = iM I := (by omega); exact ⟨rfl, rfl⟩)
    · refine x_iload_n 1 dX11_ownedBy_12 rfl rfl ?_
      refine x_aload_n 2 dX11_ownedBy_13 rfl rfl ?_
      refine x_iload_n 0 dX11_ownedBy_14 rfl rfl ?_
      refine x_callVu (as := [_]) (rest := [_]) vX11_199 (c_X11_with hI hO hw0 hw (by omega)) dX11_ownedBy_15 l83 rfl rfl rfl (Nat.le_of_ble_eq_true rfl) (Nat.le_of_ble_eq_true rfl) (Nat.le_of_ble_eq_true rfl) ?_
      refine x_iload_n 3 dX11_ownedBy_18 rfl rfl ?_
      refine y_ic_ne 28 dX11_ownedBy_19 (by decide) (by omega) (by omega) (fun c_19 => ?_) (fun c_19 => ?_)
      · refine x_iconst (v := nI 0) dX11_ownedBy_28 (by decide) ?_
        refine y_ior dX11_ownedBy_29 ?_
        refine x_istore_n (lv' := [(2, _), (3, _), (0, _), (1, _)]) dX11_ownedBy_30 rfl (by decide) rfl ?_
        rw [show ((mk (fun t => whomF I w t == p) i) ||| 0) = (mk (fun t => whomF I w t == p) (i + 1)) from by rw [mk_s]; first | rw [if_pos (by simpa using c_19), Nat.one_mul] | rw [if_neg (by simpa using c_19)]]
        refine y_iinc (lv' := [(3, _), (2, _), (0, _), (1, _)]) 1 dX11_ownedBy_31 rfl (by decide) rfl ?_
        refine x_goto 4 dX11_ownedBy_34 (by decide) ?_
        refine x_pick (lv' := [(3, _), (2, _), (0, _), (1, _)]) [0, 1, 2, 3] rfl ?_
        exact ih (iM I - (i + 1)) (by omega) (i + 1) rfl _ rfl (by omega)
      · refine x_iconst (v := nI 1) dX11_ownedBy_22 (by decide) ?_
        refine x_iload_n 0 dX11_ownedBy_23 rfl rfl ?_
        refine y_ishl dX11_ownedBy_24 (by omega) ?_
        refine x_goto 29 dX11_ownedBy_25 (by decide) ?_
        refine y_ior dX11_ownedBy_29 ?_
        refine x_istore_n (lv' := [(2, _), (3, _), (0, _), (1, _)]) dX11_ownedBy_30 rfl (by decide) rfl ?_
        rw [show ((mk (fun t => whomF I w t == p) i) ||| (1 * 2 ^ i)) = (mk (fun t => whomF I w t == p) (i + 1)) from by rw [mk_s]; first | rw [if_pos (by simpa using c_19), Nat.one_mul] | rw [if_neg (by simpa using c_19)]]
        refine y_iinc (lv' := [(3, _), (2, _), (0, _), (1, _)]) 1 dX11_ownedBy_31 rfl (by decide) rfl ?_
        refine x_goto 4 dX11_ownedBy_34 (by decide) ?_
        refine x_pick (lv' := [(3, _), (2, _), (0, _), (1, _)]) [0, 1, 2, 3] rfl ?_
        exact ih (iM I - (i + 1)) (by omega) (i + 1) rfl _ rfl (by omega)

set_option maxHeartbeats 4000000 in
set_option maxRecDepth 100000 in
theorem c_X11_ownedBy {S : St} {I : Isl} {w : Nat → Nat} (hI : IsM I S) (hO : IOK I) (hw0 : MW I w S) (hw : WOK I w) {p : Nat} (hp : p < 100)  : C 1 30 yX11_ownedBy mX11_ownedBy [.ref 83, .int (nI p)] S (pu (.int (nI (heldF I w p))) S) := by
  refine C.ofX (by decide) rfl (Nat.le_of_ble_eq_true rfl) ?_
  show X 1 30 mX11_ownedBy (pu (.int (nI (heldF I w p))) S) 0 [(0, .ref 83), (1, .int (nI p))] [] S
  refine x_iconst (v := nI 0) dX11_ownedBy_0 (by decide) ?_
  refine x_istore_n (lv' := [(2, _), (0, _), (1, _)]) dX11_ownedBy_1 rfl (by decide) rfl ?_
  refine x_iconst (v := nI 0) dX11_ownedBy_2 (by decide) ?_
  refine x_istore_n (lv' := [(3, _), (2, _), (0, _), (1, _)]) dX11_ownedBy_3 rfl (by decide) rfl ?_
  refine x_pick (lv' := [(3, _), (2, _), (0, _), (1, _)]) [0, 1, 2, 3] rfl ?_
  exact lp_ownedBy hI hO hw0 hw hp 0 S rfl (Nat.zero_le _)

theorem IOK.inj {I : Isl} (hO : IOK I) {b c : Nat} (hb : b < iB I) (hc : c < iB I) (h : iG I b = iG I c) : b = c := by
  have h4 := hO.2.2.2.1
  have hlt := hO.2.2.2.2.2.2.1
  rcases (show b = 0 ∨ b = 1 by omega) with rfl | rfl <;> rcases (show c = 0 ∨ c = 1 by omega) with rfl | rfl
  · rfl
  · have := hlt (by omega); omega
  · have := hlt (by omega); omega
  · rfl

set_option maxHeartbeats 4000000 in
set_option maxRecDepth 100000 in
theorem lp_inside {S : St} {I : Isl} {w : Nat → Nat} (hI : IsM I S) (hO : IOK I) (hw0 : MW I w S) (hwo : ∀ t, t < iM I → w t < 5 + iB I) {b : Nat} (hb : b < iB I)  : ∀ (i : Nat) (S1 : St), S1 = S → i ≤ iM I → X 0 0 mX11_insideMany (pu (.int (nI (insF I w b))) S) 4 [(3, .int (nI i)), (2, .int (nI ((sm (fun t => if w t = 5 + b then 1 else 0) i)))), (0, .ref 83), (1, .int (nI ((iG I b))))] [] S1 := by
  intro i
  induction hm : iM I - i using Nat.strongRecOn generalizing i with
  | _ mm ih =>
    intro S1 hS1 hi
    replace hS1 := hS1.symm
    subst hS1
    have hO1 := hO.1
    have hO2 := hO.2.1
    have hO3 := hO.2.2.1
    have hO4 := hO.2.2.2.1
    have hwi := hwo i
    have hgb := (hO.2.2.2.2.2.1 b hb).1
    have hgi := fun h => (hO.2.2.2.2.2.1 (w i - 5) h).1
    have hinj := fun h => hO.inj (b := w i - 5) (c := b) h hb
    refine x_iload_n 0 dX11_insideMany_4 rfl rfl ?_
    refine x_aload_n 2 dX11_insideMany_5 rfl rfl ?_
    refine y_getI fX11_181 dX11_insideMany_6 l83 rfl hI.2.1 ?_
    refine y_ic_ge 53 dX11_insideMany_9 (by decide) (by omega) (by omega) (fun c_9 => ?_) (fun c_9 => ?_)
    · refine x_iload_n 1 dX11_insideMany_53 rfl rfl ?_
      refine x_iret rfl dX11_insideMany_54 (by obtain rfl : i = iM I := (by omega); exact ⟨rfl, rfl⟩)
    · refine x_iload_n 1 dX11_insideMany_12 rfl rfl ?_
      refine x_aload_n 2 dX11_insideMany_13 rfl rfl ?_
      refine x_getR fX11_50 dX11_insideMany_14 l83 rfl ?_
      refine x_iload_n 0 dX11_insideMany_17 rfl rfl ?_
      refine y_iald dX11_insideMany_18 l97 (by omega) (by decide) (hw0 i (by omega)) ?_
      refine x_iconst (v := nI 5) dX11_insideMany_19 (by decide) ?_
      refine y_ic_lt 44 dX11_insideMany_20 (by decide) (by omega) (by omega) (fun c_20 => ?_) (fun c_20 => ?_)
      · refine x_iconst (v := nI 0) dX11_insideMany_44 (by decide) ?_
        refine y_iadd dX11_insideMany_45 ?_
        refine x_istore_n (lv' := [(2, _), (3, _), (0, _), (1, _)]) dX11_insideMany_46 rfl (by decide) rfl ?_
        rw [show ((sm (fun t => if w t = 5 + b then 1 else 0) i) + 0) = (sm (fun t => if w t = 5 + b then 1 else 0) (i + 1)) from by rw [sm_s]; first | (rw [if_neg (by omega)]; done) | (rw [if_neg (by intro e; apply c_37; rw [show w i - 5 = b by omega])]; done) | (rw [if_pos (by have := hinj (by omega) c_37; omega)]; done)]
        refine y_iinc (lv' := [(3, _), (2, _), (0, _), (1, _)]) 1 dX11_insideMany_47 rfl (by decide) rfl ?_
        refine x_goto 4 dX11_insideMany_50 (by decide) ?_
        refine x_pick (lv' := [(3, _), (2, _), (0, _), (1, _)]) [0, 1, 2, 3] rfl ?_
        exact ih (iM I - (i + 1)) (by omega) (i + 1) rfl _ rfl (by omega)
      · refine x_aload_n 2 dX11_insideMany_23 rfl rfl ?_
        refine x_getR fX11_32 dX11_insideMany_24 l83 rfl ?_
        refine x_aload_n 2 dX11_insideMany_27 rfl rfl ?_
        refine x_getR fX11_50 dX11_insideMany_28 l83 rfl ?_
        refine x_iload_n 0 dX11_insideMany_31 rfl rfl ?_
        refine y_iald dX11_insideMany_32 l97 (by omega) (by decide) (hw0 i (by omega)) ?_
        refine x_iconst (v := nI 5) dX11_insideMany_33 (by decide) ?_
        refine y_isub dX11_insideMany_34 (by omega) ?_
        refine y_iald dX11_insideMany_35 l91 (by omega) (by decide) (hI.2.2.2.2.2.1 _ (by omega)) ?_
        refine x_iload_n 3 dX11_insideMany_36 rfl rfl ?_
        refine y_ic_ne 44 dX11_insideMany_37 (by decide) (by have := hgi (by omega); omega) (by omega) (fun c_37 => ?_) (fun c_37 => ?_)
        · refine x_iconst (v := nI 0) dX11_insideMany_44 (by decide) ?_
          refine y_iadd dX11_insideMany_45 ?_
          refine x_istore_n (lv' := [(2, _), (3, _), (0, _), (1, _)]) dX11_insideMany_46 rfl (by decide) rfl ?_
          rw [show ((sm (fun t => if w t = 5 + b then 1 else 0) i) + 0) = (sm (fun t => if w t = 5 + b then 1 else 0) (i + 1)) from by rw [sm_s]; first | (rw [if_neg (by omega)]; done) | (rw [if_neg (by intro e; apply c_37; rw [show w i - 5 = b by omega])]; done) | (rw [if_pos (by have := hinj (by omega) c_37; omega)]; done)]
          refine y_iinc (lv' := [(3, _), (2, _), (0, _), (1, _)]) 1 dX11_insideMany_47 rfl (by decide) rfl ?_
          refine x_goto 4 dX11_insideMany_50 (by decide) ?_
          refine x_pick (lv' := [(3, _), (2, _), (0, _), (1, _)]) [0, 1, 2, 3] rfl ?_
          exact ih (iM I - (i + 1)) (by omega) (i + 1) rfl _ rfl (by omega)
        · refine x_iconst (v := nI 1) dX11_insideMany_40 (by decide) ?_
          refine x_goto 45 dX11_insideMany_41 (by decide) ?_
          refine y_iadd dX11_insideMany_45 ?_
          refine x_istore_n (lv' := [(2, _), (3, _), (0, _), (1, _)]) dX11_insideMany_46 rfl (by decide) rfl ?_
          rw [show ((sm (fun t => if w t = 5 + b then 1 else 0) i) + 1) = (sm (fun t => if w t = 5 + b then 1 else 0) (i + 1)) from by rw [sm_s]; first | (rw [if_neg (by omega)]; done) | (rw [if_neg (by intro e; apply c_37; rw [show w i - 5 = b by omega])]; done) | (rw [if_pos (by have := hinj (by omega) c_37; omega)]; done)]
          refine y_iinc (lv' := [(3, _), (2, _), (0, _), (1, _)]) 1 dX11_insideMany_47 rfl (by decide) rfl ?_
          refine x_goto 4 dX11_insideMany_50 (by decide) ?_
          refine x_pick (lv' := [(3, _), (2, _), (0, _), (1, _)]) [0, 1, 2, 3] rfl ?_
          exact ih (iM I - (i + 1)) (by omega) (i + 1) rfl _ rfl (by omega)

set_option maxHeartbeats 4000000 in
set_option maxRecDepth 100000 in
theorem c_X11_insideMany {S : St} {I : Isl} {w : Nat → Nat} (hI : IsM I S) (hO : IOK I) (hw0 : MW I w S) (hwo : ∀ t, t < iM I → w t < 5 + iB I) {b : Nat} (hb : b < iB I)  : C 0 0 yX11_insideMany mX11_insideMany [.ref 83, .int (nI ((iG I b)))] S (pu (.int (nI (insF I w b))) S) := by
  refine C.ofX (by decide) rfl (Nat.le_of_ble_eq_true rfl) ?_
  show X 0 0 mX11_insideMany (pu (.int (nI (insF I w b))) S) 0 [(0, .ref 83), (1, .int (nI ((iG I b))))] [] S
  refine x_iconst (v := nI 0) dX11_insideMany_0 (by decide) ?_
  refine x_istore_n (lv' := [(2, _), (0, _), (1, _)]) dX11_insideMany_1 rfl (by decide) rfl ?_
  refine x_iconst (v := nI 0) dX11_insideMany_2 (by decide) ?_
  refine x_istore_n (lv' := [(3, _), (2, _), (0, _), (1, _)]) dX11_insideMany_3 rfl (by decide) rfl ?_
  refine x_pick (lv' := [(3, _), (2, _), (0, _), (1, _)]) [0, 1, 2, 3] rfl ?_
  exact lp_inside hI hO hw0 hwo hb 0 S rfl (Nat.zero_le _)

set_option maxHeartbeats 4000000 in
set_option maxRecDepth 100000 in
theorem c_X11_roomIn {S : St} {I : Isl} {w : Nat → Nat} (hI : IsM I S) (hO : IOK I) (hw0 : MW I w S) (hwo : ∀ t, t < iM I → w t < 5 + iB I) {b : Nat} (hb : b < iB I)  : C 1 30 yX11_roomIn mX11_roomIn [.ref 83, .int (nI ((iG I b)))] S (pu (.int (nI (rm (iK I (iG I b))) - nI (insF I w b))) S) := by
  have hO1 := hO.1
  have hO2 := hO.2.1
  have hO3 := hO.2.2.1
  have hO4 := hO.2.2.2.1
  obtain ⟨hg, hbk⟩ := hO.2.2.2.2.2.1 b hb
  have hk5 := hO.2.2.2.2.1 _ hg
  refine C.ofX (by decide) rfl (Nat.le_of_ble_eq_true rfl) ?_
  show X 1 30 mX11_roomIn (pu (.int (nI (rm (iK I (iG I b))) - nI (insF I w b))) S) 0 [(0, .ref 83), (1, .int (nI ((iG I b))))] [] S
  refine x_aload_n 0 dX11_roomIn_0 rfl rfl ?_
  refine x_getR fX11_29 dX11_roomIn_1 l83 rfl ?_
  refine x_iload_n 1 dX11_roomIn_4 rfl rfl ?_
  refine y_iald dX11_roomIn_5 l90 (by omega) (by decide) (hI.2.2.2.2.1 _ hg) ?_
  refine x_iconst (v := nI 4) dX11_roomIn_6 (by decide) ?_
  refine y_ic_ne 14 dX11_roomIn_7 (by decide) (by omega) (by omega) (fun c_7 => ?_) (fun c_7 => ?_)
  · refine x_iconst (v := nI 1) dX11_roomIn_14 (by decide) ?_
    refine x_aload_n 0 dX11_roomIn_15 rfl rfl ?_
    refine x_iload_n 1 dX11_roomIn_16 rfl rfl ?_
    refine x_callVu (as := [_]) (rest := [_]) vX11_202 (c_X11_insideMany hI hO hw0 hwo hb) dX11_roomIn_17 l83 rfl rfl rfl (Nat.le_of_ble_eq_true rfl) (Nat.le_of_ble_eq_true rfl) (Nat.le_of_ble_eq_true rfl) ?_
    refine x_isub dX11_roomIn_20 ?_
    refine x_iret rfl dX11_roomIn_21 ⟨by unfold rm; unfold bagK at hbk; first | rw [if_pos (by omega)] | rw [if_neg (by omega), if_pos (by omega)], rfl⟩
  · refine x_iconst (v := nI 2) dX11_roomIn_10 (by decide) ?_
    refine x_goto 15 dX11_roomIn_11 (by decide) ?_
    refine x_aload_n 0 dX11_roomIn_15 rfl rfl ?_
    refine x_iload_n 1 dX11_roomIn_16 rfl rfl ?_
    refine x_callVu (as := [_]) (rest := [_]) vX11_202 (c_X11_insideMany hI hO hw0 hwo hb) dX11_roomIn_17 l83 rfl rfl rfl (Nat.le_of_ble_eq_true rfl) (Nat.le_of_ble_eq_true rfl) (Nat.le_of_ble_eq_true rfl) ?_
    refine x_isub dX11_roomIn_20 ?_
    refine x_iret rfl dX11_roomIn_21 ⟨by unfold rm; unfold bagK at hbk; first | rw [if_pos (by omega)] | rw [if_neg (by omega), if_pos (by omega)], rfl⟩

set_option maxHeartbeats 4000000 in
set_option maxRecDepth 100000 in
theorem c_X11_isWithin {S : St} {I : Isl} {w : Nat → Nat} (hI : IsM I S) (hO : IOK I) (hw0 : MW I w S) (hw7 : ∀ t, t < iM I → w t < 7) {L : Nat} (hL : S.1 83 17 = nI L) (hL7 : L ≤ 10) {t to : Nat} (ht : t < iM I) (hto : to ≤ 6) : C 2 60 yX11_isWithin mX11_isWithin [.ref 83, .int (nI t), .int (nI to)] S (pb (fitF I w L t to) S) := by
  have hO1 := hO.1
  have hO2 := hO.2.1
  have hO3 := hO.2.2.1
  have hO4 := hO.2.2.2.1
  have h1 := loadF_le I hO w to
  have h2 := wt_le (iK I t)
  have hk5 := hO.2.2.2.2.1 t ht
  refine C.ofX (by decide) rfl (Nat.le_of_ble_eq_true rfl) ?_
  show X 2 60 mX11_isWithin (pb (fitF I w L t to) S) 0 [(0, .ref 83), (1, .int (nI t)), (2, .int (nI to))] [] S
  refine x_iload_n 2 dX11_isWithin_0 rfl rfl ?_
  refine x_iconst (v := nI 4) dX11_isWithin_1 (by decide) ?_
  refine y_ic_eq 27 dX11_isWithin_2 (by decide) (by omega) (by omega) (fun c_2 => ?_) (fun c_2 => ?_)
  · refine x_iconst (v := nI 1) dX11_isWithin_27 (by decide) ?_
    refine x_goto 32 dX11_isWithin_28 (by decide) ?_
    refine x_zret rfl dX11_isWithin_32 (by decide) ⟨Or.inl ⟨rfl, by (unfold fitF; omega)⟩, rfl⟩
  · refine x_aload_n 0 dX11_isWithin_5 rfl rfl ?_
    refine x_iload_n 2 dX11_isWithin_6 rfl rfl ?_
    refine x_callVu (as := [_]) (rest := []) vX11_205 (c_X11_loadOf hI hO hw0 hw7 (by omega)) dX11_isWithin_7 l83 rfl rfl rfl (Nat.le_of_ble_eq_true rfl) (Nat.le_of_ble_eq_true rfl) (Nat.le_of_ble_eq_true rfl) ?_
    refine x_aload_n 0 dX11_isWithin_10 rfl rfl ?_
    refine x_getR fX11_29 dX11_isWithin_11 l83 rfl ?_
    refine x_iload_n 1 dX11_isWithin_14 rfl rfl ?_
    refine y_iald dX11_isWithin_15 l90 (by omega) (by decide) (hI.2.2.2.2.1 t ht) ?_
    refine x_callSu (as := [_]) (rest := [_]) sX11_159 (c_X11_counts hk5) dX11_isWithin_16 rfl rfl (Nat.le_of_ble_eq_true rfl) (Nat.le_of_ble_eq_true rfl) (Nat.le_of_ble_eq_true rfl) ?_
    refine y_iadd dX11_isWithin_19 ?_
    refine x_aload_n 0 dX11_isWithin_20 rfl rfl ?_
    refine y_getI fX11_91 dX11_isWithin_21 l83 rfl hL ?_
    refine y_ic_gt 31 dX11_isWithin_24 (by decide) (by omega) (by omega) (fun c_24 => ?_) (fun c_24 => ?_)
    · refine x_iconst (v := nI 0) dX11_isWithin_31 (by decide) ?_
      refine x_zret rfl dX11_isWithin_32 (by decide) ⟨Or.inr ⟨rfl, by (unfold fitF; omega)⟩, rfl⟩
    · refine x_iconst (v := nI 1) dX11_isWithin_27 (by decide) ?_
      refine x_goto 32 dX11_isWithin_28 (by decide) ?_
      refine x_zret rfl dX11_isWithin_32 (by decide) ⟨Or.inl ⟨rfl, by (unfold fitF; omega)⟩, rfl⟩

set_option maxHeartbeats 4000000 in
set_option maxRecDepth 100000 in
theorem c_X11_mayStep {S : St} {I : Isl} {w : Nat → Nat} (hI : IsM I S) (hO : IOK I) (hw0 : MW I w S) (hw : WOK I w) {L : Nat} (hL : S.1 83 17 = nI L) (hL7 : L ≤ 10) {t to : Nat} (ht : t < iM I) (hto : to < 7) : C 3 90 yX11_mayStep mX11_mayStep [.ref 83, .int (nI t), .int (nI to)] S (pb (mayF I w L t to) S) := by
  have hO1 := hO.1
  have hO2 := hO.2.1
  have hO3 := hO.2.2.1
  have hO4 := hO.2.2.2.1
  have hwt := hw.1 t ht
  have hwh := whomF_le hw ht
  have hk5 := hO.2.2.2.2.1 t ht
  have hgi := fun h => (hO.2.2.2.2.2.1 (to - 5) h).1
  have hwg := hw.2 (to - 5)
  have hpl : plcI I (nI to) ↔ plcF I to := plcI_n (by omega)
  have hin := insF_le I hO w (to - 5)
  have hrm := rm_le (iK I (iG I (to - 5)))
  refine C.ofX (by decide) rfl (Nat.le_of_ble_eq_true rfl) ?_
  show X 3 90 mX11_mayStep (pb (mayF I w L t to) S) 0 [(0, .ref 83), (1, .int (nI t)), (2, .int (nI to))] [] S
  refine x_aload_n 0 dX11_mayStep_0 rfl rfl ?_
  refine x_getR fX11_50 dX11_mayStep_1 l83 rfl ?_
  refine x_iload_n 1 dX11_mayStep_4 rfl rfl ?_
  refine y_iald dX11_mayStep_5 l97 (by omega) (by decide) (hw0 t ht) ?_
  refine x_istore_n (lv' := [(3, _), (0, _), (1, _), (2, _)]) dX11_mayStep_6 rfl (by decide) rfl ?_
  refine x_aload_n 1 dX11_mayStep_7 rfl rfl ?_
  refine x_iload_n 3 dX11_mayStep_8 rfl rfl ?_
  refine x_callVb (as := [_]) (rest := []) vX11_208 (c_X11_isPlace (w := w) hI hO) dX11_mayStep_9 l83 rfl rfl rfl (Nat.le_of_ble_eq_true rfl) (Nat.le_of_ble_eq_true rfl) (Nat.le_of_ble_eq_true rfl) (fun c_9 => ?_) (fun c_9 => ?_)
  · refine u_if_eq 20 dX11_mayStep_12 (by decide) (by decide) ?_
    refine x_iload_n 3 dX11_mayStep_15 rfl rfl ?_
    refine x_iload_n 0 dX11_mayStep_16 rfl rfl ?_
    refine y_ic_ne 22 dX11_mayStep_17 (by decide) (by omega) (by omega) (fun c_17 => ?_) (fun c_17 => ?_)
    · refine x_iload_n 0 dX11_mayStep_22 rfl rfl ?_
      refine x_iconst (v := nI 5) dX11_mayStep_23 (by decide) ?_
      refine y_ic_lt 51 dX11_mayStep_24 (by decide) (by omega) (by omega) (fun c_24 => ?_) (fun c_24 => ?_)
      · refine x_iload_n 3 dX11_mayStep_51 rfl rfl ?_
        refine x_iconst (v := nI 5) dX11_mayStep_52 (by decide) ?_
        refine y_ic_lt 116 dX11_mayStep_53 (by decide) (by omega) (by omega) (fun c_53 => ?_) (fun c_53 => ?_)
        · refine x_iload_n 3 dX11_mayStep_116 rfl rfl ?_
          refine x_iconst (v := nI 4) dX11_mayStep_117 (by decide) ?_
          refine y_ic_ne 141 dX11_mayStep_118 (by decide) (by omega) (by omega) (fun c_118 => ?_) (fun c_118 => ?_)
          · refine x_aload_n 1 dX11_mayStep_141 rfl rfl ?_
            refine x_iload_n 2 dX11_mayStep_142 rfl rfl ?_
            refine x_iload_n 3 dX11_mayStep_143 rfl rfl ?_
            refine x_callVb (as := [_, _]) (rest := []) vX11_211 (c_X11_isWithin hI hO hw0 (hw.w7 hO) hL hL7 ht (by omega)) dX11_mayStep_144 l83 rfl rfl rfl (Nat.le_of_ble_eq_true rfl) (Nat.le_of_ble_eq_true rfl) (Nat.le_of_ble_eq_true rfl) (fun c_144 => ?_) (fun c_144 => ?_)
            · refine x_zret rfl dX11_mayStep_147 (by decide) ⟨Or.inl ⟨rfl, by (unfold mayF; first | exact ⟨hpl.mp c_9, by omega, by rw [if_pos (by omega)]; exact ⟨by omega, c_39⟩⟩ | exact ⟨hpl.mp c_9, by omega, by rw [if_neg (by omega), if_pos (by omega)]; exact ⟨c_72, c_84, by omega, by omega⟩⟩ | exact ⟨hpl.mp c_9, by omega, by rw [if_neg (by omega), if_neg (by omega), if_pos (by omega)]; exact c_127⟩ | exact ⟨hpl.mp c_9, by omega, by rw [if_neg (by omega), if_neg (by omega), if_neg (by omega)]; exact c_144⟩)⟩, rfl⟩
            · refine x_zret rfl dX11_mayStep_147 (by decide) ⟨Or.inr ⟨rfl, by (unfold mayF; first | exact fun h => c_9 (hpl.mpr h.1) | (intro h; omega) | (rintro ⟨h1, h2, h3⟩; first | omega | (rw [if_pos (by omega)] at h3; first | omega | exact c_39 h3.2) | (rw [if_neg (by omega), if_pos (by omega)] at h3; first | omega | exact h3.1 c_72 | exact h3.2.1 c_84) | (rw [if_neg (by omega), if_neg (by omega), if_pos (by omega)] at h3; exact h3 c_127) | (rw [if_neg (by omega), if_neg (by omega), if_neg (by omega)] at h3; exact c_144 h3)))⟩, rfl⟩
          · refine x_aload_n 1 dX11_mayStep_121 rfl rfl ?_
            refine x_getR fX11_29 dX11_mayStep_122 l83 rfl ?_
            refine x_iload_n 2 dX11_mayStep_125 rfl rfl ?_
            refine y_iald dX11_mayStep_126 l90 (by omega) (by decide) (hI.2.2.2.2.1 t ht) ?_
            refine x_callSb (as := [_]) (rest := []) sX11_156 (c_X11_isLivingKind hk5) dX11_mayStep_127 rfl rfl (Nat.le_of_ble_eq_true rfl) (Nat.le_of_ble_eq_true rfl) (Nat.le_of_ble_eq_true rfl) (fun c_127 => ?_) (fun c_127 => ?_)
            · refine t_if_ne 137 dX11_mayStep_130 (by decide) (by decide) ?_
              refine x_iconst (v := nI 0) dX11_mayStep_137 (by decide) ?_
              refine x_goto 147 dX11_mayStep_138 (by decide) ?_
              refine x_zret rfl dX11_mayStep_147 (by decide) ⟨Or.inr ⟨rfl, by (unfold mayF; first | exact fun h => c_9 (hpl.mpr h.1) | (intro h; omega) | (rintro ⟨h1, h2, h3⟩; first | omega | (rw [if_pos (by omega)] at h3; first | omega | exact c_39 h3.2) | (rw [if_neg (by omega), if_pos (by omega)] at h3; first | omega | exact h3.1 c_72 | exact h3.2.1 c_84) | (rw [if_neg (by omega), if_neg (by omega), if_pos (by omega)] at h3; exact h3 c_127) | (rw [if_neg (by omega), if_neg (by omega), if_neg (by omega)] at h3; exact c_144 h3)))⟩, rfl⟩
            · refine u_if_ne 137 dX11_mayStep_130 (by decide) (by decide) ?_
              refine x_iconst (v := nI 1) dX11_mayStep_133 (by decide) ?_
              refine x_goto 147 dX11_mayStep_134 (by decide) ?_
              refine x_zret rfl dX11_mayStep_147 (by decide) ⟨Or.inl ⟨rfl, by (unfold mayF; first | exact ⟨hpl.mp c_9, by omega, by rw [if_pos (by omega)]; exact ⟨by omega, c_39⟩⟩ | exact ⟨hpl.mp c_9, by omega, by rw [if_neg (by omega), if_pos (by omega)]; exact ⟨c_72, c_84, by omega, by omega⟩⟩ | exact ⟨hpl.mp c_9, by omega, by rw [if_neg (by omega), if_neg (by omega), if_pos (by omega)]; exact c_127⟩ | exact ⟨hpl.mp c_9, by omega, by rw [if_neg (by omega), if_neg (by omega), if_neg (by omega)]; exact c_144⟩)⟩, rfl⟩
        · refine x_aload_n 1 dX11_mayStep_56 rfl rfl ?_
          refine x_getR fX11_32 dX11_mayStep_57 l83 rfl ?_
          refine x_iload_n 3 dX11_mayStep_60 rfl rfl ?_
          refine x_iconst (v := nI 5) dX11_mayStep_61 (by decide) ?_
          refine y_isub dX11_mayStep_62 (by omega) ?_
          refine y_iald dX11_mayStep_63 l91 (by have := hpl.mp c_9; unfold plcF at this; omega) (by decide) (hI.2.2.2.2.2.1 _ (by have := hpl.mp c_9; unfold plcF at this; omega)) ?_
          refine x_istore (lv' := [(4, _), (3, _), (0, _), (1, _), (2, _)]) dX11_mayStep_64 (by decide) rfl ?_
          refine x_aload_n 2 dX11_mayStep_66 rfl rfl ?_
          refine x_getR fX11_29 dX11_mayStep_67 l83 rfl ?_
          refine x_iload_n 3 dX11_mayStep_70 rfl rfl ?_
          refine y_iald dX11_mayStep_71 l90 (by omega) (by decide) (hI.2.2.2.2.1 t ht) ?_
          refine x_callSb (as := [_]) (rest := []) sX11_150 (c_X11_isBagKind hk5) dX11_mayStep_72 rfl rfl (Nat.le_of_ble_eq_true rfl) (Nat.le_of_ble_eq_true rfl) (Nat.le_of_ble_eq_true rfl) (fun c_72 => ?_) (fun c_72 => ?_)
          · refine t_if_ne 114 dX11_mayStep_75 (by decide) (by decide) ?_
            refine x_iconst (v := nI 0) dX11_mayStep_114 (by decide) ?_
            refine x_zret rfl dX11_mayStep_115 (by decide) ⟨Or.inr ⟨rfl, by (unfold mayF; first | exact fun h => c_9 (hpl.mpr h.1) | (intro h; omega) | (rintro ⟨h1, h2, h3⟩; first | omega | (rw [if_pos (by omega)] at h3; first | omega | exact c_39 h3.2) | (rw [if_neg (by omega), if_pos (by omega)] at h3; first | omega | exact h3.1 c_72 | exact h3.2.1 c_84) | (rw [if_neg (by omega), if_neg (by omega), if_pos (by omega)] at h3; exact h3 c_127) | (rw [if_neg (by omega), if_neg (by omega), if_neg (by omega)] at h3; exact c_144 h3)))⟩, rfl⟩
          · refine u_if_ne 114 dX11_mayStep_75 (by decide) (by decide) ?_
            refine x_aload_n 2 dX11_mayStep_78 rfl rfl ?_
            refine x_getR fX11_29 dX11_mayStep_79 l83 rfl ?_
            refine x_iload_n 3 dX11_mayStep_82 rfl rfl ?_
            refine y_iald dX11_mayStep_83 l90 (by omega) (by decide) (hI.2.2.2.2.1 t ht) ?_
            refine x_callSb (as := [_]) (rest := []) sX11_156 (c_X11_isLivingKind hk5) dX11_mayStep_84 rfl rfl (Nat.le_of_ble_eq_true rfl) (Nat.le_of_ble_eq_true rfl) (Nat.le_of_ble_eq_true rfl) (fun c_84 => ?_) (fun c_84 => ?_)
            · refine t_if_ne 114 dX11_mayStep_87 (by decide) (by decide) ?_
              refine x_iconst (v := nI 0) dX11_mayStep_114 (by decide) ?_
              refine x_zret rfl dX11_mayStep_115 (by decide) ⟨Or.inr ⟨rfl, by (unfold mayF; first | exact fun h => c_9 (hpl.mpr h.1) | (intro h; omega) | (rintro ⟨h1, h2, h3⟩; first | omega | (rw [if_pos (by omega)] at h3; first | omega | exact c_39 h3.2) | (rw [if_neg (by omega), if_pos (by omega)] at h3; first | omega | exact h3.1 c_72 | exact h3.2.1 c_84) | (rw [if_neg (by omega), if_neg (by omega), if_pos (by omega)] at h3; exact h3 c_127) | (rw [if_neg (by omega), if_neg (by omega), if_neg (by omega)] at h3; exact c_144 h3)))⟩, rfl⟩
            · refine u_if_ne 114 dX11_mayStep_87 (by decide) (by decide) ?_
              refine x_aload_n 2 dX11_mayStep_90 rfl rfl ?_
              refine x_getR fX11_50 dX11_mayStep_91 l83 rfl ?_
              refine x_iload 0 dX11_mayStep_94 rfl ?_
              refine y_iald dX11_mayStep_96 l97 (by have := hgi (by have := hpl.mp c_9; unfold plcF at this; omega); omega) (by decide) (hw0 _ (hgi (by have := hpl.mp c_9; unfold plcF at this; omega))) ?_
              refine x_iload_n 1 dX11_mayStep_97 rfl rfl ?_
              refine y_ic_ne 114 dX11_mayStep_98 (by decide) (by have := hwg (by have := hpl.mp c_9; unfold plcF at this; omega); omega) (by omega) (fun c_98 => ?_) (fun c_98 => ?_)
              · refine x_iconst (v := nI 0) dX11_mayStep_114 (by decide) ?_
                refine x_zret rfl dX11_mayStep_115 (by decide) ⟨Or.inr ⟨rfl, by (unfold mayF; first | exact fun h => c_9 (hpl.mpr h.1) | (intro h; omega) | (rintro ⟨h1, h2, h3⟩; first | omega | (rw [if_pos (by omega)] at h3; first | omega | exact c_39 h3.2) | (rw [if_neg (by omega), if_pos (by omega)] at h3; first | omega | exact h3.1 c_72 | exact h3.2.1 c_84) | (rw [if_neg (by omega), if_neg (by omega), if_pos (by omega)] at h3; exact h3 c_127) | (rw [if_neg (by omega), if_neg (by omega), if_neg (by omega)] at h3; exact c_144 h3)))⟩, rfl⟩
              · refine x_aload_n 2 dX11_mayStep_101 rfl rfl ?_
                refine x_iload 0 dX11_mayStep_102 rfl ?_
                refine x_callVu (as := [_]) (rest := []) vX11_214 (c_X11_roomIn hI hO hw0 hw.1 (by have := hpl.mp c_9; unfold plcF at this; omega)) dX11_mayStep_104 l83 rfl rfl rfl (Nat.le_of_ble_eq_true rfl) (Nat.le_of_ble_eq_true rfl) (Nat.le_of_ble_eq_true rfl) ?_
                have hro := toI_sub (x := nI (rm (iK I (iG I (to - 5))))) (y := nI (insF I w (to - 5))) (by rw [tiN (by omega)]; omega) (by rw [tiN (by omega)]; omega) (by rw [tiN (by omega)]; omega) (by rw [tiN (by omega)]; omega)
                rw [tiN (by omega), tiN (by omega)] at hro
                refine x_if_le 114 dX11_mayStep_107 (by decide) (fun c_107 => ?_) (fun c_107 => ?_)
                · refine x_iconst (v := nI 0) dX11_mayStep_114 (by decide) ?_
                  refine x_zret rfl dX11_mayStep_115 (by decide) ⟨Or.inr ⟨rfl, by (unfold mayF; first | exact fun h => c_9 (hpl.mpr h.1) | (intro h; omega) | (rintro ⟨h1, h2, h3⟩; first | omega | (rw [if_pos (by omega)] at h3; first | omega | exact c_39 h3.2) | (rw [if_neg (by omega), if_pos (by omega)] at h3; first | omega | exact h3.1 c_72 | exact h3.2.1 c_84) | (rw [if_neg (by omega), if_neg (by omega), if_pos (by omega)] at h3; exact h3 c_127) | (rw [if_neg (by omega), if_neg (by omega), if_neg (by omega)] at h3; exact c_144 h3)))⟩, rfl⟩
                · refine x_iconst (v := nI 1) dX11_mayStep_110 (by decide) ?_
                  refine x_goto 115 dX11_mayStep_111 (by decide) ?_
                  refine x_zret rfl dX11_mayStep_115 (by decide) ⟨Or.inl ⟨rfl, by (unfold mayF; first | exact ⟨hpl.mp c_9, by omega, by rw [if_pos (by omega)]; exact ⟨by omega, c_39⟩⟩ | exact ⟨hpl.mp c_9, by omega, by rw [if_neg (by omega), if_pos (by omega)]; exact ⟨c_72, c_84, by omega, by omega⟩⟩ | exact ⟨hpl.mp c_9, by omega, by rw [if_neg (by omega), if_neg (by omega), if_pos (by omega)]; exact c_127⟩ | exact ⟨hpl.mp c_9, by omega, by rw [if_neg (by omega), if_neg (by omega), if_neg (by omega)]; exact c_144⟩)⟩, rfl⟩
      · refine x_iload_n 3 dX11_mayStep_27 rfl rfl ?_
        refine x_aload_n 1 dX11_mayStep_28 rfl rfl ?_
        refine x_iload_n 2 dX11_mayStep_29 rfl rfl ?_
        refine x_callVu (as := [_]) (rest := [_]) vX11_199 (c_X11_with hI hO hw0 hw ht) dX11_mayStep_30 l83 rfl rfl rfl (Nat.le_of_ble_eq_true rfl) (Nat.le_of_ble_eq_true rfl) (Nat.le_of_ble_eq_true rfl) ?_
        refine y_ic_ne 49 dX11_mayStep_33 (by decide) (by omega) (by omega) (fun c_33 => ?_) (fun c_33 => ?_)
        · refine x_iconst (v := nI 0) dX11_mayStep_49 (by decide) ?_
          refine x_zret rfl dX11_mayStep_50 (by decide) ⟨Or.inr ⟨rfl, by (unfold mayF; first | exact fun h => c_9 (hpl.mpr h.1) | (intro h; omega) | (rintro ⟨h1, h2, h3⟩; first | omega | (rw [if_pos (by omega)] at h3; first | omega | exact c_39 h3.2) | (rw [if_neg (by omega), if_pos (by omega)] at h3; first | omega | exact h3.1 c_72 | exact h3.2.1 c_84) | (rw [if_neg (by omega), if_neg (by omega), if_pos (by omega)] at h3; exact h3 c_127) | (rw [if_neg (by omega), if_neg (by omega), if_neg (by omega)] at h3; exact c_144 h3)))⟩, rfl⟩
        · refine x_aload_n 1 dX11_mayStep_36 rfl rfl ?_
          refine x_iload_n 2 dX11_mayStep_37 rfl rfl ?_
          refine x_iload_n 3 dX11_mayStep_38 rfl rfl ?_
          refine x_callVb (as := [_, _]) (rest := []) vX11_211 (c_X11_isWithin hI hO hw0 (hw.w7 hO) hL hL7 ht (by omega)) dX11_mayStep_39 l83 rfl rfl rfl (Nat.le_of_ble_eq_true rfl) (Nat.le_of_ble_eq_true rfl) (Nat.le_of_ble_eq_true rfl) (fun c_39 => ?_) (fun c_39 => ?_)
          · refine u_if_eq 49 dX11_mayStep_42 (by decide) (by decide) ?_
            refine x_iconst (v := nI 1) dX11_mayStep_45 (by decide) ?_
            refine x_goto 50 dX11_mayStep_46 (by decide) ?_
            refine x_zret rfl dX11_mayStep_50 (by decide) ⟨Or.inl ⟨rfl, by (unfold mayF; first | exact ⟨hpl.mp c_9, by omega, by rw [if_pos (by omega)]; exact ⟨by omega, c_39⟩⟩ | exact ⟨hpl.mp c_9, by omega, by rw [if_neg (by omega), if_pos (by omega)]; exact ⟨c_72, c_84, by omega, by omega⟩⟩ | exact ⟨hpl.mp c_9, by omega, by rw [if_neg (by omega), if_neg (by omega), if_pos (by omega)]; exact c_127⟩ | exact ⟨hpl.mp c_9, by omega, by rw [if_neg (by omega), if_neg (by omega), if_neg (by omega)]; exact c_144⟩)⟩, rfl⟩
          · refine t_if_eq 49 dX11_mayStep_42 (by decide) (by decide) ?_
            refine x_iconst (v := nI 0) dX11_mayStep_49 (by decide) ?_
            refine x_zret rfl dX11_mayStep_50 (by decide) ⟨Or.inr ⟨rfl, by (unfold mayF; first | exact fun h => c_9 (hpl.mpr h.1) | (intro h; omega) | (rintro ⟨h1, h2, h3⟩; first | omega | (rw [if_pos (by omega)] at h3; first | omega | exact c_39 h3.2) | (rw [if_neg (by omega), if_pos (by omega)] at h3; first | omega | exact h3.1 c_72 | exact h3.2.1 c_84) | (rw [if_neg (by omega), if_neg (by omega), if_pos (by omega)] at h3; exact h3 c_127) | (rw [if_neg (by omega), if_neg (by omega), if_neg (by omega)] at h3; exact c_144 h3)))⟩, rfl⟩
    · refine x_iconst (v := nI 0) dX11_mayStep_20 (by decide) ?_
      refine x_zret rfl dX11_mayStep_21 (by decide) ⟨Or.inr ⟨rfl, by (unfold mayF; first | exact fun h => c_9 (hpl.mpr h.1) | (intro h; omega) | (rintro ⟨h1, h2, h3⟩; first | omega | (rw [if_pos (by omega)] at h3; first | omega | exact c_39 h3.2) | (rw [if_neg (by omega), if_pos (by omega)] at h3; first | omega | exact h3.1 c_72 | exact h3.2.1 c_84) | (rw [if_neg (by omega), if_neg (by omega), if_pos (by omega)] at h3; exact h3 c_127) | (rw [if_neg (by omega), if_neg (by omega), if_neg (by omega)] at h3; exact c_144 h3)))⟩, rfl⟩
  · refine t_if_eq 20 dX11_mayStep_12 (by decide) (by decide) ?_
    refine x_iconst (v := nI 0) dX11_mayStep_20 (by decide) ?_
    refine x_zret rfl dX11_mayStep_21 (by decide) ⟨Or.inr ⟨rfl, by (unfold mayF; first | exact fun h => c_9 (hpl.mpr h.1) | (intro h; omega) | (rintro ⟨h1, h2, h3⟩; first | omega | (rw [if_pos (by omega)] at h3; first | omega | exact c_39 h3.2) | (rw [if_neg (by omega), if_pos (by omega)] at h3; first | omega | exact h3.1 c_72 | exact h3.2.1 c_84) | (rw [if_neg (by omega), if_neg (by omega), if_pos (by omega)] at h3; exact h3 c_127) | (rw [if_neg (by omega), if_neg (by omega), if_neg (by omega)] at h3; exact c_144 h3)))⟩, rfl⟩
