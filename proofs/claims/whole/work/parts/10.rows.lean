/-! ===== Arrays.fill; Rows, Told, Pairs ===== -/
def fillA (S : St) (k a b : Nat) (v : Int32) : St := (fun c j => if c = k ∧ a ≤ j ∧ j < b then v else S.1 c j, S.2)
theorem fillA_0 (S : St) (k a : Nat) (v : Int32) : fillA S k a a v = S := by
  unfold fillA
  have : (fun c j => if c = k ∧ a ≤ j ∧ j < a then v else S.1 c j) = S.1 := by
    funext c j
    rw [if_neg (by omega)]
  rw [this]
theorem fillA_s (S : St) (k a i : Nat) (v : Int32) (h : a ≤ i) : setI (fillA S k a i v) k i v = fillA S k a (i + 1) v := by
  unfold fillA setI
  congr 1
  funext c j
  by_cases hc : c = k
  · by_cases hj : j = i
    · simp [hc, hj, h]
    · simp only [hc, hj, and_false, if_false, true_and]
      by_cases h2 : a ≤ j ∧ j < i
      · rw [if_pos h2, if_pos (by omega)]
      · rw [if_neg h2, if_neg (by omega)]
  · simp [hc]
def isRows (k c ρ : Nat) : Prop := (k = 3 ∧ c = 6 ∧ ρ = 60) ∨ (k = 6 ∧ c = 4 ∧ ρ = 100)
theorem isRows.l0 {k c ρ : Nat} (h : isRows k c ρ) : LAY[k]? = some (.inl (5, [.inr false, .inl (k + 1), .inl (k + 2)])) := by rcases h with ⟨rfl, rfl, rfl⟩ | ⟨rfl, rfl, rfl⟩ <;> rfl
theorem isRows.l1 {k c ρ : Nat} (h : isRows k c ρ) : LAY[k + 1]? = some (.inr (0, c)) := by rcases h with ⟨rfl, rfl, rfl⟩ | ⟨rfl, rfl, rfl⟩ <;> rfl
theorem isRows.l2 {k c ρ : Nat} (h : isRows k c ρ) : LAY[k + 2]? = some (.inr (0, c * ρ)) := by rcases h with ⟨rfl, rfl, rfl⟩ | ⟨rfl, rfl, rfl⟩ <;> rfl
theorem isRows.hc {k c ρ : Nat} (h : isRows k c ρ) : c < 2147483648 := by rcases h with ⟨rfl, rfl, rfl⟩ | ⟨rfl, rfl, rfl⟩ <;> decide
theorem isRows.hρ {k c ρ : Nat} (h : isRows k c ρ) : ρ ≤ 100 ∧ c ≤ 6 := by rcases h with ⟨rfl, rfl, rfl⟩ | ⟨rfl, rfl, rfl⟩ <;> decide
theorem isRows.hcr {k c ρ : Nat} (h : isRows k c ρ) : c * ρ < 2147483648 := by rcases h with ⟨rfl, rfl, rfl⟩ | ⟨rfl, rfl, rfl⟩ <;> decide
theorem isRows.ix {k c ρ r i : Nat} (h : isRows k c ρ) (hr : r < c) (hi : i < ρ) : r * ρ + i < c * ρ := by rcases h with ⟨rfl, rfl, rfl⟩ | ⟨rfl, rfl, rfl⟩ <;> omega
theorem isRows.ixe {k c ρ r i : Nat} (h : isRows k c ρ) (hr : r < c) (hi : i ≤ ρ) : r * ρ + i ≤ c * ρ := by rcases h with ⟨rfl, rfl, rfl⟩ | ⟨rfl, rfl, rfl⟩ <;> omega

set_option maxHeartbeats 4000000 in
set_option maxRecDepth 100000 in
theorem lp_fill {S : St} {k n : Nat} {v : Int32} (hl : LAY[k]? = some (.inr (0, n))) (hn : n < 2147483648) : ∀ (i : Nat) (S1 : St), S1 = fillA S k 0 i v → i ≤ n → X 0 0 mJ7_fill_53178 (pv (fillA S k 0 n v)) 5 [(3, .int (nI n)), (2, .int (nI i)), (0, .ref k), (1, .int v)] [] S1 := by
  intro i
  induction hm : n - i using Nat.strongRecOn generalizing i with
  | _ mm ih =>
    intro S1 hS1 hi
    subst hS1
    refine x_iload_n 1 dJ7_fill_53178_5 rfl rfl ?_
    refine x_iload_n 0 dJ7_fill_53178_6 rfl rfl ?_
    refine y_ic_ge 20 dJ7_fill_53178_7 (by decide) (by omega) (by omega) (fun c_7 => ?_) (fun c_7 => ?_)
    · refine x_vret rfl dJ7_fill_53178_20 (by obtain rfl : i = n := (by omega); exact ⟨rfl, rfl⟩)
    · refine x_aload_n 2 dJ7_fill_53178_10 rfl rfl ?_
      refine x_iload_n 1 dJ7_fill_53178_11 rfl rfl ?_
      refine x_iload_n 3 dJ7_fill_53178_12 rfl rfl ?_
      refine y_iast dJ7_fill_53178_13 hl c_7 hn ?_
      refine y_iinc (lv' := [(2, _), (3, _), (0, _), (1, _)]) 1 dJ7_fill_53178_14 rfl (by decide) rfl ?_
      refine x_goto 5 dJ7_fill_53178_17 (by decide) ?_
      refine x_pick (lv' := [(3, _), (2, _), (0, _), (1, _)]) [1, 0, 2, 3] rfl ?_
      exact ih (n - (i + 1)) (by omega) (i + 1) rfl _ (fillA_s S k 0 i v (Nat.zero_le i)) (by omega)

set_option maxHeartbeats 4000000 in
set_option maxRecDepth 100000 in
theorem c_J7_fill_53178 {S : St} {k n : Nat} {v : Int32} (hl : LAY[k]? = some (.inr (0, n))) (hn : n < 2147483648) : C 0 0 yJ7_fill_53178 mJ7_fill_53178 [.ref k, .int v] S (pv (fillA S k 0 n v)) := by
  refine C.ofX (by decide) rfl (Nat.le_of_ble_eq_true rfl) ?_
  show X 0 0 mJ7_fill_53178 (pv (fillA S k 0 n v)) 0 [(0, .ref k), (1, .int v)] [] S
  refine x_iconst (v := nI 0) dJ7_fill_53178_0 (by decide) ?_
  refine x_istore_n (lv' := [(2, _), (0, _), (1, _)]) dJ7_fill_53178_1 rfl (by decide) rfl ?_
  refine x_aload_n 1 dJ7_fill_53178_2 rfl rfl ?_
  refine x_alen (v := nI n) dJ7_fill_53178_3 hl rfl ?_
  refine x_istore_n (lv' := [(3, _), (2, _), (0, _), (1, _)]) dJ7_fill_53178_4 rfl (by decide) rfl ?_
  refine x_pick (lv' := [(3, _), (2, _), (0, _), (1, _)]) [0, 1, 2, 3] rfl ?_
  exact lp_fill hl hn 0 S (fillA_0 S k 0 v).symm (Nat.zero_le n)

set_option maxHeartbeats 4000000 in
set_option maxRecDepth 100000 in
theorem c_J7_rangeCheck_23922 {S : St} {n a b : Nat} (h1 : a ≤ b) (h2 : b ≤ n) (hn : n < 2147483648) : C 0 0 yJ7_rangeCheck_23922 mJ7_rangeCheck_23922 [.int (nI n), .int (nI a), .int (nI b)] S (pv S) := by
  refine C.ofX (by decide) rfl (Nat.le_of_ble_eq_true rfl) ?_
  show X 0 0 mJ7_rangeCheck_23922 (pv S) 0 [(0, .int (nI n)), (1, .int (nI a)), (2, .int (nI b))] [] S
  refine x_iload_n 1 dJ7_rangeCheck_23922_0 rfl rfl ?_
  refine x_iload_n 2 dJ7_rangeCheck_23922_1 rfl rfl ?_
  refine y_ic_le 46 dJ7_rangeCheck_23922_2 (by decide) (by omega) (by omega) (fun c_2 => ?_) (fun c_2 => ?_)
  · refine x_iload_n 1 dJ7_rangeCheck_23922_46 rfl rfl ?_
    refine y_if_ge 59 dJ7_rangeCheck_23922_47 (by decide) (by omega) (fun c_47 => ?_) (fun c_47 => ?_)
    · refine x_iload_n 2 dJ7_rangeCheck_23922_59 rfl rfl ?_
      refine x_iload_n 0 dJ7_rangeCheck_23922_60 rfl rfl ?_
      refine y_ic_le 73 dJ7_rangeCheck_23922_61 (by decide) (by omega) (by omega) (fun c_61 => ?_) (fun c_61 => ?_)
      · refine x_vret rfl dJ7_rangeCheck_23922_73 ⟨rfl, rfl⟩
      · exact absurd h1 (by omega)
    · exact absurd h1 (by omega)
  · exact absurd h1 (by omega)

set_option maxHeartbeats 4000000 in
set_option maxRecDepth 100000 in
theorem lp_fillR {S : St} {k n a b : Nat} {v : Int32} (hl : LAY[k]? = some (.inr (0, n))) (hn : n < 2147483648) (hab : a ≤ b) (hb : b ≤ n) : ∀ (i : Nat) (S1 : St), S1 = fillA S k a i v → i ≤ b → a ≤ i → X 1 30 mJ7_fill_fda19 (pv (fillA S k a b v)) 10 [(4, .int (nI i)), (0, .ref k), (1, .int (nI a)), (2, .int (nI b)), (3, .int v)] [] S1 := by
  intro i
  induction hm : b - i using Nat.strongRecOn generalizing i with
  | _ mm ih =>
    intro S1 hS1 hi ha
    subst hS1
    refine x_iload 0 dJ7_fill_fda19_10 rfl ?_
    refine x_iload_n 3 dJ7_fill_fda19_12 rfl rfl ?_
    refine y_ic_ge 27 dJ7_fill_fda19_13 (by decide) (by omega) (by omega) (fun c_13 => ?_) (fun c_13 => ?_)
    · refine x_vret rfl dJ7_fill_fda19_27 (by obtain rfl : i = b := (by omega); exact ⟨rfl, rfl⟩)
    · refine x_aload_n 1 dJ7_fill_fda19_16 rfl rfl ?_
      refine x_iload 0 dJ7_fill_fda19_17 rfl ?_
      refine x_iload_n 4 dJ7_fill_fda19_19 rfl rfl ?_
      refine y_iast dJ7_fill_fda19_20 hl (by omega) hn ?_
      refine y_iinc (lv' := [(4, _), (0, _), (1, _), (2, _), (3, _)]) 0 dJ7_fill_fda19_21 rfl (by decide) rfl ?_
      refine x_goto 10 dJ7_fill_fda19_24 (by decide) ?_
      refine x_pick (lv' := [(4, _), (0, _), (1, _), (2, _), (3, _)]) [0, 1, 2, 3, 4] rfl ?_
      exact ih (b - (i + 1)) (by omega) (i + 1) rfl _ (fillA_s S k a i v ha) (by omega) (by omega)

set_option maxHeartbeats 4000000 in
set_option maxRecDepth 100000 in
theorem c_J7_fill_fda19 {S : St} {k n a b : Nat} {v : Int32} (hl : LAY[k]? = some (.inr (0, n))) (hn : n < 2147483648) (hab : a ≤ b) (hb : b ≤ n) : C 1 30 yJ7_fill_fda19 mJ7_fill_fda19 [.ref k, .int (nI a), .int (nI b), .int v] S (pv (fillA S k a b v)) := by
  refine C.ofX (by decide) rfl (Nat.le_of_ble_eq_true rfl) ?_
  show X 1 30 mJ7_fill_fda19 (pv (fillA S k a b v)) 0 [(0, .ref k), (1, .int (nI a)), (2, .int (nI b)), (3, .int v)] [] S
  refine x_aload_n 0 dJ7_fill_fda19_0 rfl rfl ?_
  refine x_alen (v := nI n) dJ7_fill_fda19_1 hl rfl ?_
  refine x_iload_n 1 dJ7_fill_fda19_2 rfl rfl ?_
  refine x_iload_n 2 dJ7_fill_fda19_3 rfl rfl ?_
  refine x_callSv (as := [_, _, _]) (rest := []) sJ7_13 (c_J7_rangeCheck_23922 hab hb hn) dJ7_fill_fda19_4 rfl rfl (by decide) (by decide) (by decide) ?_
  refine x_iload_n 1 dJ7_fill_fda19_7 rfl rfl ?_
  refine x_istore (lv' := [(4, _), (0, _), (1, _), (2, _), (3, _)]) dJ7_fill_fda19_8 (by decide) rfl ?_
  refine x_pick (lv' := [(4, _), (0, _), (1, _), (2, _), (3, _)]) [0, 1, 2, 3, 4] rfl ?_
  exact lp_fillR hl hn hab hb a S (fillA_0 S k a v).symm hab (Nat.le_refl a)

set_option maxHeartbeats 4000000 in
set_option maxRecDepth 100000 in
theorem c_X5_isOne {S : St} {k c ρ : Nat} {x : Int32} (hk : isRows k c ρ)  : C 0 0 yX5_isOne mX5_isOne [.ref k, .int x] S (pb (0 ≤ x.toInt ∧ x.toInt < (c : Int)) S) := by
  refine C.ofX (by decide) rfl (Nat.le_of_ble_eq_true rfl) ?_
  show X 0 0 mX5_isOne (pb (0 ≤ x.toInt ∧ x.toInt < (c : Int)) S) 0 [(0, .ref k), (1, .int x)] [] S
  refine x_iload_n 1 dX5_isOne_0 rfl rfl ?_
  refine x_if_lt 17 dX5_isOne_1 (by decide) (fun c_1 => ?_) (fun c_1 => ?_)
  · refine x_iconst (v := nI 0) dX5_isOne_17 (by decide) ?_
    refine x_zret rfl dX5_isOne_18 (by decide) ⟨Or.inr ⟨rfl, by omega⟩, rfl⟩
  · refine x_iload_n 1 dX5_isOne_4 rfl rfl ?_
    refine x_aload_n 0 dX5_isOne_5 rfl rfl ?_
    refine x_getR fX5_13 dX5_isOne_6 hk.l0 rfl ?_
    refine x_alen (v := nI c) dX5_isOne_9 hk.l1 rfl ?_
    refine z_ic_ge 17 dX5_isOne_10 (by decide) hk.hc (fun c_10 => ?_) (fun c_10 => ?_)
    · refine x_iconst (v := nI 0) dX5_isOne_17 (by decide) ?_
      refine x_zret rfl dX5_isOne_18 (by decide) ⟨Or.inr ⟨rfl, by omega⟩, rfl⟩
    · refine x_iconst (v := nI 1) dX5_isOne_13 (by decide) ?_
      refine x_goto 18 dX5_isOne_14 (by decide) ?_
      refine x_zret rfl dX5_isOne_18 (by decide) ⟨Or.inl ⟨rfl, by omega⟩, rfl⟩

set_option maxHeartbeats 4000000 in
set_option maxRecDepth 100000 in
theorem c_X5_missing {S : St} {k c ρ : Nat} {r : Nat} (hk : isRows k c ρ) (hr : r < c) : C 0 0 yX5_missing mX5_missing [.ref k, .int (nI r)] S (pb ((S.1 (k + 1) r).toInt < 0) S) := by
  refine C.ofX (by decide) rfl (Nat.le_of_ble_eq_true rfl) ?_
  show X 0 0 mX5_missing (pb ((S.1 (k + 1) r).toInt < 0) S) 0 [(0, .ref k), (1, .int (nI r))] [] S
  refine x_aload_n 0 dX5_missing_0 rfl rfl ?_
  refine x_getR fX5_13 dX5_missing_1 hk.l0 rfl ?_
  refine x_iload_n 1 dX5_missing_4 rfl rfl ?_
  refine y_iald dX5_missing_5 hk.l1 hr hk.hc rfl ?_
  refine x_if_ge 13 dX5_missing_6 (by decide) (fun c_6 => ?_) (fun c_6 => ?_)
  · refine x_iconst (v := nI 0) dX5_missing_13 (by decide) ?_
    refine x_zret rfl dX5_missing_14 (by decide) ⟨Or.inr ⟨rfl, by omega⟩, rfl⟩
  · refine x_iconst (v := nI 1) dX5_missing_9 (by decide) ?_
    refine x_goto 14 dX5_missing_10 (by decide) ?_
    refine x_zret rfl dX5_missing_14 (by decide) ⟨Or.inl ⟨rfl, by omega⟩, rfl⟩

set_option maxHeartbeats 4000000 in
set_option maxRecDepth 100000 in
theorem c_X5_sizeOf {S : St} {k c ρ : Nat} {r : Nat} (hk : isRows k c ρ) (hr : r < c) : C 0 0 yX5_sizeOf mX5_sizeOf [.ref k, .int (nI r)] S (pu (.int (S.1 (k + 1) r)) S) := by
  refine C.ofX (by decide) rfl (Nat.le_of_ble_eq_true rfl) ?_
  show X 0 0 mX5_sizeOf (pu (.int (S.1 (k + 1) r)) S) 0 [(0, .ref k), (1, .int (nI r))] [] S
  refine x_aload_n 0 dX5_sizeOf_0 rfl rfl ?_
  refine x_getR fX5_13 dX5_sizeOf_1 hk.l0 rfl ?_
  refine x_iload_n 1 dX5_sizeOf_4 rfl rfl ?_
  refine y_iald dX5_sizeOf_5 hk.l1 hr hk.hc rfl ?_
  refine x_iret rfl dX5_sizeOf_6 ⟨rfl, rfl⟩

set_option maxHeartbeats 4000000 in
set_option maxRecDepth 100000 in
theorem c_X5_make {S : St} {k c ρ : Nat} {r n : Nat} {v : Int32} (hk : isRows k c ρ) (h0 : S.1 k 0 = nI ρ) (hr : r < c) (hn : n ≤ ρ) : C 2 60 yX5_make mX5_make [.ref k, .int (nI r), .int (nI n), .int v] S (pv (fillA (setI S (k + 1) r (nI n)) (k + 2) (r * ρ) (r * ρ + n) v)) := by
  refine C.ofX (by decide) rfl (Nat.le_of_ble_eq_true rfl) ?_
  show X 2 60 mX5_make (pv (fillA (setI S (k + 1) r (nI n)) (k + 2) (r * ρ) (r * ρ + n) v)) 0 [(0, .ref k), (1, .int (nI r)), (2, .int (nI n)), (3, .int v)] [] S
  refine x_aload_n 0 dX5_make_0 rfl rfl ?_
  refine x_getR fX5_13 dX5_make_1 hk.l0 rfl ?_
  refine x_iload_n 1 dX5_make_4 rfl rfl ?_
  refine x_iload_n 2 dX5_make_5 rfl rfl ?_
  refine y_iast dX5_make_6 hk.l1 hr hk.hc ?_
  refine x_aload_n 0 dX5_make_7 rfl rfl ?_
  refine x_getR fX5_17 dX5_make_8 hk.l0 rfl ?_
  refine x_iload_n 1 dX5_make_11 rfl rfl ?_
  refine x_aload_n 0 dX5_make_12 rfl rfl ?_
  refine y_getI fX5_7 dX5_make_13 hk.l0 rfl (((rdI_k (by omega))).trans h0) ?_
  refine y_imul dX5_make_16 ?_
  refine x_iload_n 1 dX5_make_17 rfl rfl ?_
  refine x_aload_n 0 dX5_make_18 rfl rfl ?_
  refine y_getI fX5_7 dX5_make_19 hk.l0 rfl (((rdI_k (by omega))).trans h0) ?_
  refine y_imul dX5_make_22 ?_
  refine x_iload_n 2 dX5_make_23 rfl rfl ?_
  refine y_iadd dX5_make_24 ?_
  refine x_iload_n 3 dX5_make_25 rfl rfl ?_
  refine x_callSv (as := [_, _, _, _]) (rest := []) sX5_26 (c_J7_fill_fda19 hk.l2 hk.hcr (by omega) (hk.ixe hr hn)) dX5_make_26 rfl rfl (by decide) (by decide) (by decide) ?_
  refine x_vret rfl dX5_make_29 ⟨rfl, rfl⟩

set_option maxHeartbeats 4000000 in
set_option maxRecDepth 100000 in
theorem c_X5_drop {S : St} {k c ρ : Nat} {r : Nat} (hk : isRows k c ρ) (hr : r < c) : C 0 0 yX5_drop mX5_drop [.ref k, .int (nI r)] S (pv (setI S (k + 1) r (-1))) := by
  refine C.ofX (by decide) rfl (Nat.le_of_ble_eq_true rfl) ?_
  show X 0 0 mX5_drop (pv (setI S (k + 1) r (-1))) 0 [(0, .ref k), (1, .int (nI r))] [] S
  refine x_aload_n 0 dX5_drop_0 rfl rfl ?_
  refine x_getR fX5_13 dX5_drop_1 hk.l0 rfl ?_
  refine x_iload_n 1 dX5_drop_4 rfl rfl ?_
  refine x_iconst (v := -1) dX5_drop_5 (by decide) ?_
  refine y_iast dX5_drop_6 hk.l1 hr hk.hc ?_
  refine x_vret rfl dX5_drop_7 ⟨rfl, rfl⟩

set_option maxHeartbeats 4000000 in
set_option maxRecDepth 100000 in
theorem c_X5_hasPlaces {S : St} {k c ρ : Nat} {r : Nat} {x y : Int32} {z : Nat} (hk : isRows k c ρ) (hr : r < c) (hz : S.1 (k + 1) r = nI z) (hz2 : z ≤ ρ) : C 0 0 yX5_hasPlaces mX5_hasPlaces [.ref k, .int (nI r), .int x, .int y] S (pb (0 ≤ x.toInt ∧ x.toInt ≤ (z : Int) ∧ x.toInt + y.toInt ≤ (z : Int)) S) := by
  refine C.ofX (by decide) rfl (Nat.le_of_ble_eq_true rfl) ?_
  show X 0 0 mX5_hasPlaces (pb (0 ≤ x.toInt ∧ x.toInt ≤ (z : Int) ∧ x.toInt + y.toInt ≤ (z : Int)) S) 0 [(0, .ref k), (1, .int (nI r)), (2, .int x), (3, .int y)] [] S
  refine x_iload_n 2 dX5_hasPlaces_0 rfl rfl ?_
  refine x_if_lt 30 dX5_hasPlaces_1 (by decide) (fun c_1 => ?_) (fun c_1 => ?_)
  · refine x_iconst (v := nI 0) dX5_hasPlaces_30 (by decide) ?_
    refine x_zret rfl dX5_hasPlaces_31 (by decide) ⟨Or.inr ⟨rfl, by (first | omega | (rw [tiN (by omega)]; omega))⟩, rfl⟩
  · refine x_iload_n 2 dX5_hasPlaces_4 rfl rfl ?_
    refine x_aload_n 0 dX5_hasPlaces_5 rfl rfl ?_
    refine x_getR fX5_13 dX5_hasPlaces_6 hk.l0 rfl ?_
    refine x_iload_n 1 dX5_hasPlaces_9 rfl rfl ?_
    refine y_iald dX5_hasPlaces_10 hk.l1 hr hk.hc hz ?_
    refine z_ic_gt 30 dX5_hasPlaces_11 (by decide) (by have := hk.hρ; omega) (fun c_11 => ?_) (fun c_11 => ?_)
    · refine x_iconst (v := nI 0) dX5_hasPlaces_30 (by decide) ?_
      refine x_zret rfl dX5_hasPlaces_31 (by decide) ⟨Or.inr ⟨rfl, by (first | omega | (rw [tiN (by omega)]; omega))⟩, rfl⟩
    · have hρ := hk.hρ
      obtain ⟨j, hj, rfl⟩ := nI_ex (n := z + 1) c_1 (by omega)
      refine x_iload_n 3 dX5_hasPlaces_14 rfl rfl ?_
      refine x_aload_n 0 dX5_hasPlaces_15 rfl rfl ?_
      refine x_getR fX5_13 dX5_hasPlaces_16 hk.l0 rfl ?_
      refine x_iload_n 1 dX5_hasPlaces_19 rfl rfl ?_
      refine y_iald dX5_hasPlaces_20 hk.l1 hr hk.hc hz ?_
      refine x_iload_n 2 dX5_hasPlaces_21 rfl rfl ?_
      refine y_isub dX5_hasPlaces_22 (by omega) ?_
      refine z_ic_gt 30 dX5_hasPlaces_23 (by decide) (by have := hk.hρ; omega) (fun c_23 => ?_) (fun c_23 => ?_)
      · refine x_iconst (v := nI 0) dX5_hasPlaces_30 (by decide) ?_
        refine x_zret rfl dX5_hasPlaces_31 (by decide) ⟨Or.inr ⟨rfl, by (first | omega | (rw [tiN (by omega)]; omega))⟩, rfl⟩
      · refine x_iconst (v := nI 1) dX5_hasPlaces_26 (by decide) ?_
        refine x_goto 31 dX5_hasPlaces_27 (by decide) ?_
        refine x_zret rfl dX5_hasPlaces_31 (by decide) ⟨Or.inl ⟨rfl, by (rw [tiN (by omega)]; omega)⟩, rfl⟩

set_option maxHeartbeats 4000000 in
set_option maxRecDepth 100000 in
theorem c_X5_get {S : St} {k c ρ : Nat} {r i : Nat} (hk : isRows k c ρ) (h0 : S.1 k 0 = nI ρ) (hr : r < c) (hi : i < ρ) : C 0 0 yX5_get mX5_get [.ref k, .int (nI r), .int (nI i)] S (pu (.int (S.1 (k + 2) (r * ρ + i))) S) := by
  refine C.ofX (by decide) rfl (Nat.le_of_ble_eq_true rfl) ?_
  show X 0 0 mX5_get (pu (.int (S.1 (k + 2) (r * ρ + i))) S) 0 [(0, .ref k), (1, .int (nI r)), (2, .int (nI i))] [] S
  refine x_aload_n 0 dX5_get_0 rfl rfl ?_
  refine x_getR fX5_17 dX5_get_1 hk.l0 rfl ?_
  refine x_iload_n 1 dX5_get_4 rfl rfl ?_
  refine x_aload_n 0 dX5_get_5 rfl rfl ?_
  refine y_getI fX5_7 dX5_get_6 hk.l0 rfl h0 ?_
  refine y_imul dX5_get_9 ?_
  refine x_iload_n 2 dX5_get_10 rfl rfl ?_
  refine y_iadd dX5_get_11 ?_
  refine y_iald dX5_get_12 hk.l2 (hk.ix hr hi) hk.hcr rfl ?_
  refine x_iret rfl dX5_get_13 ⟨rfl, rfl⟩

set_option maxHeartbeats 4000000 in
set_option maxRecDepth 100000 in
theorem c_X5_set {S : St} {k c ρ : Nat} {r i : Nat} {v : Int32} (hk : isRows k c ρ) (h0 : S.1 k 0 = nI ρ) (hr : r < c) (hi : i < ρ) : C 0 0 yX5_set mX5_set [.ref k, .int (nI r), .int (nI i), .int v] S (pv (setI S (k + 2) (r * ρ + i) v)) := by
  refine C.ofX (by decide) rfl (Nat.le_of_ble_eq_true rfl) ?_
  show X 0 0 mX5_set (pv (setI S (k + 2) (r * ρ + i) v)) 0 [(0, .ref k), (1, .int (nI r)), (2, .int (nI i)), (3, .int v)] [] S
  refine x_aload_n 0 dX5_set_0 rfl rfl ?_
  refine x_getR fX5_17 dX5_set_1 hk.l0 rfl ?_
  refine x_iload_n 1 dX5_set_4 rfl rfl ?_
  refine x_aload_n 0 dX5_set_5 rfl rfl ?_
  refine y_getI fX5_7 dX5_set_6 hk.l0 rfl h0 ?_
  refine y_imul dX5_set_9 ?_
  refine x_iload_n 2 dX5_set_10 rfl rfl ?_
  refine y_iadd dX5_set_11 ?_
  refine x_iload_n 3 dX5_set_12 rfl rfl ?_
  refine y_iast dX5_set_13 hk.l2 (hk.ix hr hi) hk.hcr ?_
  refine x_vret rfl dX5_set_14 ⟨rfl, rfl⟩
