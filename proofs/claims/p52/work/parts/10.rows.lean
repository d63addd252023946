/-! ===== Arrays.fill; Rows, Told, Pairs ===== -/
def fillA (S : St) (k a b : Nat) (v : Int32) : St := (fun c j => if c = k ∧ a ≤ j ∧ j < b then v else S.1 c j, S.2)
theorem fillA_0 (S : St) (k a : Nat) (v : Int32) : fillA S k a a v = S := by
  unfold fillA
  have : (fun c j => if c = k ∧ a ≤ j ∧ j < a then v else S.1 c j) = S.1 := by
    funext c j
    rw [if_neg (by omega)]
  rw [this]
theorem fillA_s (S : St) (k a i : Nat) (v : Int32) (h : a ≤ i) : setI (fillA S k a i v) k i v = fillA S k a (i + 1) v := by
  unfold fillA setI
  congr 1
  funext c j
  by_cases hc : c = k
  · by_cases hj : j = i
    · simp [hc, hj, h]
    · simp only [hc, hj, and_false, if_false, true_and]
      by_cases h2 : a ≤ j ∧ j < i
      · rw [if_pos h2, if_pos (by omega)]
      · rw [if_neg h2, if_neg (by omega)]
  · simp [hc]
def isRows (k c ρ : Nat) : Prop := (k = 3 ∧ c = 6 ∧ ρ = 60) ∨ (k = 6 ∧ c = 4 ∧ ρ = 100)
theorem isRows.l0 {k c ρ : Nat} (h : isRows k c ρ) : LAY[k]? = some (.inl (5, [.inr false, .inl (k + 1), .inl (k + 2)])) := by rcases h with ⟨rfl, rfl, rfl⟩ | ⟨rfl, rfl, rfl⟩ <;> rfl
theorem isRows.l1 {k c ρ : Nat} (h : isRows k c ρ) : LAY[k + 1]? = some (.inr (0, c)) := by rcases h with ⟨rfl, rfl, rfl⟩ | ⟨rfl, rfl, rfl⟩ <;> rfl
theorem isRows.l2 {k c ρ : Nat} (h : isRows k c ρ) : LAY[k + 2]? = some (.inr (0, c * ρ)) := by rcases h with ⟨rfl, rfl, rfl⟩ | ⟨rfl, rfl, rfl⟩ <;> rfl
theorem isRows.hc {k c ρ : Nat} (h : isRows k c ρ) : c < 2147483648 := by rcases h with ⟨rfl, rfl, rfl⟩ | ⟨rfl, rfl, rfl⟩ <;> decide
theorem isRows.hρ {k c ρ : Nat} (h : isRows k c ρ) : ρ ≤ 100 ∧ c ≤ 6 := by rcases h with ⟨rfl, rfl, rfl⟩ | ⟨rfl, rfl, rfl⟩ <;> decide
theorem isRows.hcr {k c ρ : Nat} (h : isRows k c ρ) : c * ρ < 2147483648 := by rcases h with ⟨rfl, rfl, rfl⟩ | ⟨rfl, rfl, rfl⟩ <;> decide
theorem isRows.ix {k c ρ r i : Nat} (h : isRows k c ρ) (hr : r < c) (hi : i < ρ) : r * ρ + i < c * ρ := by rcases h with ⟨rfl, rfl, rfl⟩ | ⟨rfl, rfl, rfl⟩ <;> omega
theorem isRows.ixe {k c ρ r i : Nat} (h : isRows k c ρ) (hr : r < c) (hi : i ≤ ρ) : r * ρ + i ≤ c * ρ := by rcases h with ⟨rfl, rfl, rfl⟩ | ⟨rfl, rfl, rfl⟩ <;> omega

set_option maxHeartbeats 4000000 in
set_option maxRecDepth 100000 in
theorem lp_fill {S : St} {k n : Nat} {v : Int32} (hl : LAY[k]? = some (.inr (0, n))) (hn : n < 2147483648) : ∀ (i : Nat) (S1 : St), S1 = fillA S k 0 i v → i ≤ n → X 0 0 mJ7_fill_53178 (pv (fillA S k 0 n v)) 5 [(3, .int (nI n)), (2, .int (nI i)), (0, .ref k), (1, .int v)] [] S1 := by
  intro i
  induction hm : n - i using Nat.strongRecOn generalizing i with
  | _ mm ih =>
    intro S1 hS1 hi
    replace hS1 := hS1.symm
    subst hS1
    refine x_iload_n 1 dJ7_fill_53178_5 rfl rfl ?_
    refine x_iload_n 0 dJ7_fill_53178_6 rfl rfl ?_
    refine y_ic_ge 20 dJ7_fill_53178_7 (by decide) (by omega) (by omega) (fun c_7 => ?_) (fun c_7 => ?_)
    · refine x_vret rfl dJ7_fill_53178_20 (by obtain rfl : i = n := (by omega); exact ⟨rfl, rfl⟩)
    · refine x_aload_n 2 dJ7_fill_53178_10 rfl rfl ?_
      refine x_iload_n 1 dJ7_fill_53178_11 rfl rfl ?_
      refine x_iload_n 3 dJ7_fill_53178_12 rfl rfl ?_
      refine y_iast dJ7_fill_53178_13 hl c_7 hn ?_
      refine y_iinc (lv' := [(2, _), (3, _), (0, _), (1, _)]) 1 dJ7_fill_53178_14 rfl (by decide) rfl ?_
      refine x_goto 5 dJ7_fill_53178_17 (by decide) ?_
      refine x_pick (lv' := [(3, _), (2, _), (0, _), (1, _)]) [1, 0, 2, 3] rfl ?_
      exact ih (n - (i + 1)) (by omega) (i + 1) rfl _ (fillA_s S k 0 i v (Nat.zero_le i)) (by omega)

set_option maxHeartbeats 4000000 in
set_option maxRecDepth 100000 in
theorem c_J7_fill_53178 {S : St} {k n : Nat} {v : Int32} (hl : LAY[k]? = some (.inr (0, n))) (hn : n < 2147483648) : C 0 0 yJ7_fill_53178 mJ7_fill_53178 [.ref k, .int v] S (pv (fillA S k 0 n v)) := by
  refine C.ofX (by decide) rfl (Nat.le_of_ble_eq_true rfl) ?_
  show X 0 0 mJ7_fill_53178 (pv (fillA S k 0 n v)) 0 [(0, .ref k), (1, .int v)] [] S
  refine x_iconst (v := nI 0) dJ7_fill_53178_0 (by decide) ?_
  refine x_istore_n (lv' := [(2, _), (0, _), (1, _)]) dJ7_fill_53178_1 rfl (by decide) rfl ?_
  refine x_aload_n 1 dJ7_fill_53178_2 rfl rfl ?_
  refine x_alen (v := nI n) dJ7_fill_53178_3 hl rfl ?_
  refine x_istore_n (lv' := [(3, _), (2, _), (0, _), (1, _)]) dJ7_fill_53178_4 rfl (by decide) rfl ?_
  refine x_pick (lv' := [(3, _), (2, _), (0, _), (1, _)]) [0, 1, 2, 3] rfl ?_
  exact lp_fill hl hn 0 S (fillA_0 S k 0 v).symm (Nat.zero_le n)

set_option maxHeartbeats 4000000 in
set_option maxRecDepth 100000 in
theorem c_J7_rangeCheck_23922 {S : St} {n a b : Nat} (h1 : a ≤ b) (h2 : b ≤ n) (hn : n < 2147483648) : C 0 0 yJ7_rangeCheck_23922 mJ7_rangeCheck_23922 [.int (nI n), .int (nI a), .int (nI b)] S (pv S) := by
  refine C.ofX (by decide) rfl (Nat.le_of_ble_eq_true rfl) ?_
  show X 0 0 mJ7_rangeCheck_23922 (pv S) 0 [(0, .int (nI n)), (1, .int (nI a)), (2, .int (nI b))] [] S
  refine x_iload_n 1 dJ7_rangeCheck_23922_0 rfl rfl ?_
  refine x_iload_n 2 dJ7_rangeCheck_23922_1 rfl rfl ?_
  refine y_ic_le 46 dJ7_rangeCheck_23922_2 (by decide) (by omega) (by omega) (fun c_2 => ?_) (fun c_2 => ?_)
  · refine x_iload_n 1 dJ7_rangeCheck_23922_46 rfl rfl ?_
    refine y_if_ge 59 dJ7_rangeCheck_23922_47 (by decide) (by omega) (fun c_47 => ?_) (fun c_47 => ?_)
    · refine x_iload_n 2 dJ7_rangeCheck_23922_59 rfl rfl ?_
      refine x_iload_n 0 dJ7_rangeCheck_23922_60 rfl rfl ?_
      refine y_ic_le 73 dJ7_rangeCheck_23922_61 (by decide) (by omega) (by omega) (fun c_61 => ?_) (fun c_61 => ?_)
      · refine x_vret rfl dJ7_rangeCheck_23922_73 ⟨rfl, rfl⟩
      · exact absurd h1 (by omega)
    · exact absurd h1 (by omega)
  · exact absurd h1 (by omega)

set_option maxHeartbeats 4000000 in
set_option maxRecDepth 100000 in
theorem lp_fillR {S : St} {k n a b : Nat} {v : Int32} (hl : LAY[k]? = some (.inr (0, n))) (hn : n < 2147483648) (hab : a ≤ b) (hb : b ≤ n) : ∀ (i : Nat) (S1 : St), S1 = fillA S k a i v → i ≤ b → a ≤ i → X 1 30 mJ7_fill_fda19 (pv (fillA S k a b v)) 10 [(4, .int (nI i)), (0, .ref k), (1, .int (nI a)), (2, .int (nI b)), (3, .int v)] [] S1 := by
  intro i
  induction hm : b - i using Nat.strongRecOn generalizing i with
  | _ mm ih =>
    intro S1 hS1 hi ha
    replace hS1 := hS1.symm
    subst hS1
    refine x_iload 0 dJ7_fill_fda19_10 rfl ?_
    refine x_iload_n 3 dJ7_fill_fda19_12 rfl rfl ?_
    refine y_ic_ge 27 dJ7_fill_fda19_13 (by decide) (by omega) (by omega) (fun c_13 => ?_) (fun c_13 => ?_)
    · refine x_vret rfl dJ7_fill_fda19_27 (by obtain rfl : i = b := (by omega); exact ⟨rfl, rfl⟩)
    · refine x_aload_n 1 dJ7_fill_fda19_16 rfl rfl ?_
      refine x_iload 0 dJ7_fill_fda19_17 rfl ?_
      refine x_iload_n 4 dJ7_fill_fda19_19 rfl rfl ?_
      refine y_iast dJ7_fill_fda19_20 hl (by omega) hn ?_
      refine y_iinc (lv' := [(4, _), (0, _), (1, _), (2, _), (3, _)]) 0 dJ7_fill_fda19_21 rfl (by decide) rfl ?_
      refine x_goto 10 dJ7_fill_fda19_24 (by decide) ?_
      refine x_pick (lv' := [(4, _), (0, _), (1, _), (2, _), (3, _)]) [0, 1, 2, 3, 4] rfl ?_
      exact ih (b - (i + 1)) (by omega) (i + 1) rfl _ (fillA_s S k a i v ha) (by omega) (by omega)

set_option maxHeartbeats 4000000 in
set_option maxRecDepth 100000 in
theorem c_J7_fill_fda19 {S : St} {k n a b : Nat} {v : Int32} (hl : LAY[k]? = some (.inr (0, n))) (hn : n < 2147483648) (hab : a ≤ b) (hb : b ≤ n) : C 1 30 yJ7_fill_fda19 mJ7_fill_fda19 [.ref k, .int (nI a), .int (nI b), .int v] S (pv (fillA S k a b v)) := by
  refine C.ofX (by decide) rfl (Nat.le_of_ble_eq_true rfl) ?_
  show X 1 30 mJ7_fill_fda19 (pv (fillA S k a b v)) 0 [(0, .ref k), (1, .int (nI a)), (2, .int (nI b)), (3, .int v)] [] S
  refine x_aload_n 0 dJ7_fill_fda19_0 rfl rfl ?_
  refine x_alen (v := nI n) dJ7_fill_fda19_1 hl rfl ?_
  refine x_iload_n 1 dJ7_fill_fda19_2 rfl rfl ?_
  refine x_iload_n 2 dJ7_fill_fda19_3 rfl rfl ?_
  refine x_callSv (as := [_, _, _]) (rest := []) sJ7_13 (c_J7_rangeCheck_23922 hab hb hn) dJ7_fill_fda19_4 rfl rfl (Nat.le_of_ble_eq_true rfl) (Nat.le_of_ble_eq_true rfl) (Nat.le_of_ble_eq_true rfl) ?_
  refine x_iload_n 1 dJ7_fill_fda19_7 rfl rfl ?_
  refine x_istore (lv' := [(4, _), (0, _), (1, _), (2, _), (3, _)]) dJ7_fill_fda19_8 (by decide) rfl ?_
  refine x_pick (lv' := [(4, _), (0, _), (1, _), (2, _), (3, _)]) [0, 1, 2, 3, 4] rfl ?_
  exact lp_fillR hl hn hab hb a S (fillA_0 S k a v).symm hab (Nat.le_refl a)

set_option maxHeartbeats 4000000 in
set_option maxRecDepth 100000 in
theorem c_X5_isOne {S : St} {k c ρ : Nat} {x : Int32} (hk : isRows k c ρ)  : C 0 0 yX5_isOne mX5_isOne [.ref k, .int x] S (pb (0 ≤ x.toInt ∧ x.toInt < (c : Int)) S) := by
  refine C.ofX (by decide) rfl (Nat.le_of_ble_eq_true rfl) ?_
  show X 0 0 mX5_isOne (pb (0 ≤ x.toInt ∧ x.toInt < (c : Int)) S) 0 [(0, .ref k), (1, .int x)] [] S
  refine x_iload_n 1 dX5_isOne_0 rfl rfl ?_
  refine x_if_lt 17 dX5_isOne_1 (by decide) (fun c_1 => ?_) (fun c_1 => ?_)
  · refine x_iconst (v := nI 0) dX5_isOne_17 (by decide) ?_
    refine x_zret rfl dX5_isOne_18 (by decide) ⟨Or.inr ⟨rfl, by omega⟩, rfl⟩
  · refine x_iload_n 1 dX5_isOne_4 rfl rfl ?_
    refine x_aload_n 0 dX5_isOne_5 rfl rfl ?_
    refine x_getR fX5_13 dX5_isOne_6 hk.l0 rfl ?_
    refine x_alen (v := nI c) dX5_isOne_9 hk.l1 rfl ?_
    refine z_ic_ge 17 dX5_isOne_10 (by decide) hk.hc (fun c_10 => ?_) (fun c_10 => ?_)
    · refine x_iconst (v := nI 0) dX5_isOne_17 (by decide) ?_
      refine x_zret rfl dX5_isOne_18 (by decide) ⟨Or.inr ⟨rfl, by omega⟩, rfl⟩
    · refine x_iconst (v := nI 1) dX5_isOne_13 (by decide) ?_
      refine x_goto 18 dX5_isOne_14 (by decide) ?_
      refine x_zret rfl dX5_isOne_18 (by decide) ⟨Or.inl ⟨rfl, by omega⟩, rfl⟩

set_option maxHeartbeats 4000000 in
set_option maxRecDepth 100000 in
theorem c_X5_sizeOf {S : St} {k c ρ : Nat} {r : Nat} (hk : isRows k c ρ) (hr : r < c) : C 1 30 yX5_sizeOf mX5_sizeOf [.ref k, .int (nI r)] S (pu (.int (S.1 (k + 1) r)) S) := by
  have hρ := hk.hρ
  have er : (nI r).toInt = (r : Int) := tiN (by omega)
  refine C.ofX (by decide) rfl (Nat.le_of_ble_eq_true rfl) ?_
  show X 1 30 mX5_sizeOf (pu (.int (S.1 (k + 1) r)) S) 0 [(0, .ref k), (1, .int (nI r))] [] S
  refine x_aload_n 0 dX5_sizeOf_0 rfl rfl ?_
  refine x_iload_n 1 dX5_sizeOf_1 rfl rfl ?_
  refine x_callVb (as := [_]) (rest := []) vX5_30 (c_X5_isOne hk) dX5_sizeOf_2 hk.l0 rfl rfl rfl (Nat.le_of_ble_eq_true rfl) (Nat.le_of_ble_eq_true rfl) (Nat.le_of_ble_eq_true rfl) (fun c_2 => ?_) (fun c_2 => ?_)
  · refine u_if_eq 17 dX5_sizeOf_5 (by decide) (by decide) ?_
    refine x_aload_n 0 dX5_sizeOf_8 rfl rfl ?_
    refine x_getR fX5_13 dX5_sizeOf_9 hk.l0 rfl ?_
    refine x_iload_n 1 dX5_sizeOf_12 rfl rfl ?_
    refine y_iald dX5_sizeOf_13 hk.l1 hr hk.hc rfl ?_
    refine x_goto 18 dX5_sizeOf_14 (by decide) ?_
    refine x_iret rfl dX5_sizeOf_18 ⟨rfl, rfl⟩
  · refine t_if_eq 17 dX5_sizeOf_5 (by decide) (by decide) ?_
    exact (show False by omega).elim

set_option maxHeartbeats 4000000 in
set_option maxRecDepth 100000 in
theorem c_X5_missing {S : St} {k c ρ : Nat} {r : Nat} (hk : isRows k c ρ) (hr : r < c) : C 2 60 yX5_missing mX5_missing [.ref k, .int (nI r)] S (pb ((S.1 (k + 1) r).toInt < 0) S) := by
  refine C.ofX (by decide) rfl (Nat.le_of_ble_eq_true rfl) ?_
  show X 2 60 mX5_missing (pb ((S.1 (k + 1) r).toInt < 0) S) 0 [(0, .ref k), (1, .int (nI r))] [] S
  refine x_aload_n 0 dX5_missing_0 rfl rfl ?_
  refine x_iload_n 1 dX5_missing_1 rfl rfl ?_
  refine x_callVu (as := [_]) (rest := []) vX5_26 (c_X5_sizeOf hk hr) dX5_missing_2 hk.l0 rfl rfl rfl (Nat.le_of_ble_eq_true rfl) (Nat.le_of_ble_eq_true rfl) (Nat.le_of_ble_eq_true rfl) ?_
  refine x_if_ge 12 dX5_missing_5 (by decide) (fun c_5 => ?_) (fun c_5 => ?_)
  · refine x_iconst (v := nI 0) dX5_missing_12 (by decide) ?_
    refine x_zret rfl dX5_missing_13 (by decide) ⟨Or.inr ⟨rfl, by omega⟩, rfl⟩
  · refine x_iconst (v := nI 1) dX5_missing_8 (by decide) ?_
    refine x_goto 13 dX5_missing_9 (by decide) ?_
    refine x_zret rfl dX5_missing_13 (by decide) ⟨Or.inl ⟨rfl, by omega⟩, rfl⟩

theorem c_sizeOf {S : St} {k c ρ : Nat} {r : Nat} {v : Int32} (hk : isRows k c ρ) (hr : r < c) (hv : S.1 (k + 1) r = v) : C 1 30 yX5_sizeOf mX5_sizeOf [.ref k, .int (nI r)] S (pu (.int v) S) := by
  have h := c_X5_sizeOf (S := S) hk hr
  rw [hv] at h
  exact h

set_option maxHeartbeats 4000000 in
set_option maxRecDepth 100000 in
theorem c_X5_make {S : St} {k c ρ : Nat} {r n : Nat} {v : Int32} (hk : isRows k c ρ) (h0 : S.1 k 0 = nI ρ) (hr : r < c) (hn : n ≤ ρ) : C 2 60 yX5_make mX5_make [.ref k, .int (nI r), .int (nI n), .int v] S (pv (fillA (setI S (k + 1) r (nI n)) (k + 2) (r * ρ) (r * ρ + n) v)) := by
  have hρ := hk.hρ
  have er : (nI r).toInt = (r : Int) := tiN (by omega)
  refine C.ofX (by decide) rfl (Nat.le_of_ble_eq_true rfl) ?_
  show X 2 60 mX5_make (pv (fillA (setI S (k + 1) r (nI n)) (k + 2) (r * ρ) (r * ρ + n) v)) 0 [(0, .ref k), (1, .int (nI r)), (2, .int (nI n)), (3, .int v)] [] S
  refine x_aload_n 0 dX5_make_0 rfl rfl ?_
  refine x_iload_n 1 dX5_make_1 rfl rfl ?_
  refine x_callVb (as := [_]) (rest := []) vX5_30 (c_X5_isOne hk) dX5_make_2 hk.l0 rfl rfl rfl (Nat.le_of_ble_eq_true rfl) (Nat.le_of_ble_eq_true rfl) (Nat.le_of_ble_eq_true rfl) (fun c_2 => ?_) (fun c_2 => ?_)
  · refine u_if_eq 20 dX5_make_5 (by decide) (by decide) ?_
    refine x_iload_n 2 dX5_make_8 rfl rfl ?_
    refine y_if_lt 20 dX5_make_9 (by decide) (by omega) (fun c_9 => ?_) (fun c_9 => ?_)
    · exact (show False by omega).elim
    · refine x_iload_n 2 dX5_make_12 rfl rfl ?_
      refine x_aload_n 0 dX5_make_13 rfl rfl ?_
      refine y_getI fX5_7 dX5_make_14 hk.l0 rfl h0 ?_
      refine y_ic_le 21 dX5_make_17 (by decide) (by omega) (by omega) (fun c_17 => ?_) (fun c_17 => ?_)
      · refine x_aload_n 0 dX5_make_21 rfl rfl ?_
        refine x_getR fX5_13 dX5_make_22 hk.l0 rfl ?_
        refine x_iload_n 1 dX5_make_25 rfl rfl ?_
        refine x_iload_n 2 dX5_make_26 rfl rfl ?_
        refine y_iast dX5_make_27 hk.l1 hr hk.hc ?_
        refine x_aload_n 0 dX5_make_28 rfl rfl ?_
        refine x_getR fX5_17 dX5_make_29 hk.l0 rfl ?_
        refine x_iload_n 1 dX5_make_32 rfl rfl ?_
        refine x_aload_n 0 dX5_make_33 rfl rfl ?_
        refine y_getI fX5_7 dX5_make_34 hk.l0 rfl (((rdI_k (by omega))).trans h0) ?_
        refine y_imul dX5_make_37 ?_
        refine x_iload_n 1 dX5_make_38 rfl rfl ?_
        refine x_aload_n 0 dX5_make_39 rfl rfl ?_
        refine y_getI fX5_7 dX5_make_40 hk.l0 rfl (((rdI_k (by omega))).trans h0) ?_
        refine y_imul dX5_make_43 ?_
        refine x_iload_n 2 dX5_make_44 rfl rfl ?_
        refine y_iadd dX5_make_45 ?_
        refine x_iload_n 3 dX5_make_46 rfl rfl ?_
        refine x_callSv (as := [_, _, _, _]) (rest := []) sX5_34 (c_J7_fill_fda19 hk.l2 hk.hcr (by omega) (hk.ixe hr hn)) dX5_make_47 rfl rfl (Nat.le_of_ble_eq_true rfl) (Nat.le_of_ble_eq_true rfl) (Nat.le_of_ble_eq_true rfl) ?_
        refine x_vret rfl dX5_make_50 ⟨rfl, rfl⟩
      · exact (show False by omega).elim
  · refine t_if_eq 20 dX5_make_5 (by decide) (by decide) ?_
    exact (show False by omega).elim

set_option maxHeartbeats 4000000 in
set_option maxRecDepth 100000 in
theorem c_X5_hasPlaces {S : St} {k c ρ : Nat} {r : Nat} {x y : Int32} {z : Nat} (hk : isRows k c ρ) (hr : r < c) (hz : S.1 (k + 1) r = nI z) (hz2 : z ≤ ρ) : C 0 0 yX5_hasPlaces mX5_hasPlaces [.ref k, .int (nI r), .int x, .int y] S (pb (0 ≤ x.toInt ∧ x.toInt ≤ (z : Int) ∧ 0 ≤ y.toInt ∧ x.toInt + y.toInt ≤ (z : Int)) S) := by
  have hρ := hk.hρ
  have er : (nI r).toInt = (r : Int) := tiN (by omega)
  have ez : (nI z).toInt = (z : Int) := tiN (by omega)
  refine C.ofX (by decide) rfl (Nat.le_of_ble_eq_true rfl) ?_
  show X 0 0 mX5_hasPlaces (pb (0 ≤ x.toInt ∧ x.toInt ≤ (z : Int) ∧ 0 ≤ y.toInt ∧ x.toInt + y.toInt ≤ (z : Int)) S) 0 [(0, .ref k), (1, .int (nI r)), (2, .int x), (3, .int y)] [] S
  refine x_iload_n 1 dX5_hasPlaces_0 rfl rfl ?_
  refine y_if_lt 13 dX5_hasPlaces_1 (by decide) (by omega) (fun c_1 => ?_) (fun c_1 => ?_)
  · refine x_iconst (v := nI 0) dX5_hasPlaces_13 (by decide) ?_
    refine x_zret rfl dX5_hasPlaces_14 (by decide) ⟨Or.inr ⟨rfl, by omega⟩, rfl⟩
  · refine x_iload_n 1 dX5_hasPlaces_4 rfl rfl ?_
    refine x_aload_n 0 dX5_hasPlaces_5 rfl rfl ?_
    refine x_getR fX5_13 dX5_hasPlaces_6 hk.l0 rfl ?_
    refine x_alen (v := nI c) dX5_hasPlaces_9 hk.l1 rfl ?_
    refine y_ic_lt 15 dX5_hasPlaces_10 (by decide) (by omega) (by omega) (fun c_10 => ?_) (fun c_10 => ?_)
    · refine x_aload_n 0 dX5_hasPlaces_15 rfl rfl ?_
      refine x_getR fX5_13 dX5_hasPlaces_16 hk.l0 rfl ?_
      refine x_iload_n 1 dX5_hasPlaces_19 rfl rfl ?_
      refine y_iald dX5_hasPlaces_20 hk.l1 hr hk.hc hz ?_
      refine x_istore (lv' := [(4, _), (0, _), (1, _), (2, _), (3, _)]) dX5_hasPlaces_21 (by decide) rfl ?_
      refine x_iload_n 3 dX5_hasPlaces_23 rfl rfl ?_
      refine x_if_lt 49 dX5_hasPlaces_24 (by decide) (fun c_24 => ?_) (fun c_24 => ?_)
      · refine x_iconst (v := nI 0) dX5_hasPlaces_49 (by decide) ?_
        refine x_zret rfl dX5_hasPlaces_50 (by decide) ⟨Or.inr ⟨rfl, by omega⟩, rfl⟩
      · refine x_iload_n 3 dX5_hasPlaces_27 rfl rfl ?_
        refine x_iload 0 dX5_hasPlaces_28 rfl ?_
        refine z_ic_gt 49 dX5_hasPlaces_30 (by decide) (by have := hk.hρ; omega) (fun c_30 => ?_) (fun c_30 => ?_)
        · refine x_iconst (v := nI 0) dX5_hasPlaces_49 (by decide) ?_
          refine x_zret rfl dX5_hasPlaces_50 (by decide) ⟨Or.inr ⟨rfl, by omega⟩, rfl⟩
        · obtain ⟨j, hj, rfl⟩ := nI_ex (n := z + 1) c_24 (by omega)
          have ej : (nI j).toInt = (j : Int) := tiN (by omega)
          refine x_iload_n 4 dX5_hasPlaces_33 rfl rfl ?_
          refine x_if_lt 49 dX5_hasPlaces_34 (by decide) (fun c_34 => ?_) (fun c_34 => ?_)
          · refine x_iconst (v := nI 0) dX5_hasPlaces_49 (by decide) ?_
            refine x_zret rfl dX5_hasPlaces_50 (by decide) ⟨Or.inr ⟨rfl, by omega⟩, rfl⟩
          · refine x_iload_n 4 dX5_hasPlaces_37 rfl rfl ?_
            refine x_iload 0 dX5_hasPlaces_38 rfl ?_
            refine x_iload_n 3 dX5_hasPlaces_40 rfl rfl ?_
            refine y_isub dX5_hasPlaces_41 (by omega) ?_
            refine z_ic_gt 49 dX5_hasPlaces_42 (by decide) (by have := hk.hρ; omega) (fun c_42 => ?_) (fun c_42 => ?_)
            · refine x_iconst (v := nI 0) dX5_hasPlaces_49 (by decide) ?_
              refine x_zret rfl dX5_hasPlaces_50 (by decide) ⟨Or.inr ⟨rfl, by omega⟩, rfl⟩
            · refine x_iconst (v := nI 1) dX5_hasPlaces_45 (by decide) ?_
              refine x_goto 50 dX5_hasPlaces_46 (by decide) ?_
              refine x_zret rfl dX5_hasPlaces_50 (by decide) ⟨Or.inl ⟨rfl, by omega⟩, rfl⟩
    · refine x_iconst (v := nI 0) dX5_hasPlaces_13 (by decide) ?_
      refine x_zret rfl dX5_hasPlaces_14 (by decide) ⟨Or.inr ⟨rfl, by omega⟩, rfl⟩

set_option maxHeartbeats 4000000 in
set_option maxRecDepth 100000 in
theorem c_X5_get {S : St} {k c ρ : Nat} {r i z : Nat} (hk : isRows k c ρ) (h0 : S.1 k 0 = nI ρ) (hr : r < c) (hz : S.1 (k + 1) r = nI z) (hz2 : z ≤ ρ) (hi : i < z) : C 1 30 yX5_get mX5_get [.ref k, .int (nI r), .int (nI i)] S (pu (.int (S.1 (k + 2) (r * ρ + i))) S) := by
  have hρ := hk.hρ
  have er : (nI r).toInt = (r : Int) := tiN (by omega)
  have ei : (nI i).toInt = (i : Int) := tiN (by omega)
  have e1 : (nI 1).toInt = 1 := rfl
  refine C.ofX (by decide) rfl (Nat.le_of_ble_eq_true rfl) ?_
  show X 1 30 mX5_get (pu (.int (S.1 (k + 2) (r * ρ + i))) S) 0 [(0, .ref k), (1, .int (nI r)), (2, .int (nI i))] [] S
  refine x_aload_n 0 dX5_get_0 rfl rfl ?_
  refine x_iload_n 1 dX5_get_1 rfl rfl ?_
  refine x_iload_n 2 dX5_get_2 rfl rfl ?_
  refine x_iconst (v := nI 1) dX5_get_3 (by decide) ?_
  refine x_callVb (as := [_, _, _]) (rest := []) vX5_37 (c_X5_hasPlaces hk hr hz hz2) dX5_get_4 hk.l0 rfl rfl rfl (Nat.le_of_ble_eq_true rfl) (Nat.le_of_ble_eq_true rfl) (Nat.le_of_ble_eq_true rfl) (fun c_4 => ?_) (fun c_4 => ?_)
  · refine u_if_eq 26 dX5_get_7 (by decide) (by decide) ?_
    refine x_aload_n 0 dX5_get_10 rfl rfl ?_
    refine x_getR fX5_17 dX5_get_11 hk.l0 rfl ?_
    refine x_iload_n 1 dX5_get_14 rfl rfl ?_
    refine x_aload_n 0 dX5_get_15 rfl rfl ?_
    refine y_getI fX5_7 dX5_get_16 hk.l0 rfl h0 ?_
    refine y_imul dX5_get_19 ?_
    refine x_iload_n 2 dX5_get_20 rfl rfl ?_
    refine y_iadd dX5_get_21 ?_
    refine y_iald dX5_get_22 hk.l2 (hk.ix hr (by omega)) hk.hcr rfl ?_
    refine x_goto 27 dX5_get_23 (by decide) ?_
    refine x_iret rfl dX5_get_27 ⟨rfl, rfl⟩
  · refine t_if_eq 26 dX5_get_7 (by decide) (by decide) ?_
    exact (show False by omega).elim

set_option maxHeartbeats 4000000 in
set_option maxRecDepth 100000 in
theorem c_X5_set {S : St} {k c ρ : Nat} {r i z : Nat} {v : Int32} (hk : isRows k c ρ) (h0 : S.1 k 0 = nI ρ) (hr : r < c) (hz : S.1 (k + 1) r = nI z) (hz2 : z ≤ ρ) (hi : i < z) : C 1 30 yX5_set mX5_set [.ref k, .int (nI r), .int (nI i), .int v] S (pv (setI S (k + 2) (r * ρ + i) v)) := by
  have hρ := hk.hρ
  have er : (nI r).toInt = (r : Int) := tiN (by omega)
  have ei : (nI i).toInt = (i : Int) := tiN (by omega)
  have e1 : (nI 1).toInt = 1 := rfl
  refine C.ofX (by decide) rfl (Nat.le_of_ble_eq_true rfl) ?_
  show X 1 30 mX5_set (pv (setI S (k + 2) (r * ρ + i) v)) 0 [(0, .ref k), (1, .int (nI r)), (2, .int (nI i)), (3, .int v)] [] S
  refine x_aload_n 0 dX5_set_0 rfl rfl ?_
  refine x_iload_n 1 dX5_set_1 rfl rfl ?_
  refine x_iload_n 2 dX5_set_2 rfl rfl ?_
  refine x_iconst (v := nI 1) dX5_set_3 (by decide) ?_
  refine x_callVb (as := [_, _, _]) (rest := []) vX5_37 (c_X5_hasPlaces hk hr hz hz2) dX5_set_4 hk.l0 rfl rfl rfl (Nat.le_of_ble_eq_true rfl) (Nat.le_of_ble_eq_true rfl) (Nat.le_of_ble_eq_true rfl) (fun c_4 => ?_) (fun c_4 => ?_)
  · refine u_if_eq 24 dX5_set_7 (by decide) (by decide) ?_
    refine x_aload_n 0 dX5_set_10 rfl rfl ?_
    refine x_getR fX5_17 dX5_set_11 hk.l0 rfl ?_
    refine x_iload_n 1 dX5_set_14 rfl rfl ?_
    refine x_aload_n 0 dX5_set_15 rfl rfl ?_
    refine y_getI fX5_7 dX5_set_16 hk.l0 rfl h0 ?_
    refine y_imul dX5_set_19 ?_
    refine x_iload_n 2 dX5_set_20 rfl rfl ?_
    refine y_iadd dX5_set_21 ?_
    refine x_iload_n 3 dX5_set_22 rfl rfl ?_
    refine y_iast dX5_set_23 hk.l2 (hk.ix hr (by omega)) hk.hcr ?_
    refine x_vret rfl dX5_set_24 ⟨rfl, rfl⟩
  · refine t_if_eq 24 dX5_set_7 (by decide) (by decide) ?_
    exact (show False by omega).elim

theorem cpA_k {S : St} {k0 k sp dp n a b : Nat} (h : ¬ a = k) : (cpA S k0 k sp dp n).1 a b = S.1 a b := if_neg h
set_option maxHeartbeats 4000000 in
set_option maxRecDepth 100000 in
theorem lp_there {S : St} {k c ρ : Nat} (hk : isRows k c ρ)  : ∀ (i : Nat) (S1 : St), S1 = S → i ≤ c → X 0 0 mX5_there (pu (.int (nI (sm (fun r => if (S.1 (k + 1) r).toInt < 0 then 0 else 1) c))) S) 4 [(2, .int (nI i)), (1, .int (nI ((sm (fun r => if (S.1 (k + 1) r).toInt < 0 then 0 else 1) i)))), (0, .ref k)] [] S1 := by
  intro i
  induction hm : c - i using Nat.strongRecOn generalizing i with
  | _ mm ih =>
    intro S1 hS1 hi
    replace hS1 := hS1.symm
    subst hS1
    have hρ := hk.hρ
    refine x_iload_n 0 dX5_there_4 rfl rfl ?_
    refine x_aload_n 2 dX5_there_5 rfl rfl ?_
    refine x_getR fX5_13 dX5_there_6 hk.l0 rfl ?_
    refine x_alen (v := nI c) dX5_there_9 hk.l1 rfl ?_
    refine y_ic_ge 36 dX5_there_10 (by decide) (by omega) hk.hc (fun c_10 => ?_) (fun c_10 => ?_)
    · refine x_iload_n 1 dX5_there_36 rfl rfl ?_
      refine x_iret rfl dX5_there_37 (by obtain rfl : i = c := (by omega); exact ⟨rfl, rfl⟩)
    · refine x_iload_n 1 dX5_there_13 rfl rfl ?_
      refine x_aload_n 2 dX5_there_14 rfl rfl ?_
      refine x_getR fX5_13 dX5_there_15 hk.l0 rfl ?_
      refine x_iload_n 0 dX5_there_18 rfl rfl ?_
      refine y_iald dX5_there_19 hk.l1 (by omega) hk.hc rfl ?_
      refine x_if_ge 27 dX5_there_20 (by decide) (fun c_20 => ?_) (fun c_20 => ?_)
      · refine x_iconst (v := nI 1) dX5_there_27 (by decide) ?_
        refine y_iadd dX5_there_28 ?_
        refine x_istore_n (lv' := [(1, _), (2, _), (0, _)]) dX5_there_29 rfl (by decide) rfl ?_
        rw [show sm (fun r => if (S.1 (k + 1) r).toInt < 0 then 0 else 1) i + _ = sm (fun r => if (S.1 (k + 1) r).toInt < 0 then 0 else 1) (i + 1) from by rw [sm_s]; first | rw [if_neg (by omega)] | rw [if_pos (by omega)]]
        refine y_iinc (lv' := [(2, _), (1, _), (0, _)]) 1 dX5_there_30 rfl (by decide) rfl ?_
        refine x_goto 4 dX5_there_33 (by decide) ?_
        refine x_pick (lv' := [(2, _), (1, _), (0, _)]) [0, 1, 2] rfl ?_
        exact ih (c - (i + 1)) (by omega) (i + 1) rfl _ rfl (by omega)
      · refine x_iconst (v := nI 0) dX5_there_23 (by decide) ?_
        refine x_goto 28 dX5_there_24 (by decide) ?_
        refine y_iadd dX5_there_28 ?_
        refine x_istore_n (lv' := [(1, _), (2, _), (0, _)]) dX5_there_29 rfl (by decide) rfl ?_
        rw [show sm (fun r => if (S.1 (k + 1) r).toInt < 0 then 0 else 1) i + _ = sm (fun r => if (S.1 (k + 1) r).toInt < 0 then 0 else 1) (i + 1) from by rw [sm_s]; first | rw [if_neg (by omega)] | rw [if_pos (by omega)]]
        refine y_iinc (lv' := [(2, _), (1, _), (0, _)]) 1 dX5_there_30 rfl (by decide) rfl ?_
        refine x_goto 4 dX5_there_33 (by decide) ?_
        refine x_pick (lv' := [(2, _), (1, _), (0, _)]) [0, 1, 2] rfl ?_
        exact ih (c - (i + 1)) (by omega) (i + 1) rfl _ rfl (by omega)

set_option maxHeartbeats 4000000 in
set_option maxRecDepth 100000 in
theorem c_X5_there {S : St} {k c ρ : Nat} (hk : isRows k c ρ)  : C 0 0 yX5_there mX5_there [.ref k] S (pu (.int (nI (sm (fun r => if (S.1 (k + 1) r).toInt < 0 then 0 else 1) c))) S) := by
  refine C.ofX (by decide) rfl (Nat.le_of_ble_eq_true rfl) ?_
  show X 0 0 mX5_there (pu (.int (nI (sm (fun r => if (S.1 (k + 1) r).toInt < 0 then 0 else 1) c))) S) 0 [(0, .ref k)] [] S
  refine x_iconst (v := nI 0) dX5_there_0 (by decide) ?_
  refine x_istore_n (lv' := [(1, _), (0, _)]) dX5_there_1 rfl (by decide) rfl ?_
  refine x_iconst (v := nI 0) dX5_there_2 (by decide) ?_
  refine x_istore_n (lv' := [(2, _), (1, _), (0, _)]) dX5_there_3 rfl (by decide) rfl ?_
  refine x_pick (lv' := [(2, _), (1, _), (0, _)]) [0, 1, 2] rfl ?_
  exact lp_there hk 0 S rfl (Nat.zero_le c)

/-- the digest's way through one row, and through the first rows -/
def mixR (S : St) (k ρ r z : Nat) (h : Int64) : Int64 := fl (fun i => (S.1 (k + 2) (r * ρ + i)).toInt64) (31 * h + (S.1 (k + 1) r).toInt64) z
def mixA (S : St) (k ρ : Nat) (h : Int64) : Nat → Int64
  | 0 => h
  | r + 1 => mixR S k ρ r (S.1 (k + 1) r).toInt.toNat (mixA S k ρ h r)
/-- sizes are -1 or up to the room -/
def RwS (k c ρ : Nat) (S : St) : Prop := S.1 k 0 = nI ρ ∧ ∀ r, r < c → S.1 (k + 1) r = -1 ∨ ∃ z, z ≤ ρ ∧ S.1 (k + 1) r = nI z
theorem RwS.le {k c ρ : Nat} {S : St} (h : RwS k c ρ S) (hk : isRows k c ρ) {r : Nat} (hr : r < c) : (S.1 (k + 1) r).toInt ≤ (ρ : Int) := by
  have := hk.hρ
  rcases h.2 r hr with e | ⟨z, hz, e⟩
  · rw [e, show (-1 : Int32).toInt = -1 from rfl]; omega
  · rw [e, tiN (by omega)]; omega
theorem RwS.nn {k c ρ : Nat} {S : St} (h : RwS k c ρ S) {r : Nat} (hr : r < c) (hm : ¬ (S.1 (k + 1) r).toInt < 0) : ∃ z, z ≤ ρ ∧ S.1 (k + 1) r = nI z := by
  rcases h.2 r hr with e | e
  · rw [e] at hm; exact absurd (by decide) hm
  · exact e
set_option maxHeartbeats 4000000 in
set_option maxRecDepth 100000 in
theorem lp_mix33 {S : St} {k c ρ : Nat} {h h0 : Int64} {r : Nat} (hk : isRows k c ρ) (hS : RwS k c ρ S) (hr : r < c) (H : ∀ h1 : Int64, h1 = mixR S k ρ r (S.1 (k + 1) r).toInt.toNat h → X 2 60 mX5_mix (pu (.long (mixA S k ρ h0 c)) S) 67 [(5, .int (nI r)), (3, .long h1), (0, .ref k), (1, .long h0)] [] S) : ∀ (i : Nat) (S1 : St), S1 = S → i ≤ (S.1 (k + 1) r).toInt.toNat → X 2 60 mX5_mix (pu (.long (mixA S k ρ h0 c)) S) 33 [(6, .int (nI i)), (3, .long (fl (fun i => (S.1 (k + 2) (r * ρ + i)).toInt64) (31 * h + (S.1 (k + 1) r).toInt64) i)), (5, .int (nI r)), (0, .ref k), (1, .long h0)] [] S1 := by
  intro i
  induction hm : (S.1 (k + 1) r).toInt.toNat - i using Nat.strongRecOn generalizing i with
  | _ mm ih =>
    intro S1 hS1 hi
    replace hS1 := hS1.symm
    subst hS1
    have hρ := hk.hρ
    have hle := hS.le hk hr
    refine x_iload 0 dX5_mix_33 rfl ?_
    refine x_aload_n 3 dX5_mix_35 rfl rfl ?_
    refine x_getR fX5_13 dX5_mix_36 hk.l0 rfl ?_
    refine x_iload 2 dX5_mix_39 rfl ?_
    refine y_iald dX5_mix_41 hk.l1 hr hk.hc rfl ?_
    refine x_ic_ge 67 dX5_mix_42 (by decide) (fun c_42 => ?_) (fun c_42 => ?_)
    · refine x_pick (lv' := [(5, _), (3, _), (0, _), (1, _)]) [2, 1, 3, 4] rfl ?_
      exact H _ (by rw [tiN (by omega)] at c_42; unfold mixR; rw [show (S.1 (k + 1) r).toInt.toNat = i from by omega])
    · obtain ⟨z, hz, ez⟩ := hS.nn hr (by rw [tiN (by omega)] at c_42; omega)
      refine x_ldc2 kX5_51 dX5_mix_45 ?_
      refine x_lload_n 1 dX5_mix_48 rfl rfl ?_
      refine x_lmul dX5_mix_49 ?_
      refine x_aload_n 3 dX5_mix_50 rfl rfl ?_
      refine x_iload 2 dX5_mix_51 rfl ?_
      refine x_iload 0 dX5_mix_53 rfl ?_
      refine x_callVu (as := [_, _]) (rest := [_]) vX5_47 (c_X5_get hk hS.1 hr ez hz (by rw [ez, tiN (by omega), tiN (by omega)] at c_42; omega)) dX5_mix_55 hk.l0 rfl rfl rfl (Nat.le_of_ble_eq_true rfl) (Nat.le_of_ble_eq_true rfl) (Nat.le_of_ble_eq_true rfl) ?_
      refine x_i2l dX5_mix_58 ?_
      refine x_ladd dX5_mix_59 ?_
      refine x_lstore_n (lv' := [(3, _), (6, _), (5, _), (0, _), (1, _)]) dX5_mix_60 rfl (by decide) rfl ?_
      refine y_iinc (lv' := [(6, _), (3, _), (5, _), (0, _), (1, _)]) 1 dX5_mix_61 rfl (by decide) rfl ?_
      refine x_goto 33 dX5_mix_64 (by decide) ?_
      refine x_pick (lv' := [(6, _), (3, _), (5, _), (0, _), (1, _)]) [0, 1, 2, 3, 4] rfl ?_
      exact ih _ (by rw [tiN (by omega)] at c_42; omega) (i + 1) rfl _ rfl (by rw [tiN (by omega)] at c_42; omega)

set_option maxHeartbeats 4000000 in
set_option maxRecDepth 100000 in
theorem lp_mix5 {S : St} {k c ρ : Nat} {h0 : Int64} (hk : isRows k c ρ) (hS : RwS k c ρ S)  : ∀ (r : Nat) (S1 : St), S1 = S → r ≤ c → X 2 60 mX5_mix (pu (.long (mixA S k ρ h0 c)) S) 5 [(5, .int (nI r)), (3, .long (mixA S k ρ h0 r)), (0, .ref k), (1, .long h0)] [] S1 := by
  intro r
  induction hm : c - r using Nat.strongRecOn generalizing r with
  | _ mm ih =>
    intro S1 hS1 hr
    replace hS1 := hS1.symm
    subst hS1
    have hρ := hk.hρ
    refine x_iload 0 dX5_mix_5 rfl ?_
    refine x_aload_n 2 dX5_mix_7 rfl rfl ?_
    refine x_getR fX5_13 dX5_mix_8 hk.l0 rfl ?_
    refine x_alen (v := nI c) dX5_mix_11 hk.l1 rfl ?_
    refine y_ic_ge 73 dX5_mix_12 (by decide) (by omega) hk.hc (fun c_12 => ?_) (fun c_12 => ?_)
    · refine x_lload_n 1 dX5_mix_73 rfl rfl ?_
      refine x_lret rfl dX5_mix_74 (by obtain rfl : r = c := (by omega); exact ⟨rfl, rfl⟩)
    · refine x_ldc2 kX5_51 dX5_mix_15 ?_
      refine x_lload_n 1 dX5_mix_18 rfl rfl ?_
      refine x_lmul dX5_mix_19 ?_
      refine x_aload_n 2 dX5_mix_20 rfl rfl ?_
      refine x_getR fX5_13 dX5_mix_21 hk.l0 rfl ?_
      refine x_iload 0 dX5_mix_24 rfl ?_
      refine y_iald dX5_mix_26 hk.l1 (by omega) hk.hc rfl ?_
      refine x_i2l dX5_mix_27 ?_
      refine x_ladd dX5_mix_28 ?_
      refine x_lstore_n (lv' := [(3, _), (5, _), (0, _), (1, _)]) dX5_mix_29 rfl (by decide) rfl ?_
      refine x_iconst (v := nI 0) dX5_mix_30 (by decide) ?_
      refine x_istore (lv' := [(6, _), (3, _), (5, _), (0, _), (1, _)]) dX5_mix_31 (by decide) rfl ?_
      refine x_pick (lv' := [(6, _), (3, _), (5, _), (0, _), (1, _)]) [0, 1, 2, 3, 4] rfl ?_
      refine lp_mix33 hk hS (by omega) (fun h1 hh => ?_) 0 S rfl (Nat.zero_le _)
      subst hh
      refine y_iinc (lv' := [(5, _), (3, _), (0, _), (1, _)]) 0 dX5_mix_67 rfl (by decide) rfl ?_
      refine x_goto 5 dX5_mix_70 (by decide) ?_
      exact ih (c - (r + 1)) (by omega) (r + 1) rfl _ rfl (by omega)

set_option maxHeartbeats 4000000 in
set_option maxRecDepth 100000 in
theorem c_X5_mix {S : St} {k c ρ : Nat} {h0 : Int64} (hk : isRows k c ρ) (hS : RwS k c ρ S)  : C 2 60 yX5_mix mX5_mix [.ref k, .long h0] S (pu (.long (mixA S k ρ h0 c)) S) := by
  refine C.ofX (by decide) rfl (Nat.le_of_ble_eq_true rfl) ?_
  show X 2 60 mX5_mix (pu (.long (mixA S k ρ h0 c)) S) 0 [(0, .ref k), (1, .long h0)] [] S
  refine x_lload_n 1 dX5_mix_0 rfl rfl ?_
  refine x_lstore_n (lv' := [(3, _), (0, _), (1, _)]) dX5_mix_1 rfl (by decide) rfl ?_
  refine x_iconst (v := nI 0) dX5_mix_2 (by decide) ?_
  refine x_istore (lv' := [(5, _), (3, _), (0, _), (1, _)]) dX5_mix_3 (by decide) rfl ?_
  refine x_pick (lv' := [(5, _), (3, _), (0, _), (1, _)]) [0, 1, 2, 3] rfl ?_
  exact lp_mix5 hk hS 0 S rfl (Nat.zero_le c)

def fndS (S : St) (f : Nat) : St := setI (setI S 1 3 (nI f)) 2 f (S.1 2 f + nI 1)
set_option maxHeartbeats 4000000 in
set_option maxRecDepth 100000 in
theorem c_X9_tell {S : St} {v : Int32} : C 0 0 yX9_tell mX9_tell [.ref 1, .int v] S (pu (.int 1) (setI S 1 0 v)) := by
  refine C.ofX (by decide) rfl (Nat.le_of_ble_eq_true rfl) ?_
  show X 0 0 mX9_tell (pu (.int 1) (setI S 1 0 v)) 0 [(0, .ref 1), (1, .int v)] [] S
  refine x_aload_n 0 dX9_tell_0 rfl rfl ?_
  refine x_iload_n 1 dX9_tell_1 rfl rfl ?_
  refine x_putI pX9_19 dX9_tell_2 l1 rfl ?_
  refine x_iconst (v := nI 1) dX9_tell_5 (by decide) ?_
  refine x_iret rfl dX9_tell_6 ⟨rfl, rfl⟩

set_option maxHeartbeats 4000000 in
set_option maxRecDepth 100000 in
theorem c_X9_find {S : St} {f : Nat} (h1 : 1 ≤ f) (h5 : f ≤ 5) : C 0 0 yX9_find mX9_find [.ref 1, .int (nI f)] S (pu (.int (-3)) (fndS S f)) := by
  refine C.ofX (by decide) rfl (Nat.le_of_ble_eq_true rfl) ?_
  show X 0 0 mX9_find (pu (.int (-3)) (fndS S f)) 0 [(0, .ref 1), (1, .int (nI f))] [] S
  refine x_iload_n 1 dX9_find_0 rfl rfl ?_
  refine x_iconst (v := nI 1) dX9_find_1 (by decide) ?_
  refine y_ic_lt 10 dX9_find_2 (by decide) (by omega) (by omega) (fun c_2 => ?_) (fun c_2 => ?_)
  · exact absurd h1 (by omega)
  · refine x_iload_n 1 dX9_find_5 rfl rfl ?_
    refine x_iconst (v := nI 5) dX9_find_6 (by decide) ?_
    refine y_ic_le 13 dX9_find_7 (by decide) (by omega) (by omega) (fun c_7 => ?_) (fun c_7 => ?_)
    · refine x_aload_n 0 dX9_find_13 rfl rfl ?_
      refine x_iload_n 1 dX9_find_14 rfl rfl ?_
      refine x_putI pX9_23 dX9_find_15 l1 rfl ?_
      refine x_aload_n 0 dX9_find_18 rfl rfl ?_
      refine x_getR fX9_15 dX9_find_19 l1 rfl ?_
      refine x_iload_n 1 dX9_find_22 rfl rfl ?_
      refine x_dup2 dX9_find_23 rfl rfl ?_
      refine y_iald dX9_find_24 l2 (by omega) (by decide) (rdI_k (by decide)) ?_
      refine x_iconst (v := nI 1) dX9_find_25 (by decide) ?_
      refine x_iadd dX9_find_26 ?_
      refine y_iast dX9_find_27 l2 (by omega) (by decide) ?_
      refine x_bipush (v := -3) dX9_find_28 (by decide) ?_
      refine x_iret rfl dX9_find_30 ⟨rfl, rfl⟩
    · exact absurd h1 (by omega)

def isPrs (k c : Nat) : Prop := (k = 60 ∧ c = 40) ∨ (k = 63 ∧ c = 8)
theorem isPrs.l0 {k c : Nat} (h : isPrs k c) : LAY[k]? = some (.inl (2, [.inr false, .inl (k + 1), .inl (k + 2)])) := by rcases h with ⟨rfl, rfl⟩ | ⟨rfl, rfl⟩ <;> rfl
theorem isPrs.l1 {k c : Nat} (h : isPrs k c) : LAY[k + 1]? = some (.inr (0, c)) := by rcases h with ⟨rfl, rfl⟩ | ⟨rfl, rfl⟩ <;> rfl
theorem isPrs.l2 {k c : Nat} (h : isPrs k c) : LAY[k + 2]? = some (.inr (0, c)) := by rcases h with ⟨rfl, rfl⟩ | ⟨rfl, rfl⟩ <;> rfl
theorem isPrs.hc {k c : Nat} (h : isPrs k c) : c < 2147483648 := by rcases h with ⟨rfl, rfl⟩ | ⟨rfl, rfl⟩ <;> decide
theorem isPrs.hc40 {k c : Nat} (h : isPrs k c) : c ≤ 40 := by rcases h with ⟨rfl, rfl⟩ | ⟨rfl, rfl⟩ <;> decide
set_option maxHeartbeats 4000000 in
set_option maxRecDepth 100000 in
theorem c_X2_isFull {S : St} {k c cnt : Nat} (hk : isPrs k c) (h0 : S.1 k 0 = nI cnt) (hc : cnt ≤ c) : C 0 0 yX2_isFull mX2_isFull [.ref k] S (pb (cnt = c) S) := by
  have h40 := hk.hc40
  refine C.ofX (by decide) rfl (Nat.le_of_ble_eq_true rfl) ?_
  show X 0 0 mX2_isFull (pb (cnt = c) S) 0 [(0, .ref k)] [] S
  refine x_aload_n 0 dX2_isFull_0 rfl rfl ?_
  refine y_getI fX2_16 dX2_isFull_1 hk.l0 rfl h0 ?_
  refine x_aload_n 0 dX2_isFull_4 rfl rfl ?_
  refine x_getR fX2_7 dX2_isFull_5 hk.l0 rfl ?_
  refine x_alen (v := nI c) dX2_isFull_8 hk.l1 rfl ?_
  refine y_ic_lt 16 dX2_isFull_9 (by decide) (by omega) (by omega) (fun c_9 => ?_) (fun c_9 => ?_)
  · refine x_iconst (v := nI 0) dX2_isFull_16 (by decide) ?_
    refine x_zret rfl dX2_isFull_17 (by decide) ⟨Or.inr ⟨rfl, by omega⟩, rfl⟩
  · refine x_iconst (v := nI 1) dX2_isFull_12 (by decide) ?_
    refine x_goto 17 dX2_isFull_13 (by decide) ?_
    refine x_zret rfl dX2_isFull_17 (by decide) ⟨Or.inl ⟨rfl, by omega⟩, rfl⟩

set_option maxHeartbeats 4000000 in
set_option maxRecDepth 100000 in
theorem c_X2_add {S : St} {k c cnt : Nat} (hk : isPrs k c) {x y : Int32} (h0 : S.1 k 0 = nI cnt) (hc : cnt < c) : C 1 30 yX2_add mX2_add [.ref k, .int x, .int y] S (pv (setI (setI (setI S (k + 1) cnt x) (k + 2) cnt y) k 0 (nI (cnt + 1)))) := by
  refine C.ofX (by decide) rfl (Nat.le_of_ble_eq_true rfl) ?_
  show X 1 30 mX2_add (pv (setI (setI (setI S (k + 1) cnt x) (k + 2) cnt y) k 0 (nI (cnt + 1)))) 0 [(0, .ref k), (1, .int x), (2, .int y)] [] S
  refine x_aload_n 0 dX2_add_0 rfl rfl ?_
  refine x_callVb (as := []) (rest := []) vX2_20 (c_X2_isFull hk h0 (by omega)) dX2_add_1 hk.l0 rfl rfl rfl (Nat.le_of_ble_eq_true rfl) (Nat.le_of_ble_eq_true rfl) (Nat.le_of_ble_eq_true rfl) (fun c_1 => ?_) (fun c_1 => ?_)
  · refine u_if_eq 8 dX2_add_4 (by decide) (by decide) ?_
    exact absurd c_1 (by omega)
  · refine t_if_eq 8 dX2_add_4 (by decide) (by decide) ?_
    refine x_aload_n 0 dX2_add_8 rfl rfl ?_
    refine x_getR fX2_7 dX2_add_9 hk.l0 rfl ?_
    refine x_aload_n 0 dX2_add_12 rfl rfl ?_
    refine y_getI fX2_16 dX2_add_13 hk.l0 rfl h0 ?_
    refine x_iload_n 1 dX2_add_16 rfl rfl ?_
    refine y_iast dX2_add_17 hk.l1 (by omega) hk.hc ?_
    refine x_aload_n 0 dX2_add_18 rfl rfl ?_
    refine x_getR fX2_13 dX2_add_19 hk.l0 rfl ?_
    refine x_aload_n 0 dX2_add_22 rfl rfl ?_
    refine y_getI fX2_16 dX2_add_23 hk.l0 rfl (((rdI_k (by omega))).trans h0) ?_
    refine x_iload_n 2 dX2_add_26 rfl rfl ?_
    refine y_iast dX2_add_27 hk.l2 (by omega) hk.hc ?_
    refine x_aload_n 0 dX2_add_28 rfl rfl ?_
    refine x_dup dX2_add_29 rfl ?_
    refine y_getI fX2_16 dX2_add_30 hk.l0 rfl ((((rdI_k (by omega))).trans (rdI_k (by omega))).trans h0) ?_
    refine x_iconst (v := nI 1) dX2_add_33 (by decide) ?_
    refine y_iadd dX2_add_34 ?_
    refine x_putI pX2_16 dX2_add_35 hk.l0 rfl ?_
    refine x_vret rfl dX2_add_38 ⟨rfl, rfl⟩

set_option maxHeartbeats 4000000 in
set_option maxRecDepth 100000 in
theorem c_X2_firstOf {S : St} {k c cnt : Nat} (hk : isPrs k c) {i : Nat} (h0 : S.1 k 0 = nI cnt) (hc : cnt ≤ c) (hi : i < cnt) : C 0 0 yX2_firstOf mX2_firstOf [.ref k, .int (nI i)] S (pu (.int (S.1 (k + 1) i)) S) := by
  have h40 := hk.hc40
  refine C.ofX (by decide) rfl (Nat.le_of_ble_eq_true rfl) ?_
  show X 0 0 mX2_firstOf (pu (.int (S.1 (k + 1) i)) S) 0 [(0, .ref k), (1, .int (nI i))] [] S
  refine x_iload_n 1 dX2_firstOf_0 rfl rfl ?_
  refine y_if_lt 21 dX2_firstOf_1 (by decide) (by omega) (fun c_1 => ?_) (fun c_1 => ?_)
  · exact absurd hi (by omega)
  · refine x_iload_n 1 dX2_firstOf_4 rfl rfl ?_
    refine x_aload_n 0 dX2_firstOf_5 rfl rfl ?_
    refine y_getI fX2_16 dX2_firstOf_6 hk.l0 rfl h0 ?_
    refine y_ic_ge 21 dX2_firstOf_9 (by decide) (by omega) (by omega) (fun c_9 => ?_) (fun c_9 => ?_)
    · exact absurd hi (by omega)
    · refine x_aload_n 0 dX2_firstOf_12 rfl rfl ?_
      refine x_getR fX2_7 dX2_firstOf_13 hk.l0 rfl ?_
      refine x_iload_n 1 dX2_firstOf_16 rfl rfl ?_
      refine y_iald dX2_firstOf_17 hk.l1 (by omega) hk.hc rfl ?_
      refine x_goto 22 dX2_firstOf_18 (by decide) ?_
      refine x_iret rfl dX2_firstOf_22 ⟨rfl, rfl⟩

set_option maxHeartbeats 4000000 in
set_option maxRecDepth 100000 in
theorem c_X2_secondOf {S : St} {k c cnt : Nat} (hk : isPrs k c) {i : Nat} (h0 : S.1 k 0 = nI cnt) (hc : cnt ≤ c) (hi : i < cnt) : C 0 0 yX2_secondOf mX2_secondOf [.ref k, .int (nI i)] S (pu (.int (S.1 (k + 2) i)) S) := by
  have h40 := hk.hc40
  refine C.ofX (by decide) rfl (Nat.le_of_ble_eq_true rfl) ?_
  show X 0 0 mX2_secondOf (pu (.int (S.1 (k + 2) i)) S) 0 [(0, .ref k), (1, .int (nI i))] [] S
  refine x_iload_n 1 dX2_secondOf_0 rfl rfl ?_
  refine y_if_lt 21 dX2_secondOf_1 (by decide) (by omega) (fun c_1 => ?_) (fun c_1 => ?_)
  · exact absurd hi (by omega)
  · refine x_iload_n 1 dX2_secondOf_4 rfl rfl ?_
    refine x_aload_n 0 dX2_secondOf_5 rfl rfl ?_
    refine y_getI fX2_16 dX2_secondOf_6 hk.l0 rfl h0 ?_
    refine y_ic_ge 21 dX2_secondOf_9 (by decide) (by omega) (by omega) (fun c_9 => ?_) (fun c_9 => ?_)
    · exact absurd hi (by omega)
    · refine x_aload_n 0 dX2_secondOf_12 rfl rfl ?_
      refine x_getR fX2_13 dX2_secondOf_13 hk.l0 rfl ?_
      refine x_iload_n 1 dX2_secondOf_16 rfl rfl ?_
      refine y_iald dX2_secondOf_17 hk.l2 (by omega) hk.hc rfl ?_
      refine x_goto 22 dX2_secondOf_18 (by decide) ?_
      refine x_iret rfl dX2_secondOf_22 ⟨rfl, rfl⟩

