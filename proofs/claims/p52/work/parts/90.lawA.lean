/-! ===== the law's small methods ===== -/
theorem lt_ok {a b : Nat} (h : Nat.ble (a + 1) b = true) : a < b := Nat.le_of_ble_eq_true h
section XS2
variable {fr lo : Nat} {M : MD} {Q : Option Value → St → Prop} {pc : Nat} {lv : List (Nat × Value)} {st : List Value} {S : St}
theorem y_sld {sc : Sc} {i : Nat} (hM : M.2.2.2.2.1 = some sc) (hd : decode M.2.1 pc = .ok (.iaload, 1)) (hi : i < sc.1 ∧ i < 2147483648) (kk : X fr lo M Q (pc + 1) lv (.int (sc.2 i) :: st) S) : X fr lo M Q pc lv (.int (nI i) :: .ref 201 :: st) S := x_sld hM hd (by rw [tiN hi.2]; omega) (by rw [tcN hi.2]; exact kk)
theorem y_wald {i : Nat} {v : Int32} (hM : M.2.2.2.2.2.2 = true) (hd : decode M.2.1 pc = .ok (.iaload, 1)) (hi : i < 5) (hv : S.1 84 i = v) (kk : X fr lo M Q (pc + 1) lv (.int v :: st) S) : X fr lo M Q pc lv (.int (nI i) :: .ref 84 :: st) S := x_wald hM hd (by rw [tiN (by omega)]; omega) (by rw [tcN (by omega), hv]; exact kk)
theorem y_wast {i : Nat} {v : Int32} (hM : M.2.2.2.2.2.2 = true) (hd : decode M.2.1 pc = .ok (.iastore, 1)) (hi : i < 5) (kk : X fr lo M Q (pc + 1) lv st (setI S 84 i v)) : X fr lo M Q pc lv (.int v :: .int (nI i) :: .ref 84 :: st) S := x_wast hM hd (by rw [tiN (by omega)]; omega) (by rw [tcN (by omega)]; exact kk)
end XS2
/-- what the law reads of its script -/
def celF (sc : Sc) (k : Nat) : Nat := if k < sc.1 then (sc.2 k).toBitVec.toNat % 2 ^ 28 else (61 * k + 7) * (k + 3)
theorem cel_1 {sc : Sc} {k : Nat} (h : k < sc.1) : sc.2 k &&& nI 268435455 = nI (celF sc k) := by
  unfold celF
  rw [if_pos h]
  exact pk_and _ 28 rfl
theorem cel_2 {sc : Sc} {k : Nat} (h : sc.1 ≤ k) : celF sc k = (61 * k + 7) * (k + 3) := if_neg (by omega)
theorem cel_lt {sc : Sc} {k : Nat} (hk : k < 1000) : celF sc k < 268435456 := by
  unfold celF
  split
  · exact Nat.mod_lt _ (by decide)
  · have : (61 * k + 7) * (k + 3) ≤ (61 * 999 + 7) * (999 + 3) := Nat.mul_le_mul (by omega) (by omega)
    omega

set_option maxHeartbeats 4000000 in
set_option maxRecDepth 100000 in
theorem c_L_cell {S : St} {sc : Sc} (hsc : sc.1 ≤ 260) {k : Nat} (hk : k < 1000) : C 0 0 yL_cell (mL_cell sc) [.ref 201, .int (nI k)] S (pu (.int (nI (celF sc k))) S) := by
  refine C.ofX (by decide) rfl (Nat.le_of_ble_eq_true rfl) ?_
  show X 0 0 (mL_cell sc) (pu (.int (nI (celF sc k))) S) 0 [(0, .ref 201), (1, .int (nI k))] [] S
  refine x_iload_n 1 dL_cell_0 rfl rfl ?_
  refine x_aload_n 0 dL_cell_1 rfl rfl ?_
  refine x_slen rfl dL_cell_2 ?_
  refine y_ic_ge 15 dL_cell_3 (by decide) (by omega) (by omega) (fun c_3 => ?_) (fun c_3 => ?_)
  · refine x_bipush (v := nI 61) dL_cell_15 (by decide) ?_
    refine x_iload_n 1 dL_cell_17 rfl rfl ?_
    refine y_imul dL_cell_18 ?_
    refine x_bipush (v := nI 7) dL_cell_19 (by decide) ?_
    refine y_iadd dL_cell_21 ?_
    refine x_iload_n 1 dL_cell_22 rfl rfl ?_
    refine x_iconst (v := nI 3) dL_cell_23 (by decide) ?_
    refine y_iadd dL_cell_24 ?_
    refine y_imul dL_cell_25 ?_
    refine x_iret rfl dL_cell_26 ⟨by rw [cel_2 c_3], rfl⟩
  · refine x_aload_n 0 dL_cell_6 rfl rfl ?_
    refine x_iload_n 1 dL_cell_7 rfl rfl ?_
    refine y_sld rfl dL_cell_8 (by omega) ?_
    refine x_ldc kL_7 dL_cell_9 ?_
    rw [show (268435455 : Int32) = nI 268435455 from rfl]
    refine x_iand dL_cell_11 ?_
    refine x_goto 26 dL_cell_12 (by decide) ?_
    refine x_iret rfl dL_cell_26 ⟨congrArg (fun z => some (Value.int z)) (cel_1 c_3), rfl⟩

set_option maxHeartbeats 4000000 in
set_option maxRecDepth 100000 in
theorem c_L_counts {S : St} {k : Nat} (hk : k < 1000) : C 0 0 yL_counts mL_counts [.int (nI k)] S (pu (.int (nI (wt k))) S) := by
  refine C.ofX (by decide) rfl (Nat.le_of_ble_eq_true rfl) ?_
  show X 0 0 mL_counts (pu (.int (nI (wt k))) S) 0 [(0, .int (nI k))] [] S
  refine x_iload_n 0 dL_counts_0 rfl rfl ?_
  refine x_iconst (v := nI 3) dL_counts_1 (by decide) ?_
  refine y_ic_eq 10 dL_counts_2 (by decide) (by omega) (by omega) (fun c_2 => ?_) (fun c_2 => ?_)
  · refine x_iconst (v := nI 2) dL_counts_10 (by decide) ?_
    refine x_goto 15 dL_counts_11 (by decide) ?_
    refine x_iret rfl dL_counts_15 ⟨by unfold wt; first | rw [if_pos (by omega)] | rw [if_neg (by omega)], rfl⟩
  · refine x_iload_n 0 dL_counts_5 rfl rfl ?_
    refine x_iconst (v := nI 5) dL_counts_6 (by decide) ?_
    refine y_ic_ne 14 dL_counts_7 (by decide) (by omega) (by omega) (fun c_7 => ?_) (fun c_7 => ?_)
    · refine x_iconst (v := nI 1) dL_counts_14 (by decide) ?_
      refine x_iret rfl dL_counts_15 ⟨by unfold wt; first | rw [if_pos (by omega)] | rw [if_neg (by omega)], rfl⟩
    · refine x_iconst (v := nI 2) dL_counts_10 (by decide) ?_
      refine x_goto 15 dL_counts_11 (by decide) ?_
      refine x_iret rfl dL_counts_15 ⟨by unfold wt; first | rw [if_pos (by omega)] | rw [if_neg (by omega)], rfl⟩

set_option maxHeartbeats 4000000 in
set_option maxRecDepth 100000 in
theorem c_L_bag {S : St} {k : Nat} (hk : k < 1000) : C 0 0 yL_bag mL_bag [.int (nI k)] S (pb (bagK k) S) := by
  refine C.ofX (by decide) rfl (Nat.le_of_ble_eq_true rfl) ?_
  show X 0 0 mL_bag (pb (bagK k) S) 0 [(0, .int (nI k))] [] S
  refine x_iload_n 0 dL_bag_0 rfl rfl ?_
  refine x_iconst (v := nI 1) dL_bag_1 (by decide) ?_
  refine y_ic_eq 10 dL_bag_2 (by decide) (by omega) (by omega) (fun c_2 => ?_) (fun c_2 => ?_)
  · refine x_iconst (v := nI 1) dL_bag_10 (by decide) ?_
    refine x_goto 15 dL_bag_11 (by decide) ?_
    refine x_zret rfl dL_bag_15 (by decide) ⟨Or.inl ⟨rfl, by unfold bagK; omega⟩, rfl⟩
  · refine x_iload_n 0 dL_bag_5 rfl rfl ?_
    refine x_iconst (v := nI 4) dL_bag_6 (by decide) ?_
    refine y_ic_ne 14 dL_bag_7 (by decide) (by omega) (by omega) (fun c_7 => ?_) (fun c_7 => ?_)
    · refine x_iconst (v := nI 0) dL_bag_14 (by decide) ?_
      refine x_zret rfl dL_bag_15 (by decide) ⟨Or.inr ⟨rfl, by unfold bagK; omega⟩, rfl⟩
    · refine x_iconst (v := nI 1) dL_bag_10 (by decide) ?_
      refine x_goto 15 dL_bag_11 (by decide) ?_
      refine x_zret rfl dL_bag_15 (by decide) ⟨Or.inl ⟨rfl, by unfold bagK; omega⟩, rfl⟩

set_option maxHeartbeats 4000000 in
set_option maxRecDepth 100000 in
theorem c_L_living {S : St} {k : Nat} (hk : k < 1000) : C 0 0 yL_living mL_living [.int (nI k)] S (pb (livK k) S) := by
  refine C.ofX (by decide) rfl (Nat.le_of_ble_eq_true rfl) ?_
  show X 0 0 mL_living (pb (livK k) S) 0 [(0, .int (nI k))] [] S
  refine x_iload_n 0 dL_living_0 rfl rfl ?_
  refine x_iconst (v := nI 2) dL_living_1 (by decide) ?_
  refine y_ic_eq 10 dL_living_2 (by decide) (by omega) (by omega) (fun c_2 => ?_) (fun c_2 => ?_)
  · refine x_iconst (v := nI 1) dL_living_10 (by decide) ?_
    refine x_goto 15 dL_living_11 (by decide) ?_
    refine x_zret rfl dL_living_15 (by decide) ⟨Or.inl ⟨rfl, by unfold livK; omega⟩, rfl⟩
  · refine x_iload_n 0 dL_living_5 rfl rfl ?_
    refine x_iconst (v := nI 5) dL_living_6 (by decide) ?_
    refine y_ic_ne 14 dL_living_7 (by decide) (by omega) (by omega) (fun c_7 => ?_) (fun c_7 => ?_)
    · refine x_iconst (v := nI 0) dL_living_14 (by decide) ?_
      refine x_zret rfl dL_living_15 (by decide) ⟨Or.inr ⟨rfl, by unfold livK; omega⟩, rfl⟩
    · refine x_iconst (v := nI 1) dL_living_10 (by decide) ?_
      refine x_goto 15 dL_living_11 (by decide) ?_
      refine x_zret rfl dL_living_15 (by decide) ⟨Or.inl ⟨rfl, by unfold livK; omega⟩, rfl⟩

theorem c_put3 {S : St} (hS : RwS 6 4 100 S) (h7 : S.1 7 3 = nI 100) {a b : Nat} (ha : a < 100) (h8 : S.1 8 (300 + a) = nI 32) (hb : b < 128) : C 3 90 yX10_put mX10_put [.ref 0, .int (nI 3), .int (nI a), .int (nI b)] S (pu (.int (nI 1032)) (setI S 8 (300 + a) (nI b))) := by
  have h := c_X10_put (x := nI 3) (y := nI a) (v := nI b) hS
  have e3 : (nI 3).toInt = 3 := by decide
  have ea : (nI a).toInt = (a : Int) := tiN (by omega)
  have t3 : tn (nI 3) = 3 := by decide
  have ta : tn (nI a) = a := tnN (by omega)
  have e100 : (nI 100).toInt = 100 := by decide
  have e1 : layA 4 (nI 3) (nI a) (S.1 7 (tn (nI 3))) (S.1 8 (tn (nI 3) * 100 + tn (nI a)) + nI 1000) = nI 1032 := by
    unfold layA
    rw [t3, ta, h7, if_neg (by rw [e3]; omega), if_neg (by rw [e100]; omega), if_neg (by rw [e100, ea]; omega), h8]
    decide
  have e2 : putX S (nI 3) (nI a) (nI b) = setI S 8 (300 + a) (nI b) := by
    unfold putX
    rw [t3, ta, h7, if_neg (by rw [e3]; omega), if_neg (by rw [e100]; omega), if_neg (by rw [e100, ea]; omega)]
    have : (nI b).toInt8.toInt32 = nI b := by
      have key : ∀ b, b < 128 → (nI b).toInt8.toInt32 = nI b := by decide +kernel
      exact key b hb
    rw [this]
  rw [e1, e2] at h
  exact h

set_option maxHeartbeats 4000000 in
set_option maxRecDepth 100000 in
theorem c_L_put {S : St} (hS : RwS 6 4 100 S) (h7 : S.1 7 3 = nI 100) {a b : Nat} (ha : a < 100) (h8 : S.1 8 (300 + a) = nI 32) (hb : b < 128) : C 4 120 yL_put mL_put [.ref 0, .int (nI a), .int (nI b)] S (pu (.int (nI (a + 1))) (setI S 8 (300 + a) (nI b))) := by
  refine C.ofX (by decide) rfl (Nat.le_of_ble_eq_true rfl) ?_
  show X 4 120 mL_put (pu (.int (nI (a + 1))) (setI S 8 (300 + a) (nI b))) 0 [(0, .ref 0), (1, .int (nI a)), (2, .int (nI b))] [] S
  refine x_iload_n 1 dL_put_0 rfl rfl ?_
  refine y_if_lt 23 dL_put_1 (by decide) (by omega) (fun c_1 => ?_) (fun c_1 => ?_)
  · refine x_sipush (v := -1000) dL_put_23 (by decide +kernel) ?_
    refine x_iret rfl dL_put_26 (show False by omega).elim
  · refine x_aload_n 0 dL_put_4 rfl rfl ?_
    refine x_iconst (v := nI 3) dL_put_5 (by decide) ?_
    refine x_iload_n 1 dL_put_6 rfl rfl ?_
    refine x_iload_n 2 dL_put_7 rfl rfl ?_
    refine x_callVu (as := [_, _, _]) (rest := []) vL_8 (c_put3 hS h7 ha h8 hb) dL_put_8 l0 rfl rfl rfl (Nat.le_of_ble_eq_true rfl) (Nat.le_of_ble_eq_true rfl) (Nat.le_of_ble_eq_true rfl) ?_
    refine x_sipush (v := nI 1032) dL_put_11 (by decide +kernel) ?_
    refine y_ic_ne 23 dL_put_14 (by decide) (by omega) (by omega) (fun c_14 => ?_) (fun c_14 => ?_)
    · refine x_sipush (v := -1000) dL_put_23 (by decide +kernel) ?_
      refine x_iret rfl dL_put_26 (show False by omega).elim
    · refine x_iload_n 1 dL_put_17 rfl rfl ?_
      refine x_iconst (v := nI 1) dL_put_18 (by decide) ?_
      refine y_iadd dL_put_19 ?_
      refine x_goto 26 dL_put_20 (by decide) ?_
      refine x_iret rfl dL_put_26 ⟨rfl, rfl⟩

set_option maxHeartbeats 4000000 in
set_option maxRecDepth 100000 in
theorem c_L_tells {S : St} : C 1 30 yL_tells mL_tells [.ref 0, .int (nI 1)] S (pu (.int (S.1 1 0)) S) := by
  refine C.ofX (by decide) rfl (Nat.le_of_ble_eq_true rfl) ?_
  show X 1 30 mL_tells (pu (.int (S.1 1 0)) S) 0 [(0, .ref 0), (1, .int (nI 1))] [] S
  refine x_iload_n 1 dL_tells_0 rfl rfl ?_
  refine x_iconst (v := nI 1) dL_tells_1 (by decide) ?_
  refine y_ic_ne 12 dL_tells_2 (by decide) (by omega) (by omega) (fun c_2 => ?_) (fun c_2 => ?_)
  · refine x_sipush (v := -7777) dL_tells_12 (by decide +kernel) ?_
    refine x_iret rfl dL_tells_15 (show False by omega).elim
  · refine x_aload_n 0 dL_tells_5 rfl rfl ?_
    refine x_callVu (as := []) (rest := []) vL_83 c_X10_asked dL_tells_6 l0 rfl rfl rfl (Nat.le_of_ble_eq_true rfl) (Nat.le_of_ble_eq_true rfl) (Nat.le_of_ble_eq_true rfl) ?_
    refine x_goto 15 dL_tells_9 (by decide) ?_
    refine x_iret rfl dL_tells_15 ⟨rfl, rfl⟩
