def popF (s : Nat) : Nat := sm (fun i => s / 2 ^ i % 2) 8
theorem pop_k : ∀ s, s < 256 → 0 < s → popF (s &&& (s - 1)) + 1 = popF s ∧ s &&& (s - 1) < s := by decide +kernel
theorem pop_le : ∀ s, s < 256 → popF s ≤ 8 := by decide +kernel
/-- what a work asks of the first things -/
def askF (I : Isl) (w : Nat → Nat) (v n : Nat) : Prop := ∀ t, t < n → (iV I v 2).testBit t = true → whomF I w t = iV I v 1
theorem askF_can {I : Isl} {w : Nat → Nat} {v : Nat} (hO : IOK I) (hv : v < iW I) : askF I w v (iM I) ↔ canF I w v := by
  rw [canF_iff]
  have hlt := (hO.2.2.2.2.2.2.2.2 v hv).2.2.1
  constructor
  · intro h t ht
    have : t < iM I := by
      rcases Nat.lt_or_ge t (iM I) with q | q
      · exact q
      · exfalso
        have := Nat.testBit_lt_two_pow (i := t) (Nat.lt_of_lt_of_le hlt (Nat.pow_le_pow_right (by decide) q))
        rw [this] at ht; cases ht
    exact ⟨this, h t this ht⟩
  · exact fun h t _ ht => (h t ht).2
theorem sb1 {P : Prop} {x : Int32} {S : St} (h : (x = 1 ∧ P) ∨ (x = 0 ∧ ¬ P)) : pb P S (some (.int x)) S := ⟨h.elim (fun a => Or.inl ⟨by rw [a.1], a.2⟩) (fun a => Or.inr ⟨by rw [a.1], a.2⟩), rfl⟩
theorem sb2 {P : Prop} {x : Int32} (h : (x = 1 ∧ P) ∨ (x = 0 ∧ ¬ P)) : x = 0 ∨ x = 1 := h.elim (fun a => Or.inr a.1) (fun a => Or.inl a.1)
theorem wth_all (I : Isl) : wthF I (2 ^ iW I - 1) = sm (fun v => iV I v 3) (iW I) := by
  unfold wthF
  refine sm_congr fun i hi => ?_
  have h : (2 ^ iW I - 1).testBit i = true := by rw [Nat.testBit_two_pow_sub_one]; exact decide_eq_true hi
  rw [has_iff.mpr h, Nat.one_mul]

set_option maxHeartbeats 4000000 in
set_option maxRecDepth 100000 in
theorem c_J6_bitCount_0f7a4 {S : St} {a : Nat} (ha : a < 256) : C 0 0 yJ6_bitCount_0f7a4 mJ6_bitCount_0f7a4 [.int (nI a)] S (pu (.int (nI (popF a))) S) := by
  refine C.ofX (by decide) rfl (Nat.le_of_ble_eq_true rfl) ?_
  show X 0 0 mJ6_bitCount_0f7a4 (pu (.int (nI (popF a))) S) 0 [(0, .int (nI a))] [] S
  refine x_iload_n 0 dJ6_bitCount_0f7a4_0 rfl rfl ?_
  refine x_iload_n 0 dJ6_bitCount_0f7a4_1 rfl rfl ?_
  refine x_iconst (v := nI 1) dJ6_bitCount_0f7a4_2 (by decide) ?_
  refine x_iushr dJ6_bitCount_0f7a4_3 ?_
  refine x_ldcw kJ6_265 dJ6_bitCount_0f7a4_4 ?_
  rw [show (1431655765 : Int32) = nI 1431655765 from rfl]
  refine x_iand dJ6_bitCount_0f7a4_7 ?_
  refine x_isub dJ6_bitCount_0f7a4_8 ?_
  refine x_istore_n (lv' := [(0, _)]) dJ6_bitCount_0f7a4_9 rfl (by decide) rfl ?_
  refine x_iload_n 0 dJ6_bitCount_0f7a4_10 rfl rfl ?_
  refine x_ldcw kJ6_266 dJ6_bitCount_0f7a4_11 ?_
  rw [show (858993459 : Int32) = nI 858993459 from rfl]
  refine x_iand dJ6_bitCount_0f7a4_14 ?_
  refine x_iload_n 0 dJ6_bitCount_0f7a4_15 rfl rfl ?_
  refine x_iconst (v := nI 2) dJ6_bitCount_0f7a4_16 (by decide) ?_
  refine x_iushr dJ6_bitCount_0f7a4_17 ?_
  refine x_ldcw kJ6_266 dJ6_bitCount_0f7a4_18 ?_
  rw [show (858993459 : Int32) = nI 858993459 from rfl]
  refine x_iand dJ6_bitCount_0f7a4_21 ?_
  refine x_iadd dJ6_bitCount_0f7a4_22 ?_
  refine x_istore_n (lv' := [(0, _)]) dJ6_bitCount_0f7a4_23 rfl (by decide) rfl ?_
  refine x_iload_n 0 dJ6_bitCount_0f7a4_24 rfl rfl ?_
  refine x_iload_n 0 dJ6_bitCount_0f7a4_25 rfl rfl ?_
  refine x_iconst (v := nI 4) dJ6_bitCount_0f7a4_26 (by decide) ?_
  refine x_iushr dJ6_bitCount_0f7a4_27 ?_
  refine x_iadd dJ6_bitCount_0f7a4_28 ?_
  refine x_ldcw kJ6_267 dJ6_bitCount_0f7a4_29 ?_
  rw [show (252645135 : Int32) = nI 252645135 from rfl]
  refine x_iand dJ6_bitCount_0f7a4_32 ?_
  refine x_istore_n (lv' := [(0, _)]) dJ6_bitCount_0f7a4_33 rfl (by decide) rfl ?_
  refine x_iload_n 0 dJ6_bitCount_0f7a4_34 rfl rfl ?_
  refine x_iload_n 0 dJ6_bitCount_0f7a4_35 rfl rfl ?_
  refine x_bipush (v := nI 8) dJ6_bitCount_0f7a4_36 (by decide) ?_
  refine x_iushr dJ6_bitCount_0f7a4_38 ?_
  refine x_iadd dJ6_bitCount_0f7a4_39 ?_
  refine x_istore_n (lv' := [(0, _)]) dJ6_bitCount_0f7a4_40 rfl (by decide) rfl ?_
  refine x_iload_n 0 dJ6_bitCount_0f7a4_41 rfl rfl ?_
  refine x_iload_n 0 dJ6_bitCount_0f7a4_42 rfl rfl ?_
  refine x_bipush (v := nI 16) dJ6_bitCount_0f7a4_43 (by decide) ?_
  refine x_iushr dJ6_bitCount_0f7a4_45 ?_
  refine x_iadd dJ6_bitCount_0f7a4_46 ?_
  refine x_istore_n (lv' := [(0, _)]) dJ6_bitCount_0f7a4_47 rfl (by decide) rfl ?_
  refine x_iload_n 0 dJ6_bitCount_0f7a4_48 rfl rfl ?_
  refine x_bipush (v := nI 63) dJ6_bitCount_0f7a4_49 (by decide) ?_
  refine x_iand dJ6_bitCount_0f7a4_51 ?_
  refine x_iret rfl dJ6_bitCount_0f7a4_52 ⟨congrArg some (congrArg Value.int (by revert ha; revert a; decide +kernel)), rfl⟩

def pbS (P : Prop) (S1 : St) : Option Value → St → Prop := pb P S1

