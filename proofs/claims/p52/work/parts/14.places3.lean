def codeN (m : Nat) (w : Nat → Nat) : Nat := sm (fun t => w t * 7 ^ t) m
def codeF (I : Isl) (w : Nat → Nat) : Nat := codeN (iM I) w
theorem codeN_lt {w : Nat → Nat} : ∀ {m : Nat}, (∀ t, t < m → w t < 7) → codeN m w < 7 ^ m
  | 0, _ => Nat.one_pos
  | m + 1, h => by
    unfold codeN
    rw [sm_s]
    have h1 := codeN_lt (fun t ht => h t (Nat.lt_succ_of_lt ht))
    unfold codeN at h1
    have h2 := h m (Nat.lt_succ_self m)
    have h3 : w m * 7 ^ m ≤ 6 * 7 ^ m := Nat.mul_le_mul_right _ (by omega)
    rw [Nat.pow_succ]
    omega
theorem pow7_le {m : Nat} (h : m ≤ 5) : 7 ^ m ≤ 16807 := by
  have : 7 ^ m ≤ 7 ^ 5 := Nat.pow_le_pow_right (by decide) h
  exact this
theorem codeF_lt {I : Isl} {w : Nat → Nat} (hO : IOK I) (h : ∀ t, t < iM I → w t < 7) : codeF I w < 16807 := Nat.lt_of_lt_of_le (codeN_lt h) (pow7_le hO.2.1)
theorem sev_n : ∀ i, i < 5 → sev i = nI (7 ^ i) := by decide +kernel
theorem WOK.w7 {I : Isl} {w : Nat → Nat} (hw : WOK I w) (hO : IOK I) : ∀ t, t < iM I → w t < 7 := fun t ht => by have := hw.1 t ht; have := hO.2.2.2.1; omega

set_option maxHeartbeats 4000000 in
set_option maxRecDepth 100000 in
theorem lp_code {S : St} {k : Nat} {I : Isl} {w : Nat → Nat} (hk : isPl k) (hI : IsX 11 I S) (hO : IOK I) (hP : PlW k I w S) (hw7 : ∀ t, t < iM I → w t < 7)  : ∀ (i : Nat) (S1 : St), S1 = S → i ≤ iM I → X 0 0 mX3_code (pu (.int (nI (codeF I w))) S) 4 [(2, .int (nI i)), (1, .int (nI ((codeN i w)))), (0, .ref k)] [] S1 := by
  intro i
  induction hm : iM I - i using Nat.strongRecOn generalizing i with
  | _ mm ih =>
    intro S1 hS1 hi
    replace hS1 := hS1.symm
    subst hS1
    have hO1 := hO.1
    have hO2 := hO.2.1
    have hO3 := hO.2.2.1
    have hO4 := hO.2.2.2.1
    have hwi := hw7 i
    have hc : codeN i w < 7 ^ i := codeN_lt (fun t ht => hw7 t (by omega))
    have hc2 := pow7_le (m := i) (by omega)
    refine x_iload_n 0 dX3_code_4 rfl rfl ?_
    refine x_aload_n 2 dX3_code_5 rfl rfl ?_
    refine x_getR fX3_28 dX3_code_6 hk.l0 rfl ?_
    refine y_getI fX3_46 dX3_code_9 l11 rfl hI.2.1 ?_
    refine y_ic_ge 36 dX3_code_12 (by decide) (by omega) (by omega) (fun c_12 => ?_) (fun c_12 => ?_)
    · refine x_iload_n 1 dX3_code_36 rfl rfl ?_
      refine x_iret rfl dX3_code_37 (by obtain rfl : i = iM I := (by omega); exact ⟨rfl, rfl⟩)
    · refine x_iload_n 1 dX3_code_15 rfl rfl ?_
      refine x_aload_n 2 dX3_code_16 rfl rfl ?_
      refine x_getR fX3_9 dX3_code_17 hk.l0 rfl ?_
      refine x_iload_n 0 dX3_code_20 rfl rfl ?_
      refine y_iald dX3_code_21 hk.l1 (by omega) (by decide) (hP i (by omega)) ?_
      refine x_getsP rfl dX3_code_22 ?_
      refine x_iload_n 0 dX3_code_25 rfl rfl ?_
      refine y_ti dX3_code_26 (by omega) ?_
      rw [sev_n i (by omega)]
      refine y_imul dX3_code_27 ?_
      refine y_iadd dX3_code_28 ?_
      refine x_istore_n (lv' := [(1, _), (2, _), (0, _)]) dX3_code_29 rfl (by decide) rfl ?_
      rw [show ((codeN i w) + ((w i) * (7 ^ i))) = (codeN (i + 1) w) from by rfl]
      refine y_iinc (lv' := [(2, _), (1, _), (0, _)]) 1 dX3_code_30 rfl (by decide) rfl ?_
      refine x_goto 4 dX3_code_33 (by decide) ?_
      refine x_pick (lv' := [(2, _), (1, _), (0, _)]) [0, 1, 2] rfl ?_
      exact ih (iM I - (i + 1)) (by omega) (i + 1) rfl _ rfl (by omega)

set_option maxHeartbeats 4000000 in
set_option maxRecDepth 100000 in
theorem c_X3_code {S : St} {k : Nat} {I : Isl} {w : Nat → Nat} (hk : isPl k) (hI : IsX 11 I S) (hO : IOK I) (hP : PlW k I w S) (hw7 : ∀ t, t < iM I → w t < 7)  : C 0 0 yX3_code mX3_code [.ref k] S (pu (.int (nI (codeF I w))) S) := by
  refine C.ofX (by decide) rfl (Nat.le_of_ble_eq_true rfl) ?_
  show X 0 0 mX3_code (pu (.int (nI (codeF I w))) S) 0 [(0, .ref k)] [] S
  refine x_iconst (v := nI 0) dX3_code_0 (by decide) ?_
  refine x_istore_n (lv' := [(1, _), (0, _)]) dX3_code_1 rfl (by decide) rfl ?_
  refine x_iconst (v := nI 0) dX3_code_2 (by decide) ?_
  refine x_istore_n (lv' := [(2, _), (1, _), (0, _)]) dX3_code_3 rfl (by decide) rfl ?_
  refine x_pick (lv' := [(2, _), (1, _), (0, _)]) [0, 1, 2] rfl ?_
  exact lp_code hk hI hO hP hw7 0 S rfl (Nat.zero_le _)

theorem nI_max {a b : Nat} (ha : a < 2147483648) (hb : b < 2147483648) : (if nI a < nI b then nI b else nI a) = nI (max a b) := by
  by_cases h : a < b
  · rw [if_pos (Int32.lt_iff_toInt_lt.mpr (by rw [tiN ha, tiN hb]; omega)), Nat.max_eq_right (by omega)]
  · rw [if_neg (fun q => h (by have := Int32.lt_iff_toInt_lt.mp q; rw [tiN ha, tiN hb] at this; omega)), Nat.max_eq_left (by omega)]
def hvF (I : Isl) (w : Nat → Nat) : Nat := mx (fun p => loadF I w p) (iP I)
theorem mx_iff {f : Nat → Nat} {b : Nat} : ∀ {n : Nat}, mx f n ≤ b ↔ ∀ i, i < n → f i ≤ b
  | 0 => ⟨fun _ i hi => absurd hi (Nat.not_lt_zero i), fun _ => Nat.zero_le b⟩
  | n + 1 => by
    rw [mx_s, Nat.max_le, mx_iff]
    constructor
    · rintro ⟨h1, h2⟩ i hi
      by_cases e : i = n
      · rw [e]; exact h2
      · exact h1 i (by omega)
    · exact fun h => ⟨fun i hi => h i (by omega), h n (by omega)⟩

set_option maxHeartbeats 4000000 in
set_option maxRecDepth 100000 in
theorem lp_heaviest {S : St} {k : Nat} {I : Isl} {w : Nat → Nat} (hk : isPl k) (hI : IsX 11 I S) (hO : IOK I) (hP : PlT k I w S)  : ∀ (i : Nat) (S1 : St), S1 = S → i ≤ iP I → X 1 30 mX3_heaviest (pu (.int (nI (hvF I w))) S) 4 [(2, .int (nI i)), (1, .int (nI ((mx (fun p => loadF I w p) i)))), (0, .ref k)] [] S1 := by
  intro i
  induction hm : iP I - i using Nat.strongRecOn generalizing i with
  | _ mm ih =>
    intro S1 hS1 hi
    replace hS1 := hS1.symm
    subst hS1
    have hO1 := hO.1
    have hO2 := hO.2.1
    have hO3 := hO.2.2.1
    have hO4 := hO.2.2.2.1
    have hl := loadF_le I hO w i
    have hm : mx (fun p => loadF I w p) i ≤ 10 := mx_le (fun p _ => loadF_le I hO w p)
    refine x_iload_n 0 dX3_heaviest_4 rfl rfl ?_
    refine x_aload_n 2 dX3_heaviest_5 rfl rfl ?_
    refine x_getR fX3_28 dX3_heaviest_6 hk.l0 rfl ?_
    refine y_getI fX3_75 dX3_heaviest_9 l11 rfl hI.1 ?_
    refine y_ic_ge 32 dX3_heaviest_12 (by decide) (by omega) (by omega) (fun c_12 => ?_) (fun c_12 => ?_)
    · refine x_iload_n 1 dX3_heaviest_32 rfl rfl ?_
      refine x_iret rfl dX3_heaviest_33 (by obtain rfl : i = iP I := (by omega); exact ⟨rfl, rfl⟩)
    · refine x_iload_n 1 dX3_heaviest_15 rfl rfl ?_
      refine x_aload_n 2 dX3_heaviest_16 rfl rfl ?_
      refine x_getR fX3_15 dX3_heaviest_17 hk.l0 rfl ?_
      refine x_iload_n 0 dX3_heaviest_20 rfl rfl ?_
      refine y_iald dX3_heaviest_21 hk.l2 (by omega) (by decide) (hP.2.1 i (by omega)) ?_
      refine x_max nX3_78 dX3_heaviest_22 (Nat.le_of_ble_eq_true rfl) (Nat.le_of_ble_eq_true rfl) (Nat.le_of_ble_eq_true rfl) ?_
      rw [nI_max (by omega) (by omega)]
      refine x_istore_n (lv' := [(1, _), (2, _), (0, _)]) dX3_heaviest_25 rfl (by decide) rfl ?_
      refine y_iinc (lv' := [(2, _), (1, _), (0, _)]) 1 dX3_heaviest_26 rfl (by decide) rfl ?_
      refine x_goto 4 dX3_heaviest_29 (by decide) ?_
      refine x_pick (lv' := [(2, _), (1, _), (0, _)]) [0, 1, 2] rfl ?_
      exact ih (iP I - (i + 1)) (by omega) (i + 1) rfl _ rfl (by omega)

set_option maxHeartbeats 4000000 in
set_option maxRecDepth 100000 in
theorem c_X3_heaviest {S : St} {k : Nat} {I : Isl} {w : Nat → Nat} (hk : isPl k) (hI : IsX 11 I S) (hO : IOK I) (hP : PlT k I w S)  : C 1 30 yX3_heaviest mX3_heaviest [.ref k] S (pu (.int (nI (hvF I w))) S) := by
  refine C.ofX (by decide) rfl (Nat.le_of_ble_eq_true rfl) ?_
  show X 1 30 mX3_heaviest (pu (.int (nI (hvF I w))) S) 0 [(0, .ref k)] [] S
  refine x_iconst (v := nI 0) dX3_heaviest_0 (by decide) ?_
  refine x_istore_n (lv' := [(1, _), (0, _)]) dX3_heaviest_1 rfl (by decide) rfl ?_
  refine x_iconst (v := nI 0) dX3_heaviest_2 (by decide) ?_
  refine x_istore_n (lv' := [(2, _), (1, _), (0, _)]) dX3_heaviest_3 rfl (by decide) rfl ?_
  refine x_pick (lv' := [(2, _), (1, _), (0, _)]) [0, 1, 2] rfl ?_
  exact lp_heaviest hk hI hO hP 0 S rfl (Nat.zero_le _)

/-- whether a work can be done -/
def canF (I : Isl) (w : Nat → Nat) (v : Nat) : Prop := iV I v 2 ^^^ (iV I v 2 &&& heldF I w (iV I v 1)) = 0
noncomputable def dbF (I : Isl) (w : Nat → Nat) (n : Nat) : Nat := mk (fun v => dec (canF I w v)) n
theorem dbF_s (I : Isl) (w : Nat → Nat) (n : Nat) : dbF I w (n + 1) = dbF I w n ||| (if dec (canF I w n) then 2 ^ n else 0) := rfl
theorem dbF_lt {I : Isl} {w : Nat → Nat} {n : Nat} (h : n ≤ 8) : dbF I w n < 256 := Nat.lt_of_lt_of_le (mk_lt _ n) (Nat.pow_le_pow_right (by decide) h)
theorem dbF_bit {I : Isl} {w : Nat → Nat} {n i : Nat} : (dbF I w n).testBit i = true ↔ i < n ∧ canF I w i := by
  unfold dbF
  rw [mk_bit, Bool.and_eq_true, decide_eq_true_eq, dec_iff]
/-- all that it wants is with whom it needs -/
theorem canF_iff {I : Isl} {w : Nat → Nat} {v : Nat} : canF I w v ↔ ∀ t, (iV I v 2).testBit t = true → t < iM I ∧ whomF I w t = iV I v 1 := by
  unfold canF
  constructor
  · intro h t ht
    have h1 := tb_andn (iV I v 2) (heldF I w (iV I v 1)) t
    rw [h, Nat.zero_testBit, ht, Bool.true_and] at h1
    have h2 : (heldF I w (iV I v 1)).testBit t = true := by
      cases hc : (heldF I w (iV I v 1)).testBit t with
      | true => rfl
      | false => rw [hc] at h1; cases h1
    unfold heldF at h2
    rw [mk_bit, Bool.and_eq_true, decide_eq_true_eq, beq_iff_eq] at h2
    exact h2
  · intro h
    refine bt_ext fun i => ?_
    rw [tb_andn, Nat.zero_testBit, Bool.and_eq_true, Bool.not_eq_true']
    constructor
    · rintro ⟨h1, h2⟩
      obtain ⟨a, b⟩ := h i h1
      unfold heldF at h2
      rw [mk_bit, b] at h2
      simp [a] at h2
    · intro q; cases q
theorem xor_lt {a b e : Nat} (ha : a < 2 ^ e) (hb : b < 2 ^ e) : a ^^^ b < 2 ^ e := Nat.xor_lt_two_pow ha hb

set_option maxHeartbeats 4000000 in
set_option maxRecDepth 100000 in
theorem lp_doable {S : St} {k : Nat} {I : Isl} {w : Nat → Nat} (hk : isPl k) (hI : IsX 11 I S) (hO : IOK I) (hP : PlT k I w S)  : ∀ (i : Nat) (S1 : St), S1 = S → i ≤ iW I → X 0 0 mX3_doable (pu (.int (nI (dbF I w (iW I)))) S) 4 [(2, .int (nI i)), (1, .int (nI ((dbF I w i)))), (0, .ref k)] [] S1 := by
  intro i
  induction hm : iW I - i using Nat.strongRecOn generalizing i with
  | _ mm ih =>
    intro S1 hS1 hi
    replace hS1 := hS1.symm
    subst hS1
    have hO1 := hO.1
    have hO2 := hO.2.1
    have hO3 := hO.2.2.1
    have hO4 := hO.2.2.2.1
    have hV := hO.v
    have hVi := hV i
    have hh := heldF_lt I hO w (iV I i 1)
    have hdb := @dbF_lt I w i (by omega)
    refine x_iload_n 0 dX3_doable_4 rfl rfl ?_
    refine x_aload_n 2 dX3_doable_5 rfl rfl ?_
    refine x_getR fX3_28 dX3_doable_6 hk.l0 rfl ?_
    refine y_getI fX3_107 dX3_doable_9 l11 rfl hI.2.2.1 ?_
    refine y_ic_ge 56 dX3_doable_12 (by decide) (by omega) (by omega) (fun c_12 => ?_) (fun c_12 => ?_)
    · refine x_iload_n 1 dX3_doable_56 rfl rfl ?_
      refine x_iret rfl dX3_doable_57 (by obtain rfl : i = iW I := (by omega); exact ⟨rfl, rfl⟩)
    · refine x_aload_n 2 dX3_doable_15 rfl rfl ?_
      refine x_getR fX3_28 dX3_doable_16 hk.l0 rfl ?_
      refine x_getR fX3_110 dX3_doable_19 l11 rfl ?_
      refine x_iload_n 0 dX3_doable_22 rfl rfl ?_
      refine y_iald dX3_doable_23 l19 (by omega) (by decide) (hI.2.2.2.2.2.2 i (by omega)).2.2.1 ?_
      refine x_aload_n 2 dX3_doable_24 rfl rfl ?_
      refine x_getR fX3_18 dX3_doable_25 hk.l0 rfl ?_
      refine x_aload_n 2 dX3_doable_28 rfl rfl ?_
      refine x_getR fX3_28 dX3_doable_29 hk.l0 rfl ?_
      refine x_getR fX3_113 dX3_doable_32 l11 rfl ?_
      refine x_iload_n 0 dX3_doable_35 rfl rfl ?_
      refine y_iald dX3_doable_36 l18 (by omega) (by decide) (hI.2.2.2.2.2.2 i (by omega)).2.1 ?_
      refine y_iald dX3_doable_37 hk.l3 (by omega) (by decide) (hP.2.2.1 _ (by omega)) ?_
      refine y_andn dX3_doable_38 dX3_doable_39 dX3_doable_40 (by omega) (by omega) ?_
      refine y_if_ne 50 dX3_doable_41 (by decide) (Nat.lt_trans (xor_lt (e := 5) (by omega) (Nat.lt_of_le_of_lt Nat.and_le_left (by omega))) (by decide)) (fun c_41 => ?_) (fun c_41 => ?_)
      · rw [show (dbF I w i) = (dbF I w (i + 1)) from by rw [dbF_s]; first | rw [dec_t (show canF I w i from c_41), if_pos rfl, Nat.one_mul] | rw [dec_f (show ¬ canF I w i from c_41), if_neg (by decide), Nat.or_zero]]
        refine y_iinc (lv' := [(2, _), (1, _), (0, _)]) 0 dX3_doable_50 rfl (by decide) rfl ?_
        refine x_goto 4 dX3_doable_53 (by decide) ?_
        refine x_pick (lv' := [(2, _), (1, _), (0, _)]) [0, 1, 2] rfl ?_
        exact ih (iW I - (i + 1)) (by omega) (i + 1) rfl _ rfl (by omega)
      · refine x_iload_n 1 dX3_doable_44 rfl rfl ?_
        refine x_iconst (v := nI 1) dX3_doable_45 (by decide) ?_
        refine x_iload_n 0 dX3_doable_46 rfl rfl ?_
        refine y_ishl dX3_doable_47 (by omega) ?_
        refine y_ior dX3_doable_48 ?_
        refine x_istore_n (lv' := [(1, _), (2, _), (0, _)]) dX3_doable_49 rfl (by decide) rfl ?_
        rw [show ((dbF I w i) ||| (1 * 2 ^ i)) = (dbF I w (i + 1)) from by rw [dbF_s]; first | rw [dec_t (show canF I w i from c_41), if_pos rfl, Nat.one_mul] | rw [dec_f (show ¬ canF I w i from c_41), if_neg (by decide), Nat.or_zero]]
        refine y_iinc (lv' := [(2, _), (1, _), (0, _)]) 1 dX3_doable_50 rfl (by decide) rfl ?_
        refine x_goto 4 dX3_doable_53 (by decide) ?_
        refine x_pick (lv' := [(2, _), (1, _), (0, _)]) [0, 1, 2] rfl ?_
        exact ih (iW I - (i + 1)) (by omega) (i + 1) rfl _ rfl (by omega)

set_option maxHeartbeats 4000000 in
set_option maxRecDepth 100000 in
theorem c_X3_doable {S : St} {k : Nat} {I : Isl} {w : Nat → Nat} (hk : isPl k) (hI : IsX 11 I S) (hO : IOK I) (hP : PlT k I w S)  : C 0 0 yX3_doable mX3_doable [.ref k] S (pu (.int (nI (dbF I w (iW I)))) S) := by
  refine C.ofX (by decide) rfl (Nat.le_of_ble_eq_true rfl) ?_
  show X 0 0 mX3_doable (pu (.int (nI (dbF I w (iW I)))) S) 0 [(0, .ref k)] [] S
  refine x_iconst (v := nI 0) dX3_doable_0 (by decide) ?_
  refine x_istore_n (lv' := [(1, _), (0, _)]) dX3_doable_1 rfl (by decide) rfl ?_
  refine x_iconst (v := nI 0) dX3_doable_2 (by decide) ?_
  refine x_istore_n (lv' := [(2, _), (1, _), (0, _)]) dX3_doable_3 rfl (by decide) rfl ?_
  refine x_pick (lv' := [(2, _), (1, _), (0, _)]) [0, 1, 2] rfl ?_
  exact lp_doable hk hI hO hP 0 S rfl (Nat.zero_le _)

/-- what is dropped, thing by thing: what is still over, and what lies -/
noncomputable def drF (I : Isl) (w : Nat → Nat) (q : Nat) (o0 : Int) : Nat → Int × Nat
  | 0 => (o0, 0)
  | i + 1 => @ite _ (0 < (drF I w q o0 i).1 ∧ w i = q ∧ ¬ livK (iK I i)) (Classical.propDecidable _) ((drF I w q o0 i).1 - (wt (iK I i) : Int), (drF I w q o0 i).2 ||| 1 * 2 ^ i) (drF I w q o0 i)
theorem drF_t {I : Isl} {w : Nat → Nat} {q : Nat} {o0 : Int} {i : Nat} (h1 : 0 < (drF I w q o0 i).1) (h2 : w i = q) (h3 : ¬ livK (iK I i)) : drF I w q o0 (i + 1) = ((drF I w q o0 i).1 - (wt (iK I i) : Int), (drF I w q o0 i).2 ||| 1 * 2 ^ i) := @if_pos _ (Classical.propDecidable _) ⟨h1, h2, h3⟩ _ _ _
theorem drF_f {I : Isl} {w : Nat → Nat} {q : Nat} {o0 : Int} {i : Nat} (h : ¬ (0 < (drF I w q o0 i).1 ∧ w i = q ∧ ¬ livK (iK I i))) : drF I w q o0 (i + 1) = drF I w q o0 i := @if_neg _ (Classical.propDecidable _) h _ _ _
theorem drF_stop {I : Isl} {w : Nat → Nat} {q : Nat} {o0 : Int} {i : Nat} (h : (drF I w q o0 i).1 ≤ 0) : ∀ d, drF I w q o0 (i + d) = drF I w q o0 i
  | 0 => rfl
  | d + 1 => by
    have e := drF_stop h d
    show drF I w q o0 ((i + d) + 1) = _
    rw [drF_f (by rw [e]; omega), e]
theorem drF_b (I : Isl) (w : Nat → Nat) (q : Nat) (o0 : Int) (h0 : o0 ≤ 100) : ∀ i, (drF I w q o0 i).1 ≤ 100 ∧ (-2 ≤ (drF I w q o0 i).1 ∨ (drF I w q o0 i).1 = o0) ∧ (drF I w q o0 i).2 < 2 ^ i
  | 0 => ⟨h0, Or.inr rfl, Nat.one_pos⟩
  | i + 1 => by
    obtain ⟨h1, h2, h3⟩ := drF_b I w q o0 h0 i
    have hp : 2 ^ i < 2 ^ (i + 1) := Nat.pow_lt_pow_right (by decide) (Nat.lt_succ_self i)
    by_cases h : 0 < (drF I w q o0 i).1 ∧ w i = q ∧ ¬ livK (iK I i)
    · rw [drF_t h.1 h.2.1 h.2.2]
      have := wt_le (iK I i)
      exact ⟨by dsimp only; omega, Or.inl (by dsimp only; omega), Nat.or_lt_two_pow (by omega) (by rw [Nat.one_mul]; exact hp)⟩
    · rw [drF_f h]
      exact ⟨h1, h2, by omega⟩
def ovF (I : Isl) (w : Nat → Nat) (L t q : Nat) : Int := (loadF I w q : Int) + (wt (iK I t) : Int) - (L : Int)
/-- what one leaves to be given a thing; NONE: -9 -/
noncomputable def dfF (I : Isl) (w : Nat → Nat) (L t q : Nat) : Int32 := if 0 < (drF I w q (ovF I w L t q) (iM I)).1 then -9 else nI (drF I w q (ovF I w L t q) (iM I)).2
theorem toI_sub {x y : Int32} (h1 : -1000 ≤ x.toInt) (h2 : x.toInt ≤ 1000) (h3 : -1000 ≤ y.toInt) (h4 : y.toInt ≤ 1000) : (x - y).toInt = x.toInt - y.toInt := by
  rw [Int32.toInt_sub]
  exact Int.bmod_eq_of_le (by omega) (by omega)

theorem drE {I : Isl} {w : Nat → Nat} {q : Nat} {o0 : Int} {i : Nat} (hi : i ≤ iM I) (h : (drF I w q o0 i).1 ≤ 0 ∨ iM I ≤ i) : drF I w q o0 (iM I) = drF I w q o0 i := by
  rcases h with h | h
  · have := drF_stop h (iM I - i)
    rwa [show i + (iM I - i) = iM I by omega] at this
  · rw [show i = iM I by omega]

set_option maxHeartbeats 4000000 in
set_option maxRecDepth 100000 in
theorem lp_dropped {S : St} {k : Nat} {I : Isl} {w : Nat → Nat} (hk : isPl k) (hI : IsX 11 I S) (hO : IOK I) (hP : PlW k I w S) (hw7 : ∀ t, t < iM I → w t < 7) {L t q : Nat} (hL10 : L ≤ 10) (hq : q ≤ 4) : ∀ (i : Nat) (x : Int32), (x.toInt = (drF I w q (ovF I w L t q) i).1) → (i ≤ iM I) → X 2 60 mX3_droppedFor (pu (.int (dfF I w L t q)) S) 53 [(5, .int (nI i)), (4, .int (nI ((drF I w q (ovF I w L t q) i).2))), (3, .int x), (0, .ref k), (1, .int (nI t)), (2, .int (nI q))] [] S := by
  intro i x
  induction hm : iM I - i using Nat.strongRecOn generalizing i x with
  | _ mm ih =>
    intro hx hi
    have hO1 := hO.1
    have hO2 := hO.2.1
    have hO3 := hO.2.2.1
    have hO4 := hO.2.2.2.1
    have hl := loadF_le I hO w q
    have hwt0 := wt_le (iK I t)
    have hov : ovF I w L t q ≤ 100 := by unfold ovF; omega
    have hov2 : -100 ≤ ovF I w L t q := by unfold ovF; omega
    have hwi := hw7 i
    refine x_iload 0 dX3_droppedFor_53 rfl ?_
    refine x_aload_n 3 dX3_droppedFor_55 rfl rfl ?_
    refine x_getR fX3_28 dX3_droppedFor_56 hk.l0 rfl ?_
    refine y_getI fX3_46 dX3_droppedFor_59 l11 rfl hI.2.1 ?_
    refine y_ic_ge 123 dX3_droppedFor_62 (by decide) (by omega) (by omega) (fun c_62 => ?_) (fun c_62 => ?_)
    · refine x_iload_n 2 dX3_droppedFor_123 rfl rfl ?_
      refine x_if_le 132 dX3_droppedFor_124 (by decide) (fun c_124 => ?_) (fun c_124 => ?_)
      · refine x_iload 1 dX3_droppedFor_132 rfl ?_
        refine x_iret rfl dX3_droppedFor_134 (by first | (exfalso; omega) | (have hE := drE (w := w) (q := q) (o0 := ovF I w L t q) hi (by first | exact Or.inr (by omega) | exact Or.inl (by omega)); exact ⟨by unfold dfF; rw [hE]; first | rw [if_pos (by omega)] | rw [if_neg (by omega)], rfl⟩))
      · refine x_bipush (v := -9) dX3_droppedFor_127 (by decide) ?_
        refine x_goto 134 dX3_droppedFor_129 (by decide) ?_
        refine x_iret rfl dX3_droppedFor_134 (by first | (exfalso; omega) | (have hE := drE (w := w) (q := q) (o0 := ovF I w L t q) hi (by first | exact Or.inr (by omega) | exact Or.inl (by omega)); exact ⟨by unfold dfF; rw [hE]; first | rw [if_pos (by omega)] | rw [if_neg (by omega)], rfl⟩))
    · refine x_iload_n 2 dX3_droppedFor_65 rfl rfl ?_
      refine x_if_le 123 dX3_droppedFor_66 (by decide) (fun c_66 => ?_) (fun c_66 => ?_)
      · refine x_iload_n 2 dX3_droppedFor_123 rfl rfl ?_
        refine x_if_le 132 dX3_droppedFor_124 (by decide) (fun c_124 => ?_) (fun c_124 => ?_)
        · refine x_iload 1 dX3_droppedFor_132 rfl ?_
          refine x_iret rfl dX3_droppedFor_134 (by first | (exfalso; omega) | (have hE := drE (w := w) (q := q) (o0 := ovF I w L t q) hi (by first | exact Or.inr (by omega) | exact Or.inl (by omega)); exact ⟨by unfold dfF; rw [hE]; first | rw [if_pos (by omega)] | rw [if_neg (by omega)], rfl⟩))
        · refine x_bipush (v := -9) dX3_droppedFor_127 (by decide) ?_
          refine x_goto 134 dX3_droppedFor_129 (by decide) ?_
          refine x_iret rfl dX3_droppedFor_134 (by first | (exfalso; omega) | (have hE := drE (w := w) (q := q) (o0 := ovF I w L t q) hi (by first | exact Or.inr (by omega) | exact Or.inl (by omega)); exact ⟨by unfold dfF; rw [hE]; first | rw [if_pos (by omega)] | rw [if_neg (by omega)], rfl⟩))
      · refine x_aload_n 3 dX3_droppedFor_69 rfl rfl ?_
        refine x_getR fX3_9 dX3_droppedFor_70 hk.l0 rfl ?_
        refine x_iload 0 dX3_droppedFor_73 rfl ?_
        refine y_iald dX3_droppedFor_75 hk.l1 (by omega) (by decide) (hP i (by omega)) ?_
        refine x_iload_n 5 dX3_droppedFor_76 rfl rfl ?_
        refine y_ic_ne 117 dX3_droppedFor_77 (by decide) (by omega) (by omega) (fun c_77 => ?_) (fun c_77 => ?_)
        · refine y_iinc (lv' := [(5, _), (4, _), (3, _), (0, _), (1, _), (2, _)]) 0 dX3_droppedFor_117 rfl (by decide) rfl ?_
          refine x_goto 53 dX3_droppedFor_120 (by decide) ?_
          refine x_pick (lv' := [(5, _), (4, _), (3, _), (0, _), (1, _), (2, _)]) [0, 1, 2, 3, 4, 5] rfl ?_
          have e := drF_f (I := I) (w := w) (q := q) (o0 := ovF I w L t q) (i := i) (fun h => by first | exact c_77 h.2.1 | exact h.2.2 c_86)
          have hh := ih (iM I - (i + 1)) (by omega) (i + 1) x rfl (by rw [e, hx]) (by omega)
          rw [e] at hh
          exact hh
        · refine x_aload_n 3 dX3_droppedFor_80 rfl rfl ?_
          refine x_getR fX3_28 dX3_droppedFor_81 hk.l0 rfl ?_
          refine x_iload 0 dX3_droppedFor_84 rfl ?_
          refine x_callVb (as := [_]) (rest := []) vX3_87 (c_X1_isLiving hI hO (by omega)) dX3_droppedFor_86 l11 rfl rfl rfl (Nat.le_of_ble_eq_true rfl) (Nat.le_of_ble_eq_true rfl) (Nat.le_of_ble_eq_true rfl) (fun c_86 => ?_) (fun c_86 => ?_)
          · refine u_if_eq 95 dX3_droppedFor_89 (by decide) (by decide) ?_
            refine x_goto 117 dX3_droppedFor_92 (by decide) ?_
            refine y_iinc (lv' := [(5, _), (4, _), (3, _), (0, _), (1, _), (2, _)]) 0 dX3_droppedFor_117 rfl (by decide) rfl ?_
            refine x_goto 53 dX3_droppedFor_120 (by decide) ?_
            refine x_pick (lv' := [(5, _), (4, _), (3, _), (0, _), (1, _), (2, _)]) [0, 1, 2, 3, 4, 5] rfl ?_
            have e := drF_f (I := I) (w := w) (q := q) (o0 := ovF I w L t q) (i := i) (fun h => by first | exact c_77 h.2.1 | exact h.2.2 c_86)
            have hh := ih (iM I - (i + 1)) (by omega) (i + 1) x rfl (by rw [e, hx]) (by omega)
            rw [e] at hh
            exact hh
          · refine t_if_eq 95 dX3_droppedFor_89 (by decide) (by decide) ?_
            refine x_iload 1 dX3_droppedFor_95 rfl ?_
            refine x_iconst (v := nI 1) dX3_droppedFor_97 (by decide) ?_
            refine x_iload 0 dX3_droppedFor_98 rfl ?_
            refine y_ishl dX3_droppedFor_100 (by omega) ?_
            refine y_ior dX3_droppedFor_101 ?_
            refine x_istore (lv' := [(4, _), (5, _), (3, _), (0, _), (1, _), (2, _)]) dX3_droppedFor_102 (by decide) rfl ?_
            refine x_iload_n 2 dX3_droppedFor_104 rfl rfl ?_
            refine x_aload_n 3 dX3_droppedFor_105 rfl rfl ?_
            refine x_getR fX3_28 dX3_droppedFor_106 hk.l0 rfl ?_
            refine x_getR fX3_62 dX3_droppedFor_109 l11 rfl ?_
            refine x_iload 1 dX3_droppedFor_112 rfl ?_
            refine y_iald dX3_droppedFor_114 l14 (by omega) (by decide) (hI.2.2.2.2.1 i (by omega)).2.2.1 ?_
            refine x_isub dX3_droppedFor_115 ?_
            refine x_istore_n (lv' := [(3, _), (4, _), (5, _), (0, _), (1, _), (2, _)]) dX3_droppedFor_116 rfl (by decide) rfl ?_
            refine y_iinc (lv' := [(5, _), (3, _), (4, _), (0, _), (1, _), (2, _)]) 2 dX3_droppedFor_117 rfl (by decide) rfl ?_
            refine x_goto 53 dX3_droppedFor_120 (by decide) ?_
            refine x_pick (lv' := [(5, _), (4, _), (3, _), (0, _), (1, _), (2, _)]) [0, 2, 1, 3, 4, 5] rfl ?_
            have e := drF_t (I := I) (w := w) (q := q) (o0 := ovF I w L t q) (i := i) (by omega) c_77 c_86
            have hb := drF_b I w q (ovF I w L t q) hov i
            have hwt := wt_le (iK I i)
            have hh := ih (iM I - (i + 1)) (by omega) (i + 1) (x - nI (wt (iK I i))) rfl (by rw [e, toI_sub (by omega) (by omega) (by rw [tiN (by omega)]; omega) (by rw [tiN (by omega)]; omega), tiN (by omega), hx]) (by omega)
            rw [e] at hh
            exact hh

set_option maxHeartbeats 4000000 in
set_option maxRecDepth 100000 in
theorem c_X3_droppedFor {S : St} {k : Nat} {I : Isl} {w : Nat → Nat} (hk : isPl k) (hI : IsX 11 I S) (hO : IOK I) (hP : PlT k I w S) {L : Nat} (hL : S.1 k 5 = nI L) (hL7 : L ≤ 10) (hw7 : ∀ t, t < iM I → w t < 7) {t q : Nat} (ht : t < iM I) (hq : q < iP I) : C 2 60 yX3_droppedFor mX3_droppedFor [.ref k, .int (nI t), .int (nI q)] S (pu (.int (dfF I w L t q)) S) := by
  have hO1 := hO.1
  have hO2 := hO.2.1
  have hO3 := hO.2.2.1
  have hO4 := hO.2.2.2.1
  have hl := loadF_le I hO w q
  have hwt0 := wt_le (iK I t)
  have et : (nI t).toInt = (t : Int) := tiN (by omega)
  have eq : (nI q).toInt = (q : Int) := tiN (by omega)
  refine C.ofX (by decide) rfl (Nat.le_of_ble_eq_true rfl) ?_
  show X 2 60 mX3_droppedFor (pu (.int (dfF I w L t q)) S) 0 [(0, .ref k), (1, .int (nI t)), (2, .int (nI q))] [] S
  refine x_aload_n 0 dX3_droppedFor_0 rfl rfl ?_
  refine x_getR fX3_28 dX3_droppedFor_1 hk.l0 rfl ?_
  refine x_iload_n 1 dX3_droppedFor_4 rfl rfl ?_
  refine x_callVb (as := [_]) (rest := []) vX3_116 (c_X1_isThing (Or.inl rfl) hI hO) dX3_droppedFor_5 l11 rfl rfl rfl (Nat.le_of_ble_eq_true rfl) (Nat.le_of_ble_eq_true rfl) (Nat.le_of_ble_eq_true rfl) (fun c_5 => ?_) (fun c_5 => ?_)
  · refine u_if_eq 22 dX3_droppedFor_8 (by decide) (by decide) ?_
    refine x_aload_n 0 dX3_droppedFor_11 rfl rfl ?_
    refine x_getR fX3_28 dX3_droppedFor_12 hk.l0 rfl ?_
    refine x_iload_n 2 dX3_droppedFor_15 rfl rfl ?_
    refine x_callVb (as := [_]) (rest := []) vX3_119 (c_X1_isPerson (Or.inl rfl) hI hO) dX3_droppedFor_16 l11 rfl rfl rfl (Nat.le_of_ble_eq_true rfl) (Nat.le_of_ble_eq_true rfl) (Nat.le_of_ble_eq_true rfl) (fun c_16 => ?_) (fun c_16 => ?_)
    · refine t_if_ne 25 dX3_droppedFor_19 (by decide) (by decide) ?_
      refine x_aload_n 0 dX3_droppedFor_25 rfl rfl ?_
      refine x_getR fX3_15 dX3_droppedFor_26 hk.l0 rfl ?_
      refine x_iload_n 2 dX3_droppedFor_29 rfl rfl ?_
      refine y_iald dX3_droppedFor_30 hk.l2 (by omega) (by decide) (hP.2.1 q (by omega)) ?_
      refine x_aload_n 0 dX3_droppedFor_31 rfl rfl ?_
      refine x_getR fX3_28 dX3_droppedFor_32 hk.l0 rfl ?_
      refine x_getR fX3_62 dX3_droppedFor_35 l11 rfl ?_
      refine x_iload_n 1 dX3_droppedFor_38 rfl rfl ?_
      refine y_iald dX3_droppedFor_39 l14 (by omega) (by decide) (hI.2.2.2.2.1 t ht).2.2.1 ?_
      refine y_iadd dX3_droppedFor_40 ?_
      refine x_aload_n 0 dX3_droppedFor_41 rfl rfl ?_
      refine y_getI fX3_24 dX3_droppedFor_42 hk.l0 rfl hL ?_
      refine x_isub dX3_droppedFor_45 ?_
      refine x_istore_n (lv' := [(3, _), (0, _), (1, _), (2, _)]) dX3_droppedFor_46 rfl (by decide) rfl ?_
      refine x_iconst (v := nI 0) dX3_droppedFor_47 (by decide) ?_
      refine x_istore (lv' := [(4, _), (3, _), (0, _), (1, _), (2, _)]) dX3_droppedFor_48 (by decide) rfl ?_
      refine x_iconst (v := nI 0) dX3_droppedFor_50 (by decide) ?_
      refine x_istore (lv' := [(5, _), (4, _), (3, _), (0, _), (1, _), (2, _)]) dX3_droppedFor_51 (by decide) rfl ?_
      refine x_pick (lv' := [(5, _), (4, _), (3, _), (0, _), (1, _), (2, _)]) [0, 1, 2, 3, 4, 5] rfl ?_
      exact lp_dropped hk hI hO hP.1 hw7 hL7 (by omega) 0 _ (by show _ = ovF I w L t q; unfold ovF; rw [toI_sub (by rw [tiN (by omega)]; omega) (by rw [tiN (by omega)]; omega) (by rw [tiN (by omega)]; omega) (by rw [tiN (by omega)]; omega), tiN (by omega), tiN (by omega)]; omega) (Nat.zero_le _)
    · refine u_if_ne 25 dX3_droppedFor_19 (by decide) (by decide) ?_
      refine x_bipush (v := -9) dX3_droppedFor_22 (by decide) ?_
      refine x_iret rfl dX3_droppedFor_24 (show False by omega).elim
  · refine t_if_eq 22 dX3_droppedFor_8 (by decide) (by decide) ?_
    refine x_bipush (v := -9) dX3_droppedFor_22 (by decide) ?_
    refine x_iret rfl dX3_droppedFor_24 (show False by omega).elim

def digF (c t : Nat) : Nat := c / 7 ^ t % 7
def dcS (S : St) (k c i : Nat) : St := (fun a b => if a = k + 1 ∧ b < i then nI (digF c b) else S.1 a b, S.2)
theorem dcS_0 (S : St) (k c : Nat) : dcS S k c 0 = S := st_ext rfl fun a b => if_neg (by omega)
theorem dcS_k {S : St} {k c i a b : Nat} (h : ¬ a = k + 1) : (dcS S k c i).1 a b = S.1 a b := if_neg fun q => h q.1
theorem dcS_s (S : St) (k c i : Nat) : setI (dcS S k c i) (k + 1) i (nI (digF c i)) = dcS S k c (i + 1) := by
  refine st_ext rfl fun a b => ?_
  by_cases ha : a = k + 1
  · subst ha
    by_cases hb : b = i
    · subst hb
      rw [rdI_eq]
      exact (if_pos ⟨rfl, Nat.lt_succ_self b⟩).symm
    · rw [rdI_j hb]
      by_cases h : b < i
      · exact (if_pos ⟨rfl, h⟩).trans (if_pos ⟨rfl, by omega⟩).symm
      · exact (if_neg (by omega)).trans (if_neg (by omega)).symm
  · rw [rdI_k ha, dcS_k ha, dcS_k ha]
theorem dcS_W (S : St) (k c : Nat) (I : Isl) : PlW k I (digF c) (dcS S k c (iM I)) := fun t ht => if_pos ⟨rfl, ht⟩
theorem dig_div (c i : Nat) : c / 7 ^ i / 7 = c / 7 ^ (i + 1) := by rw [Nat.div_div_eq_div_mul, Nat.pow_succ]
def pvT (S : St) (k : Nat) (I : Isl) (w : Nat → Nat) : Option Value → St → Prop := qv (fun S' => Fr (fun a => k + 1 ≤ a ∧ a ≤ k + 4) S S' ∧ PlT k I w S')

set_option maxHeartbeats 4000000 in
set_option maxRecDepth 100000 in
theorem lp_decode {S : St} {k c : Nat} {I : Isl} (hk : isPl k) (hI : IsX 11 I S) (hO : IOK I) (hc : c < 16807) (hw : WOK I (digF c))  : ∀ (i : Nat) (S1 : St), S1 = dcS S k c i → i ≤ iM I → X 2 60 mX3_decode (pvT S k I (digF c)) 4 [(3, .int (nI i)), (2, .int (nI ((c / 7 ^ i)))), (0, .ref k), (1, .int (nI c))] [] S1 := by
  intro i
  induction hm : iM I - i using Nat.strongRecOn generalizing i with
  | _ mm ih =>
    intro S1 hS1 hi
    replace hS1 := hS1.symm
    subst hS1
    have hO1 := hO.1
    have hO2 := hO.2.1
    have hO3 := hO.2.2.1
    have hO4 := hO.2.2.2.1
    have hg := hk.g
    have hci : c / 7 ^ i ≤ c := Nat.div_le_self _ _
    have hI1 : IsX 11 I (dcS S k c i) := hI.keep (fun a h1 h2 b => dcS_k (by omega))
    refine x_iload_n 0 dX3_decode_4 rfl rfl ?_
    refine x_aload_n 2 dX3_decode_5 rfl rfl ?_
    refine x_getR fX3_28 dX3_decode_6 hk.l0 rfl ?_
    refine y_getI fX3_46 dX3_decode_9 l11 rfl hI1.2.1 ?_
    refine y_ic_ge 36 dX3_decode_12 (by decide) (by omega) (by omega) (fun c_12 => ?_) (fun c_12 => ?_)
    · obtain rfl : i = iM I := (by omega)
      refine x_aload_n 2 dX3_decode_36 rfl rfl ?_
      refine x_callVv (as := []) (rest := []) vX3_43 (c_X3_tally hk (hI.keep (fun a h1 h2 b => dcS_k (by have := hk.g; omega))) hO (dcS_W S k c I) hw) dX3_decode_37 hk.l0 rfl rfl rfl (Nat.le_of_ble_eq_true rfl) (Nat.le_of_ble_eq_true rfl) (Nat.le_of_ble_eq_true rfl) ?_
      exact x_vret rfl dX3_decode_40 ⟨rfl, ⟨rfl, fun a ha b => (tlP_k (by omega)).trans (dcS_k (by omega))⟩, tlP_T (dcS_W S k c I)⟩
    · refine x_aload_n 2 dX3_decode_15 rfl rfl ?_
      refine x_getR fX3_9 dX3_decode_16 hk.l0 rfl ?_
      refine x_iload_n 0 dX3_decode_19 rfl rfl ?_
      refine x_iload_n 1 dX3_decode_20 rfl rfl ?_
      refine x_bipush (v := nI 7) dX3_decode_21 (by decide) ?_
      refine y_irem dX3_decode_23 (by omega) (by omega) (by omega) ?_
      refine y_iast dX3_decode_24 hk.l1 (by omega) (by decide) ?_
      refine x_iload_n 1 dX3_decode_25 rfl rfl ?_
      refine x_bipush (v := nI 7) dX3_decode_26 (by decide) ?_
      refine y_idiv dX3_decode_28 (by omega) (by omega) (by omega) ?_
      refine x_istore_n (lv' := [(2, _), (3, _), (0, _), (1, _)]) dX3_decode_29 rfl (by decide) rfl ?_
      rw [show ((c / 7 ^ i) / 7) = (c / 7 ^ (i + 1)) from by rw [dig_div]]
      refine y_iinc (lv' := [(3, _), (2, _), (0, _), (1, _)]) 1 dX3_decode_30 rfl (by decide) rfl ?_
      refine x_goto 4 dX3_decode_33 (by decide) ?_
      refine x_pick (lv' := [(3, _), (2, _), (0, _), (1, _)]) [0, 1, 2, 3] rfl ?_
      exact ih (iM I - (i + 1)) (by omega) (i + 1) rfl _ (dcS_s S k c i) (by omega)

set_option maxHeartbeats 4000000 in
set_option maxRecDepth 100000 in
theorem c_X3_decode {S : St} {k c : Nat} {I : Isl} (hk : isPl k) (hI : IsX 11 I S) (hO : IOK I) (hc : c < 16807) (hw : WOK I (digF c))  : C 2 60 yX3_decode mX3_decode [.ref k, .int (nI c)] S (pvT S k I (digF c)) := by
  refine C.ofX (by decide) rfl (Nat.le_of_ble_eq_true rfl) ?_
  show X 2 60 mX3_decode (pvT S k I (digF c)) 0 [(0, .ref k), (1, .int (nI c))] [] S
  refine x_iload_n 1 dX3_decode_0 rfl rfl ?_
  refine x_istore_n (lv' := [(2, _), (0, _), (1, _)]) dX3_decode_1 rfl (by decide) rfl ?_
  refine x_iconst (v := nI 0) dX3_decode_2 (by decide) ?_
  refine x_istore_n (lv' := [(3, _), (2, _), (0, _), (1, _)]) dX3_decode_3 rfl (by decide) rfl ?_
  refine x_pick (lv' := [(3, _), (2, _), (0, _), (1, _)]) [0, 1, 2, 3] rfl ?_
  exact (by have := lp_decode hk hI hO hc hw 0 S (dcS_0 S k c).symm (Nat.zero_le _); rw [Nat.pow_zero, Nat.div_one] at this; exact this)

def upW (w : Nat → Nat) (t to : Nat) : Nat → Nat := fun j => if j = t then to else w j
theorem up_W {S : St} {k : Nat} {I : Isl} {w : Nat → Nat} (h : PlW k I w S) (t to : Nat) : PlW k I (upW w t to) (setI S (k + 1) t (nI to)) := by
  intro j hj
  unfold upW
  by_cases e : j = t
  · subst e; rw [rdI_eq, if_pos rfl]
  · rw [rdI_j e, if_neg e]; exact h j hj

set_option maxHeartbeats 4000000 in
set_option maxRecDepth 100000 in
theorem c_X3_move {S : St} {k : Nat} {I : Isl} {w : Nat → Nat} (hk : isPl k) (hI : IsX 11 I S) (hO : IOK I) (hP : PlW k I w S) {t to : Nat} (ht : t < iM I) (hto : plcF I to) (hw : WOK I (upW w t to)) : C 3 90 yX3_move mX3_move [.ref k, .int (nI t), .int (nI to)] S (pvT S k I (upW w t to)) := by
  have hO1 := hO.1
  have hO2 := hO.2.1
  have hO3 := hO.2.2.1
  have hO4 := hO.2.2.2.1
  have hg := hk.g
  have ht2 : to < 8 := by unfold plcF at hto; omega
  have hst : (0 ≤ (nI t).toInt ∧ (nI t).toInt < (iM I : Int)) ∧ plcI I (nI to) := ⟨by rw [tiN (by omega)]; omega, (plcI_n (by omega)).mpr hto⟩
  refine C.ofX (by decide) rfl (Nat.le_of_ble_eq_true rfl) ?_
  show X 3 90 mX3_move (pvT S k I (upW w t to)) 0 [(0, .ref k), (1, .int (nI t)), (2, .int (nI to))] [] S
  refine x_aload_n 0 dX3_move_0 rfl rfl ?_
  refine x_getR fX3_28 dX3_move_1 hk.l0 rfl ?_
  refine x_iload_n 1 dX3_move_4 rfl rfl ?_
  refine x_iload_n 2 dX3_move_5 rfl rfl ?_
  refine x_callVb (as := [_, _]) (rest := []) vX3_52 (c_X1_isStep hI hO) dX3_move_6 l11 rfl rfl rfl (Nat.le_of_ble_eq_true rfl) (Nat.le_of_ble_eq_true rfl) (Nat.le_of_ble_eq_true rfl) (fun c_6 => ?_) (fun c_6 => ?_)
  · refine t_if_ne 13 dX3_move_9 (by decide) (by decide) ?_
    refine x_aload_n 0 dX3_move_13 rfl rfl ?_
    refine x_getR fX3_9 dX3_move_14 hk.l0 rfl ?_
    refine x_iload_n 1 dX3_move_17 rfl rfl ?_
    refine x_iload_n 2 dX3_move_18 rfl rfl ?_
    refine y_iast dX3_move_19 hk.l1 (by omega) (by decide) ?_
    refine x_aload_n 0 dX3_move_20 rfl rfl ?_
    refine x_callVv (as := []) (rest := []) vX3_43 (c_X3_tally hk (hI.keep (fun a h1 h2 b => rdI_k (by omega))) hO (up_W hP t to) hw) dX3_move_21 hk.l0 rfl rfl rfl (Nat.le_of_ble_eq_true rfl) (Nat.le_of_ble_eq_true rfl) (Nat.le_of_ble_eq_true rfl) ?_
    refine x_vret rfl dX3_move_24 ⟨rfl, ⟨rfl, fun a ha b => (tlP_k (by omega)).trans (rdI_k (by omega))⟩, tlP_T (up_W hP t to)⟩
  · refine u_if_ne 13 dX3_move_9 (by decide) (by decide) ?_
    refine x_vret rfl dX3_move_12 (absurd hst c_6)

theorem bg_W {S : St} {k k0 : Nat} {I : Isl} {w : Nat → Nat} {v : Int32} (hO : IOK I) (h : ∀ t, t < iM I → S.1 k0 t = nI (w t)) : PlW k I w (setI (cpA S k0 (k + 1) 0 0 5) k 5 v) := by
  intro t ht
  have := hO.2.1
  rw [rdI_k (by omega), cpA_0 (by omega) rfl]
  exact h t ht

set_option maxHeartbeats 4000000 in
set_option maxRecDepth 100000 in
theorem c_X3_begin {S : St} {k : Nat} {I : Isl} (hk : isPl k) (hI : IsX 11 I S) (hO : IOK I) (hw : WOK I (iS I))  : C 2 60 yX3_begin mX3_begin [.ref k] S (qv (fun S' => Fr (fun a => k ≤ a ∧ a ≤ k + 4) S S' ∧ PlT k I (iS I) S' ∧ S'.1 k 5 = nI 3)) := by
  have hO1 := hO.1
  have hO2 := hO.2.1
  have hO3 := hO.2.2.1
  have hO4 := hO.2.2.2.1
  have hg := hk.g
  refine C.ofX (by decide) rfl (Nat.le_of_ble_eq_true rfl) ?_
  show X 2 60 mX3_begin (qv (fun S' => Fr (fun a => k ≤ a ∧ a ≤ k + 4) S S' ∧ PlT k I (iS I) S' ∧ S'.1 k 5 = nI 3)) 0 [(0, .ref k)] [] S
  refine x_aload_n 0 dX3_begin_0 rfl rfl ?_
  refine x_getR fX3_28 dX3_begin_1 hk.l0 rfl ?_
  refine x_getR fX3_32 dX3_begin_4 l11 rfl ?_
  refine x_iconst (v := nI 0) dX3_begin_7 (by decide) ?_
  refine x_aload_n 0 dX3_begin_8 rfl rfl ?_
  refine x_getR fX3_9 dX3_begin_9 hk.l0 rfl ?_
  refine x_iconst (v := nI 0) dX3_begin_12 (by decide) ?_
  refine x_iconst (v := nI 5) dX3_begin_13 (by decide) ?_
  refine y_acopy nX3_37 dX3_begin_14 l13 hk.l1 (by omega) (by omega) (by decide) (by decide) (Nat.le_of_ble_eq_true rfl) (Nat.le_of_ble_eq_true rfl) (Nat.le_of_ble_eq_true rfl) ?_
  refine x_aload_n 0 dX3_begin_17 rfl rfl ?_
  refine x_iconst (v := nI 3) dX3_begin_18 (by decide) ?_
  refine x_putI pX3_24 dX3_begin_19 hk.l0 rfl ?_
  refine x_aload_n 0 dX3_begin_22 rfl rfl ?_
  refine x_callVv (as := []) (rest := []) vX3_43 (c_X3_tally hk (hI.keep (fun a h1 h2 b => (rdI_k (by omega)).trans (cpA_k (by omega)))) hO (bg_W hO (fun t ht => (hI.2.2.2.2.1 t ht).2.1)) hw) dX3_begin_23 hk.l0 rfl rfl rfl (Nat.le_of_ble_eq_true rfl) (Nat.le_of_ble_eq_true rfl) (Nat.le_of_ble_eq_true rfl) ?_
  refine x_vret rfl dX3_begin_26 ⟨rfl, ⟨rfl, fun a ha b => (tlP_k (by omega)).trans ((rdI_k (by omega)).trans (cpA_k (by omega)))⟩, tlP_T (bg_W hO (fun t ht => (hI.2.2.2.2.1 t ht).2.1)), (tlP_k (by omega)).trans rdI_eq⟩

