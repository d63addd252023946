/-! ===== Places ===== -/
noncomputable def dec (P : Prop) : Bool := @decide P (Classical.propDecidable P)
theorem dec_iff {P : Prop} : dec P = true ↔ P := by
  unfold dec
  exact @decide_eq_true_iff P (Classical.propDecidable P)
theorem dec_t {P : Prop} (h : P) : dec P = true := dec_iff.mpr h
theorem dec_f {P : Prop} (h : ¬ P) : dec P = false := by
  cases hd : dec P with
  | false => rfl
  | true => exact absurd (dec_iff.mp hd) h
def isPl (k : Nat) : Prop := k = 35 ∨ k = 40 ∨ k = 45 ∨ k = 50 ∨ k = 55
theorem isPl.l0 {k : Nat} (h : isPl k) : LAY[k]? = some (.inl (3, [.inl 11, .inl (k + 1), .inl (k + 2), .inl (k + 3), .inl (k + 4), .inr false])) := by rcases h with rfl | rfl | rfl | rfl | rfl <;> rfl
theorem isPl.l1 {k : Nat} (h : isPl k) : LAY[k + 1]? = some (.inr (0, 5)) := by rcases h with rfl | rfl | rfl | rfl | rfl <;> rfl
theorem isPl.l2 {k : Nat} (h : isPl k) : LAY[k + 2]? = some (.inr (0, 5)) := by rcases h with rfl | rfl | rfl | rfl | rfl <;> rfl
theorem isPl.l3 {k : Nat} (h : isPl k) : LAY[k + 3]? = some (.inr (0, 5)) := by rcases h with rfl | rfl | rfl | rfl | rfl <;> rfl
theorem isPl.l4 {k : Nat} (h : isPl k) : LAY[k + 4]? = some (.inr (0, 2)) := by rcases h with rfl | rfl | rfl | rfl | rfl <;> rfl
theorem isPl.g {k : Nat} (h : isPl k) : 35 ≤ k ∧ k ≤ 55 := by rcases h with rfl | rfl | rfl | rfl | rfl <;> decide
def PlW (k : Nat) (I : Isl) (w : Nat → Nat) (S : St) : Prop := ∀ t, t < iM I → S.1 (k + 1) t = nI (w t)
def PlT (k : Nat) (I : Isl) (w : Nat → Nat) (S : St) : Prop := PlW k I w S ∧ (∀ p, p < 5 → S.1 (k + 2) p = nI (loadF I w p)) ∧ (∀ p, p < 5 → S.1 (k + 3) p = nI (heldF I w p)) ∧ ∀ b, b < 2 → S.1 (k + 4) b = nI (insF I w b)
/-- where things can be at all, when they are looked at -/
def WOK (I : Isl) (w : Nat → Nat) : Prop := (∀ t, t < iM I → w t < 5 + iB I) ∧ ∀ b, b < iB I → w (iG I b) ≤ 4
theorem PlW.keep {k : Nat} {I : Isl} {w : Nat → Nat} {S S' : St} (h : PlW k I w S) (e : ∀ b, S'.1 (k + 1) b = S.1 (k + 1) b) : PlW k I w S' := fun t ht => (e t).trans (h t ht)
theorem PlT.keep {k : Nat} {I : Isl} {w : Nat → Nat} {S S' : St} (h : PlT k I w S) (e : ∀ a, k + 1 ≤ a → a ≤ k + 4 → ∀ b, S'.1 a b = S.1 a b) : PlT k I w S' :=
  ⟨h.1.keep (e _ (by omega) (by omega)), fun p hp => (e _ (by omega) (by omega) p).trans (h.2.1 p hp), fun p hp => (e _ (by omega) (by omega) p).trans (h.2.2.1 p hp), fun p hp => (e _ (by omega) (by omega) p).trans (h.2.2.2 p hp)⟩
theorem whomF_le {I : Isl} {w : Nat → Nat} (hw : WOK I w) {t : Nat} (ht : t < iM I) : whomF I w t ≤ 4 := by
  unfold whomF
  by_cases h : w t ≤ 4
  · rw [if_pos h]; exact h
  · rw [if_neg h]; exact hw.2 _ (by have := hw.1 t ht; omega)

set_option maxHeartbeats 4000000 in
set_option maxRecDepth 100000 in
theorem c_X3_whom {S : St} {k : Nat} {I : Isl} {w : Nat → Nat} (hk : isPl k) (hI : IsX 11 I S) (hO : IOK I) {t : Nat} (hP : PlW k I w S) (hw : WOK I w) (ht : t < iM I) : C 0 0 yX3_whom mX3_whom [.ref k, .int (nI t)] S (pu (.int (nI (whomF I w t))) S) := by
  have hO1 := hO.1
  have hO2 := hO.2.1
  have hO3 := hO.2.2.1
  have hO4 := hO.2.2.2.1
  have hwt := hw.1 t ht
  have e5 : (nI (w t) - nI 5).toInt = (w t : Int) - 5 := by
    rw [Int32.toInt_sub, tiN (by omega), tiN (by omega)]
    exact Int.bmod_eq_of_le (by omega) (by omega)
  refine C.ofX (by decide) rfl (Nat.le_of_ble_eq_true rfl) ?_
  show X 0 0 mX3_whom (pu (.int (nI (whomF I w t))) S) 0 [(0, .ref k), (1, .int (nI t))] [] S
  refine x_iload_n 1 dX3_whom_0 rfl rfl ?_
  refine y_if_lt 13 dX3_whom_1 (by decide) (by omega) (fun c_1 => ?_) (fun c_1 => ?_)
  · refine x_iconst (v := nI 4) dX3_whom_13 (by decide) ?_
    refine x_iret rfl dX3_whom_14 (by first | (exfalso; omega) | exact ⟨by unfold whomF; first | rw [if_pos (by omega)] | rw [if_neg (by omega)], rfl⟩)
  · refine x_iload_n 1 dX3_whom_4 rfl rfl ?_
    refine x_aload_n 0 dX3_whom_5 rfl rfl ?_
    refine x_getR fX3_9 dX3_whom_6 hk.l0 rfl ?_
    refine x_alen (v := nI 5) dX3_whom_9 hk.l1 rfl ?_
    refine y_ic_lt 15 dX3_whom_10 (by decide) (by omega) (by omega) (fun c_10 => ?_) (fun c_10 => ?_)
    · refine x_aload_n 0 dX3_whom_15 rfl rfl ?_
      refine x_getR fX3_9 dX3_whom_16 hk.l0 rfl ?_
      refine x_iload_n 1 dX3_whom_19 rfl rfl ?_
      refine y_iald dX3_whom_20 hk.l1 (by omega) (by decide) (hP t ht) ?_
      refine x_iconst (v := nI 5) dX3_whom_21 (by decide) ?_
      refine x_isub dX3_whom_22 ?_
      refine x_istore_n (lv' := [(2, _), (0, _), (1, _)]) dX3_whom_23 rfl (by decide) rfl ?_
      refine x_iload_n 0 dX3_whom_24 rfl rfl ?_
      refine x_if_ge 35 dX3_whom_25 (by decide) (fun c_25 => ?_) (fun c_25 => ?_)
      · have h5 : 5 ≤ w t := by omega
        rw [nI_subN h5]
        refine x_iload_n 0 dX3_whom_35 rfl rfl ?_
        refine x_aload_n 1 dX3_whom_36 rfl rfl ?_
        refine x_getR fX3_28 dX3_whom_37 hk.l0 rfl ?_
        refine y_getI fX3_69 dX3_whom_40 l11 rfl hI.2.2.2.1 ?_
        refine y_ic_ge 63 dX3_whom_43 (by decide) (by omega) (by omega) (fun c_43 => ?_) (fun c_43 => ?_)
        · refine x_iconst (v := nI 4) dX3_whom_63 (by decide) ?_
          refine x_iret rfl dX3_whom_64 (by first | (exfalso; omega) | exact ⟨by unfold whomF; first | rw [if_pos (by omega)] | rw [if_neg (by omega)], rfl⟩)
        · refine x_aload_n 1 dX3_whom_46 rfl rfl ?_
          refine x_getR fX3_9 dX3_whom_47 hk.l0 rfl ?_
          refine x_aload_n 1 dX3_whom_50 rfl rfl ?_
          refine x_getR fX3_28 dX3_whom_51 hk.l0 rfl ?_
          refine x_getR fX3_72 dX3_whom_54 l11 rfl ?_
          refine x_iload_n 0 dX3_whom_57 rfl rfl ?_
          refine y_iald dX3_whom_58 l16 (by omega) (by decide) (hI.2.2.2.2.2.1 _ (by omega)) ?_
          refine y_iald dX3_whom_59 hk.l1 (by have := (hO.2.2.2.2.2.1 (w t - 5) (by omega)).1; omega) (by decide) (hP _ (hO.2.2.2.2.2.1 _ (by omega)).1) ?_
          refine x_goto 64 dX3_whom_60 (by decide) ?_
          refine x_iret rfl dX3_whom_64 (by first | (exfalso; omega) | exact ⟨by unfold whomF; first | rw [if_pos (by omega)] | rw [if_neg (by omega)], rfl⟩)
      · refine x_aload_n 1 dX3_whom_28 rfl rfl ?_
        refine x_getR fX3_9 dX3_whom_29 hk.l0 rfl ?_
        refine x_iload_n 2 dX3_whom_32 rfl rfl ?_
        refine y_iald dX3_whom_33 hk.l1 (by omega) (by decide) (hP t ht) ?_
        refine x_iret rfl dX3_whom_34 (by first | (exfalso; omega) | exact ⟨by unfold whomF; first | rw [if_pos (by omega)] | rw [if_neg (by omega)], rfl⟩)
    · refine x_iconst (v := nI 4) dX3_whom_13 (by decide) ?_
      refine x_iret rfl dX3_whom_14 (by first | (exfalso; omega) | exact ⟨by unfold whomF; first | rw [if_pos (by omega)] | rw [if_neg (by omega)], rfl⟩)

def tlP (S : St) (k : Nat) (I : Isl) (w : Nat → Nat) (i : Nat) : St := (fun a b => if a = k + 2 ∧ b < 5 then nI (sm (fun t => if w t = b then wt (iK I t) else 0) i) else if a = k + 3 ∧ b < 5 then nI (mk (fun t => whomF I w t == b) i) else if a = k + 4 ∧ b < 2 then nI (sm (fun t => if w t = 5 + b then 1 else 0) i) else S.1 a b, S.2)
theorem tlP_k {S : St} {k : Nat} {I : Isl} {w : Nat → Nat} {i a b : Nat} (h : ¬ (k + 2 ≤ a ∧ a ≤ k + 4)) : (tlP S k I w i).1 a b = S.1 a b := by
  unfold tlP
  dsimp only
  rw [if_neg (by omega), if_neg (by omega), if_neg (by omega)]
theorem tlP_2 {S : St} {k : Nat} {I : Isl} {w : Nat → Nat} {i b : Nat} (h : b < 5) : (tlP S k I w i).1 (k + 2) b = nI (sm (fun t => if w t = b then wt (iK I t) else 0) i) := if_pos ⟨rfl, h⟩
theorem tlP_3 {S : St} {k : Nat} {I : Isl} {w : Nat → Nat} {i b : Nat} (h : b < 5) : (tlP S k I w i).1 (k + 3) b = nI (mk (fun t => whomF I w t == b) i) := by
  unfold tlP
  dsimp only
  rw [if_neg (by omega), if_pos ⟨rfl, h⟩]
theorem tlP_4 {S : St} {k : Nat} {I : Isl} {w : Nat → Nat} {i b : Nat} (h : b < 2) : (tlP S k I w i).1 (k + 4) b = nI (sm (fun t => if w t = 5 + b then 1 else 0) i) := by
  unfold tlP
  dsimp only
  rw [if_neg (by omega), if_neg (by omega), if_pos ⟨rfl, h⟩]
theorem tlP_2n {S : St} {k : Nat} {I : Isl} {w : Nat → Nat} {i b : Nat} (h : ¬ b < 5) : (tlP S k I w i).1 (k + 2) b = S.1 (k + 2) b := by
  unfold tlP
  dsimp only
  rw [if_neg (by omega), if_neg (by omega), if_neg (by omega)]
theorem tlP_3n {S : St} {k : Nat} {I : Isl} {w : Nat → Nat} {i b : Nat} (h : ¬ b < 5) : (tlP S k I w i).1 (k + 3) b = S.1 (k + 3) b := by
  unfold tlP
  dsimp only
  rw [if_neg (by omega), if_neg (by omega), if_neg (by omega)]
theorem tlP_4n {S : St} {k : Nat} {I : Isl} {w : Nat → Nat} {i b : Nat} (h : ¬ b < 2) : (tlP S k I w i).1 (k + 4) b = S.1 (k + 4) b := by
  unfold tlP
  dsimp only
  rw [if_neg (by omega), if_neg (by omega), if_neg (by omega)]
theorem st_ext {S S' : St} (h2 : S.2 = S'.2) (h : ∀ a b, S.1 a b = S'.1 a b) : S = S' := Prod.ext (funext fun a => funext fun b => h a b) h2
theorem fillA_in {S : St} {k a b j : Nat} {v : Int32} (h1 : a ≤ j) (h2 : j < b) : (fillA S k a b v).1 k j = v := if_pos ⟨rfl, h1, h2⟩
theorem fillA_k {S : St} {k a b c j : Nat} {v : Int32} (h : ¬ c = k) : (fillA S k a b v).1 c j = S.1 c j := if_neg fun q => h q.1
theorem fillA_o {S : St} {k a b c j : Nat} {v : Int32} (h : ¬ (a ≤ j ∧ j < b)) : (fillA S k a b v).1 c j = S.1 c j := if_neg fun q => h q.2
theorem tlP_0 (S : St) (k : Nat) (I : Isl) (w : Nat → Nat) : fillA (fillA (fillA S (k + 2) 0 5 (nI 0)) (k + 3) 0 5 (nI 0)) (k + 4) 0 2 (nI 0) = tlP S k I w 0 := by
  refine st_ext rfl fun a b => ?_
  by_cases a2 : a = k + 2
  · subst a2
    rw [fillA_k (by omega), fillA_k (by omega)]
    by_cases hb : b < 5
    · rw [fillA_in (by omega) hb, tlP_2 hb]; rfl
    · rw [fillA_o (by omega), tlP_2n hb]
  · by_cases a3 : a = k + 3
    · subst a3
      rw [fillA_k (by omega)]
      by_cases hb : b < 5
      · rw [fillA_in (by omega) hb, tlP_3 hb]; rfl
      · rw [fillA_o (by omega), fillA_k (by omega), tlP_3n hb]
    · by_cases a4 : a = k + 4
      · subst a4
        by_cases hb : b < 2
        · rw [fillA_in (by omega) hb, tlP_4 hb]; rfl
        · rw [fillA_o (by omega), fillA_k (by omega), fillA_k (by omega), tlP_4n hb]
      · rw [fillA_k a4, fillA_k a3, fillA_k a2, tlP_k (by omega)]
theorem tlP_sA (S : St) (k : Nat) (I : Isl) (w : Nat → Nat) (i : Nat) (h : w i ≤ 4) (hh : whomF I w i < 5) : setI (setI (tlP S k I w i) (k + 2) (w i) (nI (sm (fun t => if w t = w i then wt (iK I t) else 0) i + wt (iK I i)))) (k + 3) (whomF I w i) (nI (mk (fun t => whomF I w t == whomF I w i) i ||| 1 * 2 ^ i)) = tlP S k I w (i + 1) := by
  refine st_ext rfl fun a b => ?_
  by_cases a2 : a = k + 2
  · subst a2
    rw [rdI_k (by omega)]
    by_cases hb : b = w i
    · subst hb
      rw [rdI_eq, tlP_2 (by omega), sm_s, if_pos rfl]
    · rw [rdI_j hb]
      by_cases b5 : b < 5
      · rw [tlP_2 b5, tlP_2 b5, sm_s, if_neg (fun q => hb q.symm), Nat.add_zero]
      · rw [tlP_2n b5, tlP_2n b5]
  · by_cases a3 : a = k + 3
    · subst a3
      by_cases hb : b = whomF I w i
      · subst hb
        rw [rdI_eq, tlP_3 hh, mk_s, if_pos (by simp), Nat.one_mul]
      · rw [rdI_j hb, rdI_k (by omega)]
        by_cases b5 : b < 5
        · rw [tlP_3 b5, tlP_3 b5, mk_s, if_neg (by simpa using fun q => hb q.symm), Nat.or_zero]
        · rw [tlP_3n b5, tlP_3n b5]
    · rw [rdI_k a3, rdI_k a2]
      by_cases a4 : a = k + 4
      · subst a4
        by_cases b2 : b < 2
        · rw [tlP_4 b2, tlP_4 b2, sm_s, if_neg (by omega), Nat.add_zero]
        · rw [tlP_4n b2, tlP_4n b2]
      · rw [tlP_k (by omega), tlP_k (by omega)]
theorem tlP_sB (S : St) (k : Nat) (I : Isl) (w : Nat → Nat) (i : Nat) (h : ¬ w i ≤ 4) (h7 : w i < 7) (hh : whomF I w i < 5) : setI (setI (tlP S k I w i) (k + 4) (w i - 5) (nI (sm (fun t => if w t = 5 + (w i - 5) then 1 else 0) i + 1))) (k + 3) (whomF I w i) (nI (mk (fun t => whomF I w t == whomF I w i) i ||| 1 * 2 ^ i)) = tlP S k I w (i + 1) := by
  refine st_ext rfl fun a b => ?_
  by_cases a2 : a = k + 2
  · subst a2
    rw [rdI_k (by omega), rdI_k (by omega)]
    by_cases b5 : b < 5
    · rw [tlP_2 b5, tlP_2 b5, sm_s, if_neg (by omega), Nat.add_zero]
    · rw [tlP_2n b5, tlP_2n b5]
  · by_cases a3 : a = k + 3
    · subst a3
      by_cases hb : b = whomF I w i
      · subst hb
        rw [rdI_eq, tlP_3 hh, mk_s, if_pos (by simp), Nat.one_mul]
      · rw [rdI_j hb, rdI_k (by omega)]
        by_cases b5 : b < 5
        · rw [tlP_3 b5, tlP_3 b5, mk_s, if_neg (by simpa using fun q => hb q.symm), Nat.or_zero]
        · rw [tlP_3n b5, tlP_3n b5]
    · rw [rdI_k a3]
      by_cases a4 : a = k + 4
      · subst a4
        by_cases hb : b = w i - 5
        · subst hb
          rw [rdI_eq, tlP_4 (by omega), sm_s, if_pos (by omega)]
        · rw [rdI_j hb]
          by_cases b2 : b < 2
          · rw [tlP_4 b2, tlP_4 b2, sm_s, if_neg (by omega), Nat.add_zero]
          · rw [tlP_4n b2, tlP_4n b2]
      · rw [rdI_k a4, tlP_k (by omega), tlP_k (by omega)]
theorem tlP_T {S : St} {k : Nat} {I : Isl} {w : Nat → Nat} (h : PlW k I w S) : PlT k I w (tlP S k I w (iM I)) := ⟨h.keep (fun b => tlP_k (by omega)), fun p hp => tlP_2 hp, fun p hp => tlP_3 hp, fun b hb => tlP_4 hb⟩
theorem tlP_Fr (S : St) (k : Nat) (I : Isl) (w : Nat → Nat) (i : Nat) : Fr (fun a => k + 2 ≤ a ∧ a ≤ k + 4) S (tlP S k I w i) := ⟨rfl, fun a ha b => tlP_k ha⟩
theorem mk_lt32 {f : Nat → Bool} {n : Nat} (h : n ≤ 5) : mk f n < 32 := Nat.lt_of_lt_of_le (mk_lt f n) (Nat.pow_le_pow_right (by decide) h)

set_option maxHeartbeats 4000000 in
set_option maxRecDepth 100000 in
theorem lp_tally {S : St} {k : Nat} {I : Isl} {w : Nat → Nat} (hk : isPl k) (hI : IsX 11 I S) (hO : IOK I) (hP : PlW k I w S) (hw : WOK I w) : ∀ (i : Nat) (S1 : St), S1 = tlP S k I w i → i ≤ iM I → X 1 30 mX3_tally (pv (tlP S k I w (iM I))) 26 [(1, .int (nI i)), (0, .ref k)] [] S1 := by
  intro i
  induction hm : iM I - i using Nat.strongRecOn generalizing i with
  | _ mm ih =>
    intro S1 hS1 hi
    replace hS1 := hS1.symm
    subst hS1
    have hO1 := hO.1
    have hO2 := hO.2.1
    have hO3 := hO.2.2.1
    have hO4 := hO.2.2.2.1
    have hg := hk.g
    have hI1 : IsX 11 I (tlP S k I w i) := hI.keep (fun a h1 h2 b => tlP_k (by omega))
    have hP1 : PlW k I w (tlP S k I w i) := hP.keep (fun b => tlP_k (by omega))
    have hwi := hw.1 i
    have hwh := @whomF_le I w hw i
    refine x_iload_n 0 dX3_tally_26 rfl rfl ?_
    refine x_aload_n 1 dX3_tally_27 rfl rfl ?_
    refine x_getR fX3_28 dX3_tally_28 hk.l0 rfl ?_
    refine y_getI fX3_46 dX3_tally_31 l11 rfl hI1.2.1 ?_
    refine y_ic_ge 104 dX3_tally_34 (by decide) (by omega) (by omega) (fun c_34 => ?_) (fun c_34 => ?_)
    · refine x_vret rfl dX3_tally_104 (by obtain rfl : i = iM I := (by omega); exact ⟨rfl, rfl⟩)
    · refine x_aload_n 1 dX3_tally_37 rfl rfl ?_
      refine x_getR fX3_9 dX3_tally_38 hk.l0 rfl ?_
      refine x_iload_n 0 dX3_tally_41 rfl rfl ?_
      refine y_iald dX3_tally_42 hk.l1 (by omega) (by decide) (hP1 i (by omega)) ?_
      refine x_istore_n (lv' := [(2, _), (1, _), (0, _)]) dX3_tally_43 rfl (by decide) rfl ?_
      refine x_iload_n 0 dX3_tally_44 rfl rfl ?_
      refine x_iconst (v := nI 4) dX3_tally_45 (by decide) ?_
      refine y_ic_gt 70 dX3_tally_46 (by decide) (by omega) (by omega) (fun c_46 => ?_) (fun c_46 => ?_)
      · refine x_aload_n 2 dX3_tally_70 rfl rfl ?_
        refine x_getR fX3_21 dX3_tally_71 hk.l0 rfl ?_
        refine x_iload_n 0 dX3_tally_74 rfl rfl ?_
        refine x_iconst (v := nI 5) dX3_tally_75 (by decide) ?_
        refine y_isub dX3_tally_76 (by omega) ?_
        refine x_dup2 dX3_tally_77 rfl rfl ?_
        refine y_iald dX3_tally_78 hk.l4 (by omega) (by decide) (tlP_4 (by omega)) ?_
        refine x_iconst (v := nI 1) dX3_tally_79 (by decide) ?_
        refine y_iadd dX3_tally_80 ?_
        refine y_iast dX3_tally_81 hk.l4 (by omega) (by decide) ?_
        refine x_aload_n 2 dX3_tally_82 rfl rfl ?_
        refine x_getR fX3_18 dX3_tally_83 hk.l0 rfl ?_
        refine x_aload_n 2 dX3_tally_86 rfl rfl ?_
        refine x_iload_n 1 dX3_tally_87 rfl rfl ?_
        refine x_callVu (as := [_]) (rest := [_]) vX3_65 (c_X3_whom hk (hI1.keep (fun a h1 h2 b => rdI_k (by omega))) hO (hP1.keep (fun b => rdI_k (by omega))) hw (by omega)) dX3_tally_88 hk.l0 rfl rfl rfl (Nat.le_of_ble_eq_true rfl) (Nat.le_of_ble_eq_true rfl) (Nat.le_of_ble_eq_true rfl) ?_
        refine x_dup2 dX3_tally_91 rfl rfl ?_
        refine y_iald dX3_tally_92 hk.l3 (by omega) (by decide) (((rdI_k (by omega))).trans (tlP_3 (by omega))) ?_
        refine x_iconst (v := nI 1) dX3_tally_93 (by decide) ?_
        refine x_iload_n 1 dX3_tally_94 rfl rfl ?_
        refine y_ishl dX3_tally_95 (by omega) ?_
        refine y_ior dX3_tally_96 ?_
        refine y_iast dX3_tally_97 hk.l3 (by omega) (by decide) ?_
        refine y_iinc (lv' := [(1, _), (2, _), (0, _)]) 1 dX3_tally_98 rfl (by decide) rfl ?_
        refine x_goto 26 dX3_tally_101 (by decide) ?_
        refine x_pick (lv' := [(1, _), (0, _)]) [0, 2] rfl ?_
        exact ih (iM I - (i + 1)) (by omega) (i + 1) rfl _ (tlP_sB S k I w i (by omega) (by omega) (by omega)) (by omega)
      · refine x_aload_n 2 dX3_tally_49 rfl rfl ?_
        refine x_getR fX3_15 dX3_tally_50 hk.l0 rfl ?_
        refine x_iload_n 0 dX3_tally_53 rfl rfl ?_
        refine x_dup2 dX3_tally_54 rfl rfl ?_
        refine y_iald dX3_tally_55 hk.l2 (by omega) (by decide) (tlP_2 (by omega)) ?_
        refine x_aload_n 2 dX3_tally_56 rfl rfl ?_
        refine x_getR fX3_28 dX3_tally_57 hk.l0 rfl ?_
        refine x_getR fX3_62 dX3_tally_60 l11 rfl ?_
        refine x_iload_n 1 dX3_tally_63 rfl rfl ?_
        refine y_iald dX3_tally_64 l14 (by omega) (by decide) (hI1.2.2.2.2.1 i (by omega)).2.2.1 ?_
        refine y_iadd dX3_tally_65 ?_
        refine y_iast dX3_tally_66 hk.l2 (by omega) (by decide) ?_
        refine x_goto 82 dX3_tally_67 (by decide) ?_
        refine x_aload_n 2 dX3_tally_82 rfl rfl ?_
        refine x_getR fX3_18 dX3_tally_83 hk.l0 rfl ?_
        refine x_aload_n 2 dX3_tally_86 rfl rfl ?_
        refine x_iload_n 1 dX3_tally_87 rfl rfl ?_
        refine x_callVu (as := [_]) (rest := [_]) vX3_65 (c_X3_whom hk (hI1.keep (fun a h1 h2 b => rdI_k (by omega))) hO (hP1.keep (fun b => rdI_k (by omega))) hw (by omega)) dX3_tally_88 hk.l0 rfl rfl rfl (Nat.le_of_ble_eq_true rfl) (Nat.le_of_ble_eq_true rfl) (Nat.le_of_ble_eq_true rfl) ?_
        refine x_dup2 dX3_tally_91 rfl rfl ?_
        refine y_iald dX3_tally_92 hk.l3 (by omega) (by decide) (((rdI_k (by omega))).trans (tlP_3 (by omega))) ?_
        refine x_iconst (v := nI 1) dX3_tally_93 (by decide) ?_
        refine x_iload_n 1 dX3_tally_94 rfl rfl ?_
        refine y_ishl dX3_tally_95 (by omega) ?_
        refine y_ior dX3_tally_96 ?_
        refine y_iast dX3_tally_97 hk.l3 (by omega) (by decide) ?_
        refine y_iinc (lv' := [(1, _), (2, _), (0, _)]) 1 dX3_tally_98 rfl (by decide) rfl ?_
        refine x_goto 26 dX3_tally_101 (by decide) ?_
        refine x_pick (lv' := [(1, _), (0, _)]) [0, 2] rfl ?_
        exact ih (iM I - (i + 1)) (by omega) (i + 1) rfl _ (tlP_sA S k I w i (by omega) (by omega)) (by omega)

set_option maxHeartbeats 4000000 in
set_option maxRecDepth 100000 in
theorem c_X3_tally {S : St} {k : Nat} {I : Isl} {w : Nat → Nat} (hk : isPl k) (hI : IsX 11 I S) (hO : IOK I) (hP : PlW k I w S) (hw : WOK I w) : C 1 30 yX3_tally mX3_tally [.ref k] S (pv (tlP S k I w (iM I))) := by
  refine C.ofX (by decide) rfl (Nat.le_of_ble_eq_true rfl) ?_
  show X 1 30 mX3_tally (pv (tlP S k I w (iM I))) 0 [(0, .ref k)] [] S
  refine x_aload_n 0 dX3_tally_0 rfl rfl ?_
  refine x_getR fX3_15 dX3_tally_1 hk.l0 rfl ?_
  refine x_iconst (v := nI 0) dX3_tally_4 (by decide) ?_
  refine x_callSv (as := [_, _]) (rest := []) sX3_56 (c_J7_fill_53178 hk.l2 (by decide)) dX3_tally_5 rfl rfl (Nat.le_of_ble_eq_true rfl) (Nat.le_of_ble_eq_true rfl) (Nat.le_of_ble_eq_true rfl) ?_
  refine x_aload_n 0 dX3_tally_8 rfl rfl ?_
  refine x_getR fX3_18 dX3_tally_9 hk.l0 rfl ?_
  refine x_iconst (v := nI 0) dX3_tally_12 (by decide) ?_
  refine x_callSv (as := [_, _]) (rest := []) sX3_56 (c_J7_fill_53178 hk.l3 (by decide)) dX3_tally_13 rfl rfl (Nat.le_of_ble_eq_true rfl) (Nat.le_of_ble_eq_true rfl) (Nat.le_of_ble_eq_true rfl) ?_
  refine x_aload_n 0 dX3_tally_16 rfl rfl ?_
  refine x_getR fX3_21 dX3_tally_17 hk.l0 rfl ?_
  refine x_iconst (v := nI 0) dX3_tally_20 (by decide) ?_
  refine x_callSv (as := [_, _]) (rest := []) sX3_56 (c_J7_fill_53178 hk.l4 (by decide)) dX3_tally_21 rfl rfl (Nat.le_of_ble_eq_true rfl) (Nat.le_of_ble_eq_true rfl) (Nat.le_of_ble_eq_true rfl) ?_
  refine x_iconst (v := nI 0) dX3_tally_24 (by decide) ?_
  refine x_istore_n (lv' := [(1, _), (0, _)]) dX3_tally_25 rfl (by decide) rfl ?_
  refine x_pick (lv' := [(1, _), (0, _)]) [0, 1] rfl ?_
  exact lp_tally hk hI hO hP hw 0 _ (tlP_0 S k I w) (Nat.zero_le _)

