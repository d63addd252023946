set_option maxHeartbeats 4000000 in
set_option maxRecDepth 100000 in
theorem c_X3_loadOf {S : St} {k : Nat} {I : Isl} {w : Nat → Nat} (hk : isPl k) (hI : IsX 11 I S) (hO : IOK I) (hP : PlT k I w S) {p : Nat} (hp : p ≤ 6) : C 0 0 yX3_loadOf mX3_loadOf [.ref k, .int (nI p)] S (pu (.int (nI (if p ≤ 4 then loadF I w p else 0))) S) := by
  refine C.ofX (by decide) rfl (Nat.le_of_ble_eq_true rfl) ?_
  show X 0 0 mX3_loadOf (pu (.int (nI (if p ≤ 4 then loadF I w p else 0))) S) 0 [(0, .ref k), (1, .int (nI p))] [] S
  refine x_iload_n 1 dX3_loadOf_0 rfl rfl ?_
  refine y_if_lt 18 dX3_loadOf_1 (by decide) (by omega) (fun c_1 => ?_) (fun c_1 => ?_)
  · refine x_iconst (v := nI 0) dX3_loadOf_18 (by decide) ?_
    refine x_iret rfl dX3_loadOf_19 ⟨by first | (exfalso; omega) | rw [if_pos (by omega)] | rw [if_neg (by omega)], rfl⟩
  · refine x_iload_n 1 dX3_loadOf_4 rfl rfl ?_
    refine x_iconst (v := nI 4) dX3_loadOf_5 (by decide) ?_
    refine y_ic_gt 18 dX3_loadOf_6 (by decide) (by omega) (by omega) (fun c_6 => ?_) (fun c_6 => ?_)
    · refine x_iconst (v := nI 0) dX3_loadOf_18 (by decide) ?_
      refine x_iret rfl dX3_loadOf_19 ⟨by first | (exfalso; omega) | rw [if_pos (by omega)] | rw [if_neg (by omega)], rfl⟩
    · refine x_aload_n 0 dX3_loadOf_9 rfl rfl ?_
      refine x_getR fX3_15 dX3_loadOf_10 hk.l0 rfl ?_
      refine x_iload_n 1 dX3_loadOf_13 rfl rfl ?_
      refine y_iald dX3_loadOf_14 hk.l2 (by omega) (by decide) (hP.2.1 p (by omega)) ?_
      refine x_goto 19 dX3_loadOf_15 (by decide) ?_
      refine x_iret rfl dX3_loadOf_19 ⟨by first | (exfalso; omega) | rw [if_pos (by omega)] | rw [if_neg (by omega)], rfl⟩

set_option maxHeartbeats 4000000 in
set_option maxRecDepth 100000 in
theorem c_X3_heldBy {S : St} {k : Nat} {I : Isl} {w : Nat → Nat} (hk : isPl k) (hI : IsX 11 I S) (hO : IOK I) (hP : PlT k I w S) {p : Nat} (hp : p ≤ 6) : C 0 0 yX3_heldBy mX3_heldBy [.ref k, .int (nI p)] S (pu (.int (nI (if p ≤ 4 then heldF I w p else 0))) S) := by
  refine C.ofX (by decide) rfl (Nat.le_of_ble_eq_true rfl) ?_
  show X 0 0 mX3_heldBy (pu (.int (nI (if p ≤ 4 then heldF I w p else 0))) S) 0 [(0, .ref k), (1, .int (nI p))] [] S
  refine x_iload_n 1 dX3_heldBy_0 rfl rfl ?_
  refine y_if_lt 18 dX3_heldBy_1 (by decide) (by omega) (fun c_1 => ?_) (fun c_1 => ?_)
  · refine x_iconst (v := nI 0) dX3_heldBy_18 (by decide) ?_
    refine x_iret rfl dX3_heldBy_19 ⟨by first | (exfalso; omega) | rw [if_pos (by omega)] | rw [if_neg (by omega)], rfl⟩
  · refine x_iload_n 1 dX3_heldBy_4 rfl rfl ?_
    refine x_iconst (v := nI 4) dX3_heldBy_5 (by decide) ?_
    refine y_ic_gt 18 dX3_heldBy_6 (by decide) (by omega) (by omega) (fun c_6 => ?_) (fun c_6 => ?_)
    · refine x_iconst (v := nI 0) dX3_heldBy_18 (by decide) ?_
      refine x_iret rfl dX3_heldBy_19 ⟨by first | (exfalso; omega) | rw [if_pos (by omega)] | rw [if_neg (by omega)], rfl⟩
    · refine x_aload_n 0 dX3_heldBy_9 rfl rfl ?_
      refine x_getR fX3_18 dX3_heldBy_10 hk.l0 rfl ?_
      refine x_iload_n 1 dX3_heldBy_13 rfl rfl ?_
      refine y_iald dX3_heldBy_14 hk.l3 (by omega) (by decide) (hP.2.2.1 p (by omega)) ?_
      refine x_goto 19 dX3_heldBy_15 (by decide) ?_
      refine x_iret rfl dX3_heldBy_19 ⟨by first | (exfalso; omega) | rw [if_pos (by omega)] | rw [if_neg (by omega)], rfl⟩

set_option maxHeartbeats 4000000 in
set_option maxRecDepth 100000 in
theorem c_X3_fits {S : St} {k : Nat} {I : Isl} {w : Nat → Nat} (hk : isPl k) (hI : IsX 11 I S) (hO : IOK I) (hP : PlT k I w S) {L : Nat} (hL : S.1 k 5 = nI L) (hL7 : L ≤ 10) {t to : Nat} (ht : t < iM I) (hto : to ≤ 4) : C 0 0 yX3_fits mX3_fits [.ref k, .int (nI t), .int (nI to)] S (pb (fitF I w L t to) S) := by
  have hO1 := hO.1
  have hO2 := hO.2.1
  have hO3 := hO.2.2.1
  have hO4 := hO.2.2.2.1
  have h1 := loadF_le I hO w to
  have h2 := wt_le (iK I t)
  refine C.ofX (by decide) rfl (Nat.le_of_ble_eq_true rfl) ?_
  show X 0 0 mX3_fits (pb (fitF I w L t to) S) 0 [(0, .ref k), (1, .int (nI t)), (2, .int (nI to))] [] S
  refine x_iload_n 2 dX3_fits_0 rfl rfl ?_
  refine x_iconst (v := nI 4) dX3_fits_1 (by decide) ?_
  refine y_ic_eq 28 dX3_fits_2 (by decide) (by omega) (by omega) (fun c_2 => ?_) (fun c_2 => ?_)
  · refine x_iconst (v := nI 1) dX3_fits_28 (by decide) ?_
    refine x_goto 33 dX3_fits_29 (by decide) ?_
    refine x_zret rfl dX3_fits_33 (by decide) ⟨Or.inl ⟨rfl, by (unfold fitF; omega)⟩, rfl⟩
  · refine x_aload_n 0 dX3_fits_5 rfl rfl ?_
    refine x_getR fX3_15 dX3_fits_6 hk.l0 rfl ?_
    refine x_iload_n 2 dX3_fits_9 rfl rfl ?_
    refine y_iald dX3_fits_10 hk.l2 (by omega) (by decide) (hP.2.1 to (by omega)) ?_
    refine x_aload_n 0 dX3_fits_11 rfl rfl ?_
    refine x_getR fX3_28 dX3_fits_12 hk.l0 rfl ?_
    refine x_getR fX3_62 dX3_fits_15 l11 rfl ?_
    refine x_iload_n 1 dX3_fits_18 rfl rfl ?_
    refine y_iald dX3_fits_19 l14 (by omega) (by decide) (hI.2.2.2.2.1 t ht).2.2.1 ?_
    refine y_iadd dX3_fits_20 ?_
    refine x_aload_n 0 dX3_fits_21 rfl rfl ?_
    refine y_getI fX3_24 dX3_fits_22 hk.l0 rfl hL ?_
    refine y_ic_gt 32 dX3_fits_25 (by decide) (by omega) (by omega) (fun c_25 => ?_) (fun c_25 => ?_)
    · refine x_iconst (v := nI 0) dX3_fits_32 (by decide) ?_
      refine x_zret rfl dX3_fits_33 (by decide) ⟨Or.inr ⟨rfl, by (unfold fitF; omega)⟩, rfl⟩
    · refine x_iconst (v := nI 1) dX3_fits_28 (by decide) ?_
      refine x_goto 33 dX3_fits_29 (by decide) ?_
      refine x_zret rfl dX3_fits_33 (by decide) ⟨Or.inl ⟨rfl, by (unfold fitF; omega)⟩, rfl⟩

def obF (I : Isl) (w : Nat → Nat) (pl : Nat) (n : Nat) : Nat := oo (fun b => if w (iG I b) = pl ∧ insF I w b < rm (iK I (iG I b)) then 1 * 2 ^ (5 + b) else 0) n
theorem obF_lt (I : Isl) (w : Nat → Nat) (pl : Nat) {n : Nat} (hn : n ≤ 2) : obF I w pl n < 128 := by
  have : obF I w pl n < 2 ^ 7 := oo_lt (fun b hb => by
    split
    · rw [Nat.one_mul]; exact Nat.pow_lt_pow_right (by decide) (by omega)
    · decide)
  omega

set_option maxHeartbeats 4000000 in
set_option maxRecDepth 100000 in
theorem lp_openBags {S : St} {k : Nat} {I : Isl} {w : Nat → Nat} (hk : isPl k) (hI : IsX 11 I S) (hO : IOK I) (hP : PlT k I w S) (hw : WOK I w) {pl : Nat} (hpl : pl ≤ 4)  : ∀ (i : Nat) (S1 : St), S1 = S → i ≤ iB I → X 0 0 mX3_openBags (pu (.int (nI (obF I w pl (iB I)))) S) 4 [(3, .int (nI i)), (2, .int (nI ((obF I w pl i)))), (0, .ref k), (1, .int (nI pl))] [] S1 := by
  intro i
  induction hm : iB I - i using Nat.strongRecOn generalizing i with
  | _ mm ih =>
    intro S1 hS1 hi
    replace hS1 := hS1.symm
    subst hS1
    have hO1 := hO.1
    have hO2 := hO.2.1
    have hO3 := hO.2.2.1
    have hO4 := hO.2.2.2.1
    have hgi := fun h => (hO.2.2.2.2.2.1 i h).1
    have hwg := hw.2 i
    have hin := insF_le I hO w i
    have hrm := rm_le (iK I (iG I i))
    refine x_iload_n 0 dX3_openBags_4 rfl rfl ?_
    refine x_aload_n 2 dX3_openBags_5 rfl rfl ?_
    refine x_getR fX3_28 dX3_openBags_6 hk.l0 rfl ?_
    refine y_getI fX3_69 dX3_openBags_9 l11 rfl hI.2.2.2.1 ?_
    refine y_ic_ge 70 dX3_openBags_12 (by decide) (by omega) (by omega) (fun c_12 => ?_) (fun c_12 => ?_)
    · refine x_iload_n 1 dX3_openBags_70 rfl rfl ?_
      refine x_iret rfl dX3_openBags_71 (by obtain rfl : i = iB I := (by omega); exact ⟨rfl, rfl⟩)
    · refine x_aload_n 2 dX3_openBags_15 rfl rfl ?_
      refine x_getR fX3_28 dX3_openBags_16 hk.l0 rfl ?_
      refine x_getR fX3_72 dX3_openBags_19 l11 rfl ?_
      refine x_iload_n 0 dX3_openBags_22 rfl rfl ?_
      refine y_iald dX3_openBags_23 l16 (by omega) (by decide) (hI.2.2.2.2.2.1 i (by omega)) ?_
      refine x_istore (lv' := [(4, _), (3, _), (2, _), (0, _), (1, _)]) dX3_openBags_24 (by decide) rfl ?_
      refine x_aload_n 3 dX3_openBags_26 rfl rfl ?_
      refine x_getR fX3_9 dX3_openBags_27 hk.l0 rfl ?_
      refine x_iload 0 dX3_openBags_30 rfl ?_
      refine y_iald dX3_openBags_32 hk.l1 (by have := hgi (by omega); omega) (by decide) (hP.1 _ (hgi (by omega))) ?_
      refine x_iload_n 4 dX3_openBags_33 rfl rfl ?_
      refine y_ic_ne 64 dX3_openBags_34 (by decide) (by have := hwg (by omega); omega) (by omega) (fun c_34 => ?_) (fun c_34 => ?_)
      · rw [show (obF I w pl i) = (obF I w pl (i + 1)) from by unfold obF; rw [oo_s]; first | rw [if_neg (by omega), Nat.or_zero] | rw [if_pos (by omega)]]
        refine y_iinc (lv' := [(3, _), (4, _), (2, _), (0, _), (1, _)]) 1 dX3_openBags_64 rfl (by decide) rfl ?_
        refine x_goto 4 dX3_openBags_67 (by decide) ?_
        refine x_pick (lv' := [(3, _), (2, _), (0, _), (1, _)]) [0, 2, 3, 4] rfl ?_
        exact ih (iB I - (i + 1)) (by omega) (i + 1) rfl _ rfl (by omega)
      · refine x_aload_n 3 dX3_openBags_37 rfl rfl ?_
        refine x_getR fX3_21 dX3_openBags_38 hk.l0 rfl ?_
        refine x_iload_n 1 dX3_openBags_41 rfl rfl ?_
        refine y_iald dX3_openBags_42 hk.l4 (by omega) (by decide) (hP.2.2.2 i (by omega)) ?_
        refine x_aload_n 3 dX3_openBags_43 rfl rfl ?_
        refine x_getR fX3_28 dX3_openBags_44 hk.l0 rfl ?_
        refine x_getR fX3_97 dX3_openBags_47 l11 rfl ?_
        refine x_iload 0 dX3_openBags_50 rfl ?_
        refine y_iald dX3_openBags_52 l15 (by have := hgi (by omega); omega) (by decide) (hI.2.2.2.2.1 _ (hgi (by omega))).2.2.2 ?_
        refine y_ic_ge 64 dX3_openBags_53 (by decide) (by omega) (by omega) (fun c_53 => ?_) (fun c_53 => ?_)
        · rw [show (obF I w pl i) = (obF I w pl (i + 1)) from by unfold obF; rw [oo_s]; first | rw [if_neg (by omega), Nat.or_zero] | rw [if_pos (by omega)]]
          refine y_iinc (lv' := [(3, _), (4, _), (2, _), (0, _), (1, _)]) 1 dX3_openBags_64 rfl (by decide) rfl ?_
          refine x_goto 4 dX3_openBags_67 (by decide) ?_
          refine x_pick (lv' := [(3, _), (2, _), (0, _), (1, _)]) [0, 2, 3, 4] rfl ?_
          exact ih (iB I - (i + 1)) (by omega) (i + 1) rfl _ rfl (by omega)
        · refine x_iload_n 2 dX3_openBags_56 rfl rfl ?_
          refine x_iconst (v := nI 1) dX3_openBags_57 (by decide) ?_
          refine x_iconst (v := nI 5) dX3_openBags_58 (by decide) ?_
          refine x_iload_n 1 dX3_openBags_59 rfl rfl ?_
          refine y_iadd dX3_openBags_60 ?_
          refine y_ishl dX3_openBags_61 (by omega) ?_
          refine y_ior dX3_openBags_62 ?_
          refine x_istore_n (lv' := [(2, _), (4, _), (3, _), (0, _), (1, _)]) dX3_openBags_63 rfl (by decide) rfl ?_
          rw [show ((obF I w pl i) ||| (1 * 2 ^ (5 + i))) = (obF I w pl (i + 1)) from by unfold obF; rw [oo_s]; first | rw [if_neg (by omega), Nat.or_zero] | rw [if_pos (by omega)]]
          refine y_iinc (lv' := [(3, _), (2, _), (4, _), (0, _), (1, _)]) 2 dX3_openBags_64 rfl (by decide) rfl ?_
          refine x_goto 4 dX3_openBags_67 (by decide) ?_
          refine x_pick (lv' := [(3, _), (2, _), (0, _), (1, _)]) [0, 1, 3, 4] rfl ?_
          exact ih (iB I - (i + 1)) (by omega) (i + 1) rfl _ rfl (by omega)

set_option maxHeartbeats 4000000 in
set_option maxRecDepth 100000 in
theorem c_X3_openBags {S : St} {k : Nat} {I : Isl} {w : Nat → Nat} (hk : isPl k) (hI : IsX 11 I S) (hO : IOK I) (hP : PlT k I w S) (hw : WOK I w) {pl : Nat} (hpl : pl ≤ 4)  : C 0 0 yX3_openBags mX3_openBags [.ref k, .int (nI pl)] S (pu (.int (nI (obF I w pl (iB I)))) S) := by
  refine C.ofX (by decide) rfl (Nat.le_of_ble_eq_true rfl) ?_
  show X 0 0 mX3_openBags (pu (.int (nI (obF I w pl (iB I)))) S) 0 [(0, .ref k), (1, .int (nI pl))] [] S
  refine x_iconst (v := nI 0) dX3_openBags_0 (by decide) ?_
  refine x_istore_n (lv' := [(2, _), (0, _), (1, _)]) dX3_openBags_1 rfl (by decide) rfl ?_
  refine x_iconst (v := nI 0) dX3_openBags_2 (by decide) ?_
  refine x_istore_n (lv' := [(3, _), (2, _), (0, _), (1, _)]) dX3_openBags_3 rfl (by decide) rfl ?_
  refine x_pick (lv' := [(3, _), (2, _), (0, _), (1, _)]) [0, 1, 2, 3] rfl ?_
  exact lp_openBags hk hI hO hP hw hpl 0 S rfl (Nat.zero_le _)

noncomputable def tgF (I : Isl) (w : Nat → Nat) (L t : Nat) : Nat := mk (fun to => dec (mayF I w L t to)) 7
theorem tb_andn (a b i : Nat) : (a ^^^ (a &&& b)).testBit i = (a.testBit i && !b.testBit i) := by
  rw [Nat.testBit_xor, Nat.testBit_and]
  cases a.testBit i <;> cases b.testBit i <;> rfl
theorem tb_p (p i : Nat) : (1 * 2 ^ p).testBit i = decide (p = i) := by rw [Nat.one_mul, Nat.testBit_two_pow]
theorem oo_bit {f : Nat → Nat} : ∀ {n i : Nat}, (oo f n).testBit i = true ↔ ∃ b, b < n ∧ (f b).testBit i = true
  | 0, i => by simp [oo]
  | n + 1, i => by
    rw [oo_s, Nat.testBit_or, Bool.or_eq_true, oo_bit]
    constructor
    · rintro (⟨b, h1, h2⟩ | h)
      · exact ⟨b, by omega, h2⟩
      · exact ⟨n, by omega, h⟩
    · rintro ⟨b, h1, h2⟩
      by_cases hb : b = n
      · subst hb; exact Or.inr h2
      · exact Or.inl ⟨b, by omega, h2⟩
theorem obF_bit {I : Isl} {w : Nat → Nat} {pl n i : Nat} : (obF I w pl n).testBit i = true ↔ 5 ≤ i ∧ i - 5 < n ∧ w (iG I (i - 5)) = pl ∧ insF I w (i - 5) < rm (iK I (iG I (i - 5))) := by
  unfold obF
  rw [oo_bit]
  constructor
  · rintro ⟨b, h1, h2⟩
    split at h2
    next h =>
      rw [tb_p, decide_eq_true_eq] at h2
      subst h2
      rw [show 5 + b - 5 = b by omega]
      exact ⟨by omega, h1, h⟩
    next h => simp at h2
  · rintro ⟨h1, h2, h3⟩
    refine ⟨i - 5, h2, ?_⟩
    rw [if_pos h3, tb_p, decide_eq_true_eq]
    omega
theorem bt_ext {a b : Nat} (h : ∀ i, a.testBit i = true ↔ b.testBit i = true) : a = b := Nat.eq_of_testBit_eq fun i => Bool.eq_iff_iff.mpr (h i)
theorem tgF_bit {I : Isl} {w : Nat → Nat} {L t i : Nat} (hO : IOK I) : (tgF I w L t).testBit i = true ↔ mayF I w L t i := by
  unfold tgF
  rw [mk_bit, Bool.and_eq_true, decide_eq_true_eq, dec_iff]
  refine ⟨fun h => h.2, fun h => ⟨?_, h⟩⟩
  have h1 := h.1
  have := hO.1
  have := hO.2.2.2.1
  unfold plcF at h1
  omega
theorem tg_out {I : Isl} {w : Nat → Nat} {L t : Nat} (hO : IOK I) (hv : plcF I (whomF I w t)) (h5 : 5 ≤ w t) (h4 : whomF I w t ≤ 4) (hf : fitF I w L t (whomF I w t)) : 1 * 2 ^ whomF I w t = tgF I w L t := by
  refine bt_ext fun i => ?_
  rw [tb_p, decide_eq_true_eq, tgF_bit hO]
  unfold mayF
  rw [if_pos h5]
  constructor
  · rintro rfl
    exact ⟨hv, by omega, rfl, hf⟩
  · exact fun h => h.2.2.1.symm
theorem tg_no {I : Isl} {w : Nat → Nat} {L t : Nat} (hO : IOK I) (h5 : 5 ≤ w t) (hf : ¬ fitF I w L t (whomF I w t)) : 0 = tgF I w L t := by
  refine bt_ext fun i => ?_
  rw [tgF_bit hO, Nat.zero_testBit]
  unfold mayF
  rw [if_pos h5]
  constructor
  · intro h; cases h
  · rintro ⟨-, -, rfl, h⟩
    exact absurd h hf
noncomputable def prF (I : Isl) (w : Nat → Nat) (L t n : Nat) : Nat := mk (fun p => dec (fitF I w L t p)) n
theorem prF_s (I : Isl) (w : Nat → Nat) (L t n : Nat) : prF I w L t (n + 1) = prF I w L t n ||| (if dec (fitF I w L t n) then 2 ^ n else 0) := rfl
theorem prF_bit {I : Isl} {w : Nat → Nat} {L t n i : Nat} : (prF I w L t n).testBit i = true ↔ i < n ∧ fitF I w L t i := by
  unfold prF
  rw [mk_bit, Bool.and_eq_true, decide_eq_true_eq, dec_iff]
theorem prF_lt {I : Isl} {w : Nat → Nat} {L t n : Nat} (h : n ≤ 4) : prF I w L t n < 16 := Nat.lt_of_lt_of_le (mk_lt _ n) (Nat.pow_le_pow_right (by decide) h)
theorem tb16 (i : Nat) : (16 : Nat).testBit i = true ↔ i = 4 := by
  rw [show (16 : Nat) = 2 ^ 4 from rfl, Nat.testBit_two_pow, decide_eq_true_eq]
  omega
theorem tg_liv {I : Isl} {w : Nat → Nat} {L t : Nat} (hO : IOK I) (h5 : ¬ 5 ≤ w t) (hl : livK (iK I t)) : prF I w L t (iP I) ^^^ (prF I w L t (iP I) &&& 1 * 2 ^ w t) = tgF I w L t := by
  refine bt_ext fun i => ?_
  rw [tb_andn, tb_p, tgF_bit hO, Bool.and_eq_true, prF_bit, Bool.not_eq_true', decide_eq_false_iff_not]
  have := hO.1
  unfold mayF plcF
  rw [if_neg h5]
  constructor
  · rintro ⟨⟨h1, h2⟩, h3⟩
    exact ⟨Or.inl h1, fun q => h3 q.symm, by rw [if_neg (by omega), if_neg (by omega)]; exact h2⟩
  · rintro ⟨h1, h2, h3⟩
    by_cases i5 : 5 ≤ i
    · rw [if_pos i5] at h3; exact absurd hl h3.2.1
    · rw [if_neg i5] at h3
      by_cases i4 : i = 4
      · rw [if_pos i4] at h3; exact absurd hl h3
      · rw [if_neg i4] at h3
        exact ⟨⟨by omega, h3⟩, fun q => h2 q.symm⟩
theorem tg_gen {I : Isl} {w : Nat → Nat} {L t x : Nat} (hO : IOK I) (h5 : ¬ 5 ≤ w t) (hl : ¬ livK (iK I t)) (hx : ∀ i, x.testBit i = true ↔ (5 ≤ i ∧ i < 5 + iB I ∧ ¬ bagK (iK I t) ∧ w (iG I (i - 5)) = w t ∧ insF I w (i - 5) < rm (iK I (iG I (i - 5))))) : (prF I w L t (iP I) ||| 16 ||| x) ^^^ ((prF I w L t (iP I) ||| 16 ||| x) &&& 1 * 2 ^ w t) = tgF I w L t := by
  refine bt_ext fun i => ?_
  rw [tb_andn, tb_p, tgF_bit hO, Bool.and_eq_true, Nat.testBit_or, Nat.testBit_or, Bool.or_eq_true, Bool.or_eq_true, prF_bit, tb16, hx, Bool.not_eq_true', decide_eq_false_iff_not]
  have := hO.1
  unfold mayF plcF
  rw [if_neg h5]
  constructor
  · rintro ⟨(⟨h1, h2⟩ | h1) | ⟨h1, h2, h3, h4, h6⟩, h7⟩
    · exact ⟨Or.inl h1, fun q => h7 q.symm, by rw [if_neg (by omega), if_neg (by omega)]; exact h2⟩
    · exact ⟨Or.inr (by omega), fun q => h7 q.symm, by rw [if_neg (by omega), if_pos h1]; exact hl⟩
    · exact ⟨Or.inr (by omega), fun q => h7 q.symm, by rw [if_pos h1]; exact ⟨h3, hl, h4, h6⟩⟩
  · rintro ⟨h1, h2, h3⟩
    refine ⟨?_, fun q => h2 q.symm⟩
    by_cases i5 : 5 ≤ i
    · rw [if_pos i5] at h3
      exact Or.inr ⟨i5, by omega, h3.1, h3.2.2.1, h3.2.2.2⟩
    · rw [if_neg i5] at h3
      by_cases i4 : i = 4
      · exact Or.inl (Or.inr i4)
      · rw [if_neg i4] at h3
        exact Or.inl (Or.inl ⟨by omega, h3⟩)
theorem tg_bag {I : Isl} {w : Nat → Nat} {L t : Nat} (hO : IOK I) (h5 : ¬ 5 ≤ w t) (hl : ¬ livK (iK I t)) (hb : bagK (iK I t)) : (prF I w L t (iP I) ||| 16) ^^^ ((prF I w L t (iP I) ||| 16) &&& 1 * 2 ^ w t) = tgF I w L t := by
  have := tg_gen (x := 0) (L := L) hO h5 hl (fun i => by rw [Nat.zero_testBit]; exact ⟨fun h => (by cases h), fun h => absurd hb h.2.2.1⟩)
  rwa [Nat.or_zero] at this
theorem tg_else {I : Isl} {w : Nat → Nat} {L t : Nat} (hO : IOK I) (h5 : ¬ 5 ≤ w t) (hl : ¬ livK (iK I t)) (hb : ¬ bagK (iK I t)) : (prF I w L t (iP I) ||| 16 ||| obF I w (w t) (iB I)) ^^^ ((prF I w L t (iP I) ||| 16 ||| obF I w (w t) (iB I)) &&& 1 * 2 ^ w t) = tgF I w L t :=
  tg_gen hO h5 hl (fun i => by rw [obF_bit]; exact ⟨fun h => ⟨h.1, by omega, hb, h.2.2⟩, fun h => ⟨h.1, by omega, h.2.2.2⟩⟩)
theorem tgF_lt (I : Isl) (w : Nat → Nat) (L t : Nat) : tgF I w L t < 128 := mk_lt _ 7
theorem or_lt {a b e : Nat} (ha : a < 2 ^ e) (hb : b < 2 ^ e) : a ||| b < 2 ^ e := Nat.or_lt_two_pow ha hb

set_option maxHeartbeats 4000000 in
set_option maxRecDepth 100000 in
theorem lp_targets {S : St} {k : Nat} {I : Isl} {w : Nat → Nat} (hk : isPl k) (hI : IsX 11 I S) (hO : IOK I) (hP : PlT k I w S) {L : Nat} (hL : S.1 k 5 = nI L) (hL7 : L ≤ 10) (hw : WOK I w) (hv : ∀ t, t < iM I → plcF I (whomF I w t)) {t : Nat} (ht : t < iM I) (h5 : ¬ 5 ≤ w t) : ∀ (i : Nat) (S1 : St), S1 = S → i ≤ iP I → X 2 60 mX3_targets (pu (.int (nI (tgF I w L t))) S) 40 [(4, .int (nI i)), (3, .int (nI ((prF I w L t i)))), (2, .int (nI ((w t)))), (0, .ref k), (1, .int (nI t))] [] S1 := by
  intro i
  induction hm : iP I - i using Nat.strongRecOn generalizing i with
  | _ mm ih =>
    intro S1 hS1 hi
    replace hS1 := hS1.symm
    subst hS1
    have hO1 := hO.1
    have hO2 := hO.2.1
    have hO3 := hO.2.2.1
    have hO4 := hO.2.2.2.1
    have hp16 := @prF_lt I w L t i (by omega)
    have hob := @obF_lt I w (w t) (iB I) (by omega)
    have h32 : prF I w L t i ||| 16 < 2 ^ 7 := or_lt (by omega) (by decide)
    have h33 : (prF I w L t i ||| 16) ||| obF I w (w t) (iB I) < 2 ^ 7 := or_lt h32 (by omega)
    have hpw : 1 * 2 ^ w t ≤ 2 ^ 4 := by rw [Nat.one_mul]; exact Nat.pow_le_pow_right (by decide) (by omega)
    refine x_iload 0 dX3_targets_40 rfl ?_
    refine x_aload_n 3 dX3_targets_42 rfl rfl ?_
    refine x_getR fX3_28 dX3_targets_43 hk.l0 rfl ?_
    refine y_getI fX3_75 dX3_targets_46 l11 rfl hI.1 ?_
    refine y_ic_ge 75 dX3_targets_49 (by decide) (by omega) (by omega) (fun c_49 => ?_) (fun c_49 => ?_)
    · refine x_aload_n 3 dX3_targets_75 rfl rfl ?_
      refine x_getR fX3_28 dX3_targets_76 hk.l0 rfl ?_
      refine x_iload_n 4 dX3_targets_79 rfl rfl ?_
      refine x_callVb (as := [_]) (rest := []) vX3_87 (c_X1_isLiving hI hO ht) dX3_targets_80 l11 rfl rfl rfl (Nat.le_of_ble_eq_true rfl) (Nat.le_of_ble_eq_true rfl) (Nat.le_of_ble_eq_true rfl) (fun c_80 => ?_) (fun c_80 => ?_)
      · refine u_if_eq 94 dX3_targets_83 (by decide) (by decide) ?_
        refine x_iload_n 1 dX3_targets_86 rfl rfl ?_
        refine x_iconst (v := nI 1) dX3_targets_87 (by decide) ?_
        refine x_iload_n 2 dX3_targets_88 rfl rfl ?_
        refine y_ishl dX3_targets_89 (by omega) ?_
        refine y_andn dX3_targets_90 dX3_targets_91 dX3_targets_92 (by omega) (by omega) ?_
        refine x_iret rfl dX3_targets_93 (by obtain rfl : i = iP I := (by omega); exact ⟨by rw [tg_liv hO h5 c_80], rfl⟩)
      · refine t_if_eq 94 dX3_targets_83 (by decide) (by decide) ?_
        refine x_iload_n 1 dX3_targets_94 rfl rfl ?_
        refine x_bipush (v := nI 16) dX3_targets_95 (by decide) ?_
        refine y_ior dX3_targets_97 ?_
        refine x_istore_n (lv' := [(3, _), (4, _), (2, _), (0, _), (1, _)]) dX3_targets_98 rfl (by decide) rfl ?_
        refine x_aload_n 3 dX3_targets_99 rfl rfl ?_
        refine x_getR fX3_28 dX3_targets_100 hk.l0 rfl ?_
        refine x_iload_n 4 dX3_targets_103 rfl rfl ?_
        refine x_callVb (as := [_]) (rest := []) vX3_91 (c_X1_isBag (Or.inl rfl) hI hO ht) dX3_targets_104 l11 rfl rfl rfl (Nat.le_of_ble_eq_true rfl) (Nat.le_of_ble_eq_true rfl) (Nat.le_of_ble_eq_true rfl) (fun c_104 => ?_) (fun c_104 => ?_)
        · refine t_if_ne 118 dX3_targets_107 (by decide) (by decide) ?_
          refine x_iload_n 0 dX3_targets_118 rfl rfl ?_
          refine x_iconst (v := nI 1) dX3_targets_119 (by decide) ?_
          refine x_iload_n 2 dX3_targets_120 rfl rfl ?_
          refine y_ishl dX3_targets_121 (by omega) ?_
          refine y_andn dX3_targets_122 dX3_targets_123 dX3_targets_124 (by omega) (by omega) ?_
          refine x_iret rfl dX3_targets_125 (by obtain rfl : i = iP I := (by omega); exact ⟨by first | rw [tg_bag hO h5 c_80 c_104] | rw [tg_else hO h5 c_80 c_104], rfl⟩)
        · refine u_if_ne 118 dX3_targets_107 (by decide) (by decide) ?_
          refine x_iload_n 0 dX3_targets_110 rfl rfl ?_
          refine x_aload_n 3 dX3_targets_111 rfl rfl ?_
          refine x_iload_n 2 dX3_targets_112 rfl rfl ?_
          refine x_callVu (as := [_]) (rest := [_]) vX3_94 (c_X3_openBags hk hI hO hP hw (by omega)) dX3_targets_113 hk.l0 rfl rfl rfl (Nat.le_of_ble_eq_true rfl) (Nat.le_of_ble_eq_true rfl) (Nat.le_of_ble_eq_true rfl) ?_
          refine y_ior dX3_targets_116 ?_
          refine x_istore_n (lv' := [(3, _), (4, _), (2, _), (0, _), (1, _)]) dX3_targets_117 rfl (by decide) rfl ?_
          refine x_iload_n 0 dX3_targets_118 rfl rfl ?_
          refine x_iconst (v := nI 1) dX3_targets_119 (by decide) ?_
          refine x_iload_n 2 dX3_targets_120 rfl rfl ?_
          refine y_ishl dX3_targets_121 (by omega) ?_
          refine y_andn dX3_targets_122 dX3_targets_123 dX3_targets_124 (by omega) (by omega) ?_
          refine x_iret rfl dX3_targets_125 (by obtain rfl : i = iP I := (by omega); exact ⟨by first | rw [tg_bag hO h5 c_80 c_104] | rw [tg_else hO h5 c_80 c_104], rfl⟩)
    · refine x_aload_n 3 dX3_targets_52 rfl rfl ?_
      refine x_iload_n 4 dX3_targets_53 rfl rfl ?_
      refine x_iload 0 dX3_targets_54 rfl ?_
      refine x_callVb (as := [_, _]) (rest := []) vX3_84 (c_X3_fits hk hI hO hP hL hL7 ht (by omega)) dX3_targets_56 hk.l0 rfl rfl rfl (Nat.le_of_ble_eq_true rfl) (Nat.le_of_ble_eq_true rfl) (Nat.le_of_ble_eq_true rfl) (fun c_56 => ?_) (fun c_56 => ?_)
      · refine u_if_eq 69 dX3_targets_59 (by decide) (by decide) ?_
        refine x_iload_n 1 dX3_targets_62 rfl rfl ?_
        refine x_iconst (v := nI 1) dX3_targets_63 (by decide) ?_
        refine x_iload 0 dX3_targets_64 rfl ?_
        refine y_ishl dX3_targets_66 (by omega) ?_
        refine y_ior dX3_targets_67 ?_
        refine x_istore_n (lv' := [(3, _), (4, _), (2, _), (0, _), (1, _)]) dX3_targets_68 rfl (by decide) rfl ?_
        rw [show ((prF I w L t i) ||| (1 * 2 ^ i)) = (prF I w L t (i + 1)) from by rw [prF_s]; first | rw [dec_t c_56, if_pos rfl, Nat.one_mul] | rw [dec_f c_56, if_neg (by decide), Nat.or_zero]]
        refine y_iinc (lv' := [(4, _), (3, _), (2, _), (0, _), (1, _)]) 1 dX3_targets_69 rfl (by decide) rfl ?_
        refine x_goto 40 dX3_targets_72 (by decide) ?_
        refine x_pick (lv' := [(4, _), (3, _), (2, _), (0, _), (1, _)]) [0, 1, 2, 3, 4] rfl ?_
        exact ih (iP I - (i + 1)) (by omega) (i + 1) rfl _ rfl (by omega)
      · refine t_if_eq 69 dX3_targets_59 (by decide) (by decide) ?_
        rw [show (prF I w L t i) = (prF I w L t (i + 1)) from by rw [prF_s]; first | rw [dec_t c_56, if_pos rfl, Nat.one_mul] | rw [dec_f c_56, if_neg (by decide), Nat.or_zero]]
        refine y_iinc (lv' := [(4, _), (3, _), (2, _), (0, _), (1, _)]) 0 dX3_targets_69 rfl (by decide) rfl ?_
        refine x_goto 40 dX3_targets_72 (by decide) ?_
        refine x_pick (lv' := [(4, _), (3, _), (2, _), (0, _), (1, _)]) [0, 1, 2, 3, 4] rfl ?_
        exact ih (iP I - (i + 1)) (by omega) (i + 1) rfl _ rfl (by omega)

set_option maxHeartbeats 4000000 in
set_option maxRecDepth 100000 in
theorem c_X3_targets {S : St} {k : Nat} {I : Isl} {w : Nat → Nat} (hk : isPl k) (hI : IsX 11 I S) (hO : IOK I) (hP : PlT k I w S) {L : Nat} (hL : S.1 k 5 = nI L) (hL7 : L ≤ 10) (hw : WOK I w) (hv : ∀ t, t < iM I → plcF I (whomF I w t)) {t : Nat} (ht : t < iM I)  : C 2 60 yX3_targets mX3_targets [.ref k, .int (nI t)] S (pu (.int (nI (tgF I w L t))) S) := by
  have hO1 := hO.1
  have hO2 := hO.2.1
  have hO3 := hO.2.2.1
  have hO4 := hO.2.2.2.1
  have hwt := hw.1 t ht
  have hwh := whomF_le hw ht
  refine C.ofX (by decide) rfl (Nat.le_of_ble_eq_true rfl) ?_
  show X 2 60 mX3_targets (pu (.int (nI (tgF I w L t))) S) 0 [(0, .ref k), (1, .int (nI t))] [] S
  refine x_aload_n 0 dX3_targets_0 rfl rfl ?_
  refine x_getR fX3_9 dX3_targets_1 hk.l0 rfl ?_
  refine x_iload_n 1 dX3_targets_4 rfl rfl ?_
  refine y_iald dX3_targets_5 hk.l1 (by omega) (by decide) (hP.1 t ht) ?_
  refine x_istore_n (lv' := [(2, _), (0, _), (1, _)]) dX3_targets_6 rfl (by decide) rfl ?_
  refine x_iload_n 0 dX3_targets_7 rfl rfl ?_
  refine x_iconst (v := nI 5) dX3_targets_8 (by decide) ?_
  refine y_ic_lt 35 dX3_targets_9 (by decide) (by omega) (by omega) (fun c_9 => ?_) (fun c_9 => ?_)
  · refine x_iconst (v := nI 0) dX3_targets_35 (by decide) ?_
    refine x_istore_n (lv' := [(3, _), (2, _), (0, _), (1, _)]) dX3_targets_36 rfl (by decide) rfl ?_
    refine x_iconst (v := nI 0) dX3_targets_37 (by decide) ?_
    refine x_istore (lv' := [(4, _), (3, _), (2, _), (0, _), (1, _)]) dX3_targets_38 (by decide) rfl ?_
    refine x_pick (lv' := [(4, _), (3, _), (2, _), (0, _), (1, _)]) [0, 1, 2, 3, 4] rfl ?_
    exact lp_targets hk hI hO hP hL hL7 hw hv ht (by omega) 0 S rfl (Nat.zero_le _)
  · refine x_aload_n 1 dX3_targets_12 rfl rfl ?_
    refine x_iload_n 2 dX3_targets_13 rfl rfl ?_
    refine x_callVu (as := [_]) (rest := []) vX3_65 (c_X3_whom hk hI hO hP.1 hw ht) dX3_targets_14 hk.l0 rfl rfl rfl (Nat.le_of_ble_eq_true rfl) (Nat.le_of_ble_eq_true rfl) (Nat.le_of_ble_eq_true rfl) ?_
    refine x_istore_n (lv' := [(3, _), (2, _), (0, _), (1, _)]) dX3_targets_17 rfl (by decide) rfl ?_
    refine x_aload_n 2 dX3_targets_18 rfl rfl ?_
    refine x_iload_n 3 dX3_targets_19 rfl rfl ?_
    refine x_iload_n 0 dX3_targets_20 rfl rfl ?_
    refine x_callVb (as := [_, _]) (rest := []) vX3_84 (c_X3_fits hk hI hO hP hL hL7 ht (by omega)) dX3_targets_21 hk.l0 rfl rfl rfl (Nat.le_of_ble_eq_true rfl) (Nat.le_of_ble_eq_true rfl) (Nat.le_of_ble_eq_true rfl) (fun c_21 => ?_) (fun c_21 => ?_)
    · refine u_if_eq 33 dX3_targets_24 (by decide) (by decide) ?_
      refine x_iconst (v := nI 1) dX3_targets_27 (by decide) ?_
      refine x_iload_n 0 dX3_targets_28 rfl rfl ?_
      refine y_ishl dX3_targets_29 (by omega) ?_
      refine x_goto 34 dX3_targets_30 (by decide) ?_
      refine x_iret rfl dX3_targets_34 ⟨by first | rw [tg_out hO (hv t ht) (by omega) hwh c_21] | rw [← tg_no hO (by omega) c_21], rfl⟩
    · refine t_if_eq 33 dX3_targets_24 (by decide) (by decide) ?_
      refine x_iconst (v := nI 0) dX3_targets_33 (by decide) ?_
      refine x_iret rfl dX3_targets_34 ⟨by first | rw [tg_out hO (hv t ht) (by omega) hwh c_21] | rw [← tg_no hO (by omega) c_21], rfl⟩

set_option maxHeartbeats 4000000 in
set_option maxRecDepth 100000 in
theorem c_X3_allows {S : St} {k : Nat} {I : Isl} {w : Nat → Nat} (hk : isPl k) (hI : IsX 11 I S) (hO : IOK I) (hP : PlT k I w S) {L : Nat} (hL : S.1 k 5 = nI L) (hL7 : L ≤ 10) (hw : WOK I w) (hv : ∀ t, t < iM I → plcF I (whomF I w t)) {t : Nat} (ht : t < iM I) {to : Nat} (hto : to < 7) : C 3 90 yX3_allows mX3_allows [.ref k, .int (nI t), .int (nI to)] S (pb (mayF I w L t to) S) := by
  have h128 := tgF_lt I w L t
  have hbit := @tgF_bit I w L t to hO
  rw [Nat.testBit_eq_decide_div_mod_eq, decide_eq_true_eq] at hbit
  refine C.ofX (by decide) rfl (Nat.le_of_ble_eq_true rfl) ?_
  show X 3 90 mX3_allows (pb (mayF I w L t to) S) 0 [(0, .ref k), (1, .int (nI t)), (2, .int (nI to))] [] S
  refine x_aload_n 0 dX3_allows_0 rfl rfl ?_
  refine x_getR fX3_28 dX3_allows_1 hk.l0 rfl ?_
  refine x_iload_n 1 dX3_allows_4 rfl rfl ?_
  refine x_iload_n 2 dX3_allows_5 rfl rfl ?_
  refine x_callVb (as := [_, _]) (rest := []) vX3_52 (c_X1_isStep hI hO) dX3_allows_6 l11 rfl rfl rfl (Nat.le_of_ble_eq_true rfl) (Nat.le_of_ble_eq_true rfl) (Nat.le_of_ble_eq_true rfl) (fun c_6 => ?_) (fun c_6 => ?_)
  · refine u_if_eq 28 dX3_allows_9 (by decide) (by decide) ?_
    refine x_aload_n 0 dX3_allows_12 rfl rfl ?_
    refine x_iload_n 1 dX3_allows_13 rfl rfl ?_
    refine x_callVu (as := [_]) (rest := []) vX3_100 (c_X3_targets hk hI hO hP hL hL7 hw hv ht) dX3_allows_14 hk.l0 rfl rfl rfl (Nat.le_of_ble_eq_true rfl) (Nat.le_of_ble_eq_true rfl) (Nat.le_of_ble_eq_true rfl) ?_
    refine x_iload_n 2 dX3_allows_17 rfl rfl ?_
    refine y_ishr dX3_allows_18 (by omega) (by omega) ?_
    refine x_iconst (v := nI 1) dX3_allows_19 (by decide) ?_
    refine y_iand dX3_allows_20 ?_
    rw [show (((tgF I w L t) / 2 ^ to) &&& 1) = (tgF I w L t / 2 ^ to % 2) from by rw [Nat.and_one_is_mod]]
    refine y_if_eq 28 dX3_allows_21 (by decide) (by omega) (fun c_21 => ?_) (fun c_21 => ?_)
    · refine x_iconst (v := nI 0) dX3_allows_28 (by decide) ?_
      refine x_zret rfl dX3_allows_29 (by decide) ⟨Or.inr ⟨rfl, by first | exact fun h => c_6 ⟨by rw [tiN (by have := hO.2.1; omega)]; omega, (plcI_n (by omega)).mpr h.1⟩ | exact fun h => absurd (hbit.mpr h) (by omega)⟩, rfl⟩
    · refine x_iconst (v := nI 1) dX3_allows_24 (by decide) ?_
      refine x_goto 29 dX3_allows_25 (by decide) ?_
      refine x_zret rfl dX3_allows_29 (by decide) ⟨Or.inl ⟨rfl, by exact hbit.mp (by omega)⟩, rfl⟩
  · refine t_if_eq 28 dX3_allows_9 (by decide) (by decide) ?_
    refine x_iconst (v := nI 0) dX3_allows_28 (by decide) ?_
    refine x_zret rfl dX3_allows_29 (by decide) ⟨Or.inr ⟨rfl, by first | exact fun h => c_6 ⟨by rw [tiN (by have := hO.2.1; omega)]; omega, (plcI_n (by omega)).mpr h.1⟩ | exact fun h => absurd (hbit.mpr h) (by omega)⟩, rfl⟩

