/-! ===== digest ===== -/
def dgT (I : Isl) (w : Nat → Nat) (i : Nat) : Int64 := (nI (thA I w (i / 4) (i % 4))).toInt64
def dgV (I : Isl) (i : Nat) : Int64 := (nI (iV I (i / 4) (i % 4))).toInt64
theorem fl_s (f : Nat → Int64) (h : Int64) (n : Nat) : fl f h (n + 1) = 31 * fl f h n + f n := rfl
theorem flT {I : Isl} {w : Nat → Nat} {h : Int64} {t j : Nat} (hj : j < 4) : 31 * fl (dgT I w) h (4 * t + j) + (nI (thA I w t j)).toInt64 = fl (dgT I w) h (4 * t + (j + 1)) := by
  rw [← Nat.add_assoc, fl_s]
  unfold dgT
  rw [show (4 * t + j) / 4 = t by omega, show (4 * t + j) % 4 = j by omega]
theorem flV {I : Isl} {h : Int64} {t j : Nat} (hj : j < 4) : 31 * fl (dgV I) h (4 * t + j) + (nI (iV I t j)).toInt64 = fl (dgV I) h (4 * t + (j + 1)) := by
  rw [← Nat.add_assoc, fl_s]
  unfold dgV
  rw [show (4 * t + j) / 4 = t by omega, show (4 * t + j) % 4 = j by omega]
def dgS (sw si : Nat → Nat) (h : Int64) : Nat → Int64
  | 0 => h
  | i + 1 => 31 * (31 * dgS sw si h i + (nI (sw i)).toInt64) + (nI (si i)).toInt64
def dgK (kc kl : Nat → Nat) (m : Nat) (h : Int64) : Nat → Int64
  | 0 => h
  | k + 1 => if kl k = 0 then 31 * dgK kc kl m h k - 1 else 31 * fl (fun t => (nI (digF (kc k) t)).toInt64) (dgK kc kl m h k) m + (nI (kl k)).toInt64
theorem dgK_0 {kc kl : Nat → Nat} {m : Nat} {h : Int64} {k : Nat} (h0 : kl k = 0) : dgK kc kl m h (k + 1) = 31 * dgK kc kl m h k - 1 := if_pos h0
theorem dgK_1 {kc kl : Nat → Nat} {m : Nat} {h : Int64} {k : Nat} (h0 : ¬ kl k = 0) : dgK kc kl m h (k + 1) = 31 * fl (fun t => (nI (digF (kc k) t)).toInt64) (dgK kc kl m h k) m + (nI (kl k)).toInt64 := if_neg h0
theorem mixA_congr {S S1 : St} {k ρ : Nat} {h : Int64} (e1 : ∀ b, S1.1 (k + 1) b = S.1 (k + 1) b) (e2 : ∀ b, S1.1 (k + 2) b = S.1 (k + 2) b) : ∀ n, mixA S1 k ρ h n = mixA S k ρ h n
  | 0 => rfl
  | n + 1 => by
    have ih := mixA_congr e1 e2 (ρ := ρ) (h := h) n
    unfold mixA mixR
    rw [ih, e1 n]
    congr 1
    funext i
    rw [e2]

set_option maxHeartbeats 4000000 in
set_option maxRecDepth 100000 in
theorem lp_miV1 {S : St} {I : Isl} (hI : IsX 11 I S) (hO : IOK I) {w : Nat → Nat} (hP : PlT 35 I w S) {g : Int64} {t : Nat} (ht : t < iW I) {Q : Option Value → St → Prop} (kk : X 2 60 mX10_mixIsland Q 51 [(3, .int (nI (t + 1))), (0, .ref 0), (1, .long (fl (dgV I) g (4 * t + 4)))] [] S)  : ∀ (j : Nat), (j ≤ 4) → X 2 60 mX10_mixIsland (Q) 65 [(4, .int (nI j)), (3, .int (nI t)), (0, .ref 0), (1, .long (fl (dgV I) g (4 * t + j)))] [] S := by
  intro j
  induction hm : 4 - j using Nat.strongRecOn generalizing j with
  | _ mm ih =>
    intro hj
    have hO1 := hO.1
    have hO2 := hO.2.1
    have hO3 := hO.2.2.1
    have hO4 := hO.2.2.2.1
    refine x_iload 0 dX10_mixIsland_65 rfl ?_
    refine x_iconst (v := nI 4) dX10_mixIsland_67 (by decide) ?_
    refine y_ic_ge 95 dX10_mixIsland_68 (by decide) (by omega) (by omega) (fun c_68 => ?_) (fun c_68 => ?_)
    · refine y_iinc (lv' := [(3, _), (4, _), (0, _), (1, _)]) 1 dX10_mixIsland_95 rfl (by decide) rfl ?_
      refine x_goto 51 dX10_mixIsland_98 (by decide) ?_
      refine x_pick (lv' := [(3, _), (0, _), (1, _)]) [0, 2, 3] rfl ?_
      obtain rfl : j = 4 := (by omega)
      exact kk
    · refine x_ldc2 kX10_402 dX10_mixIsland_71 ?_
      refine x_lload_n 3 dX10_mixIsland_74 rfl rfl ?_
      refine x_lmul dX10_mixIsland_75 ?_
      refine x_aload_n 2 dX10_mixIsland_76 rfl rfl ?_
      refine x_getR fX10_40 dX10_mixIsland_77 l0 rfl ?_
      refine x_iload_n 1 dX10_mixIsland_80 rfl rfl ?_
      refine x_iload 0 dX10_mixIsland_81 rfl ?_
      refine x_callVu (as := [_, _]) (rest := [_]) vX10_221 (c_X1_ofWork hI hO ht (by omega)) dX10_mixIsland_83 l11 rfl rfl rfl (Nat.le_of_ble_eq_true rfl) (Nat.le_of_ble_eq_true rfl) (Nat.le_of_ble_eq_true rfl) ?_
      refine x_i2l dX10_mixIsland_86 ?_
      refine x_ladd dX10_mixIsland_87 ?_
      refine x_lstore_n (lv' := [(1, _), (4, _), (3, _), (0, _)]) dX10_mixIsland_88 rfl (by decide) rfl ?_
      refine y_iinc (lv' := [(4, _), (1, _), (3, _), (0, _)]) 1 dX10_mixIsland_89 rfl (by decide) rfl ?_
      refine x_goto 65 dX10_mixIsland_92 (by decide) ?_
      refine x_pick (lv' := [(4, _), (3, _), (0, _), (1, _)]) [0, 2, 3, 1] rfl ?_
      rw [flV (by omega)]
      exact ih (4 - (j + 1)) (by omega) (j + 1) rfl (by omega)

set_option maxHeartbeats 4000000 in
set_option maxRecDepth 100000 in
theorem lp_miV2 {S : St} {I : Isl} (hI : IsX 11 I S) (hO : IOK I) {w : Nat → Nat} (hP : PlT 35 I w S) {g : Int64}  : ∀ (t : Nat), (t ≤ iW I) → X 2 60 mX10_mixIsland (pu (.long (fl (dgV I) g (4 * iW I))) S) 51 [(3, .int (nI t)), (0, .ref 0), (1, .long (fl (dgV I) g (4 * t)))] [] S := by
  intro t
  induction hm : iW I - t using Nat.strongRecOn generalizing t with
  | _ mm ih =>
    intro ht
    have hO1 := hO.1
    have hO2 := hO.2.1
    have hO3 := hO.2.2.1
    have hO4 := hO.2.2.2.1
    refine x_iload_n 0 dX10_mixIsland_51 rfl rfl ?_
    refine x_aload_n 1 dX10_mixIsland_52 rfl rfl ?_
    refine x_getR fX10_40 dX10_mixIsland_53 l0 rfl ?_
    refine y_getI fX10_386 dX10_mixIsland_56 l11 rfl hI.2.2.1 ?_
    refine y_ic_ge 101 dX10_mixIsland_59 (by decide) (by omega) (by omega) (fun c_59 => ?_) (fun c_59 => ?_)
    · refine x_lload_n 2 dX10_mixIsland_101 rfl rfl ?_
      refine x_lret rfl dX10_mixIsland_102 (by obtain rfl : t = iW I := (by omega); exact ⟨rfl, rfl⟩)
    · refine x_iconst (v := nI 0) dX10_mixIsland_62 (by decide) ?_
      refine x_istore (lv' := [(4, _), (3, _), (0, _), (1, _)]) dX10_mixIsland_63 (by decide) rfl ?_
      refine x_pick (lv' := [(4, _), (3, _), (0, _), (1, _)]) [0, 1, 2, 3] rfl ?_
      exact lp_miV1 hI hO hP (by omega) (ih (iW I - (t + 1)) (by omega) (t + 1) rfl (by omega)) 0 (Nat.zero_le _)

set_option maxHeartbeats 4000000 in
set_option maxRecDepth 100000 in
theorem lp_miT1 {S : St} {I : Isl} (hI : IsX 11 I S) (hO : IOK I) {w : Nat → Nat} (hP : PlT 35 I w S) (hw : WOK I w) {h : Int64} {t : Nat} (ht : t < iM I) {Q : Option Value → St → Prop} (kk : X 2 60 mX10_mixIsland Q 2 [(3, .int (nI (t + 1))), (0, .ref 0), (1, .long (fl (dgT I w) h (4 * t + 4)))] [] S)  : ∀ (j : Nat), (j ≤ 4) → X 2 60 mX10_mixIsland (Q) 16 [(4, .int (nI j)), (3, .int (nI t)), (0, .ref 0), (1, .long (fl (dgT I w) h (4 * t + j)))] [] S := by
  intro j
  induction hm : 4 - j using Nat.strongRecOn generalizing j with
  | _ mm ih =>
    intro hj
    have hO1 := hO.1
    have hO2 := hO.2.1
    have hO3 := hO.2.2.1
    have hO4 := hO.2.2.2.1
    refine x_iload 0 dX10_mixIsland_16 rfl ?_
    refine x_iconst (v := nI 4) dX10_mixIsland_18 (by decide) ?_
    refine y_ic_ge 43 dX10_mixIsland_19 (by decide) (by omega) (by omega) (fun c_19 => ?_) (fun c_19 => ?_)
    · refine y_iinc (lv' := [(3, _), (4, _), (0, _), (1, _)]) 1 dX10_mixIsland_43 rfl (by decide) rfl ?_
      refine x_goto 2 dX10_mixIsland_46 (by decide) ?_
      refine x_pick (lv' := [(3, _), (0, _), (1, _)]) [0, 2, 3] rfl ?_
      obtain rfl : j = 4 := (by omega)
      exact kk
    · refine x_ldc2 kX10_402 dX10_mixIsland_22 ?_
      refine x_lload_n 3 dX10_mixIsland_25 rfl rfl ?_
      refine x_lmul dX10_mixIsland_26 ?_
      refine x_aload_n 2 dX10_mixIsland_27 rfl rfl ?_
      refine x_iload_n 1 dX10_mixIsland_28 rfl rfl ?_
      refine x_iload 0 dX10_mixIsland_29 rfl ?_
      refine x_callVu (as := [_, _]) (rest := [_]) vX10_179 (c_X10_ofThing hI hO hP hw ht (by omega)) dX10_mixIsland_31 l0 rfl rfl rfl (Nat.le_of_ble_eq_true rfl) (Nat.le_of_ble_eq_true rfl) (Nat.le_of_ble_eq_true rfl) ?_
      refine x_i2l dX10_mixIsland_34 ?_
      refine x_ladd dX10_mixIsland_35 ?_
      refine x_lstore_n (lv' := [(1, _), (4, _), (3, _), (0, _)]) dX10_mixIsland_36 rfl (by decide) rfl ?_
      refine y_iinc (lv' := [(4, _), (1, _), (3, _), (0, _)]) 1 dX10_mixIsland_37 rfl (by decide) rfl ?_
      refine x_goto 16 dX10_mixIsland_40 (by decide) ?_
      refine x_pick (lv' := [(4, _), (3, _), (0, _), (1, _)]) [0, 2, 3, 1] rfl ?_
      rw [flT (by omega)]
      exact ih (4 - (j + 1)) (by omega) (j + 1) rfl (by omega)

set_option maxHeartbeats 4000000 in
set_option maxRecDepth 100000 in
theorem lp_miT2 {S : St} {I : Isl} (hI : IsX 11 I S) (hO : IOK I) {w : Nat → Nat} (hP : PlT 35 I w S) (hw : WOK I w) {h : Int64}  : ∀ (t : Nat), (t ≤ iM I) → X 2 60 mX10_mixIsland (pu (.long (fl (dgV I) (fl (dgT I w) h (4 * iM I)) (4 * iW I))) S) 2 [(3, .int (nI t)), (0, .ref 0), (1, .long (fl (dgT I w) h (4 * t)))] [] S := by
  intro t
  induction hm : iM I - t using Nat.strongRecOn generalizing t with
  | _ mm ih =>
    intro ht
    have hO1 := hO.1
    have hO2 := hO.2.1
    have hO3 := hO.2.2.1
    have hO4 := hO.2.2.2.1
    refine x_iload_n 0 dX10_mixIsland_2 rfl rfl ?_
    refine x_aload_n 1 dX10_mixIsland_3 rfl rfl ?_
    refine x_getR fX10_40 dX10_mixIsland_4 l0 rfl ?_
    refine y_getI fX10_173 dX10_mixIsland_7 l11 rfl hI.2.1 ?_
    refine y_ic_ge 49 dX10_mixIsland_10 (by decide) (by omega) (by omega) (fun c_10 => ?_) (fun c_10 => ?_)
    · refine x_iconst (v := nI 0) dX10_mixIsland_49 (by decide) ?_
      refine x_istore_n (lv' := [(3, _), (0, _), (1, _)]) dX10_mixIsland_50 rfl (by decide) rfl ?_
      refine x_pick (lv' := [(3, _), (0, _), (1, _)]) [0, 1, 2] rfl ?_
      obtain rfl : t = iM I := (by omega)
      exact lp_miV2 hI hO hP 0 (Nat.zero_le _)
    · refine x_iconst (v := nI 0) dX10_mixIsland_13 (by decide) ?_
      refine x_istore (lv' := [(4, _), (3, _), (0, _), (1, _)]) dX10_mixIsland_14 (by decide) rfl ?_
      refine x_pick (lv' := [(4, _), (3, _), (0, _), (1, _)]) [0, 1, 2, 3] rfl ?_
      exact lp_miT1 hI hO hP hw (by omega) (ih (iM I - (t + 1)) (by omega) (t + 1) rfl (by omega)) 0 (Nat.zero_le _)

set_option maxHeartbeats 4000000 in
set_option maxRecDepth 100000 in
theorem c_X10_mixIsland {S : St} {I : Isl} (hI : IsX 11 I S) (hO : IOK I) {w : Nat → Nat} (hP : PlT 35 I w S) (hw : WOK I w) {h : Int64}  : C 2 60 yX10_mixIsland mX10_mixIsland [.ref 0, .long h] S (pu (.long (fl (dgV I) (fl (dgT I w) h (4 * iM I)) (4 * iW I))) S) := by
  refine C.ofX (by decide) rfl (Nat.le_of_ble_eq_true rfl) ?_
  show X 2 60 mX10_mixIsland (pu (.long (fl (dgV I) (fl (dgT I w) h (4 * iM I)) (4 * iW I))) S) 0 [(0, .ref 0), (1, .long h)] [] S
  refine x_iconst (v := nI 0) dX10_mixIsland_0 (by decide) ?_
  refine x_istore_n (lv' := [(3, _), (0, _), (1, _)]) dX10_mixIsland_1 rfl (by decide) rfl ?_
  refine x_pick (lv' := [(3, _), (0, _), (1, _)]) [0, 1, 2] rfl ?_
  exact lp_miT2 hI hO hP hw 0 (Nat.zero_le _)

set_option maxHeartbeats 4000000 in
set_option maxRecDepth 100000 in
theorem lp_miS {S : St} {I : Isl} (hI : IsX 11 I S) (hO : IOK I) {c : Nat} (hc : c ≤ 8) {sw si : Nat → Nat} (hs : ∀ i, i < c → S.1 64 i = nI (sw i) ∧ S.1 65 i = nI (si i) ∧ sw i < iW I ∧ si i ≤ 1) (h0 : S.1 63 0 = nI c) {h : Int64}  : ∀ (i : Nat), (i ≤ c) → X 1 30 mX10_mixSeen (pu (.long (dgS sw si h c)) S) 2 [(3, .int (nI i)), (0, .ref 0), (1, .long (dgS sw si h i))] [] S := by
  intro i
  induction hm : c - i using Nat.strongRecOn generalizing i with
  | _ mm ih =>
    intro hi
    have hO1 := hO.1
    have hO2 := hO.2.1
    have hO3 := hO.2.2.1
    have hO4 := hO.2.2.2.1
    refine x_iload_n 0 dX10_mixSeen_2 rfl rfl ?_
    refine x_aload_n 1 dX10_mixSeen_3 rfl rfl ?_
    refine x_getR fX10_65 dX10_mixSeen_4 l0 rfl ?_
    refine y_getI fX10_163 dX10_mixSeen_7 l63 rfl h0 ?_
    refine y_ic_ge 51 dX10_mixSeen_10 (by decide) (by omega) (by omega) (fun c_10 => ?_) (fun c_10 => ?_)
    · refine x_lload_n 2 dX10_mixSeen_51 rfl rfl ?_
      refine x_lret rfl dX10_mixSeen_52 (by obtain rfl : i = c := (by omega); exact ⟨rfl, rfl⟩)
    · obtain ⟨hs1, hs2, hs3, hs4⟩ := hs i (by omega)
      refine x_ldc2 kX10_402 dX10_mixSeen_13 ?_
      refine x_lload_n 2 dX10_mixSeen_16 rfl rfl ?_
      refine x_lmul dX10_mixSeen_17 ?_
      refine x_aload_n 1 dX10_mixSeen_18 rfl rfl ?_
      refine x_getR fX10_65 dX10_mixSeen_19 l0 rfl ?_
      refine x_iload_n 0 dX10_mixSeen_22 rfl rfl ?_
      refine x_callVu (as := [_]) (rest := [_]) vX10_259 (c_firstOf (c := 8) (v := nI (sw i)) (Or.inr ⟨rfl, rfl⟩) h0 hc (by omega) hs1) dX10_mixSeen_23 l63 rfl rfl rfl (Nat.le_of_ble_eq_true rfl) (Nat.le_of_ble_eq_true rfl) (Nat.le_of_ble_eq_true rfl) ?_
      refine x_i2l dX10_mixSeen_26 ?_
      refine x_ladd dX10_mixSeen_27 ?_
      refine x_lstore_n (lv' := [(1, _), (3, _), (0, _)]) dX10_mixSeen_28 rfl (by decide) rfl ?_
      refine x_ldc2 kX10_402 dX10_mixSeen_29 ?_
      refine x_lload_n 0 dX10_mixSeen_32 rfl rfl ?_
      refine x_lmul dX10_mixSeen_33 ?_
      refine x_aload_n 2 dX10_mixSeen_34 rfl rfl ?_
      refine x_getR fX10_65 dX10_mixSeen_35 l0 rfl ?_
      refine x_iload_n 1 dX10_mixSeen_38 rfl rfl ?_
      refine x_callVu (as := [_]) (rest := [_]) vX10_262 (c_secondOf (c := 8) (v := nI (si i)) (Or.inr ⟨rfl, rfl⟩) h0 hc (by omega) hs2) dX10_mixSeen_39 l63 rfl rfl rfl (Nat.le_of_ble_eq_true rfl) (Nat.le_of_ble_eq_true rfl) (Nat.le_of_ble_eq_true rfl) ?_
      refine x_i2l dX10_mixSeen_42 ?_
      refine x_ladd dX10_mixSeen_43 ?_
      refine x_lstore_n (lv' := [(1, _), (3, _), (0, _)]) dX10_mixSeen_44 rfl (by decide) rfl ?_
      refine y_iinc (lv' := [(3, _), (1, _), (0, _)]) 1 dX10_mixSeen_45 rfl (by decide) rfl ?_
      refine x_goto 2 dX10_mixSeen_48 (by decide) ?_
      refine x_pick (lv' := [(3, _), (0, _), (1, _)]) [0, 2, 1] rfl ?_
      exact ih (c - (i + 1)) (by omega) (i + 1) rfl (by omega)

set_option maxHeartbeats 4000000 in
set_option maxRecDepth 100000 in
theorem c_X10_mixSeen {S : St} {I : Isl} (hI : IsX 11 I S) (hO : IOK I) {c : Nat} (hc : c ≤ 8) {sw si : Nat → Nat} (hs : ∀ i, i < c → S.1 64 i = nI (sw i) ∧ S.1 65 i = nI (si i) ∧ sw i < iW I ∧ si i ≤ 1) (h0 : S.1 63 0 = nI c) {h : Int64}  : C 1 30 yX10_mixSeen mX10_mixSeen [.ref 0, .long h] S (pu (.long (dgS sw si h c)) S) := by
  refine C.ofX (by decide) rfl (Nat.le_of_ble_eq_true rfl) ?_
  show X 1 30 mX10_mixSeen (pu (.long (dgS sw si h c)) S) 0 [(0, .ref 0), (1, .long h)] [] S
  refine x_iconst (v := nI 0) dX10_mixSeen_0 (by decide) ?_
  refine x_istore_n (lv' := [(3, _), (0, _), (1, _)]) dX10_mixSeen_1 rfl (by decide) rfl ?_
  refine x_pick (lv' := [(3, _), (0, _), (1, _)]) [0, 1, 2] rfl ?_
  exact lp_miS hI hO hc hs h0 0 (Nat.zero_le _)

set_option maxHeartbeats 4000000 in
set_option maxRecDepth 100000 in
theorem lp_miK1 {S : St} {I : Isl} (hI : IsX 11 I S) (hO : IOK I) {kc kl : Nat → Nat} (hk : ∀ k, k < 3 → S.1 67 k = nI (kl k) ∧ kl k ≤ 6 ∧ (¬ kl k = 0 → S.1 66 k = nI (kc k) ∧ kc k < 16807 ∧ VS I (digF (kc k)) (kl k))) {h : Int64} {k : Nat} (hk3 : k < 3) (hk0 : ¬ kl k = 0) {S1 : St} (hf : Fr (fun a => 40 ≤ a ∧ a ≤ 44) S S1) (hp : PlT 40 I (digF (kc k)) S1) {Q : Option Value → St → Prop} (kk : X 3 90 mX10_mixKept Q 2 [(3, .int (nI (k + 1))), (0, .ref 0), (1, .long (dgK kc kl (iM I) h (k + 1)))] [] S1)  : ∀ (t : Nat), (t ≤ iM I) → X 3 90 mX10_mixKept (Q) 43 [(4, .int (nI t)), (3, .int (nI k)), (0, .ref 0), (1, .long (fl (fun t => (nI (digF (kc k) t)).toInt64) (dgK kc kl (iM I) h k) t))] [] S1 := by
  intro t
  induction hm : iM I - t using Nat.strongRecOn generalizing t with
  | _ mm ih =>
    intro ht
    have hO1 := hO.1
    have hO2 := hO.2.1
    have hO3 := hO.2.2.1
    have hO4 := hO.2.2.2.1
    obtain ⟨k1, k2, k3⟩ := hk k hk3
    refine x_iload 0 dX10_mixKept_43 rfl ?_
    refine x_aload_n 2 dX10_mixKept_45 rfl rfl ?_
    refine x_getR fX10_40 dX10_mixKept_46 l0 rfl ?_
    refine y_getI fX10_173 dX10_mixKept_49 l11 rfl ((hf.2 11 (by omega) 1).trans hI.2.1) ?_
    refine y_ic_ge 79 dX10_mixKept_52 (by decide) (by omega) (by omega) (fun c_52 => ?_) (fun c_52 => ?_)
    · refine x_ldc2 kX10_402 dX10_mixKept_79 ?_
      refine x_lload_n 3 dX10_mixKept_82 rfl rfl ?_
      refine x_lmul dX10_mixKept_83 ?_
      refine x_aload_n 2 dX10_mixKept_84 rfl rfl ?_
      refine x_getR fX10_72 dX10_mixKept_85 l0 rfl ?_
      refine x_iload_n 1 dX10_mixKept_88 rfl rfl ?_
      refine y_iald dX10_mixKept_89 l67 (by omega) (by decide) ((hf.2 67 (by omega) k).trans k1) ?_
      refine x_i2l dX10_mixKept_90 ?_
      refine x_ladd dX10_mixKept_91 ?_
      refine x_lstore_n (lv' := [(1, _), (4, _), (3, _), (0, _)]) dX10_mixKept_92 rfl (by decide) rfl ?_
      refine y_iinc (lv' := [(3, _), (1, _), (4, _), (0, _)]) 2 dX10_mixKept_93 rfl (by decide) rfl ?_
      refine x_goto 2 dX10_mixKept_96 (by decide) ?_
      refine x_pick (lv' := [(3, _), (0, _), (1, _)]) [0, 3, 1] rfl ?_
      obtain rfl : t = iM I := (by omega)
      rw [dgK_1 hk0] at kk
      exact kk
    · refine x_ldc2 kX10_402 dX10_mixKept_55 ?_
      refine x_lload_n 3 dX10_mixKept_58 rfl rfl ?_
      refine x_lmul dX10_mixKept_59 ?_
      refine x_aload_n 2 dX10_mixKept_60 rfl rfl ?_
      refine x_getR fX10_53 dX10_mixKept_61 l0 rfl ?_
      refine x_getR fX10_185 dX10_mixKept_64 l40 rfl ?_
      refine x_iload 0 dX10_mixKept_67 rfl ?_
      refine y_iald dX10_mixKept_69 l41 (by omega) (by decide) (hp.1 t (by omega)) ?_
      refine x_i2l dX10_mixKept_70 ?_
      refine x_ladd dX10_mixKept_71 ?_
      refine x_lstore_n (lv' := [(1, _), (4, _), (3, _), (0, _)]) dX10_mixKept_72 rfl (by decide) rfl ?_
      refine y_iinc (lv' := [(4, _), (1, _), (3, _), (0, _)]) 1 dX10_mixKept_73 rfl (by decide) rfl ?_
      refine x_goto 43 dX10_mixKept_76 (by decide) ?_
      refine x_pick (lv' := [(4, _), (3, _), (0, _), (1, _)]) [0, 2, 3, 1] rfl ?_
      exact ih (iM I - (t + 1)) (by omega) (t + 1) rfl (by omega)

set_option maxHeartbeats 4000000 in
set_option maxRecDepth 100000 in
theorem lp_miK2 {S : St} {I : Isl} (hI : IsX 11 I S) (hO : IOK I) {kc kl : Nat → Nat} (hk : ∀ k, k < 3 → S.1 67 k = nI (kl k) ∧ kl k ≤ 6 ∧ (¬ kl k = 0 → S.1 66 k = nI (kc k) ∧ kc k < 16807 ∧ VS I (digF (kc k)) (kl k))) {h : Int64}  : ∀ (k : Nat) (S1 : St), (k ≤ 3) → (Fr (fun a => 40 ≤ a ∧ a ≤ 44) S S1) → X 3 90 mX10_mixKept (ql (fun r S' => r = (dgK kc kl (iM I) h 3) ∧ Fr (fun a => 40 ≤ a ∧ a ≤ 44) S S')) 2 [(3, .int (nI k)), (0, .ref 0), (1, .long (dgK kc kl (iM I) h k))] [] S1 := by
  intro k S1
  induction hm : 3 - k using Nat.strongRecOn generalizing k S1 with
  | _ mm ih =>
    intro hk3 hf
    have hO1 := hO.1
    have hO2 := hO.2.1
    have hO3 := hO.2.2.1
    have hO4 := hO.2.2.2.1
    have hkk := hk k
    have hI1 : IsX 11 I S1 := hI.keep (fun c h1 h2 b => hf.2 c (by omega) b)
    refine x_iload_n 0 dX10_mixKept_2 rfl rfl ?_
    refine x_iconst (v := nI 3) dX10_mixKept_3 (by decide) ?_
    refine y_ic_ge 99 dX10_mixKept_4 (by decide) (by omega) (by omega) (fun c_4 => ?_) (fun c_4 => ?_)
    · refine x_lload_n 2 dX10_mixKept_99 rfl rfl ?_
      refine x_lret rfl dX10_mixKept_100 (by obtain rfl : k = 3 := (by omega); exact ⟨_, rfl, rfl, hf⟩)
    · obtain ⟨k1, k2, k3⟩ := hkk (by omega)
      refine x_aload_n 1 dX10_mixKept_7 rfl rfl ?_
      refine x_getR fX10_72 dX10_mixKept_8 l0 rfl ?_
      refine x_iload_n 0 dX10_mixKept_11 rfl rfl ?_
      refine y_iald dX10_mixKept_12 l67 (by omega) (by decide) ((hf.2 67 (by omega) k).trans k1) ?_
      refine y_if_ne 27 dX10_mixKept_13 (by decide) (by omega) (fun c_13 => ?_) (fun c_13 => ?_)
      · obtain ⟨k4, k5, k6⟩ := k3 c_13
        refine x_aload_n 1 dX10_mixKept_27 rfl rfl ?_
        refine x_getR fX10_53 dX10_mixKept_28 l0 rfl ?_
        refine x_aload_n 1 dX10_mixKept_31 rfl rfl ?_
        refine x_getR fX10_68 dX10_mixKept_32 l0 rfl ?_
        refine x_iload_n 0 dX10_mixKept_35 rfl rfl ?_
        refine y_iald dX10_mixKept_36 l66 (by omega) (by decide) ((hf.2 66 (by omega) k).trans k4) ?_
        refine x_callVqv (as := [_]) (rest := []) vX10_280 (c_X3_decode (Or.inr (Or.inl rfl)) hI1 hO k5 (k6.ok hO)) dX10_mixKept_37 l40 rfl rfl rfl (Nat.le_of_ble_eq_true rfl) (Nat.le_of_ble_eq_true rfl) (Nat.le_of_ble_eq_true rfl) (fun S_37 q_37 => ?_)
        refine x_iconst (v := nI 0) dX10_mixKept_40 (by decide) ?_
        refine x_istore (lv' := [(4, _), (3, _), (0, _), (1, _)]) dX10_mixKept_41 (by decide) rfl ?_
        refine x_pick (lv' := [(4, _), (3, _), (0, _), (1, _)]) [0, 1, 2, 3] rfl ?_
        have hf2 := hf.trans (q_37.1.wider (R' := fun a => 40 ≤ a ∧ a ≤ 44) (fun a h => by omega))
        exact lp_miK1 hI hO hk (by omega) c_13 hf2 q_37.2 (ih (3 - (k + 1)) (by omega) (k + 1) S_37 rfl (by omega) hf2) 0 (Nat.zero_le _)
      · refine x_ldc2 kX10_402 dX10_mixKept_16 ?_
        refine x_lload_n 2 dX10_mixKept_19 rfl rfl ?_
        refine x_lmul dX10_mixKept_20 ?_
        refine x_lconst (v := 1) dX10_mixKept_21 rfl ?_
        refine x_lsub dX10_mixKept_22 ?_
        refine x_lstore_n (lv' := [(1, _), (3, _), (0, _)]) dX10_mixKept_23 rfl (by decide) rfl ?_
        refine x_goto 93 dX10_mixKept_24 (by decide) ?_
        refine y_iinc (lv' := [(3, _), (1, _), (0, _)]) 1 dX10_mixKept_93 rfl (by decide) rfl ?_
        refine x_goto 2 dX10_mixKept_96 (by decide) ?_
        refine x_pick (lv' := [(3, _), (0, _), (1, _)]) [0, 2, 1] rfl ?_
        have e := dgK_0 (kc := kc) (m := iM I) (h := h) c_13
        rw [← e]
        exact ih (3 - (k + 1)) (by omega) (k + 1) S1 rfl (by omega) hf

set_option maxHeartbeats 4000000 in
set_option maxRecDepth 100000 in
theorem c_X10_mixKept {S : St} {I : Isl} (hI : IsX 11 I S) (hO : IOK I) {kc kl : Nat → Nat} (hk : ∀ k, k < 3 → S.1 67 k = nI (kl k) ∧ kl k ≤ 6 ∧ (¬ kl k = 0 → S.1 66 k = nI (kc k) ∧ kc k < 16807 ∧ VS I (digF (kc k)) (kl k))) {h : Int64}  : C 3 90 yX10_mixKept mX10_mixKept [.ref 0, .long h] S (ql (fun r S' => r = (dgK kc kl (iM I) h 3) ∧ Fr (fun a => 40 ≤ a ∧ a ≤ 44) S S')) := by
  refine C.ofX (by decide) rfl (Nat.le_of_ble_eq_true rfl) ?_
  show X 3 90 mX10_mixKept (ql (fun r S' => r = (dgK kc kl (iM I) h 3) ∧ Fr (fun a => 40 ≤ a ∧ a ≤ 44) S S')) 0 [(0, .ref 0), (1, .long h)] [] S
  refine x_iconst (v := nI 0) dX10_mixKept_0 (by decide) ?_
  refine x_istore_n (lv' := [(3, _), (0, _), (1, _)]) dX10_mixKept_1 rfl (by decide) rfl ?_
  refine x_pick (lv' := [(3, _), (0, _), (1, _)]) [0, 1, 2] rfl ?_
  exact lp_miK2 hI hO hk 0 S (Nat.zero_le _) Fr.refl

set_option maxHeartbeats 4000000 in
set_option maxRecDepth 100000 in
theorem lp_digX {S : St} {I : Isl} (hI : IsX 11 I S) (hO : IOK I) {w : Nat → Nat} (hP : PlT 35 I w S) {L : Nat} (hL : S.1 35 5 = nI L) (hL7 : L ≤ 6) (hv : VS I w L) {c : Nat} (hc : c ≤ 8) {sw si : Nat → Nat} (hs : ∀ i, i < c → S.1 64 i = nI (sw i) ∧ S.1 65 i = nI (si i) ∧ sw i < iW I ∧ si i ≤ 1) (h0 : S.1 63 0 = nI c) {kc kl : Nat → Nat} (hk : ∀ k, k < 3 → S.1 67 k = nI (kl k) ∧ kl k ≤ 6 ∧ (¬ kl k = 0 → S.1 66 k = nI (kc k) ∧ kc k < 16807 ∧ VS I (digF (kc k)) (kl k))) (hR : RwS 3 6 60 S) (hX : RwS 6 4 100 S)  : ∀ (a : Nat), (a ≤ 8) → X 4 120 mX10_digest (ql (fun r S' => r = mixA S 6 100 (mixA S 3 60 (dgK kc kl (iM I) (dgS sw si (fl (dgV I) (fl (dgT I w) (31 * (fl (fun a => ((if a = 0 then nI (iP I) else if a = 1 then nI (iM I) else if a = 2 then nI (iW I) else if a = 3 then S.1 60 0 else if a = 4 then nI (iB I) else if a = 5 then S.1 63 0 else if a = 6 then nI (sm (fun r => if (S.1 4 r).toInt < 0 then 0 else 1) 6) else nI (sm (fun r => if (S.1 7 r).toInt < 0 then 0 else 1) 4)) : Int32).toInt64) 17 8) + (nI L).toInt64) (4 * iM I)) (4 * iW I)) c) 3) 6) 4 ∧ Fr (fun a => 40 ≤ a ∧ a ≤ 44) S S')) 6 [(3, .int (nI a)), (0, .ref 0), (1, .long (fl (fun a => ((if a = 0 then nI (iP I) else if a = 1 then nI (iM I) else if a = 2 then nI (iW I) else if a = 3 then S.1 60 0 else if a = 4 then nI (iB I) else if a = 5 then S.1 63 0 else if a = 6 then nI (sm (fun r => if (S.1 4 r).toInt < 0 then 0 else 1) 6) else nI (sm (fun r => if (S.1 7 r).toInt < 0 then 0 else 1) 4)) : Int32).toInt64) 17 a))] [] S := by
  intro a
  induction hm : 8 - a using Nat.strongRecOn generalizing a with
  | _ mm ih =>
    intro ha
    have hO1 := hO.1
    have hO2 := hO.2.1
    have hO3 := hO.2.2.1
    have hO4 := hO.2.2.2.1
    have hw := hv.ok hO
    have hw7 := hw.w7 hO
    refine x_iload_n 0 dX10_digest_6 rfl rfl ?_
    refine x_bipush (v := nI 8) dX10_digest_7 (by decide) ?_
    refine y_ic_ge 31 dX10_digest_9 (by decide) (by omega) (by omega) (fun c_9 => ?_) (fun c_9 => ?_)
    · obtain rfl : a = 8 := (by omega)
      refine x_ldc2 kX10_402 dX10_digest_31 ?_
      refine x_lload_n 2 dX10_digest_34 rfl rfl ?_
      refine x_lmul dX10_digest_35 ?_
      refine x_aload_n 1 dX10_digest_36 rfl rfl ?_
      refine x_getR fX10_49 dX10_digest_37 l0 rfl ?_
      refine y_getI fX10_231 dX10_digest_40 l35 rfl hL ?_
      refine x_i2l dX10_digest_43 ?_
      refine x_ladd dX10_digest_44 ?_
      refine x_lstore_n (lv' := [(1, _), (3, _), (0, _)]) dX10_digest_45 rfl (by decide) rfl ?_
      refine x_aload_n 2 dX10_digest_46 rfl rfl ?_
      refine x_lload_n 0 dX10_digest_47 rfl rfl ?_
      refine x_callVu (as := [_]) (rest := []) vX10_404 (c_X10_mixIsland hI hO hP hw) dX10_digest_48 l0 rfl rfl rfl (Nat.le_of_ble_eq_true rfl) (Nat.le_of_ble_eq_true rfl) (Nat.le_of_ble_eq_true rfl) ?_
      refine x_lstore_n (lv' := [(1, _), (3, _), (0, _)]) dX10_digest_51 rfl (by decide) rfl ?_
      refine x_aload_n 2 dX10_digest_52 rfl rfl ?_
      refine x_lload_n 0 dX10_digest_53 rfl rfl ?_
      refine x_callVu (as := [_]) (rest := []) vX10_408 (c_X10_mixSeen hI hO hc hs h0) dX10_digest_54 l0 rfl rfl rfl (Nat.le_of_ble_eq_true rfl) (Nat.le_of_ble_eq_true rfl) (Nat.le_of_ble_eq_true rfl) ?_
      refine x_lstore_n (lv' := [(1, _), (3, _), (0, _)]) dX10_digest_57 rfl (by decide) rfl ?_
      refine x_aload_n 2 dX10_digest_58 rfl rfl ?_
      refine x_lload_n 0 dX10_digest_59 rfl rfl ?_
      refine x_callVql (as := [_]) (rest := []) vX10_411 (c_X10_mixKept hI hO hk) dX10_digest_60 l0 rfl rfl rfl (Nat.le_of_ble_eq_true rfl) (Nat.le_of_ble_eq_true rfl) (Nat.le_of_ble_eq_true rfl) (fun r_60 S_60 q_60 => ?_)
      obtain ⟨rfl, hf⟩ := q_60
      have hR1 : RwS 3 6 60 S_60 := ⟨(hf.2 3 (by omega) 0).trans hR.1, fun r hr => by rw [hf.2 4 (by omega) r]; exact hR.2 r hr⟩
      have hX1 : RwS 6 4 100 S_60 := ⟨(hf.2 6 (by omega) 0).trans hX.1, fun r hr => by rw [hf.2 7 (by omega) r]; exact hX.2 r hr⟩
      refine x_lstore_n (lv' := [(1, _), (3, _), (0, _)]) dX10_digest_63 rfl (by decide) rfl ?_
      refine x_aload_n 2 dX10_digest_64 rfl rfl ?_
      refine x_getR fX10_25 dX10_digest_65 l0 rfl ?_
      refine x_aload_n 2 dX10_digest_68 rfl rfl ?_
      refine x_getR fX10_21 dX10_digest_69 l0 rfl ?_
      refine x_lload_n 0 dX10_digest_72 rfl rfl ?_
      refine x_callVu (as := [_]) (rest := [_]) vX10_414 (c_X5_mix isR hR1) dX10_digest_73 l3 rfl rfl rfl (Nat.le_of_ble_eq_true rfl) (Nat.le_of_ble_eq_true rfl) (Nat.le_of_ble_eq_true rfl) ?_
      refine x_callVu (as := [_]) (rest := []) vX10_414 (c_X5_mix isTx hX1) dX10_digest_76 l6 rfl rfl rfl (Nat.le_of_ble_eq_true rfl) (Nat.le_of_ble_eq_true rfl) (Nat.le_of_ble_eq_true rfl) ?_
      refine x_lret rfl dX10_digest_79 ⟨_, rfl, by rw [mixA_congr (S := S) (fun b => hf.2 7 (by omega) b) (fun b => hf.2 8 (by omega) b), mixA_congr (S := S) (fun b => hf.2 4 (by omega) b) (fun b => hf.2 5 (by omega) b)], hf⟩
    · refine x_ldc2 kX10_402 dX10_digest_12 ?_
      refine x_lload_n 2 dX10_digest_15 rfl rfl ?_
      refine x_lmul dX10_digest_16 ?_
      refine x_aload_n 1 dX10_digest_17 rfl rfl ?_
      refine x_iload_n 0 dX10_digest_18 rfl rfl ?_
      refine x_callVu (as := [_]) (rest := [_]) vX10_383 (c_X10_countOf hI hO (by omega)) dX10_digest_19 l0 rfl rfl rfl (Nat.le_of_ble_eq_true rfl) (Nat.le_of_ble_eq_true rfl) (Nat.le_of_ble_eq_true rfl) ?_
      refine x_i2l dX10_digest_22 ?_
      refine x_ladd dX10_digest_23 ?_
      refine x_lstore_n (lv' := [(1, _), (3, _), (0, _)]) dX10_digest_24 rfl (by decide) rfl ?_
      refine y_iinc (lv' := [(3, _), (1, _), (0, _)]) 1 dX10_digest_25 rfl (by decide) rfl ?_
      refine x_goto 6 dX10_digest_28 (by decide) ?_
      refine x_pick (lv' := [(3, _), (0, _), (1, _)]) [0, 2, 1] rfl ?_
      exact ih (8 - (a + 1)) (by omega) (a + 1) rfl (by omega)

set_option maxHeartbeats 4000000 in
set_option maxRecDepth 100000 in
theorem c_X10_digest {S : St} {I : Isl} (hI : IsX 11 I S) (hO : IOK I) {w : Nat → Nat} (hP : PlT 35 I w S) {L : Nat} (hL : S.1 35 5 = nI L) (hL7 : L ≤ 6) (hv : VS I w L) {c : Nat} (hc : c ≤ 8) {sw si : Nat → Nat} (hs : ∀ i, i < c → S.1 64 i = nI (sw i) ∧ S.1 65 i = nI (si i) ∧ sw i < iW I ∧ si i ≤ 1) (h0 : S.1 63 0 = nI c) {kc kl : Nat → Nat} (hk : ∀ k, k < 3 → S.1 67 k = nI (kl k) ∧ kl k ≤ 6 ∧ (¬ kl k = 0 → S.1 66 k = nI (kc k) ∧ kc k < 16807 ∧ VS I (digF (kc k)) (kl k))) (hR : RwS 3 6 60 S) (hX : RwS 6 4 100 S)  : C 4 120 yX10_digest mX10_digest [.ref 0] S (ql (fun r S' => r = mixA S 6 100 (mixA S 3 60 (dgK kc kl (iM I) (dgS sw si (fl (dgV I) (fl (dgT I w) (31 * (fl (fun a => ((if a = 0 then nI (iP I) else if a = 1 then nI (iM I) else if a = 2 then nI (iW I) else if a = 3 then S.1 60 0 else if a = 4 then nI (iB I) else if a = 5 then S.1 63 0 else if a = 6 then nI (sm (fun r => if (S.1 4 r).toInt < 0 then 0 else 1) 6) else nI (sm (fun r => if (S.1 7 r).toInt < 0 then 0 else 1) 4)) : Int32).toInt64) 17 8) + (nI L).toInt64) (4 * iM I)) (4 * iW I)) c) 3) 6) 4 ∧ Fr (fun a => 40 ≤ a ∧ a ≤ 44) S S')) := by
  refine C.ofX (by decide) rfl (Nat.le_of_ble_eq_true rfl) ?_
  show X 4 120 mX10_digest (ql (fun r S' => r = mixA S 6 100 (mixA S 3 60 (dgK kc kl (iM I) (dgS sw si (fl (dgV I) (fl (dgT I w) (31 * (fl (fun a => ((if a = 0 then nI (iP I) else if a = 1 then nI (iM I) else if a = 2 then nI (iW I) else if a = 3 then S.1 60 0 else if a = 4 then nI (iB I) else if a = 5 then S.1 63 0 else if a = 6 then nI (sm (fun r => if (S.1 4 r).toInt < 0 then 0 else 1) 6) else nI (sm (fun r => if (S.1 7 r).toInt < 0 then 0 else 1) 4)) : Int32).toInt64) 17 8) + (nI L).toInt64) (4 * iM I)) (4 * iW I)) c) 3) 6) 4 ∧ Fr (fun a => 40 ≤ a ∧ a ≤ 44) S S')) 0 [(0, .ref 0)] [] S
  refine x_ldc2 kX10_400 dX10_digest_0 ?_
  refine x_lstore_n (lv' := [(1, _), (0, _)]) dX10_digest_3 rfl (by decide) rfl ?_
  refine x_iconst (v := nI 0) dX10_digest_4 (by decide) ?_
  refine x_istore_n (lv' := [(3, _), (1, _), (0, _)]) dX10_digest_5 rfl (by decide) rfl ?_
  refine x_pick (lv' := [(3, _), (0, _), (1, _)]) [0, 2, 1] rfl ?_
  exact lp_digX hI hO hP hL hL7 hv hc hs h0 hk hR hX 0 (Nat.zero_le _)

/-- but for what is looked at, and the digest's number -/
def FrD (S S' : St) : Prop := (∀ a b, ¬ (a = 83 ∧ b = 45) → S'.2 a b = S.2 a b) ∧ ∀ a b, ¬ a = 97 → S'.1 a b = S.1 a b
theorem FrD.refl {S : St} : FrD S S := ⟨fun _ _ _ => rfl, fun _ _ _ => rfl⟩
theorem FrD.set {S S1 : St} {x : Int64} (h : FrD S S1) : FrD S (setL S1 83 45 x) := ⟨fun a b q => by
  by_cases ha : a = 83
  · exact (rdL_j (by omega)).trans (h.1 a b q)
  · exact (rdL_k ha).trans (h.1 a b q), fun a b q => rdI_l.trans (h.2 a b q)⟩
theorem FrD.f97 {S S1 S2 : St} (h : FrD S S1) (h' : F97 S1 S2) : FrD S S2 := ⟨fun a b q => by rw [h'.1]; exact h.1 a b q, fun a b q => (h'.2 a q b).trans (h.2 a b q)⟩
theorem IsM.fd {I : Isl} {S S' : St} (h : IsM I S) (hf : FrD S S') : IsM I S' := h.keep (fun j hj => hf.2 83 j (by decide)) (fun a ha b => hf.2 a b (by intro e; subst e; revert ha; decide))
theorem MW.l {I : Isl} {w : Nat → Nat} {S : St} {x : Int64} (h : MW I w S) : MW I w (setL S 83 45 x) := fun t ht => h t ht
def mixB (S : St) (zc cc ρ : Nat) (h : Int64) : Nat → Int64
  | 0 => h
  | r + 1 => fl (fun i => (S.1 cc (ρ * r + i)).toInt64) (31 * mixB S zc cc ρ h r + (S.1 zc r).toInt64) (tn (S.1 zc r))
theorem sub_m1 (x : Int64) : x + (-1) = x - 1 := by rw [show (-1 : Int64) = -(1 : Int64) from rfl, ← Int64.sub_eq_add_neg]

theorem dgV_at {I : Isl} {S : St} {k : Nat} (hI : IsM I S) (hk : k < 4 * iW I) : S.1 92 k = nI (iV I (k / 4) (k % 4)) := by
  have h := hI.2.2.2.2.2.2 (k / 4) (by omega) (k % 4) (by omega)
  rw [show 4 * (k / 4) + k % 4 = k by omega] at h
  exact h

