/-! ===== digest ===== -/
def dgT (I : Isl) (w : Nat → Nat) (i : Nat) : Int64 := (nI (thA I w (i / 4) (i % 4))).toInt64
def dgV (I : Isl) (i : Nat) : Int64 := (nI (iV I (i / 4) (i % 4))).toInt64
theorem fl_s (f : Nat → Int64) (h : Int64) (n : Nat) : fl f h (n + 1) = 31 * fl f h n + f n := rfl
theorem flT {I : Isl} {w : Nat → Nat} {h : Int64} {t j : Nat} (hj : j < 4) : 31 * fl (dgT I w) h (4 * t + j) + (nI (thA I w t j)).toInt64 = fl (dgT I w) h (4 * t + (j + 1)) := by
  rw [← Nat.add_assoc, fl_s]
  unfold dgT
  rw [show (4 * t + j) / 4 = t by omega, show (4 * t + j) % 4 = j by omega]
theorem flV {I : Isl} {h : Int64} {t j : Nat} (hj : j < 4) : 31 * fl (dgV I) h (4 * t + j) + (nI (iV I t j)).toInt64 = fl (dgV I) h (4 * t + (j + 1)) := by
  rw [← Nat.add_assoc, fl_s]
  unfold dgV
  rw [show (4 * t + j) / 4 = t by omega, show (4 * t + j) % 4 = j by omega]
def dgS (sw si : Nat → Nat) (h : Int64) : Nat → Int64
  | 0 => h
  | i + 1 => 31 * (31 * dgS sw si h i + (nI (sw i)).toInt64) + (nI (si i)).toInt64
def dgK (kc kl : Nat → Nat) (m : Nat) (h : Int64) : Nat → Int64
  | 0 => h
  | k + 1 => if kl k = 0 then 31 * dgK kc kl m h k - 1 else 31 * fl (fun t => (nI (digF (kc k) t)).toInt64) (dgK kc kl m h k) m + (nI (kl k)).toInt64
theorem dgK_0 {kc kl : Nat → Nat} {m : Nat} {h : Int64} {k : Nat} (h0 : kl k = 0) : dgK kc kl m h (k + 1) = 31 * dgK kc kl m h k - 1 := if_pos h0
theorem dgK_1 {kc kl : Nat → Nat} {m : Nat} {h : Int64} {k : Nat} (h0 : ¬ kl k = 0) : dgK kc kl m h (k + 1) = 31 * fl (fun t => (nI (digF (kc k) t)).toInt64) (dgK kc kl m h k) m + (nI (kl k)).toInt64 := if_neg h0
theorem mixA_congr {S S1 : St} {k ρ : Nat} {h : Int64} (e1 : ∀ b, S1.1 (k + 1) b = S.1 (k + 1) b) (e2 : ∀ b, S1.1 (k + 2) b = S.1 (k + 2) b) : ∀ n, mixA S1 k ρ h n = mixA S k ρ h n
  | 0 => rfl
  | n + 1 => by
    have ih := mixA_congr e1 e2 (ρ := ρ) (h := h) n
    unfold mixA mixR
    rw [ih, e1 n]
    congr 1
    funext i
    rw [e2]

set_option maxHeartbeats 4000000 in
set_option maxRecDepth 100000 in
theorem lp_miV1 {S : St} {I : Isl} (hI : IsX 11 I S) (hO : IOK I) {w : Nat → Nat} (hP : PlT 35 I w S) {g : Int64} {t : Nat} (ht : t < iW I) {Q : Option Value → St → Prop} (kk : X 2 60 mX10_mixIsland Q 51 [(3, .int (nI (t + 1))), (0, .ref 0), (1, .long (fl (dgV I) g (4 * t + 4)))] [] S)  : ∀ (j : Nat), (j ≤ 4) → X 2 60 mX10_mixIsland (Q) 65 [(4, .int (nI j)), (3, .int (nI t)), (0, .ref 0), (1, .long (fl (dgV I) g (4 * t + j)))] [] S := by
  intro j
  induction hm : 4 - j using Nat.strongRecOn generalizing j with
  | _ mm ih =>
    intro hj
    have hO1 := hO.1
    have hO2 := hO.2.1
    have hO3 := hO.2.2.1
    have hO4 := hO.2.2.2.1
    refine x_iload 0 dX10_mixIsland_65 rfl ?_
    refine x_iconst (v := nI 4) dX10_mixIsland_67 (by decide) ?_
    refine y_ic_ge 95 dX10_mixIsland_68 (by decide) (by omega) (by omega) (fun c_68 => ?_) (fun c_68 => ?_)
    · refine y_iinc (lv' := [(3, _), (4, _), (0, _), (1, _)]) 1 dX10_mixIsland_95 rfl (by decide) rfl ?_
      refine x_goto 51 dX10_mixIsland_98 (by decide) ?_
      refine x_pick (lv' := [(3, _), (0, _), (1, _)]) [0, 2, 3] rfl ?_
      obtain rfl : j = 4 := (by omega)
      exact kk
    · refine x_ldc2 kX10_402 dX10_mixIsland_71 ?_
      refine x_lload_n 3 dX10_mixIsland_74 rfl rfl ?_
      refine x_lmul dX10_mixIsland_75 ?_
      refine x_aload_n 2 dX10_mixIsland_76 rfl rfl ?_
      refine x_getR fX10_40 dX10_mixIsland_77 l0 rfl ?_
      refine x_iload_n 1 dX10_mixIsland_80 rfl rfl ?_
      refine x_iload 0 dX10_mixIsland_81 rfl ?_
      refine x_callVu (as := [_, _]) (rest := [_]) vX10_221 (c_X1_ofWork hI hO ht (by omega)) dX10_mixIsland_83 l11 rfl rfl rfl (Nat.le_of_ble_eq_true rfl) (Nat.le_of_ble_eq_true rfl) (Nat.le_of_ble_eq_true rfl) ?_
      refine x_i2l dX10_mixIsland_86 ?_
      refine x_ladd dX10_mixIsland_87 ?_
      refine x_lstore_n (lv' := [(1, _), (4, _), (3, _), (0, _)]) dX10_mixIsland_88 rfl (by decide) rfl ?_
      refine y_iinc (lv' := [(4, _), (1, _), (3, _), (0, _)]) 1 dX10_mixIsland_89 rfl (by decide) rfl ?_
      refine x_goto 65 dX10_mixIsland_92 (by decide) ?_
      refine x_pick (lv' := [(4, _), (3, _), (0, _), (1, _)]) [0, 2, 3, 1] rfl ?_
      rw [flV (by omega)]
      exact ih (4 - (j + 1)) (by omega) (j + 1) rfl (by omega)

set_option maxHeartbeats 4000000 in
set_option maxRecDepth 100000 in
theorem lp_miV2 {S : St} {I : Isl} (hI : IsX 11 I S) (hO : IOK I) {w : Nat → Nat} (hP : PlT 35 I w S) {g : Int64}  : ∀ (t : Nat), (t ≤ iW I) → X 2 60 mX10_mixIsland (pu (.long (fl (dgV I) g (4 * iW I))) S) 51 [(3, .int (nI t)), (0, .ref 0), (1, .long (fl (dgV I) g (4 * t)))] [] S := by
  intro t
  induction hm : iW I - t using Nat.strongRecOn generalizing t with
  | _ mm ih =>
    intro ht
    have hO1 := hO.1
    have hO2 := hO.2.1
    have hO3 := hO.2.2.1
    have hO4 := hO.2.2.2.1
    refine x_iload_n 0 dX10_mixIsland_51 rfl rfl ?_
    refine x_aload_n 1 dX10_mixIsland_52 rfl rfl ?_
    refine x_getR fX10_40 dX10_mixIsland_53 l0 rfl ?_
    refine y_getI fX10_386 dX10_mixIsland_56 l11 rfl hI.2.2.1 ?_
    refine y_ic_ge 101 dX10_mixIsland_59 (by decide) (by omega) (by omega) (fun c_59 => ?_) (fun c_59 => ?_)
    · refine x_lload_n 2 dX10_mixIsland_101 rfl rfl ?_
      refine x_lret rfl dX10_mixIsland_102 (by obtain rfl : t = iW I := (by omega); exact ⟨rfl, rfl⟩)
    · refine x_iconst (v := nI 0) dX10_mixIsland_62 (by decide) ?_
      refine x_istore (lv' := [(4, _), (3, _), (0, _), (1, _)]) dX10_mixIsland_63 (by decide) rfl ?_
      refine x_pick (lv' := [(4, _), (3, _), (0, _), (1, _)]) [0, 1, 2, 3] rfl ?_
      exact lp_miV1 hI hO hP (by omega) (ih (iW I - (t + 1)) (by omega) (t + 1) rfl (by omega)) 0 (Nat.zero_le _)

set_option maxHeartbeats 4000000 in
set_option maxRecDepth 100000 in
theorem lp_miT1 {S : St} {I : Isl} (hI : IsX 11 I S) (hO : IOK I) {w : Nat → Nat} (hP : PlT 35 I w S) (hw : WOK I w) {h : Int64} {t : Nat} (ht : t < iM I) {Q : Option Value → St → Prop} (kk : X 2 60 mX10_mixIsland Q 2 [(3, .int (nI (t + 1))), (0, .ref 0), (1, .long (fl (dgT I w) h (4 * t + 4)))] [] S)  : ∀ (j : Nat), (j ≤ 4) → X 2 60 mX10_mixIsland (Q) 16 [(4, .int (nI j)), (3, .int (nI t)), (0, .ref 0), (1, .long (fl (dgT I w) h (4 * t + j)))] [] S := by
  intro j
  induction hm : 4 - j using Nat.strongRecOn generalizing j with
  | _ mm ih =>
    intro hj
    have hO1 := hO.1
    have hO2 := hO.2.1
    have hO3 := hO.2.2.1
    have hO4 := hO.2.2.2.1
    refine x_iload 0 dX10_mixIsland_16 rfl ?_
    refine x_iconst (v := nI 4) dX10_mixIsland_18 (by decide) ?_
    refine y_ic_ge 43 dX10_mixIsland_19 (by decide) (by omega) (by omega) (fun c_19 => ?_) (fun c_19 => ?_)
    · refine y_iinc (lv' := [(3, _), (4, _), (0, _), (1, _)]) 1 dX10_mixIsland_43 rfl (by decide) rfl ?_
      refine x_goto 2 dX10_mixIsland_46 (by decide) ?_
      refine x_pick (lv' := [(3, _), (0, _), (1, _)]) [0, 2, 3] rfl ?_
      obtain rfl : j = 4 := (by omega)
      exact kk
    · refine x_ldc2 kX10_402 dX10_mixIsland_22 ?_
      refine x_lload_n 3 dX10_mixIsland_25 rfl rfl ?_
      refine x_lmul dX10_mixIsland_26 ?_
      refine x_aload_n 2 dX10_mixIsland_27 rfl rfl ?_
      refine x_iload_n 1 dX10_mixIsland_28 rfl rfl ?_
      refine x_iload 0 dX10_mixIsland_29 rfl ?_
      refine x_callVu (as := [_, _]) (rest := [_]) vX10_179 (c_X10_ofThing hI hO hP hw ht (by omega)) dX10_mixIsland_31 l0 rfl rfl rfl (Nat.le_of_ble_eq_true rfl) (Nat.le_of_ble_eq_true rfl) (Nat.le_of_ble_eq_true rfl) ?_
      refine x_i2l dX10_mixIsland_34 ?_
      refine x_ladd dX10_mixIsland_35 ?_
      refine x_lstore_n (lv' := [(1, _), (4, _), (3, _), (0, _)]) dX10_mixIsland_36 rfl (by decide) rfl ?_
      refine y_iinc (lv' := [(4, _), (1, _), (3, _), (0, _)]) 1 dX10_mixIsland_37 rfl (by decide) rfl ?_
      refine x_goto 16 dX10_mixIsland_40 (by decide) ?_
      refine x_pick (lv' := [(4, _), (3, _), (0, _), (1, _)]) [0, 2, 3, 1] rfl ?_
      rw [flT (by omega)]
      exact ih (4 - (j + 1)) (by omega) (j + 1) rfl (by omega)

set_option maxHeartbeats 4000000 in
set_option maxRecDepth 100000 in
theorem lp_miT2 {S : St} {I : Isl} (hI : IsX 11 I S) (hO : IOK I) {w : Nat → Nat} (hP : PlT 35 I w S) (hw : WOK I w) {h : Int64}  : ∀ (t : Nat), (t ≤ iM I) → X 2 60 mX10_mixIsland (pu (.long (fl (dgV I) (fl (dgT I w) h (4 * iM I)) (4 * iW I))) S) 2 [(3, .int (nI t)), (0, .ref 0), (1, .long (fl (dgT I w) h (4 * t)))] [] S := by
  intro t
  induction hm : iM I - t using Nat.strongRecOn generalizing t with
  | _ mm ih =>
    intro ht
    have hO1 := hO.1
    have hO2 := hO.2.1
    have hO3 := hO.2.2.1
    have hO4 := hO.2.2.2.1
    refine x_iload_n 0 dX10_mixIsland_2 rfl rfl ?_
    refine x_aload_n 1 dX10_mixIsland_3 rfl rfl ?_
    refine x_getR fX10_40 dX10_mixIsland_4 l0 rfl ?_
    refine y_getI fX10_173 dX10_mixIsland_7 l11 rfl hI.2.1 ?_
    refine y_ic_ge 49 dX10_mixIsland_10 (by decide) (by omega) (by omega) (fun c_10 => ?_) (fun c_10 => ?_)
    · refine x_iconst (v := nI 0) dX10_mixIsland_49 (by decide) ?_
      refine x_istore_n (lv' := [(3, _), (0, _), (1, _)]) dX10_mixIsland_50 rfl (by decide) rfl ?_
      refine x_pick (lv' := [(3, _), (0, _), (1, _)]) [0, 1, 2] rfl ?_
      obtain rfl : t = iM I := (by omega)
      exact lp_miV2 hI hO hP 0 (Nat.zero_le _)
    · refine x_iconst (v := nI 0) dX10_mixIsland_13 (by decide) ?_
      refine x_istore (lv' := [(4, _), (3, _), (0, _), (1, _)]) dX10_mixIsland_14 (by decide) rfl ?_
      refine x_pick (lv' := [(4, _), (3, _), (0, _), (1, _)]) [0, 1, 2, 3] rfl ?_
      exact lp_miT1 hI hO hP hw (by omega) (ih (iM I - (t + 1)) (by omega) (t + 1) rfl (by omega)) 0 (Nat.zero_le _)

set_option maxHeartbeats 4000000 in
set_option maxRecDepth 100000 in
theorem c_X10_mixIsland {S : St} {I : Isl} (hI : IsX 11 I S) (hO : IOK I) {w : Nat → Nat} (hP : PlT 35 I w S) (hw : WOK I w) {h : Int64}  : C 2 60 yX10_mixIsland mX10_mixIsland [.ref 0, .long h] S (pu (.long (fl (dgV I) (fl (dgT I w) h (4 * iM I)) (4 * iW I))) S) := by
  refine C.ofX (by decide) rfl (Nat.le_of_ble_eq_true rfl) ?_
  show X 2 60 mX10_mixIsland (pu (.long (fl (dgV I) (fl (dgT I w) h (4 * iM I)) (4 * iW I))) S) 0 [(0, .ref 0), (1, .long h)] [] S
  refine x_iconst (v := nI 0) dX10_mixIsland_0 (by decide) ?_
  refine x_istore_n (lv' := [(3, _), (0, _), (1, _)]) dX10_mixIsland_1 rfl (by decide) rfl ?_
  refine x_pick (lv' := [(3, _), (0, _), (1, _)]) [0, 1, 2] rfl ?_
  exact lp_miT2 hI hO hP hw 0 (Nat.zero_le _)

set_option maxHeartbeats 4000000 in
set_option maxRecDepth 100000 in
theorem lp_miS {S : St} {I : Isl} (hI : IsX 11 I S) (hO : IOK I) {c : Nat} (hc : c ≤ 8) {sw si : Nat → Nat} (hs : ∀ i, i < c → S.1 64 i = nI (sw i) ∧ S.1 65 i = nI (si i) ∧ sw i < iW I ∧ si i ≤ 1) (h0 : S.1 63 0 = nI c) {h : Int64}  : ∀ (i : Nat), (i ≤ c) → X 1 30 mX10_mixSeen (pu (.long (dgS sw si h c)) S) 2 [(3, .int (nI i)), (0, .ref 0), (1, .long (dgS sw si h i))] [] S := by
  intro i
  induction hm : c - i using Nat.strongRecOn generalizing i with
  | _ mm ih =>
    intro hi
    have hO1 := hO.1
    have hO2 := hO.2.1
    have hO3 := hO.2.2.1
    have hO4 := hO.2.2.2.1
    refine x_iload_n 0 dX10_mixSeen_2 rfl rfl ?_
    refine x_aload_n 1 dX10_mixSeen_3 rfl rfl ?_
    refine x_getR fX10_65 dX10_mixSeen_4 l0 rfl ?_
    refine y_getI fX10_163 dX10_mixSeen_7 l63 rfl h0 ?_
    refine y_ic_ge 51 dX10_mixSeen_10 (by decide) (by omega) (by omega) (fun c_10 => ?_) (fun c_10 => ?_)
    · refine x_lload_n 2 dX10_mixSeen_51 rfl rfl ?_
      refine x_lret rfl dX10_mixSeen_52 (by obtain rfl : i = c := (by omega); exact ⟨rfl, rfl⟩)
    · obtain ⟨hs1, hs2, hs3, hs4⟩ := hs i (by omega)
      refine x_ldc2 kX10_402 dX10_mixSeen_13 ?_
      refine x_lload_n 2 dX10_mixSeen_16 rfl rfl ?_
      refine x_lmul dX10_mixSeen_17 ?_
      refine x_aload_n 1 dX10_mixSeen_18 rfl rfl ?_
      refine x_getR fX10_65 dX10_mixSeen_19 l0 rfl ?_
      refine x_iload_n 0 dX10_mixSeen_22 rfl rfl ?_
      refine x_callVu (as := [_]) (rest := [_]) vX10_259 (c_firstOf (c := 8) (v := nI (sw i)) (Or.inr ⟨rfl, rfl⟩) h0 hc (by omega) hs1) dX10_mixSeen_23 l63 rfl rfl rfl (Nat.le_of_ble_eq_true rfl) (Nat.le_of_ble_eq_true rfl) (Nat.le_of_ble_eq_true rfl) ?_
      refine x_i2l dX10_mixSeen_26 ?_
      refine x_ladd dX10_mixSeen_27 ?_
      refine x_lstore_n (lv' := [(1, _), (3, _), (0, _)]) dX10_mixSeen_28 rfl (by decide) rfl ?_
      refine x_ldc2 kX10_402 dX10_mixSeen_29 ?_
      refine x_lload_n 0 dX10_mixSeen_32 rfl rfl ?_
      refine x_lmul dX10_mixSeen_33 ?_
      refine x_aload_n 2 dX10_mixSeen_34 rfl rfl ?_
      refine x_getR fX10_65 dX10_mixSeen_35 l0 rfl ?_
      refine x_iload_n 1 dX10_mixSeen_38 rfl rfl ?_
      refine x_callVu (as := [_]) (rest := [_]) vX10_262 (c_secondOf (c := 8) (v := nI (si i)) (Or.inr ⟨rfl, rfl⟩) h0 hc (by omega) hs2) dX10_mixSeen_39 l63 rfl rfl rfl (Nat.le_of_ble_eq_true rfl) (Nat.le_of_ble_eq_true rfl) (Nat.le_of_ble_eq_true rfl) ?_
      refine x_i2l dX10_mixSeen_42 ?_
      refine x_ladd dX10_mixSeen_43 ?_
      refine x_lstore_n (lv' := [(1, _), (3, _), (0, _)]) dX10_mixSeen_44 rfl (by decide) rfl ?_
      refine y_iinc (lv' := [(3, _), (1, _), (0, _)]) 1 dX10_mixSeen_45 rfl (by decide) rfl ?_
      refine x_goto 2 dX10_mixSeen_48 (by decide) ?_
      refine x_pick (lv' := [(3, _), (0, _), (1, _)]) [0, 2, 1] rfl ?_
      exact ih (c - (i + 1)) (by omega) (i + 1) rfl (by omega)

set_option maxHeartbeats 4000000 in
set_option maxRecDepth 100000 in
theorem c_X10_mixSeen {S : St} {I : Isl} (hI : IsX 11 I S) (hO : IOK I) {c : Nat} (hc : c ≤ 8) {sw si : Nat → Nat} (hs : ∀ i, i < c → S.1 64 i = nI (sw i) ∧ S.1 65 i = nI (si i) ∧ sw i < iW I ∧ si i ≤ 1) (h0 : S.1 63 0 = nI c) {h : Int64}  : C 1 30 yX10_mixSeen mX10_mixSeen [.ref 0, .long h] S (pu (.long (dgS sw si h c)) S) := by
  refine C.ofX (by decide) rfl (Nat.le_of_ble_eq_true rfl) ?_
  show X 1 30 mX10_mixSeen (pu (.long (dgS sw si h c)) S) 0 [(0, .ref 0), (1, .long h)] [] S
  refine x_iconst (v := nI 0) dX10_mixSeen_0 (by decide) ?_
  refine x_istore_n (lv' := [(3, _), (0, _), (1, _)]) dX10_mixSeen_1 rfl (by decide) rfl ?_
  refine x_pick (lv' := [(3, _), (0, _), (1, _)]) [0, 1, 2] rfl ?_
  exact lp_miS hI hO hc hs h0 0 (Nat.zero_le _)

set_option maxHeartbeats 4000000 in
set_option maxRecDepth 100000 in
theorem lp_miK1 {S : St} {I : Isl} (hI : IsX 11 I S) (hO : IOK I) {kc kl : Nat → Nat} (hk : ∀ k, k < 3 → S.1 67 k = nI (kl k) ∧ kl k ≤ 6 ∧ (¬ kl k = 0 → S.1 66 k = nI (kc k) ∧ kc k < 16807 ∧ VS I (digF (kc k)) (kl k))) {h : Int64} {k : Nat} (hk3 : k < 3) (hk0 : ¬ kl k = 0) {S1 : St} (hf : Fr (fun a => 40 ≤ a ∧ a ≤ 44) S S1) (hp : PlT 40 I (digF (kc k)) S1) {Q : Option Value → St → Prop} (kk : X 3 90 mX10_mixKept Q 2 [(3, .int (nI (k + 1))), (0, .ref 0), (1, .long (dgK kc kl (iM I) h (k + 1)))] [] S1)  : ∀ (t : Nat), (t ≤ iM I) → X 3 90 mX10_mixKept (Q) 43 [(4, .int (nI t)), (3, .int (nI k)), (0, .ref 0), (1, .long (fl (fun t => (nI (digF (kc k) t)).toInt64) (dgK kc kl (iM I) h k) t))] [] S1 := by
  intro t
  induction hm : iM I - t using Nat.strongRecOn generalizing t with
  | _ mm ih =>
    intro ht
    have hO1 := hO.1
    have hO2 := hO.2.1
    have hO3 := hO.2.2.1
    have hO4 := hO.2.2.2.1
    obtain ⟨k1, k2, k3⟩ := hk k hk3
    refine x_iload 0 dX10_mixKept_43 rfl ?_
    refine x_aload_n 2 dX10_mixKept_45 rfl rfl ?_
    refine x_getR fX10_40 dX10_mixKept_46 l0 rfl ?_
    refine y_getI fX10_173 dX10_mixKept_49 l11 rfl ((hf.2 11 (by omega) 1).trans hI.2.1) ?_
    refine y_ic_ge 79 dX10_mixKept_52 (by decide) (by omega) (by omega) (fun c_52 => ?_) (fun c_52 => ?_)
    · refine x_ldc2 kX10_402 dX10_mixKept_79 ?_
      refine x_lload_n 3 dX10_mixKept_82 rfl rfl ?_
      refine x_lmul dX10_mixKept_83 ?_
      refine x_aload_n 2 dX10_mixKept_84 rfl rfl ?_
      refine x_getR fX10_72 dX10_mixKept_85 l0 rfl ?_
      refine x_iload_n 1 dX10_mixKept_88 rfl rfl ?_
      refine y_iald dX10_mixKept_89 l67 (by omega) (by decide) ((hf.2 67 (by omega) k).trans k1) ?_
      refine x_i2l dX10_mixKept_90 ?_
      refine x_ladd dX10_mixKept_91 ?_
      refine x_lstore_n (lv' := [(1, _), (4, _), (3, _), (0, _)]) dX10_mixKept_92 rfl (by decide) rfl ?_
      refine y_iinc (lv' := [(3, _), (1, _), (4, _), (0, _)]) 2 dX10_mixKept_93 rfl (by decide) rfl ?_
      refine x_goto 2 dX10_mixKept_96 (by decide) ?_
      refine x_pick (lv' := [(3, _), (0, _), (1, _)]) [0, 3, 1] rfl ?_
      obtain rfl : t = iM I := (by omega)
      rw [dgK_1 hk0] at kk
      exact kk
    · refine x_ldc2 kX10_402 dX10_mixKept_55 ?_
      refine x_lload_n 3 dX10_mixKept_58 rfl rfl ?_
      refine x_lmul dX10_mixKept_59 ?_
      refine x_aload_n 2 dX10_mixKept_60 rfl rfl ?_
      refine x_getR fX10_53 dX10_mixKept_61 l0 rfl ?_
      refine x_getR fX10_185 dX10_mixKept_64 l40 rfl ?_
      refine x_iload 0 dX10_mixKept_67 rfl ?_
      refine y_iald dX10_mixKept_69 l41 (by omega) (by decide) (hp.1 t (by omega)) ?_
      refine x_i2l dX10_mixKept_70 ?_
      refine x_ladd dX10_mixKept_71 ?_
      refine x_lstore_n (lv' := [(1, _), (4, _), (3, _), (0, _)]) dX10_mixKept_72 rfl (by decide) rfl ?_
      refine y_iinc (lv' := [(4, _), (1, _), (3, _), (0, _)]) 1 dX10_mixKept_73 rfl (by decide) rfl ?_
      refine x_goto 43 dX10_mixKept_76 (by decide) ?_
      refine x_pick (lv' := [(4, _), (3, _), (0, _), (1, _)]) [0, 2, 3, 1] rfl ?_
      exact ih (iM I - (t + 1)) (by omega) (t + 1) rfl (by omega)

set_option maxHeartbeats 4000000 in
set_option maxRecDepth 100000 in
theorem lp_miK2 {S : St} {I : Isl} (hI : IsX 11 I S) (hO : IOK I) {kc kl : Nat → Nat} (hk : ∀ k, k < 3 → S.1 67 k = nI (kl k) ∧ kl k ≤ 6 ∧ (¬ kl k = 0 → S.1 66 k = nI (kc k) ∧ kc k < 16807 ∧ VS I (digF (kc k)) (kl k))) {h : Int64}  : ∀ (k : Nat) (S1 : St), (k ≤ 3) → (Fr (fun a => 40 ≤ a ∧ a ≤ 44) S S1) → X 3 90 mX10_mixKept (ql (fun r S' => r = (dgK kc kl (iM I) h 3) ∧ Fr (fun a => 40 ≤ a ∧ a ≤ 44) S S')) 2 [(3, .int (nI k)), (0, .ref 0), (1, .long (dgK kc kl (iM I) h k))] [] S1 := by
  intro k S1
  induction hm : 3 - k using Nat.strongRecOn generalizing k S1 with
  | _ mm ih =>
    intro hk3 hf
    have hO1 := hO.1
    have hO2 := hO.2.1
    have hO3 := hO.2.2.1
    have hO4 := hO.2.2.2.1
    have hkk := hk k
    have hI1 : IsX 11 I S1 := hI.keep (fun c h1 h2 b => hf.2 c (by omega) b)
    refine x_iload_n 0 dX10_mixKept_2 rfl rfl ?_
    refine x_iconst (v := nI 3) dX10_mixKept_3 (by decide) ?_
    refine y_ic_ge 99 dX10_mixKept_4 (by decide) (by omega) (by omega) (fun c_4 => ?_) (fun c_4 => ?_)
    · refine x_lload_n 2 dX10_mixKept_99 rfl rfl ?_
      refine x_lret rfl dX10_mixKept_100 (by obtain rfl : k = 3 := (by omega); exact ⟨_, rfl, rfl, hf⟩)
    · obtain ⟨k1, k2, k3⟩ := hkk (by omega)
      refine x_aload_n 1 dX10_mixKept_7 rfl rfl ?_
      refine x_getR fX10_72 dX10_mixKept_8 l0 rfl ?_
      refine x_iload_n 0 dX10_mixKept_11 rfl rfl ?_
      refine y_iald dX10_mixKept_12 l67 (by omega) (by decide) ((hf.2 67 (by omega) k).trans k1) ?_
      refine y_if_ne 27 dX10_mixKept_13 (by decide) (by omega) (fun c_13 => ?_) (fun c_13 => ?_)
      · obtain ⟨k4, k5, k6⟩ := k3 c_13
        refine x_aload_n 1 dX10_mixKept_27 rfl rfl ?_
        refine x_getR fX10_53 dX10_mixKept_28 l0 rfl ?_
        refine x_aload_n 1 dX10_mixKept_31 rfl rfl ?_
        refine x_getR fX10_68 dX10_mixKept_32 l0 rfl ?_
        refine x_iload_n 0 dX10_mixKept_35 rfl rfl ?_
        refine y_iald dX10_mixKept_36 l66 (by omega) (by decide) ((hf.2 66 (by omega) k).trans k4) ?_
        refine x_callVqv (as := [_]) (rest := []) vX10_280 (c_X3_decode (Or.inr (Or.inl rfl)) hI1 hO k5 (k6.ok hO)) dX10_mixKept_37 l40 rfl rfl rfl (Nat.le_of_ble_eq_true rfl) (Nat.le_of_ble_eq_true rfl) (Nat.le_of_ble_eq_true rfl) (fun S_37 q_37 => ?_)
        refine x_iconst (v := nI 0) dX10_mixKept_40 (by decide) ?_
        refine x_istore (lv' := [(4, _), (3, _), (0, _), (1, _)]) dX10_mixKept_41 (by decide) rfl ?_
        refine x_pick (lv' := [(4, _), (3, _), (0, _), (1, _)]) [0, 1, 2, 3] rfl ?_
        have hf2 := hf.trans (q_37.1.wider (R' := fun a => 40 ≤ a ∧ a ≤ 44) (fun a h => by omega))
        exact lp_miK1 hI hO hk (by omega) c_13 hf2 q_37.2 (ih (3 - (k + 1)) (by omega) (k + 1) S_37 rfl (by omega) hf2) 0 (Nat.zero_le _)
      · refine x_ldc2 kX10_402 dX10_mixKept_16 ?_
        refine x_lload_n 2 dX10_mixKept_19 rfl rfl ?_
        refine x_lmul dX10_mixKept_20 ?_
        refine x_lconst (v := 1) dX10_mixKept_21 rfl ?_
        refine x_lsub dX10_mixKept_22 ?_
        refine x_lstore_n (lv' := [(1, _), (3, _), (0, _)]) dX10_mixKept_23 rfl (by decide) rfl ?_
        refine x_goto 93 dX10_mixKept_24 (by decide) ?_
        refine y_iinc (lv' := [(3, _), (1, _), (0, _)]) 1 dX10_mixKept_93 rfl (by decide) rfl ?_
        refine x_goto 2 dX10_mixKept_96 (by decide) ?_
        refine x_pick (lv' := [(3, _), (0, _), (1, _)]) [0, 2, 1] rfl ?_
        have e := dgK_0 (kc := kc) (m := iM I) (h := h) c_13
        rw [← e]
        exact ih (3 - (k + 1)) (by omega) (k + 1) S1 rfl (by omega) hf

set_option maxHeartbeats 4000000 in
set_option maxRecDepth 100000 in
theorem c_X10_mixKept {S : St} {I : Isl} (hI : IsX 11 I S) (hO : IOK I) {kc kl : Nat → Nat} (hk : ∀ k, k < 3 → S.1 67 k = nI (kl k) ∧ kl k ≤ 6 ∧ (¬ kl k = 0 → S.1 66 k = nI (kc k) ∧ kc k < 16807 ∧ VS I (digF (kc k)) (kl k))) {h : Int64}  : C 3 90 yX10_mixKept mX10_mixKept [.ref 0, .long h] S (ql (fun r S' => r = (dgK kc kl (iM I) h 3) ∧ Fr (fun a => 40 ≤ a ∧ a ≤ 44) S S')) := by
  refine C.ofX (by decide) rfl (Nat.le_of_ble_eq_true rfl) ?_
  show X 3 90 mX10_mixKept (ql (fun r S' => r = (dgK kc kl (iM I) h 3) ∧ Fr (fun a => 40 ≤ a ∧ a ≤ 44) S S')) 0 [(0, .ref 0), (1, .long h)] [] S
  refine x_iconst (v := nI 0) dX10_mixKept_0 (by decide) ?_
  refine x_istore_n (lv' := [(3, _), (0, _), (1, _)]) dX10_mixKept_1 rfl (by decide) rfl ?_
  refine x_pick (lv' := [(3, _), (0, _), (1, _)]) [0, 1, 2] rfl ?_
  exact lp_miK2 hI hO hk 0 S (Nat.zero_le _) Fr.refl

set_option maxHeartbeats 4000000 in
set_option maxRecDepth 100000 in
theorem lp_digX {S : St} {I : Isl} (hI : IsX 11 I S) (hO : IOK I) {w : Nat → Nat} (hP : PlT 35 I w S) {L : Nat} (hL : S.1 35 5 = nI L) (hL7 : L ≤ 6) (hv : VS I w L) {c : Nat} (hc : c ≤ 8) {sw si : Nat → Nat} (hs : ∀ i, i < c → S.1 64 i = nI (sw i) ∧ S.1 65 i = nI (si i) ∧ sw i < iW I ∧ si i ≤ 1) (h0 : S.1 63 0 = nI c) {kc kl : Nat → Nat} (hk : ∀ k, k < 3 → S.1 67 k = nI (kl k) ∧ kl k ≤ 6 ∧ (¬ kl k = 0 → S.1 66 k = nI (kc k) ∧ kc k < 16807 ∧ VS I (digF (kc k)) (kl k))) (hR : RwS 3 6 60 S) (hX : RwS 6 4 100 S)  : ∀ (a : Nat), (a ≤ 8) → X 4 120 mX10_digest (ql (fun r S' => r = mixA S 6 100 (mixA S 3 60 (dgK kc kl (iM I) (dgS sw si (fl (dgV I) (fl (dgT I w) (31 * (fl (fun a => ((if a = 0 then nI (iP I) else if a = 1 then nI (iM I) else if a = 2 then nI (iW I) else if a = 3 then S.1 60 0 else if a = 4 then nI (iB I) else if a = 5 then S.1 63 0 else if a = 6 then nI (sm (fun r => if (S.1 4 r).toInt < 0 then 0 else 1) 6) else nI (sm (fun r => if (S.1 7 r).toInt < 0 then 0 else 1) 4)) : Int32).toInt64) 17 8) + (nI L).toInt64) (4 * iM I)) (4 * iW I)) c) 3) 6) 4 ∧ Fr (fun a => 40 ≤ a ∧ a ≤ 44) S S')) 6 [(3, .int (nI a)), (0, .ref 0), (1, .long (fl (fun a => ((if a = 0 then nI (iP I) else if a = 1 then nI (iM I) else if a = 2 then nI (iW I) else if a = 3 then S.1 60 0 else if a = 4 then nI (iB I) else if a = 5 then S.1 63 0 else if a = 6 then nI (sm (fun r => if (S.1 4 r).toInt < 0 then 0 else 1) 6) else nI (sm (fun r => if (S.1 7 r).toInt < 0 then 0 else 1) 4)) : Int32).toInt64) 17 a))] [] S := by
  intro a
  induction hm : 8 - a using Nat.strongRecOn generalizing a with
  | _ mm ih =>
    intro ha
    have hO1 := hO.1
    have hO2 := hO.2.1
    have hO3 := hO.2.2.1
    have hO4 := hO.2.2.2.1
    have hw := hv.ok hO
    have hw7 := hw.w7 hO
    refine x_iload_n 0 dX10_digest_6 rfl rfl ?_
    refine x_bipush (v := nI 8) dX10_digest_7 (by decide) ?_
    refine y_ic_ge 31 dX10_digest_9 (by decide) (by omega) (by omega) (fun c_9 => ?_) (fun c_9 => ?_)
    · obtain rfl : a = 8 := (by omega)
      refine x_ldc2 kX10_402 dX10_digest_31 ?_
      refine x_lload_n 2 dX10_digest_34 rfl rfl ?_
      refine x_lmul dX10_digest_35 ?_
      refine x_aload_n 1 dX10_digest_36 rfl rfl ?_
      refine x_getR fX10_49 dX10_digest_37 l0 rfl ?_
      refine y_getI fX10_231 dX10_digest_40 l35 rfl hL ?_
      refine x_i2l dX10_digest_43 ?_
      refine x_ladd dX10_digest_44 ?_
      refine x_lstore_n (lv' := [(1, _), (3, _), (0, _)]) dX10_digest_45 rfl (by decide) rfl ?_
      refine x_aload_n 2 dX10_digest_46 rfl rfl ?_
      refine x_lload_n 0 dX10_digest_47 rfl rfl ?_
      refine x_callVu (as := [_]) (rest := []) vX10_404 (c_X10_mixIsland hI hO hP hw) dX10_digest_48 l0 rfl rfl rfl (Nat.le_of_ble_eq_true rfl) (Nat.le_of_ble_eq_true rfl) (Nat.le_of_ble_eq_true rfl) ?_
      refine x_lstore_n (lv' := [(1, _), (3, _), (0, _)]) dX10_digest_51 rfl (by decide) rfl ?_
      refine x_aload_n 2 dX10_digest_52 rfl rfl ?_
      refine x_lload_n 0 dX10_digest_53 rfl rfl ?_
      refine x_callVu (as := [_]) (rest := []) vX10_408 (c_X10_mixSeen hI hO hc hs h0) dX10_digest_54 l0 rfl rfl rfl (Nat.le_of_ble_eq_true rfl) (Nat.le_of_ble_eq_true rfl) (Nat.le_of_ble_eq_true rfl) ?_
      refine x_lstore_n (lv' := [(1, _), (3, _), (0, _)]) dX10_digest_57 rfl (by decide) rfl ?_
      refine x_aload_n 2 dX10_digest_58 rfl rfl ?_
      refine x_lload_n 0 dX10_digest_59 rfl rfl ?_
      refine x_callVql (as := [_]) (rest := []) vX10_411 (c_X10_mixKept hI hO hk) dX10_digest_60 l0 rfl rfl rfl (Nat.le_of_ble_eq_true rfl) (Nat.le_of_ble_eq_true rfl) (Nat.le_of_ble_eq_true rfl) (fun r_60 S_60 q_60 => ?_)
      obtain ⟨rfl, hf⟩ := q_60
      have hR1 : RwS 3 6 60 S_60 := ⟨(hf.2 3 (by omega) 0).trans hR.1, fun r hr => by rw [hf.2 4 (by omega) r]; exact hR.2 r hr⟩
      have hX1 : RwS 6 4 100 S_60 := ⟨(hf.2 6 (by omega) 0).trans hX.1, fun r hr => by rw [hf.2 7 (by omega) r]; exact hX.2 r hr⟩
      refine x_lstore_n (lv' := [(1, _), (3, _), (0, _)]) dX10_digest_63 rfl (by decide) rfl ?_
      refine x_aload_n 2 dX10_digest_64 rfl rfl ?_
      refine x_getR fX10_25 dX10_digest_65 l0 rfl ?_
      refine x_aload_n 2 dX10_digest_68 rfl rfl ?_
      refine x_getR fX10_21 dX10_digest_69 l0 rfl ?_
      refine x_lload_n 0 dX10_digest_72 rfl rfl ?_
      refine x_callVu (as := [_]) (rest := [_]) vX10_414 (c_X5_mix isR hR1) dX10_digest_73 l3 rfl rfl rfl (Nat.le_of_ble_eq_true rfl) (Nat.le_of_ble_eq_true rfl) (Nat.le_of_ble_eq_true rfl) ?_
      refine x_callVu (as := [_]) (rest := []) vX10_414 (c_X5_mix isTx hX1) dX10_digest_76 l6 rfl rfl rfl (Nat.le_of_ble_eq_true rfl) (Nat.le_of_ble_eq_true rfl) (Nat.le_of_ble_eq_true rfl) ?_
      refine x_lret rfl dX10_digest_79 ⟨_, rfl, by rw [mixA_congr (S := S) (fun b => hf.2 7 (by omega) b) (fun b => hf.2 8 (by omega) b), mixA_congr (S := S) (fun b => hf.2 4 (by omega) b) (fun b => hf.2 5 (by omega) b)], hf⟩
    · refine x_ldc2 kX10_402 dX10_digest_12 ?_
      refine x_lload_n 2 dX10_digest_15 rfl rfl ?_
      refine x_lmul dX10_digest_16 ?_
      refine x_aload_n 1 dX10_digest_17 rfl rfl ?_
      refine x_iload_n 0 dX10_digest_18 rfl rfl ?_
      refine x_callVu (as := [_]) (rest := [_]) vX10_383 (c_X10_countOf hI hO (by omega)) dX10_digest_19 l0 rfl rfl rfl (Nat.le_of_ble_eq_true rfl) (Nat.le_of_ble_eq_true rfl) (Nat.le_of_ble_eq_true rfl) ?_
      refine x_i2l dX10_digest_22 ?_
      refine x_ladd dX10_digest_23 ?_
      refine x_lstore_n (lv' := [(1, _), (3, _), (0, _)]) dX10_digest_24 rfl (by decide) rfl ?_
      refine y_iinc (lv' := [(3, _), (1, _), (0, _)]) 1 dX10_digest_25 rfl (by decide) rfl ?_
      refine x_goto 6 dX10_digest_28 (by decide) ?_
      refine x_pick (lv' := [(3, _), (0, _), (1, _)]) [0, 2, 1] rfl ?_
      exact ih (8 - (a + 1)) (by omega) (a + 1) rfl (by omega)

set_option maxHeartbeats 4000000 in
set_option maxRecDepth 100000 in
theorem c_X10_digest {S : St} {I : Isl} (hI : IsX 11 I S) (hO : IOK I) {w : Nat → Nat} (hP : PlT 35 I w S) {L : Nat} (hL : S.1 35 5 = nI L) (hL7 : L ≤ 6) (hv : VS I w L) {c : Nat} (hc : c ≤ 8) {sw si : Nat → Nat} (hs : ∀ i, i < c → S.1 64 i = nI (sw i) ∧ S.1 65 i = nI (si i) ∧ sw i < iW I ∧ si i ≤ 1) (h0 : S.1 63 0 = nI c) {kc kl : Nat → Nat} (hk : ∀ k, k < 3 → S.1 67 k = nI (kl k) ∧ kl k ≤ 6 ∧ (¬ kl k = 0 → S.1 66 k = nI (kc k) ∧ kc k < 16807 ∧ VS I (digF (kc k)) (kl k))) (hR : RwS 3 6 60 S) (hX : RwS 6 4 100 S)  : C 4 120 yX10_digest mX10_digest [.ref 0] S (ql (fun r S' => r = mixA S 6 100 (mixA S 3 60 (dgK kc kl (iM I) (dgS sw si (fl (dgV I) (fl (dgT I w) (31 * (fl (fun a => ((if a = 0 then nI (iP I) else if a = 1 then nI (iM I) else if a = 2 then nI (iW I) else if a = 3 then S.1 60 0 else if a = 4 then nI (iB I) else if a = 5 then S.1 63 0 else if a = 6 then nI (sm (fun r => if (S.1 4 r).toInt < 0 then 0 else 1) 6) else nI (sm (fun r => if (S.1 7 r).toInt < 0 then 0 else 1) 4)) : Int32).toInt64) 17 8) + (nI L).toInt64) (4 * iM I)) (4 * iW I)) c) 3) 6) 4 ∧ Fr (fun a => 40 ≤ a ∧ a ≤ 44) S S')) := by
  refine C.ofX (by decide) rfl (Nat.le_of_ble_eq_true rfl) ?_
  show X 4 120 mX10_digest (ql (fun r S' => r = mixA S 6 100 (mixA S 3 60 (dgK kc kl (iM I) (dgS sw si (fl (dgV I) (fl (dgT I w) (31 * (fl (fun a => ((if a = 0 then nI (iP I) else if a = 1 then nI (iM I) else if a = 2 then nI (iW I) else if a = 3 then S.1 60 0 else if a = 4 then nI (iB I) else if a = 5 then S.1 63 0 else if a = 6 then nI (sm (fun r => if (S.1 4 r).toInt < 0 then 0 else 1) 6) else nI (sm (fun r => if (S.1 7 r).toInt < 0 then 0 else 1) 4)) : Int32).toInt64) 17 8) + (nI L).toInt64) (4 * iM I)) (4 * iW I)) c) 3) 6) 4 ∧ Fr (fun a => 40 ≤ a ∧ a ≤ 44) S S')) 0 [(0, .ref 0)] [] S
  refine x_ldc2 kX10_400 dX10_digest_0 ?_
  refine x_lstore_n (lv' := [(1, _), (0, _)]) dX10_digest_3 rfl (by decide) rfl ?_
  refine x_iconst (v := nI 0) dX10_digest_4 (by decide) ?_
  refine x_istore_n (lv' := [(3, _), (1, _), (0, _)]) dX10_digest_5 rfl (by decide) rfl ?_
  refine x_pick (lv' := [(3, _), (0, _), (1, _)]) [0, 2, 1] rfl ?_
  exact lp_digX hI hO hP hL hL7 hv hc hs h0 hk hR hX 0 (Nat.zero_le _)

/-- but for what is looked at, and the digest's number -/
def FrD (S S' : St) : Prop := (∀ a b, ¬ (a = 83 ∧ b = 45) → S'.2 a b = S.2 a b) ∧ ∀ a b, ¬ a = 97 → S'.1 a b = S.1 a b
theorem FrD.refl {S : St} : FrD S S := ⟨fun _ _ _ => rfl, fun _ _ _ => rfl⟩
theorem FrD.set {S S1 : St} {x : Int64} (h : FrD S S1) : FrD S (setL S1 83 45 x) := ⟨fun a b q => by
  by_cases ha : a = 83
  · exact (rdL_j (by omega)).trans (h.1 a b q)
  · exact (rdL_k ha).trans (h.1 a b q), fun a b q => rdI_l.trans (h.2 a b q)⟩
theorem FrD.f97 {S S1 S2 : St} (h : FrD S S1) (h' : F97 S1 S2) : FrD S S2 := ⟨fun a b q => by rw [h'.1]; exact h.1 a b q, fun a b q => (h'.2 a q b).trans (h.2 a b q)⟩
theorem IsM.fd {I : Isl} {S S' : St} (h : IsM I S) (hf : FrD S S') : IsM I S' := h.keep (fun j hj => hf.2 83 j (by decide)) (fun a ha b => hf.2 a b (by intro e; subst e; revert ha; decide))
theorem MW.l {I : Isl} {w : Nat → Nat} {S : St} {x : Int64} (h : MW I w S) : MW I w (setL S 83 45 x) := fun t ht => h t ht
def mixB (S : St) (zc cc ρ : Nat) (h : Int64) : Nat → Int64
  | 0 => h
  | r + 1 => fl (fun i => (S.1 cc (ρ * r + i)).toInt64) (31 * mixB S zc cc ρ h r + (S.1 zc r).toInt64) (tn (S.1 zc r))
theorem sub_m1 (x : Int64) : x + (-1) = x - 1 := by rw [show (-1 : Int64) = -(1 : Int64) from rfl, ← Int64.sub_eq_add_neg]

set_option maxHeartbeats 4000000 in
set_option maxRecDepth 100000 in
theorem c_X11_mix {S : St} {v h : Int64} (hh : S.2 83 45 = h) : C 0 0 yX11_mix mX11_mix [.ref 83, .long v] S (pv (setL S 83 45 (31 * h + v))) := by
  refine C.ofX (by decide) rfl (Nat.le_of_ble_eq_true rfl) ?_
  show X 0 0 mX11_mix (pv (setL S 83 45 (31 * h + v))) 0 [(0, .ref 83), (1, .long v)] [] S
  refine x_aload_n 0 dX11_mix_0 rfl rfl ?_
  refine x_ldc2 kX11_342 dX11_mix_1 ?_
  refine x_aload_n 0 dX11_mix_4 rfl rfl ?_
  refine y_getL fX11_344 dX11_mix_5 l83 rfl hh ?_
  refine x_lmul dX11_mix_8 ?_
  refine x_lload_n 1 dX11_mix_9 rfl rfl ?_
  refine x_ladd dX11_mix_10 ?_
  refine x_putL pX11_344 dX11_mix_11 l83 rfl ?_
  refine x_vret rfl dX11_mix_14 ⟨rfl, rfl⟩

set_option maxHeartbeats 4000000 in
set_option maxRecDepth 100000 in
theorem lp_mkM1 {S : St} {I : Isl} (hI : IsM I S) (hO : IOK I) {w : Nat → Nat} (hw0 : ∀ t, t < iM I → S.1 93 t = nI (w t)) {L : Nat} (hL : S.1 83 17 = nI L) (hL7 : L ≤ 6) (hv : VS I w L) {c : Nat} (hc : c ≤ 8) {sw si : Nat → Nat} (hs : ∀ i, i < c → S.1 107 i = nI (sw i) ∧ S.1 108 i = nI (si i) ∧ sw i < iW I ∧ si i ≤ 1) (h0 : S.1 83 42 = nI c) {kc kl : Nat → Nat} (hk : ∀ k, k < 3 → S.1 100 k = (if kl k = 0 then -1 else nI (kc k)) ∧ (¬ kl k = 0 → S.1 101 k = nI (kl k) ∧ kc k < 16807)) {g : Int64} {k : Nat} (hk3 : k < 3) (hk0 : ¬ kl k = 0) {Q : Option Value → St → Prop} (kk : ∀ S2, FrD S S2 → S2.2 83 45 = (dgK kc kl (iM I) g (k + 1)) → X 2 60 mX11_mixIsland Q 122 [(1, .int (nI (k + 1))), (0, .ref 83)] [] S2)  : ∀ (t : Nat) (S1 : St), (t ≤ iM I) → (FrD S S1) → (MW I (digF (kc k)) S1) → (S1.2 83 45 = (fl (fun t => (nI (digF (kc k) t)).toInt64) (dgK kc kl (iM I) g k) t)) → X 2 60 mX11_mixIsland (Q) 158 [(2, .int (nI t)), (1, .int (nI k)), (0, .ref 83)] [] S1 := by
  intro t S1
  induction hm : iM I - t using Nat.strongRecOn generalizing t S1 with
  | _ mm ih =>
    intro ht hf hmw hh
    have hO1 := hO.1
    have hO2 := hO.2.1
    have hO3 := hO.2.2.1
    have hO4 := hO.2.2.2.1
    have hI1 := hI.fd hf
    obtain ⟨k1, k2⟩ := hk k hk3
    obtain ⟨k3, k4⟩ := k2 hk0
    refine x_iload_n 0 dX11_mixIsland_158 rfl rfl ?_
    refine x_aload_n 2 dX11_mixIsland_159 rfl rfl ?_
    refine y_getI fX11_181 dX11_mixIsland_160 l83 rfl hI1.2.1 ?_
    refine y_ic_ge 183 dX11_mixIsland_163 (by decide) (by omega) (by omega) (fun c_163 => ?_) (fun c_163 => ?_)
    · refine x_aload_n 2 dX11_mixIsland_183 rfl rfl ?_
      refine x_aload_n 2 dX11_mixIsland_184 rfl rfl ?_
      refine x_getR fX11_62 dX11_mixIsland_185 l83 rfl ?_
      refine x_iload_n 1 dX11_mixIsland_188 rfl rfl ?_
      refine y_iald dX11_mixIsland_189 l101 (by omega) (by decide) ((hf.2 101 k (by decide)).trans k3) ?_
      refine x_i2l dX11_mixIsland_190 ?_
      refine x_callVv (as := [_]) (rest := []) vX11_347 (c_X11_mix hh) dX11_mixIsland_191 l83 rfl rfl rfl (Nat.le_of_ble_eq_true rfl) (Nat.le_of_ble_eq_true rfl) (Nat.le_of_ble_eq_true rfl) ?_
      refine y_iinc (lv' := [(1, _), (2, _), (0, _)]) 1 dX11_mixIsland_194 rfl (by decide) rfl ?_
      refine x_goto 122 dX11_mixIsland_197 (by decide) ?_
      refine x_pick (lv' := [(1, _), (0, _)]) [0, 2] rfl ?_
      obtain rfl : t = iM I := (by omega)
      exact kk _ hf.set (by rw [dgK_1 hk0]; exact rdL_eq)
    · refine x_aload_n 2 dX11_mixIsland_166 rfl rfl ?_
      refine x_aload_n 2 dX11_mixIsland_167 rfl rfl ?_
      refine x_getR fX11_50 dX11_mixIsland_168 l83 rfl ?_
      refine x_iload_n 0 dX11_mixIsland_171 rfl rfl ?_
      refine y_iald dX11_mixIsland_172 l97 (by omega) (by decide) (hmw t (by omega)) ?_
      refine x_i2l dX11_mixIsland_173 ?_
      refine x_callVv (as := [_]) (rest := []) vX11_347 (c_X11_mix hh) dX11_mixIsland_174 l83 rfl rfl rfl (Nat.le_of_ble_eq_true rfl) (Nat.le_of_ble_eq_true rfl) (Nat.le_of_ble_eq_true rfl) ?_
      refine y_iinc (lv' := [(2, _), (1, _), (0, _)]) 0 dX11_mixIsland_177 rfl (by decide) rfl ?_
      refine x_goto 158 dX11_mixIsland_180 (by decide) ?_
      refine x_pick (lv' := [(2, _), (1, _), (0, _)]) [0, 1, 2] rfl ?_
      exact ih (iM I - (t + 1)) (by omega) (t + 1) _ rfl (by omega) hf.set hmw.l rdL_eq

set_option maxHeartbeats 4000000 in
set_option maxRecDepth 100000 in
theorem lp_mkM2 {S : St} {I : Isl} (hI : IsM I S) (hO : IOK I) {w : Nat → Nat} (hw0 : ∀ t, t < iM I → S.1 93 t = nI (w t)) {L : Nat} (hL : S.1 83 17 = nI L) (hL7 : L ≤ 6) (hv : VS I w L) {c : Nat} (hc : c ≤ 8) {sw si : Nat → Nat} (hs : ∀ i, i < c → S.1 107 i = nI (sw i) ∧ S.1 108 i = nI (si i) ∧ sw i < iW I ∧ si i ≤ 1) (h0 : S.1 83 42 = nI c) {kc kl : Nat → Nat} (hk : ∀ k, k < 3 → S.1 100 k = (if kl k = 0 then -1 else nI (kc k)) ∧ (¬ kl k = 0 → S.1 101 k = nI (kl k) ∧ kc k < 16807)) {g : Int64}  : ∀ (k : Nat) (S1 : St), (k ≤ 3) → (FrD S S1) → (S1.2 83 45 = (dgK kc kl (iM I) g k)) → X 2 60 mX11_mixIsland (qv (fun S' => FrD S S' ∧ S'.2 83 45 = (dgK kc kl (iM I) g 3))) 122 [(1, .int (nI k)), (0, .ref 83)] [] S1 := by
  intro k S1
  induction hm : 3 - k using Nat.strongRecOn generalizing k S1 with
  | _ mm ih =>
    intro hk3 hf hh
    have hO1 := hO.1
    have hO2 := hO.2.1
    have hO3 := hO.2.2.1
    have hO4 := hO.2.2.2.1
    have hI1 := hI.fd hf
    have hkx := hk k
    refine x_iload_n 0 dX11_mixIsland_122 rfl rfl ?_
    refine x_iconst (v := nI 3) dX11_mixIsland_123 (by decide) ?_
    refine y_ic_ge 200 dX11_mixIsland_124 (by decide) (by omega) (by omega) (fun c_124 => ?_) (fun c_124 => ?_)
    · refine x_vret rfl dX11_mixIsland_200 (by obtain rfl : k = 3 := (by omega); exact ⟨rfl, hf, hh⟩)
    · have hka := hkx (by omega)
      have hkk : kl k = 0 ↔ (S1.1 100 k).toInt < 0 := by
        rw [hf.2 100 k (by decide)]
        exact ⟨fun q => by rw [hka.1, if_pos q]; decide, fun q => Classical.byContradiction fun h => by rw [hka.1, if_neg h, tiN (by have := (hka.2 h).2; omega)] at q; omega⟩
      refine x_aload_n 1 dX11_mixIsland_127 rfl rfl ?_
      refine x_getR fX11_59 dX11_mixIsland_128 l83 rfl ?_
      refine x_iload_n 0 dX11_mixIsland_131 rfl rfl ?_
      refine y_iald dX11_mixIsland_132 l100 (by omega) (by decide) rfl ?_
      refine x_if_ge 146 dX11_mixIsland_133 (by decide) (fun c_133 => ?_) (fun c_133 => ?_)
      · have hkn : ¬ kl k = 0 := fun q => by have := hkk.mp q; omega
        obtain ⟨k3, k4⟩ := hka.2 hkn
        refine x_aload_n 1 dX11_mixIsland_146 rfl rfl ?_
        refine x_aload_n 1 dX11_mixIsland_147 rfl rfl ?_
        refine x_getR fX11_59 dX11_mixIsland_148 l83 rfl ?_
        refine x_iload_n 0 dX11_mixIsland_151 rfl rfl ?_
        refine y_iald dX11_mixIsland_152 l100 (by omega) (by decide) ((hf.2 100 k (by decide)).trans (hka.1.trans (if_neg hkn))) ?_
        refine x_callVv (as := [_]) (rest := []) vX11_255 (c_X11_look hI1 hO k4) dX11_mixIsland_153 l83 rfl rfl rfl (Nat.le_of_ble_eq_true rfl) (Nat.le_of_ble_eq_true rfl) (Nat.le_of_ble_eq_true rfl) ?_
        refine x_iconst (v := nI 0) dX11_mixIsland_156 (by decide) ?_
        refine x_istore_n (lv' := [(2, _), (1, _), (0, _)]) dX11_mixIsland_157 rfl (by decide) rfl ?_
        refine x_pick (lv' := [(2, _), (1, _), (0, _)]) [0, 1, 2] rfl ?_
        exact lp_mkM1 hI hO hw0 hL hL7 hv hc hs h0 hk (by omega) hkn (fun S2 f2 e2 => ih (3 - (k + 1)) (by omega) (k + 1) S2 rfl (by omega) f2 e2) 0 (loS S1 (kc k) (iM I)) (Nat.zero_le _) (hf.f97 (loS_f _ _ _)) (fun t ht => if_pos ⟨rfl, ht⟩) hh
      · refine x_aload_n 1 dX11_mixIsland_136 rfl rfl ?_
        refine x_ldc2 kX11_351 dX11_mixIsland_137 ?_
        refine x_callVv (as := [_]) (rest := []) vX11_347 (c_X11_mix hh) dX11_mixIsland_140 l83 rfl rfl rfl (Nat.le_of_ble_eq_true rfl) (Nat.le_of_ble_eq_true rfl) (Nat.le_of_ble_eq_true rfl) ?_
        refine x_goto 194 dX11_mixIsland_143 (by decide) ?_
        refine y_iinc (lv' := [(1, _), (0, _)]) 0 dX11_mixIsland_194 rfl (by decide) rfl ?_
        refine x_goto 122 dX11_mixIsland_197 (by decide) ?_
        refine x_pick (lv' := [(1, _), (0, _)]) [0, 1] rfl ?_
        exact ih (3 - (k + 1)) (by omega) (k + 1) _ rfl (by omega) hf.set (by rw [dgK_0 (hkk.mpr (by omega)), ← sub_m1]; exact rdL_eq)

set_option maxHeartbeats 4000000 in
set_option maxRecDepth 100000 in
theorem lp_msM {S : St} {I : Isl} (hI : IsM I S) (hO : IOK I) {w : Nat → Nat} (hw0 : ∀ t, t < iM I → S.1 93 t = nI (w t)) {L : Nat} (hL : S.1 83 17 = nI L) (hL7 : L ≤ 6) (hv : VS I w L) {c : Nat} (hc : c ≤ 8) {sw si : Nat → Nat} (hs : ∀ i, i < c → S.1 107 i = nI (sw i) ∧ S.1 108 i = nI (si i) ∧ sw i < iW I ∧ si i ≤ 1) (h0 : S.1 83 42 = nI c) {kc kl : Nat → Nat} (hk : ∀ k, k < 3 → S.1 100 k = (if kl k = 0 then -1 else nI (kc k)) ∧ (¬ kl k = 0 → S.1 101 k = nI (kl k) ∧ kc k < 16807)) {g : Int64}  : ∀ (i : Nat) (S1 : St), (i ≤ c) → (FrD S S1) → (S1.2 83 45 = (dgS sw si g i)) → X 2 60 mX11_mixIsland (qv (fun S' => FrD S S' ∧ S'.2 83 45 = (dgK kc kl (iM I) (dgS sw si g c) 3))) 84 [(1, .int (nI i)), (0, .ref 83)] [] S1 := by
  intro i S1
  induction hm : c - i using Nat.strongRecOn generalizing i S1 with
  | _ mm ih =>
    intro hi hf hh
    have hO1 := hO.1
    have hO2 := hO.2.1
    have hO3 := hO.2.2.1
    have hO4 := hO.2.2.2.1
    have hI1 := hI.fd hf
    refine x_iload_n 0 dX11_mixIsland_84 rfl rfl ?_
    refine x_aload_n 1 dX11_mixIsland_85 rfl rfl ?_
    refine y_getI fX11_193 dX11_mixIsland_86 l83 rfl ((hf.2 83 42 (by decide)).trans h0) ?_
    refine y_ic_ge 120 dX11_mixIsland_89 (by decide) (by omega) (by omega) (fun c_89 => ?_) (fun c_89 => ?_)
    · refine x_iconst (v := nI 0) dX11_mixIsland_120 (by decide) ?_
      refine x_istore_n (lv' := [(1, _), (0, _)]) dX11_mixIsland_121 rfl (by decide) rfl ?_
      refine x_pick (lv' := [(1, _), (0, _)]) [0, 1] rfl ?_
      obtain rfl : i = c := (by omega)
      exact lp_mkM2 hI hO hw0 hL hL7 hv hc hs h0 hk 0 S1 (Nat.zero_le _) hf hh
    · obtain ⟨hs1, hs2, hs3, hs4⟩ := hs i (by omega)
      refine x_aload_n 1 dX11_mixIsland_92 rfl rfl ?_
      refine x_aload_n 1 dX11_mixIsland_93 rfl rfl ?_
      refine x_getR fX11_81 dX11_mixIsland_94 l83 rfl ?_
      refine x_iload_n 0 dX11_mixIsland_97 rfl rfl ?_
      refine y_iald dX11_mixIsland_98 l107 (by omega) (by decide) ((hf.2 107 i (by decide)).trans hs1) ?_
      refine x_i2l dX11_mixIsland_99 ?_
      refine x_callVv (as := [_]) (rest := []) vX11_347 (c_X11_mix hh) dX11_mixIsland_100 l83 rfl rfl rfl (Nat.le_of_ble_eq_true rfl) (Nat.le_of_ble_eq_true rfl) (Nat.le_of_ble_eq_true rfl) ?_
      refine x_aload_n 1 dX11_mixIsland_103 rfl rfl ?_
      refine x_aload_n 1 dX11_mixIsland_104 rfl rfl ?_
      refine x_getR fX11_84 dX11_mixIsland_105 l83 rfl ?_
      refine x_iload_n 0 dX11_mixIsland_108 rfl rfl ?_
      refine y_iald dX11_mixIsland_109 l108 (by omega) (by decide) (rdI_l.trans ((hf.2 108 i (by decide)).trans hs2)) ?_
      refine x_i2l dX11_mixIsland_110 ?_
      refine x_callVv (as := [_]) (rest := []) vX11_347 (c_X11_mix rdL_eq) dX11_mixIsland_111 l83 rfl rfl rfl (Nat.le_of_ble_eq_true rfl) (Nat.le_of_ble_eq_true rfl) (Nat.le_of_ble_eq_true rfl) ?_
      refine y_iinc (lv' := [(1, _), (0, _)]) 0 dX11_mixIsland_114 rfl (by decide) rfl ?_
      refine x_goto 84 dX11_mixIsland_117 (by decide) ?_
      refine x_pick (lv' := [(1, _), (0, _)]) [0, 1] rfl ?_
      exact ih (c - (i + 1)) (by omega) (i + 1) _ rfl (by omega) hf.set.set rdL_eq

theorem dgV_at {I : Isl} {S : St} {k : Nat} (hI : IsM I S) (hk : k < 4 * iW I) : S.1 92 k = nI (iV I (k / 4) (k % 4)) := by
  have h := hI.2.2.2.2.2.2 (k / 4) (by omega) (k % 4) (by omega)
  rw [show 4 * (k / 4) + k % 4 = k by omega] at h
  exact h

set_option maxHeartbeats 4000000 in
set_option maxRecDepth 100000 in
theorem lp_mvM {S : St} {I : Isl} (hI : IsM I S) (hO : IOK I) {w : Nat → Nat} (hw0 : ∀ t, t < iM I → S.1 93 t = nI (w t)) {L : Nat} (hL : S.1 83 17 = nI L) (hL7 : L ≤ 6) (hv : VS I w L) {c : Nat} (hc : c ≤ 8) {sw si : Nat → Nat} (hs : ∀ i, i < c → S.1 107 i = nI (sw i) ∧ S.1 108 i = nI (si i) ∧ sw i < iW I ∧ si i ≤ 1) (h0 : S.1 83 42 = nI c) {kc kl : Nat → Nat} (hk : ∀ k, k < 3 → S.1 100 k = (if kl k = 0 then -1 else nI (kc k)) ∧ (¬ kl k = 0 → S.1 101 k = nI (kl k) ∧ kc k < 16807)) {g : Int64}  : ∀ (i : Nat) (S1 : St), (i ≤ 4 * iW I) → (FrD S S1) → (S1.2 83 45 = (fl (dgV I) g i)) → X 2 60 mX11_mixIsland (qv (fun S' => FrD S S' ∧ S'.2 83 45 = (dgK kc kl (iM I) (dgS sw si (fl (dgV I) g (4 * iW I)) c) 3))) 55 [(1, .int (nI i)), (0, .ref 83)] [] S1 := by
  intro i S1
  induction hm : 4 * iW I - i using Nat.strongRecOn generalizing i S1 with
  | _ mm ih =>
    intro hi hf hh
    have hO1 := hO.1
    have hO2 := hO.2.1
    have hO3 := hO.2.2.1
    have hO4 := hO.2.2.2.1
    have hI1 := hI.fd hf
    refine x_iload_n 0 dX11_mixIsland_55 rfl rfl ?_
    refine x_iconst (v := nI 4) dX11_mixIsland_56 (by decide) ?_
    refine x_aload_n 1 dX11_mixIsland_57 rfl rfl ?_
    refine y_getI fX11_184 dX11_mixIsland_58 l83 rfl hI1.2.2.2.1 ?_
    refine y_imul dX11_mixIsland_61 ?_
    refine y_ic_ge 82 dX11_mixIsland_62 (by decide) (by omega) (by omega) (fun c_62 => ?_) (fun c_62 => ?_)
    · refine x_iconst (v := nI 0) dX11_mixIsland_82 (by decide) ?_
      refine x_istore_n (lv' := [(1, _), (0, _)]) dX11_mixIsland_83 rfl (by decide) rfl ?_
      refine x_pick (lv' := [(1, _), (0, _)]) [0, 1] rfl ?_
      obtain rfl : i = 4 * iW I := (by omega)
      exact lp_msM hI hO hw0 hL hL7 hv hc hs h0 hk 0 S1 (Nat.zero_le _) hf hh
    · refine x_aload_n 1 dX11_mixIsland_65 rfl rfl ?_
      refine x_aload_n 1 dX11_mixIsland_66 rfl rfl ?_
      refine x_getR fX11_35 dX11_mixIsland_67 l83 rfl ?_
      refine x_iload_n 0 dX11_mixIsland_70 rfl rfl ?_
      refine y_iald dX11_mixIsland_71 l92 (by omega) (by decide) (dgV_at hI1 (by omega)) ?_
      refine x_i2l dX11_mixIsland_72 ?_
      refine x_callVv (as := [_]) (rest := []) vX11_347 (c_X11_mix hh) dX11_mixIsland_73 l83 rfl rfl rfl (Nat.le_of_ble_eq_true rfl) (Nat.le_of_ble_eq_true rfl) (Nat.le_of_ble_eq_true rfl) ?_
      refine y_iinc (lv' := [(1, _), (0, _)]) 0 dX11_mixIsland_76 rfl (by decide) rfl ?_
      refine x_goto 55 dX11_mixIsland_79 (by decide) ?_
      refine x_pick (lv' := [(1, _), (0, _)]) [0, 1] rfl ?_
      exact ih (4 * iW I - (i + 1)) (by omega) (i + 1) _ rfl (by omega) hf.set rdL_eq

set_option maxHeartbeats 4000000 in
set_option maxRecDepth 100000 in
theorem lp_mtM1 {S : St} {I : Isl} (hI : IsM I S) (hO : IOK I) {w : Nat → Nat} (hw0 : ∀ t, t < iM I → S.1 93 t = nI (w t)) {L : Nat} (hL : S.1 83 17 = nI L) (hL7 : L ≤ 6) (hv : VS I w L) {c : Nat} (hc : c ≤ 8) {sw si : Nat → Nat} (hs : ∀ i, i < c → S.1 107 i = nI (sw i) ∧ S.1 108 i = nI (si i) ∧ sw i < iW I ∧ si i ≤ 1) (h0 : S.1 83 42 = nI c) {kc kl : Nat → Nat} (hk : ∀ k, k < 3 → S.1 100 k = (if kl k = 0 then -1 else nI (kc k)) ∧ (¬ kl k = 0 → S.1 101 k = nI (kl k) ∧ kc k < 16807)) {g : Int64} {t : Nat} (ht : t < iM I) {Q : Option Value → St → Prop} (kk : ∀ S2, FrD S S2 → MW I w S2 → S2.2 83 45 = (fl (dgT I w) g (4 * t + 4)) → X 2 60 mX11_mixIsland Q 15 [(1, .int (nI (t + 1))), (0, .ref 83)] [] S2)  : ∀ (j : Nat) (S1 : St), (j ≤ 4) → (FrD S S1) → (MW I w S1) → (S1.2 83 45 = (fl (dgT I w) g (4 * t + j))) → X 2 60 mX11_mixIsland (Q) 25 [(2, .int (nI j)), (1, .int (nI t)), (0, .ref 83)] [] S1 := by
  intro j S1
  induction hm : 4 - j using Nat.strongRecOn generalizing j S1 with
  | _ mm ih =>
    intro hj hf hmw hh
    have hO1 := hO.1
    have hO2 := hO.2.1
    have hO3 := hO.2.2.1
    have hO4 := hO.2.2.2.1
    have hI1 := hI.fd hf
    have hw := hv.ok hO
    refine x_iload_n 0 dX11_mixIsland_25 rfl rfl ?_
    refine x_iconst (v := nI 4) dX11_mixIsland_26 (by decide) ?_
    refine y_ic_ge 47 dX11_mixIsland_27 (by decide) (by omega) (by omega) (fun c_27 => ?_) (fun c_27 => ?_)
    · refine y_iinc (lv' := [(1, _), (2, _), (0, _)]) 1 dX11_mixIsland_47 rfl (by decide) rfl ?_
      refine x_goto 15 dX11_mixIsland_50 (by decide) ?_
      refine x_pick (lv' := [(1, _), (0, _)]) [0, 2] rfl ?_
      obtain rfl : j = 4 := (by omega)
      exact kk S1 hf hmw hh
    · refine x_aload_n 2 dX11_mixIsland_30 rfl rfl ?_
      refine x_aload_n 2 dX11_mixIsland_31 rfl rfl ?_
      refine x_iload_n 1 dX11_mixIsland_32 rfl rfl ?_
      refine x_iload_n 0 dX11_mixIsland_33 rfl rfl ?_
      refine x_callVu (as := [_, _]) (rest := [_]) vX11_223 (c_X11_thingTells hI1 hO hmw hw ht (h := j) (by omega)) dX11_mixIsland_34 l83 rfl rfl rfl (Nat.le_of_ble_eq_true rfl) (Nat.le_of_ble_eq_true rfl) (Nat.le_of_ble_eq_true rfl) ?_
      refine x_i2l dX11_mixIsland_37 ?_
      refine x_callVv (as := [_]) (rest := []) vX11_347 (c_X11_mix hh) dX11_mixIsland_38 l83 rfl rfl rfl (Nat.le_of_ble_eq_true rfl) (Nat.le_of_ble_eq_true rfl) (Nat.le_of_ble_eq_true rfl) ?_
      refine y_iinc (lv' := [(2, _), (1, _), (0, _)]) 0 dX11_mixIsland_41 rfl (by decide) rfl ?_
      refine x_goto 25 dX11_mixIsland_44 (by decide) ?_
      refine x_pick (lv' := [(2, _), (1, _), (0, _)]) [0, 1, 2] rfl ?_
      exact ih (4 - (j + 1)) (by omega) (j + 1) _ rfl (by omega) hf.set hmw.l (by rw [← flT (by omega)]; exact rdL_eq)

set_option maxHeartbeats 4000000 in
set_option maxRecDepth 100000 in
theorem lp_mtM2 {S : St} {I : Isl} (hI : IsM I S) (hO : IOK I) {w : Nat → Nat} (hw0 : ∀ t, t < iM I → S.1 93 t = nI (w t)) {L : Nat} (hL : S.1 83 17 = nI L) (hL7 : L ≤ 6) (hv : VS I w L) {c : Nat} (hc : c ≤ 8) {sw si : Nat → Nat} (hs : ∀ i, i < c → S.1 107 i = nI (sw i) ∧ S.1 108 i = nI (si i) ∧ sw i < iW I ∧ si i ≤ 1) (h0 : S.1 83 42 = nI c) {kc kl : Nat → Nat} (hk : ∀ k, k < 3 → S.1 100 k = (if kl k = 0 then -1 else nI (kc k)) ∧ (¬ kl k = 0 → S.1 101 k = nI (kl k) ∧ kc k < 16807)) {g : Int64}  : ∀ (t : Nat) (S1 : St), (t ≤ iM I) → (FrD S S1) → (MW I w S1) → (S1.2 83 45 = (fl (dgT I w) g (4 * t))) → X 2 60 mX11_mixIsland (qv (fun S' => FrD S S' ∧ S'.2 83 45 = (dgK kc kl (iM I) (dgS sw si (fl (dgV I) (fl (dgT I w) g (4 * iM I)) (4 * iW I)) c) 3))) 15 [(1, .int (nI t)), (0, .ref 83)] [] S1 := by
  intro t S1
  induction hm : iM I - t using Nat.strongRecOn generalizing t S1 with
  | _ mm ih =>
    intro ht hf hmw hh
    have hO1 := hO.1
    have hO2 := hO.2.1
    have hO3 := hO.2.2.1
    have hO4 := hO.2.2.2.1
    have hI1 := hI.fd hf
    refine x_iload_n 0 dX11_mixIsland_15 rfl rfl ?_
    refine x_aload_n 1 dX11_mixIsland_16 rfl rfl ?_
    refine y_getI fX11_181 dX11_mixIsland_17 l83 rfl hI1.2.1 ?_
    refine y_ic_ge 53 dX11_mixIsland_20 (by decide) (by omega) (by omega) (fun c_20 => ?_) (fun c_20 => ?_)
    · refine x_iconst (v := nI 0) dX11_mixIsland_53 (by decide) ?_
      refine x_istore_n (lv' := [(1, _), (0, _)]) dX11_mixIsland_54 rfl (by decide) rfl ?_
      refine x_pick (lv' := [(1, _), (0, _)]) [0, 1] rfl ?_
      obtain rfl : t = iM I := (by omega)
      exact lp_mvM hI hO hw0 hL hL7 hv hc hs h0 hk 0 S1 (Nat.zero_le _) hf hh
    · refine x_iconst (v := nI 0) dX11_mixIsland_23 (by decide) ?_
      refine x_istore_n (lv' := [(2, _), (1, _), (0, _)]) dX11_mixIsland_24 rfl (by decide) rfl ?_
      refine x_pick (lv' := [(2, _), (1, _), (0, _)]) [0, 1, 2] rfl ?_
      exact lp_mtM1 hI hO hw0 hL hL7 hv hc hs h0 hk (by omega) (fun S2 f2 m2 e2 => ih (iM I - (t + 1)) (by omega) (t + 1) S2 rfl (by omega) f2 m2 e2) 0 S1 (Nat.zero_le _) hf hmw hh

set_option maxHeartbeats 4000000 in
set_option maxRecDepth 100000 in
theorem c_X11_mixIsland {S : St} {I : Isl} (hI : IsM I S) (hO : IOK I) {w : Nat → Nat} (hw0 : ∀ t, t < iM I → S.1 93 t = nI (w t)) {L : Nat} (hL : S.1 83 17 = nI L) (hL7 : L ≤ 6) (hv : VS I w L) {c : Nat} (hc : c ≤ 8) {sw si : Nat → Nat} (hs : ∀ i, i < c → S.1 107 i = nI (sw i) ∧ S.1 108 i = nI (si i) ∧ sw i < iW I ∧ si i ≤ 1) (h0 : S.1 83 42 = nI c) {kc kl : Nat → Nat} (hk : ∀ k, k < 3 → S.1 100 k = (if kl k = 0 then -1 else nI (kc k)) ∧ (¬ kl k = 0 → S.1 101 k = nI (kl k) ∧ kc k < 16807)) {g : Int64} {S1 : St} (hf : FrD S S1) (hh : S1.2 83 45 = g)  : C 2 60 yX11_mixIsland mX11_mixIsland [.ref 83] S1 (qv (fun S' => FrD S S' ∧ S'.2 83 45 = (dgK kc kl (iM I) (dgS sw si (fl (dgV I) (fl (dgT I w) (31 * g + (nI L).toInt64) (4 * iM I)) (4 * iW I)) c) 3))) := by
  have hO1 := hO.1
  have hO2 := hO.2.1
  have hO3 := hO.2.2.1
  have hO4 := hO.2.2.2.1
  have hI1 := hI.fd hf
  refine C.ofX (by decide) rfl (Nat.le_of_ble_eq_true rfl) ?_
  show X 2 60 mX11_mixIsland (qv (fun S' => FrD S S' ∧ S'.2 83 45 = (dgK kc kl (iM I) (dgS sw si (fl (dgV I) (fl (dgT I w) (31 * g + (nI L).toInt64) (4 * iM I)) (4 * iW I)) c) 3))) 0 [(0, .ref 83)] [] S1
  refine x_aload_n 0 dX11_mixIsland_0 rfl rfl ?_
  refine x_aload_n 0 dX11_mixIsland_1 rfl rfl ?_
  refine y_getI fX11_91 dX11_mixIsland_2 l83 rfl ((hf.2 83 17 (by decide)).trans hL) ?_
  refine x_i2l dX11_mixIsland_5 ?_
  refine x_callVv (as := [_]) (rest := []) vX11_347 (c_X11_mix hh) dX11_mixIsland_6 l83 rfl rfl rfl (Nat.le_of_ble_eq_true rfl) (Nat.le_of_ble_eq_true rfl) (Nat.le_of_ble_eq_true rfl) ?_
  refine x_aload_n 0 dX11_mixIsland_9 rfl rfl ?_
  refine x_callVv (as := []) (rest := []) vX11_217 (c_X11_lookNow (hI1.fd FrD.refl.set) hO) dX11_mixIsland_10 l83 rfl rfl rfl (Nat.le_of_ble_eq_true rfl) (Nat.le_of_ble_eq_true rfl) (Nat.le_of_ble_eq_true rfl) ?_
  refine x_iconst (v := nI 0) dX11_mixIsland_13 (by decide) ?_
  refine x_istore_n (lv' := [(1, _), (0, _)]) dX11_mixIsland_14 rfl (by decide) rfl ?_
  refine x_pick (lv' := [(1, _), (0, _)]) [0, 1] rfl ?_
  exact lp_mtM2 hI hO hw0 hL hL7 hv hc hs h0 hk 0 _ (Nat.zero_le _) (hf.set.f97 (lkS_f _ _)) (lkS_W (fun t ht => rdI_l.trans ((hf.2 93 t (by decide)).trans (hw0 t ht)))) (by show (setL S1 83 45 (31 * g + (nI L).toInt64)).2 83 45 = _; exact rdL_eq)

theorem c_byteAtM {S : St} {t i z : Nat} {v : Int32} (ht : t < 4) (hi : i < 2000) (hz : S.1 88 t = nI z) (hz1 : z ≤ 100) (hiz : i < z) (hv : S.1 89 (100 * t + i) = v) : C 0 0 yX11_byteAt mX11_byteAt [.ref 83, .int (nI t), .int (nI i)] S (pu (.int v) S) := by
  have h := c_X11_byteAt (S := S) ht hi hz hz1
  rw [if_pos hiz, hv] at h
  exact h
theorem c_countedD {S S1 : St} {I : Isl} (hI : IsM I S) (hO : IOK I) (hf : FrD S S1) {a : Nat} (ha : a < 8) : C 0 0 yX11_counted mX11_counted [.ref 83, .int (nI a)] S1 (pu (.int (if a = 0 then nI (iP I) else if a = 1 then nI (iM I) else if a = 2 then nI (iW I) else if a = 3 then S.1 83 29 else if a = 4 then nI (iB I) else if a = 5 then S.1 83 42 else if a = 6 then nI (sm (fun r => if (S.1 85 r).toInt < 0 then 0 else 1) 6) else nI (sm (fun r => if (S.1 88 r).toInt < 0 then 0 else 1) 4))) S1) := by
  have h := c_X11_counted (hI.fd hf) hO ha
  rw [hf.2 83 29 (by decide), hf.2 83 42 (by decide), show (fun r => if (S1.1 85 r).toInt < 0 then 0 else 1) = (fun r => if (S.1 85 r).toInt < 0 then 0 else 1) from by funext r; rw [hf.2 85 r (by decide)], show (fun r => if (S1.1 88 r).toInt < 0 then 0 else 1) = (fun r => if (S.1 88 r).toInt < 0 then 0 else 1) from by funext r; rw [hf.2 88 r (by decide)]] at h
  exact h

set_option maxHeartbeats 4000000 in
set_option maxRecDepth 100000 in
theorem lp_dtM1 {S : St} (hS : RwM S) {g : Int64} {r : Nat} (hr : r < 4) {Q : Option Value → St → Prop} (kk : ∀ S2, FrD S S2 → S2.2 83 45 = (mixB S 88 89 100 g (r + 1)) → X 3 90 mX11_digest Q 91 [(1, .int (nI (r + 1))), (0, .ref 83)] [] S2)  : ∀ (i : Nat) (S1 : St), (i ≤ tn (S.1 88 r)) → (FrD S S1) → (S1.2 83 45 = (fl (fun i => (S.1 89 (100 * r + i)).toInt64) (31 * mixB S 88 89 100 g r + (S.1 88 r).toInt64) i)) → X 3 90 mX11_digest (Q) 109 [(2, .int (nI i)), (1, .int (nI r)), (0, .ref 83)] [] S1 := by
  intro i S1
  induction hm : tn (S.1 88 r) - i using Nat.strongRecOn generalizing i S1 with
  | _ mm ih =>
    intro hi hf hh
    have hz : S.1 88 r = -1 ∨ ∃ z, z ≤ 100 ∧ S.1 88 r = nI z := hS.2 r hr
    have hz2 : tn (S.1 88 r) ≤ 100 ∧ ∀ j : Nat, j < 1000 → ((nI j).toInt < (S.1 88 r).toInt ↔ j < tn (S.1 88 r)) := by
      rcases hz with e | ⟨z, h1, e⟩
      · rw [e, show tn (-1) = 0 from by decide, show (-1 : Int32).toInt = -1 from by decide]
        exact ⟨by omega, fun j hj => by rw [tiN (by omega)]; omega⟩
      · rw [e, tnN (by omega), tiN (by omega)]
        exact ⟨by omega, fun j hj => by rw [tiN (by omega)]; omega⟩
    obtain ⟨hz3, hz4⟩ := hz2
    have hz5 := hz4 i (by omega)
    refine x_iload_n 0 dX11_digest_109 rfl rfl ?_
    refine x_aload_n 2 dX11_digest_110 rfl rfl ?_
    refine x_getR fX11_22 dX11_digest_111 l83 rfl ?_
    refine x_iload_n 1 dX11_digest_114 rfl rfl ?_
    refine y_iald dX11_digest_115 l88 (by omega) (by decide) (hf.2 88 r (by decide)) ?_
    refine x_ic_ge 136 dX11_digest_116 (by decide) (fun c_116 => ?_) (fun c_116 => ?_)
    · refine y_iinc (lv' := [(1, _), (2, _), (0, _)]) 1 dX11_digest_136 rfl (by decide) rfl ?_
      refine x_goto 91 dX11_digest_139 (by decide) ?_
      refine x_pick (lv' := [(1, _), (0, _)]) [0, 2] rfl ?_
      obtain rfl : i = tn (S.1 88 r) := (by omega)
      exact kk S1 hf hh
    · have hlt0 := hz5.mp (by omega)
      have hlt := hlt0
      obtain ⟨z, hz1, ez⟩ : ∃ z, z ≤ 100 ∧ S.1 88 r = nI z := by
        rcases hz with e | h
        · rw [e, show tn (-1) = 0 from by decide] at hlt
          omega
        · exact h
      rw [ez, tnN (by omega)] at hlt
      refine x_aload_n 2 dX11_digest_119 rfl rfl ?_
      refine x_aload_n 2 dX11_digest_120 rfl rfl ?_
      refine x_iload_n 1 dX11_digest_121 rfl rfl ?_
      refine x_iload_n 0 dX11_digest_122 rfl rfl ?_
      refine x_callVu (as := [_, _]) (rest := [_]) vX11_129 (c_byteAtM hr (by omega) ((hf.2 88 r (by decide)).trans ez) hz1 (by omega) (hf.2 89 _ (by decide))) dX11_digest_123 l83 rfl rfl rfl (Nat.le_of_ble_eq_true rfl) (Nat.le_of_ble_eq_true rfl) (Nat.le_of_ble_eq_true rfl) ?_
      refine x_i2l dX11_digest_126 ?_
      refine x_callVv (as := [_]) (rest := []) vX11_347 (c_X11_mix hh) dX11_digest_127 l83 rfl rfl rfl (Nat.le_of_ble_eq_true rfl) (Nat.le_of_ble_eq_true rfl) (Nat.le_of_ble_eq_true rfl) ?_
      refine y_iinc (lv' := [(2, _), (1, _), (0, _)]) 0 dX11_digest_130 rfl (by decide) rfl ?_
      refine x_goto 109 dX11_digest_133 (by decide) ?_
      refine x_pick (lv' := [(2, _), (1, _), (0, _)]) [0, 1, 2] rfl ?_
      exact ih (tn (S.1 88 r) - (i + 1)) (by omega) (i + 1) _ rfl (by omega) hf.set rdL_eq

set_option maxHeartbeats 4000000 in
set_option maxRecDepth 100000 in
theorem lp_dtM2 {S : St} (hS : RwM S) {g : Int64}  : ∀ (r : Nat) (S1 : St), (r ≤ 4) → (FrD S S1) → (S1.2 83 45 = (mixB S 88 89 100 g r)) → X 3 90 mX11_digest (ql (fun r S' => r = mixB S 88 89 100 g 4 ∧ ∃ S2, FrD S S2 ∧ S' = S2)) 91 [(1, .int (nI r)), (0, .ref 83)] [] S1 := by
  intro r S1
  induction hm : 4 - r using Nat.strongRecOn generalizing r S1 with
  | _ mm ih =>
    intro hr hf hh
    refine x_iload_n 0 dX11_digest_91 rfl rfl ?_
    refine x_iconst (v := nI 4) dX11_digest_92 (by decide) ?_
    refine y_ic_ge 142 dX11_digest_93 (by decide) (by omega) (by omega) (fun c_93 => ?_) (fun c_93 => ?_)
    · refine x_aload_n 1 dX11_digest_142 rfl rfl ?_
      refine y_getL fX11_344 dX11_digest_143 l83 rfl hh ?_
      refine x_lret rfl dX11_digest_146 (by obtain rfl : r = 4 := (by omega); exact ⟨_, rfl, rfl, S1, hf, rfl⟩)
    · refine x_aload_n 1 dX11_digest_96 rfl rfl ?_
      refine x_aload_n 1 dX11_digest_97 rfl rfl ?_
      refine x_getR fX11_22 dX11_digest_98 l83 rfl ?_
      refine x_iload_n 0 dX11_digest_101 rfl rfl ?_
      refine y_iald dX11_digest_102 l88 (by omega) (by decide) (hf.2 88 r (by decide)) ?_
      refine x_i2l dX11_digest_103 ?_
      refine x_callVv (as := [_]) (rest := []) vX11_347 (c_X11_mix hh) dX11_digest_104 l83 rfl rfl rfl (Nat.le_of_ble_eq_true rfl) (Nat.le_of_ble_eq_true rfl) (Nat.le_of_ble_eq_true rfl) ?_
      refine x_iconst (v := nI 0) dX11_digest_107 (by decide) ?_
      refine x_istore_n (lv' := [(2, _), (1, _), (0, _)]) dX11_digest_108 rfl (by decide) rfl ?_
      refine x_pick (lv' := [(2, _), (1, _), (0, _)]) [0, 1, 2] rfl ?_
      exact lp_dtM1 hS (by omega) (fun S2 f2 e2 => ih (4 - (r + 1)) (by omega) (r + 1) S2 rfl (by omega) f2 e2) 0 _ (Nat.zero_le _) hf.set rdL_eq

set_option maxHeartbeats 4000000 in
set_option maxRecDepth 100000 in
theorem lp_drM1 {S : St} (hS : RwM S) {g : Int64} {r : Nat} (hr : r < 6) {Q : Option Value → St → Prop} (kk : ∀ S2, FrD S S2 → S2.2 83 45 = (mixB S 85 86 60 g (r + 1)) → X 3 90 mX11_digest Q 37 [(1, .int (nI (r + 1))), (0, .ref 83)] [] S2)  : ∀ (i : Nat) (S1 : St), (i ≤ tn (S.1 85 r)) → (FrD S S1) → (S1.2 83 45 = (fl (fun i => (S.1 86 (60 * r + i)).toInt64) (31 * mixB S 85 86 60 g r + (S.1 85 r).toInt64) i)) → X 3 90 mX11_digest (Q) 56 [(2, .int (nI i)), (1, .int (nI r)), (0, .ref 83)] [] S1 := by
  intro i S1
  induction hm : tn (S.1 85 r) - i using Nat.strongRecOn generalizing i S1 with
  | _ mm ih =>
    intro hi hf hh
    have hz : S.1 85 r = -1 ∨ ∃ z, z ≤ 60 ∧ S.1 85 r = nI z := hS.1 r hr
    have hz2 : tn (S.1 85 r) ≤ 60 ∧ ∀ j : Nat, j < 1000 → ((nI j).toInt < (S.1 85 r).toInt ↔ j < tn (S.1 85 r)) := by
      rcases hz with e | ⟨z, h1, e⟩
      · rw [e, show tn (-1) = 0 from by decide, show (-1 : Int32).toInt = -1 from by decide]
        exact ⟨by omega, fun j hj => by rw [tiN (by omega)]; omega⟩
      · rw [e, tnN (by omega), tiN (by omega)]
        exact ⟨by omega, fun j hj => by rw [tiN (by omega)]; omega⟩
    obtain ⟨hz3, hz4⟩ := hz2
    have hz5 := hz4 i (by omega)
    refine x_iload_n 0 dX11_digest_56 rfl rfl ?_
    refine x_aload_n 2 dX11_digest_57 rfl rfl ?_
    refine x_getR fX11_13 dX11_digest_58 l83 rfl ?_
    refine x_iload_n 1 dX11_digest_61 rfl rfl ?_
    refine y_iald dX11_digest_62 l85 (by omega) (by decide) (hf.2 85 r (by decide)) ?_
    refine x_ic_ge 83 dX11_digest_63 (by decide) (fun c_63 => ?_) (fun c_63 => ?_)
    · refine y_iinc (lv' := [(1, _), (2, _), (0, _)]) 1 dX11_digest_83 rfl (by decide) rfl ?_
      refine x_goto 37 dX11_digest_86 (by decide) ?_
      refine x_pick (lv' := [(1, _), (0, _)]) [0, 2] rfl ?_
      obtain rfl : i = tn (S.1 85 r) := (by omega)
      exact kk S1 hf hh
    · refine x_aload_n 2 dX11_digest_66 rfl rfl ?_
      refine x_aload_n 2 dX11_digest_67 rfl rfl ?_
      refine x_iload_n 1 dX11_digest_68 rfl rfl ?_
      refine x_iload_n 0 dX11_digest_69 rfl rfl ?_
      refine x_callVu (as := [_, _]) (rest := [_]) vX11_116 (c_rowAtM hr (by omega) (hf.2 86 _ (by decide))) dX11_digest_70 l83 rfl rfl rfl (Nat.le_of_ble_eq_true rfl) (Nat.le_of_ble_eq_true rfl) (Nat.le_of_ble_eq_true rfl) ?_
      refine x_i2l dX11_digest_73 ?_
      refine x_callVv (as := [_]) (rest := []) vX11_347 (c_X11_mix hh) dX11_digest_74 l83 rfl rfl rfl (Nat.le_of_ble_eq_true rfl) (Nat.le_of_ble_eq_true rfl) (Nat.le_of_ble_eq_true rfl) ?_
      refine y_iinc (lv' := [(2, _), (1, _), (0, _)]) 0 dX11_digest_77 rfl (by decide) rfl ?_
      refine x_goto 56 dX11_digest_80 (by decide) ?_
      refine x_pick (lv' := [(2, _), (1, _), (0, _)]) [0, 1, 2] rfl ?_
      exact ih (tn (S.1 85 r) - (i + 1)) (by omega) (i + 1) _ rfl (by omega) hf.set rdL_eq

set_option maxHeartbeats 4000000 in
set_option maxRecDepth 100000 in
theorem lp_drM2 {S : St} (hS : RwM S) {g : Int64}  : ∀ (r : Nat) (S1 : St), (r ≤ 6) → (FrD S S1) → (S1.2 83 45 = (mixB S 85 86 60 g r)) → X 3 90 mX11_digest (ql (fun r S' => r = mixB S 88 89 100 (mixB S 85 86 60 g 6) 4 ∧ ∃ S2, FrD S S2 ∧ S' = S2)) 37 [(1, .int (nI r)), (0, .ref 83)] [] S1 := by
  intro r S1
  induction hm : 6 - r using Nat.strongRecOn generalizing r S1 with
  | _ mm ih =>
    intro hr hf hh
    refine x_iload_n 0 dX11_digest_37 rfl rfl ?_
    refine x_bipush (v := nI 6) dX11_digest_38 (by decide) ?_
    refine y_ic_ge 89 dX11_digest_40 (by decide) (by omega) (by omega) (fun c_40 => ?_) (fun c_40 => ?_)
    · refine x_iconst (v := nI 0) dX11_digest_89 (by decide) ?_
      refine x_istore_n (lv' := [(1, _), (0, _)]) dX11_digest_90 rfl (by decide) rfl ?_
      refine x_pick (lv' := [(1, _), (0, _)]) [0, 1] rfl ?_
      obtain rfl : r = 6 := (by omega)
      exact lp_dtM2 hS 0 S1 (Nat.zero_le _) hf hh
    · refine x_aload_n 1 dX11_digest_43 rfl rfl ?_
      refine x_aload_n 1 dX11_digest_44 rfl rfl ?_
      refine x_getR fX11_13 dX11_digest_45 l83 rfl ?_
      refine x_iload_n 0 dX11_digest_48 rfl rfl ?_
      refine y_iald dX11_digest_49 l85 (by omega) (by decide) (hf.2 85 r (by decide)) ?_
      refine x_i2l dX11_digest_50 ?_
      refine x_callVv (as := [_]) (rest := []) vX11_347 (c_X11_mix hh) dX11_digest_51 l83 rfl rfl rfl (Nat.le_of_ble_eq_true rfl) (Nat.le_of_ble_eq_true rfl) (Nat.le_of_ble_eq_true rfl) ?_
      refine x_iconst (v := nI 0) dX11_digest_54 (by decide) ?_
      refine x_istore_n (lv' := [(2, _), (1, _), (0, _)]) dX11_digest_55 rfl (by decide) rfl ?_
      refine x_pick (lv' := [(2, _), (1, _), (0, _)]) [0, 1, 2] rfl ?_
      exact lp_drM1 hS (by omega) (fun S2 f2 e2 => ih (6 - (r + 1)) (by omega) (r + 1) S2 rfl (by omega) f2 e2) 0 _ (Nat.zero_le _) hf.set rdL_eq

set_option maxHeartbeats 4000000 in
set_option maxRecDepth 100000 in
theorem lp_digM {S : St} {I : Isl} (hI : IsM I S) (hO : IOK I) {w : Nat → Nat} (hw0 : ∀ t, t < iM I → S.1 93 t = nI (w t)) {L : Nat} (hL : S.1 83 17 = nI L) (hL7 : L ≤ 6) (hv : VS I w L) {c : Nat} (hc : c ≤ 8) {sw si : Nat → Nat} (hs : ∀ i, i < c → S.1 107 i = nI (sw i) ∧ S.1 108 i = nI (si i) ∧ sw i < iW I ∧ si i ≤ 1) (h0 : S.1 83 42 = nI c) {kc kl : Nat → Nat} (hk : ∀ k, k < 3 → S.1 100 k = (if kl k = 0 then -1 else nI (kc k)) ∧ (¬ kl k = 0 → S.1 101 k = nI (kl k) ∧ kc k < 16807)) (hS : RwM S)  : ∀ (a : Nat) (S1 : St), (a ≤ 8) → (FrD S S1) → (S1.2 83 45 = (fl (fun a => ((if a = 0 then nI (iP I) else if a = 1 then nI (iM I) else if a = 2 then nI (iW I) else if a = 3 then S.1 83 29 else if a = 4 then nI (iB I) else if a = 5 then S.1 83 42 else if a = 6 then nI (sm (fun r => if (S.1 85 r).toInt < 0 then 0 else 1) 6) else nI (sm (fun r => if (S.1 88 r).toInt < 0 then 0 else 1) 4)) : Int32).toInt64) 17 a)) → X 3 90 mX11_digest (ql (fun r S' => r = mixB S 88 89 100 (mixB S 85 86 60 (dgK kc kl (iM I) (dgS sw si (fl (dgV I) (fl (dgT I w) (31 * (fl (fun a => ((if a = 0 then nI (iP I) else if a = 1 then nI (iM I) else if a = 2 then nI (iW I) else if a = 3 then S.1 83 29 else if a = 4 then nI (iB I) else if a = 5 then S.1 83 42 else if a = 6 then nI (sm (fun r => if (S.1 85 r).toInt < 0 then 0 else 1) 6) else nI (sm (fun r => if (S.1 88 r).toInt < 0 then 0 else 1) 4)) : Int32).toInt64) 17 8) + (nI L).toInt64) (4 * iM I)) (4 * iW I)) c) 3) 6) 4 ∧ FrD S S')) 9 [(1, .int (nI a)), (0, .ref 83)] [] S1 := by
  intro a S1
  induction hm : 8 - a using Nat.strongRecOn generalizing a S1 with
  | _ mm ih =>
    intro ha hf hh
    have hO1 := hO.1
    have hO2 := hO.2.1
    have hO3 := hO.2.2.1
    have hO4 := hO.2.2.2.1
    have hI1 := hI.fd hf
    refine x_iload_n 0 dX11_digest_9 rfl rfl ?_
    refine x_bipush (v := nI 8) dX11_digest_10 (by decide) ?_
    refine y_ic_ge 31 dX11_digest_12 (by decide) (by omega) (by omega) (fun c_12 => ?_) (fun c_12 => ?_)
    · obtain rfl : a = 8 := (by omega)
      refine x_aload_n 1 dX11_digest_31 rfl rfl ?_
      refine x_callVqv (as := []) (rest := []) vX11_355 (c_X11_mixIsland hI hO hw0 hL hL7 hv hc hs h0 hk hf hh) dX11_digest_32 l83 rfl rfl rfl (Nat.le_of_ble_eq_true rfl) (Nat.le_of_ble_eq_true rfl) (Nat.le_of_ble_eq_true rfl) (fun S_32 q_32 => ?_)
      refine x_iconst (v := nI 0) dX11_digest_35 (by decide) ?_
      refine x_istore_n (lv' := [(1, _), (0, _)]) dX11_digest_36 rfl (by decide) rfl ?_
      refine x_pick (lv' := [(1, _), (0, _)]) [0, 1] rfl ?_
      refine (lp_drM2 hS 0 S_32 (Nat.zero_le _) q_32.1 q_32.2).mono (fun v S' hq => ?_)
      obtain ⟨r, rfl, h1, S2, h2, rfl⟩ := hq
      exact ⟨r, rfl, h1, h2⟩
    · refine x_aload_n 1 dX11_digest_15 rfl rfl ?_
      refine x_aload_n 1 dX11_digest_16 rfl rfl ?_
      refine x_iload_n 0 dX11_digest_17 rfl rfl ?_
      refine x_callVu (as := [_]) (rest := [_]) vX11_339 (c_countedD hI hO hf (a := a) (by omega)) dX11_digest_18 l83 rfl rfl rfl (Nat.le_of_ble_eq_true rfl) (Nat.le_of_ble_eq_true rfl) (Nat.le_of_ble_eq_true rfl) ?_
      refine x_i2l dX11_digest_21 ?_
      refine x_callVv (as := [_]) (rest := []) vX11_347 (c_X11_mix hh) dX11_digest_22 l83 rfl rfl rfl (Nat.le_of_ble_eq_true rfl) (Nat.le_of_ble_eq_true rfl) (Nat.le_of_ble_eq_true rfl) ?_
      refine y_iinc (lv' := [(1, _), (0, _)]) 0 dX11_digest_25 rfl (by decide) rfl ?_
      refine x_goto 9 dX11_digest_28 (by decide) ?_
      refine x_pick (lv' := [(1, _), (0, _)]) [0, 1] rfl ?_
      exact ih (8 - (a + 1)) (by omega) (a + 1) _ rfl (by omega) hf.set rdL_eq

set_option maxHeartbeats 4000000 in
set_option maxRecDepth 100000 in
theorem c_X11_digest {S : St} {I : Isl} (hI : IsM I S) (hO : IOK I) {w : Nat → Nat} (hw0 : ∀ t, t < iM I → S.1 93 t = nI (w t)) {L : Nat} (hL : S.1 83 17 = nI L) (hL7 : L ≤ 6) (hv : VS I w L) {c : Nat} (hc : c ≤ 8) {sw si : Nat → Nat} (hs : ∀ i, i < c → S.1 107 i = nI (sw i) ∧ S.1 108 i = nI (si i) ∧ sw i < iW I ∧ si i ≤ 1) (h0 : S.1 83 42 = nI c) {kc kl : Nat → Nat} (hk : ∀ k, k < 3 → S.1 100 k = (if kl k = 0 then -1 else nI (kc k)) ∧ (¬ kl k = 0 → S.1 101 k = nI (kl k) ∧ kc k < 16807)) (hS : RwM S)  : C 3 90 yX11_digest mX11_digest [.ref 83] S (ql (fun r S' => r = mixB S 88 89 100 (mixB S 85 86 60 (dgK kc kl (iM I) (dgS sw si (fl (dgV I) (fl (dgT I w) (31 * (fl (fun a => ((if a = 0 then nI (iP I) else if a = 1 then nI (iM I) else if a = 2 then nI (iW I) else if a = 3 then S.1 83 29 else if a = 4 then nI (iB I) else if a = 5 then S.1 83 42 else if a = 6 then nI (sm (fun r => if (S.1 85 r).toInt < 0 then 0 else 1) 6) else nI (sm (fun r => if (S.1 88 r).toInt < 0 then 0 else 1) 4)) : Int32).toInt64) 17 8) + (nI L).toInt64) (4 * iM I)) (4 * iW I)) c) 3) 6) 4 ∧ FrD S S')) := by
  refine C.ofX (by decide) rfl (Nat.le_of_ble_eq_true rfl) ?_
  show X 3 90 mX11_digest (ql (fun r S' => r = mixB S 88 89 100 (mixB S 85 86 60 (dgK kc kl (iM I) (dgS sw si (fl (dgV I) (fl (dgT I w) (31 * (fl (fun a => ((if a = 0 then nI (iP I) else if a = 1 then nI (iM I) else if a = 2 then nI (iW I) else if a = 3 then S.1 83 29 else if a = 4 then nI (iB I) else if a = 5 then S.1 83 42 else if a = 6 then nI (sm (fun r => if (S.1 85 r).toInt < 0 then 0 else 1) 6) else nI (sm (fun r => if (S.1 88 r).toInt < 0 then 0 else 1) 4)) : Int32).toInt64) 17 8) + (nI L).toInt64) (4 * iM I)) (4 * iW I)) c) 3) 6) 4 ∧ FrD S S')) 0 [(0, .ref 83)] [] S
  refine x_aload_n 0 dX11_digest_0 rfl rfl ?_
  refine x_ldc2 kX11_353 dX11_digest_1 ?_
  refine x_putL pX11_344 dX11_digest_4 l83 rfl ?_
  refine x_iconst (v := nI 0) dX11_digest_7 (by decide) ?_
  refine x_istore_n (lv' := [(1, _), (0, _)]) dX11_digest_8 rfl (by decide) rfl ?_
  refine x_pick (lv' := [(1, _), (0, _)]) [0, 1] rfl ?_
  exact lp_digM hI hO hw0 hL hL7 hv hc hs h0 hk hS 0 _ (Nat.zero_le _) FrD.refl.set rdL_eq
