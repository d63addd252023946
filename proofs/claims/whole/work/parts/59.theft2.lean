/-! ===== theft, the class ===== -/
theorem txS_t {I : Isl} {L p i s : Nat} {R : Rs} (h : thB I L p (digF (rK R i)) s) : txS I L p i R (s + 1) = rch (txS I L p i R s) (thX I L p (rK R i) s) i 0 (rD R i + 1) := by rw [txS, e2_0 h]
theorem txS_f {I : Isl} {L p i s : Nat} {R : Rs} (h : ¬ thB I L p (digF (rK R i)) s) : txS I L p i R (s + 1) = txS I L p i R s := by rw [txS, e2_1 h]
theorem txS_skip {I : Isl} {L p i s : Nat} {R : Rs} : ∀ d, (∀ j, s ≤ j → j < s + d → ¬ thB I L p (digF (rK R i)) j) → txS I L p i R (s + d) = txS I L p i R s
  | 0, _ => rfl
  | d + 1, h => by rw [← Nat.add_assoc, txS_f (h (s + d) (by omega) (by omega)), txS_skip d (fun j h1 h2 => h j h1 (by omega))]
noncomputable def dpP (I : Isl) (w : Nat → Nat) (L t q u : Nat) : Nat → Nat := fun j => if j < u ∧ (df2 I w L t q).testBit j = true then 4 else w j
theorem dpP_0 {I : Isl} {w : Nat → Nat} {L t q : Nat} : dpP I w L t q 0 = w := by funext j; unfold dpP; rw [if_neg (fun h => by omega)]
theorem dpP_e {I : Isl} (hO : IOK I) {w : Nat → Nat} {L t q : Nat} : dpP I w L t q (iM I) = dpW I w L t q (iM I) := by
  funext j
  unfold dpP dpW df2
  by_cases h : (drF I w q (ovF I w L t q) (iM I)).2.testBit j = true
  · have := (drF_in h).1
    rw [if_pos ⟨this, h⟩, if_pos h]
  · rw [if_neg (fun k => h k.2), if_neg h]
theorem dpP_f {I : Isl} {w : Nat → Nat} {L t q u : Nat} (h : ¬ (df2 I w L t q).testBit u = true) : dpP I w L t q (u + 1) = dpP I w L t q u := by
  funext j
  unfold dpP
  by_cases k : j < u ∧ (df2 I w L t q).testBit j = true
  · rw [if_pos ⟨by omega, k.2⟩, if_pos k]
  · rw [if_neg (fun z => by
      by_cases e : j = u
      · rw [e] at z; exact h z.2
      · exact k ⟨by omega, z.2⟩), if_neg k]
theorem dpP_t {I : Isl} {w : Nat → Nat} {L t q u : Nat} (h : (df2 I w L t q).testBit u = true) : dpP I w L t q (u + 1) = upW (dpP I w L t q u) u 4 := by
  funext j
  by_cases e : j = u
  · subst e
    rw [upW_eq]
    unfold dpP
    rw [if_pos ⟨Nat.lt_succ_self j, h⟩]
  · rw [upW_ne e]
    unfold dpP
    by_cases k : j < u ∧ (df2 I w L t q).testBit j = true
    · rw [if_pos ⟨by omega, k.2⟩, if_pos k]
    · rw [if_neg (fun z => k ⟨by omega, z.2⟩), if_neg k]
theorem add_step {c x y a p : Nat} {z : Int32} (hz : nI c + z = nI x) (h : x + 4 * p = y + a * p) : nI c + (z + (nI 4 - nI a) * nI p) = nI y := by
  rw [← Int32.add_assoc, hz, Int32.sub_mul, pk_mul, pk_mul, Int32.sub_eq_add_neg, ← Int32.add_assoc, ← Int32.sub_eq_add_neg, nI_add, h, ← nI_add, Int32.add_sub_cancel]

set_option maxHeartbeats 400000 in
set_option maxRecDepth 100000 in
theorem c_X8_shift {S : St} {I : Isl} (hI : IsX 11 I S) (hO : IOK I) {w : Nat → Nat} (hp : PlT 55 I w S) (hw7 : ∀ t, t < iM I → w t < 7) {t to : Nat} (ht : t < iM I) : C 0 0 yX8_shift mX8_shift [.ref 82, .int (nI t), .int (nI to)] S (pu (.int ((nI to - nI (w t)) * nI (7 ^ t))) S) := by
  have hO1 := hO.1
  have hO2 := hO.2.1
  have hO3 := hO.2.2.1
  have hO4 := hO.2.2.2.1
  refine C.ofX (by decide) rfl (Nat.le_of_ble_eq_true rfl) ?_
  show X 0 0 mX8_shift (pu (.int ((nI to - nI (w t)) * nI (7 ^ t))) S) 0 [(0, .ref 82), (1, .int (nI t)), (2, .int (nI to))] [] S
  refine x_iload_n 2 dX8_shift_0 rfl rfl ?_
  refine x_aload_n 0 dX8_shift_1 rfl rfl ?_
  refine x_getR fX8_28 dX8_shift_2 l82 rfl ?_
  refine x_getR fX8_82 dX8_shift_5 l55 rfl ?_
  refine x_iload_n 1 dX8_shift_8 rfl rfl ?_
  refine y_iald dX8_shift_9 l56 (by omega) (by decide) (hp.1 t ht) ?_
  refine x_isub dX8_shift_10 ?_
  refine x_getsT rfl dX8_shift_11 ?_
  refine x_iload_n 1 dX8_shift_14 rfl rfl ?_
  refine y_ti dX8_shift_15 (by omega) ?_
  rw [sev_n t (by omega)]
  refine x_imul dX8_shift_16 ?_
  refine x_iret rfl dX8_shift_17 ⟨rfl, rfl⟩

set_option maxHeartbeats 400000 in
set_option maxRecDepth 100000 in
theorem c_X8_reach {R : Rs} {S : St} (h : StX R S) {i c : Nat} {x : Int32} (hi : i < rC R) (hx : nI (rK R i) + x = nI c) (hc : c < 16807) (hr : rIn R c ∨ rC R < 8525) : C 1 30 yX8_reach mX8_reach [.ref 82, .int (nI i), .int x] S (qv (fun S' => Fr (fun a => 68 ≤ a ∧ a ≤ 73) S S' ∧ StX (rch R c i 0 (rD R i + 1)) S')) := by
  have x2 := h.2.1
  have x3 := h.2.2.1 i hi
  refine C.ofX (by decide) rfl (Nat.le_of_ble_eq_true rfl) ?_
  show X 1 30 mX8_reach (qv (fun S' => Fr (fun a => 68 ≤ a ∧ a ≤ 73) S S' ∧ StX (rch R c i 0 (rD R i + 1)) S')) 0 [(0, .ref 82), (1, .int (nI i)), (2, .int x)] [] S
  refine x_aload_n 0 dX8_reach_0 rfl rfl ?_
  refine x_getR fX8_15 dX8_reach_1 l82 rfl ?_
  refine x_aload_n 0 dX8_reach_4 rfl rfl ?_
  refine x_getR fX8_15 dX8_reach_5 l82 rfl ?_
  refine x_getR fX8_42 dX8_reach_8 l68 rfl ?_
  refine x_iload_n 1 dX8_reach_11 rfl rfl ?_
  refine y_iald dX8_reach_12 l69 (by omega) (by decide) x3.1 ?_
  refine x_iload_n 2 dX8_reach_13 rfl rfl ?_
  refine x_iadd dX8_reach_14 ?_
  rw [hx]
  refine x_iload_n 1 dX8_reach_15 rfl rfl ?_
  refine x_iconst (v := nI 0) dX8_reach_16 (by decide) ?_
  refine x_aload_n 0 dX8_reach_17 rfl rfl ?_
  refine x_getR fX8_15 dX8_reach_18 l82 rfl ?_
  refine x_getR fX8_54 dX8_reach_21 l68 rfl ?_
  refine x_iload_n 1 dX8_reach_24 rfl rfl ?_
  refine y_iald dX8_reach_25 l72 (by omega) (by decide) x3.2.2.2.1 ?_
  refine x_iconst (v := nI 1) dX8_reach_26 (by decide) ?_
  refine y_iadd dX8_reach_27 ?_
  refine x_callVqi (as := [_, _, _, _]) (rest := []) vX8_113 (c_X7_reach h hc hr) dX8_reach_28 l68 rfl rfl rfl (Nat.le_of_ble_eq_true rfl) (Nat.le_of_ble_eq_true rfl) (Nat.le_of_ble_eq_true rfl) (fun r_28 S_28 q_28 => ?_)
  refine x_pop dX8_reach_31 rfl ?_
  refine x_vret rfl dX8_reach_32 ⟨rfl, q_28.1, q_28.2.1⟩

/-- one theft is added -/
theorem th_room {I : Isl} {L p i s : Nat} {R : Rs} (hN : rC (txS I L p i R (7 * iM I)) ≤ 8525) (hs : s < 7 * iM I) (hb : thB I L p (digF (rK R i)) s) : rIn (txS I L p i R s) (thX I L p (rK R i) s) ∨ rC (txS I L p i R s) < 8525 := by
  by_cases q : rIn (txS I L p i R s) (thX I L p (rK R i) s)
  · exact Or.inl q
  · refine Or.inr ?_
    have e1 : rC (txS I L p i R (s + 1)) = rC (txS I L p i R s) + 1 := by
      rw [txS_t hb]
      unfold rch
      rw [e2_1 q]
      rfl
    have h := (Pre.txd I L p i R (s + 1) (7 * iM I - (s + 1))).1
    rw [show s + 1 + (7 * iM I - (s + 1)) = 7 * iM I by omega] at h
    omega
theorem th_one {I : Isl} {L p c t to : Nat} (hO : IOK I) (hok : OKc I L c) (ht : t < iM I) (hto : to < 7) (h : ¬ (to < iP I ∧ ¬ to = p)) : nI c + (nI to - nI (digF c t)) * nI (7 ^ t) = nI (thX I L p c (7 * t + to)) := by
  have e : thX I L p c (7 * t + to) = nx I c (7 * t + to) := by
    unfold thX thW nx
    rw [show (7 * t + to) % 7 = to by omega, show (7 * t + to) / 7 = t by omega, e2_1 h]
  rw [e]
  exact nx_arith hO hok ht hto

set_option maxHeartbeats 400000 in
set_option maxRecDepth 100000 in
theorem lp_give {S : St} {I : Isl} (hI : IsX 11 I S) (hO : IOK I) {L p i : Nat} {R : Rs} (hL : S.1 55 5 = nI L) (hL7 : L ≤ 6) (hpp : p < iP I) (hir : i < rC R) (hok : OKc I L (rK R i)) (hN : rC (txS I L p i R (7 * iM I)) ≤ 8525) (hp : PlT 55 I (digF (rK R i)) S) {t q : Nat} (ht : t < iM I) (hq : q < iP I) (hwt : (digF (rK R i)) t = p) (hx : StX (txS I L p i R (7 * t + q)) S) (hqp : ¬ q = p) (hdf : ¬ dfF I (digF (rK R i)) L t q = -9)  : ∀ (u : Nat) (x : Int32), (u ≤ iM I) → (nI (rK R i) + x = nI (codeN (iM I) (upW (dpP I (digF (rK R i)) L t q u) t q))) → X 2 60 mX8_give (qv (fun S' => Fr (fun a => 68 ≤ a ∧ a ≤ 73) S S' ∧ StX (txS I L p i R (7 * t + q + 1)) S')) 44 [(6, .int (nI u)), (5, .int x), (4, .int (nI ((df2 I (digF (rK R i)) L t q)))), (0, .ref 82), (1, .int (nI i)), (2, .int (nI t)), (3, .int (nI q))] [] S := by
  intro u x
  induction hm : iM I - u using Nat.strongRecOn generalizing u x with
  | _ mm ih =>
    intro hu hc
    have hO1 := hO.1
    have hO2 := hO.2.1
    have hO3 := hO.2.2.1
    have hO4 := hO.2.2.2.1
    have hwk := hok.2.ok hO
    have hw7 := hwk.w7 hO
    have hcl := hok.lt hO
    have hd32 := df2_lt hO (digF (rK R i)) L t q
    have hb : thB I L p (digF (rK R i)) (7 * t + q) := Or.inl (by rw [show (7 * t + q) % 7 = q by omega, show (7 * t + q) / 7 = t by omega]; exact ⟨hq, hqp, hwt, hdf⟩)
    have hvs := OKc.code hO (th_VS hO hok.2 hpp (by omega) hb)
    have hxl : thX I L p (rK R i) (7 * t + q) < 16807 := hvs.lt hO
    have hpr := Pre.tx I L p i R (7 * t + q)
    have ebit : (df2 I (digF (rK R i)) L t q) / 2 ^ u % 2 = 1 ↔ (df2 I (digF (rK R i)) L t q).testBit u = true := has_iff
    refine x_iload 0 dX8_give_44 rfl ?_
    refine x_aload_n 3 dX8_give_46 rfl rfl ?_
    refine x_getR fX8_9 dX8_give_47 l82 rfl ?_
    refine y_getI fX8_77 dX8_give_50 l11 rfl hI.2.1 ?_
    refine y_ic_ge 84 dX8_give_53 (by decide) (by omega) (by omega) (fun c_53 => ?_) (fun c_53 => ?_)
    · obtain rfl : u = iM I := (by omega)
      have et : thX I L p (rK R i) (7 * t + q) = (codeN (iM I) (upW (dpP I (digF (rK R i)) L t q (iM I)) t q)) := by
        unfold thX thW codeF
        rw [show (7 * t + q) % 7 = q by omega, show (7 * t + q) / 7 = t by omega, e2_0 ⟨hq, hqp⟩, dpP_e hO]
      rw [← et] at hc
      refine x_aload_n 3 dX8_give_84 rfl rfl ?_
      refine x_iload_n 4 dX8_give_85 rfl rfl ?_
      refine x_iload 1 dX8_give_86 rfl ?_
      refine x_callVqv (as := [_, _]) (rest := []) vX8_100 (c_X8_reach hx (Nat.lt_of_lt_of_le hir hpr.1) (by rw [(hpr.2 i hir).1]; exact hc) hxl (th_room hN (by omega) hb)) dX8_give_88 l82 rfl rfl rfl (Nat.le_of_ble_eq_true rfl) (Nat.le_of_ble_eq_true rfl) (Nat.le_of_ble_eq_true rfl) (fun S_88 q_88 => ?_)
      refine x_vret rfl dX8_give_91 ⟨rfl, q_88.1, by have h := q_88.2; rw [(hpr.2 i hir).2.2.2, ← txS_t hb] at h; exact h⟩
    · refine x_iload 2 dX8_give_56 rfl ?_
      refine x_iload 0 dX8_give_58 rfl ?_
      refine y_ishr dX8_give_60 (by omega) (by omega) ?_
      refine x_iconst (v := nI 1) dX8_give_61 (by decide) ?_
      refine y_iand dX8_give_62 ?_
      rw [show (((df2 I (digF (rK R i)) L t q) / 2 ^ u) &&& 1) = ((df2 I (digF (rK R i)) L t q) / 2 ^ u % 2) from by rw [Nat.and_one_is_mod]]
      refine y_if_eq 78 dX8_give_63 (by decide) (by omega) (fun c_63 => ?_) (fun c_63 => ?_)
      · refine y_iinc (lv' := [(6, _), (5, _), (4, _), (0, _), (1, _), (2, _), (3, _)]) 0 dX8_give_78 rfl (by decide) rfl ?_
        refine x_goto 44 dX8_give_81 (by decide) ?_
        refine x_pick (lv' := [(6, _), (5, _), (4, _), (0, _), (1, _), (2, _), (3, _)]) [0, 1, 2, 3, 4, 5, 6] rfl ?_
        exact ih (iM I - (u + 1)) (by omega) (u + 1) _ rfl (by omega) (by rw [dpP_f (fun k => by have := ebit.mpr k; omega)]; exact hc)
      · refine x_iload 1 dX8_give_66 rfl ?_
        refine x_aload_n 3 dX8_give_68 rfl rfl ?_
        refine x_iload 0 dX8_give_69 rfl ?_
        refine x_iconst (v := nI 4) dX8_give_71 (by decide) ?_
        refine x_callVu (as := [_, _]) (rest := [_]) vX8_96 (c_X8_shift hI hO hp hw7 (t := u) (to := 4) (by omega)) dX8_give_72 l82 rfl rfl rfl (Nat.le_of_ble_eq_true rfl) (Nat.le_of_ble_eq_true rfl) (Nat.le_of_ble_eq_true rfl) ?_
        refine x_iadd dX8_give_75 ?_
        refine x_istore (lv' := [(5, _), (6, _), (4, _), (0, _), (1, _), (2, _), (3, _)]) dX8_give_76 (by decide) rfl ?_
        refine y_iinc (lv' := [(6, _), (5, _), (4, _), (0, _), (1, _), (2, _), (3, _)]) 1 dX8_give_78 rfl (by decide) rfl ?_
        refine x_goto 44 dX8_give_81 (by decide) ?_
        refine x_pick (lv' := [(6, _), (5, _), (4, _), (0, _), (1, _), (2, _), (3, _)]) [0, 1, 2, 3, 4, 5, 6] rfl ?_
        have hbu := ebit.mp (by omega)
        refine ih (iM I - (u + 1)) (by omega) (u + 1) _ rfl (by omega) (add_step hc ?_)
        have hwu := drF_in hbu
        have hut : ¬ u = t := fun e => by rw [e] at hwu; exact hqp (hwu.2.1.symm.trans hwt)
        have e1 : upW (dpP I (digF (rK R i)) L t q (u + 1)) t q = upW (upW (dpP I (digF (rK R i)) L t q u) t q) u 4 := by
          rw [dpP_t hbu]
          funext j
          by_cases e : j = t
          · rw [e, upW_eq, upW_ne (fun k => hut k.symm), upW_eq]
          · rw [upW_ne e]
            by_cases e2 : j = u
            · rw [e2, upW_eq, upW_eq]
            · rw [upW_ne e2, upW_ne e2, upW_ne e]
        have e2 : upW (dpP I (digF (rK R i)) L t q u) t q u = (digF (rK R i)) u := by
          rw [upW_ne hut]
          unfold dpP
          rw [if_neg (fun k => by omega)]
        have h := code_up (m := iM I) (w := upW (dpP I (digF (rK R i)) L t q u) t q) (t := u) (by omega) 4
        rw [← e1, e2] at h
        exact h.symm

set_option maxHeartbeats 400000 in
set_option maxRecDepth 100000 in
theorem c_X8_give {S : St} {I : Isl} (hI : IsX 11 I S) (hO : IOK I) {L p i : Nat} {R : Rs} (hL : S.1 55 5 = nI L) (hL7 : L ≤ 6) (hpp : p < iP I) (hir : i < rC R) (hok : OKc I L (rK R i)) (hN : rC (txS I L p i R (7 * iM I)) ≤ 8525) (hp : PlT 55 I (digF (rK R i)) S) {t q : Nat} (ht : t < iM I) (hq : q < iP I) (hwt : (digF (rK R i)) t = p) (hx : StX (txS I L p i R (7 * t + q)) S)  : C 2 60 yX8_give mX8_give [.ref 82, .int (nI i), .int (nI t), .int (nI q)] S (qv (fun S' => Fr (fun a => 68 ≤ a ∧ a ≤ 73) S S' ∧ StX (txS I L p i R (7 * t + q + 1)) S')) := by
  have hO1 := hO.1
  have hO2 := hO.2.1
  have hO3 := hO.2.2.1
  have hO4 := hO.2.2.2.1
  have hwk := hok.2.ok hO
  have hw7 := hwk.w7 hO
  have hcl := hok.lt hO
  have hd32 := df2_lt hO (digF (rK R i)) L t q
  have hwt7 := hw7 t ht
  refine C.ofX (by decide) rfl (Nat.le_of_ble_eq_true rfl) ?_
  show X 2 60 mX8_give (qv (fun S' => Fr (fun a => 68 ≤ a ∧ a ≤ 73) S S' ∧ StX (txS I L p i R (7 * t + q + 1)) S')) 0 [(0, .ref 82), (1, .int (nI i)), (2, .int (nI t)), (3, .int (nI q))] [] S
  refine x_iload_n 3 dX8_give_0 rfl rfl ?_
  refine x_aload_n 0 dX8_give_1 rfl rfl ?_
  refine x_getR fX8_28 dX8_give_2 l82 rfl ?_
  refine x_getR fX8_82 dX8_give_5 l55 rfl ?_
  refine x_iload_n 2 dX8_give_8 rfl rfl ?_
  refine y_iald dX8_give_9 l56 (by omega) (by decide) (hp.1 t ht) ?_
  refine y_ic_ne 14 dX8_give_10 (by decide) (by omega) (by omega) (fun c_10 => ?_) (fun c_10 => ?_)
  · refine x_aload_n 0 dX8_give_14 rfl rfl ?_
    refine x_getR fX8_28 dX8_give_15 l82 rfl ?_
    refine x_iload_n 2 dX8_give_18 rfl rfl ?_
    refine x_iload_n 3 dX8_give_19 rfl rfl ?_
    refine x_callVu (as := [_, _]) (rest := []) vX8_107 (c_X3_droppedFor (Or.inr (Or.inr (Or.inr (Or.inr rfl)))) hI hO hp hL (by omega) hw7 ht (by omega)) dX8_give_20 l55 rfl rfl rfl (Nat.le_of_ble_eq_true rfl) (Nat.le_of_ble_eq_true rfl) (Nat.le_of_ble_eq_true rfl) ?_
    refine x_istore (lv' := [(4, _), (0, _), (1, _), (2, _), (3, _)]) dX8_give_23 (by decide) rfl ?_
    refine x_iload 0 dX8_give_25 rfl ?_
    refine x_bipush (v := -9) dX8_give_27 (by decide) ?_
    refine x_ic_ne 33 dX8_give_29 (by decide) (fun c_29 => ?_) (fun c_29 => ?_)
    · rw [show ((4, Value.int (dfF I (digF (rK R i)) L t q)) : Nat × Value) = (4, Value.int (nI (df2 I (digF (rK R i)) L t q))) from by rw [dfF_n c_29]]
      refine x_aload_n 1 dX8_give_33 rfl rfl ?_
      refine x_iload_n 3 dX8_give_34 rfl rfl ?_
      refine x_iload_n 4 dX8_give_35 rfl rfl ?_
      refine x_callVu (as := [_, _]) (rest := []) vX8_96 (c_X8_shift hI hO hp hw7 ht) dX8_give_36 l82 rfl rfl rfl (Nat.le_of_ble_eq_true rfl) (Nat.le_of_ble_eq_true rfl) (Nat.le_of_ble_eq_true rfl) ?_
      refine x_istore (lv' := [(5, _), (4, _), (0, _), (1, _), (2, _), (3, _)]) dX8_give_39 (by decide) rfl ?_
      refine x_iconst (v := nI 0) dX8_give_41 (by decide) ?_
      refine x_istore (lv' := [(6, _), (5, _), (4, _), (0, _), (1, _), (2, _), (3, _)]) dX8_give_42 (by decide) rfl ?_
      refine x_pick (lv' := [(6, _), (5, _), (4, _), (0, _), (1, _), (2, _), (3, _)]) [0, 1, 2, 3, 4, 5, 6] rfl ?_
      refine lp_give hI hO hL hL7 hpp hir hok hN hp ht hq hwt hx (by omega) c_29 0 _ (Nat.zero_le _) ?_
      rw [dpP_0]
      have h := nx_arith hO hok ht (show q < 7 by omega)
      unfold nx codeF at h
      rw [show (7 * t + q) % 7 = q by omega, show (7 * t + q) / 7 = t by omega] at h
      exact h
    · refine x_vret rfl dX8_give_32 ⟨rfl, Fr.refl, by rw [txS_f (fun k => by unfold thB at k; rw [show (7 * t + q) % 7 = q by omega, show (7 * t + q) / 7 = t by omega] at k; rcases k with k | k | k; exact k.2.2.2 c_29; omega; omega)]; exact hx⟩
  · refine x_vret rfl dX8_give_13 ⟨rfl, Fr.refl, by rw [txS_f (fun k => by unfold thB at k; rw [show (7 * t + q) % 7 = q by omega, show (7 * t + q) / 7 = t by omega] at k; omega)]; exact hx⟩
