/-! ===== theft, the class ===== -/
theorem txS_t {I : Isl} {L p i s : Nat} {R : Rs} (h : thB I L p (digF (rK R i)) s) : txS I L p i R (s + 1) = rch (txS I L p i R s) (thX I L p (rK R i) s) i 0 (rD R i + 1) := by rw [txS, e2_0 h]
theorem txS_f {I : Isl} {L p i s : Nat} {R : Rs} (h : ¬ thB I L p (digF (rK R i)) s) : txS I L p i R (s + 1) = txS I L p i R s := by rw [txS, e2_1 h]
theorem txS_skip {I : Isl} {L p i s : Nat} {R : Rs} : ∀ d, (∀ j, s ≤ j → j < s + d → ¬ thB I L p (digF (rK R i)) j) → txS I L p i R (s + d) = txS I L p i R s
  | 0, _ => rfl
  | d + 1, h => by rw [← Nat.add_assoc, txS_f (h (s + d) (by omega) (by omega)), txS_skip d (fun j h1 h2 => h j h1 (by omega))]
noncomputable def dpP (I : Isl) (w : Nat → Nat) (L t q u : Nat) : Nat → Nat := fun j => if j < u ∧ (df2 I w L t q).testBit j = true then 4 else w j
theorem dpP_0 {I : Isl} {w : Nat → Nat} {L t q : Nat} : dpP I w L t q 0 = w := by funext j; unfold dpP; rw [if_neg (fun h => by omega)]
theorem dpP_e {I : Isl} (hO : IOK I) {w : Nat → Nat} {L t q : Nat} : dpP I w L t q (iM I) = dpW I w L t q (iM I) := by
  funext j
  unfold dpP dpW df2
  by_cases h : (drF I w q (ovF I w L t q) (iM I)).2.testBit j = true
  · have := (drF_in h).1
    rw [if_pos ⟨this, h⟩, if_pos h]
  · rw [if_neg (fun k => h k.2), if_neg h]
theorem dpP_f {I : Isl} {w : Nat → Nat} {L t q u : Nat} (h : ¬ (df2 I w L t q).testBit u = true) : dpP I w L t q (u + 1) = dpP I w L t q u := by
  funext j
  unfold dpP
  by_cases k : j < u ∧ (df2 I w L t q).testBit j = true
  · rw [if_pos ⟨by omega, k.2⟩, if_pos k]
  · rw [if_neg (fun z => by
      by_cases e : j = u
      · rw [e] at z; exact h z.2
      · exact k ⟨by omega, z.2⟩), if_neg k]
theorem dpP_t {I : Isl} {w : Nat → Nat} {L t q u : Nat} (h : (df2 I w L t q).testBit u = true) : dpP I w L t q (u + 1) = upW (dpP I w L t q u) u 4 := by
  funext j
  by_cases e : j = u
  · subst e
    rw [upW_eq]
    unfold dpP
    rw [if_pos ⟨Nat.lt_succ_self j, h⟩]
  · rw [upW_ne e]
    unfold dpP
    by_cases k : j < u ∧ (df2 I w L t q).testBit j = true
    · rw [if_pos ⟨by omega, k.2⟩, if_pos k]
    · rw [if_neg (fun z => k ⟨by omega, z.2⟩), if_neg k]
theorem add_step {c x y a p : Nat} {z : Int32} (hz : nI c + z = nI x) (h : x + 4 * p = y + a * p) : nI c + (z + (nI 4 - nI a) * nI p) = nI y := by
  rw [← Int32.add_assoc, hz, Int32.sub_mul, pk_mul, pk_mul, Int32.sub_eq_add_neg, ← Int32.add_assoc, ← Int32.sub_eq_add_neg, nI_add, h, ← nI_add, Int32.add_sub_cancel]

set_option maxHeartbeats 4000000 in
set_option maxRecDepth 100000 in
theorem c_X8_shift {S : St} {I : Isl} (hI : IsX 11 I S) (hO : IOK I) {w : Nat → Nat} (hp : PlT 55 I w S) (hw7 : ∀ t, t < iM I → w t < 7) {t to : Nat} (ht : t < iM I) : C 0 0 yX8_shift mX8_shift [.ref 82, .int (nI t), .int (nI to)] S (pu (.int ((nI to - nI (w t)) * nI (7 ^ t))) S) := by
  have hO1 := hO.1
  have hO2 := hO.2.1
  have hO3 := hO.2.2.1
  have hO4 := hO.2.2.2.1
  refine C.ofX (by decide) rfl (Nat.le_of_ble_eq_true rfl) ?_
  show X 0 0 mX8_shift (pu (.int ((nI to - nI (w t)) * nI (7 ^ t))) S) 0 [(0, .ref 82), (1, .int (nI t)), (2, .int (nI to))] [] S
  refine x_iload_n 2 dX8_shift_0 rfl rfl ?_
  refine x_aload_n 0 dX8_shift_1 rfl rfl ?_
  refine x_getR fX8_28 dX8_shift_2 l82 rfl ?_
  refine x_getR fX8_82 dX8_shift_5 l55 rfl ?_
  refine x_iload_n 1 dX8_shift_8 rfl rfl ?_
  refine y_iald dX8_shift_9 l56 (by omega) (by decide) (hp.1 t ht) ?_
  refine x_isub dX8_shift_10 ?_
  refine x_getsT rfl dX8_shift_11 ?_
  refine x_iload_n 1 dX8_shift_14 rfl rfl ?_
  refine y_ti dX8_shift_15 (by omega) ?_
  rw [sev_n t (by omega)]
  refine x_imul dX8_shift_16 ?_
  refine x_iret rfl dX8_shift_17 ⟨rfl, rfl⟩

set_option maxHeartbeats 4000000 in
set_option maxRecDepth 100000 in
theorem c_X8_reach {R : Rs} {S : St} (h : StX R S) {i c : Nat} {x : Int32} (hi : i < rC R) (hx : nI (rK R i) + x = nI c) (hc : c < 16807) (hr : rIn R c ∨ rC R < 8525) : C 1 30 yX8_reach mX8_reach [.ref 82, .int (nI i), .int x] S (qv (fun S' => Fr (fun a => 68 ≤ a ∧ a ≤ 73) S S' ∧ StX (rch R c i 0 (rD R i + 1)) S')) := by
  have x2 := h.2.1
  have x3 := h.2.2.1 i hi
  refine C.ofX (by decide) rfl (Nat.le_of_ble_eq_true rfl) ?_
  show X 1 30 mX8_reach (qv (fun S' => Fr (fun a => 68 ≤ a ∧ a ≤ 73) S S' ∧ StX (rch R c i 0 (rD R i + 1)) S')) 0 [(0, .ref 82), (1, .int (nI i)), (2, .int x)] [] S
  refine x_aload_n 0 dX8_reach_0 rfl rfl ?_
  refine x_getR fX8_15 dX8_reach_1 l82 rfl ?_
  refine x_aload_n 0 dX8_reach_4 rfl rfl ?_
  refine x_getR fX8_15 dX8_reach_5 l82 rfl ?_
  refine x_getR fX8_42 dX8_reach_8 l68 rfl ?_
  refine x_iload_n 1 dX8_reach_11 rfl rfl ?_
  refine y_iald dX8_reach_12 l69 (by omega) (by decide) x3.1 ?_
  refine x_iload_n 2 dX8_reach_13 rfl rfl ?_
  refine x_iadd dX8_reach_14 ?_
  rw [hx]
  refine x_iload_n 1 dX8_reach_15 rfl rfl ?_
  refine x_iconst (v := nI 0) dX8_reach_16 (by decide) ?_
  refine x_aload_n 0 dX8_reach_17 rfl rfl ?_
  refine x_getR fX8_15 dX8_reach_18 l82 rfl ?_
  refine x_getR fX8_54 dX8_reach_21 l68 rfl ?_
  refine x_iload_n 1 dX8_reach_24 rfl rfl ?_
  refine y_iald dX8_reach_25 l72 (by omega) (by decide) x3.2.2.2.1 ?_
  refine x_iconst (v := nI 1) dX8_reach_26 (by decide) ?_
  refine y_iadd dX8_reach_27 ?_
  refine x_callVqi (as := [_, _, _, _]) (rest := []) vX8_113 (c_X7_reach h hc hr) dX8_reach_28 l68 rfl rfl rfl (Nat.le_of_ble_eq_true rfl) (Nat.le_of_ble_eq_true rfl) (Nat.le_of_ble_eq_true rfl) (fun r_28 S_28 q_28 => ?_)
  refine x_pop dX8_reach_31 rfl ?_
  refine x_vret rfl dX8_reach_32 ⟨rfl, q_28.1, q_28.2.1⟩

/-- one theft is added -/
theorem th_room {I : Isl} {L p i s : Nat} {R : Rs} (hN : rC (txS I L p i R (7 * iM I)) ≤ 8525) (hs : s < 7 * iM I) (hb : thB I L p (digF (rK R i)) s) : rIn (txS I L p i R s) (thX I L p (rK R i) s) ∨ rC (txS I L p i R s) < 8525 := by
  by_cases q : rIn (txS I L p i R s) (thX I L p (rK R i) s)
  · exact Or.inl q
  · refine Or.inr ?_
    have e1 : rC (txS I L p i R (s + 1)) = rC (txS I L p i R s) + 1 := by
      rw [txS_t hb]
      unfold rch
      rw [e2_1 q]
      rfl
    have h := (Pre.txd I L p i R (s + 1) (7 * iM I - (s + 1))).1
    rw [show s + 1 + (7 * iM I - (s + 1)) = 7 * iM I by omega] at h
    omega
theorem th_one {I : Isl} {L p c t to : Nat} (hO : IOK I) (hok : OKc I L c) (ht : t < iM I) (hto : to < 7) (h : ¬ (to < iP I ∧ ¬ to = p)) : nI c + (nI to - nI (digF c t)) * nI (7 ^ t) = nI (thX I L p c (7 * t + to)) := by
  have e : thX I L p c (7 * t + to) = nx I c (7 * t + to) := by
    unfold thX thW nx
    rw [show (7 * t + to) % 7 = to by omega, show (7 * t + to) / 7 = t by omega, e2_1 h]
  rw [e]
  exact nx_arith hO hok ht hto

set_option maxHeartbeats 4000000 in
set_option maxRecDepth 100000 in
theorem lp_give {S : St} {I : Isl} (hI : IsX 11 I S) (hO : IOK I) {L p i : Nat} {R : Rs} (hL : S.1 55 5 = nI L) (hL7 : L ≤ 6) (hpp : p < iP I) (hir : i < rC R) (hok : OKc I L (rK R i)) (hN : rC (txS I L p i R (7 * iM I)) ≤ 8525) (hp : PlT 55 I (digF (rK R i)) S) {t q : Nat} (ht : t < iM I) (hq : q < iP I) (hwt : (digF (rK R i)) t = p) (hx : StX (txS I L p i R (7 * t + q)) S) (hqp : ¬ q = p) (hdf : ¬ dfF I (digF (rK R i)) L t q = -9)  : ∀ (u : Nat) (x : Int32), (u ≤ iM I) → (nI (rK R i) + x = nI (codeN (iM I) (upW (dpP I (digF (rK R i)) L t q u) t q))) → X 3 90 mX8_give (qv (fun S' => Fr (fun a => 68 ≤ a ∧ a ≤ 73) S S' ∧ StX (txS I L p i R (7 * t + q + 1)) S')) 44 [(6, .int (nI u)), (5, .int x), (4, .int (nI ((df2 I (digF (rK R i)) L t q)))), (0, .ref 82), (1, .int (nI i)), (2, .int (nI t)), (3, .int (nI q))] [] S := by
  intro u x
  induction hm : iM I - u using Nat.strongRecOn generalizing u x with
  | _ mm ih =>
    intro hu hc
    have hO1 := hO.1
    have hO2 := hO.2.1
    have hO3 := hO.2.2.1
    have hO4 := hO.2.2.2.1
    have hwk := hok.2.ok hO
    have hw7 := hwk.w7 hO
    have hcl := hok.lt hO
    have hd32 := df2_lt hO (digF (rK R i)) L t q
    have hb : thB I L p (digF (rK R i)) (7 * t + q) := Or.inl (by rw [show (7 * t + q) % 7 = q by omega, show (7 * t + q) / 7 = t by omega]; exact ⟨hq, hqp, hwt, hdf⟩)
    have hvs := OKc.code hO (th_VS hO hok.2 hpp (by omega) hb)
    have hxl : thX I L p (rK R i) (7 * t + q) < 16807 := hvs.lt hO
    have hpr := Pre.tx I L p i R (7 * t + q)
    have ebit : (df2 I (digF (rK R i)) L t q) / 2 ^ u % 2 = 1 ↔ (df2 I (digF (rK R i)) L t q).testBit u = true := has_iff
    refine x_iload 0 dX8_give_44 rfl ?_
    refine x_aload_n 3 dX8_give_46 rfl rfl ?_
    refine x_getR fX8_9 dX8_give_47 l82 rfl ?_
    refine y_getI fX8_77 dX8_give_50 l11 rfl hI.2.1 ?_
    refine y_ic_ge 84 dX8_give_53 (by decide) (by omega) (by omega) (fun c_53 => ?_) (fun c_53 => ?_)
    · obtain rfl : u = iM I := (by omega)
      have et : thX I L p (rK R i) (7 * t + q) = (codeN (iM I) (upW (dpP I (digF (rK R i)) L t q (iM I)) t q)) := by
        unfold thX thW codeF
        rw [show (7 * t + q) % 7 = q by omega, show (7 * t + q) / 7 = t by omega, e2_0 ⟨hq, hqp⟩, dpP_e hO]
      rw [← et] at hc
      refine x_aload_n 3 dX8_give_84 rfl rfl ?_
      refine x_iload_n 4 dX8_give_85 rfl rfl ?_
      refine x_iload 1 dX8_give_86 rfl ?_
      refine x_callVqv (as := [_, _]) (rest := []) vX8_100 (c_X8_reach hx (Nat.lt_of_lt_of_le hir hpr.1) (by rw [(hpr.2 i hir).1]; exact hc) hxl (th_room hN (by omega) hb)) dX8_give_88 l82 rfl rfl rfl (Nat.le_of_ble_eq_true rfl) (Nat.le_of_ble_eq_true rfl) (Nat.le_of_ble_eq_true rfl) (fun S_88 q_88 => ?_)
      refine x_vret rfl dX8_give_91 ⟨rfl, q_88.1, by have h := q_88.2; rw [(hpr.2 i hir).2.2.2, ← txS_t hb] at h; exact h⟩
    · refine x_iload 2 dX8_give_56 rfl ?_
      refine x_iload 0 dX8_give_58 rfl ?_
      refine y_ishr dX8_give_60 (by omega) (by omega) ?_
      refine x_iconst (v := nI 1) dX8_give_61 (by decide) ?_
      refine y_iand dX8_give_62 ?_
      rw [show (((df2 I (digF (rK R i)) L t q) / 2 ^ u) &&& 1) = ((df2 I (digF (rK R i)) L t q) / 2 ^ u % 2) from by rw [Nat.and_one_is_mod]]
      refine y_if_eq 78 dX8_give_63 (by decide) (by omega) (fun c_63 => ?_) (fun c_63 => ?_)
      · refine y_iinc (lv' := [(6, _), (5, _), (4, _), (0, _), (1, _), (2, _), (3, _)]) 0 dX8_give_78 rfl (by decide) rfl ?_
        refine x_goto 44 dX8_give_81 (by decide) ?_
        refine x_pick (lv' := [(6, _), (5, _), (4, _), (0, _), (1, _), (2, _), (3, _)]) [0, 1, 2, 3, 4, 5, 6] rfl ?_
        exact ih (iM I - (u + 1)) (by omega) (u + 1) _ rfl (by omega) (by rw [dpP_f (fun k => by have := ebit.mpr k; omega)]; exact hc)
      · refine x_iload 1 dX8_give_66 rfl ?_
        refine x_aload_n 3 dX8_give_68 rfl rfl ?_
        refine x_iload 0 dX8_give_69 rfl ?_
        refine x_iconst (v := nI 4) dX8_give_71 (by decide) ?_
        refine x_callVu (as := [_, _]) (rest := [_]) vX8_96 (c_X8_shift hI hO hp hw7 (t := u) (to := 4) (by omega)) dX8_give_72 l82 rfl rfl rfl (Nat.le_of_ble_eq_true rfl) (Nat.le_of_ble_eq_true rfl) (Nat.le_of_ble_eq_true rfl) ?_
        refine x_iadd dX8_give_75 ?_
        refine x_istore (lv' := [(5, _), (6, _), (4, _), (0, _), (1, _), (2, _), (3, _)]) dX8_give_76 (by decide) rfl ?_
        refine y_iinc (lv' := [(6, _), (5, _), (4, _), (0, _), (1, _), (2, _), (3, _)]) 1 dX8_give_78 rfl (by decide) rfl ?_
        refine x_goto 44 dX8_give_81 (by decide) ?_
        refine x_pick (lv' := [(6, _), (5, _), (4, _), (0, _), (1, _), (2, _), (3, _)]) [0, 1, 2, 3, 4, 5, 6] rfl ?_
        have hbu := ebit.mp (by omega)
        refine ih (iM I - (u + 1)) (by omega) (u + 1) _ rfl (by omega) (add_step hc ?_)
        have hwu := drF_in hbu
        have hut : ¬ u = t := fun e => by rw [e] at hwu; exact hqp (hwu.2.1.symm.trans hwt)
        have e1 : upW (dpP I (digF (rK R i)) L t q (u + 1)) t q = upW (upW (dpP I (digF (rK R i)) L t q u) t q) u 4 := by
          rw [dpP_t hbu]
          funext j
          by_cases e : j = t
          · rw [e, upW_eq, upW_ne (fun k => hut k.symm), upW_eq]
          · rw [upW_ne e]
            by_cases e2 : j = u
            · rw [e2, upW_eq, upW_eq]
            · rw [upW_ne e2, upW_ne e2, upW_ne e]
        have e2 : upW (dpP I (digF (rK R i)) L t q u) t q u = (digF (rK R i)) u := by
          rw [upW_ne hut]
          unfold dpP
          rw [if_neg (fun k => by omega)]
        have h := code_up (m := iM I) (w := upW (dpP I (digF (rK R i)) L t q u) t q) (t := u) (by omega) 4
        rw [← e1, e2] at h
        exact h.symm

set_option maxHeartbeats 4000000 in
set_option maxRecDepth 100000 in
theorem c_X8_give {S : St} {I : Isl} (hI : IsX 11 I S) (hO : IOK I) {L p i : Nat} {R : Rs} (hL : S.1 55 5 = nI L) (hL7 : L ≤ 6) (hpp : p < iP I) (hir : i < rC R) (hok : OKc I L (rK R i)) (hN : rC (txS I L p i R (7 * iM I)) ≤ 8525) (hp : PlT 55 I (digF (rK R i)) S) {t q : Nat} (ht : t < iM I) (hq : q < iP I) (hwt : (digF (rK R i)) t = p) (hx : StX (txS I L p i R (7 * t + q)) S)  : C 3 90 yX8_give mX8_give [.ref 82, .int (nI i), .int (nI t), .int (nI q)] S (qv (fun S' => Fr (fun a => 68 ≤ a ∧ a ≤ 73) S S' ∧ StX (txS I L p i R (7 * t + q + 1)) S')) := by
  have hO1 := hO.1
  have hO2 := hO.2.1
  have hO3 := hO.2.2.1
  have hO4 := hO.2.2.2.1
  have hwk := hok.2.ok hO
  have hw7 := hwk.w7 hO
  have hcl := hok.lt hO
  have hd32 := df2_lt hO (digF (rK R i)) L t q
  have hwt7 := hw7 t ht
  refine C.ofX (by decide) rfl (Nat.le_of_ble_eq_true rfl) ?_
  show X 3 90 mX8_give (qv (fun S' => Fr (fun a => 68 ≤ a ∧ a ≤ 73) S S' ∧ StX (txS I L p i R (7 * t + q + 1)) S')) 0 [(0, .ref 82), (1, .int (nI i)), (2, .int (nI t)), (3, .int (nI q))] [] S
  refine x_iload_n 3 dX8_give_0 rfl rfl ?_
  refine x_aload_n 0 dX8_give_1 rfl rfl ?_
  refine x_getR fX8_28 dX8_give_2 l82 rfl ?_
  refine x_getR fX8_82 dX8_give_5 l55 rfl ?_
  refine x_iload_n 2 dX8_give_8 rfl rfl ?_
  refine y_iald dX8_give_9 l56 (by omega) (by decide) (hp.1 t ht) ?_
  refine y_ic_ne 14 dX8_give_10 (by decide) (by omega) (by omega) (fun c_10 => ?_) (fun c_10 => ?_)
  · refine x_aload_n 0 dX8_give_14 rfl rfl ?_
    refine x_getR fX8_28 dX8_give_15 l82 rfl ?_
    refine x_iload_n 2 dX8_give_18 rfl rfl ?_
    refine x_iload_n 3 dX8_give_19 rfl rfl ?_
    refine x_callVu (as := [_, _]) (rest := []) vX8_107 (c_X3_droppedFor (Or.inr (Or.inr (Or.inr (Or.inr rfl)))) hI hO hp hL (by omega) hw7 ht (by omega)) dX8_give_20 l55 rfl rfl rfl (Nat.le_of_ble_eq_true rfl) (Nat.le_of_ble_eq_true rfl) (Nat.le_of_ble_eq_true rfl) ?_
    refine x_istore (lv' := [(4, _), (0, _), (1, _), (2, _), (3, _)]) dX8_give_23 (by decide) rfl ?_
    refine x_iload 0 dX8_give_25 rfl ?_
    refine x_bipush (v := -9) dX8_give_27 (by decide) ?_
    refine x_ic_ne 33 dX8_give_29 (by decide) (fun c_29 => ?_) (fun c_29 => ?_)
    · rw [show ((4, Value.int (dfF I (digF (rK R i)) L t q)) : Nat × Value) = (4, Value.int (nI (df2 I (digF (rK R i)) L t q))) from by rw [dfF_n c_29]]
      refine x_aload_n 1 dX8_give_33 rfl rfl ?_
      refine x_iload_n 3 dX8_give_34 rfl rfl ?_
      refine x_iload_n 4 dX8_give_35 rfl rfl ?_
      refine x_callVu (as := [_, _]) (rest := []) vX8_96 (c_X8_shift hI hO hp hw7 ht) dX8_give_36 l82 rfl rfl rfl (Nat.le_of_ble_eq_true rfl) (Nat.le_of_ble_eq_true rfl) (Nat.le_of_ble_eq_true rfl) ?_
      refine x_istore (lv' := [(5, _), (4, _), (0, _), (1, _), (2, _), (3, _)]) dX8_give_39 (by decide) rfl ?_
      refine x_iconst (v := nI 0) dX8_give_41 (by decide) ?_
      refine x_istore (lv' := [(6, _), (5, _), (4, _), (0, _), (1, _), (2, _), (3, _)]) dX8_give_42 (by decide) rfl ?_
      refine x_pick (lv' := [(6, _), (5, _), (4, _), (0, _), (1, _), (2, _), (3, _)]) [0, 1, 2, 3, 4, 5, 6] rfl ?_
      refine lp_give hI hO hL hL7 hpp hir hok hN hp ht hq hwt hx (by omega) c_29 0 _ (Nat.zero_le _) ?_
      rw [dpP_0]
      have h := nx_arith hO hok ht (show q < 7 by omega)
      unfold nx codeF at h
      rw [show (7 * t + q) % 7 = q by omega, show (7 * t + q) / 7 = t by omega] at h
      exact h
    · refine x_vret rfl dX8_give_32 ⟨rfl, Fr.refl, by rw [txS_f (fun k => by unfold thB at k; rw [show (7 * t + q) % 7 = q by omega, show (7 * t + q) / 7 = t by omega] at k; rcases k with k | k | k; exact k.2.2.2 c_29; omega; omega)]; exact hx⟩
  · refine x_vret rfl dX8_give_13 ⟨rfl, Fr.refl, by rw [txS_f (fun k => by unfold thB at k; rw [show (7 * t + q) % 7 = q by omega, show (7 * t + q) / 7 = t by omega] at k; omega)]; exact hx⟩

theorem thB_at {I : Isl} {L p t to : Nat} {w : Nat → Nat} (hto : to < 7) : thB I L p w (7 * t + to) ↔ (to < iP I ∧ ¬ to = p ∧ w t = p ∧ ¬ dfF I w L t to = -9) ∨ (to = p ∧ w t = 4 ∧ fitF I w L t p) ∨ (to = 4 ∧ w t = p ∧ ¬ livK (iK I t)) := by
  unfold thB
  rw [show (7 * t + to) % 7 = to by omega, show (7 * t + to) / 7 = t by omega]
theorem thB_no {I : Isl} {L p t a d : Nat} {w : Nat → Nat} (had : a + d ≤ 7) (h : ∀ to, a ≤ to → to < a + d → ¬ ((to < iP I ∧ ¬ to = p ∧ w t = p ∧ ¬ dfF I w L t to = -9) ∨ (to = p ∧ w t = 4 ∧ fitF I w L t p) ∨ (to = 4 ∧ w t = p ∧ ¬ livK (iK I t)))) : ∀ j, 7 * t + a ≤ j → j < 7 * t + a + d → ¬ thB I L p w j := by
  intro j h1 h2 hb
  have e : j = 7 * t + (j - 7 * t) := by omega
  rw [e] at hb
  exact h (j - 7 * t) (by omega) (by omega) ((thB_at (by omega)).mp hb)

set_option maxHeartbeats 4000000 in
set_option maxRecDepth 100000 in
theorem lp_th59 {S : St} {I : Isl} (hI : IsX 11 I S) (hO : IOK I) {L p i : Nat} {R : Rs} (hL : S.1 55 5 = nI L) (hL7 : L ≤ 6) (hpp : p < iP I) (hir : i < rC R) (hok : OKc I L (rK R i)) (hN : rC (txS I L p i R (7 * iM I)) ≤ 8525) (hp : PlT 55 I (digF (rK R i)) S) {Q : Option Value → St → Prop} {t : Nat} (ht : t < iM I) (kk : ∀ S2, (Fr (fun a => 68 ≤ a ∧ a ≤ 73) S S2 ∧ StX (txS I L p i R (7 * t + 7)) S2) → X 4 120 mX8_expand Q 2 [(3, .int (nI (t + 1))), (0, .ref 82), (1, .int (nI i)), (2, .int (nI p))] [] S2) (hwt : (digF (rK R i)) t = p) {S1 : St} (hE : Fr (fun a => 68 ≤ a ∧ a ≤ 73) S S1 ∧ StX (txS I L p i R (7 * t + iP I)) S1)  : ∀ (d : Nat), (d = 0) → X 4 120 mX8_expand (Q) 59 [(4, .int (nI (((digF (rK R i)) t)))), (3, .int (nI t)), (0, .ref 82), (1, .int (nI i)), (2, .int (nI p))] [] S1 := by
  intro d
  induction hm : d + 0 using Nat.strongRecOn generalizing d with
  | _ mm ih =>
    intro hd
    have hO1 := hO.1
    have hO2 := hO.2.1
    have hO3 := hO.2.2.1
    have hO4 := hO.2.2.2.1
    have hwk := hok.2.ok hO
    have hw7 := hwk.w7 hO
    have hcl := hok.lt hO
    obtain ⟨x1, x2⟩ := id hE
    have hI1 : IsX 11 I S1 := hI.keep (fun a h1 h2 b => x1.2 a (by omega) b)
    have hp1 : PlT 55 I (digF (rK R i)) S1 := hp.keep (fun a h1 h2 b => x1.2 a (by omega) b)
    have hL1 : S1.1 55 5 = nI L := (x1.2 55 (by omega) 5).trans hL
    have hpr := Pre.tx I L p i R (7 * t + 4)
    have e4 : (txS I L p i R (7 * t + 4)) = (txS I L p i R (7 * t + iP I)) := by
      have h := txS_skip (I := I) (L := L) (p := p) (i := i) (R := R) (s := 7 * t + iP I) (4 - iP I) (thB_no (by omega) (fun to h1 h2 k => by rcases k with k | k | k <;> omega))
      rw [show 7 * t + iP I + (4 - iP I) = 7 * t + 4 by omega] at h
      exact h
    refine x_aload_n 2 dX8_expand_59 rfl rfl ?_
    refine x_getR fX8_9 dX8_expand_60 l82 rfl ?_
    refine x_iload_n 1 dX8_expand_63 rfl rfl ?_
    refine x_callVb (as := [_]) (rest := []) vX8_92 (c_X1_isLiving hI1 hO ht) dX8_expand_64 l11 rfl rfl rfl (Nat.le_of_ble_eq_true rfl) (Nat.le_of_ble_eq_true rfl) (Nat.le_of_ble_eq_true rfl) (fun c_64 => ?_) (fun c_64 => ?_)
    · refine t_if_ne 113 dX8_expand_67 (by decide) (by decide) ?_
      refine y_iinc (lv' := [(3, _), (4, _), (0, _), (1, _), (2, _)]) 1 dX8_expand_113 rfl (by decide) rfl ?_
      refine x_goto 2 dX8_expand_116 (by decide) ?_
      refine x_pick (lv' := [(3, _), (0, _), (1, _), (2, _)]) [0, 2, 3, 4] rfl ?_
      have e7 := txS_skip (I := I) (L := L) (p := p) (i := i) (R := R) (s := 7 * t + 4) 3 (thB_no (by omega) (fun to h1 h2 k => by rcases k with k | k | k; omega; omega; exact k.2.2 c_64))
      exact kk S1 ⟨x1, by rw [show 7 * t + 7 = 7 * t + 4 + 3 by omega, e7, e4]; exact x2⟩
    · refine u_if_ne 113 dX8_expand_67 (by decide) (by decide) ?_
      refine x_aload_n 2 dX8_expand_70 rfl rfl ?_
      refine x_iload_n 3 dX8_expand_71 rfl rfl ?_
      refine x_aload_n 2 dX8_expand_72 rfl rfl ?_
      refine x_iload_n 1 dX8_expand_73 rfl rfl ?_
      refine x_iconst (v := nI 4) dX8_expand_74 (by decide) ?_
      refine x_callVu (as := [_, _]) (rest := [_, _]) vX8_96 (c_X8_shift hI1 hO hp1 hw7 (to := 4) ht) dX8_expand_75 l82 rfl rfl rfl (Nat.le_of_ble_eq_true rfl) (Nat.le_of_ble_eq_true rfl) (Nat.le_of_ble_eq_true rfl) ?_
      refine x_callVqv (as := [_, _]) (rest := []) vX8_100 (c_X8_reach (R := (txS I L p i R (7 * t + 4))) (c := thX I L p (rK R i) (7 * t + 4)) (by rw [e4]; exact x2) (Nat.lt_of_lt_of_le hir hpr.1) (by rw [(hpr.2 i hir).1]; exact th_one (L := L) (p := p) hO hok ht (by decide) (fun k => by omega)) ((OKc.code hO (th_VS hO hok.2 hpp (s := 7 * t + 4) (by omega) ((thB_at (by decide)).mpr (Or.inr (Or.inr ⟨rfl, hwt, c_64⟩))))).lt hO) (th_room hN (by omega) ((thB_at (by decide)).mpr (Or.inr (Or.inr ⟨rfl, hwt, c_64⟩))))) dX8_expand_78 l82 rfl rfl rfl (Nat.le_of_ble_eq_true rfl) (Nat.le_of_ble_eq_true rfl) (Nat.le_of_ble_eq_true rfl) (fun S_78 q_78 => ?_)
      
      refine x_goto 113 dX8_expand_81 (by decide) ?_
      refine y_iinc (lv' := [(3, _), (4, _), (0, _), (1, _), (2, _)]) 1 dX8_expand_113 rfl (by decide) rfl ?_
      refine x_goto 2 dX8_expand_116 (by decide) ?_
      refine x_pick (lv' := [(3, _), (0, _), (1, _), (2, _)]) [0, 2, 3, 4] rfl ?_
      have hb : thB I L p (digF (rK R i)) (7 * t + 4) := (thB_at (by decide)).mpr (Or.inr (Or.inr ⟨rfl, hwt, c_64⟩))
      have h := q_78.2
      rw [(hpr.2 i hir).2.2.2, ← txS_t hb] at h
      have e7 := txS_skip (I := I) (L := L) (p := p) (i := i) (R := R) (s := 7 * t + 5) 2 (thB_no (by omega) (fun to h1 h2 k => by rcases k with k | k | k <;> omega))
      exact kk S_78 ⟨x1.trans q_78.1, by rw [show 7 * t + 7 = 7 * t + 5 + 2 by omega, e7]; exact h⟩

set_option maxHeartbeats 4000000 in
set_option maxRecDepth 100000 in
theorem lp_th33 {S : St} {I : Isl} (hI : IsX 11 I S) (hO : IOK I) {L p i : Nat} {R : Rs} (hL : S.1 55 5 = nI L) (hL7 : L ≤ 6) (hpp : p < iP I) (hir : i < rC R) (hok : OKc I L (rK R i)) (hN : rC (txS I L p i R (7 * iM I)) ≤ 8525) (hp : PlT 55 I (digF (rK R i)) S) {Q : Option Value → St → Prop} {t : Nat} (ht : t < iM I) (kk : ∀ S2, (Fr (fun a => 68 ≤ a ∧ a ≤ 73) S S2 ∧ StX (txS I L p i R (7 * t + 7)) S2) → X 4 120 mX8_expand Q 2 [(3, .int (nI (t + 1))), (0, .ref 82), (1, .int (nI i)), (2, .int (nI p))] [] S2) (hwt : (digF (rK R i)) t = p)  : ∀ (q : Nat) (S1 : St), (q ≤ iP I) → (Fr (fun a => 68 ≤ a ∧ a ≤ 73) S S1 ∧ StX (txS I L p i R (7 * t + q)) S1) → X 4 120 mX8_expand (Q) 33 [(5, .int (nI q)), (4, .int (nI (((digF (rK R i)) t)))), (3, .int (nI t)), (0, .ref 82), (1, .int (nI i)), (2, .int (nI p))] [] S1 := by
  intro q S1
  induction hm : 5 - q using Nat.strongRecOn generalizing q S1 with
  | _ mm ih =>
    intro hq hE
    have hO1 := hO.1
    have hO2 := hO.2.1
    have hO3 := hO.2.2.1
    have hO4 := hO.2.2.2.1
    have hwk := hok.2.ok hO
    have hw7 := hwk.w7 hO
    have hcl := hok.lt hO
    obtain ⟨x1, x2⟩ := id hE
    have hI1 : IsX 11 I S1 := hI.keep (fun a h1 h2 b => x1.2 a (by omega) b)
    have hp1 : PlT 55 I (digF (rK R i)) S1 := hp.keep (fun a h1 h2 b => x1.2 a (by omega) b)
    have hL1 : S1.1 55 5 = nI L := (x1.2 55 (by omega) 5).trans hL
    refine x_iload 0 dX8_expand_33 rfl ?_
    refine x_aload_n 3 dX8_expand_35 rfl rfl ?_
    refine x_getR fX8_9 dX8_expand_36 l82 rfl ?_
    refine y_getI fX8_85 dX8_expand_39 l11 rfl hI1.1 ?_
    refine y_ic_ge 59 dX8_expand_42 (by decide) (by omega) (by omega) (fun c_42 => ?_) (fun c_42 => ?_)
    · refine x_pick (lv' := [(4, _), (3, _), (0, _), (1, _), (2, _)]) [1, 2, 3, 4, 5] rfl ?_
      obtain rfl : q = iP I := (by omega)
      exact lp_th59 hI hO hL hL7 hpp hir hok hN hp ht kk hwt hE 0 rfl
    · refine x_aload_n 3 dX8_expand_45 rfl rfl ?_
      refine x_iload_n 4 dX8_expand_46 rfl rfl ?_
      refine x_iload_n 2 dX8_expand_47 rfl rfl ?_
      refine x_iload 0 dX8_expand_48 rfl ?_
      refine x_callVqv (as := [_, _, _]) (rest := []) vX8_88 (c_X8_give hI1 hO hL1 hL7 hpp hir hok hN hp1 ht (by omega) hwt x2) dX8_expand_50 l82 rfl rfl rfl (Nat.le_of_ble_eq_true rfl) (Nat.le_of_ble_eq_true rfl) (Nat.le_of_ble_eq_true rfl) (fun S_50 q_50 => ?_)
      refine y_iinc (lv' := [(5, _), (4, _), (3, _), (0, _), (1, _), (2, _)]) 0 dX8_expand_53 rfl (by decide) rfl ?_
      refine x_goto 33 dX8_expand_56 (by decide) ?_
      refine x_pick (lv' := [(5, _), (4, _), (3, _), (0, _), (1, _), (2, _)]) [0, 1, 2, 3, 4, 5] rfl ?_
      exact ih (5 - (q + 1)) (by omega) (q + 1) S_50 rfl (by omega) ⟨x1.trans q_50.1, q_50.2⟩

set_option maxHeartbeats 4000000 in
set_option maxRecDepth 100000 in
theorem lp_th2 {S : St} {I : Isl} (hI : IsX 11 I S) (hO : IOK I) {L p i : Nat} {R : Rs} (hL : S.1 55 5 = nI L) (hL7 : L ≤ 6) (hpp : p < iP I) (hir : i < rC R) (hok : OKc I L (rK R i)) (hN : rC (txS I L p i R (7 * iM I)) ≤ 8525) (hp : PlT 55 I (digF (rK R i)) S)  : ∀ (t : Nat) (S1 : St), (t ≤ iM I) → (Fr (fun a => 68 ≤ a ∧ a ≤ 73) S S1 ∧ StX (txS I L p i R (7 * t)) S1) → X 4 120 mX8_expand (qv (fun S' => Fr (fun a => 68 ≤ a ∧ a ≤ 73) S S' ∧ StX (txS I L p i R (7 * iM I)) S')) 2 [(3, .int (nI t)), (0, .ref 82), (1, .int (nI i)), (2, .int (nI p))] [] S1 := by
  intro t S1
  induction hm : iM I - t using Nat.strongRecOn generalizing t S1 with
  | _ mm ih =>
    intro ht hE
    have hO1 := hO.1
    have hO2 := hO.2.1
    have hO3 := hO.2.2.1
    have hO4 := hO.2.2.2.1
    have hwk := hok.2.ok hO
    have hw7 := hwk.w7 hO
    have hcl := hok.lt hO
    obtain ⟨x1, x2⟩ := id hE
    have hI1 : IsX 11 I S1 := hI.keep (fun a h1 h2 b => x1.2 a (by omega) b)
    have hp1 : PlT 55 I (digF (rK R i)) S1 := hp.keep (fun a h1 h2 b => x1.2 a (by omega) b)
    have hL1 : S1.1 55 5 = nI L := (x1.2 55 (by omega) 5).trans hL
    have hwt7 := hw7 t
    have hpr := Pre.tx I L p i R (7 * t + p)
    refine x_iload_n 0 dX8_expand_2 rfl rfl ?_
    refine x_aload_n 1 dX8_expand_3 rfl rfl ?_
    refine x_getR fX8_9 dX8_expand_4 l82 rfl ?_
    refine y_getI fX8_77 dX8_expand_7 l11 rfl hI1.2.1 ?_
    refine y_ic_ge 119 dX8_expand_10 (by decide) (by omega) (by omega) (fun c_10 => ?_) (fun c_10 => ?_)
    · refine x_vret rfl dX8_expand_119 (by obtain rfl : t = iM I := (by omega); exact ⟨rfl, hE⟩)
    · refine x_aload_n 1 dX8_expand_13 rfl rfl ?_
      refine x_getR fX8_28 dX8_expand_14 l82 rfl ?_
      refine x_getR fX8_82 dX8_expand_17 l55 rfl ?_
      refine x_iload_n 0 dX8_expand_20 rfl rfl ?_
      refine y_iald dX8_expand_21 l56 (by omega) (by decide) (hp1.1 t (by omega)) ?_
      refine x_istore (lv' := [(4, _), (3, _), (0, _), (1, _), (2, _)]) dX8_expand_22 (by decide) rfl ?_
      have htm : t < iM I := by omega
      refine x_iload 0 dX8_expand_24 rfl ?_
      refine x_iload_n 4 dX8_expand_26 rfl rfl ?_
      refine y_ic_ne 84 dX8_expand_27 (by decide) (by omega) (by omega) (fun c_27 => ?_) (fun c_27 => ?_)
      · refine x_iload 0 dX8_expand_84 rfl ?_
        refine x_iconst (v := nI 4) dX8_expand_86 (by decide) ?_
        refine y_ic_ne 113 dX8_expand_87 (by decide) (by omega) (by omega) (fun c_87 => ?_) (fun c_87 => ?_)
        · refine y_iinc (lv' := [(3, _), (4, _), (0, _), (1, _), (2, _)]) 1 dX8_expand_113 rfl (by decide) rfl ?_
          refine x_goto 2 dX8_expand_116 (by decide) ?_
          refine x_pick (lv' := [(3, _), (0, _), (1, _), (2, _)]) [0, 2, 3, 4] rfl ?_
          have e7 := txS_skip (I := I) (L := L) (p := p) (i := i) (R := R) (s := 7 * t + 0) 7 (thB_no (by omega) (fun to h1 h2 k => by rcases k with k | k | k; omega; (first | omega | exact c_96 k.2.2); omega))
          exact ih (iM I - (t + 1)) (by omega) (t + 1) S1 rfl (by omega) ⟨x1, by rw [show 7 * (t + 1) = 7 * t + 0 + 7 by omega, e7]; exact x2⟩
        · refine x_aload_n 2 dX8_expand_90 rfl rfl ?_
          refine x_getR fX8_28 dX8_expand_91 l82 rfl ?_
          refine x_iload_n 1 dX8_expand_94 rfl rfl ?_
          refine x_iload_n 4 dX8_expand_95 rfl rfl ?_
          refine x_callFb (as := [_, _]) (rest := []) rfl vX3_84 (c_X3_fits (Or.inr (Or.inr (Or.inr (Or.inr rfl)))) hI1 hO hp1 hL1 (by omega) htm (by omega)) dX8_expand_96 l55 rfl rfl (Nat.le_of_ble_eq_true rfl) (Nat.le_of_ble_eq_true rfl) (Nat.le_of_ble_eq_true rfl) (fun c_96 => ?_) (fun c_96 => ?_)
          · refine u_if_eq 113 dX8_expand_99 (by decide) (by decide) ?_
            refine x_aload_n 2 dX8_expand_102 rfl rfl ?_
            refine x_iload_n 3 dX8_expand_103 rfl rfl ?_
            refine x_aload_n 2 dX8_expand_104 rfl rfl ?_
            refine x_iload_n 1 dX8_expand_105 rfl rfl ?_
            refine x_iload_n 4 dX8_expand_106 rfl rfl ?_
            refine x_callVu (as := [_, _]) (rest := [_, _]) vX8_96 (c_X8_shift hI1 hO hp1 hw7 (to := p) htm) dX8_expand_107 l82 rfl rfl rfl (Nat.le_of_ble_eq_true rfl) (Nat.le_of_ble_eq_true rfl) (Nat.le_of_ble_eq_true rfl) ?_
            refine x_callVqv (as := [_, _]) (rest := []) vX8_100 (c_X8_reach (R := (txS I L p i R (7 * t + p))) (c := thX I L p (rK R i) (7 * t + p)) (by
                have e := txS_skip (I := I) (L := L) (p := p) (i := i) (R := R) (s := 7 * t) p (thB_no (a := 0) (by omega) (fun to h1 h2 k => by rcases k with k | k | k <;> omega))
                rw [e]
                exact x2) (Nat.lt_of_lt_of_le hir hpr.1) (by rw [(hpr.2 i hir).1]; exact th_one (L := L) (p := p) hO hok htm (by omega) (fun k => k.2 rfl)) ((OKc.code hO (th_VS hO hok.2 hpp (s := 7 * t + p) (by omega) ((thB_at (by omega)).mpr (Or.inr (Or.inl ⟨rfl, by omega, c_96⟩))))).lt hO) (th_room hN (by omega) ((thB_at (by omega)).mpr (Or.inr (Or.inl ⟨rfl, by omega, c_96⟩))))) dX8_expand_110 l82 rfl rfl rfl (Nat.le_of_ble_eq_true rfl) (Nat.le_of_ble_eq_true rfl) (Nat.le_of_ble_eq_true rfl) (fun S_110 q_110 => ?_)
            
            refine y_iinc (lv' := [(3, _), (4, _), (0, _), (1, _), (2, _)]) 1 dX8_expand_113 rfl (by decide) rfl ?_
            refine x_goto 2 dX8_expand_116 (by decide) ?_
            refine x_pick (lv' := [(3, _), (0, _), (1, _), (2, _)]) [0, 2, 3, 4] rfl ?_
            have hb : thB I L p (digF (rK R i)) (7 * t + p) := (thB_at (by omega)).mpr (Or.inr (Or.inl ⟨rfl, by omega, c_96⟩))
            have h := q_110.2
            rw [(hpr.2 i hir).2.2.2, ← txS_t hb] at h
            have e7 := txS_skip (I := I) (L := L) (p := p) (i := i) (R := R) (s := 7 * t + (p + 1)) (6 - p) (thB_no (by omega) (fun to h1 h2 k => by rcases k with k | k | k <;> omega))
            exact ih (iM I - (t + 1)) (by omega) (t + 1) S_110 rfl (by omega) ⟨x1.trans q_110.1, by rw [show 7 * (t + 1) = 7 * t + (p + 1) + (6 - p) by omega, e7]; exact h⟩
          · refine t_if_eq 113 dX8_expand_99 (by decide) (by decide) ?_
            refine y_iinc (lv' := [(3, _), (4, _), (0, _), (1, _), (2, _)]) 1 dX8_expand_113 rfl (by decide) rfl ?_
            refine x_goto 2 dX8_expand_116 (by decide) ?_
            refine x_pick (lv' := [(3, _), (0, _), (1, _), (2, _)]) [0, 2, 3, 4] rfl ?_
            have e7 := txS_skip (I := I) (L := L) (p := p) (i := i) (R := R) (s := 7 * t + 0) 7 (thB_no (by omega) (fun to h1 h2 k => by rcases k with k | k | k; omega; (first | omega | exact c_96 k.2.2); omega))
            exact ih (iM I - (t + 1)) (by omega) (t + 1) S1 rfl (by omega) ⟨x1, by rw [show 7 * (t + 1) = 7 * t + 0 + 7 by omega, e7]; exact x2⟩
      · refine x_iconst (v := nI 0) dX8_expand_30 (by decide) ?_
        refine x_istore (lv' := [(5, _), (4, _), (3, _), (0, _), (1, _), (2, _)]) dX8_expand_31 (by decide) rfl ?_
        refine x_pick (lv' := [(5, _), (4, _), (3, _), (0, _), (1, _), (2, _)]) [0, 1, 2, 3, 4, 5] rfl ?_
        exact lp_th33 hI hO hL hL7 hpp hir hok hN hp htm (fun S2 h2 => ih (iM I - (t + 1)) (by omega) (t + 1) S2 rfl (by omega) h2) (by omega) 0 S1 (Nat.zero_le _) hE

set_option maxHeartbeats 4000000 in
set_option maxRecDepth 100000 in
theorem c_X8_expand {S : St} {I : Isl} (hI : IsX 11 I S) (hO : IOK I) {L p i : Nat} {R : Rs} (hL : S.1 55 5 = nI L) (hL7 : L ≤ 6) (hpp : p < iP I) (hir : i < rC R) (hok : OKc I L (rK R i)) (hN : rC (txS I L p i R (7 * iM I)) ≤ 8525) (hp : PlT 55 I (digF (rK R i)) S) (hx : StX R S) : C 4 120 yX8_expand mX8_expand [.ref 82, .int (nI i), .int (nI p)] S (qv (fun S' => Fr (fun a => 68 ≤ a ∧ a ≤ 73) S S' ∧ StX (txS I L p i R (7 * iM I)) S')) := by
  refine C.ofX (by decide) rfl (Nat.le_of_ble_eq_true rfl) ?_
  show X 4 120 mX8_expand (qv (fun S' => Fr (fun a => 68 ≤ a ∧ a ≤ 73) S S' ∧ StX (txS I L p i R (7 * iM I)) S')) 0 [(0, .ref 82), (1, .int (nI i)), (2, .int (nI p))] [] S
  refine x_iconst (v := nI 0) dX8_expand_0 (by decide) ?_
  refine x_istore_n (lv' := [(3, _), (0, _), (1, _), (2, _)]) dX8_expand_1 rfl (by decide) rfl ?_
  refine x_pick (lv' := [(3, _), (0, _), (1, _), (2, _)]) [0, 1, 2, 3] rfl ?_
  exact lp_th2 hI hO hL hL7 hpp hir hok hN hp 0 S (Nat.zero_le _) ⟨Fr.refl, hx⟩

