/-! ===== day ===== -/
def dayOK (I : Isl) (x : Int32) : Prop := x = -1 ∨ numOK I x
theorem dayOK_n {I : Isl} {x : Int32} (h : dayOK I x) (h0 : 0 ≤ x.toInt) : numOK I x := h.resolve_left (fun e => by rw [e] at h0; exact absurd h0 (by decide))
/-- the state behind j numbers of a day's row -/
noncomputable def dayS (I : Isl) (L : Nat) (w : Nat → Nat) (v : Nat → Int32) : Nat → Nat → Nat
  | 0 => w
  | j + 1 => i2 (0 ≤ (v j).toInt ∧ mayF I (dayS I L w v j) L (tn (v j) / 7) (tn (v j) % 7)) (upW (dayS I L w v j) (tn (v j) / 7) (tn (v j) % 7)) (dayS I L w v j)
theorem dayS_t {I : Isl} {L : Nat} {w : Nat → Nat} {v : Nat → Int32} {j : Nat} (h0 : 0 ≤ (v j).toInt) (h : mayF I (dayS I L w v j) L (tn (v j) / 7) (tn (v j) % 7)) : dayS I L w v (j + 1) = upW (dayS I L w v j) (tn (v j) / 7) (tn (v j) % 7) := e2_0 ⟨h0, h⟩
theorem dayS_f {I : Isl} {L : Nat} {w : Nat → Nat} {v : Nat → Int32} {j : Nat} (h : ¬ (0 ≤ (v j).toInt ∧ mayF I (dayS I L w v j) L (tn (v j) / 7) (tn (v j) % 7))) : dayS I L w v (j + 1) = dayS I L w v j := e2_1 h
theorem dayS_VS {I : Isl} {L : Nat} {w : Nat → Nat} {v : Nat → Int32} {n : Nat} (hO : IOK I) (hv : VS I w L) (hd : ∀ j, j < n → dayOK I (v j)) : ∀ j, j ≤ n → VS I (dayS I L w v j) L
  | 0, _ => hv
  | j + 1, hj => by
    have ih := dayS_VS hO hv hd j (by omega)
    by_cases h : 0 ≤ (v j).toInt ∧ mayF I (dayS I L w v j) L (tn (v j) / 7) (tn (v j) % 7)
    · rw [dayS_t h.1 h.2]
      exact VS_step hO ih (dayOK_n (hd j (by omega)) h.1).2.1 h.2
    · rw [dayS_f h]
      exact ih
/-- works done in the first h hours, e steps an hour -/
noncomputable def dayW (I : Isl) (L : Nat) (w : Nat → Nat) (v : Nat → Int32) (e : Nat) : Nat → Nat
  | 0 => 0
  | h + 1 => dayW I L w v e h ||| (dbF I (dayS I L w v ((h + 1) * e)) (iW I) &&& mk (fun u => iV I u 0 == h) (iW I))
theorem dayW_bit {I : Isl} {L : Nat} {w : Nat → Nat} {v : Nat → Int32} {e i : Nat} : ∀ {h : Nat}, (dayW I L w v e h).testBit i = true → i < iW I ∧ iV I i 0 < h
  | 0, q => by unfold dayW at q; rw [Nat.zero_testBit] at q; cases q
  | h + 1, q => by
    unfold dayW at q
    rw [Nat.testBit_or, Bool.or_eq_true] at q
    rcases q with q | q
    · have := dayW_bit q; omega
    · rw [Nat.testBit_and, Bool.and_eq_true, mk_bit, Bool.and_eq_true, decide_eq_true_eq, beq_iff_eq] at q
      omega
theorem dayW_lt {I : Isl} {L : Nat} {w : Nat → Nat} {v : Nat → Int32} {e : Nat} : ∀ {h : Nat}, dayW I L w v e h < 2 ^ iW I
  | 0 => Nat.two_pow_pos _
  | h + 1 => Nat.or_lt_two_pow dayW_lt (Nat.lt_of_le_of_lt Nat.and_le_right (mk_lt _ _))
/-- within an hour, behind i works -/
noncomputable def dayR (I : Isl) (L : Nat) (w : Nat → Nat) (v : Nat → Int32) (e h i : Nat) : Nat := dayW I L w v e h ||| mk (fun u => iV I u 0 == h && dec (canF I (dayS I L w v ((h + 1) * e)) u)) i
theorem dayR_0 {I : Isl} {L : Nat} {w : Nat → Nat} {v : Nat → Int32} {e h : Nat} : dayR I L w v e h 0 = dayW I L w v e h := Nat.or_zero _
theorem dayR_end {I : Isl} {L : Nat} {w : Nat → Nat} {v : Nat → Int32} {e h : Nat} : dayR I L w v e h (iW I) = dayW I L w v e (h + 1) := by
  unfold dayR
  rw [dayW]
  congr 1
  apply Nat.eq_of_testBit_eq
  intro i
  rw [mk_bit, Nat.testBit_and, mk_bit]
  by_cases hi : i < iW I
  · by_cases hc : canF I (dayS I L w v ((h + 1) * e)) i
    · rw [(dbF_bit (n := iW I)).mpr ⟨hi, hc⟩, dec_t hc, Bool.and_true, Bool.true_and]
    · have : (dbF I (dayS I L w v ((h + 1) * e)) (iW I)).testBit i = false := Bool.eq_false_iff.mpr (fun q => hc (dbF_bit.mp q).2)
      rw [this, dec_f hc, Bool.and_false, Bool.and_false, Bool.false_and]
  · rw [decide_eq_false hi, Bool.false_and, Bool.false_and, Bool.and_false]
theorem dayR_s {I : Isl} {L : Nat} {w : Nat → Nat} {v : Nat → Int32} {e h i : Nat} (h1 : iV I i 0 = h) (h2 : canF I (dayS I L w v ((h + 1) * e)) i) : dayR I L w v e h (i + 1) = dayR I L w v e h i ||| 2 ^ i := by
  unfold dayR
  rw [mk_s, h1, beq_self_eq_true, dec_t h2, Bool.and_self, if_pos rfl, Nat.or_assoc]
theorem dayR_n {I : Isl} {L : Nat} {w : Nat → Nat} {v : Nat → Int32} {e h i : Nat} (h1 : ¬ (iV I i 0 = h ∧ canF I (dayS I L w v ((h + 1) * e)) i)) : dayR I L w v e h (i + 1) = dayR I L w v e h i := by
  unfold dayR
  rw [mk_s, if_neg (fun q => by rw [Bool.and_eq_true, beq_iff_eq, dec_iff] at q; exact h1 q), Nat.or_zero]
theorem dayR_lt {I : Isl} {L : Nat} {w : Nat → Nat} {v : Nat → Int32} {e h i : Nat} (hi : i ≤ iW I) : dayR I L w v e h i < 2 ^ iW I :=
  Nat.or_lt_two_pow dayW_lt (Nat.lt_of_lt_of_le (mk_lt _ _) (Nat.pow_le_pow_right (by decide) hi))
theorem dayR_no {I : Isl} {L : Nat} {w : Nat → Nat} {v : Nat → Int32} {e h i : Nat} (h1 : iV I i 0 = h) : (dayR I L w v e h i).testBit i = false := by
  refine Bool.eq_false_iff.mpr (fun q => ?_)
  unfold dayR at q
  rw [Nat.testBit_or, Bool.or_eq_true] at q
  rcases q with q | q
  · have := dayW_bit q; omega
  · rw [mk_bit, Bool.and_eq_true, decide_eq_true_eq] at q
    omega
theorem wth_or {I : Isl} {s i : Nat} (hi : i < iW I) (hs : s.testBit i = false) : wthF I (s ||| 2 ^ i) = wthF I s + iV I i 3 := by
  unfold wthF
  have h := sm_up (f := fun v => (s ||| 2 ^ i) / 2 ^ v % 2 * iV I v 3) (g := fun v => s / 2 ^ v % 2 * iV I v 3) (t := i) (fun j hj => by
    rw [bit01, bit01, Nat.testBit_or, Nat.testBit_two_pow_of_ne (fun q => hj q.symm), Bool.or_false]) hi
  rw [bit01 s i, hs, bit01 (s ||| 2 ^ i) i, Nat.testBit_or, Nat.testBit_two_pow_self, Bool.or_true, if_pos rfl, if_neg (by decide), Nat.one_mul, Nat.zero_mul, Nat.add_zero] at h
  exact h
theorem dayW_0 {I : Isl} {L : Nat} {w : Nat → Nat} {v : Nat → Int32} {e : Nat} : dayW I L w v e 0 = 0 := by unfold dayW; rfl
theorem wth_0 {I : Isl} : wthF I 0 = 0 := sm_zero fun i _ => by rw [Nat.zero_div, Nat.zero_mod, Nat.zero_mul]
theorem wth_le {I : Isl} (hO : IOK I) (s : Nat) : wthF I s ≤ 72 := by
  have h : wthF I s ≤ 9 * iW I := sm_le fun v hv => by
    have h1 := (hO.v v hv).2.2.2
    rcases Nat.mod_two_eq_zero_or_one (s / 2 ^ v) with e | e
    · rw [e]; omega
    · rw [e]; omega
  have := hO.2.2.1
  omega

set_option maxHeartbeats 4000000 in
set_option maxRecDepth 100000 in
theorem lp_dayX1 {S : St} {I : Isl} (hI : IsX 11 I S) (hO : IOK I) (hT : IsT I S) {w : Nat → Nat} {L : Nat} (hL7 : L ≤ 6) (hv : VS I w L) (hS : RwS 3 6 60 S) {a e z : Nat} (ha : a < 6) (ez : S.1 4 a = nI z) (hz : z ≤ 60) (hze : 6 * e ≤ z) (he : 1 ≤ e ∧ e ≤ 4) (hd : ∀ j, j < 6 * e → dayOK I (S.1 5 (a * 60 + j))) {Q : Option Value → St → Prop} {h : Nat} (hh : h < 6) (kk : ∀ S2, (Fr (fun a => 40 ≤ a ∧ a ≤ 44) S S2 ∧ PlT 40 I (dayS I L w (fun j => S.1 5 (a * 60 + j)) ((h + 1) * e)) S2 ∧ S2.1 40 5 = nI L) → X 4 120 mX10_worksOfDay Q 16 [(4, .int (nI (h + 1))), (3, .int (nI (dayW I L w (fun j => S.1 5 (a * 60 + j)) e (h + 1)))), (0, .ref 0), (1, .int (nI a)), (2, .int (nI e))] [] S2)  : ∀ (j : Nat) (S1 : St), (h * e ≤ j ∧ j ≤ (h + 1) * e) → (Fr (fun a => 40 ≤ a ∧ a ≤ 44) S S1 ∧ PlT 40 I (dayS I L w (fun j => S.1 5 (a * 60 + j)) j) S1 ∧ S1.1 40 5 = nI L) → X 4 120 mX10_worksOfDay (Q) 29 [(5, .int (nI j)), (4, .int (nI h)), (3, .int (nI ((dayW I L w (fun j => S.1 5 (a * 60 + j)) e h)))), (0, .ref 0), (1, .int (nI a)), (2, .int (nI e))] [] S1 := by
  intro j S1
  induction hm : (h + 1) * e - j using Nat.strongRecOn generalizing j S1 with
  | _ mm ih =>
    intro hj ht
    have hO1 := hO.1
    have hO2 := hO.2.1
    have hO3 := hO.2.2.1
    have hO4 := hO.2.2.2.1
    have hbe : (h + 1) * e ≤ 6 * e := Nat.mul_le_mul_right e (by omega)
    obtain ⟨t1, t2, t3⟩ := id ht
    have hI1 : IsX 11 I S1 := hI.keep (fun c h1 h2 b => t1.2 c (by omega) b)
    have hvj := dayS_VS (v := fun j => S.1 5 (a * 60 + j)) hO hv hd j (by omega)
    have hwj := hvj.ok hO
    have hdj := hd j
    refine x_iload 0 dX10_worksOfDay_29 rfl ?_
    refine x_iload 1 dX10_worksOfDay_31 rfl ?_
    refine x_iconst (v := nI 1) dX10_worksOfDay_33 (by decide) ?_
    refine y_iadd dX10_worksOfDay_34 ?_
    refine x_iload_n 5 dX10_worksOfDay_35 rfl rfl ?_
    refine y_imul dX10_worksOfDay_36 ?_
    refine y_ic_ge 105 dX10_worksOfDay_37 (by decide) (by omega) (by omega) (fun c_37 => ?_) (fun c_37 => ?_)
    · obtain rfl : j = (h + 1) * e := (by omega)
      refine x_iload_n 2 dX10_worksOfDay_105 rfl rfl ?_
      refine x_aload_n 3 dX10_worksOfDay_106 rfl rfl ?_
      refine x_getR fX10_53 dX10_worksOfDay_107 l0 rfl ?_
      refine x_callVu (as := []) (rest := [_]) vX10_283 (c_X3_doable (Or.inr (Or.inl rfl)) hI1 hO t2) dX10_worksOfDay_110 l40 rfl rfl rfl (Nat.le_of_ble_eq_true rfl) (Nat.le_of_ble_eq_true rfl) (Nat.le_of_ble_eq_true rfl) ?_
      refine x_aload_n 3 dX10_worksOfDay_113 rfl rfl ?_
      refine x_getR fX10_40 dX10_worksOfDay_114 l0 rfl ?_
      refine x_getR fX10_295 dX10_worksOfDay_117 l11 rfl ?_
      refine x_iload 1 dX10_worksOfDay_120 rfl ?_
      refine y_iald dX10_worksOfDay_122 l21 (by omega) (by decide) ((t1.2 21 (by omega) h).trans (hT.1 h hh)) ?_
      refine y_iand dX10_worksOfDay_123 ?_
      refine y_ior dX10_worksOfDay_124 ?_
      refine x_istore_n (lv' := [(3, _), (5, _), (4, _), (0, _), (1, _), (2, _)]) dX10_worksOfDay_125 rfl (by decide) rfl ?_
      refine y_iinc (lv' := [(4, _), (3, _), (5, _), (0, _), (1, _), (2, _)]) 2 dX10_worksOfDay_126 rfl (by decide) rfl ?_
      refine x_goto 16 dX10_worksOfDay_129 (by decide) ?_
      refine x_pick (lv' := [(4, _), (3, _), (0, _), (1, _), (2, _)]) [0, 1, 3, 4, 5] rfl ?_
      exact kk S1 ht
    · refine x_aload_n 3 dX10_worksOfDay_40 rfl rfl ?_
      refine x_getR fX10_21 dX10_worksOfDay_41 l0 rfl ?_
      refine x_iload_n 4 dX10_worksOfDay_44 rfl rfl ?_
      refine x_iload 0 dX10_worksOfDay_45 rfl ?_
      refine x_callVu (as := [_, _]) (rest := []) vX10_124 (c_getR (v := S.1 5 (a * 60 + j)) ((t1.2 3 (by omega) 0).trans hS.1) ha ((t1.2 4 (by omega) a).trans ez) hz (by omega) (t1.2 5 (by omega) _)) dX10_worksOfDay_47 l3 rfl rfl rfl (Nat.le_of_ble_eq_true rfl) (Nat.le_of_ble_eq_true rfl) (Nat.le_of_ble_eq_true rfl) ?_
      refine x_istore (lv' := [(6, _), (5, _), (4, _), (3, _), (0, _), (1, _), (2, _)]) dX10_worksOfDay_50 (by decide) rfl ?_
      refine x_iload 0 dX10_worksOfDay_52 rfl ?_
      refine x_if_ge 60 dX10_worksOfDay_54 (by decide) (fun c_54 => ?_) (fun c_54 => ?_)
      · obtain ⟨n1, n2, n3, n4⟩ := numOK_n hO (dayOK_n (hdj (by omega)) c_54)
        rw [show ((6, Value.int (S.1 5 (a * 60 + j))) : Nat × Value) = (6, Value.int (nI (tn (S.1 5 (a * 60 + j))))) from by rw [← n1]]
        refine x_iload 0 dX10_worksOfDay_60 rfl ?_
        refine x_bipush (v := nI 7) dX10_worksOfDay_62 (by decide) ?_
        refine y_idiv dX10_worksOfDay_64 (by omega) (by omega) (by omega) ?_
        refine x_istore (lv' := [(7, _), (6, _), (5, _), (4, _), (3, _), (0, _), (1, _), (2, _)]) dX10_worksOfDay_65 (by decide) rfl ?_
        refine x_iload 1 dX10_worksOfDay_67 rfl ?_
        refine x_bipush (v := nI 7) dX10_worksOfDay_69 (by decide) ?_
        refine y_irem dX10_worksOfDay_71 (by omega) (by omega) (by omega) ?_
        refine x_istore (lv' := [(8, _), (7, _), (6, _), (5, _), (4, _), (3, _), (0, _), (1, _), (2, _)]) dX10_worksOfDay_72 (by decide) rfl ?_
        refine x_aload_n 6 dX10_worksOfDay_74 rfl rfl ?_
        refine x_getR fX10_53 dX10_worksOfDay_75 l0 rfl ?_
        refine x_iload 1 dX10_worksOfDay_78 rfl ?_
        refine x_iload 0 dX10_worksOfDay_80 rfl ?_
        refine x_callVb (as := [_, _]) (rest := []) vX10_237 (c_X3_allows (Or.inr (Or.inl rfl)) hI1 hO t2 t3 (by omega) hwj (hvj.whom hO) n2 n3) dX10_worksOfDay_82 l40 rfl rfl rfl (Nat.le_of_ble_eq_true rfl) (Nat.le_of_ble_eq_true rfl) (Nat.le_of_ble_eq_true rfl) (fun c_82 => ?_) (fun c_82 => ?_)
        · refine u_if_eq 99 dX10_worksOfDay_85 (by decide) (by decide) ?_
          refine x_aload_n 6 dX10_worksOfDay_88 rfl rfl ?_
          refine x_getR fX10_53 dX10_worksOfDay_89 l0 rfl ?_
          refine x_iload 1 dX10_worksOfDay_92 rfl ?_
          refine x_iload 0 dX10_worksOfDay_94 rfl ?_
          refine x_callVqv (as := [_, _]) (rest := []) vX10_250 (c_X3_move (Or.inr (Or.inl rfl)) hI1 hO t2.1 n2 c_82.1 ((VS_step hO hvj n2 c_82).ok hO)) dX10_worksOfDay_96 l40 rfl rfl rfl (Nat.le_of_ble_eq_true rfl) (Nat.le_of_ble_eq_true rfl) (Nat.le_of_ble_eq_true rfl) (fun S_96 q_96 => ?_)
          
          refine y_iinc (lv' := [(5, _), (8, _), (7, _), (6, _), (4, _), (3, _), (0, _), (1, _), (2, _)]) 3 dX10_worksOfDay_99 rfl (by decide) rfl ?_
          refine x_goto 29 dX10_worksOfDay_102 (by decide) ?_
          refine x_pick (lv' := [(5, _), (4, _), (3, _), (0, _), (1, _), (2, _)]) [0, 4, 5, 6, 7, 8] rfl ?_
          have es := dayS_t (I := I) (L := L) (w := w) (v := (fun j => S.1 5 (a * 60 + j))) (j := j) c_54 c_82
          exact ih ((h + 1) * e - (j + 1)) (by omega) (j + 1) S_96 rfl ⟨by omega, by omega⟩ ⟨t1.trans (q_96.1.wider (fun c hc => by omega)), by rw [es]; exact q_96.2, (q_96.1.2 40 (by omega) 5).trans t3⟩
        · refine t_if_eq 99 dX10_worksOfDay_85 (by decide) (by decide) ?_
          refine y_iinc (lv' := [(5, _), (8, _), (7, _), (6, _), (4, _), (3, _), (0, _), (1, _), (2, _)]) 3 dX10_worksOfDay_99 rfl (by decide) rfl ?_
          refine x_goto 29 dX10_worksOfDay_102 (by decide) ?_
          refine x_pick (lv' := [(5, _), (4, _), (3, _), (0, _), (1, _), (2, _)]) [0, 4, 5, 6, 7, 8] rfl ?_
          have es := dayS_f (I := I) (L := L) (w := w) (v := (fun j => S.1 5 (a * 60 + j))) (j := j) (fun q => by first | exact c_82 q.2 | exact absurd q.1 (Int.not_le.mpr c_54))
          exact ih ((h + 1) * e - (j + 1)) (by omega) (j + 1) S1 rfl ⟨by omega, by omega⟩ ⟨t1, by rw [es]; exact t2, t3⟩
      · refine x_goto 99 dX10_worksOfDay_57 (by decide) ?_
        refine y_iinc (lv' := [(5, _), (6, _), (4, _), (3, _), (0, _), (1, _), (2, _)]) 1 dX10_worksOfDay_99 rfl (by decide) rfl ?_
        refine x_goto 29 dX10_worksOfDay_102 (by decide) ?_
        refine x_pick (lv' := [(5, _), (4, _), (3, _), (0, _), (1, _), (2, _)]) [0, 2, 3, 4, 5, 6] rfl ?_
        have es := dayS_f (I := I) (L := L) (w := w) (v := (fun j => S.1 5 (a * 60 + j))) (j := j) (fun q => by first | exact c_82 q.2 | exact absurd q.1 (Int.not_le.mpr c_54))
        exact ih ((h + 1) * e - (j + 1)) (by omega) (j + 1) S1 rfl ⟨by omega, by omega⟩ ⟨t1, by rw [es]; exact t2, t3⟩

set_option maxHeartbeats 4000000 in
set_option maxRecDepth 100000 in
theorem lp_dayX2 {S : St} {I : Isl} (hI : IsX 11 I S) (hO : IOK I) (hT : IsT I S) {w : Nat → Nat} {L : Nat} (hL7 : L ≤ 6) (hv : VS I w L) (hS : RwS 3 6 60 S) {a e z : Nat} (ha : a < 6) (ez : S.1 4 a = nI z) (hz : z ≤ 60) (hze : 6 * e ≤ z) (he : 1 ≤ e ∧ e ≤ 4) (hd : ∀ j, j < 6 * e → dayOK I (S.1 5 (a * 60 + j)))  : ∀ (h : Nat) (S1 : St), (h ≤ 6) → (Fr (fun a => 40 ≤ a ∧ a ≤ 44) S S1 ∧ PlT 40 I (dayS I L w (fun j => S.1 5 (a * 60 + j)) (h * e)) S1 ∧ S1.1 40 5 = nI L) → X 4 120 mX10_worksOfDay (qi (fun r S' => r = nI (dayW I L w (fun j => S.1 5 (a * 60 + j)) e 6) ∧ Fr (fun a => 40 ≤ a ∧ a ≤ 44) S S')) 16 [(4, .int (nI h)), (3, .int (nI ((dayW I L w (fun j => S.1 5 (a * 60 + j)) e h)))), (0, .ref 0), (1, .int (nI a)), (2, .int (nI e))] [] S1 := by
  intro h S1
  induction hm : 6 - h using Nat.strongRecOn generalizing h S1 with
  | _ mm ih =>
    intro hh ht
    have hO1 := hO.1
    have hO2 := hO.2.1
    have hO3 := hO.2.2.1
    have hO4 := hO.2.2.2.1
    refine x_iload 0 dX10_worksOfDay_16 rfl ?_
    refine x_bipush (v := nI 6) dX10_worksOfDay_18 (by decide) ?_
    refine y_ic_ge 132 dX10_worksOfDay_20 (by decide) (by omega) (by omega) (fun c_20 => ?_) (fun c_20 => ?_)
    · refine x_iload_n 1 dX10_worksOfDay_132 rfl rfl ?_
      refine x_iret rfl dX10_worksOfDay_133 (by obtain rfl : h = 6 := (by omega); exact ⟨_, rfl, rfl, ht.1⟩)
    · refine x_iload 0 dX10_worksOfDay_23 rfl ?_
      refine x_iload_n 4 dX10_worksOfDay_25 rfl rfl ?_
      refine y_imul dX10_worksOfDay_26 ?_
      refine x_istore (lv' := [(5, _), (4, _), (3, _), (0, _), (1, _), (2, _)]) dX10_worksOfDay_27 (by decide) rfl ?_
      refine x_pick (lv' := [(5, _), (4, _), (3, _), (0, _), (1, _), (2, _)]) [0, 1, 2, 3, 4, 5] rfl ?_
      exact lp_dayX1 hI hO hT hL7 hv hS ha ez hz hze he hd (by omega) (fun S2 h2 => ih (6 - (h + 1)) (by omega) (h + 1) S2 rfl (by omega) h2) (h * e) S1 ⟨Nat.le_refl _, Nat.mul_le_mul_right e (by omega)⟩ ht

set_option maxHeartbeats 4000000 in
set_option maxRecDepth 100000 in
theorem c_X10_worksOfDay {S : St} {I : Isl} (hI : IsX 11 I S) (hO : IOK I) (hT : IsT I S) {w : Nat → Nat} {L : Nat} (hL7 : L ≤ 6) (hv : VS I w L) (hS : RwS 3 6 60 S) {a e z : Nat} (ha : a < 6) (ez : S.1 4 a = nI z) (hz : z ≤ 60) (hze : 6 * e ≤ z) (he : 1 ≤ e ∧ e ≤ 4) (hd : ∀ j, j < 6 * e → dayOK I (S.1 5 (a * 60 + j))) (hP : PlT 35 I w S) (hL : S.1 35 5 = nI L) : C 4 120 yX10_worksOfDay mX10_worksOfDay [.ref 0, .int (nI a), .int (nI e)] S (qi (fun r S' => r = nI (dayW I L w (fun j => S.1 5 (a * 60 + j)) e 6) ∧ Fr (fun a => 40 ≤ a ∧ a ≤ 44) S S')) := by
  have hO1 := hO.1
  have hO2 := hO.2.1
  have hO3 := hO.2.2.1
  have hO4 := hO.2.2.2.1
  refine C.ofX (by decide) rfl (Nat.le_of_ble_eq_true rfl) ?_
  show X 4 120 mX10_worksOfDay (qi (fun r S' => r = nI (dayW I L w (fun j => S.1 5 (a * 60 + j)) e 6) ∧ Fr (fun a => 40 ≤ a ∧ a ≤ 44) S S')) 0 [(0, .ref 0), (1, .int (nI a)), (2, .int (nI e))] [] S
  refine x_iconst (v := nI 0) dX10_worksOfDay_0 (by decide) ?_
  refine x_istore_n (lv' := [(3, _), (0, _), (1, _), (2, _)]) dX10_worksOfDay_1 rfl (by decide) rfl ?_
  refine x_aload_n 1 dX10_worksOfDay_2 rfl rfl ?_
  refine x_getR fX10_53 dX10_worksOfDay_3 l0 rfl ?_
  refine x_aload_n 1 dX10_worksOfDay_6 rfl rfl ?_
  refine x_getR fX10_49 dX10_worksOfDay_7 l0 rfl ?_
  refine x_callVqv (as := [_]) (rest := []) vX10_292 (c_X3_become (Or.inr (Or.inl rfl)) (Or.inl rfl) (Or.inr (by decide)) hI hO hP.1 hL (hv.ok hO)) dX10_worksOfDay_10 l40 rfl rfl rfl (Nat.le_of_ble_eq_true rfl) (Nat.le_of_ble_eq_true rfl) (Nat.le_of_ble_eq_true rfl) (fun S_10 q_10 => ?_)
  refine x_iconst (v := nI 0) dX10_worksOfDay_13 (by decide) ?_
  refine x_istore (lv' := [(4, _), (3, _), (0, _), (1, _), (2, _)]) dX10_worksOfDay_14 (by decide) rfl ?_
  refine x_pick (lv' := [(4, _), (3, _), (0, _), (1, _), (2, _)]) [0, 1, 2, 3, 4] rfl ?_
  exact lp_dayX2 hI hO hT hL7 hv hS ha ez hz hze he hd 0 S_10 (Nat.zero_le _) (by rw [Nat.zero_mul]; exact q_10)

set_option maxHeartbeats 4000000 in
set_option maxRecDepth 100000 in
theorem lp_dayX3 {S : St} {I : Isl} (hI : IsX 11 I S) (hO : IOK I) {w : Nat → Nat} (hP : PlT 35 I w S) {L : Nat} (hL : S.1 35 5 = nI L) (hL7 : L ≤ 6) (hv : VS I w L) (hT : IsT I S) (hS : RwS 3 6 60 S) {a z : Nat} (ha : a < 6) (ez : S.1 4 a = nI z) (hz : z ≤ 60) (hz6 : z % 6 = 0 ∧ 1 ≤ z / 6 ∧ z / 6 ≤ 4)  : ∀ (k : Nat), (k ≤ z) → (∀ j, j < k → dayOK I (S.1 5 (a * 60 + j))) → X 5 150 mX10_day (qi (i2 (¬ ∀ j, j < z → dayOK I (S.1 5 (a * 60 + j))) (an (-3) (fndS S 3)) (fun r S' => r = nI (dayW I L w (fun j => S.1 5 (a * 60 + j)) (z / 6) 6) ∧ ∃ S2, Fr (fun a => 40 ≤ a ∧ a ≤ 44) S S2 ∧ S' = setI S2 1 0 (nI (wthF I (dayW I L w (fun j => S.1 5 (a * 60 + j)) (z / 6) 6)))))) 72 [(3, .int (nI k)), (2, .int (nI z)), (0, .ref 0), (1, .int (nI a))] [] S := by
  intro k
  induction hm : z - k using Nat.strongRecOn generalizing k with
  | _ mm ih =>
    intro hk hx
    have hO1 := hO.1
    have hO2 := hO.2.1
    have hO3 := hO.2.2.1
    have hO4 := hO.2.2.2.1
    have hw := hv.ok hO
    have hw7 := hw.w7 hO
    refine x_iload_n 0 dX10_day_72 rfl rfl ?_
    refine x_iload_n 1 dX10_day_73 rfl rfl ?_
    refine y_ic_ge 121 dX10_day_74 (by decide) (by omega) (by omega) (fun c_74 => ?_) (fun c_74 => ?_)
    · refine x_aload_n 2 dX10_day_121 rfl rfl ?_
      refine x_iload_n 3 dX10_day_122 rfl rfl ?_
      refine x_iload_n 1 dX10_day_123 rfl rfl ?_
      refine x_bipush (v := nI 6) dX10_day_124 (by decide) ?_
      refine y_idiv dX10_day_126 (by omega) (by omega) (by omega) ?_
      refine x_callVqi (as := [_, _]) (rest := []) vX10_289 (c_X10_worksOfDay hI hO hT hL7 hv hS ha ez hz (by omega) ⟨by omega, by omega⟩ (fun j hj => hx j (by omega)) hP hL) dX10_day_127 l0 rfl rfl rfl (Nat.le_of_ble_eq_true rfl) (Nat.le_of_ble_eq_true rfl) (Nat.le_of_ble_eq_true rfl) (fun r_127 S_127 q_127 => ?_)
      obtain ⟨rfl, hf⟩ := q_127
      have hdw : dayW I L w (fun j => S.1 5 (a * 60 + j)) (z / 6) 6 < 2 ^ iW I := dayW_lt
      have h28 : 2 ^ iW I ≤ 2 ^ 8 := Nat.pow_le_pow_right (by decide) hO3
      refine x_istore_n (lv' := [(3, _), (2, _), (0, _), (1, _)]) dX10_day_130 rfl (by decide) rfl ?_
      refine x_aload_n 2 dX10_day_131 rfl rfl ?_
      refine x_getR fX10_10 dX10_day_132 l0 rfl ?_
      refine x_aload_n 2 dX10_day_135 rfl rfl ?_
      refine x_getR fX10_40 dX10_day_136 l0 rfl ?_
      refine x_iload_n 0 dX10_day_139 rfl rfl ?_
      refine x_callVu (as := [_]) (rest := [_]) vX10_286 (c_X1_worthOf (by omega) ((hf.2 22 (by omega) _).trans (hT.2 _ hdw))) dX10_day_140 l11 rfl rfl rfl (Nat.le_of_ble_eq_true rfl) (Nat.le_of_ble_eq_true rfl) (Nat.le_of_ble_eq_true rfl) ?_
      refine x_callVu (as := [_]) (rest := []) vX10_131 c_X9_tell dX10_day_143 l1 rfl rfl rfl (Nat.le_of_ble_eq_true rfl) (Nat.le_of_ble_eq_true rfl) (Nat.le_of_ble_eq_true rfl) ?_
      refine x_pop dX10_day_146 rfl ?_
      refine x_iload_n 0 dX10_day_147 rfl rfl ?_
      refine x_iret rfl dX10_day_148 (q2_1 (fun h => h (fun j hj => hx j (by omega))) ⟨rfl, _, hf, rfl⟩)
    · refine x_aload_n 2 dX10_day_77 rfl rfl ?_
      refine x_getR fX10_21 dX10_day_78 l0 rfl ?_
      refine x_iload_n 3 dX10_day_81 rfl rfl ?_
      refine x_iload_n 0 dX10_day_82 rfl rfl ?_
      refine x_callVu (as := [_, _]) (rest := []) vX10_124 (c_getR hS.1 ha ez hz (by omega) rfl) dX10_day_83 l3 rfl rfl rfl (Nat.le_of_ble_eq_true rfl) (Nat.le_of_ble_eq_true rfl) (Nat.le_of_ble_eq_true rfl) ?_
      refine x_istore (lv' := [(4, _), (3, _), (2, _), (0, _), (1, _)]) dX10_day_86 (by decide) rfl ?_
      refine x_iload 0 dX10_day_88 rfl ?_
      refine x_iconst (v := -1) dX10_day_90 (by decide) ?_
      refine x_ic_eq 115 dX10_day_91 (by decide) (fun c_91 => ?_) (fun c_91 => ?_)
      · refine y_iinc (lv' := [(3, _), (4, _), (2, _), (0, _), (1, _)]) 1 dX10_day_115 rfl (by decide) rfl ?_
        refine x_goto 72 dX10_day_118 (by decide) ?_
        refine x_pick (lv' := [(3, _), (2, _), (0, _), (1, _)]) [0, 2, 3, 4] rfl ?_
        exact ih (z - (k + 1)) (by omega) (k + 1) rfl (by omega) (fun j hj => by rcases Nat.lt_succ_iff_lt_or_eq.mp hj with h | h; exact hx j h; subst h; first | exact Or.inl c_91 | exact Or.inr c_100)
      · refine x_aload_n 3 dX10_day_94 rfl rfl ?_
        refine x_getR fX10_40 dX10_day_95 l0 rfl ?_
        refine x_iload 0 dX10_day_98 rfl ?_
        refine x_callVb (as := [_]) (rest := []) vX10_265 (c_X1_isNumber hI hO) dX10_day_100 l11 rfl rfl rfl (Nat.le_of_ble_eq_true rfl) (Nat.le_of_ble_eq_true rfl) (Nat.le_of_ble_eq_true rfl) (fun c_100 => ?_) (fun c_100 => ?_)
        · refine t_if_ne 115 dX10_day_103 (by decide) (by decide) ?_
          refine y_iinc (lv' := [(3, _), (4, _), (2, _), (0, _), (1, _)]) 1 dX10_day_115 rfl (by decide) rfl ?_
          refine x_goto 72 dX10_day_118 (by decide) ?_
          refine x_pick (lv' := [(3, _), (2, _), (0, _), (1, _)]) [0, 2, 3, 4] rfl ?_
          exact ih (z - (k + 1)) (by omega) (k + 1) rfl (by omega) (fun j hj => by rcases Nat.lt_succ_iff_lt_or_eq.mp hj with h | h; exact hx j h; subst h; first | exact Or.inl c_91 | exact Or.inr c_100)
        · refine u_if_ne 115 dX10_day_103 (by decide) (by decide) ?_
          refine x_aload_n 3 dX10_day_106 rfl rfl ?_
          refine x_getR fX10_10 dX10_day_107 l0 rfl ?_
          refine x_iconst (v := nI 3) dX10_day_110 (by decide) ?_
          refine x_callVu (as := [_]) (rest := []) vX10_109 (c_X9_find (by decide) (by decide)) dX10_day_111 l1 rfl rfl rfl (Nat.le_of_ble_eq_true rfl) (Nat.le_of_ble_eq_true rfl) (Nat.le_of_ble_eq_true rfl) ?_
          refine x_iret rfl dX10_day_114 (q2_0 (fun h => (h k (by omega)).elim c_91 c_100) ⟨rfl, rfl⟩)

set_option maxHeartbeats 4000000 in
set_option maxRecDepth 100000 in
theorem c_X10_day {S : St} {I : Isl} (hI : IsX 11 I S) (hO : IOK I) {w : Nat → Nat} (hP : PlT 35 I w S) {L : Nat} (hL : S.1 35 5 = nI L) (hL7 : L ≤ 6) (hv : VS I w L) (hT : IsT I S) (hS : RwS 3 6 60 S) {x : Int32} : C 5 150 yX10_day mX10_day [.ref 0, .int x] S (qi (i5 (¬ (0 ≤ x.toInt ∧ x.toInt < 6)) ((S.1 4 (tn x)).toInt < 0) (¬ (tn (S.1 4 (tn x)) % 6 = 0 ∧ 1 ≤ tn (S.1 4 (tn x)) / 6 ∧ tn (S.1 4 (tn x)) / 6 ≤ 4)) (¬ ∀ j, j < tn (S.1 4 (tn x)) → dayOK I (S.1 5 (tn x * 60 + j))) (an (-1) S) (an (-3) (fndS S 1)) (an (-3) (fndS S 5)) (an (-3) (fndS S 3)) (fun r S' => r = nI (dayW I L w (fun j => S.1 5 (tn x * 60 + j)) (tn (S.1 4 (tn x)) / 6) 6) ∧ ∃ S2, Fr (fun a => 40 ≤ a ∧ a ≤ 44) S S2 ∧ S' = setI S2 1 0 (nI (wthF I (dayW I L w (fun j => S.1 5 (tn x * 60 + j)) (tn (S.1 4 (tn x)) / 6) 6)))))) := by
  have hO1 := hO.1
  have hO2 := hO.2.1
  have hO3 := hO.2.2.1
  have hO4 := hO.2.2.2.1
  refine C.ofX (by decide) rfl (Nat.le_of_ble_eq_true rfl) ?_
  show X 5 150 mX10_day (qi (i5 (¬ (0 ≤ x.toInt ∧ x.toInt < 6)) ((S.1 4 (tn x)).toInt < 0) (¬ (tn (S.1 4 (tn x)) % 6 = 0 ∧ 1 ≤ tn (S.1 4 (tn x)) / 6 ∧ tn (S.1 4 (tn x)) / 6 ≤ 4)) (¬ ∀ j, j < tn (S.1 4 (tn x)) → dayOK I (S.1 5 (tn x * 60 + j))) (an (-1) S) (an (-3) (fndS S 1)) (an (-3) (fndS S 5)) (an (-3) (fndS S 3)) (fun r S' => r = nI (dayW I L w (fun j => S.1 5 (tn x * 60 + j)) (tn (S.1 4 (tn x)) / 6) 6) ∧ ∃ S2, Fr (fun a => 40 ≤ a ∧ a ≤ 44) S S2 ∧ S' = setI S2 1 0 (nI (wthF I (dayW I L w (fun j => S.1 5 (tn x * 60 + j)) (tn (S.1 4 (tn x)) / 6) 6)))))) 0 [(0, .ref 0), (1, .int x)] [] S
  refine x_aload_n 0 dX10_day_0 rfl rfl ?_
  refine x_getR fX10_21 dX10_day_1 l0 rfl ?_
  refine x_iload_n 1 dX10_day_4 rfl rfl ?_
  refine x_callVb (as := [_]) (rest := []) vX10_105 (c_X5_isOne isR) dX10_day_5 l3 rfl rfl rfl (Nat.le_of_ble_eq_true rfl) (Nat.le_of_ble_eq_true rfl) (Nat.le_of_ble_eq_true rfl) (fun c_5 => ?_) (fun c_5 => ?_)
  · refine t_if_ne 13 dX10_day_8 (by decide) (by decide) ?_
    obtain ⟨a, ha, rfl⟩ := nI_ex (x := x) (n := 6) (by omega) (by omega)
    have ea : (nI a).toInt = (a : Int) := tiN (by omega)
    have ta : tn (nI a) = a := tnN (by omega)
    refine x_aload_n 0 dX10_day_13 rfl rfl ?_
    refine x_getR fX10_21 dX10_day_14 l0 rfl ?_
    refine x_iload_n 1 dX10_day_17 rfl rfl ?_
    refine x_callVb (as := [_]) (rest := []) vX10_117 (c_miss ha) dX10_day_18 l3 rfl rfl rfl (Nat.le_of_ble_eq_true rfl) (Nat.le_of_ble_eq_true rfl) (Nat.le_of_ble_eq_true rfl) (fun c_18 => ?_) (fun c_18 => ?_)
    · refine u_if_eq 33 dX10_day_21 (by decide) (by decide) ?_
      refine x_aload_n 0 dX10_day_24 rfl rfl ?_
      refine x_getR fX10_10 dX10_day_25 l0 rfl ?_
      refine x_iconst (v := nI 1) dX10_day_28 (by decide) ?_
      refine x_callVu (as := [_]) (rest := []) vX10_109 (c_X9_find (by decide) (by decide)) dX10_day_29 l1 rfl rfl rfl (Nat.le_of_ble_eq_true rfl) (Nat.le_of_ble_eq_true rfl) (Nat.le_of_ble_eq_true rfl) ?_
      refine x_iret rfl dX10_day_32 (by simp only [ta]; exact q5_1 (by omega) (by omega) ⟨rfl, rfl⟩)
    · refine t_if_eq 33 dX10_day_21 (by decide) (by decide) ?_
      obtain ⟨z, hz, ez⟩ := hS.nn ha c_18
      have ezi : (nI z).toInt = (z : Int) := tiN (by omega)
      have tz : tn (nI z) = z := tnN (by omega)
      refine x_aload_n 0 dX10_day_33 rfl rfl ?_
      refine x_getR fX10_21 dX10_day_34 l0 rfl ?_
      refine x_iload_n 1 dX10_day_37 rfl rfl ?_
      refine x_callVu (as := [_]) (rest := []) vX10_141 (c_sizeOf isR ha ez) dX10_day_38 l3 rfl rfl rfl (Nat.le_of_ble_eq_true rfl) (Nat.le_of_ble_eq_true rfl) (Nat.le_of_ble_eq_true rfl) ?_
      refine x_istore_n (lv' := [(2, _), (0, _), (1, _)]) dX10_day_41 rfl (by decide) rfl ?_
      refine x_iload_n 0 dX10_day_42 rfl rfl ?_
      refine y_if_eq 61 dX10_day_43 (by decide) (by omega) (fun c_43 => ?_) (fun c_43 => ?_)
      · refine x_aload_n 1 dX10_day_61 rfl rfl ?_
        refine x_getR fX10_10 dX10_day_62 l0 rfl ?_
        refine x_iconst (v := nI 5) dX10_day_65 (by decide) ?_
        refine x_callVu (as := [_]) (rest := []) vX10_109 (c_X9_find (by decide) (by decide)) dX10_day_66 l1 rfl rfl rfl (Nat.le_of_ble_eq_true rfl) (Nat.le_of_ble_eq_true rfl) (Nat.le_of_ble_eq_true rfl) ?_
        refine x_iret rfl dX10_day_69 (by simp only [ta, ez, tz]; exact q5_2 (by omega) (by omega) (by omega) ⟨rfl, rfl⟩)
      · refine x_iload_n 0 dX10_day_46 rfl rfl ?_
        refine x_bipush (v := nI 6) dX10_day_47 (by decide) ?_
        refine y_irem dX10_day_49 (by omega) (by omega) (by omega) ?_
        refine y_if_ne 61 dX10_day_50 (by decide) (by omega) (fun c_50 => ?_) (fun c_50 => ?_)
        · refine x_aload_n 1 dX10_day_61 rfl rfl ?_
          refine x_getR fX10_10 dX10_day_62 l0 rfl ?_
          refine x_iconst (v := nI 5) dX10_day_65 (by decide) ?_
          refine x_callVu (as := [_]) (rest := []) vX10_109 (c_X9_find (by decide) (by decide)) dX10_day_66 l1 rfl rfl rfl (Nat.le_of_ble_eq_true rfl) (Nat.le_of_ble_eq_true rfl) (Nat.le_of_ble_eq_true rfl) ?_
          refine x_iret rfl dX10_day_69 (by simp only [ta, ez, tz]; exact q5_2 (by omega) (by omega) (by omega) ⟨rfl, rfl⟩)
        · refine x_iload_n 0 dX10_day_53 rfl rfl ?_
          refine x_bipush (v := nI 6) dX10_day_54 (by decide) ?_
          refine y_idiv dX10_day_56 (by omega) (by omega) (by omega) ?_
          refine x_iconst (v := nI 4) dX10_day_57 (by decide) ?_
          refine y_ic_le 70 dX10_day_58 (by decide) (by omega) (by omega) (fun c_58 => ?_) (fun c_58 => ?_)
          · refine x_iconst (v := nI 0) dX10_day_70 (by decide) ?_
            refine x_istore_n (lv' := [(3, _), (2, _), (0, _), (1, _)]) dX10_day_71 rfl (by decide) rfl ?_
            refine x_pick (lv' := [(3, _), (2, _), (0, _), (1, _)]) [0, 1, 2, 3] rfl ?_
            refine (lp_dayX3 hI hO hP hL hL7 hv hT hS ha ez hz ⟨by omega, by omega, by omega⟩ 0 (Nat.zero_le _) (fun j hj => absurd hj (Nat.not_lt_zero j))).mono (fun v S' hq => ?_)
            obtain ⟨r, rfl, hr⟩ := hq
            simp only [ta, ez, tz]
            by_cases hg : ∀ j, j < z → dayOK I (S.1 5 (a * 60 + j))
            · rw [e2_1 (fun q => q hg)] at hr
              exact q5_4 (by omega) (by omega) (by omega) (fun q => q hg) hr
            · rw [e2_0 hg] at hr
              exact q5_3 (by omega) (by omega) (by omega) hg hr
          · refine x_aload_n 1 dX10_day_61 rfl rfl ?_
            refine x_getR fX10_10 dX10_day_62 l0 rfl ?_
            refine x_iconst (v := nI 5) dX10_day_65 (by decide) ?_
            refine x_callVu (as := [_]) (rest := []) vX10_109 (c_X9_find (by decide) (by decide)) dX10_day_66 l1 rfl rfl rfl (Nat.le_of_ble_eq_true rfl) (Nat.le_of_ble_eq_true rfl) (Nat.le_of_ble_eq_true rfl) ?_
            refine x_iret rfl dX10_day_69 (by simp only [ta, ez, tz]; exact q5_2 (by omega) (by omega) (by omega) ⟨rfl, rfl⟩)
  · refine u_if_ne 13 dX10_day_8 (by decide) (by decide) ?_
    refine x_iconst (v := -1) dX10_day_11 (by decide) ?_
    refine x_iret rfl dX10_day_12 (q5_0 c_5 ⟨rfl, rfl⟩)

set_option maxHeartbeats 4000000 in
set_option maxRecDepth 100000 in
theorem lp_dayM1 {S : St} {I : Isl} (hI : IsM I S) (hO : IOK I) {w : Nat → Nat} {L : Nat} (hL : S.1 83 17 = nI L) (hL7 : L ≤ 6) (hv : VS I w L) {a e : Nat} (ha : a < 6) (he : 1 ≤ e ∧ e ≤ 4) (hd : ∀ j, j < 6 * e → dayOK I (S.1 86 (60 * a + j))) {Q : Option Value → St → Prop} {h : Nat} (hh : h < 6) (kk : ∀ S2, (F97 S S2 ∧ MW I (dayS I L w (fun j => S.1 86 (60 * a + j)) ((h + 1) * e)) S2) → X 4 120 mX11_day Q 145 [(6, .int (nI (h + 1))), (5, .int (nI (wthF I (dayW I L w (fun j => S.1 86 (60 * a + j)) e (h + 1))))), (4, .int (nI (dayW I L w (fun j => S.1 86 (60 * a + j)) e (h + 1)))), (3, .int (nI e)), (0, .ref 83), (1, .int (nI a))] [] S2) {S1 : St} (ht : F97 S S1 ∧ MW I (dayS I L w (fun j => S.1 86 (60 * a + j)) ((h + 1) * e)) S1)  : ∀ (i : Nat), (i ≤ iW I) → X 4 120 mX11_day (Q) 221 [(7, .int (nI i)), (6, .int (nI h)), (5, .int (nI ((wthF I (dayR I L w (fun j => S.1 86 (60 * a + j)) e h i))))), (4, .int (nI ((dayR I L w (fun j => S.1 86 (60 * a + j)) e h i)))), (3, .int (nI e)), (0, .ref 83), (1, .int (nI a))] [] S1 := by
  intro i
  induction hm : iW I - i using Nat.strongRecOn generalizing i with
  | _ mm ih =>
    intro hi
    have hO1 := hO.1
    have hO2 := hO.2.1
    have hO3 := hO.2.2.1
    have hO4 := hO.2.2.2.1
    have hbe : (h + 1) * e ≤ 6 * e := Nat.mul_le_mul_right e (by omega)
    have hse : (h + 1) * e = h * e + e := Nat.succ_mul h e
    obtain ⟨t1, t2⟩ := id ht
    have hI1 := hI.f97 t1
    have hvj := dayS_VS (v := fun j => S.1 86 (60 * a + j)) hO hv hd ((h + 1) * e) (by omega)
    have hwj := hvj.ok hO
    have hV := hO.v i
    have hwl := wth_le hO (dayR I L w (fun j => S.1 86 (60 * a + j)) e h i)
    refine x_iload 0 dX11_day_221 rfl ?_
    refine x_aload_n 5 dX11_day_223 rfl rfl ?_
    refine y_getI fX11_184 dX11_day_224 l83 rfl hI1.2.2.2.1 ?_
    refine y_ic_ge 309 dX11_day_227 (by decide) (by omega) (by omega) (fun c_227 => ?_) (fun c_227 => ?_)
    · refine y_iinc (lv' := [(6, _), (7, _), (5, _), (4, _), (3, _), (0, _), (1, _)]) 1 dX11_day_309 rfl (by decide) rfl ?_
      refine x_goto 145 dX11_day_312 (by decide) ?_
      refine x_pick (lv' := [(6, _), (5, _), (4, _), (3, _), (0, _), (1, _)]) [0, 2, 3, 4, 5, 6] rfl ?_
      obtain rfl : i = iW I := (by omega)
      rw [dayR_end]
      exact kk S1 ht
    · refine x_aload_n 5 dX11_day_230 rfl rfl ?_
      refine x_getR fX11_35 dX11_day_231 l83 rfl ?_
      refine x_iconst (v := nI 4) dX11_day_234 (by decide) ?_
      refine x_iload 0 dX11_day_235 rfl ?_
      refine y_imul dX11_day_237 ?_
      refine y_iald dX11_day_238 l92 (by omega) (by decide) (hI1.2.2.2.2.2.2 i (by omega) 0 (by decide)) ?_
      refine x_iload 1 dX11_day_239 rfl ?_
      refine y_ic_ne 257 dX11_day_241 (by decide) (by omega) (by omega) (fun c_241 => ?_) (fun c_241 => ?_)
      · refine x_iconst (v := nI 0) dX11_day_257 (by decide) ?_
        refine x_istore (lv' := [(8, _), (7, _), (6, _), (5, _), (4, _), (3, _), (0, _), (1, _)]) dX11_day_258 (by decide) rfl ?_
        refine x_iload 4 dX11_day_260 rfl ?_
        refine x_iload 0 dX11_day_262 rfl ?_
        refine y_if_eq 274 dX11_day_264 (by decide) (by omega) (fun c_264 => ?_) (fun c_264 => ?_)
        · refine x_iconst (v := nI 0) dX11_day_274 (by decide) ?_
          refine y_ior dX11_day_275 ?_
          refine x_istore (lv' := [(4, _), (8, _), (7, _), (6, _), (5, _), (3, _), (0, _), (1, _)]) dX11_day_276 (by decide) rfl ?_
          refine x_iload 4 dX11_day_278 rfl ?_
          refine x_iload 1 dX11_day_280 rfl ?_
          refine y_if_eq 299 dX11_day_282 (by decide) (by omega) (fun c_282 => ?_) (fun c_282 => ?_)
          · refine x_iconst (v := nI 0) dX11_day_299 (by decide) ?_
            refine y_iadd dX11_day_300 ?_
            refine x_istore (lv' := [(5, _), (4, _), (8, _), (7, _), (6, _), (3, _), (0, _), (1, _)]) dX11_day_301 (by decide) rfl ?_
            rw [show ((4, Value.int (nI (((dayR I L w (fun j => S.1 86 (60 * a + j)) e h i) ||| 0)))) : Nat × Value) = (4, Value.int (nI (dayR I L w (fun j => S.1 86 (60 * a + j)) e h (i + 1)))) from by first | (exfalso; omega) | rw [dayR_s c_241 c_247, Nat.one_mul] | rw [dayR_n (fun q => c_247 q.2), Nat.or_zero] | rw [dayR_n (fun q => c_241 q.1), Nat.or_zero]]
            rw [show ((5, Value.int (nI (((wthF I (dayR I L w (fun j => S.1 86 (60 * a + j)) e h i)) + 0)))) : Nat × Value) = (5, Value.int (nI (wthF I (dayR I L w (fun j => S.1 86 (60 * a + j)) e h (i + 1))))) from by first | (exfalso; omega) | rw [dayR_s c_241 c_247, wth_or (by omega) (dayR_no c_241)] | rw [dayR_n (fun q => c_247 q.2), Nat.add_zero] | rw [dayR_n (fun q => c_241 q.1), Nat.add_zero]]
            refine y_iinc (lv' := [(7, _), (5, _), (4, _), (8, _), (6, _), (3, _), (0, _), (1, _)]) 3 dX11_day_303 rfl (by decide) rfl ?_
            refine x_goto 221 dX11_day_306 (by decide) ?_
            refine x_pick (lv' := [(7, _), (6, _), (5, _), (4, _), (3, _), (0, _), (1, _)]) [0, 4, 1, 2, 5, 6, 7] rfl ?_
            exact ih (iW I - (i + 1)) (by omega) (i + 1) rfl (by omega)
          · refine x_aload_n 6 dX11_day_285 rfl rfl ?_
            refine x_getR fX11_35 dX11_day_286 l83 rfl ?_
            refine x_iconst (v := nI 4) dX11_day_289 (by decide) ?_
            refine x_iload 2 dX11_day_290 rfl ?_
            refine y_imul dX11_day_292 ?_
            refine x_iconst (v := nI 3) dX11_day_293 (by decide) ?_
            refine y_iadd dX11_day_294 ?_
            refine y_iald dX11_day_295 l92 (by omega) (by decide) (hI1.2.2.2.2.2.2 i (by omega) 3 (by decide)) ?_
            refine x_goto 300 dX11_day_296 (by decide) ?_
            refine y_iadd dX11_day_300 ?_
            refine x_istore (lv' := [(5, _), (4, _), (8, _), (7, _), (6, _), (3, _), (0, _), (1, _)]) dX11_day_301 (by decide) rfl ?_
            rw [show ((4, Value.int (nI (((dayR I L w (fun j => S.1 86 (60 * a + j)) e h i) ||| 0)))) : Nat × Value) = (4, Value.int (nI (dayR I L w (fun j => S.1 86 (60 * a + j)) e h (i + 1)))) from by first | (exfalso; omega) | rw [dayR_s c_241 c_247, Nat.one_mul] | rw [dayR_n (fun q => c_247 q.2), Nat.or_zero] | rw [dayR_n (fun q => c_241 q.1), Nat.or_zero]]
            rw [show ((5, Value.int (nI (((wthF I (dayR I L w (fun j => S.1 86 (60 * a + j)) e h i)) + (iV I i 3))))) : Nat × Value) = (5, Value.int (nI (wthF I (dayR I L w (fun j => S.1 86 (60 * a + j)) e h (i + 1))))) from by first | (exfalso; omega) | rw [dayR_s c_241 c_247, wth_or (by omega) (dayR_no c_241)] | rw [dayR_n (fun q => c_247 q.2), Nat.add_zero] | rw [dayR_n (fun q => c_241 q.1), Nat.add_zero]]
            refine y_iinc (lv' := [(7, _), (5, _), (4, _), (8, _), (6, _), (3, _), (0, _), (1, _)]) 3 dX11_day_303 rfl (by decide) rfl ?_
            refine x_goto 221 dX11_day_306 (by decide) ?_
            refine x_pick (lv' := [(7, _), (6, _), (5, _), (4, _), (3, _), (0, _), (1, _)]) [0, 4, 1, 2, 5, 6, 7] rfl ?_
            exact ih (iW I - (i + 1)) (by omega) (i + 1) rfl (by omega)
        · refine x_iconst (v := nI 1) dX11_day_267 (by decide) ?_
          refine x_iload 1 dX11_day_268 rfl ?_
          refine y_ishl dX11_day_270 (by omega) ?_
          refine x_goto 275 dX11_day_271 (by decide) ?_
          refine y_ior dX11_day_275 ?_
          refine x_istore (lv' := [(4, _), (8, _), (7, _), (6, _), (5, _), (3, _), (0, _), (1, _)]) dX11_day_276 (by decide) rfl ?_
          refine x_iload 4 dX11_day_278 rfl ?_
          refine x_iload 1 dX11_day_280 rfl ?_
          refine y_if_eq 299 dX11_day_282 (by decide) (by omega) (fun c_282 => ?_) (fun c_282 => ?_)
          · refine x_iconst (v := nI 0) dX11_day_299 (by decide) ?_
            refine y_iadd dX11_day_300 ?_
            refine x_istore (lv' := [(5, _), (4, _), (8, _), (7, _), (6, _), (3, _), (0, _), (1, _)]) dX11_day_301 (by decide) rfl ?_
            rw [show ((4, Value.int (nI (((dayR I L w (fun j => S.1 86 (60 * a + j)) e h i) ||| (1 * 2 ^ i))))) : Nat × Value) = (4, Value.int (nI (dayR I L w (fun j => S.1 86 (60 * a + j)) e h (i + 1)))) from by first | (exfalso; omega) | rw [dayR_s c_241 c_247, Nat.one_mul] | rw [dayR_n (fun q => c_247 q.2), Nat.or_zero] | rw [dayR_n (fun q => c_241 q.1), Nat.or_zero]]
            rw [show ((5, Value.int (nI (((wthF I (dayR I L w (fun j => S.1 86 (60 * a + j)) e h i)) + 0)))) : Nat × Value) = (5, Value.int (nI (wthF I (dayR I L w (fun j => S.1 86 (60 * a + j)) e h (i + 1))))) from by first | (exfalso; omega) | rw [dayR_s c_241 c_247, wth_or (by omega) (dayR_no c_241)] | rw [dayR_n (fun q => c_247 q.2), Nat.add_zero] | rw [dayR_n (fun q => c_241 q.1), Nat.add_zero]]
            refine y_iinc (lv' := [(7, _), (5, _), (4, _), (8, _), (6, _), (3, _), (0, _), (1, _)]) 3 dX11_day_303 rfl (by decide) rfl ?_
            refine x_goto 221 dX11_day_306 (by decide) ?_
            refine x_pick (lv' := [(7, _), (6, _), (5, _), (4, _), (3, _), (0, _), (1, _)]) [0, 4, 1, 2, 5, 6, 7] rfl ?_
            exact ih (iW I - (i + 1)) (by omega) (i + 1) rfl (by omega)
          · refine x_aload_n 6 dX11_day_285 rfl rfl ?_
            refine x_getR fX11_35 dX11_day_286 l83 rfl ?_
            refine x_iconst (v := nI 4) dX11_day_289 (by decide) ?_
            refine x_iload 2 dX11_day_290 rfl ?_
            refine y_imul dX11_day_292 ?_
            refine x_iconst (v := nI 3) dX11_day_293 (by decide) ?_
            refine y_iadd dX11_day_294 ?_
            refine y_iald dX11_day_295 l92 (by omega) (by decide) (hI1.2.2.2.2.2.2 i (by omega) 3 (by decide)) ?_
            refine x_goto 300 dX11_day_296 (by decide) ?_
            refine y_iadd dX11_day_300 ?_
            refine x_istore (lv' := [(5, _), (4, _), (8, _), (7, _), (6, _), (3, _), (0, _), (1, _)]) dX11_day_301 (by decide) rfl ?_
            rw [show ((4, Value.int (nI (((dayR I L w (fun j => S.1 86 (60 * a + j)) e h i) ||| (1 * 2 ^ i))))) : Nat × Value) = (4, Value.int (nI (dayR I L w (fun j => S.1 86 (60 * a + j)) e h (i + 1)))) from by first | (exfalso; omega) | rw [dayR_s c_241 c_247, Nat.one_mul] | rw [dayR_n (fun q => c_247 q.2), Nat.or_zero] | rw [dayR_n (fun q => c_241 q.1), Nat.or_zero]]
            rw [show ((5, Value.int (nI (((wthF I (dayR I L w (fun j => S.1 86 (60 * a + j)) e h i)) + (iV I i 3))))) : Nat × Value) = (5, Value.int (nI (wthF I (dayR I L w (fun j => S.1 86 (60 * a + j)) e h (i + 1))))) from by first | (exfalso; omega) | rw [dayR_s c_241 c_247, wth_or (by omega) (dayR_no c_241)] | rw [dayR_n (fun q => c_247 q.2), Nat.add_zero] | rw [dayR_n (fun q => c_241 q.1), Nat.add_zero]]
            refine y_iinc (lv' := [(7, _), (5, _), (4, _), (8, _), (6, _), (3, _), (0, _), (1, _)]) 3 dX11_day_303 rfl (by decide) rfl ?_
            refine x_goto 221 dX11_day_306 (by decide) ?_
            refine x_pick (lv' := [(7, _), (6, _), (5, _), (4, _), (3, _), (0, _), (1, _)]) [0, 4, 1, 2, 5, 6, 7] rfl ?_
            exact ih (iW I - (i + 1)) (by omega) (i + 1) rfl (by omega)
      · refine x_aload_n 5 dX11_day_244 rfl rfl ?_
        refine x_iload 0 dX11_day_245 rfl ?_
        refine x_callVb (as := [_]) (rest := []) vX11_262 (c_X11_canWork hI1 hO t2 hwj (by omega)) dX11_day_247 l83 rfl rfl rfl (Nat.le_of_ble_eq_true rfl) (Nat.le_of_ble_eq_true rfl) (Nat.le_of_ble_eq_true rfl) (fun c_247 => ?_) (fun c_247 => ?_)
        · refine u_if_eq 257 dX11_day_250 (by decide) (by decide) ?_
          refine x_iconst (v := nI 1) dX11_day_253 (by decide) ?_
          refine x_goto 258 dX11_day_254 (by decide) ?_
          refine x_istore (lv' := [(8, _), (7, _), (6, _), (5, _), (4, _), (3, _), (0, _), (1, _)]) dX11_day_258 (by decide) rfl ?_
          refine x_iload 4 dX11_day_260 rfl ?_
          refine x_iload 0 dX11_day_262 rfl ?_
          refine y_if_eq 274 dX11_day_264 (by decide) (by omega) (fun c_264 => ?_) (fun c_264 => ?_)
          · refine x_iconst (v := nI 0) dX11_day_274 (by decide) ?_
            refine y_ior dX11_day_275 ?_
            refine x_istore (lv' := [(4, _), (8, _), (7, _), (6, _), (5, _), (3, _), (0, _), (1, _)]) dX11_day_276 (by decide) rfl ?_
            refine x_iload 4 dX11_day_278 rfl ?_
            refine x_iload 1 dX11_day_280 rfl ?_
            refine y_if_eq 299 dX11_day_282 (by decide) (by omega) (fun c_282 => ?_) (fun c_282 => ?_)
            · refine x_iconst (v := nI 0) dX11_day_299 (by decide) ?_
              refine y_iadd dX11_day_300 ?_
              refine x_istore (lv' := [(5, _), (4, _), (8, _), (7, _), (6, _), (3, _), (0, _), (1, _)]) dX11_day_301 (by decide) rfl ?_
              rw [show ((4, Value.int (nI (((dayR I L w (fun j => S.1 86 (60 * a + j)) e h i) ||| 0)))) : Nat × Value) = (4, Value.int (nI (dayR I L w (fun j => S.1 86 (60 * a + j)) e h (i + 1)))) from by first | (exfalso; omega) | rw [dayR_s c_241 c_247, Nat.one_mul] | rw [dayR_n (fun q => c_247 q.2), Nat.or_zero] | rw [dayR_n (fun q => c_241 q.1), Nat.or_zero]]
              rw [show ((5, Value.int (nI (((wthF I (dayR I L w (fun j => S.1 86 (60 * a + j)) e h i)) + 0)))) : Nat × Value) = (5, Value.int (nI (wthF I (dayR I L w (fun j => S.1 86 (60 * a + j)) e h (i + 1))))) from by first | (exfalso; omega) | rw [dayR_s c_241 c_247, wth_or (by omega) (dayR_no c_241)] | rw [dayR_n (fun q => c_247 q.2), Nat.add_zero] | rw [dayR_n (fun q => c_241 q.1), Nat.add_zero]]
              refine y_iinc (lv' := [(7, _), (5, _), (4, _), (8, _), (6, _), (3, _), (0, _), (1, _)]) 3 dX11_day_303 rfl (by decide) rfl ?_
              refine x_goto 221 dX11_day_306 (by decide) ?_
              refine x_pick (lv' := [(7, _), (6, _), (5, _), (4, _), (3, _), (0, _), (1, _)]) [0, 4, 1, 2, 5, 6, 7] rfl ?_
              exact ih (iW I - (i + 1)) (by omega) (i + 1) rfl (by omega)
            · refine x_aload_n 6 dX11_day_285 rfl rfl ?_
              refine x_getR fX11_35 dX11_day_286 l83 rfl ?_
              refine x_iconst (v := nI 4) dX11_day_289 (by decide) ?_
              refine x_iload 2 dX11_day_290 rfl ?_
              refine y_imul dX11_day_292 ?_
              refine x_iconst (v := nI 3) dX11_day_293 (by decide) ?_
              refine y_iadd dX11_day_294 ?_
              refine y_iald dX11_day_295 l92 (by omega) (by decide) (hI1.2.2.2.2.2.2 i (by omega) 3 (by decide)) ?_
              refine x_goto 300 dX11_day_296 (by decide) ?_
              refine y_iadd dX11_day_300 ?_
              refine x_istore (lv' := [(5, _), (4, _), (8, _), (7, _), (6, _), (3, _), (0, _), (1, _)]) dX11_day_301 (by decide) rfl ?_
              rw [show ((4, Value.int (nI (((dayR I L w (fun j => S.1 86 (60 * a + j)) e h i) ||| 0)))) : Nat × Value) = (4, Value.int (nI (dayR I L w (fun j => S.1 86 (60 * a + j)) e h (i + 1)))) from by first | (exfalso; omega) | rw [dayR_s c_241 c_247, Nat.one_mul] | rw [dayR_n (fun q => c_247 q.2), Nat.or_zero] | rw [dayR_n (fun q => c_241 q.1), Nat.or_zero]]
              rw [show ((5, Value.int (nI (((wthF I (dayR I L w (fun j => S.1 86 (60 * a + j)) e h i)) + (iV I i 3))))) : Nat × Value) = (5, Value.int (nI (wthF I (dayR I L w (fun j => S.1 86 (60 * a + j)) e h (i + 1))))) from by first | (exfalso; omega) | rw [dayR_s c_241 c_247, wth_or (by omega) (dayR_no c_241)] | rw [dayR_n (fun q => c_247 q.2), Nat.add_zero] | rw [dayR_n (fun q => c_241 q.1), Nat.add_zero]]
              refine y_iinc (lv' := [(7, _), (5, _), (4, _), (8, _), (6, _), (3, _), (0, _), (1, _)]) 3 dX11_day_303 rfl (by decide) rfl ?_
              refine x_goto 221 dX11_day_306 (by decide) ?_
              refine x_pick (lv' := [(7, _), (6, _), (5, _), (4, _), (3, _), (0, _), (1, _)]) [0, 4, 1, 2, 5, 6, 7] rfl ?_
              exact ih (iW I - (i + 1)) (by omega) (i + 1) rfl (by omega)
          · refine x_iconst (v := nI 1) dX11_day_267 (by decide) ?_
            refine x_iload 1 dX11_day_268 rfl ?_
            refine y_ishl dX11_day_270 (by omega) ?_
            refine x_goto 275 dX11_day_271 (by decide) ?_
            refine y_ior dX11_day_275 ?_
            refine x_istore (lv' := [(4, _), (8, _), (7, _), (6, _), (5, _), (3, _), (0, _), (1, _)]) dX11_day_276 (by decide) rfl ?_
            refine x_iload 4 dX11_day_278 rfl ?_
            refine x_iload 1 dX11_day_280 rfl ?_
            refine y_if_eq 299 dX11_day_282 (by decide) (by omega) (fun c_282 => ?_) (fun c_282 => ?_)
            · refine x_iconst (v := nI 0) dX11_day_299 (by decide) ?_
              refine y_iadd dX11_day_300 ?_
              refine x_istore (lv' := [(5, _), (4, _), (8, _), (7, _), (6, _), (3, _), (0, _), (1, _)]) dX11_day_301 (by decide) rfl ?_
              rw [show ((4, Value.int (nI (((dayR I L w (fun j => S.1 86 (60 * a + j)) e h i) ||| (1 * 2 ^ i))))) : Nat × Value) = (4, Value.int (nI (dayR I L w (fun j => S.1 86 (60 * a + j)) e h (i + 1)))) from by first | (exfalso; omega) | rw [dayR_s c_241 c_247, Nat.one_mul] | rw [dayR_n (fun q => c_247 q.2), Nat.or_zero] | rw [dayR_n (fun q => c_241 q.1), Nat.or_zero]]
              rw [show ((5, Value.int (nI (((wthF I (dayR I L w (fun j => S.1 86 (60 * a + j)) e h i)) + 0)))) : Nat × Value) = (5, Value.int (nI (wthF I (dayR I L w (fun j => S.1 86 (60 * a + j)) e h (i + 1))))) from by first | (exfalso; omega) | rw [dayR_s c_241 c_247, wth_or (by omega) (dayR_no c_241)] | rw [dayR_n (fun q => c_247 q.2), Nat.add_zero] | rw [dayR_n (fun q => c_241 q.1), Nat.add_zero]]
              refine y_iinc (lv' := [(7, _), (5, _), (4, _), (8, _), (6, _), (3, _), (0, _), (1, _)]) 3 dX11_day_303 rfl (by decide) rfl ?_
              refine x_goto 221 dX11_day_306 (by decide) ?_
              refine x_pick (lv' := [(7, _), (6, _), (5, _), (4, _), (3, _), (0, _), (1, _)]) [0, 4, 1, 2, 5, 6, 7] rfl ?_
              exact ih (iW I - (i + 1)) (by omega) (i + 1) rfl (by omega)
            · refine x_aload_n 6 dX11_day_285 rfl rfl ?_
              refine x_getR fX11_35 dX11_day_286 l83 rfl ?_
              refine x_iconst (v := nI 4) dX11_day_289 (by decide) ?_
              refine x_iload 2 dX11_day_290 rfl ?_
              refine y_imul dX11_day_292 ?_
              refine x_iconst (v := nI 3) dX11_day_293 (by decide) ?_
              refine y_iadd dX11_day_294 ?_
              refine y_iald dX11_day_295 l92 (by omega) (by decide) (hI1.2.2.2.2.2.2 i (by omega) 3 (by decide)) ?_
              refine x_goto 300 dX11_day_296 (by decide) ?_
              refine y_iadd dX11_day_300 ?_
              refine x_istore (lv' := [(5, _), (4, _), (8, _), (7, _), (6, _), (3, _), (0, _), (1, _)]) dX11_day_301 (by decide) rfl ?_
              rw [show ((4, Value.int (nI (((dayR I L w (fun j => S.1 86 (60 * a + j)) e h i) ||| (1 * 2 ^ i))))) : Nat × Value) = (4, Value.int (nI (dayR I L w (fun j => S.1 86 (60 * a + j)) e h (i + 1)))) from by first | (exfalso; omega) | rw [dayR_s c_241 c_247, Nat.one_mul] | rw [dayR_n (fun q => c_247 q.2), Nat.or_zero] | rw [dayR_n (fun q => c_241 q.1), Nat.or_zero]]
              rw [show ((5, Value.int (nI (((wthF I (dayR I L w (fun j => S.1 86 (60 * a + j)) e h i)) + (iV I i 3))))) : Nat × Value) = (5, Value.int (nI (wthF I (dayR I L w (fun j => S.1 86 (60 * a + j)) e h (i + 1))))) from by first | (exfalso; omega) | rw [dayR_s c_241 c_247, wth_or (by omega) (dayR_no c_241)] | rw [dayR_n (fun q => c_247 q.2), Nat.add_zero] | rw [dayR_n (fun q => c_241 q.1), Nat.add_zero]]
              refine y_iinc (lv' := [(7, _), (5, _), (4, _), (8, _), (6, _), (3, _), (0, _), (1, _)]) 3 dX11_day_303 rfl (by decide) rfl ?_
              refine x_goto 221 dX11_day_306 (by decide) ?_
              refine x_pick (lv' := [(7, _), (6, _), (5, _), (4, _), (3, _), (0, _), (1, _)]) [0, 4, 1, 2, 5, 6, 7] rfl ?_
              exact ih (iW I - (i + 1)) (by omega) (i + 1) rfl (by omega)
        · refine t_if_eq 257 dX11_day_250 (by decide) (by decide) ?_
          refine x_iconst (v := nI 0) dX11_day_257 (by decide) ?_
          refine x_istore (lv' := [(8, _), (7, _), (6, _), (5, _), (4, _), (3, _), (0, _), (1, _)]) dX11_day_258 (by decide) rfl ?_
          refine x_iload 4 dX11_day_260 rfl ?_
          refine x_iload 0 dX11_day_262 rfl ?_
          refine y_if_eq 274 dX11_day_264 (by decide) (by omega) (fun c_264 => ?_) (fun c_264 => ?_)
          · refine x_iconst (v := nI 0) dX11_day_274 (by decide) ?_
            refine y_ior dX11_day_275 ?_
            refine x_istore (lv' := [(4, _), (8, _), (7, _), (6, _), (5, _), (3, _), (0, _), (1, _)]) dX11_day_276 (by decide) rfl ?_
            refine x_iload 4 dX11_day_278 rfl ?_
            refine x_iload 1 dX11_day_280 rfl ?_
            refine y_if_eq 299 dX11_day_282 (by decide) (by omega) (fun c_282 => ?_) (fun c_282 => ?_)
            · refine x_iconst (v := nI 0) dX11_day_299 (by decide) ?_
              refine y_iadd dX11_day_300 ?_
              refine x_istore (lv' := [(5, _), (4, _), (8, _), (7, _), (6, _), (3, _), (0, _), (1, _)]) dX11_day_301 (by decide) rfl ?_
              rw [show ((4, Value.int (nI (((dayR I L w (fun j => S.1 86 (60 * a + j)) e h i) ||| 0)))) : Nat × Value) = (4, Value.int (nI (dayR I L w (fun j => S.1 86 (60 * a + j)) e h (i + 1)))) from by first | (exfalso; omega) | rw [dayR_s c_241 c_247, Nat.one_mul] | rw [dayR_n (fun q => c_247 q.2), Nat.or_zero] | rw [dayR_n (fun q => c_241 q.1), Nat.or_zero]]
              rw [show ((5, Value.int (nI (((wthF I (dayR I L w (fun j => S.1 86 (60 * a + j)) e h i)) + 0)))) : Nat × Value) = (5, Value.int (nI (wthF I (dayR I L w (fun j => S.1 86 (60 * a + j)) e h (i + 1))))) from by first | (exfalso; omega) | rw [dayR_s c_241 c_247, wth_or (by omega) (dayR_no c_241)] | rw [dayR_n (fun q => c_247 q.2), Nat.add_zero] | rw [dayR_n (fun q => c_241 q.1), Nat.add_zero]]
              refine y_iinc (lv' := [(7, _), (5, _), (4, _), (8, _), (6, _), (3, _), (0, _), (1, _)]) 3 dX11_day_303 rfl (by decide) rfl ?_
              refine x_goto 221 dX11_day_306 (by decide) ?_
              refine x_pick (lv' := [(7, _), (6, _), (5, _), (4, _), (3, _), (0, _), (1, _)]) [0, 4, 1, 2, 5, 6, 7] rfl ?_
              exact ih (iW I - (i + 1)) (by omega) (i + 1) rfl (by omega)
            · refine x_aload_n 6 dX11_day_285 rfl rfl ?_
              refine x_getR fX11_35 dX11_day_286 l83 rfl ?_
              refine x_iconst (v := nI 4) dX11_day_289 (by decide) ?_
              refine x_iload 2 dX11_day_290 rfl ?_
              refine y_imul dX11_day_292 ?_
              refine x_iconst (v := nI 3) dX11_day_293 (by decide) ?_
              refine y_iadd dX11_day_294 ?_
              refine y_iald dX11_day_295 l92 (by omega) (by decide) (hI1.2.2.2.2.2.2 i (by omega) 3 (by decide)) ?_
              refine x_goto 300 dX11_day_296 (by decide) ?_
              refine y_iadd dX11_day_300 ?_
              refine x_istore (lv' := [(5, _), (4, _), (8, _), (7, _), (6, _), (3, _), (0, _), (1, _)]) dX11_day_301 (by decide) rfl ?_
              rw [show ((4, Value.int (nI (((dayR I L w (fun j => S.1 86 (60 * a + j)) e h i) ||| 0)))) : Nat × Value) = (4, Value.int (nI (dayR I L w (fun j => S.1 86 (60 * a + j)) e h (i + 1)))) from by first | (exfalso; omega) | rw [dayR_s c_241 c_247, Nat.one_mul] | rw [dayR_n (fun q => c_247 q.2), Nat.or_zero] | rw [dayR_n (fun q => c_241 q.1), Nat.or_zero]]
              rw [show ((5, Value.int (nI (((wthF I (dayR I L w (fun j => S.1 86 (60 * a + j)) e h i)) + (iV I i 3))))) : Nat × Value) = (5, Value.int (nI (wthF I (dayR I L w (fun j => S.1 86 (60 * a + j)) e h (i + 1))))) from by first | (exfalso; omega) | rw [dayR_s c_241 c_247, wth_or (by omega) (dayR_no c_241)] | rw [dayR_n (fun q => c_247 q.2), Nat.add_zero] | rw [dayR_n (fun q => c_241 q.1), Nat.add_zero]]
              refine y_iinc (lv' := [(7, _), (5, _), (4, _), (8, _), (6, _), (3, _), (0, _), (1, _)]) 3 dX11_day_303 rfl (by decide) rfl ?_
              refine x_goto 221 dX11_day_306 (by decide) ?_
              refine x_pick (lv' := [(7, _), (6, _), (5, _), (4, _), (3, _), (0, _), (1, _)]) [0, 4, 1, 2, 5, 6, 7] rfl ?_
              exact ih (iW I - (i + 1)) (by omega) (i + 1) rfl (by omega)
          · refine x_iconst (v := nI 1) dX11_day_267 (by decide) ?_
            refine x_iload 1 dX11_day_268 rfl ?_
            refine y_ishl dX11_day_270 (by omega) ?_
            refine x_goto 275 dX11_day_271 (by decide) ?_
            refine y_ior dX11_day_275 ?_
            refine x_istore (lv' := [(4, _), (8, _), (7, _), (6, _), (5, _), (3, _), (0, _), (1, _)]) dX11_day_276 (by decide) rfl ?_
            refine x_iload 4 dX11_day_278 rfl ?_
            refine x_iload 1 dX11_day_280 rfl ?_
            refine y_if_eq 299 dX11_day_282 (by decide) (by omega) (fun c_282 => ?_) (fun c_282 => ?_)
            · refine x_iconst (v := nI 0) dX11_day_299 (by decide) ?_
              refine y_iadd dX11_day_300 ?_
              refine x_istore (lv' := [(5, _), (4, _), (8, _), (7, _), (6, _), (3, _), (0, _), (1, _)]) dX11_day_301 (by decide) rfl ?_
              rw [show ((4, Value.int (nI (((dayR I L w (fun j => S.1 86 (60 * a + j)) e h i) ||| (1 * 2 ^ i))))) : Nat × Value) = (4, Value.int (nI (dayR I L w (fun j => S.1 86 (60 * a + j)) e h (i + 1)))) from by first | (exfalso; omega) | rw [dayR_s c_241 c_247, Nat.one_mul] | rw [dayR_n (fun q => c_247 q.2), Nat.or_zero] | rw [dayR_n (fun q => c_241 q.1), Nat.or_zero]]
              rw [show ((5, Value.int (nI (((wthF I (dayR I L w (fun j => S.1 86 (60 * a + j)) e h i)) + 0)))) : Nat × Value) = (5, Value.int (nI (wthF I (dayR I L w (fun j => S.1 86 (60 * a + j)) e h (i + 1))))) from by first | (exfalso; omega) | rw [dayR_s c_241 c_247, wth_or (by omega) (dayR_no c_241)] | rw [dayR_n (fun q => c_247 q.2), Nat.add_zero] | rw [dayR_n (fun q => c_241 q.1), Nat.add_zero]]
              refine y_iinc (lv' := [(7, _), (5, _), (4, _), (8, _), (6, _), (3, _), (0, _), (1, _)]) 3 dX11_day_303 rfl (by decide) rfl ?_
              refine x_goto 221 dX11_day_306 (by decide) ?_
              refine x_pick (lv' := [(7, _), (6, _), (5, _), (4, _), (3, _), (0, _), (1, _)]) [0, 4, 1, 2, 5, 6, 7] rfl ?_
              exact ih (iW I - (i + 1)) (by omega) (i + 1) rfl (by omega)
            · refine x_aload_n 6 dX11_day_285 rfl rfl ?_
              refine x_getR fX11_35 dX11_day_286 l83 rfl ?_
              refine x_iconst (v := nI 4) dX11_day_289 (by decide) ?_
              refine x_iload 2 dX11_day_290 rfl ?_
              refine y_imul dX11_day_292 ?_
              refine x_iconst (v := nI 3) dX11_day_293 (by decide) ?_
              refine y_iadd dX11_day_294 ?_
              refine y_iald dX11_day_295 l92 (by omega) (by decide) (hI1.2.2.2.2.2.2 i (by omega) 3 (by decide)) ?_
              refine x_goto 300 dX11_day_296 (by decide) ?_
              refine y_iadd dX11_day_300 ?_
              refine x_istore (lv' := [(5, _), (4, _), (8, _), (7, _), (6, _), (3, _), (0, _), (1, _)]) dX11_day_301 (by decide) rfl ?_
              rw [show ((4, Value.int (nI (((dayR I L w (fun j => S.1 86 (60 * a + j)) e h i) ||| (1 * 2 ^ i))))) : Nat × Value) = (4, Value.int (nI (dayR I L w (fun j => S.1 86 (60 * a + j)) e h (i + 1)))) from by first | (exfalso; omega) | rw [dayR_s c_241 c_247, Nat.one_mul] | rw [dayR_n (fun q => c_247 q.2), Nat.or_zero] | rw [dayR_n (fun q => c_241 q.1), Nat.or_zero]]
              rw [show ((5, Value.int (nI (((wthF I (dayR I L w (fun j => S.1 86 (60 * a + j)) e h i)) + (iV I i 3))))) : Nat × Value) = (5, Value.int (nI (wthF I (dayR I L w (fun j => S.1 86 (60 * a + j)) e h (i + 1))))) from by first | (exfalso; omega) | rw [dayR_s c_241 c_247, wth_or (by omega) (dayR_no c_241)] | rw [dayR_n (fun q => c_247 q.2), Nat.add_zero] | rw [dayR_n (fun q => c_241 q.1), Nat.add_zero]]
              refine y_iinc (lv' := [(7, _), (5, _), (4, _), (8, _), (6, _), (3, _), (0, _), (1, _)]) 3 dX11_day_303 rfl (by decide) rfl ?_
              refine x_goto 221 dX11_day_306 (by decide) ?_
              refine x_pick (lv' := [(7, _), (6, _), (5, _), (4, _), (3, _), (0, _), (1, _)]) [0, 4, 1, 2, 5, 6, 7] rfl ?_
              exact ih (iW I - (i + 1)) (by omega) (i + 1) rfl (by omega)

set_option maxHeartbeats 4000000 in
set_option maxRecDepth 100000 in
theorem lp_dayM2 {S : St} {I : Isl} (hI : IsM I S) (hO : IOK I) {w : Nat → Nat} {L : Nat} (hL : S.1 83 17 = nI L) (hL7 : L ≤ 6) (hv : VS I w L) {a e : Nat} (ha : a < 6) (he : 1 ≤ e ∧ e ≤ 4) (hd : ∀ j, j < 6 * e → dayOK I (S.1 86 (60 * a + j))) {Q : Option Value → St → Prop} {h : Nat} (hh : h < 6) (kk : ∀ S2, (F97 S S2 ∧ MW I (dayS I L w (fun j => S.1 86 (60 * a + j)) ((h + 1) * e)) S2) → X 4 120 mX11_day Q 145 [(6, .int (nI (h + 1))), (5, .int (nI (wthF I (dayW I L w (fun j => S.1 86 (60 * a + j)) e (h + 1))))), (4, .int (nI (dayW I L w (fun j => S.1 86 (60 * a + j)) e (h + 1)))), (3, .int (nI e)), (0, .ref 83), (1, .int (nI a))] [] S2)  : ∀ (i : Nat) (S1 : St), (i ≤ e) → (F97 S S1 ∧ MW I (dayS I L w (fun j => S.1 86 (60 * a + j)) (h * e + i)) S1) → X 4 120 mX11_day (Q) 155 [(7, .int (nI i)), (6, .int (nI h)), (5, .int (nI ((wthF I (dayW I L w (fun j => S.1 86 (60 * a + j)) e h))))), (4, .int (nI ((dayW I L w (fun j => S.1 86 (60 * a + j)) e h)))), (3, .int (nI e)), (0, .ref 83), (1, .int (nI a))] [] S1 := by
  intro i S1
  induction hm : e - i using Nat.strongRecOn generalizing i S1 with
  | _ mm ih =>
    intro hi ht
    have hO1 := hO.1
    have hO2 := hO.2.1
    have hO3 := hO.2.2.1
    have hO4 := hO.2.2.2.1
    have hbe : (h + 1) * e ≤ 6 * e := Nat.mul_le_mul_right e (by omega)
    have hse : (h + 1) * e = h * e + e := Nat.succ_mul h e
    obtain ⟨t1, t2⟩ := id ht
    have hI1 := hI.f97 t1
    have hvj := dayS_VS (v := fun j => S.1 86 (60 * a + j)) hO hv hd (h * e + i) (by omega)
    have hwj := hvj.ok hO
    have hdj := hd (h * e + i)
    have hce : e * h = h * e := Nat.mul_comm e h
    refine x_iload 0 dX11_day_155 rfl ?_
    refine x_iload_n 4 dX11_day_157 rfl rfl ?_
    refine y_ic_ge 218 dX11_day_158 (by decide) (by omega) (by omega) (fun c_158 => ?_) (fun c_158 => ?_)
    · refine x_iconst (v := nI 0) dX11_day_218 (by decide) ?_
      refine x_istore (lv' := [(7, _), (6, _), (5, _), (4, _), (3, _), (0, _), (1, _)]) dX11_day_219 (by decide) rfl ?_
      refine x_pick (lv' := [(7, _), (6, _), (5, _), (4, _), (3, _), (0, _), (1, _)]) [0, 1, 2, 3, 4, 5, 6] rfl ?_
      obtain rfl : i = e := (by omega)
      have hh1 := lp_dayM1 hI hO hL hL7 hv ha he hd hh kk (S1 := S1) (by rw [hse]; exact ht) 0 (Nat.zero_le _)
      rw [dayR_0] at hh1
      exact hh1
    · refine x_aload_n 5 dX11_day_161 rfl rfl ?_
      refine x_iload_n 6 dX11_day_162 rfl rfl ?_
      refine x_iload_n 4 dX11_day_163 rfl rfl ?_
      refine x_iload 1 dX11_day_164 rfl ?_
      refine y_imul dX11_day_166 ?_
      refine x_iload 0 dX11_day_167 rfl ?_
      refine y_iadd dX11_day_169 ?_
      refine x_callVu (as := [_, _]) (rest := []) vX11_116 (c_rowAtM (v := S.1 86 (60 * a + (h * e + i))) ha (by omega) (by rw [hce]; exact t1.2 86 (by decide) _)) dX11_day_170 l83 rfl rfl rfl (Nat.le_of_ble_eq_true rfl) (Nat.le_of_ble_eq_true rfl) (Nat.le_of_ble_eq_true rfl) ?_
      refine x_istore (lv' := [(8, _), (7, _), (6, _), (5, _), (4, _), (3, _), (0, _), (1, _)]) dX11_day_173 (by decide) rfl ?_
      refine x_iload 0 dX11_day_175 rfl ?_
      refine x_if_lt 212 dX11_day_177 (by decide) (fun c_177 => ?_) (fun c_177 => ?_)
      · refine y_iinc (lv' := [(7, _), (8, _), (6, _), (5, _), (4, _), (3, _), (0, _), (1, _)]) 1 dX11_day_212 rfl (by decide) rfl ?_
        refine x_goto 155 dX11_day_215 (by decide) ?_
        refine x_pick (lv' := [(7, _), (6, _), (5, _), (4, _), (3, _), (0, _), (1, _)]) [0, 2, 3, 4, 5, 6, 7] rfl ?_
        have es := dayS_f (I := I) (L := L) (w := w) (v := (fun j => S.1 86 (60 * a + j))) (j := h * e + i) (fun q => by first | exact c_191 q.2 | exact absurd q.1 (Int.not_le.mpr c_177))
        exact ih (e - (i + 1)) (by omega) (i + 1) S1 rfl (by omega) ⟨t1, by rw [← Nat.add_assoc (h * e) i 1, es]; exact t2⟩
      · obtain ⟨n1, n2, n3, n4⟩ := numOK_n hO (dayOK_n (hdj (by omega)) c_177)
        rw [show ((8, Value.int (S.1 86 (60 * a + (h * e + i)))) : Nat × Value) = (8, Value.int (nI (tn (S.1 86 (60 * a + (h * e + i)))))) from by rw [← n1]]
        refine x_aload_n 6 dX11_day_180 rfl rfl ?_
        refine x_iload 0 dX11_day_181 rfl ?_
        refine x_bipush (v := nI 7) dX11_day_183 (by decide) ?_
        refine y_idiv dX11_day_185 (by omega) (by omega) (by omega) ?_
        refine x_iload 0 dX11_day_186 rfl ?_
        refine x_bipush (v := nI 7) dX11_day_188 (by decide) ?_
        refine y_irem dX11_day_190 (by omega) (by omega) (by omega) ?_
        refine x_callVb (as := [_, _]) (rest := []) vX11_241 (c_X11_mayStep hI1 hO t2 hwj ((t1.2 83 (by decide) 17).trans hL) (by omega) n2 n3) dX11_day_191 l83 rfl rfl rfl (Nat.le_of_ble_eq_true rfl) (Nat.le_of_ble_eq_true rfl) (Nat.le_of_ble_eq_true rfl) (fun c_191 => ?_) (fun c_191 => ?_)
        · refine u_if_eq 212 dX11_day_194 (by decide) (by decide) ?_
          refine x_aload_n 6 dX11_day_197 rfl rfl ?_
          refine x_getR fX11_50 dX11_day_198 l83 rfl ?_
          refine x_iload 0 dX11_day_201 rfl ?_
          refine x_bipush (v := nI 7) dX11_day_203 (by decide) ?_
          refine y_idiv dX11_day_205 (by omega) (by omega) (by omega) ?_
          refine x_iload 0 dX11_day_206 rfl ?_
          refine x_bipush (v := nI 7) dX11_day_208 (by decide) ?_
          refine y_irem dX11_day_210 (by omega) (by omega) (by omega) ?_
          refine y_iast dX11_day_211 l97 (by omega) (by decide) ?_
          refine y_iinc (lv' := [(7, _), (8, _), (6, _), (5, _), (4, _), (3, _), (0, _), (1, _)]) 1 dX11_day_212 rfl (by decide) rfl ?_
          refine x_goto 155 dX11_day_215 (by decide) ?_
          refine x_pick (lv' := [(7, _), (6, _), (5, _), (4, _), (3, _), (0, _), (1, _)]) [0, 2, 3, 4, 5, 6, 7] rfl ?_
          have es := dayS_t (I := I) (L := L) (w := w) (v := (fun j => S.1 86 (60 * a + j))) (j := h * e + i) c_177 c_191
          exact ih (e - (i + 1)) (by omega) (i + 1) _ rfl (by omega) ⟨t1.trans ⟨rfl, fun c hc b => rdI_k hc⟩, fun t ht2 => by rw [← Nat.add_assoc (h * e) i 1, es]; by_cases q : t = tn (S.1 86 (60 * a + (h * e + i))) / 7; rw [q, upW_eq, rdI_eq]; rw [upW_ne q, rdI_j q]; exact t2 t ht2⟩
        · refine t_if_eq 212 dX11_day_194 (by decide) (by decide) ?_
          refine y_iinc (lv' := [(7, _), (8, _), (6, _), (5, _), (4, _), (3, _), (0, _), (1, _)]) 1 dX11_day_212 rfl (by decide) rfl ?_
          refine x_goto 155 dX11_day_215 (by decide) ?_
          refine x_pick (lv' := [(7, _), (6, _), (5, _), (4, _), (3, _), (0, _), (1, _)]) [0, 2, 3, 4, 5, 6, 7] rfl ?_
          have es := dayS_f (I := I) (L := L) (w := w) (v := (fun j => S.1 86 (60 * a + j))) (j := h * e + i) (fun q => by first | exact c_191 q.2 | exact absurd q.1 (Int.not_le.mpr c_177))
          exact ih (e - (i + 1)) (by omega) (i + 1) S1 rfl (by omega) ⟨t1, by rw [← Nat.add_assoc (h * e) i 1, es]; exact t2⟩

set_option maxHeartbeats 4000000 in
set_option maxRecDepth 100000 in
theorem lp_dayM3 {S : St} {I : Isl} (hI : IsM I S) (hO : IOK I) {w : Nat → Nat} {L : Nat} (hL : S.1 83 17 = nI L) (hL7 : L ≤ 6) (hv : VS I w L) {a e : Nat} (ha : a < 6) (he : 1 ≤ e ∧ e ≤ 4) (hd : ∀ j, j < 6 * e → dayOK I (S.1 86 (60 * a + j)))  : ∀ (h : Nat) (S1 : St), (h ≤ 6) → (F97 S S1 ∧ MW I (dayS I L w (fun j => S.1 86 (60 * a + j)) (h * e)) S1) → X 4 120 mX11_day (qi (fun r S' => r = nI (dayW I L w (fun j => S.1 86 (60 * a + j)) e 6) ∧ ∃ S2, F97 S S2 ∧ S' = setI S2 83 2 (nI (wthF I (dayW I L w (fun j => S.1 86 (60 * a + j)) e 6))))) 145 [(6, .int (nI h)), (5, .int (nI ((wthF I (dayW I L w (fun j => S.1 86 (60 * a + j)) e h))))), (4, .int (nI ((dayW I L w (fun j => S.1 86 (60 * a + j)) e h)))), (3, .int (nI e)), (0, .ref 83), (1, .int (nI a))] [] S1 := by
  intro h S1
  induction hm : 6 - h using Nat.strongRecOn generalizing h S1 with
  | _ mm ih =>
    intro hh ht
    have hO1 := hO.1
    have hO2 := hO.2.1
    have hO3 := hO.2.2.1
    have hO4 := hO.2.2.2.1
    refine x_iload 0 dX11_day_145 rfl ?_
    refine x_bipush (v := nI 6) dX11_day_147 (by decide) ?_
    refine y_ic_ge 315 dX11_day_149 (by decide) (by omega) (by omega) (fun c_149 => ?_) (fun c_149 => ?_)
    · refine x_aload_n 4 dX11_day_315 rfl rfl ?_
      refine x_iload 1 dX11_day_316 rfl ?_
      refine x_iload 2 dX11_day_318 rfl ?_
      refine x_callVu (as := [_, _]) (rest := []) vX11_120 c_X11_tells dX11_day_320 l83 rfl rfl rfl (Nat.le_of_ble_eq_true rfl) (Nat.le_of_ble_eq_true rfl) (Nat.le_of_ble_eq_true rfl) ?_
      refine x_iret rfl dX11_day_323 (by obtain rfl : h = 6 := (by omega); exact ⟨_, rfl, rfl, S1, ht.1, rfl⟩)
    · refine x_iconst (v := nI 0) dX11_day_152 (by decide) ?_
      refine x_istore (lv' := [(7, _), (6, _), (5, _), (4, _), (3, _), (0, _), (1, _)]) dX11_day_153 (by decide) rfl ?_
      refine x_pick (lv' := [(7, _), (6, _), (5, _), (4, _), (3, _), (0, _), (1, _)]) [0, 1, 2, 3, 4, 5, 6] rfl ?_
      exact lp_dayM2 hI hO hL hL7 hv ha he hd (by omega) (fun S2 h2 => ih (6 - (h + 1)) (by omega) (h + 1) S2 rfl (by omega) h2) 0 S1 (Nat.zero_le _) ht

set_option maxHeartbeats 4000000 in
set_option maxRecDepth 100000 in
theorem lp_dayM4 {S : St} {I : Isl} (hI : IsM I S) (hO : IOK I) {w : Nat → Nat} (hw0 : ∀ t, t < iM I → S.1 93 t = nI (w t)) {L : Nat} (hL : S.1 83 17 = nI L) (hL7 : L ≤ 6) (hv : VS I w L) {a z : Nat} (ha : a < 6) (hz : z ≤ 60) (ez : S.1 85 a = nI z) (hz6 : z % 6 = 0 ∧ 1 ≤ z / 6 ∧ z / 6 ≤ 4)  : ∀ (k : Nat) (x : Int32), (k ≤ z) → ((x = 1 ∧ (∀ j, j < k → dayOK I (S.1 86 (60 * a + j)))) ∨ (x = 0 ∧ ¬ (∀ j, j < k → dayOK I (S.1 86 (60 * a + j))))) → X 4 120 mX11_day (qi (i2 (¬ ∀ j, j < z → dayOK I (S.1 86 (60 * a + j))) (an (-3) (fndM S 3)) (fun r S' => r = nI (dayW I L w (fun j => S.1 86 (60 * a + j)) (z / 6) 6) ∧ ∃ S2, F97 S S2 ∧ S' = setI S2 83 2 (nI (wthF I (dayW I L w (fun j => S.1 86 (60 * a + j)) (z / 6) 6)))))) 63 [(3, .int (nI k)), (2, .int x), (0, .ref 83), (1, .int (nI a))] [] S := by
  intro k x
  induction hm : z - k using Nat.strongRecOn generalizing k x with
  | _ mm ih =>
    intro hk hx
    have hO1 := hO.1
    have hO2 := hO.2.1
    have hO3 := hO.2.2.1
    have hO4 := hO.2.2.2.1
    have hpx : ¬ x = 0 → (∀ j, j < k → dayOK I (S.1 86 (60 * a + j))) := fun q => hx.elim (fun a => a.2) (fun a => absurd a.1 q)
    have hpn : x = 0 → ¬ (∀ j, j < k → dayOK I (S.1 86 (60 * a + j))) := fun q => hx.elim (fun a => absurd (a.1.symm.trans q) (by decide)) (fun a => a.2)
    refine x_iload_n 0 dX11_day_63 rfl rfl ?_
    refine x_aload_n 2 dX11_day_64 rfl rfl ?_
    refine x_getR fX11_13 dX11_day_65 l83 rfl ?_
    refine x_iload_n 3 dX11_day_68 rfl rfl ?_
    refine y_iald dX11_day_69 l85 (by omega) (by decide) ez ?_
    refine y_ic_ge 112 dX11_day_70 (by decide) (by omega) (by omega) (fun c_70 => ?_) (fun c_70 => ?_)
    · refine x_iload_n 1 dX11_day_112 rfl rfl ?_
      refine x_if_ne 122 dX11_day_113 (by decide) (fun c_113 => ?_) (fun c_113 => ?_)
      · refine x_aload_n 2 dX11_day_122 rfl rfl ?_
        refine x_getR fX11_13 dX11_day_123 l83 rfl ?_
        refine x_iload_n 3 dX11_day_126 rfl rfl ?_
        refine y_iald dX11_day_127 l85 (by omega) (by decide) ez ?_
        refine x_bipush (v := nI 6) dX11_day_128 (by decide) ?_
        refine y_idiv dX11_day_130 (by omega) (by omega) (by omega) ?_
        refine x_istore_n (lv' := [(3, _), (2, _), (0, _), (1, _)]) dX11_day_131 rfl (by decide) rfl ?_
        refine x_iconst (v := nI 0) dX11_day_132 (by decide) ?_
        refine x_istore (lv' := [(4, _), (3, _), (2, _), (0, _), (1, _)]) dX11_day_133 (by decide) rfl ?_
        refine x_iconst (v := nI 0) dX11_day_135 (by decide) ?_
        refine x_istore (lv' := [(5, _), (4, _), (3, _), (2, _), (0, _), (1, _)]) dX11_day_136 (by decide) rfl ?_
        refine x_aload_n 4 dX11_day_138 rfl rfl ?_
        refine x_callVv (as := []) (rest := []) vX11_217 (c_X11_lookNow hI hO) dX11_day_139 l83 rfl rfl rfl (Nat.le_of_ble_eq_true rfl) (Nat.le_of_ble_eq_true rfl) (Nat.le_of_ble_eq_true rfl) ?_
        refine x_iconst (v := nI 0) dX11_day_142 (by decide) ?_
        refine x_istore (lv' := [(6, _), (5, _), (4, _), (3, _), (2, _), (0, _), (1, _)]) dX11_day_143 (by decide) rfl ?_
        refine x_pick (lv' := [(6, _), (5, _), (4, _), (3, _), (0, _), (1, _)]) [0, 1, 2, 3, 5, 6] rfl ?_
        have hall := hpx c_113
        obtain rfl : k = z := (by omega)
        have hh := lp_dayM3 hI hO hL hL7 hv ha (e := k / 6) ⟨by omega, by omega⟩ (fun j hj => hall j (by omega)) 0 (lkS S (iM I)) (Nat.zero_le _) ⟨lkS_f _ _, by rw [Nat.zero_mul]; exact lkS_W hw0⟩
        rw [dayW_0, wth_0] at hh
        refine hh.mono (fun v S' hq => ?_)
        obtain ⟨r, rfl, hr⟩ := hq
        exact q2_1 (fun h => h hall) hr
      · refine x_aload_n 2 dX11_day_116 rfl rfl ?_
        refine x_iconst (v := nI 3) dX11_day_117 (by decide) ?_
        refine x_callVu (as := [_]) (rest := []) vX11_112 (c_X11_meets (by decide)) dX11_day_118 l83 rfl rfl rfl (Nat.le_of_ble_eq_true rfl) (Nat.le_of_ble_eq_true rfl) (Nat.le_of_ble_eq_true rfl) ?_
        refine x_iret rfl dX11_day_121 (by obtain rfl : k = z := (by omega); exact q2_0 (hpn c_113) ⟨rfl, rfl⟩)
    · refine x_iload_n 1 dX11_day_73 rfl rfl ?_
      refine x_if_eq 104 dX11_day_74 (by decide) (fun c_74 => ?_) (fun c_74 => ?_)
      · refine x_iconst (v := nI 0) dX11_day_104 (by decide) ?_
        refine x_istore_n (lv' := [(2, _), (3, _), (0, _), (1, _)]) dX11_day_105 rfl (by decide) rfl ?_
        refine y_iinc (lv' := [(3, _), (2, _), (0, _), (1, _)]) 1 dX11_day_106 rfl (by decide) rfl ?_
        refine x_goto 63 dX11_day_109 (by decide) ?_
        refine x_pick (lv' := [(3, _), (2, _), (0, _), (1, _)]) [0, 1, 2, 3] rfl ?_
        exact ih (z - (k + 1)) (by omega) (k + 1) (nI 0) rfl (by omega) (Or.inr ⟨rfl, fun h => by first | exact (h k (by omega)).elim c_84 c_94 | exact hpn c_74 (fun j hj => h j (by omega))⟩)
      · refine x_aload_n 2 dX11_day_77 rfl rfl ?_
        refine x_iload_n 3 dX11_day_78 rfl rfl ?_
        refine x_iload_n 0 dX11_day_79 rfl rfl ?_
        refine x_callVu (as := [_, _]) (rest := []) vX11_116 (c_rowAtM ha (by omega) rfl) dX11_day_80 l83 rfl rfl rfl (Nat.le_of_ble_eq_true rfl) (Nat.le_of_ble_eq_true rfl) (Nat.le_of_ble_eq_true rfl) ?_
        refine x_iconst (v := -1) dX11_day_83 (by decide) ?_
        refine x_ic_eq 100 dX11_day_84 (by decide) (fun c_84 => ?_) (fun c_84 => ?_)
        · refine x_iconst (v := nI 1) dX11_day_100 (by decide) ?_
          refine x_goto 105 dX11_day_101 (by decide) ?_
          refine x_istore_n (lv' := [(2, _), (3, _), (0, _), (1, _)]) dX11_day_105 rfl (by decide) rfl ?_
          refine y_iinc (lv' := [(3, _), (2, _), (0, _), (1, _)]) 1 dX11_day_106 rfl (by decide) rfl ?_
          refine x_goto 63 dX11_day_109 (by decide) ?_
          refine x_pick (lv' := [(3, _), (2, _), (0, _), (1, _)]) [0, 1, 2, 3] rfl ?_
          exact ih (z - (k + 1)) (by omega) (k + 1) (nI 1) rfl (by omega) (Or.inl ⟨rfl, fun j hj => by rcases Nat.lt_succ_iff_lt_or_eq.mp hj with h | h; exact hpx c_74 j h; subst h; first | exact Or.inl c_84 | exact Or.inr c_94⟩)
        · refine x_aload_n 2 dX11_day_87 rfl rfl ?_
          refine x_aload_n 2 dX11_day_88 rfl rfl ?_
          refine x_iload_n 3 dX11_day_89 rfl rfl ?_
          refine x_iload_n 0 dX11_day_90 rfl rfl ?_
          refine x_callVu (as := [_, _]) (rest := [_]) vX11_116 (c_rowAtM ha (by omega) rfl) dX11_day_91 l83 rfl rfl rfl (Nat.le_of_ble_eq_true rfl) (Nat.le_of_ble_eq_true rfl) (Nat.le_of_ble_eq_true rfl) ?_
          refine x_callVb (as := [_]) (rest := []) vX11_248 (c_X11_isStep (w := w) hI hO) dX11_day_94 l83 rfl rfl rfl (Nat.le_of_ble_eq_true rfl) (Nat.le_of_ble_eq_true rfl) (Nat.le_of_ble_eq_true rfl) (fun c_94 => ?_) (fun c_94 => ?_)
          · refine u_if_eq 104 dX11_day_97 (by decide) (by decide) ?_
            refine x_iconst (v := nI 1) dX11_day_100 (by decide) ?_
            refine x_goto 105 dX11_day_101 (by decide) ?_
            refine x_istore_n (lv' := [(2, _), (3, _), (0, _), (1, _)]) dX11_day_105 rfl (by decide) rfl ?_
            refine y_iinc (lv' := [(3, _), (2, _), (0, _), (1, _)]) 1 dX11_day_106 rfl (by decide) rfl ?_
            refine x_goto 63 dX11_day_109 (by decide) ?_
            refine x_pick (lv' := [(3, _), (2, _), (0, _), (1, _)]) [0, 1, 2, 3] rfl ?_
            exact ih (z - (k + 1)) (by omega) (k + 1) (nI 1) rfl (by omega) (Or.inl ⟨rfl, fun j hj => by rcases Nat.lt_succ_iff_lt_or_eq.mp hj with h | h; exact hpx c_74 j h; subst h; first | exact Or.inl c_84 | exact Or.inr c_94⟩)
          · refine t_if_eq 104 dX11_day_97 (by decide) (by decide) ?_
            refine x_iconst (v := nI 0) dX11_day_104 (by decide) ?_
            refine x_istore_n (lv' := [(2, _), (3, _), (0, _), (1, _)]) dX11_day_105 rfl (by decide) rfl ?_
            refine y_iinc (lv' := [(3, _), (2, _), (0, _), (1, _)]) 1 dX11_day_106 rfl (by decide) rfl ?_
            refine x_goto 63 dX11_day_109 (by decide) ?_
            refine x_pick (lv' := [(3, _), (2, _), (0, _), (1, _)]) [0, 1, 2, 3] rfl ?_
            exact ih (z - (k + 1)) (by omega) (k + 1) (nI 0) rfl (by omega) (Or.inr ⟨rfl, fun h => by first | exact (h k (by omega)).elim c_84 c_94 | exact hpn c_74 (fun j hj => h j (by omega))⟩)

set_option maxHeartbeats 4000000 in
set_option maxRecDepth 100000 in
theorem c_X11_day {S : St} {I : Isl} (hI : IsM I S) (hO : IOK I) {w : Nat → Nat} (hw0 : ∀ t, t < iM I → S.1 93 t = nI (w t)) {L : Nat} (hL : S.1 83 17 = nI L) (hL7 : L ≤ 6) (hv : VS I w L) (hS : RwM S) {x : Int32} : C 4 120 yX11_day mX11_day [.ref 83, .int x] S (qi (i5 (¬ (0 ≤ x.toInt ∧ x.toInt < 6)) ((S.1 85 (tn x)).toInt < 0) (¬ (tn (S.1 85 (tn x)) % 6 = 0 ∧ 1 ≤ tn (S.1 85 (tn x)) / 6 ∧ tn (S.1 85 (tn x)) / 6 ≤ 4)) (¬ ∀ j, j < tn (S.1 85 (tn x)) → dayOK I (S.1 86 (60 * tn x + j))) (an (-1) S) (an (-3) (fndM S 1)) (an (-3) (fndM S 5)) (an (-3) (fndM S 3)) (fun r S' => r = nI (dayW I L w (fun j => S.1 86 (60 * tn x + j)) (tn (S.1 85 (tn x)) / 6) 6) ∧ ∃ S2, F97 S S2 ∧ S' = setI S2 83 2 (nI (wthF I (dayW I L w (fun j => S.1 86 (60 * tn x + j)) (tn (S.1 85 (tn x)) / 6) 6)))))) := by
  have n0 : (nI 0).toInt = 0 := rfl
  have n1 : (nI 1).toInt = 1 := rfl
  have n3 : (nI 3).toInt = 3 := rfl
  have n5 : (nI 5).toInt = 5 := rfl
  have n7 : (nI 7).toInt = 7 := rfl
  have n2 : (nI 2).toInt = 2 := rfl
  have n6 : (nI 6).toInt = 6 := rfl
  have hO1 := hO.1
  have hO2 := hO.2.1
  have hO3 := hO.2.2.1
  have hO4 := hO.2.2.2.1
  have n4 : (nI 4).toInt = 4 := rfl
  refine C.ofX (by decide) rfl (Nat.le_of_ble_eq_true rfl) ?_
  show X 4 120 mX11_day (qi (i5 (¬ (0 ≤ x.toInt ∧ x.toInt < 6)) ((S.1 85 (tn x)).toInt < 0) (¬ (tn (S.1 85 (tn x)) % 6 = 0 ∧ 1 ≤ tn (S.1 85 (tn x)) / 6 ∧ tn (S.1 85 (tn x)) / 6 ≤ 4)) (¬ ∀ j, j < tn (S.1 85 (tn x)) → dayOK I (S.1 86 (60 * tn x + j))) (an (-1) S) (an (-3) (fndM S 1)) (an (-3) (fndM S 5)) (an (-3) (fndM S 3)) (fun r S' => r = nI (dayW I L w (fun j => S.1 86 (60 * tn x + j)) (tn (S.1 85 (tn x)) / 6) 6) ∧ ∃ S2, F97 S S2 ∧ S' = setI S2 83 2 (nI (wthF I (dayW I L w (fun j => S.1 86 (60 * tn x + j)) (tn (S.1 85 (tn x)) / 6) 6)))))) 0 [(0, .ref 83), (1, .int x)] [] S
  refine x_iload_n 1 dX11_day_0 rfl rfl ?_
  refine x_callSb (as := [_]) (rest := []) sX11_108 c_X11_isRow dX11_day_1 rfl rfl (Nat.le_of_ble_eq_true rfl) (Nat.le_of_ble_eq_true rfl) (Nat.le_of_ble_eq_true rfl) (fun c_1 => ?_) (fun c_1 => ?_)
  · refine t_if_ne 9 dX11_day_4 (by decide) (by decide) ?_
    obtain ⟨a, ha, rfl⟩ := nI_ex (x := x) (n := 6) (by omega) (by omega)
    have ea : (nI a).toInt = (a : Int) := tiN (by omega)
    have ta : tn (nI a) = a := tnN (by omega)
    refine x_aload_n 0 dX11_day_9 rfl rfl ?_
    refine x_getR fX11_13 dX11_day_10 l83 rfl ?_
    refine x_iload_n 1 dX11_day_13 rfl rfl ?_
    refine y_iald dX11_day_14 l85 (by omega) (by decide) rfl ?_
    refine x_if_ge 24 dX11_day_15 (by decide) (fun c_15 => ?_) (fun c_15 => ?_)
    · obtain ⟨z, hz, ez⟩ := hS.r ha (by omega)
      have ezi : (nI z).toInt = (z : Int) := tiN (by omega)
      have tz : tn (nI z) = z := tnN (by omega)
      have tz6 : (nI (z / 6)).toInt = ((z / 6 : Nat) : Int) := tiN (by omega)
      refine x_aload_n 0 dX11_day_24 rfl rfl ?_
      refine x_getR fX11_13 dX11_day_25 l83 rfl ?_
      refine x_iload_n 1 dX11_day_28 rfl rfl ?_
      refine y_iald dX11_day_29 l85 (by omega) (by decide) ez ?_
      refine x_bipush (v := nI 6) dX11_day_30 (by decide) ?_
      refine y_irem dX11_day_32 (by omega) (by omega) (by omega) ?_
      refine y_if_ne 53 dX11_day_33 (by decide) (by omega) (fun c_33 => ?_) (fun c_33 => ?_)
      · refine x_aload_n 0 dX11_day_53 rfl rfl ?_
        refine x_iconst (v := nI 5) dX11_day_54 (by decide) ?_
        refine x_callVu (as := [_]) (rest := []) vX11_112 (c_X11_meets (by decide)) dX11_day_55 l83 rfl rfl rfl (Nat.le_of_ble_eq_true rfl) (Nat.le_of_ble_eq_true rfl) (Nat.le_of_ble_eq_true rfl) ?_
        refine x_iret rfl dX11_day_58 (by simp only [ta, ez, tz]; exact q5_2 (by omega) (by omega) (by omega) ⟨rfl, rfl⟩)
      · refine x_aload_n 0 dX11_day_36 rfl rfl ?_
        refine x_getR fX11_13 dX11_day_37 l83 rfl ?_
        refine x_iload_n 1 dX11_day_40 rfl rfl ?_
        refine y_iald dX11_day_41 l85 (by omega) (by decide) ez ?_
        refine x_bipush (v := nI 6) dX11_day_42 (by decide) ?_
        refine y_idiv dX11_day_44 (by omega) (by omega) (by omega) ?_
        refine x_iconst (v := nI 1) dX11_day_45 (by decide) ?_
        refine x_iconst (v := nI 4) dX11_day_46 (by decide) ?_
        refine x_callSb (as := [_, _, _]) (rest := []) sX11_98 c_X11_in dX11_day_47 rfl rfl (Nat.le_of_ble_eq_true rfl) (Nat.le_of_ble_eq_true rfl) (Nat.le_of_ble_eq_true rfl) (fun c_47 => ?_) (fun c_47 => ?_)
        · refine t_if_ne 59 dX11_day_50 (by decide) (by decide) ?_
          refine x_iconst (v := nI 1) dX11_day_59 (by decide) ?_
          refine x_istore_n (lv' := [(2, _), (0, _), (1, _)]) dX11_day_60 rfl (by decide) rfl ?_
          refine x_iconst (v := nI 0) dX11_day_61 (by decide) ?_
          refine x_istore_n (lv' := [(3, _), (2, _), (0, _), (1, _)]) dX11_day_62 rfl (by decide) rfl ?_
          refine x_pick (lv' := [(3, _), (2, _), (0, _), (1, _)]) [0, 1, 2, 3] rfl ?_
          refine (lp_dayM4 hI hO hw0 hL hL7 hv ha hz ez ⟨by omega, by omega, by omega⟩ 0 (nI 1) (Nat.zero_le _) (Or.inl ⟨rfl, fun j hj => absurd hj (Nat.not_lt_zero j)⟩)).mono (fun v S' hq => ?_)
          obtain ⟨r, rfl, hr⟩ := hq
          simp only [ta, ez, tz]
          by_cases hg : ∀ j, j < z → dayOK I (S.1 86 (60 * a + j))
          · rw [e2_1 (fun q => q hg)] at hr
            exact q5_4 (by omega) (by omega) (by omega) (fun q => q hg) hr
          · rw [e2_0 hg] at hr
            exact q5_3 (by omega) (by omega) (by omega) hg hr
        · refine u_if_ne 59 dX11_day_50 (by decide) (by decide) ?_
          refine x_aload_n 0 dX11_day_53 rfl rfl ?_
          refine x_iconst (v := nI 5) dX11_day_54 (by decide) ?_
          refine x_callVu (as := [_]) (rest := []) vX11_112 (c_X11_meets (by decide)) dX11_day_55 l83 rfl rfl rfl (Nat.le_of_ble_eq_true rfl) (Nat.le_of_ble_eq_true rfl) (Nat.le_of_ble_eq_true rfl) ?_
          refine x_iret rfl dX11_day_58 (by simp only [ta, ez, tz]; exact q5_2 (by omega) (by omega) (by omega) ⟨rfl, rfl⟩)
    · refine x_aload_n 0 dX11_day_18 rfl rfl ?_
      refine x_iconst (v := nI 1) dX11_day_19 (by decide) ?_
      refine x_callVu (as := [_]) (rest := []) vX11_112 (c_X11_meets (by decide)) dX11_day_20 l83 rfl rfl rfl (Nat.le_of_ble_eq_true rfl) (Nat.le_of_ble_eq_true rfl) (Nat.le_of_ble_eq_true rfl) ?_
      refine x_iret rfl dX11_day_23 (by simp only [ta]; exact q5_1 (by omega) (by omega) ⟨rfl, rfl⟩)
  · refine u_if_ne 9 dX11_day_4 (by decide) (by decide) ?_
    refine x_iconst (v := -1) dX11_day_7 (by decide) ?_
    refine x_iret rfl dX11_day_8 (q5_0 c_1 ⟨rfl, rfl⟩)
