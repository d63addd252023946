/-! ===== the reader: works, all ===== -/
theorem tb_f {s k : Nat} : s / 2 ^ k % 2 = 0 ↔ s.testBit k = false := by
  rw [Nat.testBit_eq_decide_div_mod_eq, decide_eq_false_iff_not]
  omega
theorem and_1 (a : Nat) : a &&& 1 = a % 2 := Nat.and_one_is_mod a

set_option maxHeartbeats 4000000 in
set_option maxRecDepth 100000 in
theorem lp_rw {S : St} {t n pos : Nat} {β : Nat → Int32} (hx : TxX t n β S) (ht : S.1 9 3 = nI t) (hp : S.1 9 4 = nI pos) (hpn : pos ≤ 500) {I : Isl} (hI : IsX 23 I S) (hO : IOK I)  : ∀ (k : Nat), (k ≤ 5) → (∀ j, j < k → wgood (chF n β) (iM I) pos j) → (wkF (chF n β) (iM I) pos (5 - k) k = (wK (chF n β) (iM I) pos)) → X 3 90 mX4_readWants (pu (.int (nI (wqF (chF n β) pos (wK (chF n β) (iM I) pos)))) (setI S 9 4 (nI (pos + (wK (chF n β) (iM I) pos))))) 4 [(2, .int (nI k)), (1, .int (nI (wqF (chF n β) pos k))), (0, .ref 9)] [] (setI S 9 4 (nI (pos + k))) := by
  intro k
  induction hm : 6 - k using Nat.strongRecOn generalizing k with
  | _ mm ih =>
    intro hk hg hw
    have hx1 := hx.1
    have hx2 := hx.2.1
    have hO1 := hO.1
    have hO2 := hO.2.1
    have hO3 := hO.2.2.1
    have hO4 := hO.2.2.2.1
    have hx3 : TxX t n β (setI S 9 4 (nI (pos + k))) := hx.keep (fun a b e => rdI_k (by omega))
    have hI3 : IsX 23 I (setI S 9 4 (nI (pos + k))) := hI.rd (fun a b h1 h2 => rdI_k (by omega))
    have hsg := sg_C (n := n) (i := pos + k) hx.2.2.1
    have hws := wq_lt k hg
    have hw5 : 2 ^ iM I ≤ 2 ^ 5 := Nat.pow_le_pow_right (by decide) hO2
    have hfg := hsg.fig (lo := 0) (hi := 9) (by decide)
    have hgd : wgood (chF n β) (iM I) pos k ↔ (48 ≤ (chF n β (pos + k)) ∧ (chF n β (pos + k)) < 48 + iM I ∧ (wqF (chF n β) pos k).testBit ((chF n β (pos + k)) - 48) = false) := Iff.rfl
    refine x_iload_n 0 dX4_readWants_4 rfl rfl ?_
    refine x_iconst (v := nI 5) dX4_readWants_5 (by decide) ?_
    refine y_ic_ge 60 dX4_readWants_6 (by decide) (by omega) (by omega) (fun c_6 => ?_) (fun c_6 => ?_)
    · refine x_iload_n 1 dX4_readWants_60 rfl rfl ?_
      refine x_iret rfl dX4_readWants_61 (by
        obtain rfl : k = 5 := (by omega)
        exact ⟨by rw [← hw]; rfl, by rw [← hw]; rfl⟩)
    · refine x_aload_n 2 dX4_readWants_9 rfl rfl ?_
      refine x_callVu (as := []) (rest := []) vX4_49 (c_X4_sign hx3 ((rdI_j (by decide)).trans ht) rdI_eq (by omega)) dX4_readWants_10 l9 rfl rfl rfl (Nat.le_of_ble_eq_true rfl) (Nat.le_of_ble_eq_true rfl) (Nat.le_of_ble_eq_true rfl) ?_
      refine x_bipush (v := nI 48) dX4_readWants_13 (by decide) ?_
      refine x_isub dX4_readWants_15 ?_
      refine x_istore_n (lv' := [(3, _), (2, _), (1, _), (0, _)]) dX4_readWants_16 rfl (by decide) rfl ?_
      refine x_aload_n 3 dX4_readWants_17 rfl rfl ?_
      refine x_getR fX4_12 dX4_readWants_18 l9 rfl ?_
      refine x_iload_n 0 dX4_readWants_21 rfl rfl ?_
      refine x_callVb (as := [_]) (rest := []) vX4_119 (c_X1_isThing (Or.inr rfl) hI3 hO) dX4_readWants_22 l23 rfl rfl rfl (Nat.le_of_ble_eq_true rfl) (Nat.le_of_ble_eq_true rfl) (Nat.le_of_ble_eq_true rfl) (fun c_22 => ?_) (fun c_22 => ?_)
      · refine u_if_eq 36 dX4_readWants_25 (by decide) (by decide) ?_
        have hd48 := hfg.mp ⟨by omega, by omega⟩
        have hdv := hsg.val hd48.1 hd48.2
        have hdi : (sgC n β (pos + k) - nI 48).toInt = (((chF n β (pos + k)) - 48 : Nat) : Int) := by rw [hdv]; exact tiN (by omega)
        rw [hdv]
        refine x_iload_n 2 dX4_readWants_28 rfl rfl ?_
        refine x_iload_n 0 dX4_readWants_29 rfl rfl ?_
        refine y_ishr dX4_readWants_30 (by omega) (by omega) ?_
        refine x_iconst (v := nI 1) dX4_readWants_31 (by decide) ?_
        refine y_iand dX4_readWants_32 ?_
        rw [show ((wqF (chF n β) pos k / 2 ^ ((chF n β (pos + k)) - 48)) &&& 1) = ((wqF (chF n β) pos k) / 2 ^ ((chF n β (pos + k)) - 48) % 2) from by rw [and_1]]
        refine y_if_eq 38 dX4_readWants_33 (by decide) (by omega) (fun c_33 => ?_) (fun c_33 => ?_)
        · refine x_iload_n 2 dX4_readWants_38 rfl rfl ?_
          refine x_iconst (v := nI 1) dX4_readWants_39 (by decide) ?_
          refine x_iload_n 0 dX4_readWants_40 rfl rfl ?_
          refine y_ishl dX4_readWants_41 (by omega) ?_
          refine y_ior dX4_readWants_42 ?_
          refine x_istore_n (lv' := [(1, _), (3, _), (2, _), (0, _)]) dX4_readWants_43 rfl (by decide) rfl ?_
          have hgood := hgd.mpr ⟨by omega, by omega, tb_f.mp c_33⟩
          rw [show ((1, Value.int (nI ((wqF (chF n β) pos k ||| (1 * 2 ^ ((chF n β (pos + k)) - 48)))))) : Nat × Value) = (1, Value.int (nI (wqF (chF n β) pos (k + 1)))) from by rw [Nat.one_mul]; rfl]
          refine x_aload_n 3 dX4_readWants_44 rfl rfl ?_
          refine x_dup dX4_readWants_45 rfl ?_
          refine y_getI fX4_30 dX4_readWants_46 l9 rfl rdI_eq ?_
          refine x_iconst (v := nI 1) dX4_readWants_49 (by decide) ?_
          refine y_iadd dX4_readWants_50 ?_
          refine x_putI pX4_30 dX4_readWants_51 l9 rfl ?_
          refine x_cast set_set ?_
          refine y_iinc (lv' := [(2, _), (1, _), (3, _), (0, _)]) 2 dX4_readWants_54 rfl (by decide) rfl ?_
          refine x_goto 4 dX4_readWants_57 (by decide) ?_
          refine x_pick (lv' := [(2, _), (1, _), (0, _)]) [0, 1, 3] rfl ?_
          exact ih (6 - (k + 1)) (by omega) (k + 1) rfl (by omega) (fun j hj => by rcases Nat.lt_succ_iff_lt_or_eq.mp hj with h | h; exact hg j h; rw [h]; exact hgood) ((wk_t (by omega) hgood).symm.trans hw)
        · refine x_iload_n 2 dX4_readWants_36 rfl rfl ?_
          refine x_iret rfl dX4_readWants_37 (by
            have hne : ¬ wgood (chF n β) (iM I) pos k := fun h => by
              have h1 := hgd.mp h
              first
              | (have hdv9 := hsg.val h1.1 (by omega); have hdi9 := tiN (show (chF n β (pos + k)) - 48 < 2147483648 by omega); rw [hdv9] at c_22; omega)
              | exact c_33 (tb_f.mpr h1.2.2)
            have e := (wk_f hk hne).symm.trans hw
            exact ⟨by rw [← e], by rw [← e]⟩)
      · refine t_if_eq 36 dX4_readWants_25 (by decide) (by decide) ?_
        refine x_iload_n 2 dX4_readWants_36 rfl rfl ?_
        refine x_iret rfl dX4_readWants_37 (by
          have hne : ¬ wgood (chF n β) (iM I) pos k := fun h => by
            have h1 := hgd.mp h
            first
            | (have hdv9 := hsg.val h1.1 (by omega); have hdi9 := tiN (show (chF n β (pos + k)) - 48 < 2147483648 by omega); rw [hdv9] at c_22; omega)
            | exact c_33 (tb_f.mpr h1.2.2)
          have e := (wk_f hk hne).symm.trans hw
          exact ⟨by rw [← e], by rw [← e]⟩)

set_option maxHeartbeats 4000000 in
set_option maxRecDepth 100000 in
theorem c_X4_readWants {S : St} {t n pos : Nat} {β : Nat → Int32} (hx : TxX t n β S) (ht : S.1 9 3 = nI t) (hp : S.1 9 4 = nI pos) (hpn : pos ≤ 500) {I : Isl} (hI : IsX 23 I S) (hO : IOK I)  : C 3 90 yX4_readWants mX4_readWants [.ref 9] S (pu (.int (nI (wqF (chF n β) pos (wK (chF n β) (iM I) pos)))) (setI S 9 4 (nI (pos + (wK (chF n β) (iM I) pos))))) := by
  refine C.ofX (by decide) rfl (Nat.le_of_ble_eq_true rfl) ?_
  show X 3 90 mX4_readWants (pu (.int (nI (wqF (chF n β) pos (wK (chF n β) (iM I) pos)))) (setI S 9 4 (nI (pos + (wK (chF n β) (iM I) pos))))) 0 [(0, .ref 9)] [] S
  refine x_iconst (v := nI 0) dX4_readWants_0 (by decide) ?_
  refine x_istore_n (lv' := [(1, _), (0, _)]) dX4_readWants_1 rfl (by decide) rfl ?_
  refine x_iconst (v := nI 0) dX4_readWants_2 (by decide) ?_
  refine x_istore_n (lv' := [(2, _), (1, _), (0, _)]) dX4_readWants_3 rfl (by decide) rfl ?_
  refine x_pick (lv' := [(2, _), (1, _), (0, _)]) [0, 1, 2] rfl ?_
  have hh := lp_rw hx ht hp hpn hI hO 0 (Nat.zero_le _) (fun j hj => absurd hj (Nat.not_lt_zero j)) rfl
  rw [Nat.add_zero, set_id hp] at hh
  exact hh

theorem chF_le {n i : Nat} {β : Nat → Int32} (hb : byR n β) : chF n β i ≤ 300 := by
  unfold chF
  by_cases q : i < n
  · have := hb i q
    rw [if_pos q]
    split <;> omega
  · rw [if_neg q]; decide
/-- wants, in the words of a work -/
theorem c_wants {S : St} {t n pos : Nat} {β : Nat → Int32} (hx : TxX t n β S) (ht : S.1 9 3 = nI t) (hp : S.1 9 4 = nI (pos + 1 + 1 + 1)) (hpn : pos + 3 ≤ 500) {I : Isl} (hI : IsX 23 I S) (hO : IOK I) : C 3 90 yX4_readWants mX4_readWants [.ref 9] S (pu (.int (nI (swW (chF n β) pos I))) (setI S 9 4 (nI (p4W (chF n β) pos I)))) := c_X4_readWants hx ht hp hpn hI hO

set_option maxHeartbeats 4000000 in
set_option maxRecDepth 100000 in
theorem c_X4_readWork {S : St} {t n pos : Nat} {β : Nat → Int32} (hx : TxX t n β S) {I : Isl} (hR : RdX t pos I S) (hpn : pos ≤ n) (hPI : PI I) (hP1 : 1 ≤ iP I)  : C 4 120 yX4_readWork mX4_readWork [.ref 9] S (qi (ItX t (rdW (chF n β) pos I) S)) := by
  have hx1 := hx.1
  have hx2 := hx.2.1
  obtain ⟨ht, hp, hI, hl⟩ := id hR
  have hsg := sg_C (i := pos) hx.2.2.1
  have hO := hPI.1
  have hO1 := hO.1
  have hO2 := hO.2.1
  have hO3 := hO.2.2.1
  have hO4 := hO.2.2.2.1
  refine C.ofX (by decide) rfl (Nat.le_of_ble_eq_true rfl) ?_
  show X 4 120 mX4_readWork (qi (ItX t (rdW (chF n β) pos I) S)) 0 [(0, .ref 9)] [] S
  refine x_aload_n 0 dX4_readWork_0 rfl rfl ?_
  refine x_getR fX4_12 dX4_readWork_1 l9 rfl ?_
  refine y_getI fX4_84 dX4_readWork_4 l23 rfl hI.2.2.1 ?_
  refine x_istore_n (lv' := [(1, _), (0, _)]) dX4_readWork_7 rfl (by decide) rfl ?_
  refine x_iload_n 0 dX4_readWork_8 rfl rfl ?_
  refine x_bipush (v := nI 8) dX4_readWork_9 (by decide) ?_
  refine y_ic_lt 16 dX4_readWork_11 (by decide) (by omega) (by omega) (fun c_11 => ?_) (fun c_11 => ?_)
  · refine x_aload_n 1 dX4_readWork_16 rfl rfl ?_
    refine x_dup dX4_readWork_17 rfl ?_
    refine y_getI fX4_30 dX4_readWork_18 l9 rfl hp ?_
    refine x_iconst (v := nI 1) dX4_readWork_21 (by decide) ?_
    refine y_iadd dX4_readWork_22 ?_
    refine x_putI pX4_30 dX4_readWork_23 l9 rfl ?_
    have hx1' : TxX t n β (setI S 9 4 (nI (pos + 1))) := hx.keep (fun a b e => rdI_k (by omega))
    have ht1 : (setI S 9 4 (nI (pos + 1))).1 9 3 = nI t := (rdI_j (by decide)).trans ht
    have f1 : Fr FRe S (setI S 9 4 (nI (pos + 1))) := FRset Fr.refl (Or.inl rfl)
    have hI1 : IsX 23 I (setI S 9 4 (nI (pos + 1))) := hI.rd (fun a b h1 h2 => rdI_k (by omega))
    have hl1 : ∀ p, p < 4 → (setI S 9 4 (nI (pos + 1))).1 10 p = nI (loadF I (iS I) p) := fun p hp => (rdI_k (by decide)).trans (hl p hp)
    refine x_aload_n 1 dX4_readWork_26 rfl rfl ?_
    refine x_getR fX4_12 dX4_readWork_27 l9 rfl ?_
    refine x_getR fX4_104 dX4_readWork_30 l23 rfl ?_
    refine x_iload_n 0 dX4_readWork_33 rfl rfl ?_
    refine x_aload_n 1 dX4_readWork_34 rfl rfl ?_
    refine x_iconst (v := nI 0) dX4_readWork_35 (by decide) ?_
    refine x_iconst (v := nI 5) dX4_readWork_36 (by decide) ?_
    refine x_callVqi (as := [_, _]) (rest := [_, _]) vX4_69 (c_X4_figure hx1' ht1 rdI_eq (by omega) (lo := 0) (hi := 5) (by decide) (by decide)) dX4_readWork_37 l9 rfl rfl rfl (Nat.le_of_ble_eq_true rfl) (Nat.le_of_ble_eq_true rfl) (Nat.le_of_ble_eq_true rfl) (fun r_37 S_37 q_37 => ?_)
    refine y_iast dX4_readWork_40 l29 (by omega) (by decide) ?_
    refine x_aload_n 1 dX4_readWork_41 rfl rfl ?_
    refine x_getR fX4_12 dX4_readWork_42 l9 rfl ?_
    refine x_getR fX4_104 dX4_readWork_45 l23 rfl ?_
    refine x_iload_n 0 dX4_readWork_48 rfl rfl ?_
    refine y_iald dX4_readWork_49 l29 (by omega) (by decide) rdI_eq ?_
    refine x_if_ge 55 dX4_readWork_50 (by decide) (fun c_50 => ?_) (fun c_50 => ?_)
    · obtain ⟨hC1, rfl, h4_1⟩ := q_37.pos (by omega)
      have hxT1 : TxX t n β (setI S_37 29 (iW I) (nI (chF n β (pos + 1) - 48))) := (hx.fr (q_37.fr f1)).keep (fun a b e => rdI_k (by omega))
      have htT1 : (setI S_37 29 (iW I) (nI (chF n β (pos + 1) - 48))).1 9 3 = nI t := (rdI_k (by decide)).trans ((q_37.2.1 9 3 (by decide)).trans ht1)
      have fT1 : Fr FRe S (setI S_37 29 (iW I) (nI (chF n β (pos + 1) - 48))) := FRset (q_37.fr f1) (by unfold FRe; decide)
      have hIT1 : IsX 23 I (setI S_37 29 (iW I) (nI (chF n β (pos + 1) - 48))) := IsX.put ((hI1).rd (fun a b h1 h2 => q_37.2.1 a b (by omega))) (by decide)
      have hlT1 : ∀ p, p < 4 → (setI S_37 29 (iW I) (nI (chF n β (pos + 1) - 48))).1 10 p = nI (loadF I (iS I) p) := fun p hp => (rdI_k (by decide)).trans ((q_37.2.1 10 p (by omega)).trans (hl1 p hp))
      have hpT1 : (setI S_37 29 (iW I) (nI (chF n β (pos + 1) - 48))).1 9 4 = nI (pos + 1 + 1) := (rdI_k (by decide)).trans h4_1
      refine x_aload_n 1 dX4_readWork_55 rfl rfl ?_
      refine x_getR fX4_12 dX4_readWork_56 l9 rfl ?_
      refine x_getR fX4_107 dX4_readWork_59 l23 rfl ?_
      refine x_iload_n 0 dX4_readWork_62 rfl rfl ?_
      refine x_aload_n 1 dX4_readWork_63 rfl rfl ?_
      refine x_iconst (v := nI 0) dX4_readWork_64 (by decide) ?_
      refine x_aload_n 1 dX4_readWork_65 rfl rfl ?_
      refine x_getR fX4_12 dX4_readWork_66 l9 rfl ?_
      refine y_getI fX4_77 dX4_readWork_69 l23 rfl (((rdI_k (by decide))).trans (hIT1.1)) ?_
      refine x_iconst (v := nI 1) dX4_readWork_72 (by decide) ?_
      refine y_isub dX4_readWork_73 (by omega) ?_
      refine x_callVqi (as := [_, _]) (rest := [_, _]) vX4_69 (c_X4_figure hxT1 htT1 hpT1 (by omega) (lo := 0) (hi := iP I - 1) (by decide) (by omega)) dX4_readWork_74 l9 rfl rfl rfl (Nat.le_of_ble_eq_true rfl) (Nat.le_of_ble_eq_true rfl) (Nat.le_of_ble_eq_true rfl) (fun r_74 S_74 q_74 => ?_)
      refine y_iast dX4_readWork_77 l30 (by omega) (by decide) ?_
      refine x_aload_n 1 dX4_readWork_78 rfl rfl ?_
      refine x_getR fX4_12 dX4_readWork_79 l9 rfl ?_
      refine x_getR fX4_107 dX4_readWork_82 l23 rfl ?_
      refine x_iload_n 0 dX4_readWork_85 rfl rfl ?_
      refine y_iald dX4_readWork_86 l30 (by omega) (by decide) rdI_eq ?_
      refine x_if_ge 92 dX4_readWork_87 (by decide) (fun c_87 => ?_) (fun c_87 => ?_)
      · obtain ⟨hC2, rfl, h4_2⟩ := q_74.pos (by omega)
        have hxT2 : TxX t n β (setI S_74 30 (iW I) (nI (chF n β (pos + 1 + 1) - 48))) := (hx.fr (q_74.fr fT1)).keep (fun a b e => rdI_k (by omega))
        have htT2 : (setI S_74 30 (iW I) (nI (chF n β (pos + 1 + 1) - 48))).1 9 3 = nI t := (rdI_k (by decide)).trans ((q_74.2.1 9 3 (by decide)).trans htT1)
        have fT2 : Fr FRe S (setI S_74 30 (iW I) (nI (chF n β (pos + 1 + 1) - 48))) := FRset (q_74.fr fT1) (by unfold FRe; decide)
        have hIT2 : IsX 23 I (setI S_74 30 (iW I) (nI (chF n β (pos + 1 + 1) - 48))) := IsX.put ((hIT1).rd (fun a b h1 h2 => q_74.2.1 a b (by omega))) (by decide)
        have hlT2 : ∀ p, p < 4 → (setI S_74 30 (iW I) (nI (chF n β (pos + 1 + 1) - 48))).1 10 p = nI (loadF I (iS I) p) := fun p hp => (rdI_k (by decide)).trans ((q_74.2.1 10 p (by omega)).trans (hlT1 p hp))
        have hpT2 : (setI S_74 30 (iW I) (nI (chF n β (pos + 1 + 1) - 48))).1 9 4 = nI (pos + 1 + 1 + 1) := (rdI_k (by decide)).trans h4_2
        have hkk := wK_ok (chF n β) (iM I) (pos + 3)
        have hm5 : 2 ^ iM I ≤ 2 ^ 5 := Nat.pow_le_pow_right (by decide) hO2
        have hsw : (swW (chF n β) pos I) < 2 ^ iM I := hkk.2.1
        have hp4 : (p4W (chF n β) pos I) ≤ 200 := by unfold p4W; omega
        refine x_aload_n 1 dX4_readWork_92 rfl rfl ?_
        refine x_getR fX4_12 dX4_readWork_93 l9 rfl ?_
        refine x_getR fX4_110 dX4_readWork_96 l23 rfl ?_
        refine x_iload_n 0 dX4_readWork_99 rfl rfl ?_
        refine x_aload_n 1 dX4_readWork_100 rfl rfl ?_
        refine x_callVu (as := []) (rest := [_, _]) vX4_113 (c_wants hxT2 htT2 hpT2 (by omega) hIT2 hO) dX4_readWork_101 l9 rfl rfl rfl (Nat.le_of_ble_eq_true rfl) (Nat.le_of_ble_eq_true rfl) (Nat.le_of_ble_eq_true rfl) ?_
        refine y_iast dX4_readWork_104 l31 (by omega) (by decide) ?_
        have hxT3 : TxX t n β (setI (setI (setI S_74 30 (iW I) (nI (chF n β (pos + 1 + 1) - 48))) 9 4 (nI (p4W (chF n β) pos I))) 31 (iW I) (nI (swW (chF n β) pos I))) := hxT2.keep (fun a b e => (rdI_k (by omega)).trans (rdI_k (by omega)))
        have htT3 : (setI (setI (setI S_74 30 (iW I) (nI (chF n β (pos + 1 + 1) - 48))) 9 4 (nI (p4W (chF n β) pos I))) 31 (iW I) (nI (swW (chF n β) pos I))).1 9 3 = nI t := (rdI_k (by decide)).trans ((rdI_j (by decide)).trans htT2)
        have fT3 : Fr FRe S (setI (setI (setI S_74 30 (iW I) (nI (chF n β (pos + 1 + 1) - 48))) 9 4 (nI (p4W (chF n β) pos I))) 31 (iW I) (nI (swW (chF n β) pos I))) := FRset (FRset fT2 (Or.inl rfl)) (by unfold FRe; decide)
        have hIT3 : IsX 23 I (setI (setI (setI S_74 30 (iW I) (nI (chF n β (pos + 1 + 1) - 48))) 9 4 (nI (p4W (chF n β) pos I))) 31 (iW I) (nI (swW (chF n β) pos I))) := IsX.put (hIT2.rd (fun a b h1 h2 => rdI_k (by omega))) (by decide)
        have hlT3 : ∀ p, p < 4 → (setI (setI (setI S_74 30 (iW I) (nI (chF n β (pos + 1 + 1) - 48))) 9 4 (nI (p4W (chF n β) pos I))) 31 (iW I) (nI (swW (chF n β) pos I))).1 10 p = nI (loadF I (iS I) p) := fun p hp => (rdI_k (by decide)).trans ((rdI_k (by decide)).trans (hlT2 p hp))
        have hpT3 : (setI (setI (setI S_74 30 (iW I) (nI (chF n β (pos + 1 + 1) - 48))) 9 4 (nI (p4W (chF n β) pos I))) 31 (iW I) (nI (swW (chF n β) pos I))).1 9 4 = nI (p4W (chF n β) pos I) := (rdI_k (by decide)).trans rdI_eq
        have hsg3 := (sg_C (n := n) (i := (p4W (chF n β) pos I)) hx.2.2.1).eq (k := 58) (by decide) (by decide)
        refine x_aload_n 1 dX4_readWork_105 rfl rfl ?_
        refine x_getR fX4_12 dX4_readWork_106 l9 rfl ?_
        refine x_getR fX4_110 dX4_readWork_109 l23 rfl ?_
        refine x_iload_n 0 dX4_readWork_112 rfl rfl ?_
        refine y_iald dX4_readWork_113 l31 (by omega) (by decide) rdI_eq ?_
        refine y_if_eq 126 dX4_readWork_114 (by decide) (by omega) (fun c_114 => ?_) (fun c_114 => ?_)
        · refine x_iconst (v := nI 0) dX4_readWork_126 (by decide) ?_
          refine x_zret rfl dX4_readWork_127 (by decide) (by
            have h2n : 48 ≤ chF n β (pos + 2) ∧ chF n β (pos + 2) < 48 + iP I := ⟨hC2.1, Nat.lt_of_le_of_lt hC2.2 (by omega)⟩
            refine ⟨_, rfl, ItX.f (rdW_3 (by omega) hC1 h2n ?_) fT3 hpT3⟩
            first
            | exact Or.inl c_114
            | exact Or.inr (fun e => c_123 (hsg3.mpr e)))
        · refine x_aload_n 1 dX4_readWork_117 rfl rfl ?_
          refine x_callVu (as := []) (rest := []) vX4_49 (c_X4_sign hxT3 htT3 hpT3 (by omega)) dX4_readWork_118 l9 rfl rfl rfl (Nat.le_of_ble_eq_true rfl) (Nat.le_of_ble_eq_true rfl) (Nat.le_of_ble_eq_true rfl) ?_
          refine x_bipush (v := nI 58) dX4_readWork_121 (by decide) ?_
          refine x_ic_eq 128 dX4_readWork_123 (by decide) (fun c_123 => ?_) (fun c_123 => ?_)
          · refine x_aload_n 1 dX4_readWork_128 rfl rfl ?_
            refine x_dup dX4_readWork_129 rfl ?_
            refine y_getI fX4_30 dX4_readWork_130 l9 rfl (((rdI_k (by decide))).trans rdI_eq) ?_
            refine x_iconst (v := nI 1) dX4_readWork_133 (by decide) ?_
            refine y_iadd dX4_readWork_134 ?_
            refine x_putI pX4_30 dX4_readWork_135 l9 rfl ?_
            have hxT4 : TxX t n β (setI (setI (setI (setI S_74 30 (iW I) (nI (chF n β (pos + 1 + 1) - 48))) 9 4 (nI (p4W (chF n β) pos I))) 31 (iW I) (nI (swW (chF n β) pos I))) 9 4 (nI ((p4W (chF n β) pos I) + 1))) := hxT3.keep (fun a b e => rdI_k (by omega))
            have htT4 : (setI (setI (setI (setI S_74 30 (iW I) (nI (chF n β (pos + 1 + 1) - 48))) 9 4 (nI (p4W (chF n β) pos I))) 31 (iW I) (nI (swW (chF n β) pos I))) 9 4 (nI ((p4W (chF n β) pos I) + 1))).1 9 3 = nI t := (rdI_j (by decide)).trans htT3
            have fT4 : Fr FRe S (setI (setI (setI (setI S_74 30 (iW I) (nI (chF n β (pos + 1 + 1) - 48))) 9 4 (nI (p4W (chF n β) pos I))) 31 (iW I) (nI (swW (chF n β) pos I))) 9 4 (nI ((p4W (chF n β) pos I) + 1))) := FRset fT3 (Or.inl rfl)
            have hIT4 : IsX 23 I (setI (setI (setI (setI S_74 30 (iW I) (nI (chF n β (pos + 1 + 1) - 48))) 9 4 (nI (p4W (chF n β) pos I))) 31 (iW I) (nI (swW (chF n β) pos I))) 9 4 (nI ((p4W (chF n β) pos I) + 1))) := hIT3.rd (fun a b h1 h2 => rdI_k (by omega))
            have hlT4 : ∀ p, p < 4 → (setI (setI (setI (setI S_74 30 (iW I) (nI (chF n β (pos + 1 + 1) - 48))) 9 4 (nI (p4W (chF n β) pos I))) 31 (iW I) (nI (swW (chF n β) pos I))) 9 4 (nI ((p4W (chF n β) pos I) + 1))).1 10 p = nI (loadF I (iS I) p) := fun p hp => (rdI_k (by decide)).trans (hlT3 p hp)
            have h3n : ¬ (swW (chF n β) pos I = 0 ∨ ¬ chF n β (p4W (chF n β) pos I) = 58) := by
              intro h
              rcases h with h | h
              · exact c_114 h
              · exact h (hsg3.mp c_123)
            refine x_aload_n 1 dX4_readWork_138 rfl rfl ?_
            refine x_getR fX4_12 dX4_readWork_139 l9 rfl ?_
            refine x_getR fX4_116 dX4_readWork_142 l23 rfl ?_
            refine x_iload_n 0 dX4_readWork_145 rfl rfl ?_
            refine x_aload_n 1 dX4_readWork_146 rfl rfl ?_
            refine x_iconst (v := nI 1) dX4_readWork_147 (by decide) ?_
            refine x_bipush (v := nI 9) dX4_readWork_148 (by decide) ?_
            refine x_callVqi (as := [_, _]) (rest := [_, _]) vX4_69 (c_X4_figure hxT4 htT4 rdI_eq (by omega) (lo := 1) (hi := 9) (by decide) (by decide)) dX4_readWork_150 l9 rfl rfl rfl (Nat.le_of_ble_eq_true rfl) (Nat.le_of_ble_eq_true rfl) (Nat.le_of_ble_eq_true rfl) (fun r_150 S_150 q_150 => ?_)
            refine y_iast dX4_readWork_153 l32 (by omega) (by decide) ?_
            refine x_aload_n 1 dX4_readWork_154 rfl rfl ?_
            refine x_getR fX4_12 dX4_readWork_155 l9 rfl ?_
            refine x_getR fX4_116 dX4_readWork_158 l23 rfl ?_
            refine x_iload_n 0 dX4_readWork_161 rfl rfl ?_
            refine y_iald dX4_readWork_162 l32 (by omega) (by decide) rdI_eq ?_
            refine x_if_ge 168 dX4_readWork_163 (by decide) (fun c_163 => ?_) (fun c_163 => ?_)
            · obtain ⟨hC5, rfl, h4_5⟩ := q_150.pos (by omega)
              have hxT5 : TxX t n β (setI S_150 32 (iW I) (nI (chF n β ((p4W (chF n β) pos I) + 1) - 48))) := (hx.fr (q_150.fr fT4)).keep (fun a b e => rdI_k (by omega))
              have htT5 : (setI S_150 32 (iW I) (nI (chF n β ((p4W (chF n β) pos I) + 1) - 48))).1 9 3 = nI t := (rdI_k (by decide)).trans ((q_150.2.1 9 3 (by decide)).trans htT4)
              have fT5 : Fr FRe S (setI S_150 32 (iW I) (nI (chF n β ((p4W (chF n β) pos I) + 1) - 48))) := FRset (q_150.fr fT4) (by unfold FRe; decide)
              have hIT5 : IsX 23 I (setI S_150 32 (iW I) (nI (chF n β ((p4W (chF n β) pos I) + 1) - 48))) := IsX.put ((hIT4).rd (fun a b h1 h2 => q_150.2.1 a b (by omega))) (by decide)
              have hlT5 : ∀ p, p < 4 → (setI S_150 32 (iW I) (nI (chF n β ((p4W (chF n β) pos I) + 1) - 48))).1 10 p = nI (loadF I (iS I) p) := fun p hp => (rdI_k (by decide)).trans ((q_150.2.1 10 p (by omega)).trans (hlT4 p hp))
              have hpT5 : (setI S_150 32 (iW I) (nI (chF n β ((p4W (chF n β) pos I) + 1) - 48))).1 9 4 = nI ((p4W (chF n β) pos I) + 1 + 1) := (rdI_k (by decide)).trans h4_5
              have hW173 := hIT5.2.2.1
              refine x_aload_n 1 dX4_readWork_168 rfl rfl ?_
              refine x_getR fX4_12 dX4_readWork_169 l9 rfl ?_
              refine x_dup dX4_readWork_172 rfl ?_
              refine y_getI fX4_84 dX4_readWork_173 l23 rfl (((rdI_k (by decide))).trans hW173) ?_
              refine x_iconst (v := nI 1) dX4_readWork_176 (by decide) ?_
              refine y_iadd dX4_readWork_177 ?_
              refine x_putI pX4_84 dX4_readWork_178 l23 rfl ?_
              refine x_iconst (v := nI 1) dX4_readWork_181 (by decide) ?_
              refine x_zret rfl dX4_readWork_182 (by decide) (by
                have h2n : 48 ≤ chF n β (pos + 2) ∧ chF n β (pos + 2) < 48 + iP I := ⟨hC2.1, Nat.lt_of_le_of_lt hC2.2 (by omega)⟩
                refine ⟨_, rfl, ItX.t (rdW_5 (by omega) hC1 h2n h3n hC5) (FRset fT5 (by unfold FRe; decide)) ⟨(rdI_k (by decide)).trans htT5, (rdI_k (by decide)).trans hpT5, IsX_addV hIT5 (fun a b h1 h2 h3 h4 => ?_) rdI_eq ?_ ?_ ?_ ?_, fun p hp4 => (rdI_k (by decide)).trans (hlT5 p hp4)⟩⟩
                · by_cases q : a = 23
                  · subst q; exact rdI_j (by omega)
                  · exact rdI_k q
                · rw [rdI_k (by decide), rdI_k (by decide), q_150.2.1 _ _ (by omega), rdI_k (by decide), rdI_k (by decide), rdI_k (by decide), rdI_k (by decide), q_74.2.1 _ _ (by omega), rdI_eq]
                · rw [rdI_k (by decide), rdI_k (by decide), q_150.2.1 _ _ (by omega), rdI_k (by decide), rdI_k (by decide), rdI_k (by decide), rdI_eq]
                · rw [rdI_k (by decide), rdI_k (by decide), q_150.2.1 _ _ (by omega), rdI_k (by decide), rdI_eq]
                · rw [rdI_k (by decide), rdI_eq])
            · refine x_iconst (v := nI 0) dX4_readWork_166 (by decide) ?_
              refine x_zret rfl dX4_readWork_167 (by decide) (by
                have h2n : 48 ≤ chF n β (pos + 2) ∧ chF n β (pos + 2) < 48 + iP I := ⟨hC2.1, Nat.lt_of_le_of_lt hC2.2 (by omega)⟩
                have hN := q_150.neg (by have := chF_le hx.2.2.1 (i := (p4W (chF n β) pos I) + 1); omega) (by omega)
                exact ⟨_, rfl, ItX.f (rdW_4 (by omega) hC1 h2n h3n hN.1) (FRset (q_150.fr fT4) (by unfold FRe; decide)) ((rdI_k (by decide)).trans hN.2)⟩)
          · refine x_iconst (v := nI 0) dX4_readWork_126 (by decide) ?_
            refine x_zret rfl dX4_readWork_127 (by decide) (by
              have h2n : 48 ≤ chF n β (pos + 2) ∧ chF n β (pos + 2) < 48 + iP I := ⟨hC2.1, Nat.lt_of_le_of_lt hC2.2 (by omega)⟩
              refine ⟨_, rfl, ItX.f (rdW_3 (by omega) hC1 h2n ?_) fT3 hpT3⟩
              first
              | exact Or.inl c_114
              | exact Or.inr (fun e => c_123 (hsg3.mpr e)))
      · refine x_iconst (v := nI 0) dX4_readWork_90 (by decide) ?_
        refine x_zret rfl dX4_readWork_91 (by decide) (by
          have hN := q_74.neg (by have := chF_le hx.2.2.1 (i := pos + 1 + 1); omega) (by omega)
          exact ⟨_, rfl, ItX.f (rdW_2 (by omega) hC1 (fun h => hN.1 ⟨h.1, Nat.le_trans (show chF n β (pos + 2) ≤ 47 + iP I by have := h.2; omega) (by omega)⟩)) (FRset (q_74.fr fT1) (by unfold FRe; decide)) ((rdI_k (by decide)).trans hN.2)⟩)
    · refine x_iconst (v := nI 0) dX4_readWork_53 (by decide) ?_
      refine x_zret rfl dX4_readWork_54 (by decide) (by
        have hN := q_37.neg (by have := chF_le hx.2.2.1 (i := pos + 1); omega) (by omega)
        exact ⟨_, rfl, ItX.f (rdW_1 (by omega) hN.1) (FRset (q_37.fr f1) (by unfold FRe; decide)) ((rdI_k (by decide)).trans hN.2)⟩)
  · refine x_iconst (v := nI 0) dX4_readWork_14 (by decide) ?_
    refine x_zret rfl dX4_readWork_15 (by decide) ⟨_, rfl, ItX.f (rdW_0 (by omega)) Fr.refl hp⟩

