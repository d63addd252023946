/-! ===== the reader ===== -/
/-- a sign's kind, m for none -/
def kiF (m : Int32) (c : Nat) : Int32 := if kdF c = 9 then m else nI (kdF c)
theorem kd_out {c : Nat} (h : ¬ (c = 98 ∨ c = 101 ∨ c = 104 ∨ c = 108 ∨ c = 115 ∨ c = 116)) : kdF c = 9 := by
  unfold kdF
  rw [if_neg (by omega), if_neg (by omega), if_neg (by omega), if_neg (by omega), if_neg (by omega), if_neg (by omega)]
theorem t_if_lt {fr lo : Nat} {M : MD} {Q : Option Value → St → Prop} {pc : Nat} {lv : List (Nat × Value)} {st : List Value} {S : St} {x : Int32} {off : Int} (tgt : Nat) (hd : decode M.2.1 pc = .ok (.ifCond .lt off, 3)) (ht : (pc : Int) + off = (tgt : Int)) (h : x.toInt < 0) (kt : X fr lo M Q tgt lv st S) : X fr lo M Q pc lv (.int x :: st) S := x_if_lt tgt hd ht (fun _ => kt) (fun q => absurd h (by omega))
theorem u_if_lt {fr lo : Nat} {M : MD} {Q : Option Value → St → Prop} {pc : Nat} {lv : List (Nat × Value)} {st : List Value} {S : St} {x : Int32} {off : Int} (tgt : Nat) (hd : decode M.2.1 pc = .ok (.ifCond .lt off, 3)) (ht : (pc : Int) + off = (tgt : Int)) (h : ¬ x.toInt < 0) (kf : X fr lo M Q (pc + 3) lv st S) : X fr lo M Q pc lv (.int x :: st) S := x_if_lt tgt hd ht (fun q => absurd q h) (fun _ => kf)
theorem set_id {S : St} {k j : Nat} {v : Int32} (h : S.1 k j = v) : setI S k j v = S := st_ext rfl fun a b => by
  by_cases q : a = k
  · subst q
    by_cases z : b = j
    · subst z; rw [rdI_eq]; exact h.symm
    · rw [rdI_j z]
  · rw [rdI_k q]
theorem set_set {S : St} {k j : Nat} {v u : Int32} : setI (setI S k j v) k j u = setI S k j u := st_ext rfl fun a b => by
  by_cases q : a = k
  · subst q
    by_cases z : b = j
    · subst z; rw [rdI_eq, rdI_eq]
    · rw [rdI_j z, rdI_j z, rdI_j z]
  · rw [rdI_k q, rdI_k q, rdI_k q]

set_option maxHeartbeats 4000000 in
set_option maxRecDepth 100000 in
theorem c_X4_kindOf_n {S : St} {c : Nat} (hc : c < 128) : C 0 0 yX4_kindOf mX4_kindOf [.int (nI c)] S (pu (.int (kiF (-1) c)) S) := by
  refine C.ofX (by decide) rfl (Nat.le_of_ble_eq_true rfl) ?_
  show X 0 0 mX4_kindOf (pu (.int (kiF (-1) c)) S) 0 [(0, .int (nI c))] [] S
  refine x_iload_n 0 dX4_kindOf_0 rfl rfl ?_
  by_cases cs_1 : c = 98 ∨ c = 99 ∨ c = 100 ∨ c = 101 ∨ c = 102 ∨ c = 103 ∨ c = 104 ∨ c = 105 ∨ c = 106 ∨ c = 107 ∨ c = 108 ∨ c = 109 ∨ c = 110 ∨ c = 111 ∨ c = 112 ∨ c = 113 ∨ c = 114 ∨ c = 115 ∨ c = 116
  · rcases cs_1 with rfl | rfl | rfl | rfl | rfl | rfl | rfl | rfl | rfl | rfl | rfl | rfl | rfl | rfl | rfl | rfl | rfl | rfl | rfl
    · refine x_tin (off := 93) 94 dX4_kindOf_1 (by decide) (by decide) (by decide) (by decide) ?_
      refine x_iconst (v := nI 1) dX4_kindOf_94 (by decide) ?_
      refine x_iret rfl dX4_kindOf_95 (by first | exact ⟨rfl, rfl⟩ | exact ⟨by unfold kiF; rw [if_pos (kd_out (by omega))], rfl⟩)
    · refine x_tin (off := 103) 104 dX4_kindOf_1 (by decide) (by decide) (by decide) (by decide) ?_
      refine x_iconst (v := -1) dX4_kindOf_104 (by decide) ?_
      refine x_iret rfl dX4_kindOf_105 (by first | exact ⟨rfl, rfl⟩ | exact ⟨by unfold kiF; rw [if_pos (kd_out (by omega))], rfl⟩)
    · refine x_tin (off := 103) 104 dX4_kindOf_1 (by decide) (by decide) (by decide) (by decide) ?_
      refine x_iconst (v := -1) dX4_kindOf_104 (by decide) ?_
      refine x_iret rfl dX4_kindOf_105 (by first | exact ⟨rfl, rfl⟩ | exact ⟨by unfold kiF; rw [if_pos (kd_out (by omega))], rfl⟩)
    · refine x_tin (off := 101) 102 dX4_kindOf_1 (by decide) (by decide) (by decide) (by decide) ?_
      refine x_iconst (v := nI 5) dX4_kindOf_102 (by decide) ?_
      refine x_iret rfl dX4_kindOf_103 (by first | exact ⟨rfl, rfl⟩ | exact ⟨by unfold kiF; rw [if_pos (kd_out (by omega))], rfl⟩)
    · refine x_tin (off := 103) 104 dX4_kindOf_1 (by decide) (by decide) (by decide) (by decide) ?_
      refine x_iconst (v := -1) dX4_kindOf_104 (by decide) ?_
      refine x_iret rfl dX4_kindOf_105 (by first | exact ⟨rfl, rfl⟩ | exact ⟨by unfold kiF; rw [if_pos (kd_out (by omega))], rfl⟩)
    · refine x_tin (off := 103) 104 dX4_kindOf_1 (by decide) (by decide) (by decide) (by decide) ?_
      refine x_iconst (v := -1) dX4_kindOf_104 (by decide) ?_
      refine x_iret rfl dX4_kindOf_105 (by first | exact ⟨rfl, rfl⟩ | exact ⟨by unfold kiF; rw [if_pos (kd_out (by omega))], rfl⟩)
    · refine x_tin (off := 97) 98 dX4_kindOf_1 (by decide) (by decide) (by decide) (by decide) ?_
      refine x_iconst (v := nI 3) dX4_kindOf_98 (by decide) ?_
      refine x_iret rfl dX4_kindOf_99 (by first | exact ⟨rfl, rfl⟩ | exact ⟨by unfold kiF; rw [if_pos (kd_out (by omega))], rfl⟩)
    · refine x_tin (off := 103) 104 dX4_kindOf_1 (by decide) (by decide) (by decide) (by decide) ?_
      refine x_iconst (v := -1) dX4_kindOf_104 (by decide) ?_
      refine x_iret rfl dX4_kindOf_105 (by first | exact ⟨rfl, rfl⟩ | exact ⟨by unfold kiF; rw [if_pos (kd_out (by omega))], rfl⟩)
    · refine x_tin (off := 103) 104 dX4_kindOf_1 (by decide) (by decide) (by decide) (by decide) ?_
      refine x_iconst (v := -1) dX4_kindOf_104 (by decide) ?_
      refine x_iret rfl dX4_kindOf_105 (by first | exact ⟨rfl, rfl⟩ | exact ⟨by unfold kiF; rw [if_pos (kd_out (by omega))], rfl⟩)
    · refine x_tin (off := 103) 104 dX4_kindOf_1 (by decide) (by decide) (by decide) (by decide) ?_
      refine x_iconst (v := -1) dX4_kindOf_104 (by decide) ?_
      refine x_iret rfl dX4_kindOf_105 (by first | exact ⟨rfl, rfl⟩ | exact ⟨by unfold kiF; rw [if_pos (kd_out (by omega))], rfl⟩)
    · refine x_tin (off := 95) 96 dX4_kindOf_1 (by decide) (by decide) (by decide) (by decide) ?_
      refine x_iconst (v := nI 2) dX4_kindOf_96 (by decide) ?_
      refine x_iret rfl dX4_kindOf_97 (by first | exact ⟨rfl, rfl⟩ | exact ⟨by unfold kiF; rw [if_pos (kd_out (by omega))], rfl⟩)
    · refine x_tin (off := 103) 104 dX4_kindOf_1 (by decide) (by decide) (by decide) (by decide) ?_
      refine x_iconst (v := -1) dX4_kindOf_104 (by decide) ?_
      refine x_iret rfl dX4_kindOf_105 (by first | exact ⟨rfl, rfl⟩ | exact ⟨by unfold kiF; rw [if_pos (kd_out (by omega))], rfl⟩)
    · refine x_tin (off := 103) 104 dX4_kindOf_1 (by decide) (by decide) (by decide) (by decide) ?_
      refine x_iconst (v := -1) dX4_kindOf_104 (by decide) ?_
      refine x_iret rfl dX4_kindOf_105 (by first | exact ⟨rfl, rfl⟩ | exact ⟨by unfold kiF; rw [if_pos (kd_out (by omega))], rfl⟩)
    · refine x_tin (off := 103) 104 dX4_kindOf_1 (by decide) (by decide) (by decide) (by decide) ?_
      refine x_iconst (v := -1) dX4_kindOf_104 (by decide) ?_
      refine x_iret rfl dX4_kindOf_105 (by first | exact ⟨rfl, rfl⟩ | exact ⟨by unfold kiF; rw [if_pos (kd_out (by omega))], rfl⟩)
    · refine x_tin (off := 103) 104 dX4_kindOf_1 (by decide) (by decide) (by decide) (by decide) ?_
      refine x_iconst (v := -1) dX4_kindOf_104 (by decide) ?_
      refine x_iret rfl dX4_kindOf_105 (by first | exact ⟨rfl, rfl⟩ | exact ⟨by unfold kiF; rw [if_pos (kd_out (by omega))], rfl⟩)
    · refine x_tin (off := 103) 104 dX4_kindOf_1 (by decide) (by decide) (by decide) (by decide) ?_
      refine x_iconst (v := -1) dX4_kindOf_104 (by decide) ?_
      refine x_iret rfl dX4_kindOf_105 (by first | exact ⟨rfl, rfl⟩ | exact ⟨by unfold kiF; rw [if_pos (kd_out (by omega))], rfl⟩)
    · refine x_tin (off := 103) 104 dX4_kindOf_1 (by decide) (by decide) (by decide) (by decide) ?_
      refine x_iconst (v := -1) dX4_kindOf_104 (by decide) ?_
      refine x_iret rfl dX4_kindOf_105 (by first | exact ⟨rfl, rfl⟩ | exact ⟨by unfold kiF; rw [if_pos (kd_out (by omega))], rfl⟩)
    · refine x_tin (off := 99) 100 dX4_kindOf_1 (by decide) (by decide) (by decide) (by decide) ?_
      refine x_iconst (v := nI 4) dX4_kindOf_100 (by decide) ?_
      refine x_iret rfl dX4_kindOf_101 (by first | exact ⟨rfl, rfl⟩ | exact ⟨by unfold kiF; rw [if_pos (kd_out (by omega))], rfl⟩)
    · refine x_tin (off := 91) 92 dX4_kindOf_1 (by decide) (by decide) (by decide) (by decide) ?_
      refine x_iconst (v := nI 0) dX4_kindOf_92 (by decide) ?_
      refine x_iret rfl dX4_kindOf_93 (by first | exact ⟨rfl, rfl⟩ | exact ⟨by unfold kiF; rw [if_pos (kd_out (by omega))], rfl⟩)
  · refine x_tout 104 dX4_kindOf_1 (by rw [tiN (by omega)]; omega) (by decide) ?_
    refine x_iconst (v := -1) dX4_kindOf_104 (by decide) ?_
    refine x_iret rfl dX4_kindOf_105 (by first | exact ⟨rfl, rfl⟩ | exact ⟨by unfold kiF; rw [if_pos (kd_out (by omega))], rfl⟩)

set_option maxHeartbeats 4000000 in
set_option maxRecDepth 100000 in
theorem c_X4_kindOf_o {S : St} {x : Int32} (hx : x.toInt < 98 ∨ 116 < x.toInt) : C 0 0 yX4_kindOf mX4_kindOf [.int x] S (pu (.int (-1)) S) := by
  refine C.ofX (by decide) rfl (Nat.le_of_ble_eq_true rfl) ?_
  show X 0 0 mX4_kindOf (pu (.int (-1)) S) 0 [(0, .int x)] [] S
  refine x_iload_n 0 dX4_kindOf_0 rfl rfl ?_
  refine x_tout 104 dX4_kindOf_1 hx (by decide) ?_
  refine x_iconst (v := -1) dX4_kindOf_104 (by decide) ?_
  refine x_iret rfl dX4_kindOf_105 ⟨rfl, rfl⟩

theorem c_X4_kindOf {S : St} {x : Int32} {c : Nat} (h : SgG x c) : C 0 0 yX4_kindOf mX4_kindOf [.int x] S (pu (.int (kiF (-1) c)) S) := by
  rcases h with ⟨h1, rfl⟩ | ⟨h1, h2⟩
  · exact c_X4_kindOf_n h1
  · have e : (kiF (-1) c) = -1 := by unfold kiF; rw [if_pos (kd_out (by omega))]
    rw [e]
    refine c_X4_kindOf_o ?_
    rcases h2 with rfl | h2
    · exact Or.inr (by decide)
    · exact Or.inl (by omega)

set_option maxHeartbeats 4000000 in
set_option maxRecDepth 100000 in
theorem c_X4_sign {S : St} {t n pos : Nat} {β : Nat → Int32} (hx : TxX t n β S) (ht : S.1 9 3 = nI t) (hp : S.1 9 4 = nI pos) (hpn : pos ≤ 2000) : C 2 60 yX4_sign mX4_sign [.ref 9] S (pu (.int (sgC n β pos)) S) := by
  have hx1 := hx.1
  have hx2 := hx.2.1
  refine C.ofX (by decide) rfl (Nat.le_of_ble_eq_true rfl) ?_
  show X 2 60 mX4_sign (pu (.int (sgC n β pos)) S) 0 [(0, .ref 9)] [] S
  refine x_aload_n 0 dX4_sign_0 rfl rfl ?_
  refine x_getR fX4_22 dX4_sign_1 l9 rfl ?_
  refine x_aload_n 0 dX4_sign_4 rfl rfl ?_
  refine y_getI fX4_26 dX4_sign_5 l9 rfl ht ?_
  refine x_aload_n 0 dX4_sign_8 rfl rfl ?_
  refine y_getI fX4_30 dX4_sign_9 l9 rfl hp ?_
  refine x_iconst (v := nI 1) dX4_sign_12 (by decide) ?_
  refine x_callVb (as := [_, _, _]) (rest := []) vX4_59 (c_X5_hasPlaces isTx hx1 hx.2.2.2.2.1 hx2) dX4_sign_13 l6 rfl rfl rfl (Nat.le_of_ble_eq_true rfl) (Nat.le_of_ble_eq_true rfl) (Nat.le_of_ble_eq_true rfl) (fun c_13 => ?_) (fun c_13 => ?_)
  · refine u_if_eq 37 dX4_sign_16 (by decide) (by decide) ?_
    refine x_aload_n 0 dX4_sign_19 rfl rfl ?_
    refine x_getR fX4_22 dX4_sign_20 l9 rfl ?_
    refine x_aload_n 0 dX4_sign_23 rfl rfl ?_
    refine y_getI fX4_26 dX4_sign_24 l9 rfl ht ?_
    refine x_aload_n 0 dX4_sign_27 rfl rfl ?_
    refine y_getI fX4_30 dX4_sign_28 l9 rfl hp ?_
    refine x_callVu (as := [_, _]) (rest := []) vX4_65 (c_get isTx hx.2.2.2.1 hx1 hx.2.2.2.2.1 hx2 (by have e := tiN (show pos < 2147483648 by omega); have e1 : (nI 1).toInt = 1 := rfl; omega) (hx.2.2.2.2.2 pos (by have e := tiN (show pos < 2147483648 by omega); have e1 : (nI 1).toInt = 1 := rfl; omega))) dX4_sign_31 l6 rfl rfl rfl (Nat.le_of_ble_eq_true rfl) (Nat.le_of_ble_eq_true rfl) (Nat.le_of_ble_eq_true rfl) ?_
    refine x_goto 40 dX4_sign_34 (by decide) ?_
    refine x_iret rfl dX4_sign_40 ⟨by have e := tiN (show pos < 2147483648 by omega); have e1 : (nI 1).toInt = 1 := rfl; unfold sgC; first | rw [if_pos (by omega)] | rw [if_neg (by omega)], rfl⟩
  · refine t_if_eq 37 dX4_sign_16 (by decide) (by decide) ?_
    refine x_sipush (v := nI 256) dX4_sign_37 (by decide +kernel) ?_
    refine x_iret rfl dX4_sign_40 ⟨by have e := tiN (show pos < 2147483648 by omega); have e1 : (nI 1).toInt = 1 := rfl; unfold sgC; first | rw [if_pos (by omega)] | rw [if_neg (by omega)], rfl⟩

set_option maxHeartbeats 4000000 in
set_option maxRecDepth 100000 in
theorem lp_skip {S : St} {t n pos : Nat} {β : Nat → Int32} (hx : TxX t n β S) (ht : S.1 9 3 = nI t) (hp : S.1 9 4 = nI pos) (hpn : pos ≤ n)  : ∀ (k : Nat), (k ≤ 100 ∧ pos + k ≤ n) → (∀ j, j < k → chF n β (pos + j) = 32) → X 3 90 mX4_skipBlanks (qv (fun S' => ∃ k, pos + k ≤ n ∧ (∀ j, j < k → chF n β (pos + j) = 32) ∧ ¬ chF n β (pos + k) = 32 ∧ S' = setI S 9 4 (nI (pos + k)))) 2 [(1, .int (nI k)), (0, .ref 9)] [] (setI S 9 4 (nI (pos + k))) := by
  intro k
  induction hm : 101 - k using Nat.strongRecOn generalizing k with
  | _ mm ih =>
    intro hk hb
    have hx1 := hx.1
    have hx2 := hx.2.1
    have hx3 : TxX t n β (setI S 9 4 (nI (pos + k))) := hx.keep (fun a b e => rdI_k (by omega))
    have hsg := (sg_C (i := pos + k) hx.2.2.1).eq (k := 32) (by decide) (by decide)
    refine x_iload_n 0 dX4_skipBlanks_2 rfl rfl ?_
    refine x_bipush (v := nI 100) dX4_skipBlanks_3 (by decide) ?_
    refine y_ic_ge 33 dX4_skipBlanks_5 (by decide) (by omega) (by omega) (fun c_5 => ?_) (fun c_5 => ?_)
    · refine x_vret rfl dX4_skipBlanks_33 ⟨rfl, k, hk.2, hb, (by first | exact (fun e => c_14 (hsg.mpr e)) | (intro e; have := ch_lt (n := n) (β := β) (i := pos + k) (by rw [e]; decide); omega)), rfl⟩
    · refine x_aload_n 1 dX4_skipBlanks_8 rfl rfl ?_
      refine x_callVu (as := []) (rest := []) vX4_49 (c_X4_sign hx3 ((rdI_j (by decide)).trans ht) rdI_eq (by omega)) dX4_skipBlanks_9 l9 rfl rfl rfl (Nat.le_of_ble_eq_true rfl) (Nat.le_of_ble_eq_true rfl) (Nat.le_of_ble_eq_true rfl) ?_
      refine x_bipush (v := nI 32) dX4_skipBlanks_12 (by decide) ?_
      refine x_ic_ne 33 dX4_skipBlanks_14 (by decide) (fun c_14 => ?_) (fun c_14 => ?_)
      · refine x_vret rfl dX4_skipBlanks_33 ⟨rfl, k, hk.2, hb, (by first | exact (fun e => c_14 (hsg.mpr e)) | (intro e; have := ch_lt (n := n) (β := β) (i := pos + k) (by rw [e]; decide); omega)), rfl⟩
      · refine x_aload_n 1 dX4_skipBlanks_17 rfl rfl ?_
        refine x_dup dX4_skipBlanks_18 rfl ?_
        refine y_getI fX4_30 dX4_skipBlanks_19 l9 rfl rdI_eq ?_
        have hlt := ch_lt (n := n) (β := β) (i := pos + k) (by rw [hsg.mp c_14]; decide)
        refine x_iconst (v := nI 1) dX4_skipBlanks_22 (by decide) ?_
        refine y_iadd dX4_skipBlanks_23 ?_
        refine x_putI pX4_30 dX4_skipBlanks_24 l9 rfl ?_
        refine x_cast set_set ?_
        refine y_iinc (lv' := [(1, _), (0, _)]) 0 dX4_skipBlanks_27 rfl (by decide) rfl ?_
        refine x_goto 2 dX4_skipBlanks_30 (by decide) ?_
        refine x_pick (lv' := [(1, _), (0, _)]) [0, 1] rfl ?_
        exact ih (101 - (k + 1)) (by omega) (k + 1) rfl ⟨by omega, by omega⟩ (fun j hj => by rcases Nat.lt_succ_iff_lt_or_eq.mp hj with h | h; exact hb j h; rw [h]; exact hsg.mp c_14)

set_option maxHeartbeats 4000000 in
set_option maxRecDepth 100000 in
theorem c_X4_skipBlanks {S : St} {t n pos : Nat} {β : Nat → Int32} (hx : TxX t n β S) (ht : S.1 9 3 = nI t) (hp : S.1 9 4 = nI pos) (hpn : pos ≤ n) : C 3 90 yX4_skipBlanks mX4_skipBlanks [.ref 9] S (qv (fun S' => ∃ k, pos + k ≤ n ∧ (∀ j, j < k → chF n β (pos + j) = 32) ∧ ¬ chF n β (pos + k) = 32 ∧ S' = setI S 9 4 (nI (pos + k)))) := by
  refine C.ofX (by decide) rfl (Nat.le_of_ble_eq_true rfl) ?_
  show X 3 90 mX4_skipBlanks (qv (fun S' => ∃ k, pos + k ≤ n ∧ (∀ j, j < k → chF n β (pos + j) = 32) ∧ ¬ chF n β (pos + k) = 32 ∧ S' = setI S 9 4 (nI (pos + k)))) 0 [(0, .ref 9)] [] S
  refine x_iconst (v := nI 0) dX4_skipBlanks_0 (by decide) ?_
  refine x_istore_n (lv' := [(1, _), (0, _)]) dX4_skipBlanks_1 rfl (by decide) rfl ?_
  refine x_pick (lv' := [(1, _), (0, _)]) [0, 1] rfl ?_
  have hh := lp_skip hx ht hp hpn 0 ⟨Nat.zero_le _, hpn⟩ (fun j hj => absurd hj (Nat.not_lt_zero j))
  rw [Nat.add_zero, set_id hp] at hh
  exact hh

set_option maxHeartbeats 4000000 in
set_option maxRecDepth 100000 in
theorem c_X4_figure {S : St} {t n pos : Nat} {β : Nat → Int32} (hx : TxX t n β S) (ht : S.1 9 3 = nI t) (hp : S.1 9 4 = nI pos) (hpn : pos ≤ 2000) {lo hi : Nat} (hl : lo ≤ 9) (hh : hi ≤ 9) : C 3 90 yX4_figure mX4_figure [.ref 9, .int (nI lo), .int (nI hi)] S (qi (FgX (48 + lo ≤ chF n β pos ∧ chF n β pos ≤ 48 + hi) pos (chF n β pos - 48) S)) := by
  have hx1 := hx.1
  have hx2 := hx.2.1
  have hsg := sg_C (i := pos) hx.2.2.1
  have hfg := hsg.fig (lo := lo) (hi := hi) hh
  have hvl := fun h1 h2 => hsg.val h1 h2
  have elo : (nI lo).toInt = (lo : Int) := tiN (by omega)
  have ehi : (nI hi).toInt = (hi : Int) := tiN (by omega)
  refine C.ofX (by decide) rfl (Nat.le_of_ble_eq_true rfl) ?_
  show X 3 90 mX4_figure (qi (FgX (48 + lo ≤ chF n β pos ∧ chF n β pos ≤ 48 + hi) pos (chF n β pos - 48) S)) 0 [(0, .ref 9), (1, .int (nI lo)), (2, .int (nI hi))] [] S
  refine x_aload_n 0 dX4_figure_0 rfl rfl ?_
  refine x_callVu (as := []) (rest := []) vX4_49 (c_X4_sign hx ht hp (by omega)) dX4_figure_1 l9 rfl rfl rfl (Nat.le_of_ble_eq_true rfl) (Nat.le_of_ble_eq_true rfl) (Nat.le_of_ble_eq_true rfl) ?_
  refine x_bipush (v := nI 48) dX4_figure_4 (by decide) ?_
  refine x_isub dX4_figure_6 ?_
  refine x_istore_n (lv' := [(3, _), (0, _), (1, _), (2, _)]) dX4_figure_7 rfl (by decide) rfl ?_
  refine x_iload_n 0 dX4_figure_8 rfl rfl ?_
  refine x_iload_n 2 dX4_figure_9 rfl rfl ?_
  refine z_ic_lt 18 dX4_figure_10 (by decide) (by omega) (fun c_10 => ?_) (fun c_10 => ?_)
  · refine x_iconst (v := -1) dX4_figure_18 (by decide) ?_
    refine x_iret rfl dX4_figure_19 ⟨_, rfl, rfl, fun _ _ _ => rfl, Or.inr ⟨fun h => by have := hfg.mpr h; omega, rfl, hp⟩⟩
  · refine x_iload_n 0 dX4_figure_13 rfl rfl ?_
    refine x_iload_n 3 dX4_figure_14 rfl rfl ?_
    refine z_ic_le 20 dX4_figure_15 (by decide) (by omega) (fun c_15 => ?_) (fun c_15 => ?_)
    · refine x_aload_n 1 dX4_figure_20 rfl rfl ?_
      refine x_dup dX4_figure_21 rfl ?_
      refine y_getI fX4_30 dX4_figure_22 l9 rfl hp ?_
      refine x_iconst (v := nI 1) dX4_figure_25 (by decide) ?_
      refine y_iadd dX4_figure_26 ?_
      refine x_putI pX4_30 dX4_figure_27 l9 rfl ?_
      refine x_iload_n 0 dX4_figure_30 rfl rfl ?_
      refine x_iret rfl dX4_figure_31 ⟨_, rfl, rfl, fun a b h => (by by_cases q : a = 9; subst q; exact rdI_j (fun z => h ⟨rfl, z⟩); exact rdI_k q), Or.inl (by have h := hfg.mp ⟨by omega, by omega⟩; exact ⟨h, hvl (by omega) (by omega), rdI_eq⟩)⟩
    · refine x_iconst (v := -1) dX4_figure_18 (by decide) ?_
      refine x_iret rfl dX4_figure_19 ⟨_, rfl, rfl, fun _ _ _ => rfl, Or.inr ⟨fun h => by have := hfg.mpr h; omega, rfl, hp⟩⟩

set_option maxHeartbeats 4000000 in
set_option maxRecDepth 100000 in
theorem c_X4_readPeople {S : St} {t n pos : Nat} {β : Nat → Int32} (hx : TxX t n β S) {I : Isl} (hR : RdX t pos I S) (hpn : pos ≤ n) (h0 : I = isl0) : C 4 120 yX4_readPeople mX4_readPeople [.ref 9] S (qi (ItX t (rdP (chF n β) pos I) S)) := by
  have hx1 := hx.1
  have hx2 := hx.2.1
  obtain ⟨ht, hp, hI, hl⟩ := id hR
  have hsg := sg_C (i := pos) hx.2.2.1
  refine C.ofX (by decide) rfl (Nat.le_of_ble_eq_true rfl) ?_
  show X 4 120 mX4_readPeople (qi (ItX t (rdP (chF n β) pos I) S)) 0 [(0, .ref 9)] [] S
  refine x_aload_n 0 dX4_readPeople_0 rfl rfl ?_
  refine x_callVu (as := []) (rest := []) vX4_49 (c_X4_sign hx ht hp (by omega)) dX4_readPeople_1 l9 rfl rfl rfl (Nat.le_of_ble_eq_true rfl) (Nat.le_of_ble_eq_true rfl) (Nat.le_of_ble_eq_true rfl) ?_
  refine x_bipush (v := nI 112) dX4_readPeople_4 (by decide) ?_
  refine x_ic_eq 11 dX4_readPeople_6 (by decide) (fun c_6 => ?_) (fun c_6 => ?_)
  · refine x_aload_n 0 dX4_readPeople_11 rfl rfl ?_
    refine x_dup dX4_readPeople_12 rfl ?_
    refine y_getI fX4_30 dX4_readPeople_13 l9 rfl hp ?_
    refine x_iconst (v := nI 1) dX4_readPeople_16 (by decide) ?_
    refine y_iadd dX4_readPeople_17 ?_
    refine x_putI pX4_30 dX4_readPeople_18 l9 rfl ?_
    have hc := (hsg.eq (k := 112) (by decide) (by decide)).mp c_6
    have hx1' : TxX t n β (setI S 9 4 (nI (pos + 1))) := hx.keep (fun a b e => rdI_k (by omega))
    have ht1 : (setI S 9 4 (nI (pos + 1))).1 9 3 = nI t := (rdI_j (by decide)).trans ht
    have f1 : Fr FRe S (setI S 9 4 (nI (pos + 1))) := FRset Fr.refl (Or.inl rfl)
    refine x_aload_n 0 dX4_readPeople_21 rfl rfl ?_
    refine x_iconst (v := nI 1) dX4_readPeople_22 (by decide) ?_
    refine x_iconst (v := nI 4) dX4_readPeople_23 (by decide) ?_
    refine x_callVqi (as := [_, _]) (rest := []) vX4_69 (c_X4_figure hx1' ht1 rdI_eq (by omega) (lo := 1) (hi := 4) (by decide) (by decide)) dX4_readPeople_24 l9 rfl rfl rfl (Nat.le_of_ble_eq_true rfl) (Nat.le_of_ble_eq_true rfl) (Nat.le_of_ble_eq_true rfl) (fun r_24 S_24 q_24 => ?_)
    refine x_istore_n (lv' := [(1, _), (0, _)]) dX4_readPeople_27 rfl (by decide) rfl ?_
    refine x_aload_n 1 dX4_readPeople_28 rfl rfl ?_
    refine x_getR fX4_12 dX4_readPeople_29 l9 rfl ?_
    refine x_iload_n 0 dX4_readPeople_32 rfl rfl ?_
    refine x_iconst (v := nI 0) dX4_readPeople_33 (by decide) ?_
    refine x_max nX4_72 dX4_readPeople_34 (Nat.le_of_ble_eq_true rfl) (Nat.le_of_ble_eq_true rfl) (Nat.le_of_ble_eq_true rfl) ?_
    refine x_putI pX4_77 dX4_readPeople_37 l23 rfl ?_
    refine x_iload_n 0 dX4_readPeople_40 rfl rfl ?_
    refine x_if_le 48 dX4_readPeople_41 (by decide) (fun c_41 => ?_) (fun c_41 => ?_)
    · refine x_iconst (v := nI 0) dX4_readPeople_48 (by decide) ?_
      refine x_zret rfl dX4_readPeople_49 (by decide) (by
        have hN : ¬ (48 + 1 ≤ chF n β (pos + 1) ∧ chF n β (pos + 1) ≤ 48 + 4) ∧ S_24.1 9 4 = nI (pos + 1) := by
          rcases q_24.2.2 with k | k
          · exfalso
            have e := tiN (show chF n β (pos + 1) - 48 < 2147483648 by omega)
            rw [k.2.1] at c_41
            omega
          · exact ⟨k.1, k.2.2⟩
        exact ⟨_, rfl, ItX.f (rdP_1 hc hN.1) (FRset (q_24.fr f1) (by unfold FRe; decide)) ((rdI_k (by decide)).trans hN.2)⟩)
    · refine x_iconst (v := nI 1) dX4_readPeople_44 (by decide) ?_
      refine x_goto 49 dX4_readPeople_45 (by decide) ?_
      refine x_zret rfl dX4_readPeople_49 (by decide) (by
        obtain ⟨hC, rfl, h4⟩ := q_24.pos (by omega)
        refine ⟨_, rfl, ItX.t (rdP_2 hc hC) (FRset (q_24.fr f1) (by unfold FRe; decide)) ⟨?_, ?_, ?_, fun p hp4 => ?_⟩⟩
        · exact (rdI_k (by decide)).trans ((q_24.2.1 9 3 (by decide)).trans ht1)
        · exact (rdI_k (by decide)).trans h4
        · subst h0
          have hm : iM (islP isl0 (chF n β (pos + 1) - 48)) = 0 := rfl
          have hw : iW (islP isl0 (chF n β (pos + 1) - 48)) = 0 := rfl
          have hb : iB (islP isl0 (chF n β (pos + 1) - 48)) = 0 := rfl
          obtain ⟨i1, i2, i3, i4, -⟩ := hI
          refine ⟨?_, ?_, ?_, ?_, fun t ht => by omega, fun b hb => by omega, fun w hw => by omega⟩
          · rw [rdI_eq]
            have e := tiN (show chF n β (pos + 1) - 48 < 2147483648 by omega)
            rw [if_neg (fun z => by have := Int32.lt_iff_toInt_lt.mp z; have e0 : (nI 0).toInt = 0 := rfl; omega)]
            rfl
          · exact (rdI_j (by decide)).trans ((q_24.2.1 23 1 (by decide)).trans ((rdI_k (by decide)).trans i2))
          · exact (rdI_j (by decide)).trans ((q_24.2.1 23 2 (by decide)).trans ((rdI_k (by decide)).trans i3))
          · exact (rdI_j (by decide)).trans ((q_24.2.1 23 3 (by decide)).trans ((rdI_k (by decide)).trans i4))
        · subst h0
          exact (rdI_k (by decide)).trans ((q_24.2.1 10 p (by omega)).trans ((rdI_k (by decide)).trans (hl p hp4))))
  · refine x_iconst (v := nI 0) dX4_readPeople_9 (by decide) ?_
    refine x_zret rfl dX4_readPeople_10 (by decide) ⟨_, rfl, ItX.f (rdP_0 (fun e => c_6 ((hsg.eq (k := 112) (by decide) (by decide)).mpr e))) Fr.refl hp⟩

set_option maxHeartbeats 4000000 in
set_option maxRecDepth 100000 in
theorem c_readThing_0 {S : St} {t n pos : Nat} {β : Nat → Int32} (hx : TxX t n β S) {I : Isl} (hR : RdX t pos I S) (hpn : pos ≤ n) (hPI : PI I) (hk9 : kdF (chF n β pos) = 9) : C 3 90 yX4_readThing mX4_readThing [.ref 9] S (qi (ItX t (rdT (chF n β) pos I) S)) := by
  have hx1 := hx.1
  have hx2 := hx.2.1
  obtain ⟨ht, hp, hI, hl⟩ := id hR
  have hsg := sg_C (i := pos) hx.2.2.1
  have hO := hPI.1
  have hO1 := hO.1
  have hO2 := hO.2.1
  have hO3 := hO.2.2.1
  have hO4 := hO.2.2.2.1
  have ek : kiF (-1) (chF n β pos) = -1 := by unfold kiF; rw [if_pos hk9]
  refine C.ofX (by decide) rfl (Nat.le_of_ble_eq_true rfl) ?_
  show X 3 90 mX4_readThing (qi (ItX t (rdT (chF n β) pos I) S)) 0 [(0, .ref 9)] [] S
  refine x_aload_n 0 dX4_readThing_0 rfl rfl ?_
  refine x_callVu (as := []) (rest := []) vX4_49 (c_X4_sign hx ht hp (by omega)) dX4_readThing_1 l9 rfl rfl rfl (Nat.le_of_ble_eq_true rfl) (Nat.le_of_ble_eq_true rfl) (Nat.le_of_ble_eq_true rfl) ?_
  refine x_callSu (as := [_]) (rest := []) sX4_80 (c_X4_kindOf hsg) dX4_readThing_4 rfl rfl (Nat.le_of_ble_eq_true rfl) (Nat.le_of_ble_eq_true rfl) (Nat.le_of_ble_eq_true rfl) ?_
  rw [ek]
  refine x_istore_n (lv' := [(1, _), (0, _)]) dX4_readThing_7 rfl (by decide) rfl ?_
  refine x_iload_n 0 dX4_readThing_8 rfl rfl ?_
  refine x_iconst (v := nI 1) dX4_readThing_9 (by decide) ?_
  refine x_ic_eq 18 dX4_readThing_10 (by decide) (fun c_10 => ?_) (fun c_10 => ?_)
  · refine x_iconst (v := nI 1) dX4_readThing_18 (by decide) ?_
    refine x_goto 23 dX4_readThing_19 (by decide) ?_
    refine x_istore_n (lv' := [(2, _), (1, _), (0, _)]) dX4_readThing_23 rfl (by decide) rfl ?_
    refine x_iload_n 1 dX4_readThing_24 rfl rfl ?_
    refine t_if_lt 49 dX4_readThing_25 (by decide) (by decide) ?_
    refine x_iconst (v := nI 0) dX4_readThing_49 (by decide) ?_
    refine x_zret rfl dX4_readThing_50 (by decide) ⟨_, rfl, ItX.f (rdT_0 (fun h => h.1 hk9)) Fr.refl hp⟩
  · refine x_iload_n 0 dX4_readThing_13 rfl rfl ?_
    refine x_iconst (v := nI 4) dX4_readThing_14 (by decide) ?_
    refine x_ic_ne 22 dX4_readThing_15 (by decide) (fun c_15 => ?_) (fun c_15 => ?_)
    · refine x_iconst (v := nI 0) dX4_readThing_22 (by decide) ?_
      refine x_istore_n (lv' := [(2, _), (1, _), (0, _)]) dX4_readThing_23 rfl (by decide) rfl ?_
      refine x_iload_n 1 dX4_readThing_24 rfl rfl ?_
      refine t_if_lt 49 dX4_readThing_25 (by decide) (by decide) ?_
      refine x_iconst (v := nI 0) dX4_readThing_49 (by decide) ?_
      refine x_zret rfl dX4_readThing_50 (by decide) ⟨_, rfl, ItX.f (rdT_0 (fun h => h.1 hk9)) Fr.refl hp⟩
    · refine x_iconst (v := nI 1) dX4_readThing_18 (by decide) ?_
      refine x_goto 23 dX4_readThing_19 (by decide) ?_
      refine x_istore_n (lv' := [(2, _), (1, _), (0, _)]) dX4_readThing_23 rfl (by decide) rfl ?_
      refine x_iload_n 1 dX4_readThing_24 rfl rfl ?_
      refine t_if_lt 49 dX4_readThing_25 (by decide) (by decide) ?_
      refine x_iconst (v := nI 0) dX4_readThing_49 (by decide) ?_
      refine x_zret rfl dX4_readThing_50 (by decide) ⟨_, rfl, ItX.f (rdT_0 (fun h => h.1 hk9)) Fr.refl hp⟩

set_option maxHeartbeats 4000000 in
set_option maxRecDepth 100000 in
theorem c_readThing_1 {S : St} {t n pos : Nat} {β : Nat → Int32} (hx : TxX t n β S) {I : Isl} (hR : RdX t pos I S) (hpn : pos ≤ n) (hPI : PI I) (hk9 : ¬ kdF (chF n β pos) = 9) : C 3 90 yX4_readThing mX4_readThing [.ref 9] S (qi (ItX t (rdT (chF n β) pos I) S)) := by
  have hx1 := hx.1
  have hx2 := hx.2.1
  obtain ⟨ht, hp, hI, hl⟩ := id hR
  have hsg := sg_C (i := pos) hx.2.2.1
  have hO := hPI.1
  have hO1 := hO.1
  have hO2 := hO.2.1
  have hO3 := hO.2.2.1
  have hO4 := hO.2.2.2.1
  have hk5 := (kd_in hk9).2
  have hc128 := (kd_in hk9).1
  have ek : kiF (-1) (chF n β pos) = nI (kdF (chF n β pos)) := by unfold kiF; rw [if_neg hk9]
  have hw2 := wt_le (kdF (chF n β pos))
  have hbk : bagK (kdF (chF n β pos)) ↔ ((kdF (chF n β pos)) = 1 ∨ (kdF (chF n β pos)) = 4) := Iff.rfl
  have hlv : livK (kdF (chF n β pos)) ↔ ((kdF (chF n β pos)) = 2 ∨ (kdF (chF n β pos)) = 5) := Iff.rfl
  have hrp := rm_pos (kdF (chF n β pos))
  refine C.ofX (by decide) rfl (Nat.le_of_ble_eq_true rfl) ?_
  show X 3 90 mX4_readThing (qi (ItX t (rdT (chF n β) pos I) S)) 0 [(0, .ref 9)] [] S
  refine x_aload_n 0 dX4_readThing_0 rfl rfl ?_
  refine x_callVu (as := []) (rest := []) vX4_49 (c_X4_sign hx ht hp (by omega)) dX4_readThing_1 l9 rfl rfl rfl (Nat.le_of_ble_eq_true rfl) (Nat.le_of_ble_eq_true rfl) (Nat.le_of_ble_eq_true rfl) ?_
  refine x_callSu (as := [_]) (rest := []) sX4_80 (c_X4_kindOf hsg) dX4_readThing_4 rfl rfl (Nat.le_of_ble_eq_true rfl) (Nat.le_of_ble_eq_true rfl) (Nat.le_of_ble_eq_true rfl) ?_
  rw [ek]
  refine x_istore_n (lv' := [(1, _), (0, _)]) dX4_readThing_7 rfl (by decide) rfl ?_
  refine x_iload_n 0 dX4_readThing_8 rfl rfl ?_
  refine x_iconst (v := nI 1) dX4_readThing_9 (by decide) ?_
  refine y_ic_eq 18 dX4_readThing_10 (by decide) (by omega) (by omega) (fun c_10 => ?_) (fun c_10 => ?_)
  · refine x_iconst (v := nI 1) dX4_readThing_18 (by decide) ?_
    refine x_goto 23 dX4_readThing_19 (by decide) ?_
    refine x_istore_n (lv' := [(2, _), (1, _), (0, _)]) dX4_readThing_23 rfl (by decide) rfl ?_
    refine x_iload_n 1 dX4_readThing_24 rfl rfl ?_
    refine u_if_lt 49 dX4_readThing_25 (by decide) (by rw [tiN (by omega)]; omega) ?_
    refine x_aload_n 2 dX4_readThing_28 rfl rfl ?_
    refine x_getR fX4_12 dX4_readThing_29 l9 rfl ?_
    refine y_getI fX4_84 dX4_readThing_32 l23 rfl hI.2.2.1 ?_
    refine y_if_gt 49 dX4_readThing_35 (by decide) (by omega) (fun c_35 => ?_) (fun c_35 => ?_)
    · refine x_iconst (v := nI 0) dX4_readThing_49 (by decide) ?_
      refine x_zret rfl dX4_readThing_50 (by decide) ⟨_, rfl, ItX.f (rdT_0 (fun h => by have h1 := h.2.1; have h2 := h.2.2.1; omega)) Fr.refl hp⟩
    · refine x_aload_n 2 dX4_readThing_38 rfl rfl ?_
      refine x_getR fX4_12 dX4_readThing_39 l9 rfl ?_
      refine y_getI fX4_87 dX4_readThing_42 l23 rfl hI.2.1 ?_
      refine x_iconst (v := nI 5) dX4_readThing_45 (by decide) ?_
      refine y_ic_ne 51 dX4_readThing_46 (by decide) (by omega) (by omega) (fun c_46 => ?_) (fun c_46 => ?_)
      · refine x_iload_n 0 dX4_readThing_51 rfl rfl ?_
        refine y_if_eq 68 dX4_readThing_52 (by decide) (by omega) (fun c_52 => ?_) (fun c_52 => ?_)
        · refine x_aload_n 2 dX4_readThing_68 rfl rfl ?_
          refine x_dup dX4_readThing_69 rfl ?_
          refine y_getI fX4_30 dX4_readThing_70 l9 rfl hp ?_
          refine x_iconst (v := nI 1) dX4_readThing_73 (by decide) ?_
          refine y_iadd dX4_readThing_74 ?_
          refine x_putI pX4_30 dX4_readThing_75 l9 rfl ?_
          have hx1' : TxX t n β (setI S 9 4 (nI (pos + 1))) := hx.keep (fun a b e => rdI_k (by omega))
          have ht1 : (setI S 9 4 (nI (pos + 1))).1 9 3 = nI t := (rdI_j (by decide)).trans ht
          have f1 : Fr FRe S (setI S 9 4 (nI (pos + 1))) := FRset Fr.refl (Or.inl rfl)
          have hsg2 := sg_C (n := n) (i := pos + 1) hx.2.2.1
          have hI1 : IsX 23 I (setI S 9 4 (nI (pos + 1))) := hI.rd (fun a b h1 h2 => rdI_k (by omega))
          have hz := hsg2.eq (k := 122) (by decide) (by decide)
          have hmT : mayT (chF n β) pos I := ⟨hk9, by omega, by omega, fun h => by have h1 := h.1; have h2 := h.2; unfold bagK at h1; omega⟩
          refine x_aload_n 2 dX4_readThing_78 rfl rfl ?_
          refine x_callVu (as := []) (rest := []) vX4_49 (c_X4_sign hx1' ht1 rdI_eq (by omega)) dX4_readThing_79 l9 rfl rfl rfl (Nat.le_of_ble_eq_true rfl) (Nat.le_of_ble_eq_true rfl) (Nat.le_of_ble_eq_true rfl) ?_
          refine x_bipush (v := nI 122) dX4_readThing_82 (by decide) ?_
          refine x_ic_ne 120 dX4_readThing_84 (by decide) (fun c_84 => ?_) (fun c_84 => ?_)
          · refine x_aload_n 2 dX4_readThing_120 rfl rfl ?_
            refine x_callVu (as := []) (rest := []) vX4_49 (c_X4_sign hx1' ht1 rdI_eq (by omega)) dX4_readThing_121 l9 rfl rfl rfl (Nat.le_of_ble_eq_true rfl) (Nat.le_of_ble_eq_true rfl) (Nat.le_of_ble_eq_true rfl) ?_
            refine x_bipush (v := nI 48) dX4_readThing_124 (by decide) ?_
            refine x_isub dX4_readThing_126 ?_
            refine x_istore_n (lv' := [(3, _), (2, _), (1, _), (0, _)]) dX4_readThing_127 rfl (by decide) rfl ?_
            refine x_aload_n 3 dX4_readThing_128 rfl rfl ?_
            refine x_getR fX4_12 dX4_readThing_129 l9 rfl ?_
            refine x_iload_n 0 dX4_readThing_132 rfl rfl ?_
            refine x_callVb (as := [_]) (rest := []) vX4_97 (c_X1_isPerson (Or.inr rfl) hI1 hO) dX4_readThing_133 l23 rfl rfl rfl (Nat.le_of_ble_eq_true rfl) (Nat.le_of_ble_eq_true rfl) (Nat.le_of_ble_eq_true rfl) (fun c_133 => ?_) (fun c_133 => ?_)
            · refine u_if_eq 154 dX4_readThing_136 (by decide) (by decide) ?_
              have hd48 : 48 ≤ (chF n β (pos + 1)) ∧ (chF n β (pos + 1)) ≤ 57 := (hsg2.fig (lo := 0) (hi := 9) (by decide)).mp ⟨by omega, by omega⟩
              have hdv := hsg2.val hd48.1 hd48.2
              obtain ⟨d, hd⟩ : ∃ d, d = (chF n β (pos + 1)) - 48 := ⟨_, rfl⟩
              rw [← hd] at hdv
              have hdi : (sgC n β (pos + 1) - nI 48).toInt = (d : Int) := by rw [hdv]; exact tiN (by omega)
              have hdP : d < iP I := by omega
              have hld := loadF_le I hO (iS I) d
              have hl1 : (setI S 9 4 (nI (pos + 1))).1 10 d = nI (loadF I (iS I) d) := (rdI_k (by decide)).trans (hl d (by omega))
              rw [hdv]
              refine x_aload_n 3 dX4_readThing_139 rfl rfl ?_
              refine x_getR fX4_18 dX4_readThing_140 l9 rfl ?_
              refine x_iload_n 0 dX4_readThing_143 rfl rfl ?_
              refine y_iald dX4_readThing_144 l10 (by omega) (by decide) (((rdI_k (by decide))).trans hl1) ?_
              refine x_iload_n 2 dX4_readThing_145 rfl rfl ?_
              refine x_callSu (as := [_]) (rest := [_]) sX4_101 (c_X1_weightOf hk5) dX4_readThing_146 rfl rfl (Nat.le_of_ble_eq_true rfl) (Nat.le_of_ble_eq_true rfl) (Nat.le_of_ble_eq_true rfl) ?_
              refine y_iadd dX4_readThing_149 ?_
              refine x_iconst (v := nI 3) dX4_readThing_150 (by decide) ?_
              refine y_ic_le 156 dX4_readThing_151 (by decide) (by omega) (by omega) (fun c_151 => ?_) (fun c_151 => ?_)
              · refine x_aload_n 3 dX4_readThing_156 rfl rfl ?_
                refine x_getR fX4_18 dX4_readThing_157 l9 rfl ?_
                refine x_iload_n 0 dX4_readThing_160 rfl rfl ?_
                refine x_dup2 dX4_readThing_161 rfl rfl ?_
                refine y_iald dX4_readThing_162 l10 (by omega) (by decide) (((rdI_k (by decide))).trans hl1) ?_
                refine x_iload_n 2 dX4_readThing_163 rfl rfl ?_
                refine x_callSu (as := [_]) (rest := [_, _, _]) sX4_101 (c_X1_weightOf hk5) dX4_readThing_164 rfl rfl (Nat.le_of_ble_eq_true rfl) (Nat.le_of_ble_eq_true rfl) (Nat.le_of_ble_eq_true rfl) ?_
                refine y_iadd dX4_readThing_167 ?_
                refine y_iast dX4_readThing_168 l10 (by omega) (by decide) ?_
                have hI2 : IsX 23 I (setI (setI S 9 4 (nI (pos + 1))) 10 d (nI (loadF I (iS I) d + wt (kdF (chF n β pos))))) := hI1.rd (fun a b h1 h2 => rdI_k (by omega))
                refine x_aload_n 3 dX4_readThing_169 rfl rfl ?_
                refine x_getR fX4_12 dX4_readThing_170 l9 rfl ?_
                refine x_iload_n 2 dX4_readThing_173 rfl rfl ?_
                refine x_iload_n 0 dX4_readThing_174 rfl rfl ?_
                refine x_callVv (as := [_, _]) (rest := []) vX4_93 (c_X1_addThing (Or.inr rfl) hI2.2.1 hI2.2.2.2.1 (by omega) hO4 hk5 (fun h => by have := hbk.mp (hrp.mp h); omega)) dX4_readThing_175 l23 rfl rfl rfl (Nat.le_of_ble_eq_true rfl) (Nat.le_of_ble_eq_true rfl) (Nat.le_of_ble_eq_true rfl) ?_
                have hA4 : (addS (setI (setI S 9 4 (nI (pos + 1))) 10 d (nI (loadF I (iS I) d + wt (kdF (chF n β pos))))) 23 (iM I) (iB I) (kdF (chF n β pos)) d).1 9 4 = nI (pos + 1) := (addS_k (by decide)).trans ((rdI_k (by decide)).trans rdI_eq)
                refine x_aload_n 3 dX4_readThing_178 rfl rfl ?_
                refine x_dup dX4_readThing_179 rfl ?_
                refine y_getI fX4_30 dX4_readThing_180 l9 rfl hA4 ?_
                refine x_iconst (v := nI 1) dX4_readThing_183 (by decide) ?_
                refine y_iadd dX4_readThing_184 ?_
                refine x_putI pX4_30 dX4_readThing_185 l9 rfl ?_
                refine x_iconst (v := nI 1) dX4_readThing_188 (by decide) ?_
                refine x_zret rfl dX4_readThing_189 (by decide) (by
                  have hfT : fineT (chF n β) pos I := Or.inr ⟨hd48.1, by omega, by rw [← hd]; omega⟩
                  have hpl : plT (chF n β) pos = d := (if_neg (fun e => c_84 (hz.mpr e))).trans hd.symm
                  refine ⟨_, rfl, ItX.t (rdT_2 hmT hfT) ⟨addS_2, fun a ha b => (rdI_k (fun q => ha (Or.inl q))).trans ((addS_k (fun q => ha (by unfold FRe; omega))).trans ((rdI_k (fun q => ha (Or.inr (Or.inl q)))).trans (f1.2 a ha b)))⟩ ⟨?_, ?_, ?_, fun p hp4 => ?_⟩⟩
                  · exact (rdI_j (by decide)).trans ((addS_k (by decide)).trans ((rdI_k (by decide)).trans ht1))
                  · rw [rdI_eq]
                  · rw [hpl]
                    exact (addS_I hI2).rd (fun a b h1 h2 => rdI_k (by omega))
                  · rw [hpl, load_addT, rdI_k (by decide), addS_k (by decide)]
                    by_cases q : p = d
                    · rw [q, rdI_eq, if_pos rfl]
                    · rw [rdI_j q, if_neg (fun e => q e.symm), Nat.add_zero]
                      exact (rdI_k (by decide)).trans (hl p hp4))
              · refine x_iconst (v := nI 0) dX4_readThing_154 (by decide) ?_
                refine x_zret rfl dX4_readThing_155 (by decide) (by
                  refine ⟨_, rfl, ItX.f (rdT_1 hmT (fun h => ?_)) f1 rdI_eq⟩
                  rcases h with ⟨h, _⟩ | ⟨h1, h2, h3⟩
                  · exact c_84 (hz.mpr h)
                  · have hdv9 := hsg2.val h1 (by omega)
                    have hdi9 := tiN (show (chF n β (pos + 1)) - 48 < 2147483648 by omega)
                    first
                    | (rw [hdv9] at c_133; omega)
                    | (rw [← hd] at h3; omega))
            · refine t_if_eq 154 dX4_readThing_136 (by decide) (by decide) ?_
              refine x_iconst (v := nI 0) dX4_readThing_154 (by decide) ?_
              refine x_zret rfl dX4_readThing_155 (by decide) (by
                refine ⟨_, rfl, ItX.f (rdT_1 hmT (fun h => ?_)) f1 rdI_eq⟩
                rcases h with ⟨h, _⟩ | ⟨h1, h2, h3⟩
                · exact c_84 (hz.mpr h)
                · have hdv9 := hsg2.val h1 (by omega)
                  have hdi9 := tiN (show (chF n β (pos + 1)) - 48 < 2147483648 by omega)
                  first
                  | (rw [hdv9] at c_133; omega)
                  | (rw [← hd] at h3; omega))
          · refine x_iload_n 1 dX4_readThing_87 rfl rfl ?_
            refine x_iconst (v := nI 2) dX4_readThing_88 (by decide) ?_
            refine y_ic_eq 97 dX4_readThing_89 (by decide) (by omega) (by omega) (fun c_89 => ?_) (fun c_89 => ?_)
            · refine x_iconst (v := nI 0) dX4_readThing_97 (by decide) ?_
              refine x_zret rfl dX4_readThing_98 (by decide) ⟨_, rfl, ItX.f (rdT_1 hmT (fun h => by rcases h with ⟨_, h⟩ | ⟨_, h, _⟩; exact h (by unfold livK; omega); have := hz.mp c_84; omega)) f1 rdI_eq⟩
            · refine x_iload_n 1 dX4_readThing_92 rfl rfl ?_
              refine x_iconst (v := nI 5) dX4_readThing_93 (by decide) ?_
              refine y_ic_ne 99 dX4_readThing_94 (by decide) (by omega) (by omega) (fun c_94 => ?_) (fun c_94 => ?_)
              · refine x_aload_n 2 dX4_readThing_99 rfl rfl ?_
                refine x_getR fX4_12 dX4_readThing_100 l9 rfl ?_
                refine x_iload_n 1 dX4_readThing_103 rfl rfl ?_
                refine x_iconst (v := nI 4) dX4_readThing_104 (by decide) ?_
                refine x_callVv (as := [_, _]) (rest := []) vX4_93 (c_X1_addThing (Or.inr rfl) hI1.2.1 hI1.2.2.2.1 (by omega) hO4 hk5 (fun h => by have := hbk.mp (hrp.mp h); omega)) dX4_readThing_105 l23 rfl rfl rfl (Nat.le_of_ble_eq_true rfl) (Nat.le_of_ble_eq_true rfl) (Nat.le_of_ble_eq_true rfl) ?_
                have hA4 : (addS (setI S 9 4 (nI (pos + 1))) 23 (iM I) (iB I) (kdF (chF n β pos)) 4).1 9 4 = nI (pos + 1) := (addS_k (by decide)).trans rdI_eq
                refine x_aload_n 2 dX4_readThing_108 rfl rfl ?_
                refine x_dup dX4_readThing_109 rfl ?_
                refine y_getI fX4_30 dX4_readThing_110 l9 rfl hA4 ?_
                refine x_iconst (v := nI 1) dX4_readThing_113 (by decide) ?_
                refine y_iadd dX4_readThing_114 ?_
                refine x_putI pX4_30 dX4_readThing_115 l9 rfl ?_
                refine x_iconst (v := nI 1) dX4_readThing_118 (by decide) ?_
                refine x_zret rfl dX4_readThing_119 (by decide) (by
                  have hc2 := hz.mp c_84
                  have hfT : fineT (chF n β) pos I := Or.inl ⟨hc2, fun h => by unfold livK at h; omega⟩
                  have hpl : plT (chF n β) pos = 4 := if_pos hc2
                  refine ⟨_, rfl, ItX.t (rdT_2 hmT hfT) ⟨addS_2, fun a ha b => (rdI_k (fun q => ha (Or.inl q))).trans ((addS_k (fun q => ha (by unfold FRe; omega))).trans (f1.2 a ha b))⟩ ⟨?_, ?_, ?_, fun p hp4 => ?_⟩⟩
                  · exact (rdI_j (by decide)).trans ((addS_k (by decide)).trans ht1)
                  · rw [rdI_eq]
                  · rw [hpl]
                    exact (addS_I hI1).rd (fun a b h1 h2 => rdI_k (by omega))
                  · rw [hpl, load_addT, if_neg (by omega), Nat.add_zero]
                    exact (rdI_k (by decide)).trans ((addS_k (by decide)).trans ((rdI_k (by decide)).trans (hl p hp4))))
              · refine x_iconst (v := nI 0) dX4_readThing_97 (by decide) ?_
                refine x_zret rfl dX4_readThing_98 (by decide) ⟨_, rfl, ItX.f (rdT_1 hmT (fun h => by rcases h with ⟨_, h⟩ | ⟨_, h, _⟩; exact h (by unfold livK; omega); have := hz.mp c_84; omega)) f1 rdI_eq⟩
        · refine x_aload_n 2 dX4_readThing_55 rfl rfl ?_
          refine x_getR fX4_12 dX4_readThing_56 l9 rfl ?_
          refine y_getI fX4_90 dX4_readThing_59 l23 rfl hI.2.2.2.1 ?_
          refine x_iconst (v := nI 2) dX4_readThing_62 (by decide) ?_
          refine y_ic_ne 68 dX4_readThing_63 (by decide) (by omega) (by omega) (fun c_63 => ?_) (fun c_63 => ?_)
          · refine x_aload_n 2 dX4_readThing_68 rfl rfl ?_
            refine x_dup dX4_readThing_69 rfl ?_
            refine y_getI fX4_30 dX4_readThing_70 l9 rfl hp ?_
            refine x_iconst (v := nI 1) dX4_readThing_73 (by decide) ?_
            refine y_iadd dX4_readThing_74 ?_
            refine x_putI pX4_30 dX4_readThing_75 l9 rfl ?_
            have hx1' : TxX t n β (setI S 9 4 (nI (pos + 1))) := hx.keep (fun a b e => rdI_k (by omega))
            have ht1 : (setI S 9 4 (nI (pos + 1))).1 9 3 = nI t := (rdI_j (by decide)).trans ht
            have f1 : Fr FRe S (setI S 9 4 (nI (pos + 1))) := FRset Fr.refl (Or.inl rfl)
            have hsg2 := sg_C (n := n) (i := pos + 1) hx.2.2.1
            have hI1 : IsX 23 I (setI S 9 4 (nI (pos + 1))) := hI.rd (fun a b h1 h2 => rdI_k (by omega))
            have hz := hsg2.eq (k := 122) (by decide) (by decide)
            have hmT : mayT (chF n β) pos I := ⟨hk9, by omega, by omega, fun h => by have h1 := h.1; have h2 := h.2; unfold bagK at h1; omega⟩
            refine x_aload_n 2 dX4_readThing_78 rfl rfl ?_
            refine x_callVu (as := []) (rest := []) vX4_49 (c_X4_sign hx1' ht1 rdI_eq (by omega)) dX4_readThing_79 l9 rfl rfl rfl (Nat.le_of_ble_eq_true rfl) (Nat.le_of_ble_eq_true rfl) (Nat.le_of_ble_eq_true rfl) ?_
            refine x_bipush (v := nI 122) dX4_readThing_82 (by decide) ?_
            refine x_ic_ne 120 dX4_readThing_84 (by decide) (fun c_84 => ?_) (fun c_84 => ?_)
            · refine x_aload_n 2 dX4_readThing_120 rfl rfl ?_
              refine x_callVu (as := []) (rest := []) vX4_49 (c_X4_sign hx1' ht1 rdI_eq (by omega)) dX4_readThing_121 l9 rfl rfl rfl (Nat.le_of_ble_eq_true rfl) (Nat.le_of_ble_eq_true rfl) (Nat.le_of_ble_eq_true rfl) ?_
              refine x_bipush (v := nI 48) dX4_readThing_124 (by decide) ?_
              refine x_isub dX4_readThing_126 ?_
              refine x_istore_n (lv' := [(3, _), (2, _), (1, _), (0, _)]) dX4_readThing_127 rfl (by decide) rfl ?_
              refine x_aload_n 3 dX4_readThing_128 rfl rfl ?_
              refine x_getR fX4_12 dX4_readThing_129 l9 rfl ?_
              refine x_iload_n 0 dX4_readThing_132 rfl rfl ?_
              refine x_callVb (as := [_]) (rest := []) vX4_97 (c_X1_isPerson (Or.inr rfl) hI1 hO) dX4_readThing_133 l23 rfl rfl rfl (Nat.le_of_ble_eq_true rfl) (Nat.le_of_ble_eq_true rfl) (Nat.le_of_ble_eq_true rfl) (fun c_133 => ?_) (fun c_133 => ?_)
              · refine u_if_eq 154 dX4_readThing_136 (by decide) (by decide) ?_
                have hd48 : 48 ≤ (chF n β (pos + 1)) ∧ (chF n β (pos + 1)) ≤ 57 := (hsg2.fig (lo := 0) (hi := 9) (by decide)).mp ⟨by omega, by omega⟩
                have hdv := hsg2.val hd48.1 hd48.2
                obtain ⟨d, hd⟩ : ∃ d, d = (chF n β (pos + 1)) - 48 := ⟨_, rfl⟩
                rw [← hd] at hdv
                have hdi : (sgC n β (pos + 1) - nI 48).toInt = (d : Int) := by rw [hdv]; exact tiN (by omega)
                have hdP : d < iP I := by omega
                have hld := loadF_le I hO (iS I) d
                have hl1 : (setI S 9 4 (nI (pos + 1))).1 10 d = nI (loadF I (iS I) d) := (rdI_k (by decide)).trans (hl d (by omega))
                rw [hdv]
                refine x_aload_n 3 dX4_readThing_139 rfl rfl ?_
                refine x_getR fX4_18 dX4_readThing_140 l9 rfl ?_
                refine x_iload_n 0 dX4_readThing_143 rfl rfl ?_
                refine y_iald dX4_readThing_144 l10 (by omega) (by decide) (((rdI_k (by decide))).trans hl1) ?_
                refine x_iload_n 2 dX4_readThing_145 rfl rfl ?_
                refine x_callSu (as := [_]) (rest := [_]) sX4_101 (c_X1_weightOf hk5) dX4_readThing_146 rfl rfl (Nat.le_of_ble_eq_true rfl) (Nat.le_of_ble_eq_true rfl) (Nat.le_of_ble_eq_true rfl) ?_
                refine y_iadd dX4_readThing_149 ?_
                refine x_iconst (v := nI 3) dX4_readThing_150 (by decide) ?_
                refine y_ic_le 156 dX4_readThing_151 (by decide) (by omega) (by omega) (fun c_151 => ?_) (fun c_151 => ?_)
                · refine x_aload_n 3 dX4_readThing_156 rfl rfl ?_
                  refine x_getR fX4_18 dX4_readThing_157 l9 rfl ?_
                  refine x_iload_n 0 dX4_readThing_160 rfl rfl ?_
                  refine x_dup2 dX4_readThing_161 rfl rfl ?_
                  refine y_iald dX4_readThing_162 l10 (by omega) (by decide) (((rdI_k (by decide))).trans hl1) ?_
                  refine x_iload_n 2 dX4_readThing_163 rfl rfl ?_
                  refine x_callSu (as := [_]) (rest := [_, _, _]) sX4_101 (c_X1_weightOf hk5) dX4_readThing_164 rfl rfl (Nat.le_of_ble_eq_true rfl) (Nat.le_of_ble_eq_true rfl) (Nat.le_of_ble_eq_true rfl) ?_
                  refine y_iadd dX4_readThing_167 ?_
                  refine y_iast dX4_readThing_168 l10 (by omega) (by decide) ?_
                  have hI2 : IsX 23 I (setI (setI S 9 4 (nI (pos + 1))) 10 d (nI (loadF I (iS I) d + wt (kdF (chF n β pos))))) := hI1.rd (fun a b h1 h2 => rdI_k (by omega))
                  refine x_aload_n 3 dX4_readThing_169 rfl rfl ?_
                  refine x_getR fX4_12 dX4_readThing_170 l9 rfl ?_
                  refine x_iload_n 2 dX4_readThing_173 rfl rfl ?_
                  refine x_iload_n 0 dX4_readThing_174 rfl rfl ?_
                  refine x_callVv (as := [_, _]) (rest := []) vX4_93 (c_X1_addThing (Or.inr rfl) hI2.2.1 hI2.2.2.2.1 (by omega) hO4 hk5 (fun h => by have := hbk.mp (hrp.mp h); omega)) dX4_readThing_175 l23 rfl rfl rfl (Nat.le_of_ble_eq_true rfl) (Nat.le_of_ble_eq_true rfl) (Nat.le_of_ble_eq_true rfl) ?_
                  have hA4 : (addS (setI (setI S 9 4 (nI (pos + 1))) 10 d (nI (loadF I (iS I) d + wt (kdF (chF n β pos))))) 23 (iM I) (iB I) (kdF (chF n β pos)) d).1 9 4 = nI (pos + 1) := (addS_k (by decide)).trans ((rdI_k (by decide)).trans rdI_eq)
                  refine x_aload_n 3 dX4_readThing_178 rfl rfl ?_
                  refine x_dup dX4_readThing_179 rfl ?_
                  refine y_getI fX4_30 dX4_readThing_180 l9 rfl hA4 ?_
                  refine x_iconst (v := nI 1) dX4_readThing_183 (by decide) ?_
                  refine y_iadd dX4_readThing_184 ?_
                  refine x_putI pX4_30 dX4_readThing_185 l9 rfl ?_
                  refine x_iconst (v := nI 1) dX4_readThing_188 (by decide) ?_
                  refine x_zret rfl dX4_readThing_189 (by decide) (by
                    have hfT : fineT (chF n β) pos I := Or.inr ⟨hd48.1, by omega, by rw [← hd]; omega⟩
                    have hpl : plT (chF n β) pos = d := (if_neg (fun e => c_84 (hz.mpr e))).trans hd.symm
                    refine ⟨_, rfl, ItX.t (rdT_2 hmT hfT) ⟨addS_2, fun a ha b => (rdI_k (fun q => ha (Or.inl q))).trans ((addS_k (fun q => ha (by unfold FRe; omega))).trans ((rdI_k (fun q => ha (Or.inr (Or.inl q)))).trans (f1.2 a ha b)))⟩ ⟨?_, ?_, ?_, fun p hp4 => ?_⟩⟩
                    · exact (rdI_j (by decide)).trans ((addS_k (by decide)).trans ((rdI_k (by decide)).trans ht1))
                    · rw [rdI_eq]
                    · rw [hpl]
                      exact (addS_I hI2).rd (fun a b h1 h2 => rdI_k (by omega))
                    · rw [hpl, load_addT, rdI_k (by decide), addS_k (by decide)]
                      by_cases q : p = d
                      · rw [q, rdI_eq, if_pos rfl]
                      · rw [rdI_j q, if_neg (fun e => q e.symm), Nat.add_zero]
                        exact (rdI_k (by decide)).trans (hl p hp4))
                · refine x_iconst (v := nI 0) dX4_readThing_154 (by decide) ?_
                  refine x_zret rfl dX4_readThing_155 (by decide) (by
                    refine ⟨_, rfl, ItX.f (rdT_1 hmT (fun h => ?_)) f1 rdI_eq⟩
                    rcases h with ⟨h, _⟩ | ⟨h1, h2, h3⟩
                    · exact c_84 (hz.mpr h)
                    · have hdv9 := hsg2.val h1 (by omega)
                      have hdi9 := tiN (show (chF n β (pos + 1)) - 48 < 2147483648 by omega)
                      first
                      | (rw [hdv9] at c_133; omega)
                      | (rw [← hd] at h3; omega))
              · refine t_if_eq 154 dX4_readThing_136 (by decide) (by decide) ?_
                refine x_iconst (v := nI 0) dX4_readThing_154 (by decide) ?_
                refine x_zret rfl dX4_readThing_155 (by decide) (by
                  refine ⟨_, rfl, ItX.f (rdT_1 hmT (fun h => ?_)) f1 rdI_eq⟩
                  rcases h with ⟨h, _⟩ | ⟨h1, h2, h3⟩
                  · exact c_84 (hz.mpr h)
                  · have hdv9 := hsg2.val h1 (by omega)
                    have hdi9 := tiN (show (chF n β (pos + 1)) - 48 < 2147483648 by omega)
                    first
                    | (rw [hdv9] at c_133; omega)
                    | (rw [← hd] at h3; omega))
            · refine x_iload_n 1 dX4_readThing_87 rfl rfl ?_
              refine x_iconst (v := nI 2) dX4_readThing_88 (by decide) ?_
              refine y_ic_eq 97 dX4_readThing_89 (by decide) (by omega) (by omega) (fun c_89 => ?_) (fun c_89 => ?_)
              · refine x_iconst (v := nI 0) dX4_readThing_97 (by decide) ?_
                refine x_zret rfl dX4_readThing_98 (by decide) ⟨_, rfl, ItX.f (rdT_1 hmT (fun h => by rcases h with ⟨_, h⟩ | ⟨_, h, _⟩; exact h (by unfold livK; omega); have := hz.mp c_84; omega)) f1 rdI_eq⟩
              · refine x_iload_n 1 dX4_readThing_92 rfl rfl ?_
                refine x_iconst (v := nI 5) dX4_readThing_93 (by decide) ?_
                refine y_ic_ne 99 dX4_readThing_94 (by decide) (by omega) (by omega) (fun c_94 => ?_) (fun c_94 => ?_)
                · refine x_aload_n 2 dX4_readThing_99 rfl rfl ?_
                  refine x_getR fX4_12 dX4_readThing_100 l9 rfl ?_
                  refine x_iload_n 1 dX4_readThing_103 rfl rfl ?_
                  refine x_iconst (v := nI 4) dX4_readThing_104 (by decide) ?_
                  refine x_callVv (as := [_, _]) (rest := []) vX4_93 (c_X1_addThing (Or.inr rfl) hI1.2.1 hI1.2.2.2.1 (by omega) hO4 hk5 (fun h => by have := hbk.mp (hrp.mp h); omega)) dX4_readThing_105 l23 rfl rfl rfl (Nat.le_of_ble_eq_true rfl) (Nat.le_of_ble_eq_true rfl) (Nat.le_of_ble_eq_true rfl) ?_
                  have hA4 : (addS (setI S 9 4 (nI (pos + 1))) 23 (iM I) (iB I) (kdF (chF n β pos)) 4).1 9 4 = nI (pos + 1) := (addS_k (by decide)).trans rdI_eq
                  refine x_aload_n 2 dX4_readThing_108 rfl rfl ?_
                  refine x_dup dX4_readThing_109 rfl ?_
                  refine y_getI fX4_30 dX4_readThing_110 l9 rfl hA4 ?_
                  refine x_iconst (v := nI 1) dX4_readThing_113 (by decide) ?_
                  refine y_iadd dX4_readThing_114 ?_
                  refine x_putI pX4_30 dX4_readThing_115 l9 rfl ?_
                  refine x_iconst (v := nI 1) dX4_readThing_118 (by decide) ?_
                  refine x_zret rfl dX4_readThing_119 (by decide) (by
                    have hc2 := hz.mp c_84
                    have hfT : fineT (chF n β) pos I := Or.inl ⟨hc2, fun h => by unfold livK at h; omega⟩
                    have hpl : plT (chF n β) pos = 4 := if_pos hc2
                    refine ⟨_, rfl, ItX.t (rdT_2 hmT hfT) ⟨addS_2, fun a ha b => (rdI_k (fun q => ha (Or.inl q))).trans ((addS_k (fun q => ha (by unfold FRe; omega))).trans (f1.2 a ha b))⟩ ⟨?_, ?_, ?_, fun p hp4 => ?_⟩⟩
                    · exact (rdI_j (by decide)).trans ((addS_k (by decide)).trans ht1)
                    · rw [rdI_eq]
                    · rw [hpl]
                      exact (addS_I hI1).rd (fun a b h1 h2 => rdI_k (by omega))
                    · rw [hpl, load_addT, if_neg (by omega), Nat.add_zero]
                      exact (rdI_k (by decide)).trans ((addS_k (by decide)).trans ((rdI_k (by decide)).trans (hl p hp4))))
                · refine x_iconst (v := nI 0) dX4_readThing_97 (by decide) ?_
                  refine x_zret rfl dX4_readThing_98 (by decide) ⟨_, rfl, ItX.f (rdT_1 hmT (fun h => by rcases h with ⟨_, h⟩ | ⟨_, h, _⟩; exact h (by unfold livK; omega); have := hz.mp c_84; omega)) f1 rdI_eq⟩
          · refine x_iconst (v := nI 0) dX4_readThing_66 (by decide) ?_
            refine x_zret rfl dX4_readThing_67 (by decide) ⟨_, rfl, ItX.f (rdT_0 (fun h => h.2.2.2 ⟨by unfold bagK; omega, by omega⟩)) Fr.refl hp⟩
      · refine x_iconst (v := nI 0) dX4_readThing_49 (by decide) ?_
        refine x_zret rfl dX4_readThing_50 (by decide) ⟨_, rfl, ItX.f (rdT_0 (fun h => by have h1 := h.2.1; have h2 := h.2.2.1; omega)) Fr.refl hp⟩
  · refine x_iload_n 0 dX4_readThing_13 rfl rfl ?_
    refine x_iconst (v := nI 4) dX4_readThing_14 (by decide) ?_
    refine y_ic_ne 22 dX4_readThing_15 (by decide) (by omega) (by omega) (fun c_15 => ?_) (fun c_15 => ?_)
    · refine x_iconst (v := nI 0) dX4_readThing_22 (by decide) ?_
      refine x_istore_n (lv' := [(2, _), (1, _), (0, _)]) dX4_readThing_23 rfl (by decide) rfl ?_
      refine x_iload_n 1 dX4_readThing_24 rfl rfl ?_
      refine u_if_lt 49 dX4_readThing_25 (by decide) (by rw [tiN (by omega)]; omega) ?_
      refine x_aload_n 2 dX4_readThing_28 rfl rfl ?_
      refine x_getR fX4_12 dX4_readThing_29 l9 rfl ?_
      refine y_getI fX4_84 dX4_readThing_32 l23 rfl hI.2.2.1 ?_
      refine y_if_gt 49 dX4_readThing_35 (by decide) (by omega) (fun c_35 => ?_) (fun c_35 => ?_)
      · refine x_iconst (v := nI 0) dX4_readThing_49 (by decide) ?_
        refine x_zret rfl dX4_readThing_50 (by decide) ⟨_, rfl, ItX.f (rdT_0 (fun h => by have h1 := h.2.1; have h2 := h.2.2.1; omega)) Fr.refl hp⟩
      · refine x_aload_n 2 dX4_readThing_38 rfl rfl ?_
        refine x_getR fX4_12 dX4_readThing_39 l9 rfl ?_
        refine y_getI fX4_87 dX4_readThing_42 l23 rfl hI.2.1 ?_
        refine x_iconst (v := nI 5) dX4_readThing_45 (by decide) ?_
        refine y_ic_ne 51 dX4_readThing_46 (by decide) (by omega) (by omega) (fun c_46 => ?_) (fun c_46 => ?_)
        · refine x_iload_n 0 dX4_readThing_51 rfl rfl ?_
          refine y_if_eq 68 dX4_readThing_52 (by decide) (by omega) (fun c_52 => ?_) (fun c_52 => ?_)
          · refine x_aload_n 2 dX4_readThing_68 rfl rfl ?_
            refine x_dup dX4_readThing_69 rfl ?_
            refine y_getI fX4_30 dX4_readThing_70 l9 rfl hp ?_
            refine x_iconst (v := nI 1) dX4_readThing_73 (by decide) ?_
            refine y_iadd dX4_readThing_74 ?_
            refine x_putI pX4_30 dX4_readThing_75 l9 rfl ?_
            have hx1' : TxX t n β (setI S 9 4 (nI (pos + 1))) := hx.keep (fun a b e => rdI_k (by omega))
            have ht1 : (setI S 9 4 (nI (pos + 1))).1 9 3 = nI t := (rdI_j (by decide)).trans ht
            have f1 : Fr FRe S (setI S 9 4 (nI (pos + 1))) := FRset Fr.refl (Or.inl rfl)
            have hsg2 := sg_C (n := n) (i := pos + 1) hx.2.2.1
            have hI1 : IsX 23 I (setI S 9 4 (nI (pos + 1))) := hI.rd (fun a b h1 h2 => rdI_k (by omega))
            have hz := hsg2.eq (k := 122) (by decide) (by decide)
            have hmT : mayT (chF n β) pos I := ⟨hk9, by omega, by omega, fun h => by have h1 := h.1; have h2 := h.2; unfold bagK at h1; omega⟩
            refine x_aload_n 2 dX4_readThing_78 rfl rfl ?_
            refine x_callVu (as := []) (rest := []) vX4_49 (c_X4_sign hx1' ht1 rdI_eq (by omega)) dX4_readThing_79 l9 rfl rfl rfl (Nat.le_of_ble_eq_true rfl) (Nat.le_of_ble_eq_true rfl) (Nat.le_of_ble_eq_true rfl) ?_
            refine x_bipush (v := nI 122) dX4_readThing_82 (by decide) ?_
            refine x_ic_ne 120 dX4_readThing_84 (by decide) (fun c_84 => ?_) (fun c_84 => ?_)
            · refine x_aload_n 2 dX4_readThing_120 rfl rfl ?_
              refine x_callVu (as := []) (rest := []) vX4_49 (c_X4_sign hx1' ht1 rdI_eq (by omega)) dX4_readThing_121 l9 rfl rfl rfl (Nat.le_of_ble_eq_true rfl) (Nat.le_of_ble_eq_true rfl) (Nat.le_of_ble_eq_true rfl) ?_
              refine x_bipush (v := nI 48) dX4_readThing_124 (by decide) ?_
              refine x_isub dX4_readThing_126 ?_
              refine x_istore_n (lv' := [(3, _), (2, _), (1, _), (0, _)]) dX4_readThing_127 rfl (by decide) rfl ?_
              refine x_aload_n 3 dX4_readThing_128 rfl rfl ?_
              refine x_getR fX4_12 dX4_readThing_129 l9 rfl ?_
              refine x_iload_n 0 dX4_readThing_132 rfl rfl ?_
              refine x_callVb (as := [_]) (rest := []) vX4_97 (c_X1_isPerson (Or.inr rfl) hI1 hO) dX4_readThing_133 l23 rfl rfl rfl (Nat.le_of_ble_eq_true rfl) (Nat.le_of_ble_eq_true rfl) (Nat.le_of_ble_eq_true rfl) (fun c_133 => ?_) (fun c_133 => ?_)
              · refine u_if_eq 154 dX4_readThing_136 (by decide) (by decide) ?_
                have hd48 : 48 ≤ (chF n β (pos + 1)) ∧ (chF n β (pos + 1)) ≤ 57 := (hsg2.fig (lo := 0) (hi := 9) (by decide)).mp ⟨by omega, by omega⟩
                have hdv := hsg2.val hd48.1 hd48.2
                obtain ⟨d, hd⟩ : ∃ d, d = (chF n β (pos + 1)) - 48 := ⟨_, rfl⟩
                rw [← hd] at hdv
                have hdi : (sgC n β (pos + 1) - nI 48).toInt = (d : Int) := by rw [hdv]; exact tiN (by omega)
                have hdP : d < iP I := by omega
                have hld := loadF_le I hO (iS I) d
                have hl1 : (setI S 9 4 (nI (pos + 1))).1 10 d = nI (loadF I (iS I) d) := (rdI_k (by decide)).trans (hl d (by omega))
                rw [hdv]
                refine x_aload_n 3 dX4_readThing_139 rfl rfl ?_
                refine x_getR fX4_18 dX4_readThing_140 l9 rfl ?_
                refine x_iload_n 0 dX4_readThing_143 rfl rfl ?_
                refine y_iald dX4_readThing_144 l10 (by omega) (by decide) (((rdI_k (by decide))).trans hl1) ?_
                refine x_iload_n 2 dX4_readThing_145 rfl rfl ?_
                refine x_callSu (as := [_]) (rest := [_]) sX4_101 (c_X1_weightOf hk5) dX4_readThing_146 rfl rfl (Nat.le_of_ble_eq_true rfl) (Nat.le_of_ble_eq_true rfl) (Nat.le_of_ble_eq_true rfl) ?_
                refine y_iadd dX4_readThing_149 ?_
                refine x_iconst (v := nI 3) dX4_readThing_150 (by decide) ?_
                refine y_ic_le 156 dX4_readThing_151 (by decide) (by omega) (by omega) (fun c_151 => ?_) (fun c_151 => ?_)
                · refine x_aload_n 3 dX4_readThing_156 rfl rfl ?_
                  refine x_getR fX4_18 dX4_readThing_157 l9 rfl ?_
                  refine x_iload_n 0 dX4_readThing_160 rfl rfl ?_
                  refine x_dup2 dX4_readThing_161 rfl rfl ?_
                  refine y_iald dX4_readThing_162 l10 (by omega) (by decide) (((rdI_k (by decide))).trans hl1) ?_
                  refine x_iload_n 2 dX4_readThing_163 rfl rfl ?_
                  refine x_callSu (as := [_]) (rest := [_, _, _]) sX4_101 (c_X1_weightOf hk5) dX4_readThing_164 rfl rfl (Nat.le_of_ble_eq_true rfl) (Nat.le_of_ble_eq_true rfl) (Nat.le_of_ble_eq_true rfl) ?_
                  refine y_iadd dX4_readThing_167 ?_
                  refine y_iast dX4_readThing_168 l10 (by omega) (by decide) ?_
                  have hI2 : IsX 23 I (setI (setI S 9 4 (nI (pos + 1))) 10 d (nI (loadF I (iS I) d + wt (kdF (chF n β pos))))) := hI1.rd (fun a b h1 h2 => rdI_k (by omega))
                  refine x_aload_n 3 dX4_readThing_169 rfl rfl ?_
                  refine x_getR fX4_12 dX4_readThing_170 l9 rfl ?_
                  refine x_iload_n 2 dX4_readThing_173 rfl rfl ?_
                  refine x_iload_n 0 dX4_readThing_174 rfl rfl ?_
                  refine x_callVv (as := [_, _]) (rest := []) vX4_93 (c_X1_addThing (Or.inr rfl) hI2.2.1 hI2.2.2.2.1 (by omega) hO4 hk5 (fun h => by have := hbk.mp (hrp.mp h); omega)) dX4_readThing_175 l23 rfl rfl rfl (Nat.le_of_ble_eq_true rfl) (Nat.le_of_ble_eq_true rfl) (Nat.le_of_ble_eq_true rfl) ?_
                  have hA4 : (addS (setI (setI S 9 4 (nI (pos + 1))) 10 d (nI (loadF I (iS I) d + wt (kdF (chF n β pos))))) 23 (iM I) (iB I) (kdF (chF n β pos)) d).1 9 4 = nI (pos + 1) := (addS_k (by decide)).trans ((rdI_k (by decide)).trans rdI_eq)
                  refine x_aload_n 3 dX4_readThing_178 rfl rfl ?_
                  refine x_dup dX4_readThing_179 rfl ?_
                  refine y_getI fX4_30 dX4_readThing_180 l9 rfl hA4 ?_
                  refine x_iconst (v := nI 1) dX4_readThing_183 (by decide) ?_
                  refine y_iadd dX4_readThing_184 ?_
                  refine x_putI pX4_30 dX4_readThing_185 l9 rfl ?_
                  refine x_iconst (v := nI 1) dX4_readThing_188 (by decide) ?_
                  refine x_zret rfl dX4_readThing_189 (by decide) (by
                    have hfT : fineT (chF n β) pos I := Or.inr ⟨hd48.1, by omega, by rw [← hd]; omega⟩
                    have hpl : plT (chF n β) pos = d := (if_neg (fun e => c_84 (hz.mpr e))).trans hd.symm
                    refine ⟨_, rfl, ItX.t (rdT_2 hmT hfT) ⟨addS_2, fun a ha b => (rdI_k (fun q => ha (Or.inl q))).trans ((addS_k (fun q => ha (by unfold FRe; omega))).trans ((rdI_k (fun q => ha (Or.inr (Or.inl q)))).trans (f1.2 a ha b)))⟩ ⟨?_, ?_, ?_, fun p hp4 => ?_⟩⟩
                    · exact (rdI_j (by decide)).trans ((addS_k (by decide)).trans ((rdI_k (by decide)).trans ht1))
                    · rw [rdI_eq]
                    · rw [hpl]
                      exact (addS_I hI2).rd (fun a b h1 h2 => rdI_k (by omega))
                    · rw [hpl, load_addT, rdI_k (by decide), addS_k (by decide)]
                      by_cases q : p = d
                      · rw [q, rdI_eq, if_pos rfl]
                      · rw [rdI_j q, if_neg (fun e => q e.symm), Nat.add_zero]
                        exact (rdI_k (by decide)).trans (hl p hp4))
                · refine x_iconst (v := nI 0) dX4_readThing_154 (by decide) ?_
                  refine x_zret rfl dX4_readThing_155 (by decide) (by
                    refine ⟨_, rfl, ItX.f (rdT_1 hmT (fun h => ?_)) f1 rdI_eq⟩
                    rcases h with ⟨h, _⟩ | ⟨h1, h2, h3⟩
                    · exact c_84 (hz.mpr h)
                    · have hdv9 := hsg2.val h1 (by omega)
                      have hdi9 := tiN (show (chF n β (pos + 1)) - 48 < 2147483648 by omega)
                      first
                      | (rw [hdv9] at c_133; omega)
                      | (rw [← hd] at h3; omega))
              · refine t_if_eq 154 dX4_readThing_136 (by decide) (by decide) ?_
                refine x_iconst (v := nI 0) dX4_readThing_154 (by decide) ?_
                refine x_zret rfl dX4_readThing_155 (by decide) (by
                  refine ⟨_, rfl, ItX.f (rdT_1 hmT (fun h => ?_)) f1 rdI_eq⟩
                  rcases h with ⟨h, _⟩ | ⟨h1, h2, h3⟩
                  · exact c_84 (hz.mpr h)
                  · have hdv9 := hsg2.val h1 (by omega)
                    have hdi9 := tiN (show (chF n β (pos + 1)) - 48 < 2147483648 by omega)
                    first
                    | (rw [hdv9] at c_133; omega)
                    | (rw [← hd] at h3; omega))
            · refine x_iload_n 1 dX4_readThing_87 rfl rfl ?_
              refine x_iconst (v := nI 2) dX4_readThing_88 (by decide) ?_
              refine y_ic_eq 97 dX4_readThing_89 (by decide) (by omega) (by omega) (fun c_89 => ?_) (fun c_89 => ?_)
              · refine x_iconst (v := nI 0) dX4_readThing_97 (by decide) ?_
                refine x_zret rfl dX4_readThing_98 (by decide) ⟨_, rfl, ItX.f (rdT_1 hmT (fun h => by rcases h with ⟨_, h⟩ | ⟨_, h, _⟩; exact h (by unfold livK; omega); have := hz.mp c_84; omega)) f1 rdI_eq⟩
              · refine x_iload_n 1 dX4_readThing_92 rfl rfl ?_
                refine x_iconst (v := nI 5) dX4_readThing_93 (by decide) ?_
                refine y_ic_ne 99 dX4_readThing_94 (by decide) (by omega) (by omega) (fun c_94 => ?_) (fun c_94 => ?_)
                · refine x_aload_n 2 dX4_readThing_99 rfl rfl ?_
                  refine x_getR fX4_12 dX4_readThing_100 l9 rfl ?_
                  refine x_iload_n 1 dX4_readThing_103 rfl rfl ?_
                  refine x_iconst (v := nI 4) dX4_readThing_104 (by decide) ?_
                  refine x_callVv (as := [_, _]) (rest := []) vX4_93 (c_X1_addThing (Or.inr rfl) hI1.2.1 hI1.2.2.2.1 (by omega) hO4 hk5 (fun h => by have := hbk.mp (hrp.mp h); omega)) dX4_readThing_105 l23 rfl rfl rfl (Nat.le_of_ble_eq_true rfl) (Nat.le_of_ble_eq_true rfl) (Nat.le_of_ble_eq_true rfl) ?_
                  have hA4 : (addS (setI S 9 4 (nI (pos + 1))) 23 (iM I) (iB I) (kdF (chF n β pos)) 4).1 9 4 = nI (pos + 1) := (addS_k (by decide)).trans rdI_eq
                  refine x_aload_n 2 dX4_readThing_108 rfl rfl ?_
                  refine x_dup dX4_readThing_109 rfl ?_
                  refine y_getI fX4_30 dX4_readThing_110 l9 rfl hA4 ?_
                  refine x_iconst (v := nI 1) dX4_readThing_113 (by decide) ?_
                  refine y_iadd dX4_readThing_114 ?_
                  refine x_putI pX4_30 dX4_readThing_115 l9 rfl ?_
                  refine x_iconst (v := nI 1) dX4_readThing_118 (by decide) ?_
                  refine x_zret rfl dX4_readThing_119 (by decide) (by
                    have hc2 := hz.mp c_84
                    have hfT : fineT (chF n β) pos I := Or.inl ⟨hc2, fun h => by unfold livK at h; omega⟩
                    have hpl : plT (chF n β) pos = 4 := if_pos hc2
                    refine ⟨_, rfl, ItX.t (rdT_2 hmT hfT) ⟨addS_2, fun a ha b => (rdI_k (fun q => ha (Or.inl q))).trans ((addS_k (fun q => ha (by unfold FRe; omega))).trans (f1.2 a ha b))⟩ ⟨?_, ?_, ?_, fun p hp4 => ?_⟩⟩
                    · exact (rdI_j (by decide)).trans ((addS_k (by decide)).trans ht1)
                    · rw [rdI_eq]
                    · rw [hpl]
                      exact (addS_I hI1).rd (fun a b h1 h2 => rdI_k (by omega))
                    · rw [hpl, load_addT, if_neg (by omega), Nat.add_zero]
                      exact (rdI_k (by decide)).trans ((addS_k (by decide)).trans ((rdI_k (by decide)).trans (hl p hp4))))
                · refine x_iconst (v := nI 0) dX4_readThing_97 (by decide) ?_
                  refine x_zret rfl dX4_readThing_98 (by decide) ⟨_, rfl, ItX.f (rdT_1 hmT (fun h => by rcases h with ⟨_, h⟩ | ⟨_, h, _⟩; exact h (by unfold livK; omega); have := hz.mp c_84; omega)) f1 rdI_eq⟩
          · refine x_aload_n 2 dX4_readThing_55 rfl rfl ?_
            refine x_getR fX4_12 dX4_readThing_56 l9 rfl ?_
            refine y_getI fX4_90 dX4_readThing_59 l23 rfl hI.2.2.2.1 ?_
            refine x_iconst (v := nI 2) dX4_readThing_62 (by decide) ?_
            refine y_ic_ne 68 dX4_readThing_63 (by decide) (by omega) (by omega) (fun c_63 => ?_) (fun c_63 => ?_)
            · refine x_aload_n 2 dX4_readThing_68 rfl rfl ?_
              refine x_dup dX4_readThing_69 rfl ?_
              refine y_getI fX4_30 dX4_readThing_70 l9 rfl hp ?_
              refine x_iconst (v := nI 1) dX4_readThing_73 (by decide) ?_
              refine y_iadd dX4_readThing_74 ?_
              refine x_putI pX4_30 dX4_readThing_75 l9 rfl ?_
              have hx1' : TxX t n β (setI S 9 4 (nI (pos + 1))) := hx.keep (fun a b e => rdI_k (by omega))
              have ht1 : (setI S 9 4 (nI (pos + 1))).1 9 3 = nI t := (rdI_j (by decide)).trans ht
              have f1 : Fr FRe S (setI S 9 4 (nI (pos + 1))) := FRset Fr.refl (Or.inl rfl)
              have hsg2 := sg_C (n := n) (i := pos + 1) hx.2.2.1
              have hI1 : IsX 23 I (setI S 9 4 (nI (pos + 1))) := hI.rd (fun a b h1 h2 => rdI_k (by omega))
              have hz := hsg2.eq (k := 122) (by decide) (by decide)
              have hmT : mayT (chF n β) pos I := ⟨hk9, by omega, by omega, fun h => by have h1 := h.1; have h2 := h.2; unfold bagK at h1; omega⟩
              refine x_aload_n 2 dX4_readThing_78 rfl rfl ?_
              refine x_callVu (as := []) (rest := []) vX4_49 (c_X4_sign hx1' ht1 rdI_eq (by omega)) dX4_readThing_79 l9 rfl rfl rfl (Nat.le_of_ble_eq_true rfl) (Nat.le_of_ble_eq_true rfl) (Nat.le_of_ble_eq_true rfl) ?_
              refine x_bipush (v := nI 122) dX4_readThing_82 (by decide) ?_
              refine x_ic_ne 120 dX4_readThing_84 (by decide) (fun c_84 => ?_) (fun c_84 => ?_)
              · refine x_aload_n 2 dX4_readThing_120 rfl rfl ?_
                refine x_callVu (as := []) (rest := []) vX4_49 (c_X4_sign hx1' ht1 rdI_eq (by omega)) dX4_readThing_121 l9 rfl rfl rfl (Nat.le_of_ble_eq_true rfl) (Nat.le_of_ble_eq_true rfl) (Nat.le_of_ble_eq_true rfl) ?_
                refine x_bipush (v := nI 48) dX4_readThing_124 (by decide) ?_
                refine x_isub dX4_readThing_126 ?_
                refine x_istore_n (lv' := [(3, _), (2, _), (1, _), (0, _)]) dX4_readThing_127 rfl (by decide) rfl ?_
                refine x_aload_n 3 dX4_readThing_128 rfl rfl ?_
                refine x_getR fX4_12 dX4_readThing_129 l9 rfl ?_
                refine x_iload_n 0 dX4_readThing_132 rfl rfl ?_
                refine x_callVb (as := [_]) (rest := []) vX4_97 (c_X1_isPerson (Or.inr rfl) hI1 hO) dX4_readThing_133 l23 rfl rfl rfl (Nat.le_of_ble_eq_true rfl) (Nat.le_of_ble_eq_true rfl) (Nat.le_of_ble_eq_true rfl) (fun c_133 => ?_) (fun c_133 => ?_)
                · refine u_if_eq 154 dX4_readThing_136 (by decide) (by decide) ?_
                  have hd48 : 48 ≤ (chF n β (pos + 1)) ∧ (chF n β (pos + 1)) ≤ 57 := (hsg2.fig (lo := 0) (hi := 9) (by decide)).mp ⟨by omega, by omega⟩
                  have hdv := hsg2.val hd48.1 hd48.2
                  obtain ⟨d, hd⟩ : ∃ d, d = (chF n β (pos + 1)) - 48 := ⟨_, rfl⟩
                  rw [← hd] at hdv
                  have hdi : (sgC n β (pos + 1) - nI 48).toInt = (d : Int) := by rw [hdv]; exact tiN (by omega)
                  have hdP : d < iP I := by omega
                  have hld := loadF_le I hO (iS I) d
                  have hl1 : (setI S 9 4 (nI (pos + 1))).1 10 d = nI (loadF I (iS I) d) := (rdI_k (by decide)).trans (hl d (by omega))
                  rw [hdv]
                  refine x_aload_n 3 dX4_readThing_139 rfl rfl ?_
                  refine x_getR fX4_18 dX4_readThing_140 l9 rfl ?_
                  refine x_iload_n 0 dX4_readThing_143 rfl rfl ?_
                  refine y_iald dX4_readThing_144 l10 (by omega) (by decide) (((rdI_k (by decide))).trans hl1) ?_
                  refine x_iload_n 2 dX4_readThing_145 rfl rfl ?_
                  refine x_callSu (as := [_]) (rest := [_]) sX4_101 (c_X1_weightOf hk5) dX4_readThing_146 rfl rfl (Nat.le_of_ble_eq_true rfl) (Nat.le_of_ble_eq_true rfl) (Nat.le_of_ble_eq_true rfl) ?_
                  refine y_iadd dX4_readThing_149 ?_
                  refine x_iconst (v := nI 3) dX4_readThing_150 (by decide) ?_
                  refine y_ic_le 156 dX4_readThing_151 (by decide) (by omega) (by omega) (fun c_151 => ?_) (fun c_151 => ?_)
                  · refine x_aload_n 3 dX4_readThing_156 rfl rfl ?_
                    refine x_getR fX4_18 dX4_readThing_157 l9 rfl ?_
                    refine x_iload_n 0 dX4_readThing_160 rfl rfl ?_
                    refine x_dup2 dX4_readThing_161 rfl rfl ?_
                    refine y_iald dX4_readThing_162 l10 (by omega) (by decide) (((rdI_k (by decide))).trans hl1) ?_
                    refine x_iload_n 2 dX4_readThing_163 rfl rfl ?_
                    refine x_callSu (as := [_]) (rest := [_, _, _]) sX4_101 (c_X1_weightOf hk5) dX4_readThing_164 rfl rfl (Nat.le_of_ble_eq_true rfl) (Nat.le_of_ble_eq_true rfl) (Nat.le_of_ble_eq_true rfl) ?_
                    refine y_iadd dX4_readThing_167 ?_
                    refine y_iast dX4_readThing_168 l10 (by omega) (by decide) ?_
                    have hI2 : IsX 23 I (setI (setI S 9 4 (nI (pos + 1))) 10 d (nI (loadF I (iS I) d + wt (kdF (chF n β pos))))) := hI1.rd (fun a b h1 h2 => rdI_k (by omega))
                    refine x_aload_n 3 dX4_readThing_169 rfl rfl ?_
                    refine x_getR fX4_12 dX4_readThing_170 l9 rfl ?_
                    refine x_iload_n 2 dX4_readThing_173 rfl rfl ?_
                    refine x_iload_n 0 dX4_readThing_174 rfl rfl ?_
                    refine x_callVv (as := [_, _]) (rest := []) vX4_93 (c_X1_addThing (Or.inr rfl) hI2.2.1 hI2.2.2.2.1 (by omega) hO4 hk5 (fun h => by have := hbk.mp (hrp.mp h); omega)) dX4_readThing_175 l23 rfl rfl rfl (Nat.le_of_ble_eq_true rfl) (Nat.le_of_ble_eq_true rfl) (Nat.le_of_ble_eq_true rfl) ?_
                    have hA4 : (addS (setI (setI S 9 4 (nI (pos + 1))) 10 d (nI (loadF I (iS I) d + wt (kdF (chF n β pos))))) 23 (iM I) (iB I) (kdF (chF n β pos)) d).1 9 4 = nI (pos + 1) := (addS_k (by decide)).trans ((rdI_k (by decide)).trans rdI_eq)
                    refine x_aload_n 3 dX4_readThing_178 rfl rfl ?_
                    refine x_dup dX4_readThing_179 rfl ?_
                    refine y_getI fX4_30 dX4_readThing_180 l9 rfl hA4 ?_
                    refine x_iconst (v := nI 1) dX4_readThing_183 (by decide) ?_
                    refine y_iadd dX4_readThing_184 ?_
                    refine x_putI pX4_30 dX4_readThing_185 l9 rfl ?_
                    refine x_iconst (v := nI 1) dX4_readThing_188 (by decide) ?_
                    refine x_zret rfl dX4_readThing_189 (by decide) (by
                      have hfT : fineT (chF n β) pos I := Or.inr ⟨hd48.1, by omega, by rw [← hd]; omega⟩
                      have hpl : plT (chF n β) pos = d := (if_neg (fun e => c_84 (hz.mpr e))).trans hd.symm
                      refine ⟨_, rfl, ItX.t (rdT_2 hmT hfT) ⟨addS_2, fun a ha b => (rdI_k (fun q => ha (Or.inl q))).trans ((addS_k (fun q => ha (by unfold FRe; omega))).trans ((rdI_k (fun q => ha (Or.inr (Or.inl q)))).trans (f1.2 a ha b)))⟩ ⟨?_, ?_, ?_, fun p hp4 => ?_⟩⟩
                      · exact (rdI_j (by decide)).trans ((addS_k (by decide)).trans ((rdI_k (by decide)).trans ht1))
                      · rw [rdI_eq]
                      · rw [hpl]
                        exact (addS_I hI2).rd (fun a b h1 h2 => rdI_k (by omega))
                      · rw [hpl, load_addT, rdI_k (by decide), addS_k (by decide)]
                        by_cases q : p = d
                        · rw [q, rdI_eq, if_pos rfl]
                        · rw [rdI_j q, if_neg (fun e => q e.symm), Nat.add_zero]
                          exact (rdI_k (by decide)).trans (hl p hp4))
                  · refine x_iconst (v := nI 0) dX4_readThing_154 (by decide) ?_
                    refine x_zret rfl dX4_readThing_155 (by decide) (by
                      refine ⟨_, rfl, ItX.f (rdT_1 hmT (fun h => ?_)) f1 rdI_eq⟩
                      rcases h with ⟨h, _⟩ | ⟨h1, h2, h3⟩
                      · exact c_84 (hz.mpr h)
                      · have hdv9 := hsg2.val h1 (by omega)
                        have hdi9 := tiN (show (chF n β (pos + 1)) - 48 < 2147483648 by omega)
                        first
                        | (rw [hdv9] at c_133; omega)
                        | (rw [← hd] at h3; omega))
                · refine t_if_eq 154 dX4_readThing_136 (by decide) (by decide) ?_
                  refine x_iconst (v := nI 0) dX4_readThing_154 (by decide) ?_
                  refine x_zret rfl dX4_readThing_155 (by decide) (by
                    refine ⟨_, rfl, ItX.f (rdT_1 hmT (fun h => ?_)) f1 rdI_eq⟩
                    rcases h with ⟨h, _⟩ | ⟨h1, h2, h3⟩
                    · exact c_84 (hz.mpr h)
                    · have hdv9 := hsg2.val h1 (by omega)
                      have hdi9 := tiN (show (chF n β (pos + 1)) - 48 < 2147483648 by omega)
                      first
                      | (rw [hdv9] at c_133; omega)
                      | (rw [← hd] at h3; omega))
              · refine x_iload_n 1 dX4_readThing_87 rfl rfl ?_
                refine x_iconst (v := nI 2) dX4_readThing_88 (by decide) ?_
                refine y_ic_eq 97 dX4_readThing_89 (by decide) (by omega) (by omega) (fun c_89 => ?_) (fun c_89 => ?_)
                · refine x_iconst (v := nI 0) dX4_readThing_97 (by decide) ?_
                  refine x_zret rfl dX4_readThing_98 (by decide) ⟨_, rfl, ItX.f (rdT_1 hmT (fun h => by rcases h with ⟨_, h⟩ | ⟨_, h, _⟩; exact h (by unfold livK; omega); have := hz.mp c_84; omega)) f1 rdI_eq⟩
                · refine x_iload_n 1 dX4_readThing_92 rfl rfl ?_
                  refine x_iconst (v := nI 5) dX4_readThing_93 (by decide) ?_
                  refine y_ic_ne 99 dX4_readThing_94 (by decide) (by omega) (by omega) (fun c_94 => ?_) (fun c_94 => ?_)
                  · refine x_aload_n 2 dX4_readThing_99 rfl rfl ?_
                    refine x_getR fX4_12 dX4_readThing_100 l9 rfl ?_
                    refine x_iload_n 1 dX4_readThing_103 rfl rfl ?_
                    refine x_iconst (v := nI 4) dX4_readThing_104 (by decide) ?_
                    refine x_callVv (as := [_, _]) (rest := []) vX4_93 (c_X1_addThing (Or.inr rfl) hI1.2.1 hI1.2.2.2.1 (by omega) hO4 hk5 (fun h => by have := hbk.mp (hrp.mp h); omega)) dX4_readThing_105 l23 rfl rfl rfl (Nat.le_of_ble_eq_true rfl) (Nat.le_of_ble_eq_true rfl) (Nat.le_of_ble_eq_true rfl) ?_
                    have hA4 : (addS (setI S 9 4 (nI (pos + 1))) 23 (iM I) (iB I) (kdF (chF n β pos)) 4).1 9 4 = nI (pos + 1) := (addS_k (by decide)).trans rdI_eq
                    refine x_aload_n 2 dX4_readThing_108 rfl rfl ?_
                    refine x_dup dX4_readThing_109 rfl ?_
                    refine y_getI fX4_30 dX4_readThing_110 l9 rfl hA4 ?_
                    refine x_iconst (v := nI 1) dX4_readThing_113 (by decide) ?_
                    refine y_iadd dX4_readThing_114 ?_
                    refine x_putI pX4_30 dX4_readThing_115 l9 rfl ?_
                    refine x_iconst (v := nI 1) dX4_readThing_118 (by decide) ?_
                    refine x_zret rfl dX4_readThing_119 (by decide) (by
                      have hc2 := hz.mp c_84
                      have hfT : fineT (chF n β) pos I := Or.inl ⟨hc2, fun h => by unfold livK at h; omega⟩
                      have hpl : plT (chF n β) pos = 4 := if_pos hc2
                      refine ⟨_, rfl, ItX.t (rdT_2 hmT hfT) ⟨addS_2, fun a ha b => (rdI_k (fun q => ha (Or.inl q))).trans ((addS_k (fun q => ha (by unfold FRe; omega))).trans (f1.2 a ha b))⟩ ⟨?_, ?_, ?_, fun p hp4 => ?_⟩⟩
                      · exact (rdI_j (by decide)).trans ((addS_k (by decide)).trans ht1)
                      · rw [rdI_eq]
                      · rw [hpl]
                        exact (addS_I hI1).rd (fun a b h1 h2 => rdI_k (by omega))
                      · rw [hpl, load_addT, if_neg (by omega), Nat.add_zero]
                        exact (rdI_k (by decide)).trans ((addS_k (by decide)).trans ((rdI_k (by decide)).trans (hl p hp4))))
                  · refine x_iconst (v := nI 0) dX4_readThing_97 (by decide) ?_
                    refine x_zret rfl dX4_readThing_98 (by decide) ⟨_, rfl, ItX.f (rdT_1 hmT (fun h => by rcases h with ⟨_, h⟩ | ⟨_, h, _⟩; exact h (by unfold livK; omega); have := hz.mp c_84; omega)) f1 rdI_eq⟩
            · refine x_iconst (v := nI 0) dX4_readThing_66 (by decide) ?_
              refine x_zret rfl dX4_readThing_67 (by decide) ⟨_, rfl, ItX.f (rdT_0 (fun h => h.2.2.2 ⟨by unfold bagK; omega, by omega⟩)) Fr.refl hp⟩
        · refine x_iconst (v := nI 0) dX4_readThing_49 (by decide) ?_
          refine x_zret rfl dX4_readThing_50 (by decide) ⟨_, rfl, ItX.f (rdT_0 (fun h => by have h1 := h.2.1; have h2 := h.2.2.1; omega)) Fr.refl hp⟩
    · refine x_iconst (v := nI 1) dX4_readThing_18 (by decide) ?_
      refine x_goto 23 dX4_readThing_19 (by decide) ?_
      refine x_istore_n (lv' := [(2, _), (1, _), (0, _)]) dX4_readThing_23 rfl (by decide) rfl ?_
      refine x_iload_n 1 dX4_readThing_24 rfl rfl ?_
      refine u_if_lt 49 dX4_readThing_25 (by decide) (by rw [tiN (by omega)]; omega) ?_
      refine x_aload_n 2 dX4_readThing_28 rfl rfl ?_
      refine x_getR fX4_12 dX4_readThing_29 l9 rfl ?_
      refine y_getI fX4_84 dX4_readThing_32 l23 rfl hI.2.2.1 ?_
      refine y_if_gt 49 dX4_readThing_35 (by decide) (by omega) (fun c_35 => ?_) (fun c_35 => ?_)
      · refine x_iconst (v := nI 0) dX4_readThing_49 (by decide) ?_
        refine x_zret rfl dX4_readThing_50 (by decide) ⟨_, rfl, ItX.f (rdT_0 (fun h => by have h1 := h.2.1; have h2 := h.2.2.1; omega)) Fr.refl hp⟩
      · refine x_aload_n 2 dX4_readThing_38 rfl rfl ?_
        refine x_getR fX4_12 dX4_readThing_39 l9 rfl ?_
        refine y_getI fX4_87 dX4_readThing_42 l23 rfl hI.2.1 ?_
        refine x_iconst (v := nI 5) dX4_readThing_45 (by decide) ?_
        refine y_ic_ne 51 dX4_readThing_46 (by decide) (by omega) (by omega) (fun c_46 => ?_) (fun c_46 => ?_)
        · refine x_iload_n 0 dX4_readThing_51 rfl rfl ?_
          refine y_if_eq 68 dX4_readThing_52 (by decide) (by omega) (fun c_52 => ?_) (fun c_52 => ?_)
          · refine x_aload_n 2 dX4_readThing_68 rfl rfl ?_
            refine x_dup dX4_readThing_69 rfl ?_
            refine y_getI fX4_30 dX4_readThing_70 l9 rfl hp ?_
            refine x_iconst (v := nI 1) dX4_readThing_73 (by decide) ?_
            refine y_iadd dX4_readThing_74 ?_
            refine x_putI pX4_30 dX4_readThing_75 l9 rfl ?_
            have hx1' : TxX t n β (setI S 9 4 (nI (pos + 1))) := hx.keep (fun a b e => rdI_k (by omega))
            have ht1 : (setI S 9 4 (nI (pos + 1))).1 9 3 = nI t := (rdI_j (by decide)).trans ht
            have f1 : Fr FRe S (setI S 9 4 (nI (pos + 1))) := FRset Fr.refl (Or.inl rfl)
            have hsg2 := sg_C (n := n) (i := pos + 1) hx.2.2.1
            have hI1 : IsX 23 I (setI S 9 4 (nI (pos + 1))) := hI.rd (fun a b h1 h2 => rdI_k (by omega))
            have hz := hsg2.eq (k := 122) (by decide) (by decide)
            have hmT : mayT (chF n β) pos I := ⟨hk9, by omega, by omega, fun h => by have h1 := h.1; have h2 := h.2; unfold bagK at h1; omega⟩
            refine x_aload_n 2 dX4_readThing_78 rfl rfl ?_
            refine x_callVu (as := []) (rest := []) vX4_49 (c_X4_sign hx1' ht1 rdI_eq (by omega)) dX4_readThing_79 l9 rfl rfl rfl (Nat.le_of_ble_eq_true rfl) (Nat.le_of_ble_eq_true rfl) (Nat.le_of_ble_eq_true rfl) ?_
            refine x_bipush (v := nI 122) dX4_readThing_82 (by decide) ?_
            refine x_ic_ne 120 dX4_readThing_84 (by decide) (fun c_84 => ?_) (fun c_84 => ?_)
            · refine x_aload_n 2 dX4_readThing_120 rfl rfl ?_
              refine x_callVu (as := []) (rest := []) vX4_49 (c_X4_sign hx1' ht1 rdI_eq (by omega)) dX4_readThing_121 l9 rfl rfl rfl (Nat.le_of_ble_eq_true rfl) (Nat.le_of_ble_eq_true rfl) (Nat.le_of_ble_eq_true rfl) ?_
              refine x_bipush (v := nI 48) dX4_readThing_124 (by decide) ?_
              refine x_isub dX4_readThing_126 ?_
              refine x_istore_n (lv' := [(3, _), (2, _), (1, _), (0, _)]) dX4_readThing_127 rfl (by decide) rfl ?_
              refine x_aload_n 3 dX4_readThing_128 rfl rfl ?_
              refine x_getR fX4_12 dX4_readThing_129 l9 rfl ?_
              refine x_iload_n 0 dX4_readThing_132 rfl rfl ?_
              refine x_callVb (as := [_]) (rest := []) vX4_97 (c_X1_isPerson (Or.inr rfl) hI1 hO) dX4_readThing_133 l23 rfl rfl rfl (Nat.le_of_ble_eq_true rfl) (Nat.le_of_ble_eq_true rfl) (Nat.le_of_ble_eq_true rfl) (fun c_133 => ?_) (fun c_133 => ?_)
              · refine u_if_eq 154 dX4_readThing_136 (by decide) (by decide) ?_
                have hd48 : 48 ≤ (chF n β (pos + 1)) ∧ (chF n β (pos + 1)) ≤ 57 := (hsg2.fig (lo := 0) (hi := 9) (by decide)).mp ⟨by omega, by omega⟩
                have hdv := hsg2.val hd48.1 hd48.2
                obtain ⟨d, hd⟩ : ∃ d, d = (chF n β (pos + 1)) - 48 := ⟨_, rfl⟩
                rw [← hd] at hdv
                have hdi : (sgC n β (pos + 1) - nI 48).toInt = (d : Int) := by rw [hdv]; exact tiN (by omega)
                have hdP : d < iP I := by omega
                have hld := loadF_le I hO (iS I) d
                have hl1 : (setI S 9 4 (nI (pos + 1))).1 10 d = nI (loadF I (iS I) d) := (rdI_k (by decide)).trans (hl d (by omega))
                rw [hdv]
                refine x_aload_n 3 dX4_readThing_139 rfl rfl ?_
                refine x_getR fX4_18 dX4_readThing_140 l9 rfl ?_
                refine x_iload_n 0 dX4_readThing_143 rfl rfl ?_
                refine y_iald dX4_readThing_144 l10 (by omega) (by decide) (((rdI_k (by decide))).trans hl1) ?_
                refine x_iload_n 2 dX4_readThing_145 rfl rfl ?_
                refine x_callSu (as := [_]) (rest := [_]) sX4_101 (c_X1_weightOf hk5) dX4_readThing_146 rfl rfl (Nat.le_of_ble_eq_true rfl) (Nat.le_of_ble_eq_true rfl) (Nat.le_of_ble_eq_true rfl) ?_
                refine y_iadd dX4_readThing_149 ?_
                refine x_iconst (v := nI 3) dX4_readThing_150 (by decide) ?_
                refine y_ic_le 156 dX4_readThing_151 (by decide) (by omega) (by omega) (fun c_151 => ?_) (fun c_151 => ?_)
                · refine x_aload_n 3 dX4_readThing_156 rfl rfl ?_
                  refine x_getR fX4_18 dX4_readThing_157 l9 rfl ?_
                  refine x_iload_n 0 dX4_readThing_160 rfl rfl ?_
                  refine x_dup2 dX4_readThing_161 rfl rfl ?_
                  refine y_iald dX4_readThing_162 l10 (by omega) (by decide) (((rdI_k (by decide))).trans hl1) ?_
                  refine x_iload_n 2 dX4_readThing_163 rfl rfl ?_
                  refine x_callSu (as := [_]) (rest := [_, _, _]) sX4_101 (c_X1_weightOf hk5) dX4_readThing_164 rfl rfl (Nat.le_of_ble_eq_true rfl) (Nat.le_of_ble_eq_true rfl) (Nat.le_of_ble_eq_true rfl) ?_
                  refine y_iadd dX4_readThing_167 ?_
                  refine y_iast dX4_readThing_168 l10 (by omega) (by decide) ?_
                  have hI2 : IsX 23 I (setI (setI S 9 4 (nI (pos + 1))) 10 d (nI (loadF I (iS I) d + wt (kdF (chF n β pos))))) := hI1.rd (fun a b h1 h2 => rdI_k (by omega))
                  refine x_aload_n 3 dX4_readThing_169 rfl rfl ?_
                  refine x_getR fX4_12 dX4_readThing_170 l9 rfl ?_
                  refine x_iload_n 2 dX4_readThing_173 rfl rfl ?_
                  refine x_iload_n 0 dX4_readThing_174 rfl rfl ?_
                  refine x_callVv (as := [_, _]) (rest := []) vX4_93 (c_X1_addThing (Or.inr rfl) hI2.2.1 hI2.2.2.2.1 (by omega) hO4 hk5 (fun h => by have := hbk.mp (hrp.mp h); omega)) dX4_readThing_175 l23 rfl rfl rfl (Nat.le_of_ble_eq_true rfl) (Nat.le_of_ble_eq_true rfl) (Nat.le_of_ble_eq_true rfl) ?_
                  have hA4 : (addS (setI (setI S 9 4 (nI (pos + 1))) 10 d (nI (loadF I (iS I) d + wt (kdF (chF n β pos))))) 23 (iM I) (iB I) (kdF (chF n β pos)) d).1 9 4 = nI (pos + 1) := (addS_k (by decide)).trans ((rdI_k (by decide)).trans rdI_eq)
                  refine x_aload_n 3 dX4_readThing_178 rfl rfl ?_
                  refine x_dup dX4_readThing_179 rfl ?_
                  refine y_getI fX4_30 dX4_readThing_180 l9 rfl hA4 ?_
                  refine x_iconst (v := nI 1) dX4_readThing_183 (by decide) ?_
                  refine y_iadd dX4_readThing_184 ?_
                  refine x_putI pX4_30 dX4_readThing_185 l9 rfl ?_
                  refine x_iconst (v := nI 1) dX4_readThing_188 (by decide) ?_
                  refine x_zret rfl dX4_readThing_189 (by decide) (by
                    have hfT : fineT (chF n β) pos I := Or.inr ⟨hd48.1, by omega, by rw [← hd]; omega⟩
                    have hpl : plT (chF n β) pos = d := (if_neg (fun e => c_84 (hz.mpr e))).trans hd.symm
                    refine ⟨_, rfl, ItX.t (rdT_2 hmT hfT) ⟨addS_2, fun a ha b => (rdI_k (fun q => ha (Or.inl q))).trans ((addS_k (fun q => ha (by unfold FRe; omega))).trans ((rdI_k (fun q => ha (Or.inr (Or.inl q)))).trans (f1.2 a ha b)))⟩ ⟨?_, ?_, ?_, fun p hp4 => ?_⟩⟩
                    · exact (rdI_j (by decide)).trans ((addS_k (by decide)).trans ((rdI_k (by decide)).trans ht1))
                    · rw [rdI_eq]
                    · rw [hpl]
                      exact (addS_I hI2).rd (fun a b h1 h2 => rdI_k (by omega))
                    · rw [hpl, load_addT, rdI_k (by decide), addS_k (by decide)]
                      by_cases q : p = d
                      · rw [q, rdI_eq, if_pos rfl]
                      · rw [rdI_j q, if_neg (fun e => q e.symm), Nat.add_zero]
                        exact (rdI_k (by decide)).trans (hl p hp4))
                · refine x_iconst (v := nI 0) dX4_readThing_154 (by decide) ?_
                  refine x_zret rfl dX4_readThing_155 (by decide) (by
                    refine ⟨_, rfl, ItX.f (rdT_1 hmT (fun h => ?_)) f1 rdI_eq⟩
                    rcases h with ⟨h, _⟩ | ⟨h1, h2, h3⟩
                    · exact c_84 (hz.mpr h)
                    · have hdv9 := hsg2.val h1 (by omega)
                      have hdi9 := tiN (show (chF n β (pos + 1)) - 48 < 2147483648 by omega)
                      first
                      | (rw [hdv9] at c_133; omega)
                      | (rw [← hd] at h3; omega))
              · refine t_if_eq 154 dX4_readThing_136 (by decide) (by decide) ?_
                refine x_iconst (v := nI 0) dX4_readThing_154 (by decide) ?_
                refine x_zret rfl dX4_readThing_155 (by decide) (by
                  refine ⟨_, rfl, ItX.f (rdT_1 hmT (fun h => ?_)) f1 rdI_eq⟩
                  rcases h with ⟨h, _⟩ | ⟨h1, h2, h3⟩
                  · exact c_84 (hz.mpr h)
                  · have hdv9 := hsg2.val h1 (by omega)
                    have hdi9 := tiN (show (chF n β (pos + 1)) - 48 < 2147483648 by omega)
                    first
                    | (rw [hdv9] at c_133; omega)
                    | (rw [← hd] at h3; omega))
            · refine x_iload_n 1 dX4_readThing_87 rfl rfl ?_
              refine x_iconst (v := nI 2) dX4_readThing_88 (by decide) ?_
              refine y_ic_eq 97 dX4_readThing_89 (by decide) (by omega) (by omega) (fun c_89 => ?_) (fun c_89 => ?_)
              · refine x_iconst (v := nI 0) dX4_readThing_97 (by decide) ?_
                refine x_zret rfl dX4_readThing_98 (by decide) ⟨_, rfl, ItX.f (rdT_1 hmT (fun h => by rcases h with ⟨_, h⟩ | ⟨_, h, _⟩; exact h (by unfold livK; omega); have := hz.mp c_84; omega)) f1 rdI_eq⟩
              · refine x_iload_n 1 dX4_readThing_92 rfl rfl ?_
                refine x_iconst (v := nI 5) dX4_readThing_93 (by decide) ?_
                refine y_ic_ne 99 dX4_readThing_94 (by decide) (by omega) (by omega) (fun c_94 => ?_) (fun c_94 => ?_)
                · refine x_aload_n 2 dX4_readThing_99 rfl rfl ?_
                  refine x_getR fX4_12 dX4_readThing_100 l9 rfl ?_
                  refine x_iload_n 1 dX4_readThing_103 rfl rfl ?_
                  refine x_iconst (v := nI 4) dX4_readThing_104 (by decide) ?_
                  refine x_callVv (as := [_, _]) (rest := []) vX4_93 (c_X1_addThing (Or.inr rfl) hI1.2.1 hI1.2.2.2.1 (by omega) hO4 hk5 (fun h => by have := hbk.mp (hrp.mp h); omega)) dX4_readThing_105 l23 rfl rfl rfl (Nat.le_of_ble_eq_true rfl) (Nat.le_of_ble_eq_true rfl) (Nat.le_of_ble_eq_true rfl) ?_
                  have hA4 : (addS (setI S 9 4 (nI (pos + 1))) 23 (iM I) (iB I) (kdF (chF n β pos)) 4).1 9 4 = nI (pos + 1) := (addS_k (by decide)).trans rdI_eq
                  refine x_aload_n 2 dX4_readThing_108 rfl rfl ?_
                  refine x_dup dX4_readThing_109 rfl ?_
                  refine y_getI fX4_30 dX4_readThing_110 l9 rfl hA4 ?_
                  refine x_iconst (v := nI 1) dX4_readThing_113 (by decide) ?_
                  refine y_iadd dX4_readThing_114 ?_
                  refine x_putI pX4_30 dX4_readThing_115 l9 rfl ?_
                  refine x_iconst (v := nI 1) dX4_readThing_118 (by decide) ?_
                  refine x_zret rfl dX4_readThing_119 (by decide) (by
                    have hc2 := hz.mp c_84
                    have hfT : fineT (chF n β) pos I := Or.inl ⟨hc2, fun h => by unfold livK at h; omega⟩
                    have hpl : plT (chF n β) pos = 4 := if_pos hc2
                    refine ⟨_, rfl, ItX.t (rdT_2 hmT hfT) ⟨addS_2, fun a ha b => (rdI_k (fun q => ha (Or.inl q))).trans ((addS_k (fun q => ha (by unfold FRe; omega))).trans (f1.2 a ha b))⟩ ⟨?_, ?_, ?_, fun p hp4 => ?_⟩⟩
                    · exact (rdI_j (by decide)).trans ((addS_k (by decide)).trans ht1)
                    · rw [rdI_eq]
                    · rw [hpl]
                      exact (addS_I hI1).rd (fun a b h1 h2 => rdI_k (by omega))
                    · rw [hpl, load_addT, if_neg (by omega), Nat.add_zero]
                      exact (rdI_k (by decide)).trans ((addS_k (by decide)).trans ((rdI_k (by decide)).trans (hl p hp4))))
                · refine x_iconst (v := nI 0) dX4_readThing_97 (by decide) ?_
                  refine x_zret rfl dX4_readThing_98 (by decide) ⟨_, rfl, ItX.f (rdT_1 hmT (fun h => by rcases h with ⟨_, h⟩ | ⟨_, h, _⟩; exact h (by unfold livK; omega); have := hz.mp c_84; omega)) f1 rdI_eq⟩
          · refine x_aload_n 2 dX4_readThing_55 rfl rfl ?_
            refine x_getR fX4_12 dX4_readThing_56 l9 rfl ?_
            refine y_getI fX4_90 dX4_readThing_59 l23 rfl hI.2.2.2.1 ?_
            refine x_iconst (v := nI 2) dX4_readThing_62 (by decide) ?_
            refine y_ic_ne 68 dX4_readThing_63 (by decide) (by omega) (by omega) (fun c_63 => ?_) (fun c_63 => ?_)
            · refine x_aload_n 2 dX4_readThing_68 rfl rfl ?_
              refine x_dup dX4_readThing_69 rfl ?_
              refine y_getI fX4_30 dX4_readThing_70 l9 rfl hp ?_
              refine x_iconst (v := nI 1) dX4_readThing_73 (by decide) ?_
              refine y_iadd dX4_readThing_74 ?_
              refine x_putI pX4_30 dX4_readThing_75 l9 rfl ?_
              have hx1' : TxX t n β (setI S 9 4 (nI (pos + 1))) := hx.keep (fun a b e => rdI_k (by omega))
              have ht1 : (setI S 9 4 (nI (pos + 1))).1 9 3 = nI t := (rdI_j (by decide)).trans ht
              have f1 : Fr FRe S (setI S 9 4 (nI (pos + 1))) := FRset Fr.refl (Or.inl rfl)
              have hsg2 := sg_C (n := n) (i := pos + 1) hx.2.2.1
              have hI1 : IsX 23 I (setI S 9 4 (nI (pos + 1))) := hI.rd (fun a b h1 h2 => rdI_k (by omega))
              have hz := hsg2.eq (k := 122) (by decide) (by decide)
              have hmT : mayT (chF n β) pos I := ⟨hk9, by omega, by omega, fun h => by have h1 := h.1; have h2 := h.2; unfold bagK at h1; omega⟩
              refine x_aload_n 2 dX4_readThing_78 rfl rfl ?_
              refine x_callVu (as := []) (rest := []) vX4_49 (c_X4_sign hx1' ht1 rdI_eq (by omega)) dX4_readThing_79 l9 rfl rfl rfl (Nat.le_of_ble_eq_true rfl) (Nat.le_of_ble_eq_true rfl) (Nat.le_of_ble_eq_true rfl) ?_
              refine x_bipush (v := nI 122) dX4_readThing_82 (by decide) ?_
              refine x_ic_ne 120 dX4_readThing_84 (by decide) (fun c_84 => ?_) (fun c_84 => ?_)
              · refine x_aload_n 2 dX4_readThing_120 rfl rfl ?_
                refine x_callVu (as := []) (rest := []) vX4_49 (c_X4_sign hx1' ht1 rdI_eq (by omega)) dX4_readThing_121 l9 rfl rfl rfl (Nat.le_of_ble_eq_true rfl) (Nat.le_of_ble_eq_true rfl) (Nat.le_of_ble_eq_true rfl) ?_
                refine x_bipush (v := nI 48) dX4_readThing_124 (by decide) ?_
                refine x_isub dX4_readThing_126 ?_
                refine x_istore_n (lv' := [(3, _), (2, _), (1, _), (0, _)]) dX4_readThing_127 rfl (by decide) rfl ?_
                refine x_aload_n 3 dX4_readThing_128 rfl rfl ?_
                refine x_getR fX4_12 dX4_readThing_129 l9 rfl ?_
                refine x_iload_n 0 dX4_readThing_132 rfl rfl ?_
                refine x_callVb (as := [_]) (rest := []) vX4_97 (c_X1_isPerson (Or.inr rfl) hI1 hO) dX4_readThing_133 l23 rfl rfl rfl (Nat.le_of_ble_eq_true rfl) (Nat.le_of_ble_eq_true rfl) (Nat.le_of_ble_eq_true rfl) (fun c_133 => ?_) (fun c_133 => ?_)
                · refine u_if_eq 154 dX4_readThing_136 (by decide) (by decide) ?_
                  have hd48 : 48 ≤ (chF n β (pos + 1)) ∧ (chF n β (pos + 1)) ≤ 57 := (hsg2.fig (lo := 0) (hi := 9) (by decide)).mp ⟨by omega, by omega⟩
                  have hdv := hsg2.val hd48.1 hd48.2
                  obtain ⟨d, hd⟩ : ∃ d, d = (chF n β (pos + 1)) - 48 := ⟨_, rfl⟩
                  rw [← hd] at hdv
                  have hdi : (sgC n β (pos + 1) - nI 48).toInt = (d : Int) := by rw [hdv]; exact tiN (by omega)
                  have hdP : d < iP I := by omega
                  have hld := loadF_le I hO (iS I) d
                  have hl1 : (setI S 9 4 (nI (pos + 1))).1 10 d = nI (loadF I (iS I) d) := (rdI_k (by decide)).trans (hl d (by omega))
                  rw [hdv]
                  refine x_aload_n 3 dX4_readThing_139 rfl rfl ?_
                  refine x_getR fX4_18 dX4_readThing_140 l9 rfl ?_
                  refine x_iload_n 0 dX4_readThing_143 rfl rfl ?_
                  refine y_iald dX4_readThing_144 l10 (by omega) (by decide) (((rdI_k (by decide))).trans hl1) ?_
                  refine x_iload_n 2 dX4_readThing_145 rfl rfl ?_
                  refine x_callSu (as := [_]) (rest := [_]) sX4_101 (c_X1_weightOf hk5) dX4_readThing_146 rfl rfl (Nat.le_of_ble_eq_true rfl) (Nat.le_of_ble_eq_true rfl) (Nat.le_of_ble_eq_true rfl) ?_
                  refine y_iadd dX4_readThing_149 ?_
                  refine x_iconst (v := nI 3) dX4_readThing_150 (by decide) ?_
                  refine y_ic_le 156 dX4_readThing_151 (by decide) (by omega) (by omega) (fun c_151 => ?_) (fun c_151 => ?_)
                  · refine x_aload_n 3 dX4_readThing_156 rfl rfl ?_
                    refine x_getR fX4_18 dX4_readThing_157 l9 rfl ?_
                    refine x_iload_n 0 dX4_readThing_160 rfl rfl ?_
                    refine x_dup2 dX4_readThing_161 rfl rfl ?_
                    refine y_iald dX4_readThing_162 l10 (by omega) (by decide) (((rdI_k (by decide))).trans hl1) ?_
                    refine x_iload_n 2 dX4_readThing_163 rfl rfl ?_
                    refine x_callSu (as := [_]) (rest := [_, _, _]) sX4_101 (c_X1_weightOf hk5) dX4_readThing_164 rfl rfl (Nat.le_of_ble_eq_true rfl) (Nat.le_of_ble_eq_true rfl) (Nat.le_of_ble_eq_true rfl) ?_
                    refine y_iadd dX4_readThing_167 ?_
                    refine y_iast dX4_readThing_168 l10 (by omega) (by decide) ?_
                    have hI2 : IsX 23 I (setI (setI S 9 4 (nI (pos + 1))) 10 d (nI (loadF I (iS I) d + wt (kdF (chF n β pos))))) := hI1.rd (fun a b h1 h2 => rdI_k (by omega))
                    refine x_aload_n 3 dX4_readThing_169 rfl rfl ?_
                    refine x_getR fX4_12 dX4_readThing_170 l9 rfl ?_
                    refine x_iload_n 2 dX4_readThing_173 rfl rfl ?_
                    refine x_iload_n 0 dX4_readThing_174 rfl rfl ?_
                    refine x_callVv (as := [_, _]) (rest := []) vX4_93 (c_X1_addThing (Or.inr rfl) hI2.2.1 hI2.2.2.2.1 (by omega) hO4 hk5 (fun h => by have := hbk.mp (hrp.mp h); omega)) dX4_readThing_175 l23 rfl rfl rfl (Nat.le_of_ble_eq_true rfl) (Nat.le_of_ble_eq_true rfl) (Nat.le_of_ble_eq_true rfl) ?_
                    have hA4 : (addS (setI (setI S 9 4 (nI (pos + 1))) 10 d (nI (loadF I (iS I) d + wt (kdF (chF n β pos))))) 23 (iM I) (iB I) (kdF (chF n β pos)) d).1 9 4 = nI (pos + 1) := (addS_k (by decide)).trans ((rdI_k (by decide)).trans rdI_eq)
                    refine x_aload_n 3 dX4_readThing_178 rfl rfl ?_
                    refine x_dup dX4_readThing_179 rfl ?_
                    refine y_getI fX4_30 dX4_readThing_180 l9 rfl hA4 ?_
                    refine x_iconst (v := nI 1) dX4_readThing_183 (by decide) ?_
                    refine y_iadd dX4_readThing_184 ?_
                    refine x_putI pX4_30 dX4_readThing_185 l9 rfl ?_
                    refine x_iconst (v := nI 1) dX4_readThing_188 (by decide) ?_
                    refine x_zret rfl dX4_readThing_189 (by decide) (by
                      have hfT : fineT (chF n β) pos I := Or.inr ⟨hd48.1, by omega, by rw [← hd]; omega⟩
                      have hpl : plT (chF n β) pos = d := (if_neg (fun e => c_84 (hz.mpr e))).trans hd.symm
                      refine ⟨_, rfl, ItX.t (rdT_2 hmT hfT) ⟨addS_2, fun a ha b => (rdI_k (fun q => ha (Or.inl q))).trans ((addS_k (fun q => ha (by unfold FRe; omega))).trans ((rdI_k (fun q => ha (Or.inr (Or.inl q)))).trans (f1.2 a ha b)))⟩ ⟨?_, ?_, ?_, fun p hp4 => ?_⟩⟩
                      · exact (rdI_j (by decide)).trans ((addS_k (by decide)).trans ((rdI_k (by decide)).trans ht1))
                      · rw [rdI_eq]
                      · rw [hpl]
                        exact (addS_I hI2).rd (fun a b h1 h2 => rdI_k (by omega))
                      · rw [hpl, load_addT, rdI_k (by decide), addS_k (by decide)]
                        by_cases q : p = d
                        · rw [q, rdI_eq, if_pos rfl]
                        · rw [rdI_j q, if_neg (fun e => q e.symm), Nat.add_zero]
                          exact (rdI_k (by decide)).trans (hl p hp4))
                  · refine x_iconst (v := nI 0) dX4_readThing_154 (by decide) ?_
                    refine x_zret rfl dX4_readThing_155 (by decide) (by
                      refine ⟨_, rfl, ItX.f (rdT_1 hmT (fun h => ?_)) f1 rdI_eq⟩
                      rcases h with ⟨h, _⟩ | ⟨h1, h2, h3⟩
                      · exact c_84 (hz.mpr h)
                      · have hdv9 := hsg2.val h1 (by omega)
                        have hdi9 := tiN (show (chF n β (pos + 1)) - 48 < 2147483648 by omega)
                        first
                        | (rw [hdv9] at c_133; omega)
                        | (rw [← hd] at h3; omega))
                · refine t_if_eq 154 dX4_readThing_136 (by decide) (by decide) ?_
                  refine x_iconst (v := nI 0) dX4_readThing_154 (by decide) ?_
                  refine x_zret rfl dX4_readThing_155 (by decide) (by
                    refine ⟨_, rfl, ItX.f (rdT_1 hmT (fun h => ?_)) f1 rdI_eq⟩
                    rcases h with ⟨h, _⟩ | ⟨h1, h2, h3⟩
                    · exact c_84 (hz.mpr h)
                    · have hdv9 := hsg2.val h1 (by omega)
                      have hdi9 := tiN (show (chF n β (pos + 1)) - 48 < 2147483648 by omega)
                      first
                      | (rw [hdv9] at c_133; omega)
                      | (rw [← hd] at h3; omega))
              · refine x_iload_n 1 dX4_readThing_87 rfl rfl ?_
                refine x_iconst (v := nI 2) dX4_readThing_88 (by decide) ?_
                refine y_ic_eq 97 dX4_readThing_89 (by decide) (by omega) (by omega) (fun c_89 => ?_) (fun c_89 => ?_)
                · refine x_iconst (v := nI 0) dX4_readThing_97 (by decide) ?_
                  refine x_zret rfl dX4_readThing_98 (by decide) ⟨_, rfl, ItX.f (rdT_1 hmT (fun h => by rcases h with ⟨_, h⟩ | ⟨_, h, _⟩; exact h (by unfold livK; omega); have := hz.mp c_84; omega)) f1 rdI_eq⟩
                · refine x_iload_n 1 dX4_readThing_92 rfl rfl ?_
                  refine x_iconst (v := nI 5) dX4_readThing_93 (by decide) ?_
                  refine y_ic_ne 99 dX4_readThing_94 (by decide) (by omega) (by omega) (fun c_94 => ?_) (fun c_94 => ?_)
                  · refine x_aload_n 2 dX4_readThing_99 rfl rfl ?_
                    refine x_getR fX4_12 dX4_readThing_100 l9 rfl ?_
                    refine x_iload_n 1 dX4_readThing_103 rfl rfl ?_
                    refine x_iconst (v := nI 4) dX4_readThing_104 (by decide) ?_
                    refine x_callVv (as := [_, _]) (rest := []) vX4_93 (c_X1_addThing (Or.inr rfl) hI1.2.1 hI1.2.2.2.1 (by omega) hO4 hk5 (fun h => by have := hbk.mp (hrp.mp h); omega)) dX4_readThing_105 l23 rfl rfl rfl (Nat.le_of_ble_eq_true rfl) (Nat.le_of_ble_eq_true rfl) (Nat.le_of_ble_eq_true rfl) ?_
                    have hA4 : (addS (setI S 9 4 (nI (pos + 1))) 23 (iM I) (iB I) (kdF (chF n β pos)) 4).1 9 4 = nI (pos + 1) := (addS_k (by decide)).trans rdI_eq
                    refine x_aload_n 2 dX4_readThing_108 rfl rfl ?_
                    refine x_dup dX4_readThing_109 rfl ?_
                    refine y_getI fX4_30 dX4_readThing_110 l9 rfl hA4 ?_
                    refine x_iconst (v := nI 1) dX4_readThing_113 (by decide) ?_
                    refine y_iadd dX4_readThing_114 ?_
                    refine x_putI pX4_30 dX4_readThing_115 l9 rfl ?_
                    refine x_iconst (v := nI 1) dX4_readThing_118 (by decide) ?_
                    refine x_zret rfl dX4_readThing_119 (by decide) (by
                      have hc2 := hz.mp c_84
                      have hfT : fineT (chF n β) pos I := Or.inl ⟨hc2, fun h => by unfold livK at h; omega⟩
                      have hpl : plT (chF n β) pos = 4 := if_pos hc2
                      refine ⟨_, rfl, ItX.t (rdT_2 hmT hfT) ⟨addS_2, fun a ha b => (rdI_k (fun q => ha (Or.inl q))).trans ((addS_k (fun q => ha (by unfold FRe; omega))).trans (f1.2 a ha b))⟩ ⟨?_, ?_, ?_, fun p hp4 => ?_⟩⟩
                      · exact (rdI_j (by decide)).trans ((addS_k (by decide)).trans ht1)
                      · rw [rdI_eq]
                      · rw [hpl]
                        exact (addS_I hI1).rd (fun a b h1 h2 => rdI_k (by omega))
                      · rw [hpl, load_addT, if_neg (by omega), Nat.add_zero]
                        exact (rdI_k (by decide)).trans ((addS_k (by decide)).trans ((rdI_k (by decide)).trans (hl p hp4))))
                  · refine x_iconst (v := nI 0) dX4_readThing_97 (by decide) ?_
                    refine x_zret rfl dX4_readThing_98 (by decide) ⟨_, rfl, ItX.f (rdT_1 hmT (fun h => by rcases h with ⟨_, h⟩ | ⟨_, h, _⟩; exact h (by unfold livK; omega); have := hz.mp c_84; omega)) f1 rdI_eq⟩
            · refine x_iconst (v := nI 0) dX4_readThing_66 (by decide) ?_
              refine x_zret rfl dX4_readThing_67 (by decide) ⟨_, rfl, ItX.f (rdT_0 (fun h => h.2.2.2 ⟨by unfold bagK; omega, by omega⟩)) Fr.refl hp⟩
        · refine x_iconst (v := nI 0) dX4_readThing_49 (by decide) ?_
          refine x_zret rfl dX4_readThing_50 (by decide) ⟨_, rfl, ItX.f (rdT_0 (fun h => by have h1 := h.2.1; have h2 := h.2.2.1; omega)) Fr.refl hp⟩

theorem c_X4_readThing {S : St} {t n pos : Nat} {β : Nat → Int32} (hx : TxX t n β S) {I : Isl} (hR : RdX t pos I S) (hpn : pos ≤ n) (hPI : PI I) : C 3 90 yX4_readThing mX4_readThing [.ref 9] S (qi (ItX t (rdT (chF n β) pos I) S)) := by
  by_cases hk9 : kdF (chF n β pos) = 9
  · exact c_readThing_0 hx hR hpn hPI hk9
  · exact c_readThing_1 hx hR hpn hPI hk9

