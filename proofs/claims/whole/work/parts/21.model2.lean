def popF (s : Nat) : Nat := sm (fun i => s / 2 ^ i % 2) 8
theorem pop_k : ∀ s, s < 256 → 0 < s → popF (s &&& (s - 1)) + 1 = popF s ∧ s &&& (s - 1) < s := by decide +kernel
theorem pop_le : ∀ s, s < 256 → popF s ≤ 8 := by decide +kernel
/-- what a work asks of the first things -/
def askF (I : Isl) (w : Nat → Nat) (v n : Nat) : Prop := ∀ t, t < n → (iV I v 2).testBit t = true → whomF I w t = iV I v 1
theorem askF_can {I : Isl} {w : Nat → Nat} {v : Nat} (hO : IOK I) (hv : v < iW I) : askF I w v (iM I) ↔ canF I w v := by
  rw [canF_iff]
  have hlt := (hO.2.2.2.2.2.2.2.2 v hv).2.2.1
  constructor
  · intro h t ht
    have : t < iM I := by
      rcases Nat.lt_or_ge t (iM I) with q | q
      · exact q
      · exfalso
        have := Nat.testBit_lt_two_pow (i := t) (Nat.lt_of_lt_of_le hlt (Nat.pow_le_pow_right (by decide) q))
        rw [this] at ht; cases ht
    exact ⟨this, h t this ht⟩
  · exact fun h t _ ht => (h t ht).2
theorem sb1 {P : Prop} {x : Int32} {S : St} (h : (x = 1 ∧ P) ∨ (x = 0 ∧ ¬ P)) : pb P S (some (.int x)) S := ⟨h.elim (fun a => Or.inl ⟨by rw [a.1], a.2⟩) (fun a => Or.inr ⟨by rw [a.1], a.2⟩), rfl⟩
theorem sb2 {P : Prop} {x : Int32} (h : (x = 1 ∧ P) ∨ (x = 0 ∧ ¬ P)) : x = 0 ∨ x = 1 := h.elim (fun a => Or.inr a.1) (fun a => Or.inl a.1)
theorem wth_all (I : Isl) : wthF I (2 ^ iW I - 1) = sm (fun v => iV I v 3) (iW I) := by
  unfold wthF
  refine sm_congr fun i hi => ?_
  have h : (2 ^ iW I - 1).testBit i = true := by rw [Nat.testBit_two_pow_sub_one]; exact decide_eq_true hi
  rw [has_iff.mpr h, Nat.one_mul]

set_option maxHeartbeats 4000000 in
set_option maxRecDepth 100000 in
theorem c_J6_bitCount_0f7a4 {S : St} {a : Nat} (ha : a < 256) : C 0 0 yJ6_bitCount_0f7a4 mJ6_bitCount_0f7a4 [.int (nI a)] S (pu (.int (nI (popF a))) S) := by
  refine C.ofX (by decide) rfl (Nat.le_of_ble_eq_true rfl) ?_
  show X 0 0 mJ6_bitCount_0f7a4 (pu (.int (nI (popF a))) S) 0 [(0, .int (nI a))] [] S
  refine x_iload_n 0 dJ6_bitCount_0f7a4_0 rfl rfl ?_
  refine x_iload_n 0 dJ6_bitCount_0f7a4_1 rfl rfl ?_
  refine x_iconst (v := nI 1) dJ6_bitCount_0f7a4_2 (by decide) ?_
  refine x_iushr dJ6_bitCount_0f7a4_3 ?_
  refine x_ldcw kJ6_265 dJ6_bitCount_0f7a4_4 ?_
  rw [show (1431655765 : Int32) = nI 1431655765 from rfl]
  refine x_iand dJ6_bitCount_0f7a4_7 ?_
  refine x_isub dJ6_bitCount_0f7a4_8 ?_
  refine x_istore_n (lv' := [(0, _)]) dJ6_bitCount_0f7a4_9 rfl (by decide) rfl ?_
  refine x_iload_n 0 dJ6_bitCount_0f7a4_10 rfl rfl ?_
  refine x_ldcw kJ6_266 dJ6_bitCount_0f7a4_11 ?_
  rw [show (858993459 : Int32) = nI 858993459 from rfl]
  refine x_iand dJ6_bitCount_0f7a4_14 ?_
  refine x_iload_n 0 dJ6_bitCount_0f7a4_15 rfl rfl ?_
  refine x_iconst (v := nI 2) dJ6_bitCount_0f7a4_16 (by decide) ?_
  refine x_iushr dJ6_bitCount_0f7a4_17 ?_
  refine x_ldcw kJ6_266 dJ6_bitCount_0f7a4_18 ?_
  rw [show (858993459 : Int32) = nI 858993459 from rfl]
  refine x_iand dJ6_bitCount_0f7a4_21 ?_
  refine x_iadd dJ6_bitCount_0f7a4_22 ?_
  refine x_istore_n (lv' := [(0, _)]) dJ6_bitCount_0f7a4_23 rfl (by decide) rfl ?_
  refine x_iload_n 0 dJ6_bitCount_0f7a4_24 rfl rfl ?_
  refine x_iload_n 0 dJ6_bitCount_0f7a4_25 rfl rfl ?_
  refine x_iconst (v := nI 4) dJ6_bitCount_0f7a4_26 (by decide) ?_
  refine x_iushr dJ6_bitCount_0f7a4_27 ?_
  refine x_iadd dJ6_bitCount_0f7a4_28 ?_
  refine x_ldcw kJ6_267 dJ6_bitCount_0f7a4_29 ?_
  rw [show (252645135 : Int32) = nI 252645135 from rfl]
  refine x_iand dJ6_bitCount_0f7a4_32 ?_
  refine x_istore_n (lv' := [(0, _)]) dJ6_bitCount_0f7a4_33 rfl (by decide) rfl ?_
  refine x_iload_n 0 dJ6_bitCount_0f7a4_34 rfl rfl ?_
  refine x_iload_n 0 dJ6_bitCount_0f7a4_35 rfl rfl ?_
  refine x_bipush (v := nI 8) dJ6_bitCount_0f7a4_36 (by decide) ?_
  refine x_iushr dJ6_bitCount_0f7a4_38 ?_
  refine x_iadd dJ6_bitCount_0f7a4_39 ?_
  refine x_istore_n (lv' := [(0, _)]) dJ6_bitCount_0f7a4_40 rfl (by decide) rfl ?_
  refine x_iload_n 0 dJ6_bitCount_0f7a4_41 rfl rfl ?_
  refine x_iload_n 0 dJ6_bitCount_0f7a4_42 rfl rfl ?_
  refine x_bipush (v := nI 16) dJ6_bitCount_0f7a4_43 (by decide) ?_
  refine x_iushr dJ6_bitCount_0f7a4_45 ?_
  refine x_iadd dJ6_bitCount_0f7a4_46 ?_
  refine x_istore_n (lv' := [(0, _)]) dJ6_bitCount_0f7a4_47 rfl (by decide) rfl ?_
  refine x_iload_n 0 dJ6_bitCount_0f7a4_48 rfl rfl ?_
  refine x_bipush (v := nI 63) dJ6_bitCount_0f7a4_49 (by decide) ?_
  refine x_iand dJ6_bitCount_0f7a4_51 ?_
  refine x_iret rfl dJ6_bitCount_0f7a4_52 ⟨congrArg some (congrArg Value.int (by revert ha; revert a; decide +kernel)), rfl⟩

set_option maxHeartbeats 4000000 in
set_option maxRecDepth 100000 in
theorem lp_bits {S : St} {a : Nat} (ha : a < 256) : ∀ (c : Nat) (s : Nat), (c + popF s = popF a) → (s ≤ a) → X 0 0 mX11_bits (pu (.int (nI (popF a))) S) 4 [(2, .int (nI s)), (1, .int (nI c)), (0, .int (nI a))] [] S := by
  intro c s
  induction hm : s + 0 using Nat.strongRecOn generalizing c s with
  | _ mm ih =>
    intro hc hs
    have hpa := pop_le a ha
    have hps := pop_k s (by omega)
    refine x_iload_n 0 dX11_bits_4 rfl rfl ?_
    refine y_if_eq 20 dX11_bits_5 (by decide) (by omega) (fun c_5 => ?_) (fun c_5 => ?_)
    · refine x_iload_n 1 dX11_bits_20 rfl rfl ?_
      refine x_iret rfl dX11_bits_21 (by have e : popF 0 = 0 := (by decide); have h0 : popF s = 0 := (by rw [show s = 0 from by omega]; exact e); exact ⟨by rw [show c = popF a from by omega], rfl⟩)
    · refine y_iinc (lv' := [(1, _), (2, _), (0, _)]) 1 dX11_bits_8 rfl (by decide) rfl ?_
      refine x_iload_n 1 dX11_bits_11 rfl rfl ?_
      refine x_iload_n 1 dX11_bits_12 rfl rfl ?_
      refine x_iconst (v := nI 1) dX11_bits_13 (by decide) ?_
      refine y_isub dX11_bits_14 (by omega) ?_
      refine y_iand dX11_bits_15 ?_
      refine x_istore_n (lv' := [(2, _), (1, _), (0, _)]) dX11_bits_16 rfl (by decide) rfl ?_
      refine x_goto 4 dX11_bits_17 (by decide) ?_
      refine x_pick (lv' := [(2, _), (1, _), (0, _)]) [0, 1, 2] rfl ?_
      exact ih (s &&& (s - 1)) (by have := (hps (by omega)).2; omega) (c + 1) (s &&& (s - 1)) rfl (by have := (hps (by omega)).1; omega) (by have := (hps (by omega)).2; omega)

set_option maxHeartbeats 4000000 in
set_option maxRecDepth 100000 in
theorem c_X11_bits {S : St} {a : Nat} (ha : a < 256) : C 0 0 yX11_bits mX11_bits [.int (nI a)] S (pu (.int (nI (popF a))) S) := by
  refine C.ofX (by decide) rfl (Nat.le_of_ble_eq_true rfl) ?_
  show X 0 0 mX11_bits (pu (.int (nI (popF a))) S) 0 [(0, .int (nI a))] [] S
  refine x_iconst (v := nI 0) dX11_bits_0 (by decide) ?_
  refine x_istore_n (lv' := [(1, _), (0, _)]) dX11_bits_1 rfl (by decide) rfl ?_
  refine x_iload_n 1 dX11_bits_2 rfl rfl ?_
  refine x_istore_n (lv' := [(2, _), (1, _), (0, _)]) dX11_bits_3 rfl (by decide) rfl ?_
  refine x_pick (lv' := [(2, _), (1, _), (0, _)]) [0, 1, 2] rfl ?_
  exact lp_bits ha 0 a (by omega) (Nat.le_refl _)

set_option maxHeartbeats 4000000 in
set_option maxRecDepth 100000 in
theorem lp_canWork {S : St} {I : Isl} {w : Nat → Nat} (hI : IsM I S) (hO : IOK I) (hw0 : MW I w S) (hw : WOK I w) {v : Nat} (hv : v < iW I)  : ∀ (i : Nat) (x : Int32), ((x = 1 ∧ askF I w v i) ∨ (x = 0 ∧ ¬ askF I w v i)) → (i ≤ iM I) → X 1 30 mX11_canWork (pb (canF I w v) S) 4 [(3, .int (nI i)), (2, .int x), (0, .ref 83), (1, .int (nI v))] [] S := by
  intro i x
  induction hm : iM I - i using Nat.strongRecOn generalizing i x with
  | _ mm ih =>
    intro hx hi
    have hO1 := hO.1
    have hO2 := hO.2.1
    have hO3 := hO.2.2.1
    have hO4 := hO.2.2.2.1
    have hV := hO.v v hv
    have hwh := @whomF_le I w hw i
    have hpx : ¬ x = 0 → askF I w v i := fun q => hx.elim (fun a => a.2) (fun a => absurd a.1 q)
    have hpn : x = 0 → ¬ askF I w v i := fun q => hx.elim (fun a => absurd (a.1.symm.trans q) (by decide)) (fun a => a.2)
    refine x_iload_n 0 dX11_canWork_4 rfl rfl ?_
    refine x_aload_n 2 dX11_canWork_5 rfl rfl ?_
    refine y_getI fX11_181 dX11_canWork_6 l83 rfl hI.2.1 ?_
    refine y_ic_ge 63 dX11_canWork_9 (by decide) (by omega) (by omega) (fun c_9 => ?_) (fun c_9 => ?_)
    · refine x_iload_n 1 dX11_canWork_63 rfl rfl ?_
      refine x_zret rfl dX11_canWork_64 (sb2 hx) (by obtain rfl : i = iM I := (by omega); rw [askF_can hO hv] at hx; exact sb1 hx)
    · refine x_iload_n 1 dX11_canWork_12 rfl rfl ?_
      refine x_if_eq 55 dX11_canWork_13 (by decide) (fun c_13 => ?_) (fun c_13 => ?_)
      · refine x_iconst (v := nI 0) dX11_canWork_55 (by decide) ?_
        refine x_istore_n (lv' := [(2, _), (3, _), (0, _), (1, _)]) dX11_canWork_56 rfl (by decide) rfl ?_
        refine y_iinc (lv' := [(3, _), (2, _), (0, _), (1, _)]) 1 dX11_canWork_57 rfl (by decide) rfl ?_
        refine x_goto 4 dX11_canWork_60 (by decide) ?_
        refine x_pick (lv' := [(3, _), (2, _), (0, _), (1, _)]) [0, 1, 2, 3] rfl ?_
        exact ih (iM I - (i + 1)) (by omega) (i + 1) (nI 0) rfl (Or.inr ⟨rfl, fun h => by first | exact (hpn c_13) (fun t ht hb => h t (by omega) hb) | exact c_48 (h i (by omega) c_27)⟩) (by omega)
      · refine x_aload_n 2 dX11_canWork_16 rfl rfl ?_
        refine x_getR fX11_35 dX11_canWork_17 l83 rfl ?_
        refine x_iconst (v := nI 4) dX11_canWork_20 (by decide) ?_
        refine x_iload_n 3 dX11_canWork_21 rfl rfl ?_
        refine y_imul dX11_canWork_22 ?_
        refine x_iconst (v := nI 2) dX11_canWork_23 (by decide) ?_
        refine y_iadd dX11_canWork_24 ?_
        refine y_iald dX11_canWork_25 l92 (by omega) (by decide) (hI.2.2.2.2.2.2 v (by omega) 2 (by decide)) ?_
        refine x_iload_n 0 dX11_canWork_26 rfl rfl ?_
        refine x_callSb (as := [_, _]) (rest := []) sX11_162 (c_X11_has (by omega) (by omega)) dX11_canWork_27 rfl rfl (Nat.le_of_ble_eq_true rfl) (Nat.le_of_ble_eq_true rfl) (Nat.le_of_ble_eq_true rfl) (fun c_27 => ?_) (fun c_27 => ?_)
        · refine u_if_eq 51 dX11_canWork_30 (by decide) (by decide) ?_
          refine x_aload_n 2 dX11_canWork_33 rfl rfl ?_
          refine x_iload_n 0 dX11_canWork_34 rfl rfl ?_
          refine x_callVu (as := [_]) (rest := []) vX11_199 (c_X11_with hI hO hw0 hw (by omega)) dX11_canWork_35 l83 rfl rfl rfl (Nat.le_of_ble_eq_true rfl) (Nat.le_of_ble_eq_true rfl) (Nat.le_of_ble_eq_true rfl) ?_
          refine x_aload_n 2 dX11_canWork_38 rfl rfl ?_
          refine x_getR fX11_35 dX11_canWork_39 l83 rfl ?_
          refine x_iconst (v := nI 4) dX11_canWork_42 (by decide) ?_
          refine x_iload_n 3 dX11_canWork_43 rfl rfl ?_
          refine y_imul dX11_canWork_44 ?_
          refine x_iconst (v := nI 1) dX11_canWork_45 (by decide) ?_
          refine y_iadd dX11_canWork_46 ?_
          refine y_iald dX11_canWork_47 l92 (by omega) (by decide) (hI.2.2.2.2.2.2 v (by omega) 1 (by decide)) ?_
          refine y_ic_ne 55 dX11_canWork_48 (by decide) (by omega) (by omega) (fun c_48 => ?_) (fun c_48 => ?_)
          · refine x_iconst (v := nI 0) dX11_canWork_55 (by decide) ?_
            refine x_istore_n (lv' := [(2, _), (3, _), (0, _), (1, _)]) dX11_canWork_56 rfl (by decide) rfl ?_
            refine y_iinc (lv' := [(3, _), (2, _), (0, _), (1, _)]) 1 dX11_canWork_57 rfl (by decide) rfl ?_
            refine x_goto 4 dX11_canWork_60 (by decide) ?_
            refine x_pick (lv' := [(3, _), (2, _), (0, _), (1, _)]) [0, 1, 2, 3] rfl ?_
            exact ih (iM I - (i + 1)) (by omega) (i + 1) (nI 0) rfl (Or.inr ⟨rfl, fun h => by first | exact (hpn c_13) (fun t ht hb => h t (by omega) hb) | exact c_48 (h i (by omega) c_27)⟩) (by omega)
          · refine x_iconst (v := nI 1) dX11_canWork_51 (by decide) ?_
            refine x_goto 56 dX11_canWork_52 (by decide) ?_
            refine x_istore_n (lv' := [(2, _), (3, _), (0, _), (1, _)]) dX11_canWork_56 rfl (by decide) rfl ?_
            refine y_iinc (lv' := [(3, _), (2, _), (0, _), (1, _)]) 1 dX11_canWork_57 rfl (by decide) rfl ?_
            refine x_goto 4 dX11_canWork_60 (by decide) ?_
            refine x_pick (lv' := [(3, _), (2, _), (0, _), (1, _)]) [0, 1, 2, 3] rfl ?_
            exact ih (iM I - (i + 1)) (by omega) (i + 1) (nI 1) rfl (Or.inl ⟨rfl, fun t ht hb => by rcases Nat.lt_succ_iff_lt_or_eq.mp ht with h | h; exact hpx (by assumption) t h hb; subst h; first | exact absurd hb c_27 | exact nI_inj (by omega) (by omega) (by rw [c_48]) | exact c_48⟩) (by omega)
        · refine t_if_eq 51 dX11_canWork_30 (by decide) (by decide) ?_
          refine x_iconst (v := nI 1) dX11_canWork_51 (by decide) ?_
          refine x_goto 56 dX11_canWork_52 (by decide) ?_
          refine x_istore_n (lv' := [(2, _), (3, _), (0, _), (1, _)]) dX11_canWork_56 rfl (by decide) rfl ?_
          refine y_iinc (lv' := [(3, _), (2, _), (0, _), (1, _)]) 1 dX11_canWork_57 rfl (by decide) rfl ?_
          refine x_goto 4 dX11_canWork_60 (by decide) ?_
          refine x_pick (lv' := [(3, _), (2, _), (0, _), (1, _)]) [0, 1, 2, 3] rfl ?_
          exact ih (iM I - (i + 1)) (by omega) (i + 1) (nI 1) rfl (Or.inl ⟨rfl, fun t ht hb => by rcases Nat.lt_succ_iff_lt_or_eq.mp ht with h | h; exact hpx (by assumption) t h hb; subst h; first | exact absurd hb c_27 | exact nI_inj (by omega) (by omega) (by rw [c_48]) | exact c_48⟩) (by omega)

set_option maxHeartbeats 4000000 in
set_option maxRecDepth 100000 in
theorem c_X11_canWork {S : St} {I : Isl} {w : Nat → Nat} (hI : IsM I S) (hO : IOK I) (hw0 : MW I w S) (hw : WOK I w) {v : Nat} (hv : v < iW I)  : C 1 30 yX11_canWork mX11_canWork [.ref 83, .int (nI v)] S (pb (canF I w v) S) := by
  refine C.ofX (by decide) rfl (Nat.le_of_ble_eq_true rfl) ?_
  show X 1 30 mX11_canWork (pb (canF I w v) S) 0 [(0, .ref 83), (1, .int (nI v))] [] S
  refine x_iconst (v := nI 1) dX11_canWork_0 (by decide) ?_
  refine x_istore_n (lv' := [(2, _), (0, _), (1, _)]) dX11_canWork_1 rfl (by decide) rfl ?_
  refine x_iconst (v := nI 0) dX11_canWork_2 (by decide) ?_
  refine x_istore_n (lv' := [(3, _), (2, _), (0, _), (1, _)]) dX11_canWork_3 rfl (by decide) rfl ?_
  refine x_pick (lv' := [(3, _), (2, _), (0, _), (1, _)]) [0, 1, 2, 3] rfl ?_
  exact lp_canWork hI hO hw0 hw hv 0 (nI 1) (Or.inl ⟨rfl, fun t ht => absurd ht (Nat.not_lt_zero t)⟩) (Nat.zero_le _)

set_option maxHeartbeats 4000000 in
set_option maxRecDepth 100000 in
theorem lp_wantedIn {S : St} {I : Isl} (hI : IsM I S) (hO : IOK I) {t : Nat} (ht : t < 5)  : ∀ (i : Nat) (S1 : St), S1 = S → i ≤ iW I → X 1 30 mX11_wantedIn (pu (.int (nI (sm (fun w => iV I w 2 / 2 ^ t % 2) (iW I)))) S) 4 [(3, .int (nI i)), (2, .int (nI ((sm (fun w => iV I w 2 / 2 ^ t % 2) i)))), (0, .ref 83), (1, .int (nI t))] [] S1 := by
  intro i
  induction hm : iW I - i using Nat.strongRecOn generalizing i with
  | _ mm ih =>
    intro S1 hS1 hi
    replace hS1 := hS1.symm
    subst hS1
    have hO1 := hO.1
    have hO2 := hO.2.1
    have hO3 := hO.2.2.1
    have hO4 := hO.2.2.2.1
    have hV := hO.v i
    refine x_iload_n 0 dX11_wantedIn_4 rfl rfl ?_
    refine x_aload_n 2 dX11_wantedIn_5 rfl rfl ?_
    refine y_getI fX11_184 dX11_wantedIn_6 l83 rfl hI.2.2.2.1 ?_
    refine y_ic_ge 43 dX11_wantedIn_9 (by decide) (by omega) (by omega) (fun c_9 => ?_) (fun c_9 => ?_)
    · refine x_iload_n 1 dX11_wantedIn_43 rfl rfl ?_
      refine x_iret rfl dX11_wantedIn_44 (by obtain rfl : i = iW I := (by omega); exact ⟨rfl, rfl⟩)
    · refine x_iload_n 1 dX11_wantedIn_12 rfl rfl ?_
      refine x_aload_n 2 dX11_wantedIn_13 rfl rfl ?_
      refine x_getR fX11_35 dX11_wantedIn_14 l83 rfl ?_
      refine x_iconst (v := nI 4) dX11_wantedIn_17 (by decide) ?_
      refine x_iload_n 0 dX11_wantedIn_18 rfl rfl ?_
      refine y_imul dX11_wantedIn_19 ?_
      refine x_iconst (v := nI 2) dX11_wantedIn_20 (by decide) ?_
      refine y_iadd dX11_wantedIn_21 ?_
      refine y_iald dX11_wantedIn_22 l92 (by omega) (by decide) (hI.2.2.2.2.2.2 i (by omega) 2 (by decide)) ?_
      refine x_iload_n 3 dX11_wantedIn_23 rfl rfl ?_
      refine x_callSb (as := [_, _]) (rest := [_]) sX11_162 (c_X11_has (by omega) (by omega)) dX11_wantedIn_24 rfl rfl (Nat.le_of_ble_eq_true rfl) (Nat.le_of_ble_eq_true rfl) (Nat.le_of_ble_eq_true rfl) (fun c_24 => ?_) (fun c_24 => ?_)
      · refine u_if_eq 34 dX11_wantedIn_27 (by decide) (by decide) ?_
        refine x_iconst (v := nI 1) dX11_wantedIn_30 (by decide) ?_
        refine x_goto 35 dX11_wantedIn_31 (by decide) ?_
        refine y_iadd dX11_wantedIn_35 ?_
        refine x_istore_n (lv' := [(2, _), (3, _), (0, _), (1, _)]) dX11_wantedIn_36 rfl (by decide) rfl ?_
        rw [show ((sm (fun w => iV I w 2 / 2 ^ t % 2) i) + 1) = (sm (fun w => iV I w 2 / 2 ^ t % 2) (i + 1)) from by rw [sm_s]; first | rw [has_iff.mpr c_24] | (have := mt has_iff.mp c_24; congr 1; omega)]
        refine y_iinc (lv' := [(3, _), (2, _), (0, _), (1, _)]) 1 dX11_wantedIn_37 rfl (by decide) rfl ?_
        refine x_goto 4 dX11_wantedIn_40 (by decide) ?_
        refine x_pick (lv' := [(3, _), (2, _), (0, _), (1, _)]) [0, 1, 2, 3] rfl ?_
        exact ih (iW I - (i + 1)) (by omega) (i + 1) rfl _ rfl (by omega)
      · refine t_if_eq 34 dX11_wantedIn_27 (by decide) (by decide) ?_
        refine x_iconst (v := nI 0) dX11_wantedIn_34 (by decide) ?_
        refine y_iadd dX11_wantedIn_35 ?_
        refine x_istore_n (lv' := [(2, _), (3, _), (0, _), (1, _)]) dX11_wantedIn_36 rfl (by decide) rfl ?_
        rw [show ((sm (fun w => iV I w 2 / 2 ^ t % 2) i) + 0) = (sm (fun w => iV I w 2 / 2 ^ t % 2) (i + 1)) from by rw [sm_s]; first | rw [has_iff.mpr c_24] | (have := mt has_iff.mp c_24; congr 1; omega)]
        refine y_iinc (lv' := [(3, _), (2, _), (0, _), (1, _)]) 1 dX11_wantedIn_37 rfl (by decide) rfl ?_
        refine x_goto 4 dX11_wantedIn_40 (by decide) ?_
        refine x_pick (lv' := [(3, _), (2, _), (0, _), (1, _)]) [0, 1, 2, 3] rfl ?_
        exact ih (iW I - (i + 1)) (by omega) (i + 1) rfl _ rfl (by omega)

set_option maxHeartbeats 4000000 in
set_option maxRecDepth 100000 in
theorem c_X11_wantedIn {S : St} {I : Isl} (hI : IsM I S) (hO : IOK I) {t : Nat} (ht : t < 5)  : C 1 30 yX11_wantedIn mX11_wantedIn [.ref 83, .int (nI t)] S (pu (.int (nI (sm (fun w => iV I w 2 / 2 ^ t % 2) (iW I)))) S) := by
  refine C.ofX (by decide) rfl (Nat.le_of_ble_eq_true rfl) ?_
  show X 1 30 mX11_wantedIn (pu (.int (nI (sm (fun w => iV I w 2 / 2 ^ t % 2) (iW I)))) S) 0 [(0, .ref 83), (1, .int (nI t))] [] S
  refine x_iconst (v := nI 0) dX11_wantedIn_0 (by decide) ?_
  refine x_istore_n (lv' := [(2, _), (0, _), (1, _)]) dX11_wantedIn_1 rfl (by decide) rfl ?_
  refine x_iconst (v := nI 0) dX11_wantedIn_2 (by decide) ?_
  refine x_istore_n (lv' := [(3, _), (2, _), (0, _), (1, _)]) dX11_wantedIn_3 rfl (by decide) rfl ?_
  refine x_pick (lv' := [(3, _), (2, _), (0, _), (1, _)]) [0, 1, 2, 3] rfl ?_
  exact lp_wantedIn hI hO ht 0 S rfl (Nat.zero_le _)

set_option maxHeartbeats 4000000 in
set_option maxRecDepth 100000 in
theorem lp_wants {S : St} {I : Isl} (hI : IsM I S) (hO : IOK I) {p : Nat} (hp : p < 4)  : ∀ (i : Nat) (S1 : St), S1 = S → i ≤ iW I → X 0 0 mX11_wants (pu (.int (nI (wntF I p))) S) 4 [(3, .int (nI i)), (2, .int (nI ((oo (fun w => if iV I w 1 = p then iV I w 2 else 0) i)))), (0, .ref 83), (1, .int (nI p))] [] S1 := by
  intro i
  induction hm : iW I - i using Nat.strongRecOn generalizing i with
  | _ mm ih =>
    intro S1 hS1 hi
    replace hS1 := hS1.symm
    subst hS1
    have hO1 := hO.1
    have hO2 := hO.2.1
    have hO3 := hO.2.2.1
    have hO4 := hO.2.2.2.1
    have hV := hO.v i
    refine x_iload_n 0 dX11_wants_4 rfl rfl ?_
    refine x_aload_n 2 dX11_wants_5 rfl rfl ?_
    refine y_getI fX11_184 dX11_wants_6 l83 rfl hI.2.2.2.1 ?_
    refine y_ic_ge 49 dX11_wants_9 (by decide) (by omega) (by omega) (fun c_9 => ?_) (fun c_9 => ?_)
    · refine x_iload_n 1 dX11_wants_49 rfl rfl ?_
      refine x_iret rfl dX11_wants_50 (by obtain rfl : i = iW I := (by omega); exact ⟨rfl, rfl⟩)
    · refine x_iload_n 1 dX11_wants_12 rfl rfl ?_
      refine x_aload_n 2 dX11_wants_13 rfl rfl ?_
      refine x_getR fX11_35 dX11_wants_14 l83 rfl ?_
      refine x_iconst (v := nI 4) dX11_wants_17 (by decide) ?_
      refine x_iload_n 0 dX11_wants_18 rfl rfl ?_
      refine y_imul dX11_wants_19 ?_
      refine x_iconst (v := nI 1) dX11_wants_20 (by decide) ?_
      refine y_iadd dX11_wants_21 ?_
      refine y_iald dX11_wants_22 l92 (by omega) (by decide) (hI.2.2.2.2.2.2 i (by omega) 1 (by decide)) ?_
      refine x_iload_n 3 dX11_wants_23 rfl rfl ?_
      refine y_ic_ne 40 dX11_wants_24 (by decide) (by omega) (by omega) (fun c_24 => ?_) (fun c_24 => ?_)
      · refine x_iconst (v := nI 0) dX11_wants_40 (by decide) ?_
        refine y_ior dX11_wants_41 ?_
        refine x_istore_n (lv' := [(2, _), (3, _), (0, _), (1, _)]) dX11_wants_42 rfl (by decide) rfl ?_
        rw [show ((oo (fun w => if iV I w 1 = p then iV I w 2 else 0) i) ||| 0) = (oo (fun w => if iV I w 1 = p then iV I w 2 else 0) (i + 1)) from by rw [oo_s]; first | rw [if_neg (by omega)] | rw [if_pos (by omega)]]
        refine y_iinc (lv' := [(3, _), (2, _), (0, _), (1, _)]) 1 dX11_wants_43 rfl (by decide) rfl ?_
        refine x_goto 4 dX11_wants_46 (by decide) ?_
        refine x_pick (lv' := [(3, _), (2, _), (0, _), (1, _)]) [0, 1, 2, 3] rfl ?_
        exact ih (iW I - (i + 1)) (by omega) (i + 1) rfl _ rfl (by omega)
      · refine x_aload_n 2 dX11_wants_27 rfl rfl ?_
        refine x_getR fX11_35 dX11_wants_28 l83 rfl ?_
        refine x_iconst (v := nI 4) dX11_wants_31 (by decide) ?_
        refine x_iload_n 0 dX11_wants_32 rfl rfl ?_
        refine y_imul dX11_wants_33 ?_
        refine x_iconst (v := nI 2) dX11_wants_34 (by decide) ?_
        refine y_iadd dX11_wants_35 ?_
        refine y_iald dX11_wants_36 l92 (by omega) (by decide) (hI.2.2.2.2.2.2 i (by omega) 2 (by decide)) ?_
        refine x_goto 41 dX11_wants_37 (by decide) ?_
        refine y_ior dX11_wants_41 ?_
        refine x_istore_n (lv' := [(2, _), (3, _), (0, _), (1, _)]) dX11_wants_42 rfl (by decide) rfl ?_
        rw [show ((oo (fun w => if iV I w 1 = p then iV I w 2 else 0) i) ||| (iV I i 2)) = (oo (fun w => if iV I w 1 = p then iV I w 2 else 0) (i + 1)) from by rw [oo_s]; first | rw [if_neg (by omega)] | rw [if_pos (by omega)]]
        refine y_iinc (lv' := [(3, _), (2, _), (0, _), (1, _)]) 1 dX11_wants_43 rfl (by decide) rfl ?_
        refine x_goto 4 dX11_wants_46 (by decide) ?_
        refine x_pick (lv' := [(3, _), (2, _), (0, _), (1, _)]) [0, 1, 2, 3] rfl ?_
        exact ih (iW I - (i + 1)) (by omega) (i + 1) rfl _ rfl (by omega)

set_option maxHeartbeats 4000000 in
set_option maxRecDepth 100000 in
theorem c_X11_wants {S : St} {I : Isl} (hI : IsM I S) (hO : IOK I) {p : Nat} (hp : p < 4)  : C 0 0 yX11_wants mX11_wants [.ref 83, .int (nI p)] S (pu (.int (nI (wntF I p))) S) := by
  refine C.ofX (by decide) rfl (Nat.le_of_ble_eq_true rfl) ?_
  show X 0 0 mX11_wants (pu (.int (nI (wntF I p))) S) 0 [(0, .ref 83), (1, .int (nI p))] [] S
  refine x_iconst (v := nI 0) dX11_wants_0 (by decide) ?_
  refine x_istore_n (lv' := [(2, _), (0, _), (1, _)]) dX11_wants_1 rfl (by decide) rfl ?_
  refine x_iconst (v := nI 0) dX11_wants_2 (by decide) ?_
  refine x_istore_n (lv' := [(3, _), (2, _), (0, _), (1, _)]) dX11_wants_3 rfl (by decide) rfl ?_
  refine x_pick (lv' := [(3, _), (2, _), (0, _), (1, _)]) [0, 1, 2, 3] rfl ?_
  exact lp_wants hI hO hp 0 S rfl (Nat.zero_le _)

set_option maxHeartbeats 4000000 in
set_option maxRecDepth 100000 in
theorem lp_allWorth {S : St} {I : Isl} (hI : IsM I S) (hO : IOK I)  : ∀ (i : Nat) (S1 : St), S1 = S → i ≤ iW I → X 0 0 mX11_allWorth (pu (.int (nI (sm (fun v => iV I v 3) (iW I)))) S) 4 [(2, .int (nI i)), (1, .int (nI ((sm (fun v => iV I v 3) i)))), (0, .ref 83)] [] S1 := by
  intro i
  induction hm : iW I - i using Nat.strongRecOn generalizing i with
  | _ mm ih =>
    intro S1 hS1 hi
    replace hS1 := hS1.symm
    subst hS1
    have hO1 := hO.1
    have hO2 := hO.2.1
    have hO3 := hO.2.2.1
    have hO4 := hO.2.2.2.1
    refine x_iload_n 0 dX11_allWorth_4 rfl rfl ?_
    refine x_aload_n 2 dX11_allWorth_5 rfl rfl ?_
    refine y_getI fX11_184 dX11_allWorth_6 l83 rfl hI.2.2.2.1 ?_
    refine y_ic_ge 31 dX11_allWorth_9 (by decide) (by omega) (by omega) (fun c_9 => ?_) (fun c_9 => ?_)
    · refine x_iload_n 1 dX11_allWorth_31 rfl rfl ?_
      refine x_iret rfl dX11_allWorth_32 (by obtain rfl : i = iW I := (by omega); exact ⟨rfl, rfl⟩)
    · refine x_iload_n 1 dX11_allWorth_12 rfl rfl ?_
      refine x_aload_n 2 dX11_allWorth_13 rfl rfl ?_
      refine x_getR fX11_35 dX11_allWorth_14 l83 rfl ?_
      refine x_iconst (v := nI 4) dX11_allWorth_17 (by decide) ?_
      refine x_iload_n 0 dX11_allWorth_18 rfl rfl ?_
      refine y_imul dX11_allWorth_19 ?_
      refine x_iconst (v := nI 3) dX11_allWorth_20 (by decide) ?_
      refine y_iadd dX11_allWorth_21 ?_
      refine y_iald dX11_allWorth_22 l92 (by omega) (by decide) (hI.2.2.2.2.2.2 i (by omega) 3 (by decide)) ?_
      refine y_iadd dX11_allWorth_23 ?_
      refine x_istore_n (lv' := [(1, _), (2, _), (0, _)]) dX11_allWorth_24 rfl (by decide) rfl ?_
      rw [show ((sm (fun v => iV I v 3) i) + (iV I i 3)) = (sm (fun v => iV I v 3) (i + 1)) from by rfl]
      refine y_iinc (lv' := [(2, _), (1, _), (0, _)]) 1 dX11_allWorth_25 rfl (by decide) rfl ?_
      refine x_goto 4 dX11_allWorth_28 (by decide) ?_
      refine x_pick (lv' := [(2, _), (1, _), (0, _)]) [0, 1, 2] rfl ?_
      exact ih (iW I - (i + 1)) (by omega) (i + 1) rfl _ rfl (by omega)

set_option maxHeartbeats 4000000 in
set_option maxRecDepth 100000 in
theorem c_X11_allWorth {S : St} {I : Isl} (hI : IsM I S) (hO : IOK I)  : C 0 0 yX11_allWorth mX11_allWorth [.ref 83] S (pu (.int (nI (sm (fun v => iV I v 3) (iW I)))) S) := by
  refine C.ofX (by decide) rfl (Nat.le_of_ble_eq_true rfl) ?_
  show X 0 0 mX11_allWorth (pu (.int (nI (sm (fun v => iV I v 3) (iW I)))) S) 0 [(0, .ref 83)] [] S
  refine x_iconst (v := nI 0) dX11_allWorth_0 (by decide) ?_
  refine x_istore_n (lv' := [(1, _), (0, _)]) dX11_allWorth_1 rfl (by decide) rfl ?_
  refine x_iconst (v := nI 0) dX11_allWorth_2 (by decide) ?_
  refine x_istore_n (lv' := [(2, _), (1, _), (0, _)]) dX11_allWorth_3 rfl (by decide) rfl ?_
  refine x_pick (lv' := [(2, _), (1, _), (0, _)]) [0, 1, 2] rfl ?_
  exact lp_allWorth hI hO 0 S rfl (Nat.zero_le _)

set_option maxHeartbeats 4000000 in
set_option maxRecDepth 100000 in
theorem c_X11_thingTells {S : St} {I : Isl} {w : Nat → Nat} (hI : IsM I S) (hO : IOK I) (hw0 : MW I w S) (hw : WOK I w) {t h : Nat} (ht : t < iM I) (hh : h ≤ 3) : C 1 30 yX11_thingTells mX11_thingTells [.ref 83, .int (nI t), .int (nI h)] S (pu (.int (nI (if h = 0 then iK I t else if h = 1 then w t else if h = 2 then wt (iK I t) else whomF I w t))) S) := by
  have hO1 := hO.1
  have hO2 := hO.2.1
  have hO3 := hO.2.2.1
  have hO4 := hO.2.2.2.1
  have hk5 := hO.2.2.2.2.1 t ht
  refine C.ofX (by decide) rfl (Nat.le_of_ble_eq_true rfl) ?_
  show X 1 30 mX11_thingTells (pu (.int (nI (if h = 0 then iK I t else if h = 1 then w t else if h = 2 then wt (iK I t) else whomF I w t))) S) 0 [(0, .ref 83), (1, .int (nI t)), (2, .int (nI h))] [] S
  refine x_iload_n 2 dX11_thingTells_0 rfl rfl ?_
  by_cases cs_1 : h = 0 ∨ h = 1 ∨ h = 2
  · rcases cs_1 with rfl | rfl | rfl
    · refine x_tin (off := 27) 28 dX11_thingTells_1 (by decide) (by decide) (by decide) (by decide) ?_
      refine x_aload_n 0 dX11_thingTells_28 rfl rfl ?_
      refine x_getR fX11_29 dX11_thingTells_29 l83 rfl ?_
      refine x_iload_n 1 dX11_thingTells_32 rfl rfl ?_
      refine y_iald dX11_thingTells_33 l90 (by omega) (by decide) (hI.2.2.2.2.1 t ht) ?_
      refine x_iret rfl dX11_thingTells_34 ⟨rfl, rfl⟩
    · refine x_tin (off := 34) 35 dX11_thingTells_1 (by decide) (by decide) (by decide) (by decide) ?_
      refine x_aload_n 0 dX11_thingTells_35 rfl rfl ?_
      refine x_getR fX11_50 dX11_thingTells_36 l83 rfl ?_
      refine x_iload_n 1 dX11_thingTells_39 rfl rfl ?_
      refine y_iald dX11_thingTells_40 l97 (by omega) (by decide) (hw0 t ht) ?_
      refine x_iret rfl dX11_thingTells_41 ⟨rfl, rfl⟩
    · refine x_tin (off := 41) 42 dX11_thingTells_1 (by decide) (by decide) (by decide) (by decide) ?_
      refine x_aload_n 0 dX11_thingTells_42 rfl rfl ?_
      refine x_getR fX11_29 dX11_thingTells_43 l83 rfl ?_
      refine x_iload_n 1 dX11_thingTells_46 rfl rfl ?_
      refine y_iald dX11_thingTells_47 l90 (by omega) (by decide) (hI.2.2.2.2.1 t ht) ?_
      refine x_callSu (as := [_]) (rest := []) sX11_159 (c_X11_counts hk5) dX11_thingTells_48 rfl rfl (Nat.le_of_ble_eq_true rfl) (Nat.le_of_ble_eq_true rfl) (Nat.le_of_ble_eq_true rfl) ?_
      refine x_iret rfl dX11_thingTells_51 ⟨rfl, rfl⟩
  · refine x_tout 52 dX11_thingTells_1 (by rw [tiN (by omega)]; omega) (by decide) ?_
    refine x_aload_n 0 dX11_thingTells_52 rfl rfl ?_
    refine x_iload_n 1 dX11_thingTells_53 rfl rfl ?_
    refine x_callVu (as := [_]) (rest := []) vX11_199 (c_X11_with hI hO hw0 hw ht) dX11_thingTells_54 l83 rfl rfl rfl (Nat.le_of_ble_eq_true rfl) (Nat.le_of_ble_eq_true rfl) (Nat.le_of_ble_eq_true rfl) ?_
    refine x_iret rfl dX11_thingTells_57 ⟨by obtain rfl : h = 3 := (by omega); rfl, rfl⟩

set_option maxHeartbeats 4000000 in
set_option maxRecDepth 100000 in
theorem lp_isOver {S : St} {I : Isl} {w : Nat → Nat} (hI : IsM I S) (hO : IOK I) (hw0 : MW I w S) (hw7 : ∀ t, t < iM I → w t < 7) {v : Nat} (hv : v < 100)  : ∀ (i : Nat) (x : Int32), ((x = 1 ∧ ∃ p, p < i ∧ v < loadF I w p) ∨ (x = 0 ∧ ¬ ∃ p, p < i ∧ v < loadF I w p)) → (i ≤ iP I) → X 2 60 mX11_isOver (pb (∃ p, p < iP I ∧ v < loadF I w p) S) 8 [(3, .int (nI i)), (2, .int x), (0, .ref 83), (1, .int (nI v))] [] S := by
  intro i x
  induction hm : iP I - i using Nat.strongRecOn generalizing i x with
  | _ mm ih =>
    intro hx hi
    have hO1 := hO.1
    have hO2 := hO.2.1
    have hO3 := hO.2.2.1
    have hO4 := hO.2.2.2.1
    have hld := loadF_le I hO w i
    have hpx : ¬ x = 0 → ∃ p, p < i ∧ v < loadF I w p := fun q => hx.elim (fun a => a.2) (fun a => absurd a.1 q)
    have hpn : x = 0 → ¬ ∃ p, p < i ∧ v < loadF I w p := fun q => hx.elim (fun a => absurd (a.1.symm.trans q) (by decide)) (fun a => a.2)
    refine x_iload_n 0 dX11_isOver_8 rfl rfl ?_
    refine x_aload_n 2 dX11_isOver_9 rfl rfl ?_
    refine y_getI fX11_178 dX11_isOver_10 l83 rfl hI.1 ?_
    refine y_ic_ge 41 dX11_isOver_13 (by decide) (by omega) (by omega) (fun c_13 => ?_) (fun c_13 => ?_)
    · refine x_iload_n 1 dX11_isOver_41 rfl rfl ?_
      refine x_zret rfl dX11_isOver_42 (sb2 hx) (by obtain rfl : i = iP I := (by omega); exact sb1 hx)
    · refine x_iload_n 1 dX11_isOver_16 rfl rfl ?_
      refine x_if_ne 29 dX11_isOver_17 (by decide) (fun c_17 => ?_) (fun c_17 => ?_)
      · refine x_iconst (v := nI 1) dX11_isOver_29 (by decide) ?_
        refine x_goto 34 dX11_isOver_30 (by decide) ?_
        refine x_istore_n (lv' := [(2, _), (3, _), (0, _), (1, _)]) dX11_isOver_34 rfl (by decide) rfl ?_
        refine y_iinc (lv' := [(3, _), (2, _), (0, _), (1, _)]) 1 dX11_isOver_35 rfl (by decide) rfl ?_
        refine x_goto 8 dX11_isOver_38 (by decide) ?_
        refine x_pick (lv' := [(3, _), (2, _), (0, _), (1, _)]) [0, 1, 2, 3] rfl ?_
        exact ih (iP I - (i + 1)) (by omega) (i + 1) (nI 1) rfl (Or.inl ⟨rfl, by first | exact ⟨i, by omega, by omega⟩ | exact (hpx c_17).elim fun p h => ⟨p, by omega, h.2⟩⟩) (by omega)
      · refine x_aload_n 2 dX11_isOver_20 rfl rfl ?_
        refine x_iload_n 0 dX11_isOver_21 rfl rfl ?_
        refine x_callVu (as := [_]) (rest := []) vX11_205 (c_X11_loadOf hI hO hw0 hw7 (by omega)) dX11_isOver_22 l83 rfl rfl rfl (Nat.le_of_ble_eq_true rfl) (Nat.le_of_ble_eq_true rfl) (Nat.le_of_ble_eq_true rfl) ?_
        refine x_iload_n 3 dX11_isOver_25 rfl rfl ?_
        refine y_ic_le 33 dX11_isOver_26 (by decide) (by omega) (by omega) (fun c_26 => ?_) (fun c_26 => ?_)
        · refine x_iconst (v := nI 0) dX11_isOver_33 (by decide) ?_
          refine x_istore_n (lv' := [(2, _), (3, _), (0, _), (1, _)]) dX11_isOver_34 rfl (by decide) rfl ?_
          refine y_iinc (lv' := [(3, _), (2, _), (0, _), (1, _)]) 1 dX11_isOver_35 rfl (by decide) rfl ?_
          refine x_goto 8 dX11_isOver_38 (by decide) ?_
          refine x_pick (lv' := [(3, _), (2, _), (0, _), (1, _)]) [0, 1, 2, 3] rfl ?_
          exact ih (iP I - (i + 1)) (by omega) (i + 1) (nI 0) rfl (Or.inr ⟨rfl, fun ⟨p, h1, h2⟩ => by rcases Nat.lt_succ_iff_lt_or_eq.mp h1 with h | h; exact hpn c_17 ⟨p, h, h2⟩; subst h; omega⟩) (by omega)
        · refine x_iconst (v := nI 1) dX11_isOver_29 (by decide) ?_
          refine x_goto 34 dX11_isOver_30 (by decide) ?_
          refine x_istore_n (lv' := [(2, _), (3, _), (0, _), (1, _)]) dX11_isOver_34 rfl (by decide) rfl ?_
          refine y_iinc (lv' := [(3, _), (2, _), (0, _), (1, _)]) 1 dX11_isOver_35 rfl (by decide) rfl ?_
          refine x_goto 8 dX11_isOver_38 (by decide) ?_
          refine x_pick (lv' := [(3, _), (2, _), (0, _), (1, _)]) [0, 1, 2, 3] rfl ?_
          exact ih (iP I - (i + 1)) (by omega) (i + 1) (nI 1) rfl (Or.inl ⟨rfl, by first | exact ⟨i, by omega, by omega⟩ | exact (hpx c_17).elim fun p h => ⟨p, by omega, h.2⟩⟩) (by omega)

def pbS (P : Prop) (S1 : St) : Option Value → St → Prop := pb P S1

set_option maxHeartbeats 4000000 in
set_option maxRecDepth 100000 in
theorem c_X11_isOver {S : St} {I : Isl} {w : Nat → Nat} (hI : IsM I S) (hO : IOK I) (hw0 : ∀ t, t < iM I → S.1 93 t = nI (w t)) (hw7 : ∀ t, t < iM I → w t < 7) {v : Nat} (hv : v < 100)  : C 2 60 yX11_isOver mX11_isOver [.ref 83, .int (nI v)] S (pb (∃ p, p < iP I ∧ v < loadF I w p) (lkS S (iM I))) := by
  refine C.ofX (by decide) rfl (Nat.le_of_ble_eq_true rfl) ?_
  show X 2 60 mX11_isOver (pb (∃ p, p < iP I ∧ v < loadF I w p) (lkS S (iM I))) 0 [(0, .ref 83), (1, .int (nI v))] [] S
  refine x_iconst (v := nI 0) dX11_isOver_0 (by decide) ?_
  refine x_istore_n (lv' := [(2, _), (0, _), (1, _)]) dX11_isOver_1 rfl (by decide) rfl ?_
  refine x_aload_n 1 dX11_isOver_2 rfl rfl ?_
  refine x_callVv (as := []) (rest := []) vX11_217 (c_X11_lookNow hI hO) dX11_isOver_3 l83 rfl rfl rfl (Nat.le_of_ble_eq_true rfl) (Nat.le_of_ble_eq_true rfl) (Nat.le_of_ble_eq_true rfl) ?_
  refine x_iconst (v := nI 0) dX11_isOver_6 (by decide) ?_
  refine x_istore_n (lv' := [(3, _), (2, _), (0, _), (1, _)]) dX11_isOver_7 rfl (by decide) rfl ?_
  refine x_pick (lv' := [(3, _), (2, _), (0, _), (1, _)]) [0, 1, 2, 3] rfl ?_
  exact lp_isOver (hI.lk _) hO (lkS_W hw0) hw7 hv 0 (nI 0) (Or.inr ⟨rfl, fun ⟨p, h, _⟩ => absurd h (Nat.not_lt_zero p)⟩) (Nat.zero_le _)
