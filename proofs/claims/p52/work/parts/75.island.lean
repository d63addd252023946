/-! ===== fault, island: the class ===== -/
theorem item_le {ch : Nat → Nat} {pos : Nat} {I : Isl} : (item ch pos I).1 ≤ pos + 10 := by
  have hk := wK_ok ch (iM I) (pos + 3)
  have hp : p4W ch pos I ≤ pos + 8 := by unfold p4W; omega
  by_cases h0 : iP I = 0
  · rw [item_P h0]
    by_cases h1 : ch pos = 112
    · by_cases h2 : 49 ≤ ch (pos + 1) ∧ ch (pos + 1) ≤ 52
      · rw [rdP_2 h1 h2]; show pos + 2 ≤ _; omega
      · rw [rdP_1 h1 h2]; show pos + 1 ≤ _; omega
    · rw [rdP_0 h1]; show pos ≤ _; omega
  · by_cases hw : ch pos = 119
    · rw [item_W h0 hw]
      by_cases w0 : iW I = 8
      · rw [rdW_0 w0]; show pos ≤ _; omega
      · by_cases w1 : 48 ≤ ch (pos + 1) ∧ ch (pos + 1) ≤ 53
        · by_cases w2 : 48 ≤ ch (pos + 2) ∧ ch (pos + 2) < 48 + iP I
          · by_cases w3 : swW ch pos I = 0 ∨ ¬ ch (p4W ch pos I) = 58
            · rw [rdW_3 w0 w1 w2 w3]; show p4W ch pos I ≤ _; omega
            · by_cases w4 : 49 ≤ ch (p4W ch pos I + 1) ∧ ch (p4W ch pos I + 1) ≤ 57
              · rw [rdW_5 w0 w1 w2 w3 w4]; show p4W ch pos I + 2 ≤ _; omega
              · rw [rdW_4 w0 w1 w2 w3 w4]; show p4W ch pos I + 1 ≤ _; omega
          · rw [rdW_2 w0 w1 w2]; show pos + 2 ≤ _; omega
        · rw [rdW_1 w0 w1]; show pos + 1 ≤ _; omega
    · rw [item_T h0 hw]
      by_cases t0 : mayT ch pos I
      · by_cases t1 : fineT ch pos I
        · rw [rdT_2 t0 t1]; show pos + 2 ≤ _; omega
        · rw [rdT_1 t0 t1]; show pos + 1 ≤ _; omega
      · rw [rdT_0 t0]; show pos ≤ _; omega
theorem prs_le {n : Nat} {β : Nat → Int32} : ∀ f pos I, PI I → (iP I = 0 → I = isl0) → pos ≤ n → (prs (chF n β) n f pos I).1 ≤ n + 11
  | 0, pos, I, _, _, _ => Nat.zero_le _
  | f + 1, pos, I, hI, h0, h6 => by
    by_cases q : n ≤ pos
    · by_cases hp : iP I = 0
      · rw [prs_end0 q hp]; show n + 1 ≤ _; omega
      · rw [prs_end q hp]; exact Nat.zero_le _
    · by_cases q2 : chF n β pos = 32
      · rw [prs_bl q q2]; exact prs_le f (pos + 1) I hI h0 (by omega)
      · by_cases q3 : (item (chF n β) pos I).2.2 = true
        · rw [prs_t q q2 q3]
          have hi := item_ok hI h0 q3
          exact prs_le f _ _ hi.2.2.1 (fun e => absurd e hi.2.2.2) hi.2.1
        · rw [prs_f q q2 q3]
          have := item_le (ch := chF n β) (pos := pos) (I := I)
          show (item (chF n β) pos I).1 + 1 ≤ _
          omega
theorem ft_9 {n : Nat} {β : Nat → Int32} (hn : n ≤ 100) : ftF n β = -9 ↔ (txF n β).1 = 0 := by
  constructor
  · intro h
    refine Classical.byContradiction fun q => ?_
    obtain ⟨p, hp⟩ : ∃ p, (txF n β).1 = p + 1 := ⟨(txF n β).1 - 1, by omega⟩
    rw [ft_1 hp] at h
    have hl : (txF n β).1 ≤ n + 11 := prs_le (n + 1) 0 isl0 PI_0 (fun _ => rfl) (Nat.zero_le _)
    exact nI_ne9 (by omega) h
  · exact ft_0
/-- the bytes are bytes -/
def ByX (S : St) : Prop := ∀ j, j < 400 → -128 ≤ (S.1 8 j).toInt ∧ (S.1 8 j).toInt ≤ 127
/-- a text's length, its bytes -/
def tnX (S : St) (x : Int32) : Nat := tn (S.1 7 (tn x))
def tbX (S : St) (x : Int32) : Nat → Int32 := fun i => S.1 8 (tn x * 100 + i)
theorem txX {S : St} (hT : RwS 6 4 100 S) (hB : ByX S) {t : Nat} (ht : t < 4) (hm : ¬ (S.1 7 t).toInt < 0) : TxX t (tnX S (nI t)) (tbX S (nI t)) S := by
  have e : tn (nI t) = t := tnN (by omega)
  rcases hT.2 t ht with k | ⟨z, hz, k⟩
  · rw [show 6 + 1 = 7 from rfl] at k
    rw [k] at hm; exact absurd (by decide) hm
  · have k' : S.1 7 t = nI z := k
    have e2 : tnX S (nI t) = z := by unfold tnX; rw [e, k']; exact tnN (by omega)
    rw [e2]
    unfold tbX
    rw [e]
    exact ⟨ht, hz, fun i hi => hB _ (by omega), hT.1, k', fun i hi => rfl⟩

set_option maxHeartbeats 4000000 in
set_option maxRecDepth 100000 in
theorem c_X10_fault {S : St} (hT : RwS 6 4 100 S) (hB : ByX S) {x : Int32} : C 6 180 yX10_fault mX10_fault [.ref 0, .int x] S (qi (i3 (¬ (0 ≤ x.toInt ∧ x.toInt < 4)) ((S.1 7 (tn x)).toInt < 0) (an (-1) S) (an (-3) (fndS S 1)) (fun r S' => r = (ftF (tnX S x) (tbX S x)) ∧ Fr FRe S S'))) := by
  have n0 : (nI 0).toInt = 0 := rfl
  have n1 : (nI 1).toInt = 1 := rfl
  have n3 : (nI 3).toInt = 3 := rfl
  have n5 : (nI 5).toInt = 5 := rfl
  have n7 : (nI 7).toInt = 7 := rfl
  have n2 : (nI 2).toInt = 2 := rfl
  have n6 : (nI 6).toInt = 6 := rfl
  refine C.ofX (by decide) rfl (Nat.le_of_ble_eq_true rfl) ?_
  show X 6 180 mX10_fault (qi (i3 (¬ (0 ≤ x.toInt ∧ x.toInt < 4)) ((S.1 7 (tn x)).toInt < 0) (an (-1) S) (an (-3) (fndS S 1)) (fun r S' => r = (ftF (tnX S x) (tbX S x)) ∧ Fr FRe S S'))) 0 [(0, .ref 0), (1, .int x)] [] S
  refine x_aload_n 0 dX10_fault_0 rfl rfl ?_
  refine x_getR fX10_25 dX10_fault_1 l0 rfl ?_
  refine x_iload_n 1 dX10_fault_4 rfl rfl ?_
  refine x_callVb (as := [_]) (rest := []) vX10_105 (c_X5_isOne isTx) dX10_fault_5 l6 rfl rfl rfl (Nat.le_of_ble_eq_true rfl) (Nat.le_of_ble_eq_true rfl) (Nat.le_of_ble_eq_true rfl) (fun c_5 => ?_) (fun c_5 => ?_)
  · refine t_if_ne 13 dX10_fault_8 (by decide) (by decide) ?_
    obtain ⟨a, ha, rfl⟩ := nI_ex (x := x) (n := 4) (by omega) (by omega)
    have ea : (nI a).toInt = (a : Int) := tiN (by omega)
    have ta : tn (nI a) = a := tnN (by omega)
    refine x_aload_n 0 dX10_fault_13 rfl rfl ?_
    refine x_getR fX10_25 dX10_fault_14 l0 rfl ?_
    refine x_iload_n 1 dX10_fault_17 rfl rfl ?_
    refine x_callVb (as := [_]) (rest := []) vX10_117 (c_X5_missing isTx ha) dX10_fault_18 l6 rfl rfl rfl (Nat.le_of_ble_eq_true rfl) (Nat.le_of_ble_eq_true rfl) (Nat.le_of_ble_eq_true rfl) (fun c_18 => ?_) (fun c_18 => ?_)
    · refine u_if_eq 33 dX10_fault_21 (by decide) (by decide) ?_
      refine x_aload_n 0 dX10_fault_24 rfl rfl ?_
      refine x_getR fX10_10 dX10_fault_25 l0 rfl ?_
      refine x_iconst (v := nI 1) dX10_fault_28 (by decide) ?_
      refine x_callVu (as := [_]) (rest := []) vX10_109 (c_X9_find (by decide) (by decide)) dX10_fault_29 l1 rfl rfl rfl (Nat.le_of_ble_eq_true rfl) (Nat.le_of_ble_eq_true rfl) (Nat.le_of_ble_eq_true rfl) ?_
      refine x_iret rfl dX10_fault_32 (q3_1 (by omega) (by rw [ta]; exact c_18) ⟨rfl, rfl⟩)
    · refine t_if_eq 33 dX10_fault_21 (by decide) (by decide) ?_
      refine x_aload_n 0 dX10_fault_33 rfl rfl ?_
      refine x_getR fX10_33 dX10_fault_34 l0 rfl ?_
      refine x_iload_n 1 dX10_fault_37 rfl rfl ?_
      refine x_callVqi (as := [_]) (rest := []) vX10_148 (c_X4_firstFault (txX hT hB ha (by omega))) dX10_fault_38 l9 rfl rfl rfl (Nat.le_of_ble_eq_true rfl) (Nat.le_of_ble_eq_true rfl) (Nat.le_of_ble_eq_true rfl) (fun r_38 S_38 q_38 => ?_)
      obtain ⟨g1, g2, g3⟩ := q_38
      refine x_iret rfl dX10_fault_41 (q3_2 (by omega) (by rw [ta]; exact c_18) ⟨g1, g2⟩)
  · refine u_if_ne 13 dX10_fault_8 (by decide) (by decide) ?_
    refine x_iconst (v := -1) dX10_fault_11 (by decide) ?_
    refine x_iret rfl dX10_fault_12 (q3_0 (by omega) ⟨rfl, rfl⟩)

def FIs (a : Nat) : Prop := FRe a ∨ (11 ≤ a ∧ a ≤ 22) ∨ (35 ≤ a ∧ a ≤ 39) ∨ a = 67

set_option maxHeartbeats 4000000 in
set_option maxRecDepth 100000 in
theorem c_X10_island {S : St} (hT : RwS 6 4 100 S) (hB : ByX S) {x : Int32} : C 6 180 yX10_island mX10_island [.ref 0, .int x] S (qi (i4 (¬ (0 ≤ x.toInt ∧ x.toInt < 4)) ((S.1 7 (tn x)).toInt < 0) (¬ (txF (tnX S x) (tbX S x)).1 = 0) (an (-1) S) (an (-3) (fndS S 1)) (fun r S' => r = -4 ∧ Fr FRe S S') (fun r S' => r = nI (iM (txF (tnX S x) (tbX S x)).2) ∧ S'.2 = S.2 ∧ (∀ a b, ¬ FIs a → ¬ (a = 60 ∧ b = 0) → ¬ (a = 63 ∧ b = 0) → ¬ (a = 74 ∧ b = 9) → S'.1 a b = S.1 a b) ∧ IsX 11 (txF (tnX S x) (tbX S x)).2 S' ∧ IsT (txF (tnX S x) (tbX S x)).2 S' ∧ PlT 35 (txF (tnX S x) (tbX S x)).2 (iS (txF (tnX S x) (tbX S x)).2) S' ∧ S'.1 35 5 = nI 3 ∧ S'.1 74 9 = nI 0 ∧ S'.1 60 0 = nI 0 ∧ S'.1 63 0 = nI 0 ∧ ∀ k, k < 3 → S'.1 67 k = nI 0))) := by
  have n0 : (nI 0).toInt = 0 := rfl
  have n1 : (nI 1).toInt = 1 := rfl
  have n3 : (nI 3).toInt = 3 := rfl
  have n5 : (nI 5).toInt = 5 := rfl
  have n7 : (nI 7).toInt = 7 := rfl
  have n2 : (nI 2).toInt = 2 := rfl
  have n6 : (nI 6).toInt = 6 := rfl
  refine C.ofX (by decide) rfl (Nat.le_of_ble_eq_true rfl) ?_
  show X 6 180 mX10_island (qi (i4 (¬ (0 ≤ x.toInt ∧ x.toInt < 4)) ((S.1 7 (tn x)).toInt < 0) (¬ (txF (tnX S x) (tbX S x)).1 = 0) (an (-1) S) (an (-3) (fndS S 1)) (fun r S' => r = -4 ∧ Fr FRe S S') (fun r S' => r = nI (iM (txF (tnX S x) (tbX S x)).2) ∧ S'.2 = S.2 ∧ (∀ a b, ¬ FIs a → ¬ (a = 60 ∧ b = 0) → ¬ (a = 63 ∧ b = 0) → ¬ (a = 74 ∧ b = 9) → S'.1 a b = S.1 a b) ∧ IsX 11 (txF (tnX S x) (tbX S x)).2 S' ∧ IsT (txF (tnX S x) (tbX S x)).2 S' ∧ PlT 35 (txF (tnX S x) (tbX S x)).2 (iS (txF (tnX S x) (tbX S x)).2) S' ∧ S'.1 35 5 = nI 3 ∧ S'.1 74 9 = nI 0 ∧ S'.1 60 0 = nI 0 ∧ S'.1 63 0 = nI 0 ∧ ∀ k, k < 3 → S'.1 67 k = nI 0))) 0 [(0, .ref 0), (1, .int x)] [] S
  refine x_aload_n 0 dX10_island_0 rfl rfl ?_
  refine x_getR fX10_25 dX10_island_1 l0 rfl ?_
  refine x_iload_n 1 dX10_island_4 rfl rfl ?_
  refine x_callVb (as := [_]) (rest := []) vX10_105 (c_X5_isOne isTx) dX10_island_5 l6 rfl rfl rfl (Nat.le_of_ble_eq_true rfl) (Nat.le_of_ble_eq_true rfl) (Nat.le_of_ble_eq_true rfl) (fun c_5 => ?_) (fun c_5 => ?_)
  · refine t_if_ne 13 dX10_island_8 (by decide) (by decide) ?_
    obtain ⟨a, ha, rfl⟩ := nI_ex (x := x) (n := 4) (by omega) (by omega)
    have ea : (nI a).toInt = (a : Int) := tiN (by omega)
    have ta : tn (nI a) = a := tnN (by omega)
    refine x_aload_n 0 dX10_island_13 rfl rfl ?_
    refine x_getR fX10_25 dX10_island_14 l0 rfl ?_
    refine x_iload_n 1 dX10_island_17 rfl rfl ?_
    refine x_callVb (as := [_]) (rest := []) vX10_117 (c_X5_missing isTx ha) dX10_island_18 l6 rfl rfl rfl (Nat.le_of_ble_eq_true rfl) (Nat.le_of_ble_eq_true rfl) (Nat.le_of_ble_eq_true rfl) (fun c_18 => ?_) (fun c_18 => ?_)
    · refine u_if_eq 33 dX10_island_21 (by decide) (by decide) ?_
      refine x_aload_n 0 dX10_island_24 rfl rfl ?_
      refine x_getR fX10_10 dX10_island_25 l0 rfl ?_
      refine x_iconst (v := nI 1) dX10_island_28 (by decide) ?_
      refine x_callVu (as := [_]) (rest := []) vX10_109 (c_X9_find (by decide) (by decide)) dX10_island_29 l1 rfl rfl rfl (Nat.le_of_ble_eq_true rfl) (Nat.le_of_ble_eq_true rfl) (Nat.le_of_ble_eq_true rfl) ?_
      refine x_iret rfl dX10_island_32 (q4_1 (by omega) (by rw [ta]; exact c_18) ⟨rfl, rfl⟩)
    · refine t_if_eq 33 dX10_island_21 (by decide) (by decide) ?_
      refine x_aload_n 0 dX10_island_33 rfl rfl ?_
      refine x_getR fX10_33 dX10_island_34 l0 rfl ?_
      refine x_iload_n 1 dX10_island_37 rfl rfl ?_
      refine x_callVqi (as := [_]) (rest := []) vX10_148 (c_X4_firstFault (txX hT hB ha (by omega))) dX10_island_38 l9 rfl rfl rfl (Nat.le_of_ble_eq_true rfl) (Nat.le_of_ble_eq_true rfl) (Nat.le_of_ble_eq_true rfl) (fun r_38 S_38 q_38 => ?_)
      obtain ⟨g1, g2, g3⟩ := q_38
      refine x_bipush (v := -9) dX10_island_41 (by decide) ?_
      refine x_ic_eq 49 dX10_island_43 (by decide) (fun c_43 => ?_) (fun c_43 => ?_)
      · have h9 : (txF (tnX S (nI a)) (tbX S (nI a))).1 = 0 := (ft_9 (txX hT hB ha (by omega)).2.1).mp (g1.symm.trans c_43)
        have hPI := (tx_PI h9).1
        refine x_aload_n 0 dX10_island_49 rfl rfl ?_
        refine x_getR fX10_40 dX10_island_50 l0 rfl ?_
        refine x_aload_n 0 dX10_island_53 rfl rfl ?_
        refine x_getR fX10_33 dX10_island_54 l0 rfl ?_
        refine x_getR fX10_151 dX10_island_57 l9 rfl ?_
        refine x_callVqv (as := [_]) (rest := []) vX10_154 (c_X1_become (g3 h9) hPI.1) dX10_island_60 l11 rfl rfl rfl (Nat.le_of_ble_eq_true rfl) (Nat.le_of_ble_eq_true rfl) (Nat.le_of_ble_eq_true rfl) (fun S_60 q_60 => ?_)
        obtain ⟨b1, b2, b3⟩ := q_60
        refine x_aload_n 0 dX10_island_63 rfl rfl ?_
        refine x_getR fX10_83 dX10_island_64 l0 rfl ?_
        refine x_callVv (as := []) (rest := []) vX10_157 c_X6_spoil dX10_island_67 l74 rfl rfl rfl (Nat.le_of_ble_eq_true rfl) (Nat.le_of_ble_eq_true rfl) (Nat.le_of_ble_eq_true rfl) ?_
        have hI1 : IsX 11 (txF (tnX S (nI a)) (tbX S (nI a))).2 (setI S_60 74 9 (nI 0)) := b2.keep (fun a h1 h2 b => rdI_k (by omega))
        refine x_aload_n 0 dX10_island_70 rfl rfl ?_
        refine x_getR fX10_49 dX10_island_71 l0 rfl ?_
        refine x_callVqv (as := []) (rest := []) vX10_160 (c_X3_begin (Or.inl rfl) hI1 hPI.1 (hPI.VS.ok hPI.1)) dX10_island_74 l35 rfl rfl rfl (Nat.le_of_ble_eq_true rfl) (Nat.le_of_ble_eq_true rfl) (Nat.le_of_ble_eq_true rfl) (fun S_74 q_74 => ?_)
        obtain ⟨d1, d2, d3⟩ := q_74
        refine x_aload_n 0 dX10_island_77 rfl rfl ?_
        refine x_getR fX10_61 dX10_island_78 l0 rfl ?_
        refine x_iconst (v := nI 0) dX10_island_81 (by decide) ?_
        refine x_putI pX10_163 dX10_island_82 l60 rfl ?_
        refine x_aload_n 0 dX10_island_85 rfl rfl ?_
        refine x_getR fX10_65 dX10_island_86 l0 rfl ?_
        refine x_iconst (v := nI 0) dX10_island_89 (by decide) ?_
        refine x_putI pX10_163 dX10_island_90 l63 rfl ?_
        refine x_aload_n 0 dX10_island_93 rfl rfl ?_
        refine x_getR fX10_72 dX10_island_94 l0 rfl ?_
        refine x_iconst (v := nI 0) dX10_island_97 (by decide) ?_
        refine x_callSv (as := [_, _]) (rest := []) sX10_167 (c_J7_fill_53178 l67 (by decide)) dX10_island_98 rfl rfl (Nat.le_of_ble_eq_true rfl) (Nat.le_of_ble_eq_true rfl) (Nat.le_of_ble_eq_true rfl) ?_
        have hk : ∀ a b, ¬ a = 60 → ¬ a = 63 → ¬ a = 67 → (fillA (setI (setI S_74 60 0 (nI 0)) 63 0 (nI 0)) 67 0 3 (nI 0)).1 a b = S_74.1 a b := fun a b h1 h2 h3 => (fillA_k h3).trans ((rdI_k h2).trans (rdI_k h1))
        have hI2 : IsX 11 (txF (tnX S (nI a)) (tbX S (nI a))).2 (fillA (setI (setI S_74 60 0 (nI 0)) 63 0 (nI 0)) 67 0 3 (nI 0)) := hI1.keep (fun a h1 h2 b => (hk a b (by omega) (by omega) (by omega)).trans (d1.2 a (by omega) b))
        have hT2 : IsT (txF (tnX S (nI a)) (tbX S (nI a))).2 (fillA (setI (setI S_74 60 0 (nI 0)) 63 0 (nI 0)) 67 0 3 (nI 0)) := b3.keep (fun a b h => (hk a b (by omega) (by omega) (by omega)).trans ((d1.2 a (by omega) b).trans (rdI_k (by omega))))
        refine x_aload_n 0 dX10_island_101 rfl rfl ?_
        refine x_getR fX10_40 dX10_island_102 l0 rfl ?_
        refine y_getI fX10_173 dX10_island_105 l11 rfl hI2.2.1 ?_
        refine x_iret rfl dX10_island_108 (by
          refine q4_3 (by omega) (by rw [ta]; exact c_18) (fun h => h h9) ⟨rfl, ?_, fun a b h1 h2 h3 h4 => ?_, hI2, hT2, ?_, (hk 35 5 (by decide) (by decide) (by decide)).trans d3, ?_, ?_, ?_, fun k hk3 => fillA_in (Nat.zero_le k) hk3⟩
          · exact d1.1.trans (b1.1.trans g2.1)
          · have e67 : ¬ a = 67 := fun q => h1 (Or.inr (Or.inr (Or.inr q)))
            refine (fillA_k e67).trans ?_
            have hs : S_74.1 a b = S.1 a b := by
              refine (d1.2 a (fun q => h1 (Or.inr (Or.inr (Or.inl (by omega))))) b).trans ?_
              have ht : (setI S_60 74 9 (nI 0)).1 a b = S_60.1 a b := by
                by_cases q : a = 74
                · subst q; exact rdI_j (fun z => h4 ⟨rfl, z⟩)
                · exact rdI_k q
              exact ht.trans ((b1.2 a (fun q => h1 (Or.inr (Or.inl q))) b).trans (g2.2 a (fun q => h1 (Or.inl q)) b))
            refine Eq.trans ?_ hs
            by_cases q : a = 63
            · subst q
              rw [rdI_j (fun z => h3 ⟨rfl, z⟩), rdI_k (by decide)]
            · rw [rdI_k q]
              by_cases q2 : a = 60
              · subst q2
                rw [rdI_j (fun z => h2 ⟨rfl, z⟩)]
              · rw [rdI_k q2]
          · exact d2.keep (fun a h1 h2 b => hk a b (by omega) (by omega) (by omega))
          · exact (hk 74 9 (by decide) (by decide) (by decide)).trans ((d1.2 74 (by decide) 9).trans rdI_eq)
          · exact (fillA_k (by decide)).trans ((rdI_k (by decide)).trans rdI_eq)
          · exact (fillA_k (by decide)).trans rdI_eq)
      · refine x_bipush (v := -4) dX10_island_46 (by decide) ?_
        refine x_iret rfl dX10_island_48 (q4_2 (by omega) (by rw [ta]; exact c_18) (fun h => c_43 (g1.trans (ft_0 h))) ⟨rfl, g2⟩)
  · refine u_if_ne 13 dX10_island_8 (by decide) (by decide) ?_
    refine x_iconst (v := -1) dX10_island_11 (by decide) ?_
    refine x_iret rfl dX10_island_12 (q4_0 (by omega) ⟨rfl, rfl⟩)

