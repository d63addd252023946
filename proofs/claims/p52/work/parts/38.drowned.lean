/-! ===== what the drowned had ===== -/
def wsF (I : Isl) (set : Nat) : Nat := sm (fun t => set / 2 ^ t % 2 * wt (iK I t)) (iM I)
def hadP (I : Isl) (L c : Nat) (sw si : Nat → Nat) (set : Nat) : Prop := wsF I set ≤ L ∧ ∀ i, i < c → (iV I (sw i) 2 &&& set = 0 ↔ si i = 1)
noncomputable def hadB (I : Isl) (L c : Nat) (sw si : Nat → Nat) : Nat → Bool := fun s => dec (hadP I L c sw si s)
theorem hadB_t {I : Isl} {L c : Nat} {sw si : Nat → Nat} {s : Nat} (h : hadP I L c sw si s) : hadB I L c sw si s = true := dec_t h
theorem hadB_f {I : Isl} {L c : Nat} {sw si : Nat → Nat} {s : Nat} (h : ¬ hadP I L c sw si s) : ¬ hadB I L c sw si s = true := by unfold hadB; rw [dec_f h]; decide
theorem wsF_le {I : Isl} (hO : IOK I) (set i : Nat) (hi : i ≤ iM I) : sm (fun t => set / 2 ^ t % 2 * wt (iK I t)) i ≤ 10 := by
  have h : sm (fun t => set / 2 ^ t % 2 * wt (iK I t)) i ≤ 2 * i := sm_le fun t _ => by
    have h1 := wt_le (iK I t)
    rcases Nat.mod_two_eq_zero_or_one (set / 2 ^ t) with e | e
    · rw [e]; omega
    · rw [e]; omega
  have := hO.2.1
  omega
def aA (b : Nat → Bool) (z : Nat) : Nat → Nat
  | 0 => z
  | n + 1 => if b n then aA b z n &&& n else aA b z n
theorem aA_t {b : Nat → Bool} {z n : Nat} (h : b n = true) : aA b z (n + 1) = aA b z n &&& n := if_pos h
theorem aA_f {b : Nat → Bool} {z n : Nat} (h : ¬ b n = true) : aA b z (n + 1) = aA b z n := if_neg h
def wiA (b : Nat → Bool) (t n : Nat) : Nat := sm (fun s => if b s then s / 2 ^ t % 2 else 0) n
theorem wiA_t {b : Nat → Bool} {t n : Nat} (h : b n = true) : wiA b t (n + 1) = wiA b t n + n / 2 ^ t % 2 := by unfold wiA; rw [sm_s, if_pos h]
theorem wiA_f {b : Nat → Bool} {t n : Nat} (h : ¬ b n = true) : wiA b t (n + 1) = wiA b t n := by unfold wiA; rw [sm_s, if_neg h, Nat.add_zero]
theorem wiA_le {b : Nat → Bool} {t : Nat} : ∀ n, wiA b t n ≤ cb b n
  | 0 => Nat.le_refl _
  | n + 1 => by
    have ih := wiA_le (b := b) (t := t) n
    by_cases h : b n = true
    · rw [wiA_t h, cb_t h]; omega
    · rw [wiA_f h, cb_f h]; exact ih
theorem pow32 {I : Isl} (hO : IOK I) : 0 < 2 ^ iM I ∧ 2 ^ iM I ≤ 32 := ⟨Nat.two_pow_pos _, Nat.pow_le_pow_right (n := 2) (j := 5) (by decide) hO.2.1⟩

set_option maxHeartbeats 4000000 in
set_option maxRecDepth 100000 in
theorem lp_had2 {S : St} {I : Isl} (hI : IsX 11 I S) (hO : IOK I) {L c : Nat} (hc : c ≤ 8) {sw si : Nat → Nat} (hs : ∀ i, i < c → S.1 64 i = nI (sw i) ∧ S.1 65 i = nI (si i) ∧ sw i < iW I ∧ si i ≤ 1) (hL7 : L ≤ 6) (h0 : S.1 63 0 = nI c) (hL : S.1 35 5 = nI L) {set : Nat} (hset : set < 32) (hle : wsF I set ≤ L)  : ∀ (i : Nat), (i ≤ c) → (∀ j, j < i → (iV I (sw j) 2 &&& set = 0 ↔ si j = 1)) → X 1 30 mX10_canHaveHad (pb (hadP I L c sw si set) S) 56 [(3, .int (nI i)), (0, .ref 0), (1, .int (nI set))] [] S := by
  intro i
  induction hm : c - i using Nat.strongRecOn generalizing i with
  | _ mm ih =>
    intro hi hx
    have hO1 := hO.1
    have hO2 := hO.2.1
    have hO3 := hO.2.2.1
    have hO4 := hO.2.2.2.1
    refine x_iload_n 0 dX10_canHaveHad_56 rfl rfl ?_
    refine x_aload_n 1 dX10_canHaveHad_57 rfl rfl ?_
    refine x_getR fX10_65 dX10_canHaveHad_58 l0 rfl ?_
    refine y_getI fX10_163 dX10_canHaveHad_61 l63 rfl h0 ?_
    refine y_ic_ge 125 dX10_canHaveHad_64 (by decide) (by omega) (by omega) (fun c_64 => ?_) (fun c_64 => ?_)
    · refine x_iconst (v := nI 1) dX10_canHaveHad_125 (by decide) ?_
      refine x_zret rfl dX10_canHaveHad_126 (by decide) ⟨Or.inl ⟨rfl, hle, fun j hj => hx j (by omega)⟩, rfl⟩
    · obtain ⟨hs1, hs2, hs3, hs4⟩ := hs i (by omega)
      have hand : iV I (sw i) 2 &&& set < 32 := and_lt hset
      refine x_aload_n 1 dX10_canHaveHad_67 rfl rfl ?_
      refine x_getR fX10_40 dX10_canHaveHad_68 l0 rfl ?_
      refine x_getR fX10_361 dX10_canHaveHad_71 l11 rfl ?_
      refine x_aload_n 1 dX10_canHaveHad_74 rfl rfl ?_
      refine x_getR fX10_65 dX10_canHaveHad_75 l0 rfl ?_
      refine x_iload_n 0 dX10_canHaveHad_78 rfl rfl ?_
      refine x_callVu (as := [_]) (rest := [_]) vX10_259 (c_firstOf (c := 8) (v := nI (sw i)) (Or.inr ⟨rfl, rfl⟩) h0 hc (by omega) hs1) dX10_canHaveHad_79 l63 rfl rfl rfl (Nat.le_of_ble_eq_true rfl) (Nat.le_of_ble_eq_true rfl) (Nat.le_of_ble_eq_true rfl) ?_
      refine y_iald dX10_canHaveHad_82 l19 (by omega) (by decide) ((hI.2.2.2.2.2.2 _ hs3).2.2.1) ?_
      refine x_iload_n 2 dX10_canHaveHad_83 rfl rfl ?_
      refine y_iand dX10_canHaveHad_84 ?_
      refine y_if_ne 92 dX10_canHaveHad_85 (by decide) (by omega) (fun c_85 => ?_) (fun c_85 => ?_)
      · refine x_iconst (v := nI 0) dX10_canHaveHad_92 (by decide) ?_
        refine x_istore (lv' := [(4, _), (3, _), (0, _), (1, _)]) dX10_canHaveHad_93 (by decide) rfl ?_
        refine x_iload 0 dX10_canHaveHad_95 rfl ?_
        refine x_aload_n 2 dX10_canHaveHad_97 rfl rfl ?_
        refine x_getR fX10_65 dX10_canHaveHad_98 l0 rfl ?_
        refine x_iload_n 1 dX10_canHaveHad_101 rfl rfl ?_
        refine x_callVu (as := [_]) (rest := [_]) vX10_262 (c_secondOf (c := 8) (v := nI (si i)) (Or.inr ⟨rfl, rfl⟩) h0 hc (by omega) hs2) dX10_canHaveHad_102 l63 rfl rfl rfl (Nat.le_of_ble_eq_true rfl) (Nat.le_of_ble_eq_true rfl) (Nat.le_of_ble_eq_true rfl) ?_
        refine x_iconst (v := nI 1) dX10_canHaveHad_105 (by decide) ?_
        refine y_ic_ne 113 dX10_canHaveHad_106 (by decide) (by omega) (by omega) (fun c_106 => ?_) (fun c_106 => ?_)
        · refine x_iconst (v := nI 0) dX10_canHaveHad_113 (by decide) ?_
          refine y_ic_eq 119 dX10_canHaveHad_114 (by decide) (by omega) (by omega) (fun c_114 => ?_) (fun c_114 => ?_)
          · refine y_iinc (lv' := [(3, _), (4, _), (0, _), (1, _)]) 1 dX10_canHaveHad_119 rfl (by decide) rfl ?_
            refine x_goto 56 dX10_canHaveHad_122 (by decide) ?_
            refine x_pick (lv' := [(3, _), (0, _), (1, _)]) [0, 2, 3] rfl ?_
            exact ih (c - (i + 1)) (by omega) (i + 1) rfl (by omega) (fun j hj => by rcases Nat.lt_succ_iff_lt_or_eq.mp hj with h | h; exact hx j h; subst h; omega)
          · refine x_iconst (v := nI 0) dX10_canHaveHad_117 (by decide) ?_
            refine x_zret rfl dX10_canHaveHad_118 (by decide) ⟨Or.inr ⟨rfl, fun h => by have h2 := h.2 i (by omega); omega⟩, rfl⟩
        · refine x_iconst (v := nI 1) dX10_canHaveHad_109 (by decide) ?_
          refine x_goto 114 dX10_canHaveHad_110 (by decide) ?_
          refine y_ic_eq 119 dX10_canHaveHad_114 (by decide) (by omega) (by omega) (fun c_114 => ?_) (fun c_114 => ?_)
          · refine y_iinc (lv' := [(3, _), (4, _), (0, _), (1, _)]) 1 dX10_canHaveHad_119 rfl (by decide) rfl ?_
            refine x_goto 56 dX10_canHaveHad_122 (by decide) ?_
            refine x_pick (lv' := [(3, _), (0, _), (1, _)]) [0, 2, 3] rfl ?_
            exact ih (c - (i + 1)) (by omega) (i + 1) rfl (by omega) (fun j hj => by rcases Nat.lt_succ_iff_lt_or_eq.mp hj with h | h; exact hx j h; subst h; omega)
          · refine x_iconst (v := nI 0) dX10_canHaveHad_117 (by decide) ?_
            refine x_zret rfl dX10_canHaveHad_118 (by decide) ⟨Or.inr ⟨rfl, fun h => by have h2 := h.2 i (by omega); omega⟩, rfl⟩
      · refine x_iconst (v := nI 1) dX10_canHaveHad_88 (by decide) ?_
        refine x_goto 93 dX10_canHaveHad_89 (by decide) ?_
        refine x_istore (lv' := [(4, _), (3, _), (0, _), (1, _)]) dX10_canHaveHad_93 (by decide) rfl ?_
        refine x_iload 0 dX10_canHaveHad_95 rfl ?_
        refine x_aload_n 2 dX10_canHaveHad_97 rfl rfl ?_
        refine x_getR fX10_65 dX10_canHaveHad_98 l0 rfl ?_
        refine x_iload_n 1 dX10_canHaveHad_101 rfl rfl ?_
        refine x_callVu (as := [_]) (rest := [_]) vX10_262 (c_secondOf (c := 8) (v := nI (si i)) (Or.inr ⟨rfl, rfl⟩) h0 hc (by omega) hs2) dX10_canHaveHad_102 l63 rfl rfl rfl (Nat.le_of_ble_eq_true rfl) (Nat.le_of_ble_eq_true rfl) (Nat.le_of_ble_eq_true rfl) ?_
        refine x_iconst (v := nI 1) dX10_canHaveHad_105 (by decide) ?_
        refine y_ic_ne 113 dX10_canHaveHad_106 (by decide) (by omega) (by omega) (fun c_106 => ?_) (fun c_106 => ?_)
        · refine x_iconst (v := nI 0) dX10_canHaveHad_113 (by decide) ?_
          refine y_ic_eq 119 dX10_canHaveHad_114 (by decide) (by omega) (by omega) (fun c_114 => ?_) (fun c_114 => ?_)
          · refine y_iinc (lv' := [(3, _), (4, _), (0, _), (1, _)]) 1 dX10_canHaveHad_119 rfl (by decide) rfl ?_
            refine x_goto 56 dX10_canHaveHad_122 (by decide) ?_
            refine x_pick (lv' := [(3, _), (0, _), (1, _)]) [0, 2, 3] rfl ?_
            exact ih (c - (i + 1)) (by omega) (i + 1) rfl (by omega) (fun j hj => by rcases Nat.lt_succ_iff_lt_or_eq.mp hj with h | h; exact hx j h; subst h; omega)
          · refine x_iconst (v := nI 0) dX10_canHaveHad_117 (by decide) ?_
            refine x_zret rfl dX10_canHaveHad_118 (by decide) ⟨Or.inr ⟨rfl, fun h => by have h2 := h.2 i (by omega); omega⟩, rfl⟩
        · refine x_iconst (v := nI 1) dX10_canHaveHad_109 (by decide) ?_
          refine x_goto 114 dX10_canHaveHad_110 (by decide) ?_
          refine y_ic_eq 119 dX10_canHaveHad_114 (by decide) (by omega) (by omega) (fun c_114 => ?_) (fun c_114 => ?_)
          · refine y_iinc (lv' := [(3, _), (4, _), (0, _), (1, _)]) 1 dX10_canHaveHad_119 rfl (by decide) rfl ?_
            refine x_goto 56 dX10_canHaveHad_122 (by decide) ?_
            refine x_pick (lv' := [(3, _), (0, _), (1, _)]) [0, 2, 3] rfl ?_
            exact ih (c - (i + 1)) (by omega) (i + 1) rfl (by omega) (fun j hj => by rcases Nat.lt_succ_iff_lt_or_eq.mp hj with h | h; exact hx j h; subst h; omega)
          · refine x_iconst (v := nI 0) dX10_canHaveHad_117 (by decide) ?_
            refine x_zret rfl dX10_canHaveHad_118 (by decide) ⟨Or.inr ⟨rfl, fun h => by have h2 := h.2 i (by omega); omega⟩, rfl⟩

set_option maxHeartbeats 4000000 in
set_option maxRecDepth 100000 in
theorem lp_had1 {S : St} {I : Isl} (hI : IsX 11 I S) (hO : IOK I) {L c : Nat} (hc : c ≤ 8) {sw si : Nat → Nat} (hs : ∀ i, i < c → S.1 64 i = nI (sw i) ∧ S.1 65 i = nI (si i) ∧ sw i < iW I ∧ si i ≤ 1) (hL7 : L ≤ 6) (h0 : S.1 63 0 = nI c) (hL : S.1 35 5 = nI L) {set : Nat} (hset : set < 32)  : ∀ (i : Nat), (i ≤ iM I) → X 1 30 mX10_canHaveHad (pb (hadP I L c sw si set) S) 4 [(3, .int (nI i)), (2, .int (nI ((sm (fun t => set / 2 ^ t % 2 * wt (iK I t)) i)))), (0, .ref 0), (1, .int (nI set))] [] S := by
  intro i
  induction hm : iM I - i using Nat.strongRecOn generalizing i with
  | _ mm ih =>
    intro hi
    have hO1 := hO.1
    have hO2 := hO.2.1
    have hO3 := hO.2.2.1
    have hO4 := hO.2.2.2.1
    have hwl := wsF_le hO set i hi
    refine x_iload_n 0 dX10_canHaveHad_4 rfl rfl ?_
    refine x_aload_n 2 dX10_canHaveHad_5 rfl rfl ?_
    refine x_getR fX10_40 dX10_canHaveHad_6 l0 rfl ?_
    refine y_getI fX10_173 dX10_canHaveHad_9 l11 rfl hI.2.1 ?_
    refine y_ic_ge 41 dX10_canHaveHad_12 (by decide) (by omega) (by omega) (fun c_12 => ?_) (fun c_12 => ?_)
    · refine x_iload_n 1 dX10_canHaveHad_41 rfl rfl ?_
      refine x_aload_n 2 dX10_canHaveHad_42 rfl rfl ?_
      refine x_getR fX10_49 dX10_canHaveHad_43 l0 rfl ?_
      refine y_getI fX10_231 dX10_canHaveHad_46 l35 rfl hL ?_
      refine y_ic_le 54 dX10_canHaveHad_49 (by decide) (by omega) (by omega) (fun c_49 => ?_) (fun c_49 => ?_)
      · refine x_iconst (v := nI 0) dX10_canHaveHad_54 (by decide) ?_
        refine x_istore_n (lv' := [(3, _), (2, _), (0, _), (1, _)]) dX10_canHaveHad_55 rfl (by decide) rfl ?_
        refine x_pick (lv' := [(3, _), (0, _), (1, _)]) [0, 2, 3] rfl ?_
        obtain rfl : i = iM I := (by omega)
        exact lp_had2 hI hO hc hs hL7 h0 hL hset (by unfold wsF; omega) 0 (Nat.zero_le _) (fun j hj => absurd hj (Nat.not_lt_zero j))
      · refine x_iconst (v := nI 0) dX10_canHaveHad_52 (by decide) ?_
        refine x_zret rfl dX10_canHaveHad_53 (by decide) (by obtain rfl : i = iM I := (by omega); exact ⟨Or.inr ⟨rfl, fun h => by have h1 := h.1; unfold wsF at h1; omega⟩, rfl⟩)
    · refine x_iload_n 3 dX10_canHaveHad_15 rfl rfl ?_
      refine x_iload_n 0 dX10_canHaveHad_16 rfl rfl ?_
      refine y_ishr dX10_canHaveHad_17 (by omega) (by omega) ?_
      refine x_iconst (v := nI 1) dX10_canHaveHad_18 (by decide) ?_
      refine y_iand dX10_canHaveHad_19 ?_
      rw [show ((set / 2 ^ i) &&& 1) = (set / 2 ^ i % 2) from by rw [Nat.and_one_is_mod]]
      refine y_if_eq 35 dX10_canHaveHad_20 (by decide) (by omega) (fun c_20 => ?_) (fun c_20 => ?_)
      · rw [show ((2, Value.int (nI ((sm (fun t => set / 2 ^ t % 2 * wt (iK I t)) i)))) : Nat × Value) = (2, Value.int (nI (sm (fun t => set / 2 ^ t % 2 * wt (iK I t)) (i + 1)))) from by rw [sm_s]; first | rw [show set / 2 ^ i % 2 = 1 by omega, Nat.one_mul] | rw [show set / 2 ^ i % 2 = 0 by omega, Nat.zero_mul, Nat.add_zero]]
        refine y_iinc (lv' := [(3, _), (2, _), (0, _), (1, _)]) 0 dX10_canHaveHad_35 rfl (by decide) rfl ?_
        refine x_goto 4 dX10_canHaveHad_38 (by decide) ?_
        refine x_pick (lv' := [(3, _), (2, _), (0, _), (1, _)]) [0, 1, 2, 3] rfl ?_
        exact ih (iM I - (i + 1)) (by omega) (i + 1) rfl (by omega)
      · refine x_iload_n 1 dX10_canHaveHad_23 rfl rfl ?_
        refine x_aload_n 2 dX10_canHaveHad_24 rfl rfl ?_
        refine x_getR fX10_40 dX10_canHaveHad_25 l0 rfl ?_
        refine x_getR fX10_188 dX10_canHaveHad_28 l11 rfl ?_
        refine x_iload_n 0 dX10_canHaveHad_31 rfl rfl ?_
        refine y_iald dX10_canHaveHad_32 l14 (by omega) (by decide) (hI.2.2.2.2.1 i (by omega)).2.2.1 ?_
        refine y_iadd dX10_canHaveHad_33 ?_
        refine x_istore_n (lv' := [(2, _), (3, _), (0, _), (1, _)]) dX10_canHaveHad_34 rfl (by decide) rfl ?_
        rw [show ((2, Value.int (nI (((sm (fun t => set / 2 ^ t % 2 * wt (iK I t)) i) + (wt (iK I i)))))) : Nat × Value) = (2, Value.int (nI (sm (fun t => set / 2 ^ t % 2 * wt (iK I t)) (i + 1)))) from by rw [sm_s]; first | rw [show set / 2 ^ i % 2 = 1 by omega, Nat.one_mul] | rw [show set / 2 ^ i % 2 = 0 by omega, Nat.zero_mul, Nat.add_zero]]
        refine y_iinc (lv' := [(3, _), (2, _), (0, _), (1, _)]) 1 dX10_canHaveHad_35 rfl (by decide) rfl ?_
        refine x_goto 4 dX10_canHaveHad_38 (by decide) ?_
        refine x_pick (lv' := [(3, _), (2, _), (0, _), (1, _)]) [0, 1, 2, 3] rfl ?_
        exact ih (iM I - (i + 1)) (by omega) (i + 1) rfl (by omega)

set_option maxHeartbeats 4000000 in
set_option maxRecDepth 100000 in
theorem c_X10_canHaveHad {S : St} {I : Isl} (hI : IsX 11 I S) (hO : IOK I) {L c : Nat} (hc : c ≤ 8) {sw si : Nat → Nat} (hs : ∀ i, i < c → S.1 64 i = nI (sw i) ∧ S.1 65 i = nI (si i) ∧ sw i < iW I ∧ si i ≤ 1) (hL7 : L ≤ 6) (h0 : S.1 63 0 = nI c) (hL : S.1 35 5 = nI L) {set : Nat} (hset : set < 32)  : C 1 30 yX10_canHaveHad mX10_canHaveHad [.ref 0, .int (nI set)] S (pb (hadP I L c sw si set) S) := by
  refine C.ofX (by decide) rfl (Nat.le_of_ble_eq_true rfl) ?_
  show X 1 30 mX10_canHaveHad (pb (hadP I L c sw si set) S) 0 [(0, .ref 0), (1, .int (nI set))] [] S
  refine x_iconst (v := nI 0) dX10_canHaveHad_0 (by decide) ?_
  refine x_istore_n (lv' := [(2, _), (0, _), (1, _)]) dX10_canHaveHad_1 rfl (by decide) rfl ?_
  refine x_iconst (v := nI 0) dX10_canHaveHad_2 (by decide) ?_
  refine x_istore_n (lv' := [(3, _), (2, _), (0, _), (1, _)]) dX10_canHaveHad_3 rfl (by decide) rfl ?_
  refine x_pick (lv' := [(3, _), (2, _), (0, _), (1, _)]) [0, 1, 2, 3] rfl ?_
  exact lp_had1 hI hO hc hs hL7 h0 hL hset 0 (Nat.zero_le _)

noncomputable def dwT (I : Isl) (L c : Nat) (sw si : Nat → Nat) : Nat := if cb (hadB I L c sw si) (2 ^ iM I) = 0 then 0 else aA (hadB I L c sw si) (2 ^ iM I - 1) (2 ^ iM I)

set_option maxHeartbeats 4000000 in
set_option maxRecDepth 100000 in
theorem lp_drX {S : St} {I : Isl} (hI : IsX 11 I S) (hO : IOK I) {L c : Nat} (hc : c ≤ 8) {sw si : Nat → Nat} (hs : ∀ i, i < c → S.1 64 i = nI (sw i) ∧ S.1 65 i = nI (si i) ∧ sw i < iW I ∧ si i ≤ 1) (hL7 : L ≤ 6) (h0 : S.1 63 0 = nI c) (hL : S.1 35 5 = nI L)  : ∀ (k : Nat), (k ≤ 2 ^ iM I) → X 2 60 mX10_drowned (pu (.int (nI (cb (hadB I L c sw si) (2 ^ iM I)))) (setI S 1 0 (nI (dwT I L c sw si)))) 16 [(3, .int (nI k)), (2, .int (nI ((cb (hadB I L c sw si) k)))), (1, .int (nI ((aA (hadB I L c sw si) (2 ^ iM I - 1) k)))), (0, .ref 0)] [] S := by
  intro k
  induction hm : 2 ^ iM I - k using Nat.strongRecOn generalizing k with
  | _ mm ih =>
    intro hk
    have hO1 := hO.1
    have hO2 := hO.2.1
    have hO3 := hO.2.2.1
    have hO4 := hO.2.2.2.1
    obtain ⟨hp0, hp32⟩ := pow32 hO
    have hcl := cb_le (b := (hadB I L c sw si)) k
    refine x_iload_n 0 dX10_drowned_16 rfl rfl ?_
    refine x_iconst (v := nI 1) dX10_drowned_17 (by decide) ?_
    refine x_aload_n 3 dX10_drowned_18 rfl rfl ?_
    refine x_getR fX10_40 dX10_drowned_19 l0 rfl ?_
    refine y_getI fX10_173 dX10_drowned_22 l11 rfl hI.2.1 ?_
    refine y_ishl dX10_drowned_25 (by omega) ?_
    refine y_ic_ge 53 dX10_drowned_26 (by decide) (by omega) (by omega) (fun c_26 => ?_) (fun c_26 => ?_)
    · obtain rfl : k = 2 ^ iM I := (by omega)
      refine x_aload_n 3 dX10_drowned_53 rfl rfl ?_
      refine x_getR fX10_10 dX10_drowned_54 l0 rfl ?_
      refine x_iload_n 1 dX10_drowned_57 rfl rfl ?_
      refine y_if_ne 65 dX10_drowned_58 (by decide) (by omega) (fun c_58 => ?_) (fun c_58 => ?_)
      · refine x_iload_n 2 dX10_drowned_65 rfl rfl ?_
        rw [show nI (aA (hadB I L c sw si) (2 ^ iM I - 1) (2 ^ iM I)) = nI (dwT I L c sw si) from by unfold dwT; first | rw [if_pos (by omega)] | rw [if_neg (by omega)]]
        refine x_callVu (as := [_]) (rest := []) vX10_131 c_X9_tell dX10_drowned_66 l1 rfl rfl rfl (Nat.le_of_ble_eq_true rfl) (Nat.le_of_ble_eq_true rfl) (Nat.le_of_ble_eq_true rfl) ?_
        refine x_pop dX10_drowned_69 rfl ?_
        refine x_iload_n 1 dX10_drowned_70 rfl rfl ?_
        refine x_iret rfl dX10_drowned_71 ⟨rfl, rfl⟩
      · refine x_iconst (v := nI 0) dX10_drowned_61 (by decide) ?_
        refine x_goto 66 dX10_drowned_62 (by decide) ?_
        rw [show nI 0 = nI (dwT I L c sw si) from by unfold dwT; first | rw [if_pos (by omega)] | rw [if_neg (by omega)]]
        refine x_callVu (as := [_]) (rest := []) vX10_131 c_X9_tell dX10_drowned_66 l1 rfl rfl rfl (Nat.le_of_ble_eq_true rfl) (Nat.le_of_ble_eq_true rfl) (Nat.le_of_ble_eq_true rfl) ?_
        refine x_pop dX10_drowned_69 rfl ?_
        refine x_iload_n 1 dX10_drowned_70 rfl rfl ?_
        refine x_iret rfl dX10_drowned_71 ⟨rfl, rfl⟩
    · refine x_aload_n 3 dX10_drowned_29 rfl rfl ?_
      refine x_iload_n 0 dX10_drowned_30 rfl rfl ?_
      refine x_callVb (as := [_]) (rest := []) vX10_358 (c_X10_canHaveHad hI hO hc hs hL7 h0 hL (by omega)) dX10_drowned_31 l0 rfl rfl rfl (Nat.le_of_ble_eq_true rfl) (Nat.le_of_ble_eq_true rfl) (Nat.le_of_ble_eq_true rfl) (fun c_31 => ?_) (fun c_31 => ?_)
      · refine t_if_ne 40 dX10_drowned_34 (by decide) (by decide) ?_
        refine y_iinc (lv' := [(2, _), (3, _), (1, _), (0, _)]) 1 dX10_drowned_40 rfl (by decide) rfl ?_
        refine x_iload_n 2 dX10_drowned_43 rfl rfl ?_
        refine x_iload_n 1 dX10_drowned_44 rfl rfl ?_
        refine y_iand dX10_drowned_45 ?_
        refine x_istore_n (lv' := [(1, _), (2, _), (3, _), (0, _)]) dX10_drowned_46 rfl (by decide) rfl ?_
        rw [show ((2, Value.int (nI (((cb (hadB I L c sw si) k) + 1)))) : Nat × Value) = (2, Value.int (nI (cb (hadB I L c sw si) (k + 1)))) from by first | rw [cb_t (hadB_t c_31)] | rw [cb_f (hadB_f c_31)]]
        rw [show ((1, Value.int (nI (((aA (hadB I L c sw si) (2 ^ iM I - 1) k) &&& k)))) : Nat × Value) = (1, Value.int (nI (aA (hadB I L c sw si) (2 ^ iM I - 1) (k + 1)))) from by first | rw [aA_t (hadB_t c_31)] | rw [aA_f (hadB_f c_31)]]
        refine y_iinc (lv' := [(3, _), (1, _), (2, _), (0, _)]) 2 dX10_drowned_47 rfl (by decide) rfl ?_
        refine x_goto 16 dX10_drowned_50 (by decide) ?_
        refine x_pick (lv' := [(3, _), (2, _), (1, _), (0, _)]) [0, 2, 1, 3] rfl ?_
        exact ih (2 ^ iM I - (k + 1)) (by omega) (k + 1) rfl (by omega)
      · refine u_if_ne 40 dX10_drowned_34 (by decide) (by decide) ?_
        refine x_goto 47 dX10_drowned_37 (by decide) ?_
        rw [show ((2, Value.int (nI ((cb (hadB I L c sw si) k)))) : Nat × Value) = (2, Value.int (nI (cb (hadB I L c sw si) (k + 1)))) from by first | rw [cb_t (hadB_t c_31)] | rw [cb_f (hadB_f c_31)]]
        rw [show ((1, Value.int (nI ((aA (hadB I L c sw si) (2 ^ iM I - 1) k)))) : Nat × Value) = (1, Value.int (nI (aA (hadB I L c sw si) (2 ^ iM I - 1) (k + 1)))) from by first | rw [aA_t (hadB_t c_31)] | rw [aA_f (hadB_f c_31)]]
        refine y_iinc (lv' := [(3, _), (2, _), (1, _), (0, _)]) 0 dX10_drowned_47 rfl (by decide) rfl ?_
        refine x_goto 16 dX10_drowned_50 (by decide) ?_
        refine x_pick (lv' := [(3, _), (2, _), (1, _), (0, _)]) [0, 1, 2, 3] rfl ?_
        exact ih (2 ^ iM I - (k + 1)) (by omega) (k + 1) rfl (by omega)

set_option maxHeartbeats 4000000 in
set_option maxRecDepth 100000 in
theorem c_X10_drowned {S : St} {I : Isl} (hI : IsX 11 I S) (hO : IOK I) {L c : Nat} (hc : c ≤ 8) {sw si : Nat → Nat} (hs : ∀ i, i < c → S.1 64 i = nI (sw i) ∧ S.1 65 i = nI (si i) ∧ sw i < iW I ∧ si i ≤ 1) (hL7 : L ≤ 6) (h0 : S.1 63 0 = nI c) (hL : S.1 35 5 = nI L) : C 2 60 yX10_drowned mX10_drowned [.ref 0] S (pu (.int (nI (cb (hadB I L c sw si) (2 ^ iM I)))) (setI S 1 0 (nI (dwT I L c sw si)))) := by
  have hO1 := hO.1
  have hO2 := hO.2.1
  have hO3 := hO.2.2.1
  have hO4 := hO.2.2.2.1
  obtain ⟨hp0, hp32⟩ := pow32 hO
  refine C.ofX (by decide) rfl (Nat.le_of_ble_eq_true rfl) ?_
  show X 2 60 mX10_drowned (pu (.int (nI (cb (hadB I L c sw si) (2 ^ iM I)))) (setI S 1 0 (nI (dwT I L c sw si)))) 0 [(0, .ref 0)] [] S
  refine x_iconst (v := nI 1) dX10_drowned_0 (by decide) ?_
  refine x_aload_n 0 dX10_drowned_1 rfl rfl ?_
  refine x_getR fX10_40 dX10_drowned_2 l0 rfl ?_
  refine y_getI fX10_173 dX10_drowned_5 l11 rfl hI.2.1 ?_
  refine y_ishl dX10_drowned_8 (by omega) ?_
  refine x_iconst (v := nI 1) dX10_drowned_9 (by decide) ?_
  refine y_isub dX10_drowned_10 (by omega) ?_
  refine x_istore_n (lv' := [(1, _), (0, _)]) dX10_drowned_11 rfl (by decide) rfl ?_
  refine x_iconst (v := nI 0) dX10_drowned_12 (by decide) ?_
  refine x_istore_n (lv' := [(2, _), (1, _), (0, _)]) dX10_drowned_13 rfl (by decide) rfl ?_
  refine x_iconst (v := nI 0) dX10_drowned_14 (by decide) ?_
  refine x_istore_n (lv' := [(3, _), (2, _), (1, _), (0, _)]) dX10_drowned_15 rfl (by decide) rfl ?_
  refine x_pick (lv' := [(3, _), (2, _), (1, _), (0, _)]) [0, 1, 2, 3] rfl ?_
  rw [show 1 * 2 ^ iM I - 1 = 2 ^ iM I - 1 by omega]
  exact lp_drX hI hO hc hs hL7 h0 hL 0 (Nat.zero_le _)

def nL (n : Nat) : Int64 := (nI n).toInt64
def tfS (S : St) (k j a b : Nat) : St := setL (setL S k j (nL (a / Nat.gcd a b))) k (j + 1) (nL (b / Nat.gcd a b))
theorem nL_rem : ∀ x, x < 33 → ∀ y, y < 33 → 0 < y → nL x - nL x / nL y * nL y = nL (x % y) := by decide +kernel
theorem nL_div : ∀ x, x < 33 → ∀ y, y < 33 → 0 < y → nL x / nL y = nL (x / y) := by decide +kernel
theorem nL_nz : ∀ y, y < 33 → 0 < y → ¬ nL y = 0 := by decide +kernel
theorem nL_cmp : ∀ y, y < 33 → (lg_cmp (nL y) 0 = 0 ↔ y = 0) := by decide +kernel
theorem gcd_st {x y a b : Nat} (h : Nat.gcd x y = Nat.gcd a b) (hx : 0 < x) : Nat.gcd (y % x) x = Nat.gcd a b := by rw [← Nat.gcd_rec]; exact h

set_option maxHeartbeats 4000000 in
set_option maxRecDepth 100000 in
theorem lp_tf {S : St} {a b : Nat} (ha : a ≤ b) (hb : b ≤ 32) (hb0 : 0 < b) : ∀ (i : Nat) (x : Nat) (y : Nat), (Nat.gcd x y = Nat.gcd a b) → (x + i ≤ 32 ∧ y ≤ 32) → X 0 0 mX9_tellFraction (pv (tfS S 1 1 a b)) 8 [(5, .int (nI i)), (4, .int (nI x)), (3, .int (nI y)), (0, .ref 1), (1, .int (nI a)), (2, .int (nI b))] [] S := by
  intro i x y
  induction hm : x + 0 using Nat.strongRecOn generalizing i x y with
  | _ mm ih =>
    intro hg hi
    have hg0 : 0 < Nat.gcd a b := Nat.gcd_pos_of_pos_right _ hb0
    have hgb : Nat.gcd a b ≤ b := Nat.gcd_le_right _ hb0
    refine x_iload 0 dX9_tellFraction_8 rfl ?_
    refine x_bipush (v := nI 64) dX9_tellFraction_10 (by decide) ?_
    refine y_ic_ge 39 dX9_tellFraction_12 (by decide) (by omega) (by omega) (fun c_12 => ?_) (fun c_12 => ?_)
    · obtain rfl : x = 0 := (by omega)
      rw [Nat.gcd_zero_left] at hg
      rw [hg]
      refine x_iload_n 2 dX9_tellFraction_39 rfl rfl ?_
      refine y_if_ne 44 dX9_tellFraction_40 (by decide) (by omega) (fun c_40 => ?_) (fun c_40 => ?_)
      · refine x_aload_n 3 dX9_tellFraction_44 rfl rfl ?_
        refine x_iload_n 4 dX9_tellFraction_45 rfl rfl ?_
        refine x_iload_n 2 dX9_tellFraction_46 rfl rfl ?_
        refine y_idiv dX9_tellFraction_47 (by omega) (by omega) (by omega) ?_
        refine x_i2l dX9_tellFraction_48 ?_
        refine x_putL pX9_26 dX9_tellFraction_49 l1 rfl ?_
        refine x_aload_n 3 dX9_tellFraction_52 rfl rfl ?_
        refine x_iload_n 5 dX9_tellFraction_53 rfl rfl ?_
        refine x_iload_n 2 dX9_tellFraction_54 rfl rfl ?_
        refine y_idiv dX9_tellFraction_55 (by omega) (by omega) (by omega) ?_
        refine x_i2l dX9_tellFraction_56 ?_
        refine x_putL pX9_9 dX9_tellFraction_57 l1 rfl ?_
        refine x_vret rfl dX9_tellFraction_60 ⟨rfl, rfl⟩
      · refine x_vret rfl dX9_tellFraction_43 (by omega)
    · refine x_iload 1 dX9_tellFraction_15 rfl ?_
      refine y_if_eq 39 dX9_tellFraction_17 (by decide) (by omega) (fun c_17 => ?_) (fun c_17 => ?_)
      · obtain rfl : x = 0 := (by omega)
        rw [Nat.gcd_zero_left] at hg
        rw [hg]
        refine x_iload_n 2 dX9_tellFraction_39 rfl rfl ?_
        refine y_if_ne 44 dX9_tellFraction_40 (by decide) (by omega) (fun c_40 => ?_) (fun c_40 => ?_)
        · refine x_aload_n 3 dX9_tellFraction_44 rfl rfl ?_
          refine x_iload_n 4 dX9_tellFraction_45 rfl rfl ?_
          refine x_iload_n 2 dX9_tellFraction_46 rfl rfl ?_
          refine y_idiv dX9_tellFraction_47 (by omega) (by omega) (by omega) ?_
          refine x_i2l dX9_tellFraction_48 ?_
          refine x_putL pX9_26 dX9_tellFraction_49 l1 rfl ?_
          refine x_aload_n 3 dX9_tellFraction_52 rfl rfl ?_
          refine x_iload_n 5 dX9_tellFraction_53 rfl rfl ?_
          refine x_iload_n 2 dX9_tellFraction_54 rfl rfl ?_
          refine y_idiv dX9_tellFraction_55 (by omega) (by omega) (by omega) ?_
          refine x_i2l dX9_tellFraction_56 ?_
          refine x_putL pX9_9 dX9_tellFraction_57 l1 rfl ?_
          refine x_vret rfl dX9_tellFraction_60 ⟨rfl, rfl⟩
        · refine x_vret rfl dX9_tellFraction_43 (by omega)
      · refine x_iload_n 2 dX9_tellFraction_20 rfl rfl ?_
        refine x_iload 1 dX9_tellFraction_21 rfl ?_
        refine y_irem dX9_tellFraction_23 (by omega) (by omega) (by omega) ?_
        have hlt := Nat.mod_lt y (show 0 < x by omega)
        refine x_istore (lv' := [(6, _), (5, _), (4, _), (3, _), (0, _), (1, _), (2, _)]) dX9_tellFraction_24 (by decide) rfl ?_
        refine x_iload 2 dX9_tellFraction_26 rfl ?_
        refine x_istore_n (lv' := [(3, _), (6, _), (5, _), (4, _), (0, _), (1, _), (2, _)]) dX9_tellFraction_28 rfl (by decide) rfl ?_
        refine x_iload 1 dX9_tellFraction_29 rfl ?_
        refine x_istore (lv' := [(4, _), (3, _), (6, _), (5, _), (0, _), (1, _), (2, _)]) dX9_tellFraction_31 (by decide) rfl ?_
        refine y_iinc (lv' := [(5, _), (4, _), (3, _), (6, _), (0, _), (1, _), (2, _)]) 3 dX9_tellFraction_33 rfl (by decide) rfl ?_
        refine x_goto 8 dX9_tellFraction_36 (by decide) ?_
        refine x_pick (lv' := [(5, _), (4, _), (3, _), (0, _), (1, _), (2, _)]) [0, 1, 2, 4, 5, 6] rfl ?_
        exact ih (y % x + 0) (by omega) (i + 1) (y % x) x rfl (gcd_st hg (by omega)) ⟨by omega, by omega⟩

set_option maxHeartbeats 4000000 in
set_option maxRecDepth 100000 in
theorem c_X9_tellFraction {S : St} {a b : Nat} (ha : a ≤ b) (hb : b ≤ 32) (hb0 : 0 < b) : C 0 0 yX9_tellFraction mX9_tellFraction [.ref 1, .int (nI a), .int (nI b)] S (pv (tfS S 1 1 a b)) := by
  refine C.ofX (by decide) rfl (Nat.le_of_ble_eq_true rfl) ?_
  show X 0 0 mX9_tellFraction (pv (tfS S 1 1 a b)) 0 [(0, .ref 1), (1, .int (nI a)), (2, .int (nI b))] [] S
  refine x_iload_n 2 dX9_tellFraction_0 rfl rfl ?_
  refine x_istore_n (lv' := [(3, _), (0, _), (1, _), (2, _)]) dX9_tellFraction_1 rfl (by decide) rfl ?_
  refine x_iload_n 2 dX9_tellFraction_2 rfl rfl ?_
  refine x_istore (lv' := [(4, _), (3, _), (0, _), (1, _), (2, _)]) dX9_tellFraction_3 (by decide) rfl ?_
  refine x_iconst (v := nI 0) dX9_tellFraction_5 (by decide) ?_
  refine x_istore (lv' := [(5, _), (4, _), (3, _), (0, _), (1, _), (2, _)]) dX9_tellFraction_6 (by decide) rfl ?_
  refine x_pick (lv' := [(5, _), (4, _), (3, _), (0, _), (1, _), (2, _)]) [0, 1, 2, 3, 4, 5] rfl ?_
  exact lp_tf ha hb hb0 0 a b rfl ⟨by omega, by omega⟩

set_option maxHeartbeats 4000000 in
set_option maxRecDepth 100000 in
theorem lp_odX {S : St} {I : Isl} (hI : IsX 11 I S) (hO : IOK I) {L c : Nat} (hc : c ≤ 8) {sw si : Nat → Nat} (hs : ∀ i, i < c → S.1 64 i = nI (sw i) ∧ S.1 65 i = nI (si i) ∧ sw i < iW I ∧ si i ≤ 1) (hL7 : L ≤ 6) (h0 : S.1 63 0 = nI c) (hL : S.1 35 5 = nI L) {t : Nat} (ht : t < iM I)  : ∀ (k : Nat), (k ≤ 2 ^ iM I) → X 2 60 mX10_odds (pu (.int (i2 (cb (hadB I L c sw si) (2 ^ iM I) = 0) (-3) (nI (wiA (hadB I L c sw si) t (2 ^ iM I))))) (i2 (cb (hadB I L c sw si) (2 ^ iM I) = 0) (fndS S 4) (tfS S 1 1 (wiA (hadB I L c sw si) t (2 ^ iM I)) (cb (hadB I L c sw si) (2 ^ iM I))))) 20 [(4, .int (nI k)), (3, .int (nI ((wiA (hadB I L c sw si) t k)))), (2, .int (nI ((cb (hadB I L c sw si) k)))), (0, .ref 0), (1, .int (nI t))] [] S := by
  intro k
  induction hm : 2 ^ iM I - k using Nat.strongRecOn generalizing k with
  | _ mm ih =>
    intro hk
    have hO1 := hO.1
    have hO2 := hO.2.1
    have hO3 := hO.2.2.1
    have hO4 := hO.2.2.2.1
    obtain ⟨hp0, hp32⟩ := pow32 hO
    have hcl := cb_le (b := (hadB I L c sw si)) k
    have hwi := wiA_le (b := (hadB I L c sw si)) (t := t) k
    refine x_iload 0 dX10_odds_20 rfl ?_
    refine x_iconst (v := nI 1) dX10_odds_22 (by decide) ?_
    refine x_aload_n 3 dX10_odds_23 rfl rfl ?_
    refine x_getR fX10_40 dX10_odds_24 l0 rfl ?_
    refine y_getI fX10_173 dX10_odds_27 l11 rfl hI.2.1 ?_
    refine y_ishl dX10_odds_30 (by omega) ?_
    refine y_ic_ge 64 dX10_odds_31 (by decide) (by omega) (by omega) (fun c_31 => ?_) (fun c_31 => ?_)
    · obtain rfl : k = 2 ^ iM I := (by omega)
      refine x_iload_n 2 dX10_odds_64 rfl rfl ?_
      refine y_if_ne 77 dX10_odds_65 (by decide) (by omega) (fun c_65 => ?_) (fun c_65 => ?_)
      · refine x_aload_n 3 dX10_odds_77 rfl rfl ?_
        refine x_getR fX10_10 dX10_odds_78 l0 rfl ?_
        refine x_iload_n 1 dX10_odds_81 rfl rfl ?_
        refine x_iload_n 2 dX10_odds_82 rfl rfl ?_
        refine x_callVv (as := [_, _]) (rest := []) vX10_364 (c_X9_tellFraction hwi (by omega) (by omega)) dX10_odds_83 l1 rfl rfl rfl (Nat.le_of_ble_eq_true rfl) (Nat.le_of_ble_eq_true rfl) (Nat.le_of_ble_eq_true rfl) ?_
        refine x_iload_n 1 dX10_odds_86 rfl rfl ?_
        refine x_iret rfl dX10_odds_87 (p2_1 (by omega))
      · refine x_aload_n 3 dX10_odds_68 rfl rfl ?_
        refine x_getR fX10_10 dX10_odds_69 l0 rfl ?_
        refine x_iconst (v := nI 4) dX10_odds_72 (by decide) ?_
        refine x_callVu (as := [_]) (rest := []) vX10_109 (c_X9_find (by decide) (by decide)) dX10_odds_73 l1 rfl rfl rfl (Nat.le_of_ble_eq_true rfl) (Nat.le_of_ble_eq_true rfl) (Nat.le_of_ble_eq_true rfl) ?_
        refine x_iret rfl dX10_odds_76 (p2_0 (by omega))
    · refine x_aload_n 3 dX10_odds_34 rfl rfl ?_
      refine x_iload 0 dX10_odds_35 rfl ?_
      refine x_callVb (as := [_]) (rest := []) vX10_358 (c_X10_canHaveHad hI hO hc hs hL7 h0 hL (by omega)) dX10_odds_37 l0 rfl rfl rfl (Nat.le_of_ble_eq_true rfl) (Nat.le_of_ble_eq_true rfl) (Nat.le_of_ble_eq_true rfl) (fun c_37 => ?_) (fun c_37 => ?_)
      · refine t_if_ne 46 dX10_odds_40 (by decide) (by decide) ?_
        refine y_iinc (lv' := [(2, _), (4, _), (3, _), (0, _), (1, _)]) 2 dX10_odds_46 rfl (by decide) rfl ?_
        refine x_iload_n 2 dX10_odds_49 rfl rfl ?_
        refine x_iload 1 dX10_odds_50 rfl ?_
        refine x_iload_n 4 dX10_odds_52 rfl rfl ?_
        refine y_ishr dX10_odds_53 (by omega) (by omega) ?_
        refine x_iconst (v := nI 1) dX10_odds_54 (by decide) ?_
        refine y_iand dX10_odds_55 ?_
        rw [show ((k / 2 ^ t) &&& 1) = (k / 2 ^ t % 2) from by rw [Nat.and_one_is_mod]]
        refine y_iadd dX10_odds_56 ?_
        refine x_istore_n (lv' := [(3, _), (2, _), (4, _), (0, _), (1, _)]) dX10_odds_57 rfl (by decide) rfl ?_
        rw [show ((2, Value.int (nI (((cb (hadB I L c sw si) k) + 1)))) : Nat × Value) = (2, Value.int (nI (cb (hadB I L c sw si) (k + 1)))) from by first | rw [cb_t (hadB_t c_37)] | rw [cb_f (hadB_f c_37)]]
        rw [show ((3, Value.int (nI (((wiA (hadB I L c sw si) t k) + (k / 2 ^ t % 2))))) : Nat × Value) = (3, Value.int (nI (wiA (hadB I L c sw si) t (k + 1)))) from by first | rw [wiA_t (hadB_t c_37)] | rw [wiA_f (hadB_f c_37)]]
        refine y_iinc (lv' := [(4, _), (3, _), (2, _), (0, _), (1, _)]) 2 dX10_odds_58 rfl (by decide) rfl ?_
        refine x_goto 20 dX10_odds_61 (by decide) ?_
        refine x_pick (lv' := [(4, _), (3, _), (2, _), (0, _), (1, _)]) [0, 1, 2, 3, 4] rfl ?_
        exact ih (2 ^ iM I - (k + 1)) (by omega) (k + 1) rfl (by omega)
      · refine u_if_ne 46 dX10_odds_40 (by decide) (by decide) ?_
        refine x_goto 58 dX10_odds_43 (by decide) ?_
        rw [show ((2, Value.int (nI ((cb (hadB I L c sw si) k)))) : Nat × Value) = (2, Value.int (nI (cb (hadB I L c sw si) (k + 1)))) from by first | rw [cb_t (hadB_t c_37)] | rw [cb_f (hadB_f c_37)]]
        rw [show ((3, Value.int (nI ((wiA (hadB I L c sw si) t k)))) : Nat × Value) = (3, Value.int (nI (wiA (hadB I L c sw si) t (k + 1)))) from by first | rw [wiA_t (hadB_t c_37)] | rw [wiA_f (hadB_f c_37)]]
        refine y_iinc (lv' := [(4, _), (3, _), (2, _), (0, _), (1, _)]) 0 dX10_odds_58 rfl (by decide) rfl ?_
        refine x_goto 20 dX10_odds_61 (by decide) ?_
        refine x_pick (lv' := [(4, _), (3, _), (2, _), (0, _), (1, _)]) [0, 1, 2, 3, 4] rfl ?_
        exact ih (2 ^ iM I - (k + 1)) (by omega) (k + 1) rfl (by omega)

set_option maxHeartbeats 4000000 in
set_option maxRecDepth 100000 in
theorem c_X10_odds {S : St} {I : Isl} (hI : IsX 11 I S) (hO : IOK I) {L c : Nat} (hc : c ≤ 8) {sw si : Nat → Nat} (hs : ∀ i, i < c → S.1 64 i = nI (sw i) ∧ S.1 65 i = nI (si i) ∧ sw i < iW I ∧ si i ≤ 1) (hL7 : L ≤ 6) (h0 : S.1 63 0 = nI c) (hL : S.1 35 5 = nI L) {x : Int32} : C 2 60 yX10_odds mX10_odds [.ref 0, .int x] S (pu (.int (i3 (¬ (0 ≤ x.toInt ∧ x.toInt < (iM I : Int))) (cb (hadB I L c sw si) (2 ^ iM I) = 0) (-1) (-3) (nI (wiA (hadB I L c sw si) (tn x) (2 ^ iM I))))) (i3 (¬ (0 ≤ x.toInt ∧ x.toInt < (iM I : Int))) (cb (hadB I L c sw si) (2 ^ iM I) = 0) S (fndS S 4) (tfS S 1 1 (wiA (hadB I L c sw si) (tn x) (2 ^ iM I)) (cb (hadB I L c sw si) (2 ^ iM I))))) := by
  have n0 : (nI 0).toInt = 0 := rfl
  have n1 : (nI 1).toInt = 1 := rfl
  have n3 : (nI 3).toInt = 3 := rfl
  have n5 : (nI 5).toInt = 5 := rfl
  have n7 : (nI 7).toInt = 7 := rfl
  have n2 : (nI 2).toInt = 2 := rfl
  have n6 : (nI 6).toInt = 6 := rfl
  have hO1 := hO.1
  have hO2 := hO.2.1
  have hO3 := hO.2.2.1
  have hO4 := hO.2.2.2.1
  refine C.ofX (by decide) rfl (Nat.le_of_ble_eq_true rfl) ?_
  show X 2 60 mX10_odds (pu (.int (i3 (¬ (0 ≤ x.toInt ∧ x.toInt < (iM I : Int))) (cb (hadB I L c sw si) (2 ^ iM I) = 0) (-1) (-3) (nI (wiA (hadB I L c sw si) (tn x) (2 ^ iM I))))) (i3 (¬ (0 ≤ x.toInt ∧ x.toInt < (iM I : Int))) (cb (hadB I L c sw si) (2 ^ iM I) = 0) S (fndS S 4) (tfS S 1 1 (wiA (hadB I L c sw si) (tn x) (2 ^ iM I)) (cb (hadB I L c sw si) (2 ^ iM I))))) 0 [(0, .ref 0), (1, .int x)] [] S
  refine x_aload_n 0 dX10_odds_0 rfl rfl ?_
  refine x_getR fX10_40 dX10_odds_1 l0 rfl ?_
  refine x_iload_n 1 dX10_odds_4 rfl rfl ?_
  refine x_callVb (as := [_]) (rest := []) vX10_176 (c_X1_isThing (Or.inl rfl) hI hO) dX10_odds_5 l11 rfl rfl rfl (Nat.le_of_ble_eq_true rfl) (Nat.le_of_ble_eq_true rfl) (Nat.le_of_ble_eq_true rfl) (fun c_5 => ?_) (fun c_5 => ?_)
  · refine t_if_ne 13 dX10_odds_8 (by decide) (by decide) ?_
    obtain ⟨t, ht, rfl⟩ := nI_ex (x := x) (n := iM I) (by omega) (by omega)
    have et : (nI t).toInt = (t : Int) := tiN (by omega)
    have tt : tn (nI t) = t := tnN (by omega)
    refine x_iconst (v := nI 0) dX10_odds_13 (by decide) ?_
    refine x_istore_n (lv' := [(2, _), (0, _), (1, _)]) dX10_odds_14 rfl (by decide) rfl ?_
    refine x_iconst (v := nI 0) dX10_odds_15 (by decide) ?_
    refine x_istore_n (lv' := [(3, _), (2, _), (0, _), (1, _)]) dX10_odds_16 rfl (by decide) rfl ?_
    refine x_iconst (v := nI 0) dX10_odds_17 (by decide) ?_
    refine x_istore (lv' := [(4, _), (3, _), (2, _), (0, _), (1, _)]) dX10_odds_18 (by decide) rfl ?_
    refine x_pick (lv' := [(4, _), (3, _), (2, _), (0, _), (1, _)]) [0, 1, 2, 3, 4] rfl ?_
    refine (lp_odX hI hO hc hs hL7 h0 hL ht 0 (Nat.zero_le _)).mono (fun v S' hq => ?_)
    obtain ⟨rfl, rfl⟩ := hq
    simp only [tt]
    by_cases hz : cb (hadB I L c sw si) (2 ^ iM I) = 0
    · rw [show i2 (cb (hadB I L c sw si) (2 ^ iM I) = 0) (-3) (nI (wiA (hadB I L c sw si) t (2 ^ iM I))) = (-3 : Int32) from e2_0 hz, e2_0 hz]; exact p3_1 (by omega) hz
    · rw [show i2 (cb (hadB I L c sw si) (2 ^ iM I) = 0) (-3) (nI (wiA (hadB I L c sw si) t (2 ^ iM I))) = nI (wiA (hadB I L c sw si) t (2 ^ iM I)) from e2_1 hz, e2_1 hz]; exact p3_2 (by omega) hz
  · refine u_if_ne 13 dX10_odds_8 (by decide) (by decide) ?_
    refine x_iconst (v := -1) dX10_odds_11 (by decide) ?_
    refine x_iret rfl dX10_odds_12 (p3_0 c_5)

