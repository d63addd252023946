/-! ===== steps ===== -/
noncomputable def mayB (I : Isl) (w : Nat → Nat) (L : Nat) : Nat → Bool := fun s => dec (mayF I w L (s / 7) (s % 7))
def cb (b : Nat → Bool) (n : Nat) : Nat := sm (fun s => if b s then 1 else 0) n
def fb (b : Nat → Bool) : Nat → Int32
  | 0 => -9
  | n + 1 => if cb b n = 0 ∧ b n = true then nI n else fb b n
theorem cb_s (b : Nat → Bool) (n : Nat) : cb b (n + 1) = cb b n + (if b n then 1 else 0) := rfl
theorem fb_s (b : Nat → Bool) (n : Nat) : fb b (n + 1) = if cb b n = 0 ∧ b n = true then nI n else fb b n := rfl
theorem cb_t {b : Nat → Bool} {n : Nat} (h : b n = true) : cb b (n + 1) = cb b n + 1 := by rw [cb_s, if_pos h]
theorem cb_f {b : Nat → Bool} {n : Nat} (h : ¬ b n = true) : cb b (n + 1) = cb b n := by rw [cb_s, if_neg h]; rfl
theorem nI_ne9 {n : Nat} (h : n < 2147483648) : ¬ nI n = -9 := fun q => by
  have := congrArg Int32.toInt q
  rw [tiN h, show (-9 : Int32).toInt = -9 from by decide] at this
  omega
theorem fb_iff {b : Nat → Bool} : ∀ {n : Nat}, n < 2147483648 → (fb b n = -9 ↔ cb b n = 0)
  | 0, _ => ⟨fun _ => rfl, fun _ => rfl⟩
  | n + 1, h => by
    have ih := fb_iff (b := b) (n := n) (by omega)
    rw [fb_s, cb_s]
    by_cases hb : b n = true
    · rw [if_pos hb]
      by_cases hc : cb b n = 0
      · rw [if_pos ⟨hc, hb⟩]; exact ⟨fun q => absurd q (nI_ne9 (by omega)), fun q => by omega⟩
      · rw [if_neg (fun q => hc q.1), ih]; omega
    · rw [if_neg hb, if_neg (fun q => hb q.2), ih]; exact Iff.rfl
theorem cb_le {b : Nat → Bool} : ∀ n, cb b n ≤ n
  | 0 => Nat.le_refl _
  | n + 1 => by rw [cb_s]; have := cb_le (b := b) n; split <;> omega
theorem fb_a {b : Nat → Bool} {a : Nat} (h : ¬ cb b a = 0) : ∀ n, fb b (a + n) = fb b a ∧ ¬ cb b (a + n) = 0
  | 0 => ⟨rfl, h⟩
  | n + 1 => by
    have ⟨h1, h2⟩ := fb_a h n
    refine ⟨?_, ?_⟩
    · rw [← Nat.add_assoc, fb_s, if_neg (fun q => h2 q.1), h1]
    · rw [← Nat.add_assoc, cb_s]; omega
theorem fb_b {b : Nat → Bool} {a : Nat} : ∀ n, (∀ i, i < n → ¬ b (a + i) = true) → fb b (a + n) = fb b a ∧ cb b (a + n) = cb b a
  | 0, _ => ⟨rfl, rfl⟩
  | n + 1, h => by
    have ⟨h1, h2⟩ := fb_b (b := b) (a := a) n (fun i hi => h i (by omega))
    have h3 := h n (by omega)
    exact ⟨by rw [← Nat.add_assoc, fb_s, if_neg (fun q => h3 q.2), h1], by rw [← Nat.add_assoc, cb_f h3, h2]⟩
theorem fb_c {b : Nat → Bool} {a l n : Nat} (h0 : cb b a = 0) (hl : l < n) (hb : b (a + l) = true) (hn : ∀ i, i < l → ¬ b (a + i) = true) : fb b (a + n) = nI (a + l) := by
  have ⟨h1, h2⟩ := fb_b (b := b) (a := a) l hn
  have h3 : fb b (a + l + 1) = nI (a + l) := by rw [fb_s, if_pos ⟨h2.trans h0, hb⟩]
  have h4 : ¬ cb b (a + l + 1) = 0 := by rw [cb_t hb]; omega
  have ⟨h5, _⟩ := fb_a h4 (n - (l + 1))
  rw [show a + l + 1 + (n - (l + 1)) = a + n by omega] at h5
  rw [h5, h3]
theorem sm_add (f : Nat → Nat) (a : Nat) : ∀ n, sm f (a + n) = sm f a + sm (fun i => f (a + i)) n
  | 0 => rfl
  | n + 1 => by rw [← Nat.add_assoc, sm_s, sm_s, sm_add f a n, Nat.add_assoc]
theorem bit01 (m i : Nat) : m / 2 ^ i % 2 = if m.testBit i then 1 else 0 := by
  by_cases h : m.testBit i = true
  · rw [if_pos h, has_iff.mpr h]
  · rw [if_neg h]
    have := mt has_iff.mp h
    omega
theorem mayB_7 {I : Isl} {w : Nat → Nat} {L t i : Nat} (hi : i < 7) : mayB I w L (7 * t + i) = dec (mayF I w L t i) := by
  unfold mayB
  rw [show (7 * t + i) / 7 = t by omega, show (7 * t + i) % 7 = i by omega]
theorem mayB_t {I : Isl} {w : Nat → Nat} {L t i : Nat} (hO : IOK I) (hi : i < 7) : mayB I w L (7 * t + i) = (tgF I w L t).testBit i := by
  rw [mayB_7 hi]
  by_cases h : mayF I w L t i
  · rw [dec_t h, (tgF_bit hO).mpr h]
  · rw [dec_f h]
    exact (Bool.eq_false_iff.mpr (mt (tgF_bit hO).mp h)).symm
theorem cb7 {I : Isl} {w : Nat → Nat} {L t : Nat} (hO : IOK I) : cb (mayB I w L) (7 * (t + 1)) = cb (mayB I w L) (7 * t) + popF (tgF I w L t) := by
  rw [show 7 * (t + 1) = 7 * t + 7 by omega]
  unfold cb
  rw [sm_add]
  congr 1
  unfold popF
  rw [sm_s (fun i => tgF I w L t / 2 ^ i % 2) 7, show tgF I w L t / 2 ^ 7 % 2 = 0 by have := tgF_lt I w L t; omega, Nat.add_zero]
  refine sm_congr fun i hi => ?_
  rw [bit01, mayB_t hO hi]
theorem tgF_nz {I : Isl} {w : Nat → Nat} {L t : Nat} (h : ∀ i, i < 7 → ¬ (tgF I w L t).testBit i = true) : tgF I w L t = 0 := by
  apply Nat.eq_of_testBit_eq
  intro i
  rw [Nat.zero_testBit]
  by_cases hi : i < 7
  · exact Bool.eq_false_iff.mpr (h i hi)
  · exact Nat.testBit_lt_two_pow (Nat.lt_of_lt_of_le (tgF_lt I w L t) (Nat.pow_le_pow_right (n := 2) (i := 7) (by decide) (by omega)))

set_option maxHeartbeats 4000000 in
set_option maxRecDepth 100000 in
theorem lp_lowest {S : St} {m : Nat} (hm7 : m < 128) (hm0 : ∃ i, i < 7 ∧ m.testBit i = true) : ∀ (i : Nat), (i ≤ 7) → (∀ j, j < i → ¬ m.testBit j = true) → X 0 0 mX10_lowest (qi (fun r S' => S' = S ∧ ∃ l, r = nI l ∧ l < 7 ∧ m.testBit l = true ∧ ∀ j, j < l → ¬ m.testBit j = true)) 2 [(1, .int (nI i)), (0, .int (nI m))] [] S := by
  intro i
  induction hm : 7 - i using Nat.strongRecOn generalizing i with
  | _ mm ih =>
    intro hi hn
    refine x_iload_n 0 dX10_lowest_2 rfl rfl ?_
    refine x_bipush (v := nI 7) dX10_lowest_3 (by decide) ?_
    refine y_ic_ge 24 dX10_lowest_5 (by decide) (by omega) (by omega) (fun c_5 => ?_) (fun c_5 => ?_)
    · refine x_bipush (v := -9) dX10_lowest_24 (by decide) ?_
      refine x_iret rfl dX10_lowest_26 (by obtain ⟨i0, h1, h2⟩ := hm0; exact absurd h2 (hn i0 (by omega)))
    · refine x_iload_n 1 dX10_lowest_8 rfl rfl ?_
      refine x_iload_n 0 dX10_lowest_9 rfl rfl ?_
      refine y_ishr dX10_lowest_10 (by omega) (by omega) ?_
      refine x_iconst (v := nI 1) dX10_lowest_11 (by decide) ?_
      refine y_iand dX10_lowest_12 ?_
      rw [show ((m / 2 ^ i) &&& 1) = (m / 2 ^ i % 2) from by rw [Nat.and_one_is_mod]]
      refine y_if_eq 18 dX10_lowest_13 (by decide) (by omega) (fun c_13 => ?_) (fun c_13 => ?_)
      · refine y_iinc (lv' := [(1, _), (0, _)]) 0 dX10_lowest_18 rfl (by decide) rfl ?_
        refine x_goto 2 dX10_lowest_21 (by decide) ?_
        refine x_pick (lv' := [(1, _), (0, _)]) [0, 1] rfl ?_
        exact ih (7 - (i + 1)) (by omega) (i + 1) rfl (by omega) (fun j hj => by rcases Nat.lt_succ_iff_lt_or_eq.mp hj with h | h; exact hn j h; subst h; exact fun q => absurd (has_iff.mpr q) (by omega))
      · refine x_iload_n 0 dX10_lowest_16 rfl rfl ?_
        refine x_iret rfl dX10_lowest_17 ⟨_, rfl, rfl, i, rfl, by omega, has_iff.mp (by omega), hn⟩

set_option maxHeartbeats 4000000 in
set_option maxRecDepth 100000 in
theorem c_X10_lowest {S : St} {m : Nat} (hm7 : m < 128) (hm0 : ∃ i, i < 7 ∧ m.testBit i = true) : C 0 0 yX10_lowest mX10_lowest [.int (nI m)] S (qi (fun r S' => S' = S ∧ ∃ l, r = nI l ∧ l < 7 ∧ m.testBit l = true ∧ ∀ j, j < l → ¬ m.testBit j = true)) := by
  refine C.ofX (by decide) rfl (Nat.le_of_ble_eq_true rfl) ?_
  show X 0 0 mX10_lowest (qi (fun r S' => S' = S ∧ ∃ l, r = nI l ∧ l < 7 ∧ m.testBit l = true ∧ ∀ j, j < l → ¬ m.testBit j = true)) 0 [(0, .int (nI m))] [] S
  refine x_iconst (v := nI 0) dX10_lowest_0 (by decide) ?_
  refine x_istore_n (lv' := [(1, _), (0, _)]) dX10_lowest_1 rfl (by decide) rfl ?_
  refine x_pick (lv' := [(1, _), (0, _)]) [0, 1] rfl ?_
  exact lp_lowest hm7 hm0 0 (by omega) (fun j hj => absurd hj (Nat.not_lt_zero j))

set_option maxHeartbeats 4000000 in
set_option maxRecDepth 100000 in
theorem lp_stepsX {S : St} {I : Isl} (hI : IsX 11 I S) (hO : IOK I) {w : Nat → Nat} (hP : PlT 35 I w S) {L : Nat} (hL : S.1 35 5 = nI L) (hL7 : L ≤ 6) (hv : VS I w L)  : ∀ (i : Nat), (i ≤ iM I) → X 3 90 mX10_steps (pu (.int (nI (cb (mayB I w L) (7 * iM I)))) (setI S 1 0 (fb (mayB I w L) (7 * iM I)))) 7 [(3, .int (nI i)), (2, .int (fb (mayB I w L) (7 * i))), (1, .int (nI ((cb (mayB I w L) (7 * i))))), (0, .ref 0)] [] S := by
  intro i
  induction hm : iM I - i using Nat.strongRecOn generalizing i with
  | _ mm ih =>
    intro hi
    have hO1 := hO.1
    have hO2 := hO.2.1
    have hO3 := hO.2.2.1
    have hO4 := hO.2.2.2.1
    have hw := hv.ok hO
    have hw7 := hw.w7 hO
    have htl := tgF_lt I w L i
    refine x_iload_n 0 dX10_steps_7 rfl rfl ?_
    refine x_aload_n 3 dX10_steps_8 rfl rfl ?_
    refine x_getR fX10_40 dX10_steps_9 l0 rfl ?_
    refine y_getI fX10_173 dX10_steps_12 l11 rfl hI.2.1 ?_
    refine y_ic_ge 64 dX10_steps_15 (by decide) (by omega) (by omega) (fun c_15 => ?_) (fun c_15 => ?_)
    · refine x_aload_n 3 dX10_steps_64 rfl rfl ?_
      refine x_getR fX10_10 dX10_steps_65 l0 rfl ?_
      refine x_iload_n 1 dX10_steps_68 rfl rfl ?_
      refine x_callVu (as := [_]) (rest := []) vX10_131 c_X9_tell dX10_steps_69 l1 rfl rfl rfl (Nat.le_of_ble_eq_true rfl) (Nat.le_of_ble_eq_true rfl) (Nat.le_of_ble_eq_true rfl) ?_
      refine x_pop dX10_steps_72 rfl ?_
      refine x_iload_n 2 dX10_steps_73 rfl rfl ?_
      refine x_iret rfl dX10_steps_74 (by obtain rfl : i = iM I := (by omega); exact ⟨rfl, rfl⟩)
    · refine x_aload_n 3 dX10_steps_18 rfl rfl ?_
      refine x_getR fX10_49 dX10_steps_19 l0 rfl ?_
      refine x_iload_n 0 dX10_steps_22 rfl rfl ?_
      refine x_callVu (as := [_]) (rest := []) vX10_253 (c_X3_targets (Or.inl rfl) hI hO hP hL (by omega) hw (hv.whom hO) (by omega)) dX10_steps_23 l35 rfl rfl rfl (Nat.le_of_ble_eq_true rfl) (Nat.le_of_ble_eq_true rfl) (Nat.le_of_ble_eq_true rfl) ?_
      refine x_istore (lv' := [(4, _), (3, _), (2, _), (1, _), (0, _)]) dX10_steps_26 (by decide) rfl ?_
      refine x_iload_n 3 dX10_steps_28 rfl rfl ?_
      refine x_iload 0 dX10_steps_29 rfl ?_
      refine x_callSu (as := [_]) (rest := [_]) sX10_213 (c_J6_bitCount_0f7a4 (by omega)) dX10_steps_31 rfl rfl (Nat.le_of_ble_eq_true rfl) (Nat.le_of_ble_eq_true rfl) (Nat.le_of_ble_eq_true rfl) ?_
      refine y_iadd dX10_steps_34 ?_
      refine x_istore_n (lv' := [(1, _), (4, _), (3, _), (2, _), (0, _)]) dX10_steps_35 rfl (by decide) rfl ?_
      refine x_iload_n 3 dX10_steps_36 rfl rfl ?_
      refine x_bipush (v := -9) dX10_steps_37 (by decide) ?_
      refine x_ic_ne 58 dX10_steps_39 (by decide) (fun c_39 => ?_) (fun c_39 => ?_)
      · rw [show ((cb (mayB I w L) (7 * i)) + (popF (tgF I w L i))) = (cb (mayB I w L) (7 * (i + 1))) from by rw [cb7 hO]]
        rw [show fb (mayB I w L) (7 * i) = fb (mayB I w L) (7 * (i + 1)) from by rw [show 7 * (i + 1) = 7 * i + 7 by omega]; first | exact (fb_a (fun q => c_39 ((fb_iff (by omega)).mpr q)) 7).1.symm | exact (fb_b 7 (fun j hj => by rw [mayB_t hO hj, c_44, Nat.zero_testBit]; decide)).1.symm]
        refine y_iinc (lv' := [(3, _), (1, _), (4, _), (2, _), (0, _)]) 2 dX10_steps_58 rfl (by decide) rfl ?_
        refine x_goto 7 dX10_steps_61 (by decide) ?_
        refine x_pick (lv' := [(3, _), (2, _), (1, _), (0, _)]) [0, 3, 1, 4] rfl ?_
        exact ih (iM I - (i + 1)) (by omega) (i + 1) rfl (by omega)
      · refine x_iload 1 dX10_steps_42 rfl ?_
        refine y_if_eq 58 dX10_steps_44 (by decide) (by omega) (fun c_44 => ?_) (fun c_44 => ?_)
        · rw [show ((cb (mayB I w L) (7 * i)) + (popF (tgF I w L i))) = (cb (mayB I w L) (7 * (i + 1))) from by rw [cb7 hO]]
          rw [show fb (mayB I w L) (7 * i) = fb (mayB I w L) (7 * (i + 1)) from by rw [show 7 * (i + 1) = 7 * i + 7 by omega]; first | exact (fb_a (fun q => c_39 ((fb_iff (by omega)).mpr q)) 7).1.symm | exact (fb_b 7 (fun j hj => by rw [mayB_t hO hj, c_44, Nat.zero_testBit]; decide)).1.symm]
          refine y_iinc (lv' := [(3, _), (1, _), (4, _), (2, _), (0, _)]) 2 dX10_steps_58 rfl (by decide) rfl ?_
          refine x_goto 7 dX10_steps_61 (by decide) ?_
          refine x_pick (lv' := [(3, _), (2, _), (1, _), (0, _)]) [0, 3, 1, 4] rfl ?_
          exact ih (iM I - (i + 1)) (by omega) (i + 1) rfl (by omega)
        · refine x_bipush (v := nI 7) dX10_steps_47 (by decide) ?_
          refine x_iload_n 2 dX10_steps_49 rfl rfl ?_
          refine y_imul dX10_steps_50 ?_
          refine x_iload 1 dX10_steps_51 rfl ?_
          refine x_callSqi (as := [_]) (rest := [_]) sX10_256 (c_X10_lowest htl (Classical.byContradiction fun h => c_44 (tgF_nz fun j hj q => h ⟨j, hj, q⟩))) dX10_steps_53 rfl rfl (Nat.le_of_ble_eq_true rfl) (Nat.le_of_ble_eq_true rfl) (Nat.le_of_ble_eq_true rfl) (fun r_53 S_53 q_53 => ?_)
          obtain ⟨rfl, lw, rfl, hl7, hlb, hln⟩ := q_53
          refine y_iadd dX10_steps_56 ?_
          refine x_istore_n (lv' := [(2, _), (1, _), (4, _), (3, _), (0, _)]) dX10_steps_57 rfl (by decide) rfl ?_
          rw [show ((cb (mayB I w L) (7 * i)) + (popF (tgF I w L i))) = (cb (mayB I w L) (7 * (i + 1))) from by rw [cb7 hO]]
          rw [show nI ((7 * i) + lw) = fb (mayB I w L) (7 * (i + 1)) from by rw [show 7 * (i + 1) = 7 * i + 7 by omega]; exact (fb_c ((fb_iff (by omega)).mp c_39) hl7 (by rw [mayB_t hO hl7]; exact hlb) (fun j hj => by rw [mayB_t hO (by omega)]; exact hln j hj)).symm]
          refine y_iinc (lv' := [(3, _), (2, _), (1, _), (4, _), (0, _)]) 3 dX10_steps_58 rfl (by decide) rfl ?_
          refine x_goto 7 dX10_steps_61 (by decide) ?_
          refine x_pick (lv' := [(3, _), (2, _), (1, _), (0, _)]) [0, 1, 2, 4] rfl ?_
          exact ih (iM I - (i + 1)) (by omega) (i + 1) rfl (by omega)

set_option maxHeartbeats 4000000 in
set_option maxRecDepth 100000 in
theorem c_X10_steps {S : St} {I : Isl} (hI : IsX 11 I S) (hO : IOK I) {w : Nat → Nat} (hP : PlT 35 I w S) {L : Nat} (hL : S.1 35 5 = nI L) (hL7 : L ≤ 6) (hv : VS I w L)  : C 3 90 yX10_steps mX10_steps [.ref 0] S (pu (.int (nI (cb (mayB I w L) (7 * iM I)))) (setI S 1 0 (fb (mayB I w L) (7 * iM I)))) := by
  refine C.ofX (by decide) rfl (Nat.le_of_ble_eq_true rfl) ?_
  show X 3 90 mX10_steps (pu (.int (nI (cb (mayB I w L) (7 * iM I)))) (setI S 1 0 (fb (mayB I w L) (7 * iM I)))) 0 [(0, .ref 0)] [] S
  refine x_iconst (v := nI 0) dX10_steps_0 (by decide) ?_
  refine x_istore_n (lv' := [(1, _), (0, _)]) dX10_steps_1 rfl (by decide) rfl ?_
  refine x_bipush (v := -9) dX10_steps_2 (by decide) ?_
  refine x_istore_n (lv' := [(2, _), (1, _), (0, _)]) dX10_steps_4 rfl (by decide) rfl ?_
  refine x_iconst (v := nI 0) dX10_steps_5 (by decide) ?_
  refine x_istore_n (lv' := [(3, _), (2, _), (1, _), (0, _)]) dX10_steps_6 rfl (by decide) rfl ?_
  refine x_pick (lv' := [(3, _), (2, _), (1, _), (0, _)]) [0, 1, 2, 3] rfl ?_
  exact lp_stepsX hI hO hP hL hL7 hv 0 (Nat.zero_le _)

