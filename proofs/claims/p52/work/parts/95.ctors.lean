theorem cfX0 : CF 0 RX0 TX0 6 tyX0 := ⟨rfl, inlX0, tyX0_ok, nmX0⟩
abbrev blX0 : List Value := [.null, .null, .null, .null, .null, .null]
theorem blX0_ok : ∀ j, j < 6 → defaultValue (tyX0 j) = vp_V blX0 j := by decide +kernel
theorem cfX1 : CF 1 RX1 TX1 15 tyX1 := ⟨rfl, inlX1, tyX1_ok, nmX1⟩
abbrev blX1 : List Value := [.int 0, .int 0, .int 0, .int 0, .null, .null, .null, .null, .null, .null, .null, .null, .null, .null, .null]
theorem blX1_ok : ∀ j, j < 15 → defaultValue (tyX1 j) = vp_V blX1 j := by decide +kernel
theorem cfX2 : CF 2 RX2 TX2 3 tyX2 := ⟨rfl, inlX2, tyX2_ok, nmX2⟩
abbrev blX2 : List Value := [.int 0, .null, .null]
theorem blX2_ok : ∀ j, j < 3 → defaultValue (tyX2 j) = vp_V blX2 j := by decide +kernel
theorem cfX3 : CF 3 RX3 TX3 6 tyX3 := ⟨rfl, inlX3, tyX3_ok, nmX3⟩
abbrev blX3 : List Value := [.null, .null, .null, .null, .null, .int 0]
theorem blX3_ok : ∀ j, j < 6 → defaultValue (tyX3 j) = vp_V blX3 j := by decide +kernel
theorem cfX4 : CF 4 RX4 TX4 5 tyX4 := ⟨rfl, inlX4, tyX4_ok, nmX4⟩
abbrev blX4 : List Value := [.null, .null, .null, .int 0, .int 0]
theorem blX4_ok : ∀ j, j < 5 → defaultValue (tyX4 j) = vp_V blX4 j := by decide +kernel
theorem cfX5 : CF 5 RX5 TX5 3 tyX5 := ⟨rfl, inlX5, tyX5_ok, nmX5⟩
abbrev blX5 : List Value := [.int 0, .null, .null]
theorem blX5_ok : ∀ j, j < 3 → defaultValue (tyX5 j) = vp_V blX5 j := by decide +kernel
theorem cfX6 : CF 6 RX6 TX6 10 tyX6 := ⟨rfl, inlX6, tyX6_ok, nmX6⟩
abbrev blX6 : List Value := [.null, .null, .null, .null, .null, .null, .int 0, .int 0, .int 0, .int 0]
theorem blX6_ok : ∀ j, j < 10 → defaultValue (tyX6 j) = vp_V blX6 j := by decide +kernel
theorem cfX7 : CF 7 RX7 TX7 6 tyX7 := ⟨rfl, inlX7, tyX7_ok, nmX7⟩
abbrev blX7 : List Value := [.int 0, .null, .null, .null, .null, .null]
theorem blX7_ok : ∀ j, j < 6 → defaultValue (tyX7 j) = vp_V blX7 j := by decide +kernel
theorem cfX8 : CF 8 RX8 TX8 4 tyX8 := ⟨rfl, inlX8, tyX8_ok, nmX8⟩
abbrev blX8 : List Value := [.null, .null, .null, .null]
theorem blX8_ok : ∀ j, j < 4 → defaultValue (tyX8 j) = vp_V blX8 j := by decide +kernel
theorem cfX9 : CF 9 RX9 TX9 5 tyX9 := ⟨rfl, inlX9, tyX9_ok, nmX9⟩
abbrev blX9 : List Value := [.int 0, .long 0, .long 0, .int 0, .null]
theorem blX9_ok : ∀ j, j < 5 → defaultValue (tyX9 j) = vp_V blX9 j := by decide +kernel
theorem cfX10 : CF 10 RX10 TX10 14 tyX10 := ⟨rfl, inlX10, tyX10_ok, nmX10⟩
abbrev blX10 : List Value := [.null, .null, .null, .null, .null, .null, .null, .null, .null, .null, .null, .null, .null, .null]
theorem blX10_ok : ∀ j, j < 14 → defaultValue (tyX10 j) = vp_V blX10 j := by decide +kernel
def wF6 (CA : Nat → ClassId) (a0 : Nat) : va_W := [(a0, .inl (CA 0, 6, .inl (fun _ => (-1))))]
set_option maxRecDepth 100000 in
set_option maxHeartbeats 4000000 in
theorem kiF6 (D : va_G) (CA : Nat → ClassId) (a0 : Nat) : KI yJ7_fill_53178 cJ7_fill_53178 4 0 0 0 0 [.ref a0, .int (-1)] D CA [(a0, .inl (CA 0, 6, .inl (fun _ => 0)))] (fun w => w = wF6 CA a0) := by
  refine KI.of (by decide +kernel) (Nat.le_of_ble_eq_true rfl) (fun p l e R s m args below meth c A hC hr hlk hin => ?_)
  refine cz_iconst (v := 0) hC dJ7_fill_53178_0 (by decide +kernel) ?_
  refine cz_istore_n (lv' := [(2, .int 0), (0, .ref a0), (1, .int (-1))]) hC dJ7_fill_53178_1 rfl (by decide) rfl ?_
  refine cz_aload_n hC 1 dJ7_fill_53178_2 rfl rfl ?_
  refine cz_alen (q := 0) (N := 6) (v := 6) hC rfl (by decide +kernel) dJ7_fill_53178_3 ?_
  refine cz_istore_n (lv' := [(3, .int 6), (2, .int 0), (0, .ref a0), (1, .int (-1))]) hC dJ7_fill_53178_4 rfl (by decide) rfl ?_
  refine cz_iload_n hC 1 dJ7_fill_53178_5 rfl rfl ?_
  refine cz_iload_n hC 0 dJ7_fill_53178_6 rfl rfl ?_
  refine cz_nge hC 20 dJ7_fill_53178_7 (by decide) (by decide +kernel) ?_
  refine cz_aload_n hC 2 dJ7_fill_53178_10 rfl rfl ?_
  refine cz_iload_n hC 1 dJ7_fill_53178_11 rfl rfl ?_
  refine cz_iload_n hC 3 dJ7_fill_53178_12 rfl rfl ?_
  refine cz_iast (q := 0) (N := 6) hC rfl (by unfold vp_in; decide +kernel) dJ7_fill_53178_13 ?_
  refine cz_iinc (v := 1) (lv' := [(2, .int 1), (3, .int 6), (0, .ref a0), (1, .int (-1))]) hC 1 dJ7_fill_53178_14 rfl (by decide +kernel) (by decide) rfl ?_
  refine cz_goto hC 5 dJ7_fill_53178_17 (by decide) ?_
  refine cz_at (pc' := 5) rfl rfl ?_
  refine cz_iload_n hC 0 dJ7_fill_53178_5 rfl rfl ?_
  refine cz_iload_n hC 1 dJ7_fill_53178_6 rfl rfl ?_
  refine cz_nge hC 20 dJ7_fill_53178_7 (by decide) (by decide +kernel) ?_
  refine cz_aload_n hC 2 dJ7_fill_53178_10 rfl rfl ?_
  refine cz_iload_n hC 0 dJ7_fill_53178_11 rfl rfl ?_
  refine cz_iload_n hC 3 dJ7_fill_53178_12 rfl rfl ?_
  refine cz_iast (q := 0) (N := 6) hC rfl (by unfold vp_in; decide +kernel) dJ7_fill_53178_13 ?_
  refine cz_iinc (v := 2) (lv' := [(2, .int 2), (3, .int 6), (0, .ref a0), (1, .int (-1))]) hC 0 dJ7_fill_53178_14 rfl (by decide +kernel) (by decide) rfl ?_
  refine cz_goto hC 5 dJ7_fill_53178_17 (by decide) ?_
  refine cz_at (pc' := 5) rfl rfl ?_
  refine cz_iload_n hC 0 dJ7_fill_53178_5 rfl rfl ?_
  refine cz_iload_n hC 1 dJ7_fill_53178_6 rfl rfl ?_
  refine cz_nge hC 20 dJ7_fill_53178_7 (by decide) (by decide +kernel) ?_
  refine cz_aload_n hC 2 dJ7_fill_53178_10 rfl rfl ?_
  refine cz_iload_n hC 0 dJ7_fill_53178_11 rfl rfl ?_
  refine cz_iload_n hC 3 dJ7_fill_53178_12 rfl rfl ?_
  refine cz_iast (q := 0) (N := 6) hC rfl (by unfold vp_in; decide +kernel) dJ7_fill_53178_13 ?_
  refine cz_iinc (v := 3) (lv' := [(2, .int 3), (3, .int 6), (0, .ref a0), (1, .int (-1))]) hC 0 dJ7_fill_53178_14 rfl (by decide +kernel) (by decide) rfl ?_
  refine cz_goto hC 5 dJ7_fill_53178_17 (by decide) ?_
  refine cz_at (pc' := 5) rfl rfl ?_
  refine cz_iload_n hC 0 dJ7_fill_53178_5 rfl rfl ?_
  refine cz_iload_n hC 1 dJ7_fill_53178_6 rfl rfl ?_
  refine cz_nge hC 20 dJ7_fill_53178_7 (by decide) (by decide +kernel) ?_
  refine cz_aload_n hC 2 dJ7_fill_53178_10 rfl rfl ?_
  refine cz_iload_n hC 0 dJ7_fill_53178_11 rfl rfl ?_
  refine cz_iload_n hC 3 dJ7_fill_53178_12 rfl rfl ?_
  refine cz_iast (q := 0) (N := 6) hC rfl (by unfold vp_in; decide +kernel) dJ7_fill_53178_13 ?_
  refine cz_iinc (v := 4) (lv' := [(2, .int 4), (3, .int 6), (0, .ref a0), (1, .int (-1))]) hC 0 dJ7_fill_53178_14 rfl (by decide +kernel) (by decide) rfl ?_
  refine cz_goto hC 5 dJ7_fill_53178_17 (by decide) ?_
  refine cz_at (pc' := 5) rfl rfl ?_
  refine cz_iload_n hC 0 dJ7_fill_53178_5 rfl rfl ?_
  refine cz_iload_n hC 1 dJ7_fill_53178_6 rfl rfl ?_
  refine cz_nge hC 20 dJ7_fill_53178_7 (by decide) (by decide +kernel) ?_
  refine cz_aload_n hC 2 dJ7_fill_53178_10 rfl rfl ?_
  refine cz_iload_n hC 0 dJ7_fill_53178_11 rfl rfl ?_
  refine cz_iload_n hC 3 dJ7_fill_53178_12 rfl rfl ?_
  refine cz_iast (q := 0) (N := 6) hC rfl (by unfold vp_in; decide +kernel) dJ7_fill_53178_13 ?_
  refine cz_iinc (v := 5) (lv' := [(2, .int 5), (3, .int 6), (0, .ref a0), (1, .int (-1))]) hC 0 dJ7_fill_53178_14 rfl (by decide +kernel) (by decide) rfl ?_
  refine cz_goto hC 5 dJ7_fill_53178_17 (by decide) ?_
  refine cz_at (pc' := 5) rfl rfl ?_
  refine cz_iload_n hC 0 dJ7_fill_53178_5 rfl rfl ?_
  refine cz_iload_n hC 1 dJ7_fill_53178_6 rfl rfl ?_
  refine cz_nge hC 20 dJ7_fill_53178_7 (by decide) (by decide +kernel) ?_
  refine cz_aload_n hC 2 dJ7_fill_53178_10 rfl rfl ?_
  refine cz_iload_n hC 0 dJ7_fill_53178_11 rfl rfl ?_
  refine cz_iload_n hC 3 dJ7_fill_53178_12 rfl rfl ?_
  refine cz_iast (q := 0) (N := 6) hC rfl (by unfold vp_in; decide +kernel) dJ7_fill_53178_13 ?_
  refine cz_iinc (v := 6) (lv' := [(2, .int 6), (3, .int 6), (0, .ref a0), (1, .int (-1))]) hC 0 dJ7_fill_53178_14 rfl (by decide +kernel) (by decide) rfl ?_
  refine cz_goto hC 5 dJ7_fill_53178_17 (by decide) ?_
  refine cz_at (pc' := 5) rfl rfl ?_
  refine cz_iload_n hC 0 dJ7_fill_53178_5 rfl rfl ?_
  refine cz_iload_n hC 1 dJ7_fill_53178_6 rfl rfl ?_
  refine cz_ge hC 20 dJ7_fill_53178_7 (by decide) (by decide +kernel) ?_
  refine cz_same (q := 0) (a := a0) (cA := CA 0) (N := 6) (f' := fun _ => (-1)) rfl (by decide +kernel) ?_
  refine cz_at (pc' := 20) (ws' := [(a0, .inl (CA 0, 6, .inl (fun _ => (-1))))]) rfl rfl ?_
  exact cz_ret hC hr hlk dJ7_fill_53178_20 (Nat.le_of_ble_eq_true rfl) (Nat.le_of_ble_eq_true rfl) rfl
def wF4 (CA : Nat → ClassId) (a0 : Nat) : va_W := [(a0, .inl (CA 0, 4, .inl (fun _ => (-1))))]
set_option maxRecDepth 100000 in
set_option maxHeartbeats 4000000 in
theorem kiF4 (D : va_G) (CA : Nat → ClassId) (a0 : Nat) : KI yJ7_fill_53178 cJ7_fill_53178 4 0 0 0 0 [.ref a0, .int (-1)] D CA [(a0, .inl (CA 0, 4, .inl (fun _ => 0)))] (fun w => w = wF4 CA a0) := by
  refine KI.of (by decide +kernel) (Nat.le_of_ble_eq_true rfl) (fun p l e R s m args below meth c A hC hr hlk hin => ?_)
  refine cz_iconst (v := 0) hC dJ7_fill_53178_0 (by decide +kernel) ?_
  refine cz_istore_n (lv' := [(2, .int 0), (0, .ref a0), (1, .int (-1))]) hC dJ7_fill_53178_1 rfl (by decide) rfl ?_
  refine cz_aload_n hC 1 dJ7_fill_53178_2 rfl rfl ?_
  refine cz_alen (q := 0) (N := 4) (v := 4) hC rfl (by decide +kernel) dJ7_fill_53178_3 ?_
  refine cz_istore_n (lv' := [(3, .int 4), (2, .int 0), (0, .ref a0), (1, .int (-1))]) hC dJ7_fill_53178_4 rfl (by decide) rfl ?_
  refine cz_iload_n hC 1 dJ7_fill_53178_5 rfl rfl ?_
  refine cz_iload_n hC 0 dJ7_fill_53178_6 rfl rfl ?_
  refine cz_nge hC 20 dJ7_fill_53178_7 (by decide) (by decide +kernel) ?_
  refine cz_aload_n hC 2 dJ7_fill_53178_10 rfl rfl ?_
  refine cz_iload_n hC 1 dJ7_fill_53178_11 rfl rfl ?_
  refine cz_iload_n hC 3 dJ7_fill_53178_12 rfl rfl ?_
  refine cz_iast (q := 0) (N := 4) hC rfl (by unfold vp_in; decide +kernel) dJ7_fill_53178_13 ?_
  refine cz_iinc (v := 1) (lv' := [(2, .int 1), (3, .int 4), (0, .ref a0), (1, .int (-1))]) hC 1 dJ7_fill_53178_14 rfl (by decide +kernel) (by decide) rfl ?_
  refine cz_goto hC 5 dJ7_fill_53178_17 (by decide) ?_
  refine cz_at (pc' := 5) rfl rfl ?_
  refine cz_iload_n hC 0 dJ7_fill_53178_5 rfl rfl ?_
  refine cz_iload_n hC 1 dJ7_fill_53178_6 rfl rfl ?_
  refine cz_nge hC 20 dJ7_fill_53178_7 (by decide) (by decide +kernel) ?_
  refine cz_aload_n hC 2 dJ7_fill_53178_10 rfl rfl ?_
  refine cz_iload_n hC 0 dJ7_fill_53178_11 rfl rfl ?_
  refine cz_iload_n hC 3 dJ7_fill_53178_12 rfl rfl ?_
  refine cz_iast (q := 0) (N := 4) hC rfl (by unfold vp_in; decide +kernel) dJ7_fill_53178_13 ?_
  refine cz_iinc (v := 2) (lv' := [(2, .int 2), (3, .int 4), (0, .ref a0), (1, .int (-1))]) hC 0 dJ7_fill_53178_14 rfl (by decide +kernel) (by decide) rfl ?_
  refine cz_goto hC 5 dJ7_fill_53178_17 (by decide) ?_
  refine cz_at (pc' := 5) rfl rfl ?_
  refine cz_iload_n hC 0 dJ7_fill_53178_5 rfl rfl ?_
  refine cz_iload_n hC 1 dJ7_fill_53178_6 rfl rfl ?_
  refine cz_nge hC 20 dJ7_fill_53178_7 (by decide) (by decide +kernel) ?_
  refine cz_aload_n hC 2 dJ7_fill_53178_10 rfl rfl ?_
  refine cz_iload_n hC 0 dJ7_fill_53178_11 rfl rfl ?_
  refine cz_iload_n hC 3 dJ7_fill_53178_12 rfl rfl ?_
  refine cz_iast (q := 0) (N := 4) hC rfl (by unfold vp_in; decide +kernel) dJ7_fill_53178_13 ?_
  refine cz_iinc (v := 3) (lv' := [(2, .int 3), (3, .int 4), (0, .ref a0), (1, .int (-1))]) hC 0 dJ7_fill_53178_14 rfl (by decide +kernel) (by decide) rfl ?_
  refine cz_goto hC 5 dJ7_fill_53178_17 (by decide) ?_
  refine cz_at (pc' := 5) rfl rfl ?_
  refine cz_iload_n hC 0 dJ7_fill_53178_5 rfl rfl ?_
  refine cz_iload_n hC 1 dJ7_fill_53178_6 rfl rfl ?_
  refine cz_nge hC 20 dJ7_fill_53178_7 (by decide) (by decide +kernel) ?_
  refine cz_aload_n hC 2 dJ7_fill_53178_10 rfl rfl ?_
  refine cz_iload_n hC 0 dJ7_fill_53178_11 rfl rfl ?_
  refine cz_iload_n hC 3 dJ7_fill_53178_12 rfl rfl ?_
  refine cz_iast (q := 0) (N := 4) hC rfl (by unfold vp_in; decide +kernel) dJ7_fill_53178_13 ?_
  refine cz_iinc (v := 4) (lv' := [(2, .int 4), (3, .int 4), (0, .ref a0), (1, .int (-1))]) hC 0 dJ7_fill_53178_14 rfl (by decide +kernel) (by decide) rfl ?_
  refine cz_goto hC 5 dJ7_fill_53178_17 (by decide) ?_
  refine cz_at (pc' := 5) rfl rfl ?_
  refine cz_iload_n hC 0 dJ7_fill_53178_5 rfl rfl ?_
  refine cz_iload_n hC 1 dJ7_fill_53178_6 rfl rfl ?_
  refine cz_ge hC 20 dJ7_fill_53178_7 (by decide) (by decide +kernel) ?_
  refine cz_same (q := 0) (a := a0) (cA := CA 0) (N := 4) (f' := fun _ => (-1)) rfl (by decide +kernel) ?_
  refine cz_at (pc' := 20) (ws' := [(a0, .inl (CA 0, 4, .inl (fun _ => (-1))))]) rfl rfl ?_
  exact cz_ret hC hr hlk dJ7_fill_53178_20 (Nat.le_of_ble_eq_true rfl) (Nat.le_of_ble_eq_true rfl) rfl
def wX9 (CA : Nat → ClassId) (h q1 : Nat) : va_W := [(h, .inr (9, [.int 0, .long 0, .long 1, .int 0, .ref q1])), (q1, .inl (CA 0, 6, .inl (fun _ => 0)))]
set_option maxRecDepth 100000 in
set_option maxHeartbeats 4000000 in
theorem kiX9 (D : va_G) (CA : Nat → ClassId) (h : Nat) : KI yX9_init cX9_init 1 1 12 1 6 [.ref h] D CA [(h, .inr (9, blX9))] (fun w => ∃ q1 : Nat, w = wX9 CA h q1) := by
  refine KI.of (by decide +kernel) (Nat.le_of_ble_eq_true rfl) (fun p l e R s m args below meth c A hC hr hlk hin => ?_)
  refine cz_aload_n hC 0 dX9_init_0 rfl rfl ?_
  refine cz_obj hC (inr_3 _ (List.mem_of_getElem? (i := 8) rfl)) (inr_1 _ (List.mem_of_getElem? (i := 8) rfl)) (inr_1 _ (List.mem_of_getElem? (i := 9) rfl)) dX9_init_1 (by decide) (by decide) ?_
  refine cz_at (pc' := 4) (ws' := [(h, .inr (9, [.int 0, .long 0, .long 0, .int 0, .null]))]) rfl rfl ?_
  refine cz_aload_n hC 0 dX9_init_4 rfl rfl ?_
  refine cz_lconst (v := 1) hC dX9_init_5 (by decide +kernel) ?_
  refine cz_put hC (t := tyX9 2) (fs' := [.int 0, .long 0, .long 1, .int 0, .null]) 2 cfX9 fX9_9 dX9_init_6 rfl (tyX9_ok 2 (by decide)) rfl rfl (Nat.le_of_ble_eq_true rfl) rfl ?_
  refine cz_aload_n hC 0 dX9_init_9 rfl rfl ?_
  refine cz_bipush (v := 6) hC dX9_init_10 (by decide +kernel) ?_
  refine cz_newa (N := 6) (k' := 1) (n' := 6) hC 0 dX9_init_12 rfl (inr_1 _ (List.mem_of_getElem? (i := 3) rfl)) rfl RA_int (by decide +kernel) (by decide +kernel) (by decide +kernel) rfl (Nat.le_of_ble_eq_true rfl) (Nat.le_of_ble_eq_true rfl) (Nat.le_of_ble_eq_true rfl) (Nat.le_of_ble_eq_true rfl) (fun q1 => ?_)
  refine cz_at (pc' := 14) (ws' := [(h, .inr (9, [.int 0, .long 0, .long 1, .int 0, .null])), (q1, .inl (CA 0, 6, .inl (fun _ => 0)))]) rfl rfl ?_
  refine cz_putF hC hin (t := tyX9 4) (fs' := [.int 0, .long 0, .long 1, .int 0, .ref q1]) 4 cfX9 fX9_15 dX9_init_14 rfl rfl (tyX9_ok 4 (by decide)) rfl rfl (Nat.le_of_ble_eq_true rfl) rfl ?_
  exact cz_ret hC hr hlk dX9_init_17 (Nat.le_of_ble_eq_true rfl) (Nat.le_of_ble_eq_true rfl) ⟨q1, rfl⟩
def wX5a (CA : Nat → ClassId) (h q2 q1 : Nat) : va_W := [(h, .inr (5, [.int 60, .ref q1, .ref q2])), (q2, .inl (CA 0, 360, .inl (fun _ => 0))), (q1, .inl (CA 0, 6, .inl (fun _ => -1)))]
set_option maxRecDepth 100000 in
set_option maxHeartbeats 4000000 in
theorem kiX5a (D : va_G) (CA : Nat → ClassId) (h : Nat) : KI yX5_init cX5_init 3 1 23 2 366 [.ref h, .int 6, .int 60] D CA [(h, .inr (5, blX5))] (fun w => ∃ q2 q1 : Nat, w = wX5a CA h q2 q1) := by
  refine KI.of (by decide +kernel) (Nat.le_of_ble_eq_true rfl) (fun p l e R s m args below meth c A hC hr hlk hin => ?_)
  refine cz_aload_n hC 0 dX5_init_0 rfl rfl ?_
  refine cz_obj hC (inr_3 _ (List.mem_of_getElem? (i := 14) rfl)) (inr_1 _ (List.mem_of_getElem? (i := 8) rfl)) (inr_1 _ (List.mem_of_getElem? (i := 9) rfl)) dX5_init_1 (by decide) (by decide) ?_
  refine cz_at (pc' := 4) (ws' := [(h, .inr (5, [.int 0, .null, .null]))]) rfl rfl ?_
  refine cz_aload_n hC 0 dX5_init_4 rfl rfl ?_
  refine cz_iload_n hC 2 dX5_init_5 rfl rfl ?_
  refine cz_putF hC hin (t := tyX5 0) (fs' := [.int 60, .null, .null]) 0 cfX5 fX5_7 dX5_init_6 rfl rfl (tyX5_ok 0 (by decide)) rfl rfl (Nat.le_of_ble_eq_true rfl) rfl ?_
  refine cz_aload_n hC 0 dX5_init_9 rfl rfl ?_
  refine cz_iload_n hC 1 dX5_init_10 rfl rfl ?_
  refine cz_newa (N := 6) (k' := 1) (n' := 6) hC 0 dX5_init_11 rfl (inr_1 _ (List.mem_of_getElem? (i := 3) rfl)) rfl RA_int (by decide +kernel) (by decide +kernel) (by decide +kernel) rfl (Nat.le_of_ble_eq_true rfl) (Nat.le_of_ble_eq_true rfl) (Nat.le_of_ble_eq_true rfl) (Nat.le_of_ble_eq_true rfl) (fun q1 => ?_)
  refine cz_at (pc' := 13) (ws' := [(h, .inr (5, [.int 60, .null, .null])), (q1, .inl (CA 0, 6, .inl (fun _ => 0)))]) rfl rfl ?_
  refine cz_putF hC hin (t := tyX5 1) (fs' := [.int 60, .ref q1, .null]) 1 cfX5 fX5_13 dX5_init_13 rfl rfl (tyX5_ok 1 (by decide)) rfl rfl (Nat.le_of_ble_eq_true rfl) rfl ?_
  refine cz_aload_n hC 0 dX5_init_16 rfl rfl ?_
  refine cz_iload_n hC 1 dX5_init_17 rfl rfl ?_
  refine cz_iload_n hC 2 dX5_init_18 rfl rfl ?_
  refine cz_imul (v := 360) hC dX5_init_19 (by decide +kernel) ?_
  refine cz_newa (N := 360) (k' := 2) (n' := 366) hC 0 dX5_init_20 rfl (inr_1 _ (List.mem_of_getElem? (i := 3) rfl)) rfl RA_int (by decide +kernel) (by decide +kernel) (by decide +kernel) rfl (Nat.le_of_ble_eq_true rfl) (Nat.le_of_ble_eq_true rfl) (Nat.le_of_ble_eq_true rfl) (Nat.le_of_ble_eq_true rfl) (fun q2 => ?_)
  refine cz_at (pc' := 22) (ws' := [(h, .inr (5, [.int 60, .ref q1, .null])), (q1, .inl (CA 0, 6, .inl (fun _ => 0))), (q2, .inl (CA 0, 360, .inl (fun _ => 0)))]) rfl rfl ?_
  refine cz_putF hC hin (t := tyX5 2) (fs' := [.int 60, .ref q1, .ref q2]) 2 cfX5 fX5_17 dX5_init_22 rfl rfl (tyX5_ok 2 (by decide)) rfl rfl (Nat.le_of_ble_eq_true rfl) rfl ?_
  refine cz_aload_n hC 0 dX5_init_25 rfl rfl ?_
  refine cz_get (v := .ref q1) hC 1 cfX5 fX5_13 dX5_init_26 rfl ?_
  refine cz_iconst (v := (-1)) hC dX5_init_29 (by decide +kernel) ?_
  refine cz_callS (wc := [(q1, .inl (CA 0, 6, .inl (fun _ => 0)))]) (wr := [(h, .inr (5, [.int 60, .ref q1, .ref q2])), (q2, .inl (CA 0, 360, .inl (fun _ => 0)))]) (As := [.ref q1, .int (-1)]) (rest := []) hC [1] [0, 2] sX5_20 (kiF6 D CA q1) dX5_init_30 rfl rfl (Nat.le_of_ble_eq_true rfl) (by decide) (by decide) (Nat.le_of_ble_eq_true rfl) (Nat.le_of_ble_eq_true rfl) rfl rfl rfl (by decide) rfl (fun w1 hw => ?_)
  subst hw
  refine cz_at (pc' := 33) (ws' := [(h, .inr (5, [.int 60, .ref q1, .ref q2])), (q2, .inl (CA 0, 360, .inl (fun _ => 0))), (q1, .inl (CA 0, 6, .inl (fun _ => -1)))]) rfl rfl ?_
  exact cz_ret hC hr hlk dX5_init_33 (Nat.le_of_ble_eq_true rfl) (Nat.le_of_ble_eq_true rfl) ⟨q2, q1, rfl⟩
def wX5b (CA : Nat → ClassId) (h q2 q1 : Nat) : va_W := [(h, .inr (5, [.int 100, .ref q1, .ref q2])), (q2, .inl (CA 0, 400, .inl (fun _ => 0))), (q1, .inl (CA 0, 4, .inl (fun _ => -1)))]
set_option maxRecDepth 100000 in
set_option maxHeartbeats 4000000 in
theorem kiX5b (D : va_G) (CA : Nat → ClassId) (h : Nat) : KI yX5_init cX5_init 3 1 23 2 404 [.ref h, .int 4, .int 100] D CA [(h, .inr (5, blX5))] (fun w => ∃ q2 q1 : Nat, w = wX5b CA h q2 q1) := by
  refine KI.of (by decide +kernel) (Nat.le_of_ble_eq_true rfl) (fun p l e R s m args below meth c A hC hr hlk hin => ?_)
  refine cz_aload_n hC 0 dX5_init_0 rfl rfl ?_
  refine cz_obj hC (inr_3 _ (List.mem_of_getElem? (i := 14) rfl)) (inr_1 _ (List.mem_of_getElem? (i := 8) rfl)) (inr_1 _ (List.mem_of_getElem? (i := 9) rfl)) dX5_init_1 (by decide) (by decide) ?_
  refine cz_at (pc' := 4) (ws' := [(h, .inr (5, [.int 0, .null, .null]))]) rfl rfl ?_
  refine cz_aload_n hC 0 dX5_init_4 rfl rfl ?_
  refine cz_iload_n hC 2 dX5_init_5 rfl rfl ?_
  refine cz_putF hC hin (t := tyX5 0) (fs' := [.int 100, .null, .null]) 0 cfX5 fX5_7 dX5_init_6 rfl rfl (tyX5_ok 0 (by decide)) rfl rfl (Nat.le_of_ble_eq_true rfl) rfl ?_
  refine cz_aload_n hC 0 dX5_init_9 rfl rfl ?_
  refine cz_iload_n hC 1 dX5_init_10 rfl rfl ?_
  refine cz_newa (N := 4) (k' := 1) (n' := 4) hC 0 dX5_init_11 rfl (inr_1 _ (List.mem_of_getElem? (i := 3) rfl)) rfl RA_int (by decide +kernel) (by decide +kernel) (by decide +kernel) rfl (Nat.le_of_ble_eq_true rfl) (Nat.le_of_ble_eq_true rfl) (Nat.le_of_ble_eq_true rfl) (Nat.le_of_ble_eq_true rfl) (fun q1 => ?_)
  refine cz_at (pc' := 13) (ws' := [(h, .inr (5, [.int 100, .null, .null])), (q1, .inl (CA 0, 4, .inl (fun _ => 0)))]) rfl rfl ?_
  refine cz_putF hC hin (t := tyX5 1) (fs' := [.int 100, .ref q1, .null]) 1 cfX5 fX5_13 dX5_init_13 rfl rfl (tyX5_ok 1 (by decide)) rfl rfl (Nat.le_of_ble_eq_true rfl) rfl ?_
  refine cz_aload_n hC 0 dX5_init_16 rfl rfl ?_
  refine cz_iload_n hC 1 dX5_init_17 rfl rfl ?_
  refine cz_iload_n hC 2 dX5_init_18 rfl rfl ?_
  refine cz_imul (v := 400) hC dX5_init_19 (by decide +kernel) ?_
  refine cz_newa (N := 400) (k' := 2) (n' := 404) hC 0 dX5_init_20 rfl (inr_1 _ (List.mem_of_getElem? (i := 3) rfl)) rfl RA_int (by decide +kernel) (by decide +kernel) (by decide +kernel) rfl (Nat.le_of_ble_eq_true rfl) (Nat.le_of_ble_eq_true rfl) (Nat.le_of_ble_eq_true rfl) (Nat.le_of_ble_eq_true rfl) (fun q2 => ?_)
  refine cz_at (pc' := 22) (ws' := [(h, .inr (5, [.int 100, .ref q1, .null])), (q1, .inl (CA 0, 4, .inl (fun _ => 0))), (q2, .inl (CA 0, 400, .inl (fun _ => 0)))]) rfl rfl ?_
  refine cz_putF hC hin (t := tyX5 2) (fs' := [.int 100, .ref q1, .ref q2]) 2 cfX5 fX5_17 dX5_init_22 rfl rfl (tyX5_ok 2 (by decide)) rfl rfl (Nat.le_of_ble_eq_true rfl) rfl ?_
  refine cz_aload_n hC 0 dX5_init_25 rfl rfl ?_
  refine cz_get (v := .ref q1) hC 1 cfX5 fX5_13 dX5_init_26 rfl ?_
  refine cz_iconst (v := (-1)) hC dX5_init_29 (by decide +kernel) ?_
  refine cz_callS (wc := [(q1, .inl (CA 0, 4, .inl (fun _ => 0)))]) (wr := [(h, .inr (5, [.int 100, .ref q1, .ref q2])), (q2, .inl (CA 0, 400, .inl (fun _ => 0)))]) (As := [.ref q1, .int (-1)]) (rest := []) hC [1] [0, 2] sX5_20 (kiF4 D CA q1) dX5_init_30 rfl rfl (Nat.le_of_ble_eq_true rfl) (by decide) (by decide) (Nat.le_of_ble_eq_true rfl) (Nat.le_of_ble_eq_true rfl) rfl rfl rfl (by decide) rfl (fun w1 hw => ?_)
  subst hw
  refine cz_at (pc' := 33) (ws' := [(h, .inr (5, [.int 100, .ref q1, .ref q2])), (q2, .inl (CA 0, 400, .inl (fun _ => 0))), (q1, .inl (CA 0, 4, .inl (fun _ => -1)))]) rfl rfl ?_
  exact cz_ret hC hr hlk dX5_init_33 (Nat.le_of_ble_eq_true rfl) (Nat.le_of_ble_eq_true rfl) ⟨q2, q1, rfl⟩
def wX1 (CA : Nat → ClassId) (h q1 q2 q3 q4 q5 q6 q7 q8 q9 q10 q11 : Nat) : va_W := [(h, .inr (1, [.int 0, .int 0, .int 0, .int 0, .ref q1, .ref q2, .ref q3, .ref q4, .ref q5, .ref q6, .ref q7, .ref q8, .ref q9, .ref q10, .ref q11])), (q1, .inl (CA 0, 5, .inl (fun _ => 0))), (q2, .inl (CA 0, 5, .inl (fun _ => 0))), (q3, .inl (CA 0, 5, .inl (fun _ => 0))), (q4, .inl (CA 0, 5, .inl (fun _ => 0))), (q5, .inl (CA 0, 2, .inl (fun _ => 0))), (q6, .inl (CA 0, 8, .inl (fun _ => 0))), (q7, .inl (CA 0, 8, .inl (fun _ => 0))), (q8, .inl (CA 0, 8, .inl (fun _ => 0))), (q9, .inl (CA 0, 8, .inl (fun _ => 0))), (q10, .inl (CA 0, 6, .inl (fun _ => 0))), (q11, .inl (CA 0, 256, .inl (fun _ => 0)))]
set_option maxRecDepth 100000 in
set_option maxHeartbeats 4000000 in
theorem kiX1 (D : va_G) (CA : Nat → ClassId) (h : Nat) : KI yX1_init cX1_init 1 1 12 11 316 [.ref h] D CA [(h, .inr (1, blX1))] (fun w => ∃ q1 q2 q3 q4 q5 q6 q7 q8 q9 q10 q11 : Nat, w = wX1 CA h q1 q2 q3 q4 q5 q6 q7 q8 q9 q10 q11) := by
  refine KI.of (by decide +kernel) (Nat.le_of_ble_eq_true rfl) (fun p l e R s m args below meth c A hC hr hlk hin => ?_)
  refine cz_aload_n hC 0 dX1_init_0 rfl rfl ?_
  refine cz_obj hC (inr_4 _ (List.mem_of_getElem? (i := 8) rfl)) (inr_1 _ (List.mem_of_getElem? (i := 8) rfl)) (inr_1 _ (List.mem_of_getElem? (i := 9) rfl)) dX1_init_1 (by decide) (by decide) ?_
  refine cz_at (pc' := 4) (ws' := [(h, .inr (1, [.int 0, .int 0, .int 0, .int 0, .null, .null, .null, .null, .null, .null, .null, .null, .null, .null, .null]))]) rfl rfl ?_
  refine cz_aload_n hC 0 dX1_init_4 rfl rfl ?_
  refine cz_iconst (v := 5) hC dX1_init_5 (by decide +kernel) ?_
  refine cz_newa (N := 5) (k' := 1) (n' := 5) hC 0 dX1_init_6 rfl (inr_1 _ (List.mem_of_getElem? (i := 3) rfl)) rfl RA_int (by decide +kernel) (by decide +kernel) (by decide +kernel) rfl (Nat.le_of_ble_eq_true rfl) (Nat.le_of_ble_eq_true rfl) (Nat.le_of_ble_eq_true rfl) (Nat.le_of_ble_eq_true rfl) (fun q1 => ?_)
  refine cz_at (pc' := 8) (ws' := [(h, .inr (1, [.int 0, .int 0, .int 0, .int 0, .null, .null, .null, .null, .null, .null, .null, .null, .null, .null, .null])), (q1, .inl (CA 0, 5, .inl (fun _ => 0)))]) rfl rfl ?_
  refine cz_putF hC hin (t := tyX1 4) (fs' := [.int 0, .int 0, .int 0, .int 0, .ref q1, .null, .null, .null, .null, .null, .null, .null, .null, .null, .null]) 4 cfX1 fX1_9 dX1_init_8 rfl rfl (tyX1_ok 4 (by decide)) rfl rfl (Nat.le_of_ble_eq_true rfl) rfl ?_
  refine cz_aload_n hC 0 dX1_init_11 rfl rfl ?_
  refine cz_iconst (v := 5) hC dX1_init_12 (by decide +kernel) ?_
  refine cz_newa (N := 5) (k' := 2) (n' := 10) hC 0 dX1_init_13 rfl (inr_1 _ (List.mem_of_getElem? (i := 3) rfl)) rfl RA_int (by decide +kernel) (by decide +kernel) (by decide +kernel) rfl (Nat.le_of_ble_eq_true rfl) (Nat.le_of_ble_eq_true rfl) (Nat.le_of_ble_eq_true rfl) (Nat.le_of_ble_eq_true rfl) (fun q2 => ?_)
  refine cz_at (pc' := 15) (ws' := [(h, .inr (1, [.int 0, .int 0, .int 0, .int 0, .ref q1, .null, .null, .null, .null, .null, .null, .null, .null, .null, .null])), (q1, .inl (CA 0, 5, .inl (fun _ => 0))), (q2, .inl (CA 0, 5, .inl (fun _ => 0)))]) rfl rfl ?_
  refine cz_putF hC hin (t := tyX1 5) (fs' := [.int 0, .int 0, .int 0, .int 0, .ref q1, .ref q2, .null, .null, .null, .null, .null, .null, .null, .null, .null]) 5 cfX1 fX1_15 dX1_init_15 rfl rfl (tyX1_ok 5 (by decide)) rfl rfl (Nat.le_of_ble_eq_true rfl) rfl ?_
  refine cz_aload_n hC 0 dX1_init_18 rfl rfl ?_
  refine cz_iconst (v := 5) hC dX1_init_19 (by decide +kernel) ?_
  refine cz_newa (N := 5) (k' := 3) (n' := 15) hC 0 dX1_init_20 rfl (inr_1 _ (List.mem_of_getElem? (i := 3) rfl)) rfl RA_int (by decide +kernel) (by decide +kernel) (by decide +kernel) rfl (Nat.le_of_ble_eq_true rfl) (Nat.le_of_ble_eq_true rfl) (Nat.le_of_ble_eq_true rfl) (Nat.le_of_ble_eq_true rfl) (fun q3 => ?_)
  refine cz_at (pc' := 22) (ws' := [(h, .inr (1, [.int 0, .int 0, .int 0, .int 0, .ref q1, .ref q2, .null, .null, .null, .null, .null, .null, .null, .null, .null])), (q1, .inl (CA 0, 5, .inl (fun _ => 0))), (q2, .inl (CA 0, 5, .inl (fun _ => 0))), (q3, .inl (CA 0, 5, .inl (fun _ => 0)))]) rfl rfl ?_
  refine cz_putF hC hin (t := tyX1 6) (fs' := [.int 0, .int 0, .int 0, .int 0, .ref q1, .ref q2, .ref q3, .null, .null, .null, .null, .null, .null, .null, .null]) 6 cfX1 fX1_18 dX1_init_22 rfl rfl (tyX1_ok 6 (by decide)) rfl rfl (Nat.le_of_ble_eq_true rfl) rfl ?_
  refine cz_aload_n hC 0 dX1_init_25 rfl rfl ?_
  refine cz_iconst (v := 5) hC dX1_init_26 (by decide +kernel) ?_
  refine cz_newa (N := 5) (k' := 4) (n' := 20) hC 0 dX1_init_27 rfl (inr_1 _ (List.mem_of_getElem? (i := 3) rfl)) rfl RA_int (by decide +kernel) (by decide +kernel) (by decide +kernel) rfl (Nat.le_of_ble_eq_true rfl) (Nat.le_of_ble_eq_true rfl) (Nat.le_of_ble_eq_true rfl) (Nat.le_of_ble_eq_true rfl) (fun q4 => ?_)
  refine cz_at (pc' := 29) (ws' := [(h, .inr (1, [.int 0, .int 0, .int 0, .int 0, .ref q1, .ref q2, .ref q3, .null, .null, .null, .null, .null, .null, .null, .null])), (q1, .inl (CA 0, 5, .inl (fun _ => 0))), (q2, .inl (CA 0, 5, .inl (fun _ => 0))), (q3, .inl (CA 0, 5, .inl (fun _ => 0))), (q4, .inl (CA 0, 5, .inl (fun _ => 0)))]) rfl rfl ?_
  refine cz_putF hC hin (t := tyX1 7) (fs' := [.int 0, .int 0, .int 0, .int 0, .ref q1, .ref q2, .ref q3, .ref q4, .null, .null, .null, .null, .null, .null, .null]) 7 cfX1 fX1_21 dX1_init_29 rfl rfl (tyX1_ok 7 (by decide)) rfl rfl (Nat.le_of_ble_eq_true rfl) rfl ?_
  refine cz_aload_n hC 0 dX1_init_32 rfl rfl ?_
  refine cz_iconst (v := 2) hC dX1_init_33 (by decide +kernel) ?_
  refine cz_newa (N := 2) (k' := 5) (n' := 22) hC 0 dX1_init_34 rfl (inr_1 _ (List.mem_of_getElem? (i := 3) rfl)) rfl RA_int (by decide +kernel) (by decide +kernel) (by decide +kernel) rfl (Nat.le_of_ble_eq_true rfl) (Nat.le_of_ble_eq_true rfl) (Nat.le_of_ble_eq_true rfl) (Nat.le_of_ble_eq_true rfl) (fun q5 => ?_)
  refine cz_at (pc' := 36) (ws' := [(h, .inr (1, [.int 0, .int 0, .int 0, .int 0, .ref q1, .ref q2, .ref q3, .ref q4, .null, .null, .null, .null, .null, .null, .null])), (q1, .inl (CA 0, 5, .inl (fun _ => 0))), (q2, .inl (CA 0, 5, .inl (fun _ => 0))), (q3, .inl (CA 0, 5, .inl (fun _ => 0))), (q4, .inl (CA 0, 5, .inl (fun _ => 0))), (q5, .inl (CA 0, 2, .inl (fun _ => 0)))]) rfl rfl ?_
  refine cz_putF hC hin (t := tyX1 8) (fs' := [.int 0, .int 0, .int 0, .int 0, .ref q1, .ref q2, .ref q3, .ref q4, .ref q5, .null, .null, .null, .null, .null, .null]) 8 cfX1 fX1_24 dX1_init_36 rfl rfl (tyX1_ok 8 (by decide)) rfl rfl (Nat.le_of_ble_eq_true rfl) rfl ?_
  refine cz_aload_n hC 0 dX1_init_39 rfl rfl ?_
  refine cz_bipush (v := 8) hC dX1_init_40 (by decide +kernel) ?_
  refine cz_newa (N := 8) (k' := 6) (n' := 30) hC 0 dX1_init_42 rfl (inr_1 _ (List.mem_of_getElem? (i := 3) rfl)) rfl RA_int (by decide +kernel) (by decide +kernel) (by decide +kernel) rfl (Nat.le_of_ble_eq_true rfl) (Nat.le_of_ble_eq_true rfl) (Nat.le_of_ble_eq_true rfl) (Nat.le_of_ble_eq_true rfl) (fun q6 => ?_)
  refine cz_at (pc' := 44) (ws' := [(h, .inr (1, [.int 0, .int 0, .int 0, .int 0, .ref q1, .ref q2, .ref q3, .ref q4, .ref q5, .null, .null, .null, .null, .null, .null])), (q1, .inl (CA 0, 5, .inl (fun _ => 0))), (q2, .inl (CA 0, 5, .inl (fun _ => 0))), (q3, .inl (CA 0, 5, .inl (fun _ => 0))), (q4, .inl (CA 0, 5, .inl (fun _ => 0))), (q5, .inl (CA 0, 2, .inl (fun _ => 0))), (q6, .inl (CA 0, 8, .inl (fun _ => 0)))]) rfl rfl ?_
  refine cz_putF hC hin (t := tyX1 9) (fs' := [.int 0, .int 0, .int 0, .int 0, .ref q1, .ref q2, .ref q3, .ref q4, .ref q5, .ref q6, .null, .null, .null, .null, .null]) 9 cfX1 fX1_27 dX1_init_44 rfl rfl (tyX1_ok 9 (by decide)) rfl rfl (Nat.le_of_ble_eq_true rfl) rfl ?_
  refine cz_aload_n hC 0 dX1_init_47 rfl rfl ?_
  refine cz_bipush (v := 8) hC dX1_init_48 (by decide +kernel) ?_
  refine cz_newa (N := 8) (k' := 7) (n' := 38) hC 0 dX1_init_50 rfl (inr_1 _ (List.mem_of_getElem? (i := 3) rfl)) rfl RA_int (by decide +kernel) (by decide +kernel) (by decide +kernel) rfl (Nat.le_of_ble_eq_true rfl) (Nat.le_of_ble_eq_true rfl) (Nat.le_of_ble_eq_true rfl) (Nat.le_of_ble_eq_true rfl) (fun q7 => ?_)
  refine cz_at (pc' := 52) (ws' := [(h, .inr (1, [.int 0, .int 0, .int 0, .int 0, .ref q1, .ref q2, .ref q3, .ref q4, .ref q5, .ref q6, .null, .null, .null, .null, .null])), (q1, .inl (CA 0, 5, .inl (fun _ => 0))), (q2, .inl (CA 0, 5, .inl (fun _ => 0))), (q3, .inl (CA 0, 5, .inl (fun _ => 0))), (q4, .inl (CA 0, 5, .inl (fun _ => 0))), (q5, .inl (CA 0, 2, .inl (fun _ => 0))), (q6, .inl (CA 0, 8, .inl (fun _ => 0))), (q7, .inl (CA 0, 8, .inl (fun _ => 0)))]) rfl rfl ?_
  refine cz_putF hC hin (t := tyX1 10) (fs' := [.int 0, .int 0, .int 0, .int 0, .ref q1, .ref q2, .ref q3, .ref q4, .ref q5, .ref q6, .ref q7, .null, .null, .null, .null]) 10 cfX1 fX1_30 dX1_init_52 rfl rfl (tyX1_ok 10 (by decide)) rfl rfl (Nat.le_of_ble_eq_true rfl) rfl ?_
  refine cz_aload_n hC 0 dX1_init_55 rfl rfl ?_
  refine cz_bipush (v := 8) hC dX1_init_56 (by decide +kernel) ?_
  refine cz_newa (N := 8) (k' := 8) (n' := 46) hC 0 dX1_init_58 rfl (inr_1 _ (List.mem_of_getElem? (i := 3) rfl)) rfl RA_int (by decide +kernel) (by decide +kernel) (by decide +kernel) rfl (Nat.le_of_ble_eq_true rfl) (Nat.le_of_ble_eq_true rfl) (Nat.le_of_ble_eq_true rfl) (Nat.le_of_ble_eq_true rfl) (fun q8 => ?_)
  refine cz_at (pc' := 60) (ws' := [(h, .inr (1, [.int 0, .int 0, .int 0, .int 0, .ref q1, .ref q2, .ref q3, .ref q4, .ref q5, .ref q6, .ref q7, .null, .null, .null, .null])), (q1, .inl (CA 0, 5, .inl (fun _ => 0))), (q2, .inl (CA 0, 5, .inl (fun _ => 0))), (q3, .inl (CA 0, 5, .inl (fun _ => 0))), (q4, .inl (CA 0, 5, .inl (fun _ => 0))), (q5, .inl (CA 0, 2, .inl (fun _ => 0))), (q6, .inl (CA 0, 8, .inl (fun _ => 0))), (q7, .inl (CA 0, 8, .inl (fun _ => 0))), (q8, .inl (CA 0, 8, .inl (fun _ => 0)))]) rfl rfl ?_
  refine cz_putF hC hin (t := tyX1 11) (fs' := [.int 0, .int 0, .int 0, .int 0, .ref q1, .ref q2, .ref q3, .ref q4, .ref q5, .ref q6, .ref q7, .ref q8, .null, .null, .null]) 11 cfX1 fX1_33 dX1_init_60 rfl rfl (tyX1_ok 11 (by decide)) rfl rfl (Nat.le_of_ble_eq_true rfl) rfl ?_
  refine cz_aload_n hC 0 dX1_init_63 rfl rfl ?_
  refine cz_bipush (v := 8) hC dX1_init_64 (by decide +kernel) ?_
  refine cz_newa (N := 8) (k' := 9) (n' := 54) hC 0 dX1_init_66 rfl (inr_1 _ (List.mem_of_getElem? (i := 3) rfl)) rfl RA_int (by decide +kernel) (by decide +kernel) (by decide +kernel) rfl (Nat.le_of_ble_eq_true rfl) (Nat.le_of_ble_eq_true rfl) (Nat.le_of_ble_eq_true rfl) (Nat.le_of_ble_eq_true rfl) (fun q9 => ?_)
  refine cz_at (pc' := 68) (ws' := [(h, .inr (1, [.int 0, .int 0, .int 0, .int 0, .ref q1, .ref q2, .ref q3, .ref q4, .ref q5, .ref q6, .ref q7, .ref q8, .null, .null, .null])), (q1, .inl (CA 0, 5, .inl (fun _ => 0))), (q2, .inl (CA 0, 5, .inl (fun _ => 0))), (q3, .inl (CA 0, 5, .inl (fun _ => 0))), (q4, .inl (CA 0, 5, .inl (fun _ => 0))), (q5, .inl (CA 0, 2, .inl (fun _ => 0))), (q6, .inl (CA 0, 8, .inl (fun _ => 0))), (q7, .inl (CA 0, 8, .inl (fun _ => 0))), (q8, .inl (CA 0, 8, .inl (fun _ => 0))), (q9, .inl (CA 0, 8, .inl (fun _ => 0)))]) rfl rfl ?_
  refine cz_putF hC hin (t := tyX1 12) (fs' := [.int 0, .int 0, .int 0, .int 0, .ref q1, .ref q2, .ref q3, .ref q4, .ref q5, .ref q6, .ref q7, .ref q8, .ref q9, .null, .null]) 12 cfX1 fX1_36 dX1_init_68 rfl rfl (tyX1_ok 12 (by decide)) rfl rfl (Nat.le_of_ble_eq_true rfl) rfl ?_
  refine cz_aload_n hC 0 dX1_init_71 rfl rfl ?_
  refine cz_bipush (v := 6) hC dX1_init_72 (by decide +kernel) ?_
  refine cz_newa (N := 6) (k' := 10) (n' := 60) hC 0 dX1_init_74 rfl (inr_1 _ (List.mem_of_getElem? (i := 3) rfl)) rfl RA_int (by decide +kernel) (by decide +kernel) (by decide +kernel) rfl (Nat.le_of_ble_eq_true rfl) (Nat.le_of_ble_eq_true rfl) (Nat.le_of_ble_eq_true rfl) (Nat.le_of_ble_eq_true rfl) (fun q10 => ?_)
  refine cz_at (pc' := 76) (ws' := [(h, .inr (1, [.int 0, .int 0, .int 0, .int 0, .ref q1, .ref q2, .ref q3, .ref q4, .ref q5, .ref q6, .ref q7, .ref q8, .ref q9, .null, .null])), (q1, .inl (CA 0, 5, .inl (fun _ => 0))), (q2, .inl (CA 0, 5, .inl (fun _ => 0))), (q3, .inl (CA 0, 5, .inl (fun _ => 0))), (q4, .inl (CA 0, 5, .inl (fun _ => 0))), (q5, .inl (CA 0, 2, .inl (fun _ => 0))), (q6, .inl (CA 0, 8, .inl (fun _ => 0))), (q7, .inl (CA 0, 8, .inl (fun _ => 0))), (q8, .inl (CA 0, 8, .inl (fun _ => 0))), (q9, .inl (CA 0, 8, .inl (fun _ => 0))), (q10, .inl (CA 0, 6, .inl (fun _ => 0)))]) rfl rfl ?_
  refine cz_putF hC hin (t := tyX1 13) (fs' := [.int 0, .int 0, .int 0, .int 0, .ref q1, .ref q2, .ref q3, .ref q4, .ref q5, .ref q6, .ref q7, .ref q8, .ref q9, .ref q10, .null]) 13 cfX1 fX1_39 dX1_init_76 rfl rfl (tyX1_ok 13 (by decide)) rfl rfl (Nat.le_of_ble_eq_true rfl) rfl ?_
  refine cz_aload_n hC 0 dX1_init_79 rfl rfl ?_
  refine cz_sipush (v := 256) hC dX1_init_80 (by decide +kernel) ?_
  refine cz_newa (N := 256) (k' := 11) (n' := 316) hC 0 dX1_init_83 rfl (inr_1 _ (List.mem_of_getElem? (i := 3) rfl)) rfl RA_int (by decide +kernel) (by decide +kernel) (by decide +kernel) rfl (Nat.le_of_ble_eq_true rfl) (Nat.le_of_ble_eq_true rfl) (Nat.le_of_ble_eq_true rfl) (Nat.le_of_ble_eq_true rfl) (fun q11 => ?_)
  refine cz_at (pc' := 85) (ws' := [(h, .inr (1, [.int 0, .int 0, .int 0, .int 0, .ref q1, .ref q2, .ref q3, .ref q4, .ref q5, .ref q6, .ref q7, .ref q8, .ref q9, .ref q10, .null])), (q1, .inl (CA 0, 5, .inl (fun _ => 0))), (q2, .inl (CA 0, 5, .inl (fun _ => 0))), (q3, .inl (CA 0, 5, .inl (fun _ => 0))), (q4, .inl (CA 0, 5, .inl (fun _ => 0))), (q5, .inl (CA 0, 2, .inl (fun _ => 0))), (q6, .inl (CA 0, 8, .inl (fun _ => 0))), (q7, .inl (CA 0, 8, .inl (fun _ => 0))), (q8, .inl (CA 0, 8, .inl (fun _ => 0))), (q9, .inl (CA 0, 8, .inl (fun _ => 0))), (q10, .inl (CA 0, 6, .inl (fun _ => 0))), (q11, .inl (CA 0, 256, .inl (fun _ => 0)))]) rfl rfl ?_
  refine cz_putF hC hin (t := tyX1 14) (fs' := [.int 0, .int 0, .int 0, .int 0, .ref q1, .ref q2, .ref q3, .ref q4, .ref q5, .ref q6, .ref q7, .ref q8, .ref q9, .ref q10, .ref q11]) 14 cfX1 fX1_42 dX1_init_85 rfl rfl (tyX1_ok 14 (by decide)) rfl rfl (Nat.le_of_ble_eq_true rfl) rfl ?_
  exact cz_ret hC hr hlk dX1_init_88 (Nat.le_of_ble_eq_true rfl) (Nat.le_of_ble_eq_true rfl) ⟨q1, q2, q3, q4, q5, q6, q7, q8, q9, q10, q11, rfl⟩
def wX3 (CA : Nat → ClassId) (h a1 q1 q2 q3 q4 : Nat) : va_W := [(h, .inr (3, [.ref a1, .ref q1, .ref q2, .ref q3, .ref q4, .int 3])), (q1, .inl (CA 0, 5, .inl (fun _ => 0))), (q2, .inl (CA 0, 5, .inl (fun _ => 0))), (q3, .inl (CA 0, 5, .inl (fun _ => 0))), (q4, .inl (CA 0, 2, .inl (fun _ => 0)))]
set_option maxRecDepth 100000 in
set_option maxHeartbeats 4000000 in
theorem kiX3 (D : va_G) (CA : Nat → ClassId) (h a1 : Nat) : KI yX3_init cX3_init 2 1 12 4 17 [.ref h, .ref a1] D CA [(h, .inr (3, blX3))] (fun w => ∃ q1 q2 q3 q4 : Nat, w = wX3 CA h a1 q1 q2 q3 q4) := by
  refine KI.of (by decide +kernel) (Nat.le_of_ble_eq_true rfl) (fun p l e R s m args below meth c A hC hr hlk hin => ?_)
  refine cz_aload_n hC 0 dX3_init_0 rfl rfl ?_
  refine cz_obj hC (inr_4 _ (List.mem_of_getElem? (i := 23) rfl)) (inr_1 _ (List.mem_of_getElem? (i := 8) rfl)) (inr_1 _ (List.mem_of_getElem? (i := 9) rfl)) dX3_init_1 (by decide) (by decide) ?_
  refine cz_at (pc' := 4) (ws' := [(h, .inr (3, [.null, .null, .null, .null, .null, .int 0]))]) rfl rfl ?_
  refine cz_aload_n hC 0 dX3_init_4 rfl rfl ?_
  refine cz_iconst (v := 5) hC dX3_init_5 (by decide +kernel) ?_
  refine cz_newa (N := 5) (k' := 1) (n' := 5) hC 0 dX3_init_6 rfl (inr_1 _ (List.mem_of_getElem? (i := 3) rfl)) rfl RA_int (by decide +kernel) (by decide +kernel) (by decide +kernel) rfl (Nat.le_of_ble_eq_true rfl) (Nat.le_of_ble_eq_true rfl) (Nat.le_of_ble_eq_true rfl) (Nat.le_of_ble_eq_true rfl) (fun q1 => ?_)
  refine cz_at (pc' := 8) (ws' := [(h, .inr (3, [.null, .null, .null, .null, .null, .int 0])), (q1, .inl (CA 0, 5, .inl (fun _ => 0)))]) rfl rfl ?_
  refine cz_putF hC hin (t := tyX3 1) (fs' := [.null, .ref q1, .null, .null, .null, .int 0]) 1 cfX3 fX3_9 dX3_init_8 rfl rfl (tyX3_ok 1 (by decide)) rfl rfl (Nat.le_of_ble_eq_true rfl) rfl ?_
  refine cz_aload_n hC 0 dX3_init_11 rfl rfl ?_
  refine cz_iconst (v := 5) hC dX3_init_12 (by decide +kernel) ?_
  refine cz_newa (N := 5) (k' := 2) (n' := 10) hC 0 dX3_init_13 rfl (inr_1 _ (List.mem_of_getElem? (i := 3) rfl)) rfl RA_int (by decide +kernel) (by decide +kernel) (by decide +kernel) rfl (Nat.le_of_ble_eq_true rfl) (Nat.le_of_ble_eq_true rfl) (Nat.le_of_ble_eq_true rfl) (Nat.le_of_ble_eq_true rfl) (fun q2 => ?_)
  refine cz_at (pc' := 15) (ws' := [(h, .inr (3, [.null, .ref q1, .null, .null, .null, .int 0])), (q1, .inl (CA 0, 5, .inl (fun _ => 0))), (q2, .inl (CA 0, 5, .inl (fun _ => 0)))]) rfl rfl ?_
  refine cz_putF hC hin (t := tyX3 2) (fs' := [.null, .ref q1, .ref q2, .null, .null, .int 0]) 2 cfX3 fX3_15 dX3_init_15 rfl rfl (tyX3_ok 2 (by decide)) rfl rfl (Nat.le_of_ble_eq_true rfl) rfl ?_
  refine cz_aload_n hC 0 dX3_init_18 rfl rfl ?_
  refine cz_iconst (v := 5) hC dX3_init_19 (by decide +kernel) ?_
  refine cz_newa (N := 5) (k' := 3) (n' := 15) hC 0 dX3_init_20 rfl (inr_1 _ (List.mem_of_getElem? (i := 3) rfl)) rfl RA_int (by decide +kernel) (by decide +kernel) (by decide +kernel) rfl (Nat.le_of_ble_eq_true rfl) (Nat.le_of_ble_eq_true rfl) (Nat.le_of_ble_eq_true rfl) (Nat.le_of_ble_eq_true rfl) (fun q3 => ?_)
  refine cz_at (pc' := 22) (ws' := [(h, .inr (3, [.null, .ref q1, .ref q2, .null, .null, .int 0])), (q1, .inl (CA 0, 5, .inl (fun _ => 0))), (q2, .inl (CA 0, 5, .inl (fun _ => 0))), (q3, .inl (CA 0, 5, .inl (fun _ => 0)))]) rfl rfl ?_
  refine cz_putF hC hin (t := tyX3 3) (fs' := [.null, .ref q1, .ref q2, .ref q3, .null, .int 0]) 3 cfX3 fX3_18 dX3_init_22 rfl rfl (tyX3_ok 3 (by decide)) rfl rfl (Nat.le_of_ble_eq_true rfl) rfl ?_
  refine cz_aload_n hC 0 dX3_init_25 rfl rfl ?_
  refine cz_iconst (v := 2) hC dX3_init_26 (by decide +kernel) ?_
  refine cz_newa (N := 2) (k' := 4) (n' := 17) hC 0 dX3_init_27 rfl (inr_1 _ (List.mem_of_getElem? (i := 3) rfl)) rfl RA_int (by decide +kernel) (by decide +kernel) (by decide +kernel) rfl (Nat.le_of_ble_eq_true rfl) (Nat.le_of_ble_eq_true rfl) (Nat.le_of_ble_eq_true rfl) (Nat.le_of_ble_eq_true rfl) (fun q4 => ?_)
  refine cz_at (pc' := 29) (ws' := [(h, .inr (3, [.null, .ref q1, .ref q2, .ref q3, .null, .int 0])), (q1, .inl (CA 0, 5, .inl (fun _ => 0))), (q2, .inl (CA 0, 5, .inl (fun _ => 0))), (q3, .inl (CA 0, 5, .inl (fun _ => 0))), (q4, .inl (CA 0, 2, .inl (fun _ => 0)))]) rfl rfl ?_
  refine cz_putF hC hin (t := tyX3 4) (fs' := [.null, .ref q1, .ref q2, .ref q3, .ref q4, .int 0]) 4 cfX3 fX3_21 dX3_init_29 rfl rfl (tyX3_ok 4 (by decide)) rfl rfl (Nat.le_of_ble_eq_true rfl) rfl ?_
  refine cz_aload_n hC 0 dX3_init_32 rfl rfl ?_
  refine cz_iconst (v := 3) hC dX3_init_33 (by decide +kernel) ?_
  refine cz_put hC (t := tyX3 5) (fs' := [.null, .ref q1, .ref q2, .ref q3, .ref q4, .int 3]) 5 cfX3 fX3_24 dX3_init_34 rfl (tyX3_ok 5 (by decide)) rfl rfl (Nat.le_of_ble_eq_true rfl) rfl ?_
  refine cz_aload_n hC 0 dX3_init_37 rfl rfl ?_
  refine cz_aload_n hC 1 dX3_init_38 rfl rfl ?_
  refine cz_putF hC hin (t := tyX3 0) (fs' := [.ref a1, .ref q1, .ref q2, .ref q3, .ref q4, .int 3]) 0 cfX3 fX3_28 dX3_init_39 rfl rfl (tyX3_ok 0 (by decide)) rfl rfl (Nat.le_of_ble_eq_true rfl) rfl ?_
  exact cz_ret hC hr hlk dX3_init_42 (Nat.le_of_ble_eq_true rfl) (Nat.le_of_ble_eq_true rfl) ⟨q1, q2, q3, q4, rfl⟩
def wX4 (CA : Nat → ClassId) (h a1 q1 q2 q3 q4 q5 q6 q7 q8 q9 q10 q11 q12 q13 : Nat) : va_W := [(h, .inr (4, [.ref a1, .ref q1, .ref q13, .int 0, .int 0])), (q1, .inr (1, [.int 0, .int 0, .int 0, .int 0, .ref q2, .ref q3, .ref q4, .ref q5, .ref q6, .ref q7, .ref q8, .ref q9, .ref q10, .ref q11, .ref q12])), (q2, .inl (CA 0, 5, .inl (fun _ => 0))), (q3, .inl (CA 0, 5, .inl (fun _ => 0))), (q4, .inl (CA 0, 5, .inl (fun _ => 0))), (q5, .inl (CA 0, 5, .inl (fun _ => 0))), (q6, .inl (CA 0, 2, .inl (fun _ => 0))), (q7, .inl (CA 0, 8, .inl (fun _ => 0))), (q8, .inl (CA 0, 8, .inl (fun _ => 0))), (q9, .inl (CA 0, 8, .inl (fun _ => 0))), (q10, .inl (CA 0, 8, .inl (fun _ => 0))), (q11, .inl (CA 0, 6, .inl (fun _ => 0))), (q12, .inl (CA 0, 256, .inl (fun _ => 0))), (q13, .inl (CA 0, 4, .inl (fun _ => 0)))]
set_option maxRecDepth 100000 in
set_option maxHeartbeats 4000000 in
theorem kiX4 (D : va_G) (CA : Nat → ClassId) (h a1 : Nat) : KI yX4_init cX4_init 2 2 32 13 335 [.ref h, .ref a1] D CA [(h, .inr (4, blX4))] (fun w => ∃ q1 q2 q3 q4 q5 q6 q7 q8 q9 q10 q11 q12 q13 : Nat, w = wX4 CA h a1 q1 q2 q3 q4 q5 q6 q7 q8 q9 q10 q11 q12 q13) := by
  refine KI.of (by decide +kernel) (Nat.le_of_ble_eq_true rfl) (fun p l e R s m args below meth c A hC hr hlk hin => ?_)
  refine cz_aload_n hC 0 dX4_init_0 rfl rfl ?_
  refine cz_obj hC (inr_4 _ (List.mem_of_getElem? (i := 1) rfl)) (inr_1 _ (List.mem_of_getElem? (i := 8) rfl)) (inr_1 _ (List.mem_of_getElem? (i := 9) rfl)) dX4_init_1 (by decide) (by decide) ?_
  refine cz_at (pc' := 4) (ws' := [(h, .inr (4, [.null, .null, .null, .int 0, .int 0]))]) rfl rfl ?_
  refine cz_aload_n hC 0 dX4_init_4 rfl rfl ?_
  refine cz_new (k' := 1) (n' := 15) (fs := blX1) hC cfX1 dX4_init_5 (inr_4 _ (List.mem_of_getElem? (i := 2) rfl)) (inr_2 _ (List.mem_of_getElem? (i := 0) rfl)) (inr_2 _ (List.mem_of_getElem? (i := 1) rfl)) blX1_ok (Nat.le_of_ble_eq_true rfl) (Nat.le_of_ble_eq_true rfl) (Nat.le_of_ble_eq_true rfl) (Nat.le_of_ble_eq_true rfl) (fun q1 => ?_)
  refine cz_at (pc' := 8) (ws' := [(h, .inr (4, [.null, .null, .null, .int 0, .int 0])), (q1, .inr (1, blX1))]) rfl rfl ?_
  refine cz_dup hC dX4_init_8 ?_
  refine cz_callN (nA := 0) (k' := 12) (n' := 331) (X := [(h, .inr (4, [.null, .null, .null, .int 0, .int 0]))]) (wc := [(q1, .inr (1, blX1))]) (As := []) (rest := [.ref q1, .ref h]) hC ⟨fun _ h => h.1, (inr_4 _ (List.mem_of_getElem? (i := 6) rfl)), (inr_2 _ (List.mem_of_getElem? (i := 1) rfl)), (inr_4 _ (List.mem_of_getElem? (i := 7) rfl)), rfl, by decide +kernel⟩ (kiX1 D CA q1) dX4_init_9 rfl rfl (Nat.le_of_ble_eq_true rfl) (by decide) (by decide) rfl rfl (Nat.le_of_ble_eq_true rfl) (Nat.le_of_ble_eq_true rfl) (fun w1 hw => ?_)
  obtain ⟨q2, q3, q4, q5, q6, q7, q8, q9, q10, q11, q12, rfl⟩ := hw
  refine cz_at (pc' := 12) (ws' := [(h, .inr (4, [.null, .null, .null, .int 0, .int 0])), (q1, .inr (1, [.int 0, .int 0, .int 0, .int 0, .ref q2, .ref q3, .ref q4, .ref q5, .ref q6, .ref q7, .ref q8, .ref q9, .ref q10, .ref q11, .ref q12])), (q2, .inl (CA 0, 5, .inl (fun _ => 0))), (q3, .inl (CA 0, 5, .inl (fun _ => 0))), (q4, .inl (CA 0, 5, .inl (fun _ => 0))), (q5, .inl (CA 0, 5, .inl (fun _ => 0))), (q6, .inl (CA 0, 2, .inl (fun _ => 0))), (q7, .inl (CA 0, 8, .inl (fun _ => 0))), (q8, .inl (CA 0, 8, .inl (fun _ => 0))), (q9, .inl (CA 0, 8, .inl (fun _ => 0))), (q10, .inl (CA 0, 8, .inl (fun _ => 0))), (q11, .inl (CA 0, 6, .inl (fun _ => 0))), (q12, .inl (CA 0, 256, .inl (fun _ => 0)))]) rfl rfl ?_
  refine cz_putF hC hin (t := tyX4 1) (fs' := [.null, .ref q1, .null, .int 0, .int 0]) 1 cfX4 fX4_12 dX4_init_12 rfl rfl (tyX4_ok 1 (by decide)) rfl rfl (Nat.le_of_ble_eq_true rfl) rfl ?_
  refine cz_aload_n hC 0 dX4_init_15 rfl rfl ?_
  refine cz_iconst (v := 4) hC dX4_init_16 (by decide +kernel) ?_
  refine cz_newa (N := 4) (k' := 13) (n' := 335) hC 0 dX4_init_17 rfl (inr_1 _ (List.mem_of_getElem? (i := 3) rfl)) rfl RA_int (by decide +kernel) (by decide +kernel) (by decide +kernel) rfl (Nat.le_of_ble_eq_true rfl) (Nat.le_of_ble_eq_true rfl) (Nat.le_of_ble_eq_true rfl) (Nat.le_of_ble_eq_true rfl) (fun q13 => ?_)
  refine cz_at (pc' := 19) (ws' := [(h, .inr (4, [.null, .ref q1, .null, .int 0, .int 0])), (q1, .inr (1, [.int 0, .int 0, .int 0, .int 0, .ref q2, .ref q3, .ref q4, .ref q5, .ref q6, .ref q7, .ref q8, .ref q9, .ref q10, .ref q11, .ref q12])), (q2, .inl (CA 0, 5, .inl (fun _ => 0))), (q3, .inl (CA 0, 5, .inl (fun _ => 0))), (q4, .inl (CA 0, 5, .inl (fun _ => 0))), (q5, .inl (CA 0, 5, .inl (fun _ => 0))), (q6, .inl (CA 0, 2, .inl (fun _ => 0))), (q7, .inl (CA 0, 8, .inl (fun _ => 0))), (q8, .inl (CA 0, 8, .inl (fun _ => 0))), (q9, .inl (CA 0, 8, .inl (fun _ => 0))), (q10, .inl (CA 0, 8, .inl (fun _ => 0))), (q11, .inl (CA 0, 6, .inl (fun _ => 0))), (q12, .inl (CA 0, 256, .inl (fun _ => 0))), (q13, .inl (CA 0, 4, .inl (fun _ => 0)))]) rfl rfl ?_
  refine cz_putF hC hin (t := tyX4 2) (fs' := [.null, .ref q1, .ref q13, .int 0, .int 0]) 2 cfX4 fX4_18 dX4_init_19 rfl rfl (tyX4_ok 2 (by decide)) rfl rfl (Nat.le_of_ble_eq_true rfl) rfl ?_
  refine cz_aload_n hC 0 dX4_init_22 rfl rfl ?_
  refine cz_aload_n hC 1 dX4_init_23 rfl rfl ?_
  refine cz_putF hC hin (t := tyX4 0) (fs' := [.ref a1, .ref q1, .ref q13, .int 0, .int 0]) 0 cfX4 fX4_22 dX4_init_24 rfl rfl (tyX4_ok 0 (by decide)) rfl rfl (Nat.le_of_ble_eq_true rfl) rfl ?_
  exact cz_ret hC hr hlk dX4_init_27 (Nat.le_of_ble_eq_true rfl) (Nat.le_of_ble_eq_true rfl) ⟨q1, q2, q3, q4, q5, q6, q7, q8, q9, q10, q11, q12, q13, rfl⟩
def wX2a (CA : Nat → ClassId) (h q1 q2 : Nat) : va_W := [(h, .inr (2, [.int 0, .ref q1, .ref q2])), (q1, .inl (CA 0, 40, .inl (fun _ => 0))), (q2, .inl (CA 0, 40, .inl (fun _ => 0)))]
set_option maxRecDepth 100000 in
set_option maxHeartbeats 4000000 in
theorem kiX2a (D : va_G) (CA : Nat → ClassId) (h : Nat) : KI yX2_init cX2_init 2 1 12 2 80 [.ref h, .int 40] D CA [(h, .inr (2, blX2))] (fun w => ∃ q1 q2 : Nat, w = wX2a CA h q1 q2) := by
  refine KI.of (by decide +kernel) (Nat.le_of_ble_eq_true rfl) (fun p l e R s m args below meth c A hC hr hlk hin => ?_)
  refine cz_aload_n hC 0 dX2_init_0 rfl rfl ?_
  refine cz_obj hC (inr_5 _ (List.mem_of_getElem? (i := 9) rfl)) (inr_1 _ (List.mem_of_getElem? (i := 8) rfl)) (inr_1 _ (List.mem_of_getElem? (i := 9) rfl)) dX2_init_1 (by decide) (by decide) ?_
  refine cz_at (pc' := 4) (ws' := [(h, .inr (2, [.int 0, .null, .null]))]) rfl rfl ?_
  refine cz_aload_n hC 0 dX2_init_4 rfl rfl ?_
  refine cz_iload_n hC 1 dX2_init_5 rfl rfl ?_
  refine cz_newa (N := 40) (k' := 1) (n' := 40) hC 0 dX2_init_6 rfl (inr_1 _ (List.mem_of_getElem? (i := 3) rfl)) rfl RA_int (by decide +kernel) (by decide +kernel) (by decide +kernel) rfl (Nat.le_of_ble_eq_true rfl) (Nat.le_of_ble_eq_true rfl) (Nat.le_of_ble_eq_true rfl) (Nat.le_of_ble_eq_true rfl) (fun q1 => ?_)
  refine cz_at (pc' := 8) (ws' := [(h, .inr (2, [.int 0, .null, .null])), (q1, .inl (CA 0, 40, .inl (fun _ => 0)))]) rfl rfl ?_
  refine cz_putF hC hin (t := tyX2 1) (fs' := [.int 0, .ref q1, .null]) 1 cfX2 fX2_7 dX2_init_8 rfl rfl (tyX2_ok 1 (by decide)) rfl rfl (Nat.le_of_ble_eq_true rfl) rfl ?_
  refine cz_aload_n hC 0 dX2_init_11 rfl rfl ?_
  refine cz_iload_n hC 1 dX2_init_12 rfl rfl ?_
  refine cz_newa (N := 40) (k' := 2) (n' := 80) hC 0 dX2_init_13 rfl (inr_1 _ (List.mem_of_getElem? (i := 3) rfl)) rfl RA_int (by decide +kernel) (by decide +kernel) (by decide +kernel) rfl (Nat.le_of_ble_eq_true rfl) (Nat.le_of_ble_eq_true rfl) (Nat.le_of_ble_eq_true rfl) (Nat.le_of_ble_eq_true rfl) (fun q2 => ?_)
  refine cz_at (pc' := 15) (ws' := [(h, .inr (2, [.int 0, .ref q1, .null])), (q1, .inl (CA 0, 40, .inl (fun _ => 0))), (q2, .inl (CA 0, 40, .inl (fun _ => 0)))]) rfl rfl ?_
  refine cz_putF hC hin (t := tyX2 2) (fs' := [.int 0, .ref q1, .ref q2]) 2 cfX2 fX2_13 dX2_init_15 rfl rfl (tyX2_ok 2 (by decide)) rfl rfl (Nat.le_of_ble_eq_true rfl) rfl ?_
  exact cz_ret hC hr hlk dX2_init_18 (Nat.le_of_ble_eq_true rfl) (Nat.le_of_ble_eq_true rfl) ⟨q1, q2, rfl⟩
def wX2b (CA : Nat → ClassId) (h q1 q2 : Nat) : va_W := [(h, .inr (2, [.int 0, .ref q1, .ref q2])), (q1, .inl (CA 0, 8, .inl (fun _ => 0))), (q2, .inl (CA 0, 8, .inl (fun _ => 0)))]
set_option maxRecDepth 100000 in
set_option maxHeartbeats 4000000 in
theorem kiX2b (D : va_G) (CA : Nat → ClassId) (h : Nat) : KI yX2_init cX2_init 2 1 12 2 16 [.ref h, .int 8] D CA [(h, .inr (2, blX2))] (fun w => ∃ q1 q2 : Nat, w = wX2b CA h q1 q2) := by
  refine KI.of (by decide +kernel) (Nat.le_of_ble_eq_true rfl) (fun p l e R s m args below meth c A hC hr hlk hin => ?_)
  refine cz_aload_n hC 0 dX2_init_0 rfl rfl ?_
  refine cz_obj hC (inr_5 _ (List.mem_of_getElem? (i := 9) rfl)) (inr_1 _ (List.mem_of_getElem? (i := 8) rfl)) (inr_1 _ (List.mem_of_getElem? (i := 9) rfl)) dX2_init_1 (by decide) (by decide) ?_
  refine cz_at (pc' := 4) (ws' := [(h, .inr (2, [.int 0, .null, .null]))]) rfl rfl ?_
  refine cz_aload_n hC 0 dX2_init_4 rfl rfl ?_
  refine cz_iload_n hC 1 dX2_init_5 rfl rfl ?_
  refine cz_newa (N := 8) (k' := 1) (n' := 8) hC 0 dX2_init_6 rfl (inr_1 _ (List.mem_of_getElem? (i := 3) rfl)) rfl RA_int (by decide +kernel) (by decide +kernel) (by decide +kernel) rfl (Nat.le_of_ble_eq_true rfl) (Nat.le_of_ble_eq_true rfl) (Nat.le_of_ble_eq_true rfl) (Nat.le_of_ble_eq_true rfl) (fun q1 => ?_)
  refine cz_at (pc' := 8) (ws' := [(h, .inr (2, [.int 0, .null, .null])), (q1, .inl (CA 0, 8, .inl (fun _ => 0)))]) rfl rfl ?_
  refine cz_putF hC hin (t := tyX2 1) (fs' := [.int 0, .ref q1, .null]) 1 cfX2 fX2_7 dX2_init_8 rfl rfl (tyX2_ok 1 (by decide)) rfl rfl (Nat.le_of_ble_eq_true rfl) rfl ?_
  refine cz_aload_n hC 0 dX2_init_11 rfl rfl ?_
  refine cz_iload_n hC 1 dX2_init_12 rfl rfl ?_
  refine cz_newa (N := 8) (k' := 2) (n' := 16) hC 0 dX2_init_13 rfl (inr_1 _ (List.mem_of_getElem? (i := 3) rfl)) rfl RA_int (by decide +kernel) (by decide +kernel) (by decide +kernel) rfl (Nat.le_of_ble_eq_true rfl) (Nat.le_of_ble_eq_true rfl) (Nat.le_of_ble_eq_true rfl) (Nat.le_of_ble_eq_true rfl) (fun q2 => ?_)
  refine cz_at (pc' := 15) (ws' := [(h, .inr (2, [.int 0, .ref q1, .null])), (q1, .inl (CA 0, 8, .inl (fun _ => 0))), (q2, .inl (CA 0, 8, .inl (fun _ => 0)))]) rfl rfl ?_
  refine cz_putF hC hin (t := tyX2 2) (fs' := [.int 0, .ref q1, .ref q2]) 2 cfX2 fX2_13 dX2_init_15 rfl rfl (tyX2_ok 2 (by decide)) rfl rfl (Nat.le_of_ble_eq_true rfl) rfl ?_
  exact cz_ret hC hr hlk dX2_init_18 (Nat.le_of_ble_eq_true rfl) (Nat.le_of_ble_eq_true rfl) ⟨q1, q2, rfl⟩
def wX7 (CA : Nat → ClassId) (h q1 q2 q3 q4 q5 : Nat) : va_W := [(h, .inr (7, [.int 0, .ref q1, .ref q2, .ref q3, .ref q4, .ref q5])), (q1, .inl (CA 0, 8525, .inl (fun _ => 0))), (q2, .inl (CA 0, 8525, .inl (fun _ => 0))), (q3, .inl (CA 0, 8525, .inl (fun _ => 0))), (q4, .inl (CA 0, 8525, .inl (fun _ => 0))), (q5, .inl (CA 0, 16807, .inl (fun _ => 0)))]
set_option maxRecDepth 100000 in
set_option maxHeartbeats 4000000 in
theorem kiX7 (D : va_G) (CA : Nat → ClassId) (h : Nat) : KI yX7_init cX7_init 1 1 12 5 50907 [.ref h] D CA [(h, .inr (7, blX7))] (fun w => ∃ q1 q2 q3 q4 q5 : Nat, w = wX7 CA h q1 q2 q3 q4 q5) := by
  refine KI.of (by decide +kernel) (Nat.le_of_ble_eq_true rfl) (fun p l e R s m args below meth c A hC hr hlk hin => ?_)
  refine cz_aload_n hC 0 dX7_init_0 rfl rfl ?_
  refine cz_obj hC (inr_5 _ (List.mem_of_getElem? (i := 14) rfl)) (inr_1 _ (List.mem_of_getElem? (i := 8) rfl)) (inr_1 _ (List.mem_of_getElem? (i := 9) rfl)) dX7_init_1 (by decide) (by decide) ?_
  refine cz_at (pc' := 4) (ws' := [(h, .inr (7, [.int 0, .null, .null, .null, .null, .null]))]) rfl rfl ?_
  refine cz_aload_n hC 0 dX7_init_4 rfl rfl ?_
  refine cz_sipush (v := 8525) hC dX7_init_5 (by decide +kernel) ?_
  refine cz_newa (N := 8525) (k' := 1) (n' := 8525) hC 0 dX7_init_8 rfl (inr_1 _ (List.mem_of_getElem? (i := 3) rfl)) rfl RA_int (by decide +kernel) (by decide +kernel) (by decide +kernel) rfl (Nat.le_of_ble_eq_true rfl) (Nat.le_of_ble_eq_true rfl) (Nat.le_of_ble_eq_true rfl) (Nat.le_of_ble_eq_true rfl) (fun q1 => ?_)
  refine cz_at (pc' := 10) (ws' := [(h, .inr (7, [.int 0, .null, .null, .null, .null, .null])), (q1, .inl (CA 0, 8525, .inl (fun _ => 0)))]) rfl rfl ?_
  refine cz_putF hC hin (t := tyX7 1) (fs' := [.int 0, .ref q1, .null, .null, .null, .null]) 1 cfX7 fX7_9 dX7_init_10 rfl rfl (tyX7_ok 1 (by decide)) rfl rfl (Nat.le_of_ble_eq_true rfl) rfl ?_
  refine cz_aload_n hC 0 dX7_init_13 rfl rfl ?_
  refine cz_sipush (v := 8525) hC dX7_init_14 (by decide +kernel) ?_
  refine cz_newa (N := 8525) (k' := 2) (n' := 17050) hC 0 dX7_init_17 rfl (inr_1 _ (List.mem_of_getElem? (i := 3) rfl)) rfl RA_int (by decide +kernel) (by decide +kernel) (by decide +kernel) rfl (Nat.le_of_ble_eq_true rfl) (Nat.le_of_ble_eq_true rfl) (Nat.le_of_ble_eq_true rfl) (Nat.le_of_ble_eq_true rfl) (fun q2 => ?_)
  refine cz_at (pc' := 19) (ws' := [(h, .inr (7, [.int 0, .ref q1, .null, .null, .null, .null])), (q1, .inl (CA 0, 8525, .inl (fun _ => 0))), (q2, .inl (CA 0, 8525, .inl (fun _ => 0)))]) rfl rfl ?_
  refine cz_putF hC hin (t := tyX7 2) (fs' := [.int 0, .ref q1, .ref q2, .null, .null, .null]) 2 cfX7 fX7_15 dX7_init_19 rfl rfl (tyX7_ok 2 (by decide)) rfl rfl (Nat.le_of_ble_eq_true rfl) rfl ?_
  refine cz_aload_n hC 0 dX7_init_22 rfl rfl ?_
  refine cz_sipush (v := 8525) hC dX7_init_23 (by decide +kernel) ?_
  refine cz_newa (N := 8525) (k' := 3) (n' := 25575) hC 0 dX7_init_26 rfl (inr_1 _ (List.mem_of_getElem? (i := 3) rfl)) rfl RA_int (by decide +kernel) (by decide +kernel) (by decide +kernel) rfl (Nat.le_of_ble_eq_true rfl) (Nat.le_of_ble_eq_true rfl) (Nat.le_of_ble_eq_true rfl) (Nat.le_of_ble_eq_true rfl) (fun q3 => ?_)
  refine cz_at (pc' := 28) (ws' := [(h, .inr (7, [.int 0, .ref q1, .ref q2, .null, .null, .null])), (q1, .inl (CA 0, 8525, .inl (fun _ => 0))), (q2, .inl (CA 0, 8525, .inl (fun _ => 0))), (q3, .inl (CA 0, 8525, .inl (fun _ => 0)))]) rfl rfl ?_
  refine cz_putF hC hin (t := tyX7 3) (fs' := [.int 0, .ref q1, .ref q2, .ref q3, .null, .null]) 3 cfX7 fX7_18 dX7_init_28 rfl rfl (tyX7_ok 3 (by decide)) rfl rfl (Nat.le_of_ble_eq_true rfl) rfl ?_
  refine cz_aload_n hC 0 dX7_init_31 rfl rfl ?_
  refine cz_sipush (v := 8525) hC dX7_init_32 (by decide +kernel) ?_
  refine cz_newa (N := 8525) (k' := 4) (n' := 34100) hC 0 dX7_init_35 rfl (inr_1 _ (List.mem_of_getElem? (i := 3) rfl)) rfl RA_int (by decide +kernel) (by decide +kernel) (by decide +kernel) rfl (Nat.le_of_ble_eq_true rfl) (Nat.le_of_ble_eq_true rfl) (Nat.le_of_ble_eq_true rfl) (Nat.le_of_ble_eq_true rfl) (fun q4 => ?_)
  refine cz_at (pc' := 37) (ws' := [(h, .inr (7, [.int 0, .ref q1, .ref q2, .ref q3, .null, .null])), (q1, .inl (CA 0, 8525, .inl (fun _ => 0))), (q2, .inl (CA 0, 8525, .inl (fun _ => 0))), (q3, .inl (CA 0, 8525, .inl (fun _ => 0))), (q4, .inl (CA 0, 8525, .inl (fun _ => 0)))]) rfl rfl ?_
  refine cz_putF hC hin (t := tyX7 4) (fs' := [.int 0, .ref q1, .ref q2, .ref q3, .ref q4, .null]) 4 cfX7 fX7_21 dX7_init_37 rfl rfl (tyX7_ok 4 (by decide)) rfl rfl (Nat.le_of_ble_eq_true rfl) rfl ?_
  refine cz_aload_n hC 0 dX7_init_40 rfl rfl ?_
  refine cz_sipush (v := 16807) hC dX7_init_41 (by decide +kernel) ?_
  refine cz_newa (N := 16807) (k' := 5) (n' := 50907) hC 0 dX7_init_44 rfl (inr_1 _ (List.mem_of_getElem? (i := 3) rfl)) rfl RA_int (by decide +kernel) (by decide +kernel) (by decide +kernel) rfl (Nat.le_of_ble_eq_true rfl) (Nat.le_of_ble_eq_true rfl) (Nat.le_of_ble_eq_true rfl) (Nat.le_of_ble_eq_true rfl) (fun q5 => ?_)
  refine cz_at (pc' := 46) (ws' := [(h, .inr (7, [.int 0, .ref q1, .ref q2, .ref q3, .ref q4, .null])), (q1, .inl (CA 0, 8525, .inl (fun _ => 0))), (q2, .inl (CA 0, 8525, .inl (fun _ => 0))), (q3, .inl (CA 0, 8525, .inl (fun _ => 0))), (q4, .inl (CA 0, 8525, .inl (fun _ => 0))), (q5, .inl (CA 0, 16807, .inl (fun _ => 0)))]) rfl rfl ?_
  refine cz_putF hC hin (t := tyX7 5) (fs' := [.int 0, .ref q1, .ref q2, .ref q3, .ref q4, .ref q5]) 5 cfX7 fX7_24 dX7_init_46 rfl rfl (tyX7_ok 5 (by decide)) rfl rfl (Nat.le_of_ble_eq_true rfl) rfl ?_
  exact cz_ret hC hr hlk dX7_init_49 (Nat.le_of_ble_eq_true rfl) (Nat.le_of_ble_eq_true rfl) ⟨q1, q2, q3, q4, q5, rfl⟩
def wX6 (CA : Nat → ClassId) (h a1 a2 q1 q2 q3 q4 q5 q6 q7 q8 : Nat) : va_W := [(h, .inr (6, [.ref a1, .ref a2, .ref q4, .ref q1, .ref q2, .ref q3, .int 0, .int 0, .int 0, .int 0])), (q1, .inl (CA 0, 5, .inl (fun _ => 0))), (q2, .inl (CA 0, 80000, .inl (fun _ => 0))), (q3, .inl (CA 0, 8525, .inl (fun _ => 0))), (q4, .inr (3, [.ref a1, .ref q5, .ref q6, .ref q7, .ref q8, .int 3])), (q5, .inl (CA 0, 5, .inl (fun _ => 0))), (q6, .inl (CA 0, 5, .inl (fun _ => 0))), (q7, .inl (CA 0, 5, .inl (fun _ => 0))), (q8, .inl (CA 0, 2, .inl (fun _ => 0)))]
set_option maxRecDepth 100000 in
set_option maxHeartbeats 4000000 in
theorem kiX6 (D : va_G) (CA : Nat → ClassId) (h a1 a2 : Nat) : KI yX6_init cX6_init 3 2 33 8 88553 [.ref h, .ref a1, .ref a2] D CA [(h, .inr (6, blX6))] (fun w => ∃ q1 q2 q3 q4 q5 q6 q7 q8 : Nat, w = wX6 CA h a1 a2 q1 q2 q3 q4 q5 q6 q7 q8) := by
  refine KI.of (by decide +kernel) (Nat.le_of_ble_eq_true rfl) (fun p l e R s m args below meth c A hC hr hlk hin => ?_)
  refine cz_aload_n hC 0 dX6_init_0 rfl rfl ?_
  refine cz_obj hC (inr_5 _ (List.mem_of_getElem? (i := 23) rfl)) (inr_1 _ (List.mem_of_getElem? (i := 8) rfl)) (inr_1 _ (List.mem_of_getElem? (i := 9) rfl)) dX6_init_1 (by decide) (by decide) ?_
  refine cz_at (pc' := 4) (ws' := [(h, .inr (6, [.null, .null, .null, .null, .null, .null, .int 0, .int 0, .int 0, .int 0]))]) rfl rfl ?_
  refine cz_aload_n hC 0 dX6_init_4 rfl rfl ?_
  refine cz_iconst (v := 5) hC dX6_init_5 (by decide +kernel) ?_
  refine cz_newa (N := 5) (k' := 1) (n' := 5) hC 0 dX6_init_6 rfl (inr_1 _ (List.mem_of_getElem? (i := 3) rfl)) rfl RA_int (by decide +kernel) (by decide +kernel) (by decide +kernel) rfl (Nat.le_of_ble_eq_true rfl) (Nat.le_of_ble_eq_true rfl) (Nat.le_of_ble_eq_true rfl) (Nat.le_of_ble_eq_true rfl) (fun q1 => ?_)
  refine cz_at (pc' := 8) (ws' := [(h, .inr (6, [.null, .null, .null, .null, .null, .null, .int 0, .int 0, .int 0, .int 0])), (q1, .inl (CA 0, 5, .inl (fun _ => 0)))]) rfl rfl ?_
  refine cz_putF hC hin (t := tyX6 3) (fs' := [.null, .null, .null, .ref q1, .null, .null, .int 0, .int 0, .int 0, .int 0]) 3 cfX6 fX6_9 dX6_init_8 rfl rfl (tyX6_ok 3 (by decide)) rfl rfl (Nat.le_of_ble_eq_true rfl) rfl ?_
  refine cz_aload_n hC 0 dX6_init_11 rfl rfl ?_
  refine cz_ldc (v := 80000) hC (inr_6 _ (List.mem_of_getElem? (i := 1) rfl)) dX6_init_12 ?_
  refine cz_newa (N := 80000) (k' := 2) (n' := 80005) hC 0 dX6_init_14 rfl (inr_1 _ (List.mem_of_getElem? (i := 3) rfl)) rfl RA_int (by decide +kernel) (by decide +kernel) (by decide +kernel) rfl (Nat.le_of_ble_eq_true rfl) (Nat.le_of_ble_eq_true rfl) (Nat.le_of_ble_eq_true rfl) (Nat.le_of_ble_eq_true rfl) (fun q2 => ?_)
  refine cz_at (pc' := 16) (ws' := [(h, .inr (6, [.null, .null, .null, .ref q1, .null, .null, .int 0, .int 0, .int 0, .int 0])), (q1, .inl (CA 0, 5, .inl (fun _ => 0))), (q2, .inl (CA 0, 80000, .inl (fun _ => 0)))]) rfl rfl ?_
  refine cz_putF hC hin (t := tyX6 4) (fs' := [.null, .null, .null, .ref q1, .ref q2, .null, .int 0, .int 0, .int 0, .int 0]) 4 cfX6 fX6_16 dX6_init_16 rfl rfl (tyX6_ok 4 (by decide)) rfl rfl (Nat.le_of_ble_eq_true rfl) rfl ?_
  refine cz_aload_n hC 0 dX6_init_19 rfl rfl ?_
  refine cz_sipush (v := 8525) hC dX6_init_20 (by decide +kernel) ?_
  refine cz_newa (N := 8525) (k' := 3) (n' := 88530) hC 0 dX6_init_23 rfl (inr_1 _ (List.mem_of_getElem? (i := 3) rfl)) rfl RA_int (by decide +kernel) (by decide +kernel) (by decide +kernel) rfl (Nat.le_of_ble_eq_true rfl) (Nat.le_of_ble_eq_true rfl) (Nat.le_of_ble_eq_true rfl) (Nat.le_of_ble_eq_true rfl) (fun q3 => ?_)
  refine cz_at (pc' := 25) (ws' := [(h, .inr (6, [.null, .null, .null, .ref q1, .ref q2, .null, .int 0, .int 0, .int 0, .int 0])), (q1, .inl (CA 0, 5, .inl (fun _ => 0))), (q2, .inl (CA 0, 80000, .inl (fun _ => 0))), (q3, .inl (CA 0, 8525, .inl (fun _ => 0)))]) rfl rfl ?_
  refine cz_putF hC hin (t := tyX6 5) (fs' := [.null, .null, .null, .ref q1, .ref q2, .ref q3, .int 0, .int 0, .int 0, .int 0]) 5 cfX6 fX6_19 dX6_init_25 rfl rfl (tyX6_ok 5 (by decide)) rfl rfl (Nat.le_of_ble_eq_true rfl) rfl ?_
  refine cz_aload_n hC 0 dX6_init_28 rfl rfl ?_
  refine cz_aload_n hC 1 dX6_init_29 rfl rfl ?_
  refine cz_putF hC hin (t := tyX6 0) (fs' := [.ref a1, .null, .null, .ref q1, .ref q2, .ref q3, .int 0, .int 0, .int 0, .int 0]) 0 cfX6 fX6_22 dX6_init_30 rfl rfl (tyX6_ok 0 (by decide)) rfl rfl (Nat.le_of_ble_eq_true rfl) rfl ?_
  refine cz_aload_n hC 0 dX6_init_33 rfl rfl ?_
  refine cz_aload_n hC 2 dX6_init_34 rfl rfl ?_
  refine cz_putF hC hin (t := tyX6 1) (fs' := [.ref a1, .ref a2, .null, .ref q1, .ref q2, .ref q3, .int 0, .int 0, .int 0, .int 0]) 1 cfX6 fX6_26 dX6_init_35 rfl rfl (tyX6_ok 1 (by decide)) rfl rfl (Nat.le_of_ble_eq_true rfl) rfl ?_
  refine cz_aload_n hC 0 dX6_init_38 rfl rfl ?_
  refine cz_new (k' := 4) (n' := 88536) (fs := blX3) hC cfX3 dX6_init_39 (inr_6 _ (List.mem_of_getElem? (i := 6) rfl)) (inr_2 _ (List.mem_of_getElem? (i := 4) rfl)) (inr_2 _ (List.mem_of_getElem? (i := 5) rfl)) blX3_ok (Nat.le_of_ble_eq_true rfl) (Nat.le_of_ble_eq_true rfl) (Nat.le_of_ble_eq_true rfl) (Nat.le_of_ble_eq_true rfl) (fun q4 => ?_)
  refine cz_at (pc' := 42) (ws' := [(h, .inr (6, [.ref a1, .ref a2, .null, .ref q1, .ref q2, .ref q3, .int 0, .int 0, .int 0, .int 0])), (q1, .inl (CA 0, 5, .inl (fun _ => 0))), (q2, .inl (CA 0, 80000, .inl (fun _ => 0))), (q3, .inl (CA 0, 8525, .inl (fun _ => 0))), (q4, .inr (3, blX3))]) rfl rfl ?_
  refine cz_dup hC dX6_init_42 ?_
  refine cz_aload_n hC 1 dX6_init_43 rfl rfl ?_
  refine cz_callI (nA := 1) (k' := 8) (n' := 88553) (X := [(h, .inr (6, [.ref a1, .ref a2, .null, .ref q1, .ref q2, .ref q3, .int 0, .int 0, .int 0, .int 0])), (q1, .inl (CA 0, 5, .inl (fun _ => 0))), (q2, .inl (CA 0, 80000, .inl (fun _ => 0))), (q3, .inl (CA 0, 8525, .inl (fun _ => 0)))]) (wc := [(q4, .inr (3, blX3))]) (As := [.ref a1]) (rest := [.ref q4, .ref h]) hC ⟨(inr_6 _ (List.mem_of_getElem? (i := 8) rfl)), (inr_4 _ (List.mem_of_getElem? (i := 21) rfl)), (inr_2 _ (List.mem_of_getElem? (i := 5) rfl)), (inr_4 _ (List.mem_of_getElem? (i := 22) rfl)), rfl, by decide +kernel⟩ (kiX3 D CA q4 a1) dX6_init_44 rfl rfl (Nat.le_of_ble_eq_true rfl) (by decide) (by decide) rfl rfl (Nat.le_of_ble_eq_true rfl) (Nat.le_of_ble_eq_true rfl) (fun w1 hw => ?_)
  obtain ⟨q5, q6, q7, q8, rfl⟩ := hw
  refine cz_at (pc' := 47) (ws' := [(h, .inr (6, [.ref a1, .ref a2, .null, .ref q1, .ref q2, .ref q3, .int 0, .int 0, .int 0, .int 0])), (q1, .inl (CA 0, 5, .inl (fun _ => 0))), (q2, .inl (CA 0, 80000, .inl (fun _ => 0))), (q3, .inl (CA 0, 8525, .inl (fun _ => 0))), (q4, .inr (3, [.ref a1, .ref q5, .ref q6, .ref q7, .ref q8, .int 3])), (q5, .inl (CA 0, 5, .inl (fun _ => 0))), (q6, .inl (CA 0, 5, .inl (fun _ => 0))), (q7, .inl (CA 0, 5, .inl (fun _ => 0))), (q8, .inl (CA 0, 2, .inl (fun _ => 0)))]) rfl rfl ?_
  refine cz_putF hC hin (t := tyX6 2) (fs' := [.ref a1, .ref a2, .ref q4, .ref q1, .ref q2, .ref q3, .int 0, .int 0, .int 0, .int 0]) 2 cfX6 fX6_35 dX6_init_47 rfl rfl (tyX6_ok 2 (by decide)) rfl rfl (Nat.le_of_ble_eq_true rfl) rfl ?_
  exact cz_ret hC hr hlk dX6_init_50 (Nat.le_of_ble_eq_true rfl) (Nat.le_of_ble_eq_true rfl) ⟨q1, q2, q3, q4, q5, q6, q7, q8, rfl⟩
def wX0 (CA : Nat → ClassId) (h a1 a2 q1 q2 q3 q4 q5 q6 q7 q8 : Nat) : va_W := [(h, .inr (0, [.ref a1, .ref a2, .ref q4, .ref q1, .ref q2, .ref q3])), (q1, .inl (CA 0, 8525, .inl (fun _ => 0))), (q2, .inl (CA 0, 8525, .inl (fun _ => 0))), (q3, .inl (CA 0, 8525, .inl (fun _ => 0))), (q4, .inr (3, [.ref a1, .ref q5, .ref q6, .ref q7, .ref q8, .int 3])), (q5, .inl (CA 0, 5, .inl (fun _ => 0))), (q6, .inl (CA 0, 5, .inl (fun _ => 0))), (q7, .inl (CA 0, 5, .inl (fun _ => 0))), (q8, .inl (CA 0, 2, .inl (fun _ => 0)))]
set_option maxRecDepth 100000 in
set_option maxHeartbeats 4000000 in
theorem kiX0 (D : va_G) (CA : Nat → ClassId) (h a1 a2 : Nat) : KI yX0_init cX0_init 3 2 33 8 25598 [.ref h, .ref a1, .ref a2] D CA [(h, .inr (0, blX0))] (fun w => ∃ q1 q2 q3 q4 q5 q6 q7 q8 : Nat, w = wX0 CA h a1 a2 q1 q2 q3 q4 q5 q6 q7 q8) := by
  refine KI.of (by decide +kernel) (Nat.le_of_ble_eq_true rfl) (fun p l e R s m args below meth c A hC hr hlk hin => ?_)
  refine cz_aload_n hC 0 dX0_init_0 rfl rfl ?_
  refine cz_obj hC (inr_6 _ (List.mem_of_getElem? (i := 12) rfl)) (inr_1 _ (List.mem_of_getElem? (i := 8) rfl)) (inr_1 _ (List.mem_of_getElem? (i := 9) rfl)) dX0_init_1 (by decide) (by decide) ?_
  refine cz_at (pc' := 4) (ws' := [(h, .inr (0, [.null, .null, .null, .null, .null, .null]))]) rfl rfl ?_
  refine cz_aload_n hC 0 dX0_init_4 rfl rfl ?_
  refine cz_sipush (v := 8525) hC dX0_init_5 (by decide +kernel) ?_
  refine cz_newa (N := 8525) (k' := 1) (n' := 8525) hC 0 dX0_init_8 rfl (inr_1 _ (List.mem_of_getElem? (i := 3) rfl)) rfl RA_int (by decide +kernel) (by decide +kernel) (by decide +kernel) rfl (Nat.le_of_ble_eq_true rfl) (Nat.le_of_ble_eq_true rfl) (Nat.le_of_ble_eq_true rfl) (Nat.le_of_ble_eq_true rfl) (fun q1 => ?_)
  refine cz_at (pc' := 10) (ws' := [(h, .inr (0, [.null, .null, .null, .null, .null, .null])), (q1, .inl (CA 0, 8525, .inl (fun _ => 0)))]) rfl rfl ?_
  refine cz_putF hC hin (t := tyX0 3) (fs' := [.null, .null, .null, .ref q1, .null, .null]) 3 cfX0 fX0_9 dX0_init_10 rfl rfl (tyX0_ok 3 (by decide)) rfl rfl (Nat.le_of_ble_eq_true rfl) rfl ?_
  refine cz_aload_n hC 0 dX0_init_13 rfl rfl ?_
  refine cz_sipush (v := 8525) hC dX0_init_14 (by decide +kernel) ?_
  refine cz_newa (N := 8525) (k' := 2) (n' := 17050) hC 0 dX0_init_17 rfl (inr_1 _ (List.mem_of_getElem? (i := 3) rfl)) rfl RA_int (by decide +kernel) (by decide +kernel) (by decide +kernel) rfl (Nat.le_of_ble_eq_true rfl) (Nat.le_of_ble_eq_true rfl) (Nat.le_of_ble_eq_true rfl) (Nat.le_of_ble_eq_true rfl) (fun q2 => ?_)
  refine cz_at (pc' := 19) (ws' := [(h, .inr (0, [.null, .null, .null, .ref q1, .null, .null])), (q1, .inl (CA 0, 8525, .inl (fun _ => 0))), (q2, .inl (CA 0, 8525, .inl (fun _ => 0)))]) rfl rfl ?_
  refine cz_putF hC hin (t := tyX0 4) (fs' := [.null, .null, .null, .ref q1, .ref q2, .null]) 4 cfX0 fX0_15 dX0_init_19 rfl rfl (tyX0_ok 4 (by decide)) rfl rfl (Nat.le_of_ble_eq_true rfl) rfl ?_
  refine cz_aload_n hC 0 dX0_init_22 rfl rfl ?_
  refine cz_sipush (v := 8525) hC dX0_init_23 (by decide +kernel) ?_
  refine cz_newa (N := 8525) (k' := 3) (n' := 25575) hC 0 dX0_init_26 rfl (inr_1 _ (List.mem_of_getElem? (i := 3) rfl)) rfl RA_int (by decide +kernel) (by decide +kernel) (by decide +kernel) rfl (Nat.le_of_ble_eq_true rfl) (Nat.le_of_ble_eq_true rfl) (Nat.le_of_ble_eq_true rfl) (Nat.le_of_ble_eq_true rfl) (fun q3 => ?_)
  refine cz_at (pc' := 28) (ws' := [(h, .inr (0, [.null, .null, .null, .ref q1, .ref q2, .null])), (q1, .inl (CA 0, 8525, .inl (fun _ => 0))), (q2, .inl (CA 0, 8525, .inl (fun _ => 0))), (q3, .inl (CA 0, 8525, .inl (fun _ => 0)))]) rfl rfl ?_
  refine cz_putF hC hin (t := tyX0 5) (fs' := [.null, .null, .null, .ref q1, .ref q2, .ref q3]) 5 cfX0 fX0_18 dX0_init_28 rfl rfl (tyX0_ok 5 (by decide)) rfl rfl (Nat.le_of_ble_eq_true rfl) rfl ?_
  refine cz_aload_n hC 0 dX0_init_31 rfl rfl ?_
  refine cz_aload_n hC 1 dX0_init_32 rfl rfl ?_
  refine cz_putF hC hin (t := tyX0 0) (fs' := [.ref a1, .null, .null, .ref q1, .ref q2, .ref q3]) 0 cfX0 fX0_21 dX0_init_33 rfl rfl (tyX0_ok 0 (by decide)) rfl rfl (Nat.le_of_ble_eq_true rfl) rfl ?_
  refine cz_aload_n hC 0 dX0_init_36 rfl rfl ?_
  refine cz_aload_n hC 2 dX0_init_37 rfl rfl ?_
  refine cz_putF hC hin (t := tyX0 1) (fs' := [.ref a1, .ref a2, .null, .ref q1, .ref q2, .ref q3]) 1 cfX0 fX0_25 dX0_init_38 rfl rfl (tyX0_ok 1 (by decide)) rfl rfl (Nat.le_of_ble_eq_true rfl) rfl ?_
  refine cz_aload_n hC 0 dX0_init_41 rfl rfl ?_
  refine cz_new (k' := 4) (n' := 25581) (fs := blX3) hC cfX3 dX0_init_42 (inr_6 _ (List.mem_of_getElem? (i := 18) rfl)) (inr_2 _ (List.mem_of_getElem? (i := 4) rfl)) (inr_2 _ (List.mem_of_getElem? (i := 5) rfl)) blX3_ok (Nat.le_of_ble_eq_true rfl) (Nat.le_of_ble_eq_true rfl) (Nat.le_of_ble_eq_true rfl) (Nat.le_of_ble_eq_true rfl) (fun q4 => ?_)
  refine cz_at (pc' := 45) (ws' := [(h, .inr (0, [.ref a1, .ref a2, .null, .ref q1, .ref q2, .ref q3])), (q1, .inl (CA 0, 8525, .inl (fun _ => 0))), (q2, .inl (CA 0, 8525, .inl (fun _ => 0))), (q3, .inl (CA 0, 8525, .inl (fun _ => 0))), (q4, .inr (3, blX3))]) rfl rfl ?_
  refine cz_dup hC dX0_init_45 ?_
  refine cz_aload_n hC 1 dX0_init_46 rfl rfl ?_
  refine cz_callI (nA := 1) (k' := 8) (n' := 25598) (X := [(h, .inr (0, [.ref a1, .ref a2, .null, .ref q1, .ref q2, .ref q3])), (q1, .inl (CA 0, 8525, .inl (fun _ => 0))), (q2, .inl (CA 0, 8525, .inl (fun _ => 0))), (q3, .inl (CA 0, 8525, .inl (fun _ => 0)))]) (wc := [(q4, .inr (3, blX3))]) (As := [.ref a1]) (rest := [.ref q4, .ref h]) hC ⟨(inr_6 _ (List.mem_of_getElem? (i := 20) rfl)), (inr_4 _ (List.mem_of_getElem? (i := 21) rfl)), (inr_2 _ (List.mem_of_getElem? (i := 5) rfl)), (inr_4 _ (List.mem_of_getElem? (i := 22) rfl)), rfl, by decide +kernel⟩ (kiX3 D CA q4 a1) dX0_init_47 rfl rfl (Nat.le_of_ble_eq_true rfl) (by decide) (by decide) rfl rfl (Nat.le_of_ble_eq_true rfl) (Nat.le_of_ble_eq_true rfl) (fun w1 hw => ?_)
  obtain ⟨q5, q6, q7, q8, rfl⟩ := hw
  refine cz_at (pc' := 50) (ws' := [(h, .inr (0, [.ref a1, .ref a2, .null, .ref q1, .ref q2, .ref q3])), (q1, .inl (CA 0, 8525, .inl (fun _ => 0))), (q2, .inl (CA 0, 8525, .inl (fun _ => 0))), (q3, .inl (CA 0, 8525, .inl (fun _ => 0))), (q4, .inr (3, [.ref a1, .ref q5, .ref q6, .ref q7, .ref q8, .int 3])), (q5, .inl (CA 0, 5, .inl (fun _ => 0))), (q6, .inl (CA 0, 5, .inl (fun _ => 0))), (q7, .inl (CA 0, 5, .inl (fun _ => 0))), (q8, .inl (CA 0, 2, .inl (fun _ => 0)))]) rfl rfl ?_
  refine cz_putF hC hin (t := tyX0 2) (fs' := [.ref a1, .ref a2, .ref q4, .ref q1, .ref q2, .ref q3]) 2 cfX0 fX0_34 dX0_init_50 rfl rfl (tyX0_ok 2 (by decide)) rfl rfl (Nat.le_of_ble_eq_true rfl) rfl ?_
  exact cz_ret hC hr hlk dX0_init_53 (Nat.le_of_ble_eq_true rfl) (Nat.le_of_ble_eq_true rfl) ⟨q1, q2, q3, q4, q5, q6, q7, q8, rfl⟩
def wX8 (CA : Nat → ClassId) (h a1 a2 a3 q1 q2 q3 q4 q5 : Nat) : va_W := [(h, .inr (8, [.ref a1, .ref a2, .ref a3, .ref q1])), (q1, .inr (3, [.ref a1, .ref q2, .ref q3, .ref q4, .ref q5, .int 3])), (q2, .inl (CA 0, 5, .inl (fun _ => 0))), (q3, .inl (CA 0, 5, .inl (fun _ => 0))), (q4, .inl (CA 0, 5, .inl (fun _ => 0))), (q5, .inl (CA 0, 2, .inl (fun _ => 0)))]
set_option maxRecDepth 100000 in
set_option maxHeartbeats 4000000 in
theorem kiX8 (D : va_G) (CA : Nat → ClassId) (h a1 a2 a3 : Nat) : KI yX8_init cX8_init 4 2 33 5 23 [.ref h, .ref a1, .ref a2, .ref a3] D CA [(h, .inr (8, blX8))] (fun w => ∃ q1 q2 q3 q4 q5 : Nat, w = wX8 CA h a1 a2 a3 q1 q2 q3 q4 q5) := by
  refine KI.of (by decide +kernel) (Nat.le_of_ble_eq_true rfl) (fun p l e R s m args below meth c A hC hr hlk hin => ?_)
  refine cz_aload_n hC 0 dX8_init_0 rfl rfl ?_
  refine cz_obj hC (inr_7 _ (List.mem_of_getElem? (i := 0) rfl)) (inr_1 _ (List.mem_of_getElem? (i := 8) rfl)) (inr_1 _ (List.mem_of_getElem? (i := 9) rfl)) dX8_init_1 (by decide) (by decide) ?_
  refine cz_at (pc' := 4) (ws' := [(h, .inr (8, [.null, .null, .null, .null]))]) rfl rfl ?_
  refine cz_aload_n hC 0 dX8_init_4 rfl rfl ?_
  refine cz_aload_n hC 1 dX8_init_5 rfl rfl ?_
  refine cz_putF hC hin (t := tyX8 0) (fs' := [.ref a1, .null, .null, .null]) 0 cfX8 fX8_9 dX8_init_6 rfl rfl (tyX8_ok 0 (by decide)) rfl rfl (Nat.le_of_ble_eq_true rfl) rfl ?_
  refine cz_aload_n hC 0 dX8_init_9 rfl rfl ?_
  refine cz_aload_n hC 2 dX8_init_10 rfl rfl ?_
  refine cz_putF hC hin (t := tyX8 1) (fs' := [.ref a1, .ref a2, .null, .null]) 1 cfX8 fX8_15 dX8_init_11 rfl rfl (tyX8_ok 1 (by decide)) rfl rfl (Nat.le_of_ble_eq_true rfl) rfl ?_
  refine cz_aload_n hC 0 dX8_init_14 rfl rfl ?_
  refine cz_aload_n hC 3 dX8_init_15 rfl rfl ?_
  refine cz_putF hC hin (t := tyX8 2) (fs' := [.ref a1, .ref a2, .ref a3, .null]) 2 cfX8 fX8_19 dX8_init_16 rfl rfl (tyX8_ok 2 (by decide)) rfl rfl (Nat.le_of_ble_eq_true rfl) rfl ?_
  refine cz_aload_n hC 0 dX8_init_19 rfl rfl ?_
  refine cz_new (k' := 1) (n' := 6) (fs := blX3) hC cfX3 dX8_init_20 (inr_7 _ (List.mem_of_getElem? (i := 4) rfl)) (inr_2 _ (List.mem_of_getElem? (i := 4) rfl)) (inr_2 _ (List.mem_of_getElem? (i := 5) rfl)) blX3_ok (Nat.le_of_ble_eq_true rfl) (Nat.le_of_ble_eq_true rfl) (Nat.le_of_ble_eq_true rfl) (Nat.le_of_ble_eq_true rfl) (fun q1 => ?_)
  refine cz_at (pc' := 23) (ws' := [(h, .inr (8, [.ref a1, .ref a2, .ref a3, .null])), (q1, .inr (3, blX3))]) rfl rfl ?_
  refine cz_dup hC dX8_init_23 ?_
  refine cz_aload_n hC 1 dX8_init_24 rfl rfl ?_
  refine cz_callI (nA := 1) (k' := 5) (n' := 23) (X := [(h, .inr (8, [.ref a1, .ref a2, .ref a3, .null]))]) (wc := [(q1, .inr (3, blX3))]) (As := [.ref a1]) (rest := [.ref q1, .ref h]) hC ⟨(inr_7 _ (List.mem_of_getElem? (i := 6) rfl)), (inr_4 _ (List.mem_of_getElem? (i := 21) rfl)), (inr_2 _ (List.mem_of_getElem? (i := 5) rfl)), (inr_4 _ (List.mem_of_getElem? (i := 22) rfl)), rfl, by decide +kernel⟩ (kiX3 D CA q1 a1) dX8_init_25 rfl rfl (Nat.le_of_ble_eq_true rfl) (by decide) (by decide) rfl rfl (Nat.le_of_ble_eq_true rfl) (Nat.le_of_ble_eq_true rfl) (fun w1 hw => ?_)
  obtain ⟨q2, q3, q4, q5, rfl⟩ := hw
  refine cz_at (pc' := 28) (ws' := [(h, .inr (8, [.ref a1, .ref a2, .ref a3, .null])), (q1, .inr (3, [.ref a1, .ref q2, .ref q3, .ref q4, .ref q5, .int 3])), (q2, .inl (CA 0, 5, .inl (fun _ => 0))), (q3, .inl (CA 0, 5, .inl (fun _ => 0))), (q4, .inl (CA 0, 5, .inl (fun _ => 0))), (q5, .inl (CA 0, 2, .inl (fun _ => 0)))]) rfl rfl ?_
  refine cz_putF hC hin (t := tyX8 3) (fs' := [.ref a1, .ref a2, .ref a3, .ref q1]) 3 cfX8 fX8_28 dX8_init_28 rfl rfl (tyX8_ok 3 (by decide)) rfl rfl (Nat.le_of_ble_eq_true rfl) rfl ?_
  exact cz_ret hC hr hlk dX8_init_31 (Nat.le_of_ble_eq_true rfl) (Nat.le_of_ble_eq_true rfl) ⟨q1, q2, q3, q4, q5, rfl⟩
