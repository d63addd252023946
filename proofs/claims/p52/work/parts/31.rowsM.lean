/-- the reference's sizes are -1 or up to the room -/
def RwM (S : St) : Prop := (∀ r, r < 6 → S.1 85 r = -1 ∨ ∃ z, z ≤ 60 ∧ S.1 85 r = nI z) ∧ ∀ r, r < 4 → S.1 88 r = -1 ∨ ∃ z, z ≤ 100 ∧ S.1 88 r = nI z
theorem RwM.r {S : St} (h : RwM S) {r : Nat} (hr : r < 6) (hm : ¬ (S.1 85 r).toInt < 0) : ∃ z, z ≤ 60 ∧ S.1 85 r = nI z := by
  rcases h.1 r hr with e | e
  · rw [e] at hm; exact absurd (by decide) hm
  · exact e
theorem RwM.t {S : St} (h : RwM S) {r : Nat} (hr : r < 4) (hm : ¬ (S.1 88 r).toInt < 0) : ∃ z, z ≤ 100 ∧ S.1 88 r = nI z := by
  rcases h.2 r hr with e | e
  · rw [e] at hm; exact absurd (by decide) hm
  · exact e
theorem nar_byte : vp_nar .byte (nI 32) = nI 32 := by decide +kernel

set_option maxHeartbeats 4000000 in
set_option maxRecDepth 100000 in
theorem c_X10_row {S : St} {x y : Int32} (hS : RwS 3 6 60 S) : C 3 90 yX10_row mX10_row [.ref 0, .int x, .int y] S (pu (.int (rowA 6 60 x y)) (rowX S x y)) := by
  refine C.ofX (by decide) rfl (Nat.le_of_ble_eq_true rfl) ?_
  show X 3 90 mX10_row (pu (.int (rowA 6 60 x y)) (rowX S x y)) 0 [(0, .ref 0), (1, .int x), (2, .int y)] [] S
  refine x_aload_n 0 dX10_row_0 rfl rfl ?_
  refine x_getR fX10_21 dX10_row_1 l0 rfl ?_
  refine x_iload_n 1 dX10_row_4 rfl rfl ?_
  refine x_callVb (as := [_]) (rest := []) vX10_105 (c_X5_isOne isR) dX10_row_5 l3 rfl rfl rfl (Nat.le_of_ble_eq_true rfl) (Nat.le_of_ble_eq_true rfl) (Nat.le_of_ble_eq_true rfl) (fun c_5 => ?_) (fun c_5 => ?_)
  · refine u_if_eq 17 dX10_row_8 (by decide) (by decide) ?_
    refine x_iload_n 2 dX10_row_11 rfl rfl ?_
    refine x_bipush (v := nI 60) dX10_row_12 (by decide) ?_
    refine z_ic_le 19 dX10_row_14 (by decide) (by omega) (fun c_14 => ?_) (fun c_14 => ?_)
    · refine x_iload_n 2 dX10_row_19 rfl rfl ?_
      refine x_if_ge 32 dX10_row_20 (by decide) (fun c_20 => ?_) (fun c_20 => ?_)
      · obtain ⟨a, ha, rfl⟩ := nI_ex (x := x) c_5.1 c_5.2
        have ea : (nI a).toInt = (a : Int) := tiN (by omega)
        have ta : tn (nI a) = a := tnN (by omega)
        obtain ⟨b, hb, rfl⟩ := nI_ex (x := y) (n := 61) c_20 (by omega)
        have eb : (nI b).toInt = (b : Int) := tiN (by omega)
        have tb : tn (nI b) = b := tnN (by omega)
        refine x_aload_n 0 dX10_row_32 rfl rfl ?_
        refine x_getR fX10_21 dX10_row_33 l0 rfl ?_
        refine x_iload_n 1 dX10_row_36 rfl rfl ?_
        refine x_iload_n 2 dX10_row_37 rfl rfl ?_
        refine x_iconst (v := nI 0) dX10_row_38 (by decide) ?_
        refine x_callVv (as := [_, _, _]) (rest := []) vX10_113 (c_X5_make isR hS.1 ha (by omega)) dX10_row_39 l3 rfl rfl rfl (Nat.le_of_ble_eq_true rfl) (Nat.le_of_ble_eq_true rfl) (Nat.le_of_ble_eq_true rfl) ?_
        refine x_iload_n 2 dX10_row_42 rfl rfl ?_
        refine x_iret rfl dX10_row_43 (by exact ⟨congrArg some (congrArg Value.int (by simp only [rowA, ta, tb]; rw [if_neg (by omega), if_neg (by omega)] <;> first | with_reducible rfl | with_reducible exact nI_one)), (by simp only [rowX, ta, tb]; rw [if_neg (by omega), if_neg (by omega)] <;> first | with_reducible rfl | with_reducible exact nI_one)⟩)
      · refine x_aload_n 0 dX10_row_23 rfl rfl ?_
        refine x_getR fX10_10 dX10_row_24 l0 rfl ?_
        refine x_iconst (v := nI 5) dX10_row_27 (by decide) ?_
        refine x_callVu (as := [_]) (rest := []) vX10_109 (c_X9_find (by decide) (by decide)) dX10_row_28 l1 rfl rfl rfl (Nat.le_of_ble_eq_true rfl) (Nat.le_of_ble_eq_true rfl) (Nat.le_of_ble_eq_true rfl) ?_
        refine x_iret rfl dX10_row_31 (by exact ⟨congrArg some (congrArg Value.int (by simp only [rowA]; rw [if_neg (by omega), if_pos (by omega)] <;> first | with_reducible rfl | with_reducible exact nI_one)), (by simp only [rowX]; rw [if_neg (by omega), if_pos (by omega)] <;> first | with_reducible rfl | with_reducible exact nI_one)⟩)
    · refine x_iconst (v := -1) dX10_row_17 (by decide) ?_
      refine x_iret rfl dX10_row_18 (by exact ⟨congrArg some (congrArg Value.int (by simp only [rowA]; rw [if_pos (by omega)] <;> first | with_reducible rfl | with_reducible exact nI_one)), (by simp only [rowX]; rw [if_pos (by omega)] <;> first | with_reducible rfl | with_reducible exact nI_one)⟩)
  · refine t_if_eq 17 dX10_row_8 (by decide) (by decide) ?_
    refine x_iconst (v := -1) dX10_row_17 (by decide) ?_
    refine x_iret rfl dX10_row_18 (by exact ⟨congrArg some (congrArg Value.int (by simp only [rowA]; rw [if_pos (by omega)] <;> first | with_reducible rfl | with_reducible exact nI_one)), (by simp only [rowX]; rw [if_pos (by omega)] <;> first | with_reducible rfl | with_reducible exact nI_one)⟩)

set_option maxHeartbeats 4000000 in
set_option maxRecDepth 100000 in
theorem c_X10_text {S : St} {x y : Int32} (hS : RwS 6 4 100 S) : C 3 90 yX10_text mX10_text [.ref 0, .int x, .int y] S (pu (.int (rowA 4 100 x y)) (textX S x y)) := by
  refine C.ofX (by decide) rfl (Nat.le_of_ble_eq_true rfl) ?_
  show X 3 90 mX10_text (pu (.int (rowA 4 100 x y)) (textX S x y)) 0 [(0, .ref 0), (1, .int x), (2, .int y)] [] S
  refine x_aload_n 0 dX10_text_0 rfl rfl ?_
  refine x_getR fX10_25 dX10_text_1 l0 rfl ?_
  refine x_iload_n 1 dX10_text_4 rfl rfl ?_
  refine x_callVb (as := [_]) (rest := []) vX10_105 (c_X5_isOne isTx) dX10_text_5 l6 rfl rfl rfl (Nat.le_of_ble_eq_true rfl) (Nat.le_of_ble_eq_true rfl) (Nat.le_of_ble_eq_true rfl) (fun c_5 => ?_) (fun c_5 => ?_)
  · refine u_if_eq 17 dX10_text_8 (by decide) (by decide) ?_
    refine x_iload_n 2 dX10_text_11 rfl rfl ?_
    refine x_bipush (v := nI 100) dX10_text_12 (by decide) ?_
    refine z_ic_le 19 dX10_text_14 (by decide) (by omega) (fun c_14 => ?_) (fun c_14 => ?_)
    · refine x_iload_n 2 dX10_text_19 rfl rfl ?_
      refine x_if_ge 32 dX10_text_20 (by decide) (fun c_20 => ?_) (fun c_20 => ?_)
      · obtain ⟨a, ha, rfl⟩ := nI_ex (x := x) c_5.1 c_5.2
        have ea : (nI a).toInt = (a : Int) := tiN (by omega)
        have ta : tn (nI a) = a := tnN (by omega)
        obtain ⟨b, hb, rfl⟩ := nI_ex (x := y) (n := 101) c_20 (by omega)
        have eb : (nI b).toInt = (b : Int) := tiN (by omega)
        have tb : tn (nI b) = b := tnN (by omega)
        refine x_aload_n 0 dX10_text_32 rfl rfl ?_
        refine x_getR fX10_25 dX10_text_33 l0 rfl ?_
        refine x_iload_n 1 dX10_text_36 rfl rfl ?_
        refine x_iload_n 2 dX10_text_37 rfl rfl ?_
        refine x_bipush (v := nI 32) dX10_text_38 (by decide) ?_
        refine x_callVv (as := [_, _, _]) (rest := []) vX10_113 (c_X5_make isTx hS.1 ha (by omega)) dX10_text_40 l6 rfl rfl rfl (Nat.le_of_ble_eq_true rfl) (Nat.le_of_ble_eq_true rfl) (Nat.le_of_ble_eq_true rfl) ?_
        refine x_iload_n 2 dX10_text_43 rfl rfl ?_
        refine x_iret rfl dX10_text_44 (by exact ⟨congrArg some (congrArg Value.int (by simp only [rowA, ta, tb]; rw [if_neg (by omega), if_neg (by omega)] <;> first | with_reducible rfl | with_reducible exact nI_one)), (by simp only [textX, ta, tb]; rw [if_neg (by omega), if_neg (by omega)] <;> first | with_reducible rfl | with_reducible exact nI_one)⟩)
      · refine x_aload_n 0 dX10_text_23 rfl rfl ?_
        refine x_getR fX10_10 dX10_text_24 l0 rfl ?_
        refine x_iconst (v := nI 5) dX10_text_27 (by decide) ?_
        refine x_callVu (as := [_]) (rest := []) vX10_109 (c_X9_find (by decide) (by decide)) dX10_text_28 l1 rfl rfl rfl (Nat.le_of_ble_eq_true rfl) (Nat.le_of_ble_eq_true rfl) (Nat.le_of_ble_eq_true rfl) ?_
        refine x_iret rfl dX10_text_31 (by exact ⟨congrArg some (congrArg Value.int (by simp only [rowA]; rw [if_neg (by omega), if_pos (by omega)] <;> first | with_reducible rfl | with_reducible exact nI_one)), (by simp only [textX]; rw [if_neg (by omega), if_pos (by omega)] <;> first | with_reducible rfl | with_reducible exact nI_one)⟩)
    · refine x_iconst (v := -1) dX10_text_17 (by decide) ?_
      refine x_iret rfl dX10_text_18 (by exact ⟨congrArg some (congrArg Value.int (by simp only [rowA]; rw [if_pos (by omega)] <;> first | with_reducible rfl | with_reducible exact nI_one)), (by simp only [textX]; rw [if_pos (by omega)] <;> first | with_reducible rfl | with_reducible exact nI_one)⟩)
  · refine t_if_eq 17 dX10_text_8 (by decide) (by decide) ?_
    refine x_iconst (v := -1) dX10_text_17 (by decide) ?_
    refine x_iret rfl dX10_text_18 (by exact ⟨congrArg some (congrArg Value.int (by simp only [rowA]; rw [if_pos (by omega)] <;> first | with_reducible rfl | with_reducible exact nI_one)), (by simp only [textX]; rw [if_pos (by omega)] <;> first | with_reducible rfl | with_reducible exact nI_one)⟩)

set_option maxHeartbeats 4000000 in
set_option maxRecDepth 100000 in
theorem c_X10_lay {S : St} {x y v : Int32} (hS : RwS 3 6 60 S) : C 3 90 yX10_lay mX10_lay [.ref 0, .int x, .int y, .int v] S (pu (.int (layA 6 x y (S.1 4 (tn x)) 1)) (layX S x y v)) := by
  refine C.ofX (by decide) rfl (Nat.le_of_ble_eq_true rfl) ?_
  show X 3 90 mX10_lay (pu (.int (layA 6 x y (S.1 4 (tn x)) 1)) (layX S x y v)) 0 [(0, .ref 0), (1, .int x), (2, .int y), (3, .int v)] [] S
  refine x_aload_n 0 dX10_lay_0 rfl rfl ?_
  refine x_getR fX10_21 dX10_lay_1 l0 rfl ?_
  refine x_iload_n 1 dX10_lay_4 rfl rfl ?_
  refine x_callVb (as := [_]) (rest := []) vX10_105 (c_X5_isOne isR) dX10_lay_5 l3 rfl rfl rfl (Nat.le_of_ble_eq_true rfl) (Nat.le_of_ble_eq_true rfl) (Nat.le_of_ble_eq_true rfl) (fun c_5 => ?_) (fun c_5 => ?_)
  · refine t_if_ne 13 dX10_lay_8 (by decide) (by decide) ?_
    obtain ⟨a, ha, rfl⟩ := nI_ex (x := x) c_5.1 c_5.2
    have ea : (nI a).toInt = (a : Int) := tiN (by omega)
    have ta : tn (nI a) = a := tnN (by omega)
    refine x_aload_n 0 dX10_lay_13 rfl rfl ?_
    refine x_getR fX10_21 dX10_lay_14 l0 rfl ?_
    refine x_iload_n 1 dX10_lay_17 rfl rfl ?_
    refine x_callVb (as := [_]) (rest := []) vX10_117 (c_X5_missing isR ha) dX10_lay_18 l3 rfl rfl rfl (Nat.le_of_ble_eq_true rfl) (Nat.le_of_ble_eq_true rfl) (Nat.le_of_ble_eq_true rfl) (fun c_18 => ?_) (fun c_18 => ?_)
    · refine u_if_eq 33 dX10_lay_21 (by decide) (by decide) ?_
      refine x_aload_n 0 dX10_lay_24 rfl rfl ?_
      refine x_getR fX10_10 dX10_lay_25 l0 rfl ?_
      refine x_iconst (v := nI 1) dX10_lay_28 (by decide) ?_
      refine x_callVu (as := [_]) (rest := []) vX10_109 (c_X9_find (by decide) (by decide)) dX10_lay_29 l1 rfl rfl rfl (Nat.le_of_ble_eq_true rfl) (Nat.le_of_ble_eq_true rfl) (Nat.le_of_ble_eq_true rfl) ?_
      refine x_iret rfl dX10_lay_32 (by exact ⟨congrArg some (congrArg Value.int (by simp only [layA, ta]; rw [if_neg (by omega), if_pos (by omega)] <;> first | with_reducible rfl | with_reducible exact nI_one)), (by simp only [layX, ta]; rw [if_neg (by omega), if_pos (by omega)] <;> first | with_reducible rfl | with_reducible exact nI_one)⟩)
    · refine t_if_eq 33 dX10_lay_21 (by decide) (by decide) ?_
      obtain ⟨z, hz, ez⟩ := hS.nn ha c_18
      have ezi : (nI z).toInt = (z : Int) := tiN (by omega)
      have n1 : (nI 1).toInt = 1 := rfl
      refine x_aload_n 0 dX10_lay_33 rfl rfl ?_
      refine x_getR fX10_21 dX10_lay_34 l0 rfl ?_
      refine x_iload_n 1 dX10_lay_37 rfl rfl ?_
      refine x_iload_n 2 dX10_lay_38 rfl rfl ?_
      refine x_iconst (v := nI 1) dX10_lay_39 (by decide) ?_
      refine x_callVb (as := [_, _, _]) (rest := []) vX10_120 (c_X5_hasPlaces isR ha ez hz) dX10_lay_40 l3 rfl rfl rfl (Nat.le_of_ble_eq_true rfl) (Nat.le_of_ble_eq_true rfl) (Nat.le_of_ble_eq_true rfl) (fun c_40 => ?_) (fun c_40 => ?_)
      · refine t_if_ne 55 dX10_lay_43 (by decide) (by decide) ?_
        obtain ⟨b, hb, rfl⟩ := nI_ex (x := y) (n := z) c_40.1 (by omega)
        have eb : (nI b).toInt = (b : Int) := tiN (by omega)
        have tb : tn (nI b) = b := tnN (by omega)
        refine x_aload_n 0 dX10_lay_55 rfl rfl ?_
        refine x_getR fX10_21 dX10_lay_56 l0 rfl ?_
        refine x_iload_n 1 dX10_lay_59 rfl rfl ?_
        refine x_iload_n 2 dX10_lay_60 rfl rfl ?_
        refine x_callVu (as := [_, _]) (rest := []) vX10_124 (c_X5_get isR hS.1 ha ez hz (by omega)) dX10_lay_61 l3 rfl rfl rfl (Nat.le_of_ble_eq_true rfl) (Nat.le_of_ble_eq_true rfl) (Nat.le_of_ble_eq_true rfl) ?_
        refine x_istore (lv' := [(4, _), (0, _), (1, _), (2, _), (3, _)]) dX10_lay_64 (by decide) rfl ?_
        refine x_aload_n 1 dX10_lay_66 rfl rfl ?_
        refine x_getR fX10_21 dX10_lay_67 l0 rfl ?_
        refine x_iload_n 2 dX10_lay_70 rfl rfl ?_
        refine x_iload_n 3 dX10_lay_71 rfl rfl ?_
        refine x_iload_n 4 dX10_lay_72 rfl rfl ?_
        refine x_callVv (as := [_, _, _]) (rest := []) vX10_128 (c_X5_set isR hS.1 ha ez hz (by omega)) dX10_lay_73 l3 rfl rfl rfl (Nat.le_of_ble_eq_true rfl) (Nat.le_of_ble_eq_true rfl) (Nat.le_of_ble_eq_true rfl) ?_
        refine x_aload_n 1 dX10_lay_76 rfl rfl ?_
        refine x_getR fX10_10 dX10_lay_77 l0 rfl ?_
        refine x_iload 0 dX10_lay_80 rfl ?_
        refine x_callVu (as := [_]) (rest := []) vX10_131 c_X9_tell dX10_lay_82 l1 rfl rfl rfl (Nat.le_of_ble_eq_true rfl) (Nat.le_of_ble_eq_true rfl) (Nat.le_of_ble_eq_true rfl) ?_
        refine x_iret rfl dX10_lay_85 (by exact ⟨congrArg some (congrArg Value.int (by simp only [layA, ta, tb, ez]; rw [if_neg (by omega), if_neg (by omega), if_neg (by omega)] <;> first | with_reducible rfl | with_reducible exact nI_one)), (by simp only [layX, ta, tb, ez]; rw [if_neg (by omega), if_neg (by omega), if_neg (by omega)] <;> first | with_reducible rfl | with_reducible exact nI_one)⟩)
      · refine u_if_ne 55 dX10_lay_43 (by decide) (by decide) ?_
        refine x_aload_n 0 dX10_lay_46 rfl rfl ?_
        refine x_getR fX10_10 dX10_lay_47 l0 rfl ?_
        refine x_iconst (v := nI 2) dX10_lay_50 (by decide) ?_
        refine x_callVu (as := [_]) (rest := []) vX10_109 (c_X9_find (by decide) (by decide)) dX10_lay_51 l1 rfl rfl rfl (Nat.le_of_ble_eq_true rfl) (Nat.le_of_ble_eq_true rfl) (Nat.le_of_ble_eq_true rfl) ?_
        refine x_iret rfl dX10_lay_54 (by exact ⟨congrArg some (congrArg Value.int (by simp only [layA, ta, ez]; rw [if_neg (by omega), if_neg (by omega), if_pos (by omega)] <;> first | with_reducible rfl | with_reducible exact nI_one)), (by simp only [layX, ta, ez]; rw [if_neg (by omega), if_neg (by omega), if_pos (by omega)] <;> first | with_reducible rfl | with_reducible exact nI_one)⟩)
  · refine u_if_ne 13 dX10_lay_8 (by decide) (by decide) ?_
    refine x_iconst (v := -1) dX10_lay_11 (by decide) ?_
    refine x_iret rfl dX10_lay_12 (by exact ⟨congrArg some (congrArg Value.int (by simp only [layA]; rw [if_pos (by omega)] <;> first | with_reducible rfl | with_reducible exact nI_one)), (by simp only [layX]; rw [if_pos (by omega)] <;> first | with_reducible rfl | with_reducible exact nI_one)⟩)

set_option maxHeartbeats 4000000 in
set_option maxRecDepth 100000 in
theorem c_X10_at {S : St} {x y : Int32} (hS : RwS 3 6 60 S) : C 3 90 yX10_at mX10_at [.ref 0, .int x, .int y] S (pu (.int (layA 6 x y (S.1 4 (tn x)) 1)) (atX S x y)) := by
  refine C.ofX (by decide) rfl (Nat.le_of_ble_eq_true rfl) ?_
  show X 3 90 mX10_at (pu (.int (layA 6 x y (S.1 4 (tn x)) 1)) (atX S x y)) 0 [(0, .ref 0), (1, .int x), (2, .int y)] [] S
  refine x_aload_n 0 dX10_at_0 rfl rfl ?_
  refine x_getR fX10_21 dX10_at_1 l0 rfl ?_
  refine x_iload_n 1 dX10_at_4 rfl rfl ?_
  refine x_callVb (as := [_]) (rest := []) vX10_105 (c_X5_isOne isR) dX10_at_5 l3 rfl rfl rfl (Nat.le_of_ble_eq_true rfl) (Nat.le_of_ble_eq_true rfl) (Nat.le_of_ble_eq_true rfl) (fun c_5 => ?_) (fun c_5 => ?_)
  · refine t_if_ne 13 dX10_at_8 (by decide) (by decide) ?_
    obtain ⟨a, ha, rfl⟩ := nI_ex (x := x) c_5.1 c_5.2
    have ea : (nI a).toInt = (a : Int) := tiN (by omega)
    have ta : tn (nI a) = a := tnN (by omega)
    refine x_aload_n 0 dX10_at_13 rfl rfl ?_
    refine x_getR fX10_21 dX10_at_14 l0 rfl ?_
    refine x_iload_n 1 dX10_at_17 rfl rfl ?_
    refine x_callVb (as := [_]) (rest := []) vX10_117 (c_X5_missing isR ha) dX10_at_18 l3 rfl rfl rfl (Nat.le_of_ble_eq_true rfl) (Nat.le_of_ble_eq_true rfl) (Nat.le_of_ble_eq_true rfl) (fun c_18 => ?_) (fun c_18 => ?_)
    · refine u_if_eq 33 dX10_at_21 (by decide) (by decide) ?_
      refine x_aload_n 0 dX10_at_24 rfl rfl ?_
      refine x_getR fX10_10 dX10_at_25 l0 rfl ?_
      refine x_iconst (v := nI 1) dX10_at_28 (by decide) ?_
      refine x_callVu (as := [_]) (rest := []) vX10_109 (c_X9_find (by decide) (by decide)) dX10_at_29 l1 rfl rfl rfl (Nat.le_of_ble_eq_true rfl) (Nat.le_of_ble_eq_true rfl) (Nat.le_of_ble_eq_true rfl) ?_
      refine x_iret rfl dX10_at_32 (by exact ⟨congrArg some (congrArg Value.int (by simp only [layA, ta]; rw [if_neg (by omega), if_pos (by omega)] <;> first | with_reducible rfl | with_reducible exact nI_one)), (by simp only [atX, ta]; rw [if_neg (by omega), if_pos (by omega)] <;> first | with_reducible rfl | with_reducible exact nI_one)⟩)
    · refine t_if_eq 33 dX10_at_21 (by decide) (by decide) ?_
      obtain ⟨z, hz, ez⟩ := hS.nn ha c_18
      have ezi : (nI z).toInt = (z : Int) := tiN (by omega)
      have n1 : (nI 1).toInt = 1 := rfl
      refine x_aload_n 0 dX10_at_33 rfl rfl ?_
      refine x_getR fX10_21 dX10_at_34 l0 rfl ?_
      refine x_iload_n 1 dX10_at_37 rfl rfl ?_
      refine x_iload_n 2 dX10_at_38 rfl rfl ?_
      refine x_iconst (v := nI 1) dX10_at_39 (by decide) ?_
      refine x_callVb (as := [_, _, _]) (rest := []) vX10_120 (c_X5_hasPlaces isR ha ez hz) dX10_at_40 l3 rfl rfl rfl (Nat.le_of_ble_eq_true rfl) (Nat.le_of_ble_eq_true rfl) (Nat.le_of_ble_eq_true rfl) (fun c_40 => ?_) (fun c_40 => ?_)
      · refine t_if_ne 55 dX10_at_43 (by decide) (by decide) ?_
        obtain ⟨b, hb, rfl⟩ := nI_ex (x := y) (n := z) c_40.1 (by omega)
        have eb : (nI b).toInt = (b : Int) := tiN (by omega)
        have tb : tn (nI b) = b := tnN (by omega)
        refine x_aload_n 0 dX10_at_55 rfl rfl ?_
        refine x_getR fX10_10 dX10_at_56 l0 rfl ?_
        refine x_aload_n 0 dX10_at_59 rfl rfl ?_
        refine x_getR fX10_21 dX10_at_60 l0 rfl ?_
        refine x_iload_n 1 dX10_at_63 rfl rfl ?_
        refine x_iload_n 2 dX10_at_64 rfl rfl ?_
        refine x_callVu (as := [_, _]) (rest := [_]) vX10_124 (c_X5_get isR hS.1 ha ez hz (by omega)) dX10_at_65 l3 rfl rfl rfl (Nat.le_of_ble_eq_true rfl) (Nat.le_of_ble_eq_true rfl) (Nat.le_of_ble_eq_true rfl) ?_
        refine x_callVu (as := [_]) (rest := []) vX10_131 c_X9_tell dX10_at_68 l1 rfl rfl rfl (Nat.le_of_ble_eq_true rfl) (Nat.le_of_ble_eq_true rfl) (Nat.le_of_ble_eq_true rfl) ?_
        refine x_iret rfl dX10_at_71 (by exact ⟨congrArg some (congrArg Value.int (by simp only [layA, ta, tb, ez]; rw [if_neg (by omega), if_neg (by omega), if_neg (by omega)] <;> first | with_reducible rfl | with_reducible exact nI_one)), (by simp only [atX, ta, tb, ez]; rw [if_neg (by omega), if_neg (by omega), if_neg (by omega)] <;> first | with_reducible rfl | with_reducible exact nI_one)⟩)
      · refine u_if_ne 55 dX10_at_43 (by decide) (by decide) ?_
        refine x_aload_n 0 dX10_at_46 rfl rfl ?_
        refine x_getR fX10_10 dX10_at_47 l0 rfl ?_
        refine x_iconst (v := nI 2) dX10_at_50 (by decide) ?_
        refine x_callVu (as := [_]) (rest := []) vX10_109 (c_X9_find (by decide) (by decide)) dX10_at_51 l1 rfl rfl rfl (Nat.le_of_ble_eq_true rfl) (Nat.le_of_ble_eq_true rfl) (Nat.le_of_ble_eq_true rfl) ?_
        refine x_iret rfl dX10_at_54 (by exact ⟨congrArg some (congrArg Value.int (by simp only [layA, ta, ez]; rw [if_neg (by omega), if_neg (by omega), if_pos (by omega)] <;> first | with_reducible rfl | with_reducible exact nI_one)), (by simp only [atX, ta, ez]; rw [if_neg (by omega), if_neg (by omega), if_pos (by omega)] <;> first | with_reducible rfl | with_reducible exact nI_one)⟩)
  · refine u_if_ne 13 dX10_at_8 (by decide) (by decide) ?_
    refine x_iconst (v := -1) dX10_at_11 (by decide) ?_
    refine x_iret rfl dX10_at_12 (by exact ⟨congrArg some (congrArg Value.int (by simp only [layA]; rw [if_pos (by omega)] <;> first | with_reducible rfl | with_reducible exact nI_one)), (by simp only [atX]; rw [if_pos (by omega)] <;> first | with_reducible rfl | with_reducible exact nI_one)⟩)

set_option maxHeartbeats 4000000 in
set_option maxRecDepth 100000 in
theorem c_X10_put {S : St} {x y v : Int32} (hS : RwS 6 4 100 S) : C 3 90 yX10_put mX10_put [.ref 0, .int x, .int y, .int v] S (pu (.int (layA 4 x y (S.1 7 (tn x)) (S.1 8 (tn x * 100 + tn y) + nI 1000))) (putX S x y v)) := by
  refine C.ofX (by decide) rfl (Nat.le_of_ble_eq_true rfl) ?_
  show X 3 90 mX10_put (pu (.int (layA 4 x y (S.1 7 (tn x)) (S.1 8 (tn x * 100 + tn y) + nI 1000))) (putX S x y v)) 0 [(0, .ref 0), (1, .int x), (2, .int y), (3, .int v)] [] S
  refine x_aload_n 0 dX10_put_0 rfl rfl ?_
  refine x_getR fX10_25 dX10_put_1 l0 rfl ?_
  refine x_iload_n 1 dX10_put_4 rfl rfl ?_
  refine x_callVb (as := [_]) (rest := []) vX10_105 (c_X5_isOne isTx) dX10_put_5 l6 rfl rfl rfl (Nat.le_of_ble_eq_true rfl) (Nat.le_of_ble_eq_true rfl) (Nat.le_of_ble_eq_true rfl) (fun c_5 => ?_) (fun c_5 => ?_)
  · refine t_if_ne 13 dX10_put_8 (by decide) (by decide) ?_
    obtain ⟨a, ha, rfl⟩ := nI_ex (x := x) c_5.1 c_5.2
    have ea : (nI a).toInt = (a : Int) := tiN (by omega)
    have ta : tn (nI a) = a := tnN (by omega)
    refine x_aload_n 0 dX10_put_13 rfl rfl ?_
    refine x_getR fX10_25 dX10_put_14 l0 rfl ?_
    refine x_iload_n 1 dX10_put_17 rfl rfl ?_
    refine x_callVb (as := [_]) (rest := []) vX10_117 (c_X5_missing isTx ha) dX10_put_18 l6 rfl rfl rfl (Nat.le_of_ble_eq_true rfl) (Nat.le_of_ble_eq_true rfl) (Nat.le_of_ble_eq_true rfl) (fun c_18 => ?_) (fun c_18 => ?_)
    · refine u_if_eq 33 dX10_put_21 (by decide) (by decide) ?_
      refine x_aload_n 0 dX10_put_24 rfl rfl ?_
      refine x_getR fX10_10 dX10_put_25 l0 rfl ?_
      refine x_iconst (v := nI 1) dX10_put_28 (by decide) ?_
      refine x_callVu (as := [_]) (rest := []) vX10_109 (c_X9_find (by decide) (by decide)) dX10_put_29 l1 rfl rfl rfl (Nat.le_of_ble_eq_true rfl) (Nat.le_of_ble_eq_true rfl) (Nat.le_of_ble_eq_true rfl) ?_
      refine x_iret rfl dX10_put_32 (by exact ⟨congrArg some (congrArg Value.int (by simp only [layA, ta]; rw [if_neg (by omega), if_pos (by omega)] <;> first | with_reducible rfl | with_reducible exact nI_one)), (by simp only [putX, ta]; rw [if_neg (by omega), if_pos (by omega)] <;> first | with_reducible rfl | with_reducible exact nI_one)⟩)
    · refine t_if_eq 33 dX10_put_21 (by decide) (by decide) ?_
      obtain ⟨z, hz, ez⟩ := hS.nn ha c_18
      have ezi : (nI z).toInt = (z : Int) := tiN (by omega)
      have n1 : (nI 1).toInt = 1 := rfl
      refine x_aload_n 0 dX10_put_33 rfl rfl ?_
      refine x_getR fX10_25 dX10_put_34 l0 rfl ?_
      refine x_iload_n 1 dX10_put_37 rfl rfl ?_
      refine x_iload_n 2 dX10_put_38 rfl rfl ?_
      refine x_iconst (v := nI 1) dX10_put_39 (by decide) ?_
      refine x_callVb (as := [_, _, _]) (rest := []) vX10_120 (c_X5_hasPlaces isTx ha ez hz) dX10_put_40 l6 rfl rfl rfl (Nat.le_of_ble_eq_true rfl) (Nat.le_of_ble_eq_true rfl) (Nat.le_of_ble_eq_true rfl) (fun c_40 => ?_) (fun c_40 => ?_)
      · refine t_if_ne 55 dX10_put_43 (by decide) (by decide) ?_
        obtain ⟨b, hb, rfl⟩ := nI_ex (x := y) (n := z) c_40.1 (by omega)
        have eb : (nI b).toInt = (b : Int) := tiN (by omega)
        have tb : tn (nI b) = b := tnN (by omega)
        refine x_aload_n 0 dX10_put_55 rfl rfl ?_
        refine x_getR fX10_25 dX10_put_56 l0 rfl ?_
        refine x_iload_n 1 dX10_put_59 rfl rfl ?_
        refine x_iload_n 2 dX10_put_60 rfl rfl ?_
        refine x_callVu (as := [_, _]) (rest := []) vX10_124 (c_X5_get isTx hS.1 ha ez hz (by omega)) dX10_put_61 l6 rfl rfl rfl (Nat.le_of_ble_eq_true rfl) (Nat.le_of_ble_eq_true rfl) (Nat.le_of_ble_eq_true rfl) ?_
        refine x_istore (lv' := [(4, _), (0, _), (1, _), (2, _), (3, _)]) dX10_put_64 (by decide) rfl ?_
        refine x_aload_n 1 dX10_put_66 rfl rfl ?_
        refine x_getR fX10_25 dX10_put_67 l0 rfl ?_
        refine x_iload_n 2 dX10_put_70 rfl rfl ?_
        refine x_iload_n 3 dX10_put_71 rfl rfl ?_
        refine x_iload_n 4 dX10_put_72 rfl rfl ?_
        refine x_i2b dX10_put_73 ?_
        refine x_callVv (as := [_, _, _]) (rest := []) vX10_128 (c_X5_set isTx hS.1 ha ez hz (by omega)) dX10_put_74 l6 rfl rfl rfl (Nat.le_of_ble_eq_true rfl) (Nat.le_of_ble_eq_true rfl) (Nat.le_of_ble_eq_true rfl) ?_
        refine x_iload 0 dX10_put_77 rfl ?_
        refine x_sipush (v := nI 1000) dX10_put_79 (by decide +kernel) ?_
        refine x_iadd dX10_put_82 ?_
        refine x_iret rfl dX10_put_83 (by exact ⟨congrArg some (congrArg Value.int (by simp only [layA, ta, tb, ez]; rw [if_neg (by omega), if_neg (by omega), if_neg (by omega)] <;> first | with_reducible rfl | with_reducible exact nI_one)), (by simp only [putX, ta, tb, ez]; rw [if_neg (by omega), if_neg (by omega), if_neg (by omega)] <;> first | with_reducible rfl | with_reducible exact nI_one)⟩)
      · refine u_if_ne 55 dX10_put_43 (by decide) (by decide) ?_
        refine x_aload_n 0 dX10_put_46 rfl rfl ?_
        refine x_getR fX10_10 dX10_put_47 l0 rfl ?_
        refine x_iconst (v := nI 2) dX10_put_50 (by decide) ?_
        refine x_callVu (as := [_]) (rest := []) vX10_109 (c_X9_find (by decide) (by decide)) dX10_put_51 l1 rfl rfl rfl (Nat.le_of_ble_eq_true rfl) (Nat.le_of_ble_eq_true rfl) (Nat.le_of_ble_eq_true rfl) ?_
        refine x_iret rfl dX10_put_54 (by exact ⟨congrArg some (congrArg Value.int (by simp only [layA, ta, ez]; rw [if_neg (by omega), if_neg (by omega), if_pos (by omega)] <;> first | with_reducible rfl | with_reducible exact nI_one)), (by simp only [putX, ta, ez]; rw [if_neg (by omega), if_neg (by omega), if_pos (by omega)] <;> first | with_reducible rfl | with_reducible exact nI_one)⟩)
  · refine u_if_ne 13 dX10_put_8 (by decide) (by decide) ?_
    refine x_iconst (v := -1) dX10_put_11 (by decide) ?_
    refine x_iret rfl dX10_put_12 (by exact ⟨congrArg some (congrArg Value.int (by simp only [layA]; rw [if_pos (by omega)] <;> first | with_reducible rfl | with_reducible exact nI_one)), (by simp only [putX]; rw [if_pos (by omega)] <;> first | with_reducible rfl | with_reducible exact nI_one)⟩)

