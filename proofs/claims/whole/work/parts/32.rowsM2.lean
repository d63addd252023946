set_option maxHeartbeats 4000000 in
set_option maxRecDepth 100000 in
theorem c_X11_lay {S : St} {x y v : Int32} (hS : RwM S) : C 2 60 yX11_lay mX11_lay [.ref 83, .int x, .int y, .int v] S (pu (.int (layA 6 x y (S.1 85 (tn x)) 1)) (layM S x y v)) := by
  refine C.ofX (by decide) rfl (Nat.le_of_ble_eq_true rfl) ?_
  show X 2 60 mX11_lay (pu (.int (layA 6 x y (S.1 85 (tn x)) 1)) (layM S x y v)) 0 [(0, .ref 83), (1, .int x), (2, .int y), (3, .int v)] [] S
  refine x_iload_n 1 dX11_lay_0 rfl rfl ?_
  refine x_callSb (as := [_]) (rest := []) sX11_108 c_X11_isRow dX11_lay_1 rfl rfl (Nat.le_of_ble_eq_true rfl) (Nat.le_of_ble_eq_true rfl) (Nat.le_of_ble_eq_true rfl) (fun c_1 => ?_) (fun c_1 => ?_)
  · refine t_if_ne 9 dX11_lay_4 (by decide) (by decide) ?_
    obtain ⟨a, ha, rfl⟩ := nI_ex (x := x) (n := 6) (by omega) (by omega)
    have ea : (nI a).toInt = (a : Int) := tiN (by omega)
    have ta : tn (nI a) = a := tnN (by omega)
    refine x_aload_n 0 dX11_lay_9 rfl rfl ?_
    refine x_getR fX11_13 dX11_lay_10 l83 rfl ?_
    refine x_iload_n 1 dX11_lay_13 rfl rfl ?_
    refine y_iald dX11_lay_14 l85 (by omega) (by decide) rfl ?_
    refine x_if_ge 24 dX11_lay_15 (by decide) (fun c_15 => ?_) (fun c_15 => ?_)
    · obtain ⟨z, hz, ez⟩ := hS.r ha (by omega)
      have ezi : (nI z).toInt = (z : Int) := tiN (by omega)
      have n0 : (nI 0).toInt = 0 := rfl
      have ezm : (nI z - nI 1).toInt = (z : Int) - 1 := by rw [toI_sub (by omega) (by omega) (by rw [tiN (by omega)]; omega) (by rw [tiN (by omega)]; omega), ezi]; rfl
      refine x_iload_n 2 dX11_lay_24 rfl rfl ?_
      refine x_iconst (v := nI 0) dX11_lay_25 (by decide) ?_
      refine x_aload_n 0 dX11_lay_26 rfl rfl ?_
      refine x_getR fX11_13 dX11_lay_27 l83 rfl ?_
      refine x_iload_n 1 dX11_lay_30 rfl rfl ?_
      refine y_iald dX11_lay_31 l85 (by omega) (by decide) ez ?_
      refine x_iconst (v := nI 1) dX11_lay_32 (by decide) ?_
      refine x_isub dX11_lay_33 ?_
      refine x_callSb (as := [_, _, _]) (rest := []) sX11_98 c_X11_in dX11_lay_34 rfl rfl (Nat.le_of_ble_eq_true rfl) (Nat.le_of_ble_eq_true rfl) (Nat.le_of_ble_eq_true rfl) (fun c_34 => ?_) (fun c_34 => ?_)
      · refine t_if_ne 46 dX11_lay_37 (by decide) (by decide) ?_
        obtain ⟨b, hb, rfl⟩ := nI_ex (x := y) (n := z) (by omega) (by omega)
        have eb : (nI b).toInt = (b : Int) := tiN (by omega)
        have tb : tn (nI b) = b := tnN (by omega)
        refine x_aload_n 0 dX11_lay_46 rfl rfl ?_
        refine x_iload_n 1 dX11_lay_47 rfl rfl ?_
        refine x_iload_n 2 dX11_lay_48 rfl rfl ?_
        refine x_callVu (as := [_, _]) (rest := []) vX11_116 (c_X11_rowAt ha (by omega)) dX11_lay_49 l83 rfl rfl rfl (Nat.le_of_ble_eq_true rfl) (Nat.le_of_ble_eq_true rfl) (Nat.le_of_ble_eq_true rfl) ?_
        refine x_istore (lv' := [(4, _), (0, _), (1, _), (2, _), (3, _)]) dX11_lay_52 (by decide) rfl ?_
        refine x_aload_n 1 dX11_lay_54 rfl rfl ?_
        refine x_getR fX11_16 dX11_lay_55 l83 rfl ?_
        refine x_bipush (v := nI 60) dX11_lay_58 (by decide) ?_
        refine x_iload_n 2 dX11_lay_60 rfl rfl ?_
        refine y_imul dX11_lay_61 ?_
        refine x_iload_n 3 dX11_lay_62 rfl rfl ?_
        refine y_iadd dX11_lay_63 ?_
        refine x_iload_n 4 dX11_lay_64 rfl rfl ?_
        refine y_iast dX11_lay_65 l86 (by omega) (by decide) ?_
        refine x_aload_n 1 dX11_lay_66 rfl rfl ?_
        refine x_iload 0 dX11_lay_67 rfl ?_
        refine x_iconst (v := nI 1) dX11_lay_69 (by decide) ?_
        refine x_callVu (as := [_, _]) (rest := []) vX11_120 c_X11_tells dX11_lay_70 l83 rfl rfl rfl (Nat.le_of_ble_eq_true rfl) (Nat.le_of_ble_eq_true rfl) (Nat.le_of_ble_eq_true rfl) ?_
        refine x_iret rfl dX11_lay_73 (by exact ⟨congrArg some (congrArg Value.int (by simp only [layA, ta, tb, ez]; rw [if_neg (by omega), if_neg (by omega), if_neg (by omega)] <;> first | with_reducible rfl | with_reducible exact nI_one)), (by simp only [layM, ta, tb, ez]; rw [if_neg (by omega), if_neg (by omega), if_neg (by omega)] <;> first | with_reducible rfl | with_reducible exact nI_one)⟩)
      · refine u_if_ne 46 dX11_lay_37 (by decide) (by decide) ?_
        refine x_aload_n 0 dX11_lay_40 rfl rfl ?_
        refine x_iconst (v := nI 2) dX11_lay_41 (by decide) ?_
        refine x_callVu (as := [_]) (rest := []) vX11_112 (c_X11_meets (by decide)) dX11_lay_42 l83 rfl rfl rfl (Nat.le_of_ble_eq_true rfl) (Nat.le_of_ble_eq_true rfl) (Nat.le_of_ble_eq_true rfl) ?_
        refine x_iret rfl dX11_lay_45 (by exact ⟨congrArg some (congrArg Value.int (by simp only [layA, ta, ez]; rw [if_neg (by omega), if_neg (by omega), if_pos (by omega)] <;> first | with_reducible rfl | with_reducible exact nI_one)), (by simp only [layM, ta, ez]; rw [if_neg (by omega), if_neg (by omega), if_pos (by omega)] <;> first | with_reducible rfl | with_reducible exact nI_one)⟩)
    · refine x_aload_n 0 dX11_lay_18 rfl rfl ?_
      refine x_iconst (v := nI 1) dX11_lay_19 (by decide) ?_
      refine x_callVu (as := [_]) (rest := []) vX11_112 (c_X11_meets (by decide)) dX11_lay_20 l83 rfl rfl rfl (Nat.le_of_ble_eq_true rfl) (Nat.le_of_ble_eq_true rfl) (Nat.le_of_ble_eq_true rfl) ?_
      refine x_iret rfl dX11_lay_23 (by exact ⟨congrArg some (congrArg Value.int (by simp only [layA, ta]; rw [if_neg (by omega), if_pos (by omega)] <;> first | with_reducible rfl | with_reducible exact nI_one)), (by simp only [layM, ta]; rw [if_neg (by omega), if_pos (by omega)] <;> first | with_reducible rfl | with_reducible exact nI_one)⟩)
  · refine u_if_ne 9 dX11_lay_4 (by decide) (by decide) ?_
    refine x_iconst (v := -1) dX11_lay_7 (by decide) ?_
    refine x_iret rfl dX11_lay_8 (by exact ⟨congrArg some (congrArg Value.int (by simp only [layA]; rw [if_pos (by omega)] <;> first | with_reducible rfl | with_reducible exact nI_one)), (by simp only [layM]; rw [if_pos (by omega)] <;> first | with_reducible rfl | with_reducible exact nI_one)⟩)

set_option maxHeartbeats 4000000 in
set_option maxRecDepth 100000 in
theorem c_X11_at {S : St} {x y : Int32} (hS : RwM S) : C 2 60 yX11_at mX11_at [.ref 83, .int x, .int y] S (pu (.int (layA 6 x y (S.1 85 (tn x)) 1)) (atM S x y)) := by
  refine C.ofX (by decide) rfl (Nat.le_of_ble_eq_true rfl) ?_
  show X 2 60 mX11_at (pu (.int (layA 6 x y (S.1 85 (tn x)) 1)) (atM S x y)) 0 [(0, .ref 83), (1, .int x), (2, .int y)] [] S
  refine x_iload_n 1 dX11_at_0 rfl rfl ?_
  refine x_callSb (as := [_]) (rest := []) sX11_108 c_X11_isRow dX11_at_1 rfl rfl (Nat.le_of_ble_eq_true rfl) (Nat.le_of_ble_eq_true rfl) (Nat.le_of_ble_eq_true rfl) (fun c_1 => ?_) (fun c_1 => ?_)
  · refine t_if_ne 9 dX11_at_4 (by decide) (by decide) ?_
    obtain ⟨a, ha, rfl⟩ := nI_ex (x := x) (n := 6) (by omega) (by omega)
    have ea : (nI a).toInt = (a : Int) := tiN (by omega)
    have ta : tn (nI a) = a := tnN (by omega)
    refine x_aload_n 0 dX11_at_9 rfl rfl ?_
    refine x_getR fX11_13 dX11_at_10 l83 rfl ?_
    refine x_iload_n 1 dX11_at_13 rfl rfl ?_
    refine y_iald dX11_at_14 l85 (by omega) (by decide) rfl ?_
    refine x_if_ge 24 dX11_at_15 (by decide) (fun c_15 => ?_) (fun c_15 => ?_)
    · obtain ⟨z, hz, ez⟩ := hS.r ha (by omega)
      have ezi : (nI z).toInt = (z : Int) := tiN (by omega)
      have n0 : (nI 0).toInt = 0 := rfl
      have ezm : (nI z - nI 1).toInt = (z : Int) - 1 := by rw [toI_sub (by omega) (by omega) (by rw [tiN (by omega)]; omega) (by rw [tiN (by omega)]; omega), ezi]; rfl
      refine x_iload_n 2 dX11_at_24 rfl rfl ?_
      refine x_iconst (v := nI 0) dX11_at_25 (by decide) ?_
      refine x_aload_n 0 dX11_at_26 rfl rfl ?_
      refine x_getR fX11_13 dX11_at_27 l83 rfl ?_
      refine x_iload_n 1 dX11_at_30 rfl rfl ?_
      refine y_iald dX11_at_31 l85 (by omega) (by decide) ez ?_
      refine x_iconst (v := nI 1) dX11_at_32 (by decide) ?_
      refine x_isub dX11_at_33 ?_
      refine x_callSb (as := [_, _, _]) (rest := []) sX11_98 c_X11_in dX11_at_34 rfl rfl (Nat.le_of_ble_eq_true rfl) (Nat.le_of_ble_eq_true rfl) (Nat.le_of_ble_eq_true rfl) (fun c_34 => ?_) (fun c_34 => ?_)
      · refine u_if_eq 54 dX11_at_37 (by decide) (by decide) ?_
        obtain ⟨b, hb, rfl⟩ := nI_ex (x := y) (n := z) (by omega) (by omega)
        have eb : (nI b).toInt = (b : Int) := tiN (by omega)
        have tb : tn (nI b) = b := tnN (by omega)
        refine x_aload_n 0 dX11_at_40 rfl rfl ?_
        refine x_aload_n 0 dX11_at_41 rfl rfl ?_
        refine x_iload_n 1 dX11_at_42 rfl rfl ?_
        refine x_iload_n 2 dX11_at_43 rfl rfl ?_
        refine x_callVu (as := [_, _]) (rest := [_]) vX11_116 (c_X11_rowAt ha (by omega)) dX11_at_44 l83 rfl rfl rfl (Nat.le_of_ble_eq_true rfl) (Nat.le_of_ble_eq_true rfl) (Nat.le_of_ble_eq_true rfl) ?_
        refine x_iconst (v := nI 1) dX11_at_47 (by decide) ?_
        refine x_callVu (as := [_, _]) (rest := []) vX11_120 c_X11_tells dX11_at_48 l83 rfl rfl rfl (Nat.le_of_ble_eq_true rfl) (Nat.le_of_ble_eq_true rfl) (Nat.le_of_ble_eq_true rfl) ?_
        refine x_goto 59 dX11_at_51 (by decide) ?_
        refine x_iret rfl dX11_at_59 (by exact ⟨congrArg some (congrArg Value.int (by simp only [layA, ta, tb, ez]; rw [if_neg (by omega), if_neg (by omega), if_neg (by omega)] <;> first | with_reducible rfl | with_reducible exact nI_one)), (by simp only [atM, ta, tb, ez]; rw [if_neg (by omega), if_neg (by omega), if_neg (by omega)] <;> first | with_reducible rfl | with_reducible exact nI_one)⟩)
      · refine t_if_eq 54 dX11_at_37 (by decide) (by decide) ?_
        refine x_aload_n 0 dX11_at_54 rfl rfl ?_
        refine x_iconst (v := nI 2) dX11_at_55 (by decide) ?_
        refine x_callVu (as := [_]) (rest := []) vX11_112 (c_X11_meets (by decide)) dX11_at_56 l83 rfl rfl rfl (Nat.le_of_ble_eq_true rfl) (Nat.le_of_ble_eq_true rfl) (Nat.le_of_ble_eq_true rfl) ?_
        refine x_iret rfl dX11_at_59 (by exact ⟨congrArg some (congrArg Value.int (by simp only [layA, ta, ez]; rw [if_neg (by omega), if_neg (by omega), if_pos (by omega)] <;> first | with_reducible rfl | with_reducible exact nI_one)), (by simp only [atM, ta, ez]; rw [if_neg (by omega), if_neg (by omega), if_pos (by omega)] <;> first | with_reducible rfl | with_reducible exact nI_one)⟩)
    · refine x_aload_n 0 dX11_at_18 rfl rfl ?_
      refine x_iconst (v := nI 1) dX11_at_19 (by decide) ?_
      refine x_callVu (as := [_]) (rest := []) vX11_112 (c_X11_meets (by decide)) dX11_at_20 l83 rfl rfl rfl (Nat.le_of_ble_eq_true rfl) (Nat.le_of_ble_eq_true rfl) (Nat.le_of_ble_eq_true rfl) ?_
      refine x_iret rfl dX11_at_23 (by exact ⟨congrArg some (congrArg Value.int (by simp only [layA, ta]; rw [if_neg (by omega), if_pos (by omega)] <;> first | with_reducible rfl | with_reducible exact nI_one)), (by simp only [atM, ta]; rw [if_neg (by omega), if_pos (by omega)] <;> first | with_reducible rfl | with_reducible exact nI_one)⟩)
  · refine u_if_ne 9 dX11_at_4 (by decide) (by decide) ?_
    refine x_iconst (v := -1) dX11_at_7 (by decide) ?_
    refine x_iret rfl dX11_at_8 (by exact ⟨congrArg some (congrArg Value.int (by simp only [layA]; rw [if_pos (by omega)] <;> first | with_reducible rfl | with_reducible exact nI_one)), (by simp only [atM]; rw [if_pos (by omega)] <;> first | with_reducible rfl | with_reducible exact nI_one)⟩)

set_option maxHeartbeats 4000000 in
set_option maxRecDepth 100000 in
theorem c_X11_put {S : St} {x y v : Int32} (hS : RwM S) : C 2 60 yX11_put mX11_put [.ref 83, .int x, .int y, .int v] S (pu (.int (layA 4 x y (S.1 88 (tn x)) (nI 1000 + S.1 89 (100 * tn x + tn y)))) (putM S x y v)) := by
  refine C.ofX (by decide) rfl (Nat.le_of_ble_eq_true rfl) ?_
  show X 2 60 mX11_put (pu (.int (layA 4 x y (S.1 88 (tn x)) (nI 1000 + S.1 89 (100 * tn x + tn y)))) (putM S x y v)) 0 [(0, .ref 83), (1, .int x), (2, .int y), (3, .int v)] [] S
  refine x_iload_n 1 dX11_put_0 rfl rfl ?_
  refine x_callSb (as := [_]) (rest := []) sX11_123 c_X11_isText dX11_put_1 rfl rfl (Nat.le_of_ble_eq_true rfl) (Nat.le_of_ble_eq_true rfl) (Nat.le_of_ble_eq_true rfl) (fun c_1 => ?_) (fun c_1 => ?_)
  · refine t_if_ne 9 dX11_put_4 (by decide) (by decide) ?_
    obtain ⟨a, ha, rfl⟩ := nI_ex (x := x) (n := 4) (by omega) (by omega)
    have ea : (nI a).toInt = (a : Int) := tiN (by omega)
    have ta : tn (nI a) = a := tnN (by omega)
    refine x_aload_n 0 dX11_put_9 rfl rfl ?_
    refine x_getR fX11_22 dX11_put_10 l83 rfl ?_
    refine x_iload_n 1 dX11_put_13 rfl rfl ?_
    refine y_iald dX11_put_14 l88 (by omega) (by decide) rfl ?_
    refine x_if_ge 24 dX11_put_15 (by decide) (fun c_15 => ?_) (fun c_15 => ?_)
    · obtain ⟨z, hz, ez⟩ := hS.t ha (by omega)
      have ezi : (nI z).toInt = (z : Int) := tiN (by omega)
      have n0 : (nI 0).toInt = 0 := rfl
      have ezm : (nI z - nI 1).toInt = (z : Int) - 1 := by rw [toI_sub (by omega) (by omega) (by rw [tiN (by omega)]; omega) (by rw [tiN (by omega)]; omega), ezi]; rfl
      refine x_iload_n 2 dX11_put_24 rfl rfl ?_
      refine x_iconst (v := nI 0) dX11_put_25 (by decide) ?_
      refine x_aload_n 0 dX11_put_26 rfl rfl ?_
      refine x_getR fX11_22 dX11_put_27 l83 rfl ?_
      refine x_iload_n 1 dX11_put_30 rfl rfl ?_
      refine y_iald dX11_put_31 l88 (by omega) (by decide) ez ?_
      refine x_iconst (v := nI 1) dX11_put_32 (by decide) ?_
      refine x_isub dX11_put_33 ?_
      refine x_callSb (as := [_, _, _]) (rest := []) sX11_98 c_X11_in dX11_put_34 rfl rfl (Nat.le_of_ble_eq_true rfl) (Nat.le_of_ble_eq_true rfl) (Nat.le_of_ble_eq_true rfl) (fun c_34 => ?_) (fun c_34 => ?_)
      · refine t_if_ne 46 dX11_put_37 (by decide) (by decide) ?_
        obtain ⟨b, hb, rfl⟩ := nI_ex (x := y) (n := z) (by omega) (by omega)
        have eb : (nI b).toInt = (b : Int) := tiN (by omega)
        have tb : tn (nI b) = b := tnN (by omega)
        refine x_aload_n 0 dX11_put_46 rfl rfl ?_
        refine x_getR fX11_25 dX11_put_47 l83 rfl ?_
        refine x_bipush (v := nI 100) dX11_put_50 (by decide) ?_
        refine x_iload_n 1 dX11_put_52 rfl rfl ?_
        refine y_imul dX11_put_53 ?_
        refine x_iload_n 2 dX11_put_54 rfl rfl ?_
        refine y_iadd dX11_put_55 ?_
        refine y_bald dX11_put_56 l89 (by omega) (by decide) rfl ?_
        refine x_istore (lv' := [(4, _), (0, _), (1, _), (2, _), (3, _)]) dX11_put_57 (by decide) rfl ?_
        refine x_aload_n 1 dX11_put_59 rfl rfl ?_
        refine x_getR fX11_25 dX11_put_60 l83 rfl ?_
        refine x_bipush (v := nI 100) dX11_put_63 (by decide) ?_
        refine x_iload_n 2 dX11_put_65 rfl rfl ?_
        refine y_imul dX11_put_66 ?_
        refine x_iload_n 3 dX11_put_67 rfl rfl ?_
        refine y_iadd dX11_put_68 ?_
        refine x_iload_n 4 dX11_put_69 rfl rfl ?_
        refine x_i2b dX11_put_70 ?_
        refine y_bast dX11_put_71 l89 (by omega) (by decide) ?_
        refine x_sipush (v := nI 1000) dX11_put_72 (by decide +kernel) ?_
        refine x_iload 0 dX11_put_75 rfl ?_
        refine x_iadd dX11_put_77 ?_
        refine x_iret rfl dX11_put_78 (by exact ⟨congrArg some (congrArg Value.int (by simp only [layA, ta, tb, ez]; rw [if_neg (by omega), if_neg (by omega), if_neg (by omega)] <;> first | with_reducible rfl | with_reducible exact nI_one)), (by simp only [putM, ta, tb, ez]; rw [if_neg (by omega), if_neg (by omega), if_neg (by omega)] <;> first | with_reducible rfl | with_reducible exact nI_one)⟩)
      · refine u_if_ne 46 dX11_put_37 (by decide) (by decide) ?_
        refine x_aload_n 0 dX11_put_40 rfl rfl ?_
        refine x_iconst (v := nI 2) dX11_put_41 (by decide) ?_
        refine x_callVu (as := [_]) (rest := []) vX11_112 (c_X11_meets (by decide)) dX11_put_42 l83 rfl rfl rfl (Nat.le_of_ble_eq_true rfl) (Nat.le_of_ble_eq_true rfl) (Nat.le_of_ble_eq_true rfl) ?_
        refine x_iret rfl dX11_put_45 (by exact ⟨congrArg some (congrArg Value.int (by simp only [layA, ta, ez]; rw [if_neg (by omega), if_neg (by omega), if_pos (by omega)] <;> first | with_reducible rfl | with_reducible exact nI_one)), (by simp only [putM, ta, ez]; rw [if_neg (by omega), if_neg (by omega), if_pos (by omega)] <;> first | with_reducible rfl | with_reducible exact nI_one)⟩)
    · refine x_aload_n 0 dX11_put_18 rfl rfl ?_
      refine x_iconst (v := nI 1) dX11_put_19 (by decide) ?_
      refine x_callVu (as := [_]) (rest := []) vX11_112 (c_X11_meets (by decide)) dX11_put_20 l83 rfl rfl rfl (Nat.le_of_ble_eq_true rfl) (Nat.le_of_ble_eq_true rfl) (Nat.le_of_ble_eq_true rfl) ?_
      refine x_iret rfl dX11_put_23 (by exact ⟨congrArg some (congrArg Value.int (by simp only [layA, ta]; rw [if_neg (by omega), if_pos (by omega)] <;> first | with_reducible rfl | with_reducible exact nI_one)), (by simp only [putM, ta]; rw [if_neg (by omega), if_pos (by omega)] <;> first | with_reducible rfl | with_reducible exact nI_one)⟩)
  · refine u_if_ne 9 dX11_put_4 (by decide) (by decide) ?_
    refine x_iconst (v := -1) dX11_put_7 (by decide) ?_
    refine x_iret rfl dX11_put_8 (by exact ⟨congrArg some (congrArg Value.int (by simp only [layA]; rw [if_pos (by omega)] <;> first | with_reducible rfl | with_reducible exact nI_one)), (by simp only [putM]; rw [if_pos (by omega)] <;> first | with_reducible rfl | with_reducible exact nI_one)⟩)

set_option maxHeartbeats 4000000 in
set_option maxRecDepth 100000 in
theorem c_X11_tear {S : St} {x : Int32} : C 2 60 yX11_tear mX11_tear [.ref 83, .int x] S (pu (.int (tearA x (S.1 85 (tn x)))) (tearM S x)) := by
  refine C.ofX (by decide) rfl (Nat.le_of_ble_eq_true rfl) ?_
  show X 2 60 mX11_tear (pu (.int (tearA x (S.1 85 (tn x)))) (tearM S x)) 0 [(0, .ref 83), (1, .int x)] [] S
  refine x_iload_n 1 dX11_tear_0 rfl rfl ?_
  refine x_callSb (as := [_]) (rest := []) sX11_108 c_X11_isRow dX11_tear_1 rfl rfl (Nat.le_of_ble_eq_true rfl) (Nat.le_of_ble_eq_true rfl) (Nat.le_of_ble_eq_true rfl) (fun c_1 => ?_) (fun c_1 => ?_)
  · refine t_if_ne 9 dX11_tear_4 (by decide) (by decide) ?_
    obtain ⟨a, ha, rfl⟩ := nI_ex (x := x) (n := 6) (by omega) (by omega)
    have ea : (nI a).toInt = (a : Int) := tiN (by omega)
    have ta : tn (nI a) = a := tnN (by omega)
    refine x_aload_n 0 dX11_tear_9 rfl rfl ?_
    refine x_getR fX11_13 dX11_tear_10 l83 rfl ?_
    refine x_iload_n 1 dX11_tear_13 rfl rfl ?_
    refine y_iald dX11_tear_14 l85 (by omega) (by decide) rfl ?_
    refine x_if_ge 24 dX11_tear_15 (by decide) (fun c_15 => ?_) (fun c_15 => ?_)
    · refine x_aload_n 0 dX11_tear_24 rfl rfl ?_
      refine x_getR fX11_13 dX11_tear_25 l83 rfl ?_
      refine x_iload_n 1 dX11_tear_28 rfl rfl ?_
      refine x_iconst (v := -1) dX11_tear_29 (by decide) ?_
      refine y_iast dX11_tear_30 l85 (by omega) (by decide) ?_
      refine x_iconst (v := nI 1) dX11_tear_31 (by decide) ?_
      refine x_iret rfl dX11_tear_32 (by exact ⟨congrArg some (congrArg Value.int (by simp only [tearA, ta]; rw [if_neg (by omega), if_neg (by omega)] <;> first | with_reducible rfl | with_reducible exact nI_one)), (by simp only [tearM, ta]; rw [if_neg (by omega), if_neg (by omega)] <;> first | with_reducible rfl | with_reducible exact nI_one)⟩)
    · refine x_aload_n 0 dX11_tear_18 rfl rfl ?_
      refine x_iconst (v := nI 1) dX11_tear_19 (by decide) ?_
      refine x_callVu (as := [_]) (rest := []) vX11_112 (c_X11_meets (by decide)) dX11_tear_20 l83 rfl rfl rfl (Nat.le_of_ble_eq_true rfl) (Nat.le_of_ble_eq_true rfl) (Nat.le_of_ble_eq_true rfl) ?_
      refine x_iret rfl dX11_tear_23 (by exact ⟨congrArg some (congrArg Value.int (by simp only [tearA, ta]; rw [if_neg (by omega), if_pos (by omega)] <;> first | with_reducible rfl | with_reducible exact nI_one)), (by simp only [tearM, ta]; rw [if_neg (by omega), if_pos (by omega)] <;> first | with_reducible rfl | with_reducible exact nI_one)⟩)
  · refine u_if_ne 9 dX11_tear_4 (by decide) (by decide) ?_
    refine x_iconst (v := -1) dX11_tear_7 (by decide) ?_
    refine x_iret rfl dX11_tear_8 (by exact ⟨congrArg some (congrArg Value.int (by simp only [tearA]; rw [if_pos (by omega)] <;> first | with_reducible rfl | with_reducible exact nI_one)), (by simp only [tearM]; rw [if_pos (by omega)] <;> first | with_reducible rfl | with_reducible exact nI_one)⟩)
