/-! ===== drops ===== -/
noncomputable def df2 (I : Isl) (w : Nat → Nat) (L t q : Nat) : Nat := (drF I w q (ovF I w L t q) (iM I)).2
theorem dfF_n {I : Isl} {w : Nat → Nat} {L t q : Nat} (h : ¬ dfF I w L t q = -9) : dfF I w L t q = nI (df2 I w L t q) := by
  unfold dfF at h ⊢
  by_cases q0 : 0 < (drF I w q (ovF I w L t q) (iM I)).1
  · rw [if_pos q0] at h; exact absurd rfl h
  · rw [if_neg q0]; rfl
theorem ov_le {I : Isl} (hO : IOK I) (w : Nat → Nat) (L t q : Nat) : ovF I w L t q ≤ 100 := by
  have := loadF_le I hO w q
  have := wt_le (iK I t)
  unfold ovF
  omega
theorem df2_lt {I : Isl} (hO : IOK I) (w : Nat → Nat) (L t q : Nat) : df2 I w L t q < 32 :=
  Nat.lt_of_lt_of_le (drF_b I w q _ (ov_le hO w L t q) (iM I)).2.2 (pow32 hO).2
theorem dfF_nz {I : Isl} (hO : IOK I) {w : Nat → Nat} {L t q : Nat} : ¬ dfF I w L t q = -9 ↔ ¬ 0 < (drF I w q (ovF I w L t q) (iM I)).1 := by
  unfold dfF
  by_cases q0 : 0 < (drF I w q (ovF I w L t q) (iM I)).1
  · rw [if_pos q0]; exact ⟨fun h => absurd rfl h, fun h => absurd q0 h⟩
  · rw [if_neg q0]
    exact ⟨fun _ => q0, fun _ => nI_ne9 (by have := df2_lt hO w L t q; unfold df2 at this; omega)⟩
/-- over the first things: the most that one can make another drop, and by which gift -/
noncomputable def drP (I : Isl) (w : Nat → Nat) (L p q : Nat) : Nat → Nat × Int32
  | 0 => (0, -9)
  | t + 1 => i2 (w t = p ∧ ¬ dfF I w L t q = -9 ∧ popF (drP I w L p q t).1 < popF (df2 I w L t q)) (df2 I w L t q, nI t) (drP I w L p q t)
theorem drP_t {I : Isl} {w : Nat → Nat} {L p q t : Nat} (h : w t = p ∧ ¬ dfF I w L t q = -9 ∧ popF (drP I w L p q t).1 < popF (df2 I w L t q)) : drP I w L p q (t + 1) = (df2 I w L t q, nI t) := e2_0 h
theorem drP_f {I : Isl} {w : Nat → Nat} {L p q t : Nat} (h : ¬ (w t = p ∧ ¬ dfF I w L t q = -9 ∧ popF (drP I w L p q t).1 < popF (df2 I w L t q))) : drP I w L p q (t + 1) = drP I w L p q t := e2_1 h
theorem drP_lt {I : Isl} (hO : IOK I) (w : Nat → Nat) (L p q : Nat) : ∀ t, (drP I w L p q t).1 < 32
  | 0 => (by decide : (0 : Nat) < 32)
  | t + 1 => by
    by_cases h : w t = p ∧ ¬ dfF I w L t q = -9 ∧ popF (drP I w L p q t).1 < popF (df2 I w L t q)
    · rw [drP_t h]; exact df2_lt hO w L t q
    · rw [drP_f h]; exact drP_lt hO w L p q t

set_option maxHeartbeats 4000000 in
set_option maxRecDepth 100000 in
theorem lp_dropsX {S : St} {I : Isl} (hI : IsX 11 I S) (hO : IOK I) {w : Nat → Nat} (hP : PlT 35 I w S) {L : Nat} (hL : S.1 35 5 = nI L) (hL7 : L ≤ 6) (hv : VS I w L) {p q : Nat} (hp : p < iP I) (hq : q < iP I) (hpq : ¬ p = q)  : ∀ (i : Nat), (i ≤ iM I) → X 3 90 mX10_drops (pu (.int (nI (drP I w L p q (iM I)).1)) (setI S 1 0 (drP I w L p q (iM I)).2)) 38 [(5, .int (nI i)), (4, .int (drP I w L p q i).2), (3, .int (nI ((drP I w L p q i).1))), (0, .ref 0), (1, .int (nI p)), (2, .int (nI q))] [] S := by
  intro i
  induction hm : iM I - i using Nat.strongRecOn generalizing i with
  | _ mm ih =>
    intro hi
    have hO1 := hO.1
    have hO2 := hO.2.1
    have hO3 := hO.2.2.1
    have hO4 := hO.2.2.2.1
    have hw := hv.ok hO
    have hw7 := hw.w7 hO
    have hdl := drP_lt hO w L p q i
    have hd2 := df2_lt hO w L i q
    have hwi := hw7 i
    refine x_iload 0 dX10_drops_38 rfl ?_
    refine x_aload_n 3 dX10_drops_40 rfl rfl ?_
    refine x_getR fX10_40 dX10_drops_41 l0 rfl ?_
    refine y_getI fX10_173 dX10_drops_44 l11 rfl hI.2.1 ?_
    refine y_ic_ge 111 dX10_drops_47 (by decide) (by omega) (by omega) (fun c_47 => ?_) (fun c_47 => ?_)
    · refine x_aload_n 3 dX10_drops_111 rfl rfl ?_
      refine x_getR fX10_10 dX10_drops_112 l0 rfl ?_
      refine x_iload 1 dX10_drops_115 rfl ?_
      refine x_callVu (as := [_]) (rest := []) vX10_131 c_X9_tell dX10_drops_117 l1 rfl rfl rfl (Nat.le_of_ble_eq_true rfl) (Nat.le_of_ble_eq_true rfl) (Nat.le_of_ble_eq_true rfl) ?_
      refine x_pop dX10_drops_120 rfl ?_
      refine x_iload_n 2 dX10_drops_121 rfl rfl ?_
      refine x_iret rfl dX10_drops_122 (by obtain rfl : i = iM I := (by omega); exact ⟨rfl, rfl⟩)
    · refine x_aload_n 3 dX10_drops_50 rfl rfl ?_
      refine x_getR fX10_49 dX10_drops_51 l0 rfl ?_
      refine x_getR fX10_185 dX10_drops_54 l35 rfl ?_
      refine x_iload 0 dX10_drops_57 rfl ?_
      refine y_iald dX10_drops_59 l36 (by omega) (by decide) (hP.1 i (by omega)) ?_
      refine x_iload_n 4 dX10_drops_60 rfl rfl ?_
      refine y_ic_eq 67 dX10_drops_61 (by decide) (by omega) (by omega) (fun c_61 => ?_) (fun c_61 => ?_)
      · refine x_aload_n 3 dX10_drops_67 rfl rfl ?_
        refine x_getR fX10_49 dX10_drops_68 l0 rfl ?_
        refine x_iload 0 dX10_drops_71 rfl ?_
        refine x_iload_n 5 dX10_drops_73 rfl rfl ?_
        refine x_callVu (as := [_, _]) (rest := []) vX10_344 (c_X3_droppedFor (Or.inl rfl) hI hO hP hL (by omega) hw7 (by omega) (by omega)) dX10_drops_74 l35 rfl rfl rfl (Nat.le_of_ble_eq_true rfl) (Nat.le_of_ble_eq_true rfl) (Nat.le_of_ble_eq_true rfl) ?_
        refine x_istore (lv' := [(6, _), (5, _), (4, _), (3, _), (0, _), (1, _), (2, _)]) dX10_drops_77 (by decide) rfl ?_
        refine x_iload 0 dX10_drops_79 rfl ?_
        refine x_bipush (v := -9) dX10_drops_81 (by decide) ?_
        refine x_ic_eq 105 dX10_drops_83 (by decide) (fun c_83 => ?_) (fun c_83 => ?_)
        · rw [show ((3, Value.int (nI (drP I w L p q i).1)) : Nat × Value) = (3, Value.int (nI (drP I w L p q (i + 1)).1)) from by first | rw [drP_t ⟨by omega, c_83, by omega⟩] | rw [drP_f (fun h => by first | omega | exact h.2.1 c_83)]]
          rw [show ((4, Value.int ((drP I w L p q i).2)) : Nat × Value) = (4, Value.int (drP I w L p q (i + 1)).2) from by first | rw [drP_t ⟨by omega, c_83, by omega⟩] | rw [drP_f (fun h => by first | omega | exact h.2.1 c_83)]]
          refine y_iinc (lv' := [(5, _), (6, _), (4, _), (3, _), (0, _), (1, _), (2, _)]) 1 dX10_drops_105 rfl (by decide) rfl ?_
          refine x_goto 38 dX10_drops_108 (by decide) ?_
          refine x_pick (lv' := [(5, _), (4, _), (3, _), (0, _), (1, _), (2, _)]) [0, 2, 3, 4, 5, 6] rfl ?_
          exact ih (iM I - (i + 1)) (by omega) (i + 1) rfl (by omega)
        · rw [show ((6, Value.int (dfF I w L i q)) : Nat × Value) = (6, Value.int (nI (df2 I w L i q))) from by rw [dfF_n c_83]]
          have hpa := pop_le (df2 I w L i q) (by omega)
          have hpb := pop_le (drP I w L p q i).1 (by omega)
          refine x_iload 0 dX10_drops_86 rfl ?_
          refine x_callSu (as := [_]) (rest := []) sX10_213 (c_J6_bitCount_0f7a4 (a := df2 I w L i q) (by omega)) dX10_drops_88 rfl rfl (Nat.le_of_ble_eq_true rfl) (Nat.le_of_ble_eq_true rfl) (Nat.le_of_ble_eq_true rfl) ?_
          refine x_iload_n 3 dX10_drops_91 rfl rfl ?_
          refine x_callSu (as := [_]) (rest := [_]) sX10_213 (c_J6_bitCount_0f7a4 (by omega)) dX10_drops_92 rfl rfl (Nat.le_of_ble_eq_true rfl) (Nat.le_of_ble_eq_true rfl) (Nat.le_of_ble_eq_true rfl) ?_
          refine y_ic_le 105 dX10_drops_95 (by decide) (by omega) (by omega) (fun c_95 => ?_) (fun c_95 => ?_)
          · rw [show ((3, Value.int (nI (drP I w L p q i).1)) : Nat × Value) = (3, Value.int (nI (drP I w L p q (i + 1)).1)) from by first | rw [drP_t ⟨by omega, c_83, by omega⟩] | rw [drP_f (fun h => by first | omega | exact h.2.1 c_83)]]
            rw [show ((4, Value.int ((drP I w L p q i).2)) : Nat × Value) = (4, Value.int (drP I w L p q (i + 1)).2) from by first | rw [drP_t ⟨by omega, c_83, by omega⟩] | rw [drP_f (fun h => by first | omega | exact h.2.1 c_83)]]
            refine y_iinc (lv' := [(5, _), (6, _), (4, _), (3, _), (0, _), (1, _), (2, _)]) 1 dX10_drops_105 rfl (by decide) rfl ?_
            refine x_goto 38 dX10_drops_108 (by decide) ?_
            refine x_pick (lv' := [(5, _), (4, _), (3, _), (0, _), (1, _), (2, _)]) [0, 2, 3, 4, 5, 6] rfl ?_
            exact ih (iM I - (i + 1)) (by omega) (i + 1) rfl (by omega)
          · refine x_iload 0 dX10_drops_98 rfl ?_
            refine x_istore_n (lv' := [(3, _), (6, _), (5, _), (4, _), (0, _), (1, _), (2, _)]) dX10_drops_100 rfl (by decide) rfl ?_
            refine x_iload 2 dX10_drops_101 rfl ?_
            refine x_istore (lv' := [(4, _), (3, _), (6, _), (5, _), (0, _), (1, _), (2, _)]) dX10_drops_103 (by decide) rfl ?_
            rw [show ((3, Value.int (nI (df2 I w L i q))) : Nat × Value) = (3, Value.int (nI (drP I w L p q (i + 1)).1)) from by first | rw [drP_t ⟨by omega, c_83, by omega⟩] | rw [drP_f (fun h => by first | omega | exact h.2.1 c_83)]]
            rw [show ((4, Value.int (nI i)) : Nat × Value) = (4, Value.int (drP I w L p q (i + 1)).2) from by first | rw [drP_t ⟨by omega, c_83, by omega⟩] | rw [drP_f (fun h => by first | omega | exact h.2.1 c_83)]]
            refine y_iinc (lv' := [(5, _), (4, _), (3, _), (6, _), (0, _), (1, _), (2, _)]) 3 dX10_drops_105 rfl (by decide) rfl ?_
            refine x_goto 38 dX10_drops_108 (by decide) ?_
            refine x_pick (lv' := [(5, _), (4, _), (3, _), (0, _), (1, _), (2, _)]) [0, 1, 2, 4, 5, 6] rfl ?_
            exact ih (iM I - (i + 1)) (by omega) (i + 1) rfl (by omega)
      · refine x_goto 105 dX10_drops_64 (by decide) ?_
        rw [show ((3, Value.int (nI (drP I w L p q i).1)) : Nat × Value) = (3, Value.int (nI (drP I w L p q (i + 1)).1)) from by first | rw [drP_t ⟨by omega, c_83, by omega⟩] | rw [drP_f (fun h => by first | omega | exact h.2.1 c_83)]]
        rw [show ((4, Value.int ((drP I w L p q i).2)) : Nat × Value) = (4, Value.int (drP I w L p q (i + 1)).2) from by first | rw [drP_t ⟨by omega, c_83, by omega⟩] | rw [drP_f (fun h => by first | omega | exact h.2.1 c_83)]]
        refine y_iinc (lv' := [(5, _), (4, _), (3, _), (0, _), (1, _), (2, _)]) 0 dX10_drops_105 rfl (by decide) rfl ?_
        refine x_goto 38 dX10_drops_108 (by decide) ?_
        refine x_pick (lv' := [(5, _), (4, _), (3, _), (0, _), (1, _), (2, _)]) [0, 1, 2, 3, 4, 5] rfl ?_
        exact ih (iM I - (i + 1)) (by omega) (i + 1) rfl (by omega)

set_option maxHeartbeats 4000000 in
set_option maxRecDepth 100000 in
theorem c_X10_drops {S : St} {I : Isl} (hI : IsX 11 I S) (hO : IOK I) {w : Nat → Nat} (hP : PlT 35 I w S) {L : Nat} (hL : S.1 35 5 = nI L) (hL7 : L ≤ 6) (hv : VS I w L) {x y : Int32} : C 3 90 yX10_drops mX10_drops [.ref 0, .int x, .int y] S (pu (.int (i2 (¬ ((0 ≤ x.toInt ∧ x.toInt < (iP I : Int)) ∧ (0 ≤ y.toInt ∧ y.toInt < (iP I : Int)) ∧ ¬ x = y)) (-1) (nI (drP I w L (tn x) (tn y) (iM I)).1))) (i2 (¬ ((0 ≤ x.toInt ∧ x.toInt < (iP I : Int)) ∧ (0 ≤ y.toInt ∧ y.toInt < (iP I : Int)) ∧ ¬ x = y)) S (setI S 1 0 (drP I w L (tn x) (tn y) (iM I)).2))) := by
  have n0 : (nI 0).toInt = 0 := rfl
  have n1 : (nI 1).toInt = 1 := rfl
  have n3 : (nI 3).toInt = 3 := rfl
  have n5 : (nI 5).toInt = 5 := rfl
  have n7 : (nI 7).toInt = 7 := rfl
  have n2 : (nI 2).toInt = 2 := rfl
  have n6 : (nI 6).toInt = 6 := rfl
  have hO1 := hO.1
  have hO2 := hO.2.1
  have hO3 := hO.2.2.1
  have hO4 := hO.2.2.2.1
  refine C.ofX (by decide) rfl (Nat.le_of_ble_eq_true rfl) ?_
  show X 3 90 mX10_drops (pu (.int (i2 (¬ ((0 ≤ x.toInt ∧ x.toInt < (iP I : Int)) ∧ (0 ≤ y.toInt ∧ y.toInt < (iP I : Int)) ∧ ¬ x = y)) (-1) (nI (drP I w L (tn x) (tn y) (iM I)).1))) (i2 (¬ ((0 ≤ x.toInt ∧ x.toInt < (iP I : Int)) ∧ (0 ≤ y.toInt ∧ y.toInt < (iP I : Int)) ∧ ¬ x = y)) S (setI S 1 0 (drP I w L (tn x) (tn y) (iM I)).2))) 0 [(0, .ref 0), (1, .int x), (2, .int y)] [] S
  refine x_aload_n 0 dX10_drops_0 rfl rfl ?_
  refine x_getR fX10_40 dX10_drops_1 l0 rfl ?_
  refine x_iload_n 1 dX10_drops_4 rfl rfl ?_
  refine x_callVb (as := [_]) (rest := []) vX10_224 (c_X1_isPerson (Or.inl rfl) hI hO) dX10_drops_5 l11 rfl rfl rfl (Nat.le_of_ble_eq_true rfl) (Nat.le_of_ble_eq_true rfl) (Nat.le_of_ble_eq_true rfl) (fun c_5 => ?_) (fun c_5 => ?_)
  · refine u_if_eq 27 dX10_drops_8 (by decide) (by decide) ?_
    refine x_aload_n 0 dX10_drops_11 rfl rfl ?_
    refine x_getR fX10_40 dX10_drops_12 l0 rfl ?_
    refine x_iload_n 2 dX10_drops_15 rfl rfl ?_
    refine x_callVb (as := [_]) (rest := []) vX10_224 (c_X1_isPerson (Or.inl rfl) hI hO) dX10_drops_16 l11 rfl rfl rfl (Nat.le_of_ble_eq_true rfl) (Nat.le_of_ble_eq_true rfl) (Nat.le_of_ble_eq_true rfl) (fun c_16 => ?_) (fun c_16 => ?_)
    · refine u_if_eq 27 dX10_drops_19 (by decide) (by decide) ?_
      refine x_iload_n 1 dX10_drops_22 rfl rfl ?_
      refine x_iload_n 2 dX10_drops_23 rfl rfl ?_
      refine x_ic_ne 29 dX10_drops_24 (by decide) (fun c_24 => ?_) (fun c_24 => ?_)
      · have hxy : ¬ x = y := by first | exact c_24 | exact c_18
        obtain ⟨a, ha, rfl⟩ := nI_ex (x := x) (n := iP I) (by omega) (by omega)
        have ea : (nI a).toInt = (a : Int) := tiN (by omega)
        have ta : tn (nI a) = a := tnN (by omega)
        obtain ⟨b, hb, rfl⟩ := nI_ex (x := y) (n := iP I) (by omega) (by omega)
        have eb : (nI b).toInt = (b : Int) := tiN (by omega)
        have tb : tn (nI b) = b := tnN (by omega)
        refine x_iconst (v := nI 0) dX10_drops_29 (by decide) ?_
        refine x_istore_n (lv' := [(3, _), (0, _), (1, _), (2, _)]) dX10_drops_30 rfl (by decide) rfl ?_
        refine x_bipush (v := -9) dX10_drops_31 (by decide) ?_
        refine x_istore (lv' := [(4, _), (3, _), (0, _), (1, _), (2, _)]) dX10_drops_33 (by decide) rfl ?_
        refine x_iconst (v := nI 0) dX10_drops_35 (by decide) ?_
        refine x_istore (lv' := [(5, _), (4, _), (3, _), (0, _), (1, _), (2, _)]) dX10_drops_36 (by decide) rfl ?_
        refine x_pick (lv' := [(5, _), (4, _), (3, _), (0, _), (1, _), (2, _)]) [0, 1, 2, 3, 4, 5] rfl ?_
        refine (lp_dropsX hI hO hP hL hL7 hv ha hb (fun e => hxy (by rw [e])) 0 (Nat.zero_le _)).mono (fun v S' hq => ?_)
        obtain ⟨rfl, rfl⟩ := hq
        simp only [ta, tb]
        exact p2_1 (fun h => h ⟨by omega, by omega, hxy⟩)
      · refine x_iconst (v := -1) dX10_drops_27 (by decide) ?_
        refine x_iret rfl dX10_drops_28 (p2_0 (fun h => by first | exact c_5 h.1 | exact c_16 h.2.1 | exact h.2.2 c_24 | exact c_24 h.2.2))
    · refine t_if_eq 27 dX10_drops_19 (by decide) (by decide) ?_
      refine x_iconst (v := -1) dX10_drops_27 (by decide) ?_
      refine x_iret rfl dX10_drops_28 (p2_0 (fun h => by first | exact c_5 h.1 | exact c_16 h.2.1 | exact h.2.2 c_24 | exact c_24 h.2.2))
  · refine t_if_eq 27 dX10_drops_8 (by decide) (by decide) ?_
    refine x_iconst (v := -1) dX10_drops_27 (by decide) ?_
    refine x_iret rfl dX10_drops_28 (p2_0 (fun h => by first | exact c_5 h.1 | exact c_16 h.2.1 | exact h.2.2 c_24 | exact c_24 h.2.2))

/-- but for what is looked at, and what is dropped -/
def FrG (S S' : St) : Prop := S'.2 = S.2 ∧ ∀ a b, ¬ a = 97 → ¬ (a = 83 ∧ b = 41) → S'.1 a b = S.1 a b
theorem FrG.refl {S : St} : FrG S S := ⟨rfl, fun _ _ _ _ => rfl⟩
theorem FrG.trans {S S1 S2 : St} (h : FrG S S1) (h' : FrG S1 S2) : FrG S S2 := ⟨h'.1.trans h.1, fun a b h1 h2 => (h'.2 a b h1 h2).trans (h.2 a b h1 h2)⟩
theorem FrG.of {S S1 : St} (h : F97 S S1) : FrG S S1 := ⟨h.1, fun a b h1 _ => h.2 a h1 b⟩
theorem IsM.fg {I : Isl} {S S' : St} (h : IsM I S) (hf : FrG S S') : IsM I S' := h.keep (fun j hj => hf.2 83 j (by decide) (by intro q; rw [q.2] at hj; revert hj; decide)) (fun a ha b => hf.2 a b (by intro e; subst e; revert ha; decide) (by intro e; rw [e.1] at ha; revert ha; decide))
/-- where all are when the first i things have been looked through for the gift of t to q -/
noncomputable def dpW (I : Isl) (w : Nat → Nat) (L t q i : Nat) : Nat → Nat := fun u => if (drF I w q (ovF I w L t q) i).2.testBit u then 4 else w u
theorem dpW_0 {I : Isl} {w : Nat → Nat} {L t q : Nat} : dpW I w L t q 0 = w := by funext u; unfold dpW; rw [if_neg (by rw [drF, Nat.zero_testBit]; decide)]
theorem drF_bit {I : Isl} (hO : IOK I) {w : Nat → Nat} {L t q i u : Nat} (h : i ≤ u) : (drF I w q (ovF I w L t q) i).2.testBit u = false := Nat.testBit_lt_two_pow (Nat.lt_of_lt_of_le (drF_b I w q _ (ov_le hO w L t q) i).2.2 (Nat.pow_le_pow_right (by decide) h))
theorem dpW_ge {I : Isl} (hO : IOK I) {w : Nat → Nat} {L t q i u : Nat} (h : i ≤ u) : dpW I w L t q i u = w u := by unfold dpW; rw [if_neg (by rw [drF_bit hO h]; decide)]
theorem drF_skip {I : Isl} {w : Nat → Nat} {q : Nat} {o0 : Int} {i : Nat} : ∀ d, (∀ j, i ≤ j → j < i + d → ¬ (w j = q ∧ ¬ livK (iK I j))) → drF I w q o0 (i + d) = drF I w q o0 i
  | 0, _ => rfl
  | d + 1, h => by
    rw [← Nat.add_assoc, drF_f (fun q => h (i + d) (by omega) (by omega) q.2), drF_skip d (fun j h1 h2 => h j h1 (by omega))]
/-- what holds on the way -/
def GInv (I : Isl) (w : Nat → Nat) (L t q i : Nat) : Prop := (loadF I (dpW I w L t q i) q : Int) + (wt (iK I t) : Int) - (L : Int) = (drF I w q (ovF I w L t q) i).1 ∧ ∀ u, u < i → ¬ (dpW I w L t q i u = q ∧ ¬ livK (iK I u))
theorem GInv.zero {I : Isl} {w : Nat → Nat} {L t q : Nat} : GInv I w L t q 0 := ⟨by rw [dpW_0]; rfl, fun u hu => absurd hu (Nat.not_lt_zero u)⟩
theorem GInv.next {I : Isl} (hO : IOK I) {w : Nat → Nat} {L t q i u : Nat} (hq : q < 4) (h : GInv I w L t q i) (h0 : 0 < (drF I w q (ovF I w L t q) i).1) (hu : u < iM I) (hw : dpW I w L t q i u = q) (hl : ¬ livK (iK I u)) (hn : ∀ j, j < u → ¬ (dpW I w L t q i j = q ∧ ¬ livK (iK I j))) :
    i ≤ u ∧ (drF I w q (ovF I w L t q) (u + 1)).2 = (drF I w q (ovF I w L t q) i).2 ||| 1 * 2 ^ u ∧ dpW I w L t q (u + 1) = upW (dpW I w L t q i) u 4 ∧ GInv I w L t q (u + 1) := by
  have hiu : i ≤ u := by
    rcases Nat.lt_or_ge u i with k | k
    · exact absurd ⟨hw, hl⟩ (h.2 u k)
    · exact k
  have hwu : w u = q := (dpW_ge hO hiu).symm.trans hw
  have es : drF I w q (ovF I w L t q) u = drF I w q (ovF I w L t q) i := by
    have e := drF_skip (I := I) (w := w) (q := q) (o0 := ovF I w L t q) (i := i) (u - i) (fun j h1 h2 k => hn j (by omega) ⟨(dpW_ge hO h1).trans k.1, k.2⟩)
    rw [show i + (u - i) = u by omega] at e
    exact e
  have en := drF_t (I := I) (w := w) (q := q) (o0 := ovF I w L t q) (i := u) (by rw [es]; exact h0) hwu hl
  have e2 : (drF I w q (ovF I w L t q) (u + 1)).2 = (drF I w q (ovF I w L t q) i).2 ||| 1 * 2 ^ u := by rw [en, es]
  have ed : dpW I w L t q (u + 1) = upW (dpW I w L t q i) u 4 := by
    funext j
    unfold dpW upW
    rw [e2, Nat.testBit_or, Nat.one_mul]
    by_cases hj : j = u
    · subst hj
      rw [Nat.testBit_two_pow_self, Bool.or_true, if_pos rfl, if_pos rfl]
    · rw [Nat.testBit_two_pow_of_ne (fun k => hj k.symm), Bool.or_false, if_neg hj]
  refine ⟨hiu, e2, ed, ?_, fun j hj => ?_⟩
  · have hl := load_up (I := I) (w := dpW I w L t q i) (to := 4) hu q
    rw [if_pos hw, if_neg (by omega)] at hl
    rw [ed, en, es]
    have := h.1
    show _ = (drF I w q (ovF I w L t q) i).1 - (wt (iK I u) : Int)
    omega
  · rw [ed]
    by_cases hju : j = u
    · subst hju
      rw [upW_eq]
      exact fun k => by omega
    · rw [upW_ne hju]
      exact hn j (by omega)

