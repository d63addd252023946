/-! ===== neighbours ===== -/
theorem and_lt {a b e : Nat} (h : b < e) : a &&& b < e := Nat.lt_of_le_of_lt Nat.and_le_right h
def bsF (I : Isl) (w : Nat → Nat) (p q : Nat) : Nat := popF (wntF I p &&& heldF I w q) + popF (wntF I q &&& heldF I w p)
theorem c_heldX {S : St} {I : Isl} {w : Nat → Nat} (hI : IsX 11 I S) (hO : IOK I) (hP : PlT 35 I w S) {p : Nat} (hp : p ≤ 4) : C 0 0 yX3_heldBy mX3_heldBy [.ref 35, .int (nI p)] S (pu (.int (nI (heldF I w p))) S) := by
  have h := c_X3_heldBy (Or.inl rfl) hI hO hP (p := p) (by omega)
  rw [if_pos hp] at h
  exact h
theorem bsF_le (I : Isl) (hO : IOK I) (w : Nat → Nat) (p q : Nat) : bsF I w p q ≤ 16 := by
  have h1 := pop_le (wntF I p &&& heldF I w q) (and_lt (by have := heldF_lt I hO w q; omega))
  have h2 := pop_le (wntF I q &&& heldF I w p) (and_lt (by have := heldF_lt I hO w p; omega))
  unfold bsF
  omega

set_option maxHeartbeats 4000000 in
set_option maxRecDepth 100000 in
theorem c_X10_needs {S : St} {I : Isl} (hI : IsX 11 I S) (hO : IOK I) {w : Nat → Nat} (hP : PlT 35 I w S) {p q : Nat} (hp : p < iP I) (hq : q < iP I) : C 1 30 yX10_needs mX10_needs [.ref 0, .int (nI p), .int (nI q)] S (pu (.int (nI (bsF I w p q))) S) := by
  have hO1 := hO.1
  have hO2 := hO.2.1
  have hO3 := hO.2.2.1
  have hO4 := hO.2.2.2.1
  have hhp := heldF_lt I hO w p
  have hhq := heldF_lt I hO w q
  refine C.ofX (by decide) rfl (Nat.le_of_ble_eq_true rfl) ?_
  show X 1 30 mX10_needs (pu (.int (nI (bsF I w p q))) S) 0 [(0, .ref 0), (1, .int (nI p)), (2, .int (nI q))] [] S
  refine x_aload_n 0 dX10_needs_0 rfl rfl ?_
  refine x_getR fX10_40 dX10_needs_1 l0 rfl ?_
  refine x_iload_n 1 dX10_needs_4 rfl rfl ?_
  refine x_callVu (as := [_]) (rest := []) vX10_350 (c_X1_wantedBy hI hO (p := p) (by omega)) dX10_needs_5 l11 rfl rfl rfl (Nat.le_of_ble_eq_true rfl) (Nat.le_of_ble_eq_true rfl) (Nat.le_of_ble_eq_true rfl) ?_
  refine x_aload_n 0 dX10_needs_8 rfl rfl ?_
  refine x_getR fX10_49 dX10_needs_9 l0 rfl ?_
  refine x_iload_n 2 dX10_needs_12 rfl rfl ?_
  refine x_callVu (as := [_]) (rest := [_]) vX10_210 (c_heldX hI hO hP (p := q) (by omega)) dX10_needs_13 l35 rfl rfl rfl (Nat.le_of_ble_eq_true rfl) (Nat.le_of_ble_eq_true rfl) (Nat.le_of_ble_eq_true rfl) ?_
  refine y_iand dX10_needs_16 ?_
  refine x_istore_n (lv' := [(3, _), (0, _), (1, _), (2, _)]) dX10_needs_17 rfl (by decide) rfl ?_
  refine x_aload_n 1 dX10_needs_18 rfl rfl ?_
  refine x_getR fX10_40 dX10_needs_19 l0 rfl ?_
  refine x_iload_n 3 dX10_needs_22 rfl rfl ?_
  refine x_callVu (as := [_]) (rest := []) vX10_350 (c_X1_wantedBy hI hO (p := q) (by omega)) dX10_needs_23 l11 rfl rfl rfl (Nat.le_of_ble_eq_true rfl) (Nat.le_of_ble_eq_true rfl) (Nat.le_of_ble_eq_true rfl) ?_
  refine x_aload_n 1 dX10_needs_26 rfl rfl ?_
  refine x_getR fX10_49 dX10_needs_27 l0 rfl ?_
  refine x_iload_n 2 dX10_needs_30 rfl rfl ?_
  refine x_callVu (as := [_]) (rest := [_]) vX10_210 (c_heldX hI hO hP (p := p) (by omega)) dX10_needs_31 l35 rfl rfl rfl (Nat.le_of_ble_eq_true rfl) (Nat.le_of_ble_eq_true rfl) (Nat.le_of_ble_eq_true rfl) ?_
  refine y_iand dX10_needs_34 ?_
  refine x_istore (lv' := [(4, _), (3, _), (0, _), (1, _), (2, _)]) dX10_needs_35 (by decide) rfl ?_
  refine x_iload_n 1 dX10_needs_37 rfl rfl ?_
  refine x_callSu (as := [_]) (rest := []) sX10_213 (c_J6_bitCount_0f7a4 (and_lt (by omega))) dX10_needs_38 rfl rfl (Nat.le_of_ble_eq_true rfl) (Nat.le_of_ble_eq_true rfl) (Nat.le_of_ble_eq_true rfl) ?_
  refine x_iload 0 dX10_needs_41 rfl ?_
  refine x_callSu (as := [_]) (rest := [_]) sX10_213 (c_J6_bitCount_0f7a4 (and_lt (by omega))) dX10_needs_43 rfl rfl (Nat.le_of_ble_eq_true rfl) (Nat.le_of_ble_eq_true rfl) (Nat.le_of_ble_eq_true rfl) ?_
  refine y_iadd dX10_needs_46 ?_
  refine x_iret rfl dX10_needs_47 ⟨rfl, rfl⟩

set_option maxHeartbeats 4000000 in
set_option maxRecDepth 100000 in
theorem c_X10_beside {S : St} {I : Isl} (hI : IsX 11 I S) (hO : IOK I) {w : Nat → Nat} (hP : PlT 35 I w S) {x y : Int32} : C 2 60 yX10_beside mX10_beside [.ref 0, .int x, .int y] S (pu (.int (i2 (¬ ((0 ≤ x.toInt ∧ x.toInt < (iP I : Int)) ∧ (0 ≤ y.toInt ∧ y.toInt < (iP I : Int)) ∧ ¬ x = y)) (-1) (nI (bsF I w (tn x) (tn y))))) (i2 (¬ ((0 ≤ x.toInt ∧ x.toInt < (iP I : Int)) ∧ (0 ≤ y.toInt ∧ y.toInt < (iP I : Int)) ∧ ¬ x = y)) S S)) := by
  have n0 : (nI 0).toInt = 0 := rfl
  have n1 : (nI 1).toInt = 1 := rfl
  have n3 : (nI 3).toInt = 3 := rfl
  have n5 : (nI 5).toInt = 5 := rfl
  have n7 : (nI 7).toInt = 7 := rfl
  have n2 : (nI 2).toInt = 2 := rfl
  have n6 : (nI 6).toInt = 6 := rfl
  have hO1 := hO.1
  have hO2 := hO.2.1
  have hO3 := hO.2.2.1
  have hO4 := hO.2.2.2.1
  refine C.ofX (by decide) rfl (Nat.le_of_ble_eq_true rfl) ?_
  show X 2 60 mX10_beside (pu (.int (i2 (¬ ((0 ≤ x.toInt ∧ x.toInt < (iP I : Int)) ∧ (0 ≤ y.toInt ∧ y.toInt < (iP I : Int)) ∧ ¬ x = y)) (-1) (nI (bsF I w (tn x) (tn y))))) (i2 (¬ ((0 ≤ x.toInt ∧ x.toInt < (iP I : Int)) ∧ (0 ≤ y.toInt ∧ y.toInt < (iP I : Int)) ∧ ¬ x = y)) S S)) 0 [(0, .ref 0), (1, .int x), (2, .int y)] [] S
  refine x_aload_n 0 dX10_beside_0 rfl rfl ?_
  refine x_getR fX10_40 dX10_beside_1 l0 rfl ?_
  refine x_iload_n 1 dX10_beside_4 rfl rfl ?_
  refine x_callVb (as := [_]) (rest := []) vX10_224 (c_X1_isPerson (Or.inl rfl) hI hO) dX10_beside_5 l11 rfl rfl rfl (Nat.le_of_ble_eq_true rfl) (Nat.le_of_ble_eq_true rfl) (Nat.le_of_ble_eq_true rfl) (fun c_5 => ?_) (fun c_5 => ?_)
  · refine u_if_eq 27 dX10_beside_8 (by decide) (by decide) ?_
    refine x_aload_n 0 dX10_beside_11 rfl rfl ?_
    refine x_getR fX10_40 dX10_beside_12 l0 rfl ?_
    refine x_iload_n 2 dX10_beside_15 rfl rfl ?_
    refine x_callVb (as := [_]) (rest := []) vX10_224 (c_X1_isPerson (Or.inl rfl) hI hO) dX10_beside_16 l11 rfl rfl rfl (Nat.le_of_ble_eq_true rfl) (Nat.le_of_ble_eq_true rfl) (Nat.le_of_ble_eq_true rfl) (fun c_16 => ?_) (fun c_16 => ?_)
    · refine u_if_eq 27 dX10_beside_19 (by decide) (by decide) ?_
      refine x_iload_n 1 dX10_beside_22 rfl rfl ?_
      refine x_iload_n 2 dX10_beside_23 rfl rfl ?_
      refine x_ic_ne 29 dX10_beside_24 (by decide) (fun c_24 => ?_) (fun c_24 => ?_)
      · have hxy : ¬ x = y := by first | exact c_24 | exact c_18
        obtain ⟨a, ha, rfl⟩ := nI_ex (x := x) (n := iP I) (by omega) (by omega)
        have ea : (nI a).toInt = (a : Int) := tiN (by omega)
        have ta : tn (nI a) = a := tnN (by omega)
        obtain ⟨b, hb, rfl⟩ := nI_ex (x := y) (n := iP I) (by omega) (by omega)
        have eb : (nI b).toInt = (b : Int) := tiN (by omega)
        have tb : tn (nI b) = b := tnN (by omega)
        refine x_aload_n 0 dX10_beside_29 rfl rfl ?_
        refine x_iload_n 1 dX10_beside_30 rfl rfl ?_
        refine x_iload_n 2 dX10_beside_31 rfl rfl ?_
        refine x_callVu (as := [_, _]) (rest := []) vX10_347 (c_X10_needs hI hO hP ha hb) dX10_beside_32 l0 rfl rfl rfl (Nat.le_of_ble_eq_true rfl) (Nat.le_of_ble_eq_true rfl) (Nat.le_of_ble_eq_true rfl) ?_
        refine x_iret rfl dX10_beside_35 (by simp only [ta, tb]; exact p2_1 (fun h => h ⟨by omega, by omega, hxy⟩))
      · refine x_iconst (v := -1) dX10_beside_27 (by decide) ?_
        refine x_iret rfl dX10_beside_28 (p2_0 (fun h => by first | exact c_5 h.1 | exact c_16 h.2.1 | exact h.2.2 c_24 | exact c_24 h.2.2))
    · refine t_if_eq 27 dX10_beside_19 (by decide) (by decide) ?_
      refine x_iconst (v := -1) dX10_beside_27 (by decide) ?_
      refine x_iret rfl dX10_beside_28 (p2_0 (fun h => by first | exact c_5 h.1 | exact c_16 h.2.1 | exact h.2.2 c_24 | exact c_24 h.2.2))
  · refine t_if_eq 27 dX10_beside_8 (by decide) (by decide) ?_
    refine x_iconst (v := -1) dX10_beside_27 (by decide) ?_
    refine x_iret rfl dX10_beside_28 (p2_0 (fun h => by first | exact c_5 h.1 | exact c_16 h.2.1 | exact h.2.2 c_24 | exact c_24 h.2.2))

/-- of 1, 2, 3 the lesser that is not q -/
def oth (q : Nat) : Nat := if q = 1 then 2 else 1
def smF (I : Isl) (w : Nat → Nat) (q : Nat) : Nat := bsF I w 0 q + (if iP I = 4 then bsF I w (oth q) (6 - q - oth q) else 0)
def pairS (I : Isl) (w : Nat → Nat) : Nat → Int32 × Int32
  | 0 => (-9, -1)
  | k + 1 => if (pairS I w k).2.toInt < (smF I w (k + 1) : Int) then (nI (k + 1), nI (smF I w (k + 1))) else pairS I w k
def pairE (I : Isl) (w : Nat → Nat) : Int32 × Int32 := if iP I = 3 ∧ (pairS I w (iP I - 1)).2.toInt < (bsF I w 1 2 : Int) then (-9, nI (bsF I w 1 2)) else pairS I w (iP I - 1)
theorem pairS_t {I : Isl} {w : Nat → Nat} {k : Nat} (h : (pairS I w k).2.toInt < (smF I w (k + 1) : Int)) : pairS I w (k + 1) = (nI (k + 1), nI (smF I w (k + 1))) := if_pos h
theorem pairS_f {I : Isl} {w : Nat → Nat} {k : Nat} (h : ¬ (pairS I w k).2.toInt < (smF I w (k + 1) : Int)) : pairS I w (k + 1) = pairS I w k := if_neg h
theorem smF_le (I : Isl) (hO : IOK I) (w : Nat → Nat) (q : Nat) : smF I w q ≤ 32 := by
  have h1 := bsF_le I hO w 0 q
  have h2 := bsF_le I hO w (oth q) (6 - q - oth q)
  unfold smF
  split <;> omega
def mxz (v : Int32) : Int32 := if v.toInt < 0 then nI 0 else v
theorem mxz_max (v : Int32) : (if v < nI 0 then nI 0 else v) = mxz v := by
  unfold mxz
  by_cases h : v.toInt < 0
  · rw [if_pos h, if_pos (Int32.lt_iff_toInt_lt.mpr h)]
  · rw [if_neg h, if_neg (fun q => h (Int32.lt_iff_toInt_lt.mp q))]
theorem mxz_gr (v : Int32) : (if v.toInt > (nI 0).toInt then v else nI 0) = mxz v := by
  unfold mxz
  have n0 : (nI 0).toInt = 0 := rfl
  by_cases h : v.toInt < 0
  · rw [if_pos h, if_neg (by omega)]
  · rw [if_neg h]
    by_cases q : v.toInt > (nI 0).toInt
    · rw [if_pos q]
    · rw [if_neg q]
      exact (nI_of_int (by omega)).symm
theorem gr_t {v : Int32} {s : Nat} (hs : s < 100) (h : v.toInt < (s : Int)) : (if v.toInt > (nI s).toInt then v else nI s) = nI s := by
  rw [if_neg (by rw [tiN (by omega)]; omega)]
theorem gr_f {v : Int32} {s : Nat} (hs : s < 100) (h : ¬ v.toInt < (s : Int)) : (if v.toInt > (nI s).toInt then v else nI s) = v := by
  have e : (nI s).toInt = (s : Int) := tiN (by omega)
  by_cases q : v.toInt > (nI s).toInt
  · rw [if_pos q]
  · rw [if_neg q]
    exact (nI_of_int (by omega)).symm

set_option maxHeartbeats 4000000 in
set_option maxRecDepth 100000 in
theorem lp_pairX {S : St} {I : Isl} (hI : IsX 11 I S) (hO : IOK I) {w : Nat → Nat} (hP : PlT 35 I w S) (hn : ¬ iP I = 0)  : ∀ (k : Nat), (k + 1 ≤ iP I) → X 2 60 mX10_pair (pu (.int (i2 (iP I = 0) (-4) (pairE I w).1)) (i2 (iP I = 0) S (setI S 1 0 (mxz (pairE I w).2)))) 23 [(4, .int (nI ((k + 1)))), (3, .int (pairS I w k).2), (2, .int (pairS I w k).1), (1, .int (nI ((iP I)))), (0, .ref 0)] [] S := by
  intro k
  induction hm : iP I - k using Nat.strongRecOn generalizing k with
  | _ mm ih =>
    intro hk
    have hO1 := hO.1
    have hO2 := hO.2.1
    have hO3 := hO.2.2.1
    have hO4 := hO.2.2.2.1
    have ho : (k + 1 = 1 ∧ oth (k + 1) = 2) ∨ (¬ k + 1 = 1 ∧ oth (k + 1) = 1) := by unfold oth; by_cases q : k + 1 = 1; rw [if_pos q]; exact Or.inl ⟨q, rfl⟩; rw [if_neg q]; exact Or.inr ⟨q, rfl⟩
    have hsm := smF_le I hO w (k + 1)
    have tsm : (nI (smF I w (k + 1))).toInt = (smF I w (k + 1) : Int) := tiN (by omega)
    have hbb := bsF_le I hO w 1 2
    have tbb : (nI (bsF I w 1 2)).toInt = (bsF I w 1 2 : Int) := tiN (by omega)
    refine x_iload 0 dX10_pair_23 rfl ?_
    refine x_iload_n 3 dX10_pair_25 rfl rfl ?_
    refine y_ic_ge 93 dX10_pair_26 (by decide) (by omega) (by omega) (fun c_26 => ?_) (fun c_26 => ?_)
    · refine x_iload_n 3 dX10_pair_93 rfl rfl ?_
      refine x_iconst (v := nI 3) dX10_pair_94 (by decide) ?_
      refine y_ic_ne 118 dX10_pair_95 (by decide) (by omega) (by omega) (fun c_95 => ?_) (fun c_95 => ?_)
      · rw [show ((2, Value.int ((pairS I w k).1)) : Nat × Value) = (2, Value.int (pairE I w).1) from by unfold pairE; first | rw [if_pos ⟨by omega, by rw [show iP I - 1 = k by omega]; rw [tbb] at c_105; omega⟩] | rw [if_neg (fun q => by first | omega | (have q2 := q.2; rw [show iP I - 1 = k by omega] at q2; rw [tbb] at c_105; omega)), show iP I - 1 = k by omega]]
        rw [show ((3, Value.int ((pairS I w k).2)) : Nat × Value) = (3, Value.int (pairE I w).2) from by unfold pairE; first | rw [if_pos ⟨by omega, by rw [show iP I - 1 = k by omega]; rw [tbb] at c_105; omega⟩] | rw [if_neg (fun q => by first | omega | (have q2 := q.2; rw [show iP I - 1 = k by omega] at q2; rw [tbb] at c_105; omega)), show iP I - 1 = k by omega]]
        refine x_aload_n 4 dX10_pair_118 rfl rfl ?_
        refine x_getR fX10_10 dX10_pair_119 l0 rfl ?_
        refine x_iload_n 1 dX10_pair_122 rfl rfl ?_
        refine x_iconst (v := nI 0) dX10_pair_123 (by decide) ?_
        refine x_max nX10_353 dX10_pair_124 (Nat.le_of_ble_eq_true rfl) (Nat.le_of_ble_eq_true rfl) (Nat.le_of_ble_eq_true rfl) ?_
        rw [mxz_max]
        refine x_callVu (as := [_]) (rest := []) vX10_131 c_X9_tell dX10_pair_127 l1 rfl rfl rfl (Nat.le_of_ble_eq_true rfl) (Nat.le_of_ble_eq_true rfl) (Nat.le_of_ble_eq_true rfl) ?_
        refine x_pop dX10_pair_130 rfl ?_
        refine x_iload_n 2 dX10_pair_131 rfl rfl ?_
        refine x_iret rfl dX10_pair_132 (p2_1 hn)
      · refine x_aload_n 4 dX10_pair_98 rfl rfl ?_
        refine x_iconst (v := nI 1) dX10_pair_99 (by decide) ?_
        refine x_iconst (v := nI 2) dX10_pair_100 (by decide) ?_
        refine x_callVu (as := [_, _]) (rest := []) vX10_347 (c_X10_needs hI hO hP (p := 1) (q := 2) (by omega) (by omega)) dX10_pair_101 l0 rfl rfl rfl (Nat.le_of_ble_eq_true rfl) (Nat.le_of_ble_eq_true rfl) (Nat.le_of_ble_eq_true rfl) ?_
        refine x_iload_n 1 dX10_pair_104 rfl rfl ?_
        refine x_ic_le 118 dX10_pair_105 (by decide) (fun c_105 => ?_) (fun c_105 => ?_)
        · rw [show ((2, Value.int ((pairS I w k).1)) : Nat × Value) = (2, Value.int (pairE I w).1) from by unfold pairE; first | rw [if_pos ⟨by omega, by rw [show iP I - 1 = k by omega]; rw [tbb] at c_105; omega⟩] | rw [if_neg (fun q => by first | omega | (have q2 := q.2; rw [show iP I - 1 = k by omega] at q2; rw [tbb] at c_105; omega)), show iP I - 1 = k by omega]]
          rw [show ((3, Value.int ((pairS I w k).2)) : Nat × Value) = (3, Value.int (pairE I w).2) from by unfold pairE; first | rw [if_pos ⟨by omega, by rw [show iP I - 1 = k by omega]; rw [tbb] at c_105; omega⟩] | rw [if_neg (fun q => by first | omega | (have q2 := q.2; rw [show iP I - 1 = k by omega] at q2; rw [tbb] at c_105; omega)), show iP I - 1 = k by omega]]
          refine x_aload_n 4 dX10_pair_118 rfl rfl ?_
          refine x_getR fX10_10 dX10_pair_119 l0 rfl ?_
          refine x_iload_n 1 dX10_pair_122 rfl rfl ?_
          refine x_iconst (v := nI 0) dX10_pair_123 (by decide) ?_
          refine x_max nX10_353 dX10_pair_124 (Nat.le_of_ble_eq_true rfl) (Nat.le_of_ble_eq_true rfl) (Nat.le_of_ble_eq_true rfl) ?_
          rw [mxz_max]
          refine x_callVu (as := [_]) (rest := []) vX10_131 c_X9_tell dX10_pair_127 l1 rfl rfl rfl (Nat.le_of_ble_eq_true rfl) (Nat.le_of_ble_eq_true rfl) (Nat.le_of_ble_eq_true rfl) ?_
          refine x_pop dX10_pair_130 rfl ?_
          refine x_iload_n 2 dX10_pair_131 rfl rfl ?_
          refine x_iret rfl dX10_pair_132 (p2_1 hn)
        · refine x_aload_n 4 dX10_pair_108 rfl rfl ?_
          refine x_iconst (v := nI 1) dX10_pair_109 (by decide) ?_
          refine x_iconst (v := nI 2) dX10_pair_110 (by decide) ?_
          refine x_callVu (as := [_, _]) (rest := []) vX10_347 (c_X10_needs hI hO hP (p := 1) (q := 2) (by omega) (by omega)) dX10_pair_111 l0 rfl rfl rfl (Nat.le_of_ble_eq_true rfl) (Nat.le_of_ble_eq_true rfl) (Nat.le_of_ble_eq_true rfl) ?_
          refine x_istore_n (lv' := [(3, _), (4, _), (2, _), (1, _), (0, _)]) dX10_pair_114 rfl (by decide) rfl ?_
          refine x_bipush (v := -9) dX10_pair_115 (by decide) ?_
          refine x_istore_n (lv' := [(2, _), (3, _), (4, _), (1, _), (0, _)]) dX10_pair_117 rfl (by decide) rfl ?_
          rw [show ((2, Value.int (-9)) : Nat × Value) = (2, Value.int (pairE I w).1) from by unfold pairE; first | rw [if_pos ⟨by omega, by rw [show iP I - 1 = k by omega]; rw [tbb] at c_105; omega⟩] | rw [if_neg (fun q => by first | omega | (have q2 := q.2; rw [show iP I - 1 = k by omega] at q2; rw [tbb] at c_105; omega)), show iP I - 1 = k by omega]]
          rw [show ((3, Value.int (nI (bsF I w 1 2))) : Nat × Value) = (3, Value.int (pairE I w).2) from by unfold pairE; first | rw [if_pos ⟨by omega, by rw [show iP I - 1 = k by omega]; rw [tbb] at c_105; omega⟩] | rw [if_neg (fun q => by first | omega | (have q2 := q.2; rw [show iP I - 1 = k by omega] at q2; rw [tbb] at c_105; omega)), show iP I - 1 = k by omega]]
          refine x_aload_n 4 dX10_pair_118 rfl rfl ?_
          refine x_getR fX10_10 dX10_pair_119 l0 rfl ?_
          refine x_iload_n 1 dX10_pair_122 rfl rfl ?_
          refine x_iconst (v := nI 0) dX10_pair_123 (by decide) ?_
          refine x_max nX10_353 dX10_pair_124 (Nat.le_of_ble_eq_true rfl) (Nat.le_of_ble_eq_true rfl) (Nat.le_of_ble_eq_true rfl) ?_
          rw [mxz_max]
          refine x_callVu (as := [_]) (rest := []) vX10_131 c_X9_tell dX10_pair_127 l1 rfl rfl rfl (Nat.le_of_ble_eq_true rfl) (Nat.le_of_ble_eq_true rfl) (Nat.le_of_ble_eq_true rfl) ?_
          refine x_pop dX10_pair_130 rfl ?_
          refine x_iload_n 0 dX10_pair_131 rfl rfl ?_
          refine x_iret rfl dX10_pair_132 (p2_1 hn)
    · refine x_iload 0 dX10_pair_29 rfl ?_
      refine x_iconst (v := nI 1) dX10_pair_31 (by decide) ?_
      refine y_ic_ne 39 dX10_pair_32 (by decide) (by omega) (by omega) (fun c_32 => ?_) (fun c_32 => ?_)
      · refine x_iconst (v := nI 1) dX10_pair_39 (by decide) ?_
        refine x_istore (lv' := [(5, _), (4, _), (3, _), (2, _), (1, _), (0, _)]) dX10_pair_40 (by decide) rfl ?_
        rw [show ((5, Value.int (nI (1))) : Nat × Value) = (5, Value.int (nI (oth (k + 1)))) from by rw [show oth (k + 1) = _ from by first | exact (ho.resolve_right (fun q => q.1 c_32)).2 | exact (ho.resolve_left (fun q => c_32 q.1)).2]]
        refine x_aload_n 5 dX10_pair_42 rfl rfl ?_
        refine x_iconst (v := nI 0) dX10_pair_43 (by decide) ?_
        refine x_iload 1 dX10_pair_44 rfl ?_
        refine x_callVu (as := [_, _]) (rest := []) vX10_347 (c_X10_needs hI hO hP (p := 0) (q := k + 1) (by omega) (by omega)) dX10_pair_46 l0 rfl rfl rfl (Nat.le_of_ble_eq_true rfl) (Nat.le_of_ble_eq_true rfl) (Nat.le_of_ble_eq_true rfl) ?_
        refine x_iload_n 4 dX10_pair_49 rfl rfl ?_
        refine x_iconst (v := nI 4) dX10_pair_50 (by decide) ?_
        refine y_ic_ne 71 dX10_pair_51 (by decide) (by omega) (by omega) (fun c_51 => ?_) (fun c_51 => ?_)
        · refine x_iconst (v := nI 0) dX10_pair_71 (by decide) ?_
          refine y_iadd dX10_pair_72 ?_
          refine x_istore (lv' := [(6, _), (5, _), (4, _), (3, _), (2, _), (1, _), (0, _)]) dX10_pair_73 (by decide) rfl ?_
          rw [show ((6, Value.int (nI (((bsF I w 0 (k + 1)) + 0)))) : Nat × Value) = (6, Value.int (nI (smF I w (k + 1)))) from by unfold smF; first | rw [if_pos c_51] | rw [if_neg c_51]]
          refine x_iload 0 dX10_pair_75 rfl ?_
          refine x_iload_n 3 dX10_pair_77 rfl rfl ?_
          refine x_ic_le 87 dX10_pair_78 (by decide) (fun c_78 => ?_) (fun c_78 => ?_)
          · rw [show ((2, Value.int ((pairS I w k).1)) : Nat × Value) = (2, Value.int ((pairS I w (k + 1)).1)) from by first | rw [pairS_t (by rw [tsm] at c_78; omega)] | rw [pairS_f (by rw [tsm] at c_78; omega)]]
            rw [show ((3, Value.int ((pairS I w k).2)) : Nat × Value) = (3, Value.int ((pairS I w (k + 1)).2)) from by first | rw [pairS_t (by rw [tsm] at c_78; omega)] | rw [pairS_f (by rw [tsm] at c_78; omega)]]
            refine y_iinc (lv' := [(4, _), (6, _), (5, _), (3, _), (2, _), (1, _), (0, _)]) 2 dX10_pair_87 rfl (by decide) rfl ?_
            refine x_goto 23 dX10_pair_90 (by decide) ?_
            refine x_pick (lv' := [(4, _), (3, _), (2, _), (1, _), (0, _)]) [0, 3, 4, 5, 6] rfl ?_
            exact ih (iP I - (k + 1)) (by omega) (k + 1) rfl (by omega)
          · refine x_iload 0 dX10_pair_81 rfl ?_
            refine x_istore_n (lv' := [(3, _), (6, _), (5, _), (4, _), (2, _), (1, _), (0, _)]) dX10_pair_83 rfl (by decide) rfl ?_
            refine x_iload 3 dX10_pair_84 rfl ?_
            refine x_istore_n (lv' := [(2, _), (3, _), (6, _), (5, _), (4, _), (1, _), (0, _)]) dX10_pair_86 rfl (by decide) rfl ?_
            rw [show ((2, Value.int (nI ((k + 1)))) : Nat × Value) = (2, Value.int ((pairS I w (k + 1)).1)) from by first | rw [pairS_t (by rw [tsm] at c_78; omega)] | rw [pairS_f (by rw [tsm] at c_78; omega)]]
            rw [show ((3, Value.int (nI ((smF I w (k + 1))))) : Nat × Value) = (3, Value.int ((pairS I w (k + 1)).2)) from by first | rw [pairS_t (by rw [tsm] at c_78; omega)] | rw [pairS_f (by rw [tsm] at c_78; omega)]]
            refine y_iinc (lv' := [(4, _), (2, _), (3, _), (6, _), (5, _), (1, _), (0, _)]) 4 dX10_pair_87 rfl (by decide) rfl ?_
            refine x_goto 23 dX10_pair_90 (by decide) ?_
            refine x_pick (lv' := [(4, _), (3, _), (2, _), (1, _), (0, _)]) [0, 2, 1, 5, 6] rfl ?_
            exact ih (iP I - (k + 1)) (by omega) (k + 1) rfl (by omega)
        · refine x_aload_n 5 dX10_pair_54 rfl rfl ?_
          refine x_iload 0 dX10_pair_55 rfl ?_
          refine x_bipush (v := nI 6) dX10_pair_57 (by decide) ?_
          refine x_iload 1 dX10_pair_59 rfl ?_
          refine y_isub dX10_pair_61 (by omega) ?_
          refine x_iload 0 dX10_pair_62 rfl ?_
          refine y_isub dX10_pair_64 (by omega) ?_
          refine x_callVu (as := [_, _]) (rest := [_]) vX10_347 (c_X10_needs hI hO hP (by omega) (by omega)) dX10_pair_65 l0 rfl rfl rfl (Nat.le_of_ble_eq_true rfl) (Nat.le_of_ble_eq_true rfl) (Nat.le_of_ble_eq_true rfl) ?_
          refine x_goto 72 dX10_pair_68 (by decide) ?_
          refine y_iadd dX10_pair_72 ?_
          refine x_istore (lv' := [(6, _), (5, _), (4, _), (3, _), (2, _), (1, _), (0, _)]) dX10_pair_73 (by decide) rfl ?_
          rw [show ((6, Value.int (nI (((bsF I w 0 (k + 1)) + (bsF I w (oth (k + 1)) (6 - (k + 1) - oth (k + 1))))))) : Nat × Value) = (6, Value.int (nI (smF I w (k + 1)))) from by unfold smF; first | rw [if_pos c_51] | rw [if_neg c_51]]
          refine x_iload 0 dX10_pair_75 rfl ?_
          refine x_iload_n 3 dX10_pair_77 rfl rfl ?_
          refine x_ic_le 87 dX10_pair_78 (by decide) (fun c_78 => ?_) (fun c_78 => ?_)
          · rw [show ((2, Value.int ((pairS I w k).1)) : Nat × Value) = (2, Value.int ((pairS I w (k + 1)).1)) from by first | rw [pairS_t (by rw [tsm] at c_78; omega)] | rw [pairS_f (by rw [tsm] at c_78; omega)]]
            rw [show ((3, Value.int ((pairS I w k).2)) : Nat × Value) = (3, Value.int ((pairS I w (k + 1)).2)) from by first | rw [pairS_t (by rw [tsm] at c_78; omega)] | rw [pairS_f (by rw [tsm] at c_78; omega)]]
            refine y_iinc (lv' := [(4, _), (6, _), (5, _), (3, _), (2, _), (1, _), (0, _)]) 2 dX10_pair_87 rfl (by decide) rfl ?_
            refine x_goto 23 dX10_pair_90 (by decide) ?_
            refine x_pick (lv' := [(4, _), (3, _), (2, _), (1, _), (0, _)]) [0, 3, 4, 5, 6] rfl ?_
            exact ih (iP I - (k + 1)) (by omega) (k + 1) rfl (by omega)
          · refine x_iload 0 dX10_pair_81 rfl ?_
            refine x_istore_n (lv' := [(3, _), (6, _), (5, _), (4, _), (2, _), (1, _), (0, _)]) dX10_pair_83 rfl (by decide) rfl ?_
            refine x_iload 3 dX10_pair_84 rfl ?_
            refine x_istore_n (lv' := [(2, _), (3, _), (6, _), (5, _), (4, _), (1, _), (0, _)]) dX10_pair_86 rfl (by decide) rfl ?_
            rw [show ((2, Value.int (nI ((k + 1)))) : Nat × Value) = (2, Value.int ((pairS I w (k + 1)).1)) from by first | rw [pairS_t (by rw [tsm] at c_78; omega)] | rw [pairS_f (by rw [tsm] at c_78; omega)]]
            rw [show ((3, Value.int (nI ((smF I w (k + 1))))) : Nat × Value) = (3, Value.int ((pairS I w (k + 1)).2)) from by first | rw [pairS_t (by rw [tsm] at c_78; omega)] | rw [pairS_f (by rw [tsm] at c_78; omega)]]
            refine y_iinc (lv' := [(4, _), (2, _), (3, _), (6, _), (5, _), (1, _), (0, _)]) 4 dX10_pair_87 rfl (by decide) rfl ?_
            refine x_goto 23 dX10_pair_90 (by decide) ?_
            refine x_pick (lv' := [(4, _), (3, _), (2, _), (1, _), (0, _)]) [0, 2, 1, 5, 6] rfl ?_
            exact ih (iP I - (k + 1)) (by omega) (k + 1) rfl (by omega)
      · refine x_iconst (v := nI 2) dX10_pair_35 (by decide) ?_
        refine x_goto 40 dX10_pair_36 (by decide) ?_
        refine x_istore (lv' := [(5, _), (4, _), (3, _), (2, _), (1, _), (0, _)]) dX10_pair_40 (by decide) rfl ?_
        rw [show ((5, Value.int (nI (2))) : Nat × Value) = (5, Value.int (nI (oth (k + 1)))) from by rw [show oth (k + 1) = _ from by first | exact (ho.resolve_right (fun q => q.1 c_32)).2 | exact (ho.resolve_left (fun q => c_32 q.1)).2]]
        refine x_aload_n 5 dX10_pair_42 rfl rfl ?_
        refine x_iconst (v := nI 0) dX10_pair_43 (by decide) ?_
        refine x_iload 1 dX10_pair_44 rfl ?_
        refine x_callVu (as := [_, _]) (rest := []) vX10_347 (c_X10_needs hI hO hP (p := 0) (q := k + 1) (by omega) (by omega)) dX10_pair_46 l0 rfl rfl rfl (Nat.le_of_ble_eq_true rfl) (Nat.le_of_ble_eq_true rfl) (Nat.le_of_ble_eq_true rfl) ?_
        refine x_iload_n 4 dX10_pair_49 rfl rfl ?_
        refine x_iconst (v := nI 4) dX10_pair_50 (by decide) ?_
        refine y_ic_ne 71 dX10_pair_51 (by decide) (by omega) (by omega) (fun c_51 => ?_) (fun c_51 => ?_)
        · refine x_iconst (v := nI 0) dX10_pair_71 (by decide) ?_
          refine y_iadd dX10_pair_72 ?_
          refine x_istore (lv' := [(6, _), (5, _), (4, _), (3, _), (2, _), (1, _), (0, _)]) dX10_pair_73 (by decide) rfl ?_
          rw [show ((6, Value.int (nI (((bsF I w 0 (k + 1)) + 0)))) : Nat × Value) = (6, Value.int (nI (smF I w (k + 1)))) from by unfold smF; first | rw [if_pos c_51] | rw [if_neg c_51]]
          refine x_iload 0 dX10_pair_75 rfl ?_
          refine x_iload_n 3 dX10_pair_77 rfl rfl ?_
          refine x_ic_le 87 dX10_pair_78 (by decide) (fun c_78 => ?_) (fun c_78 => ?_)
          · rw [show ((2, Value.int ((pairS I w k).1)) : Nat × Value) = (2, Value.int ((pairS I w (k + 1)).1)) from by first | rw [pairS_t (by rw [tsm] at c_78; omega)] | rw [pairS_f (by rw [tsm] at c_78; omega)]]
            rw [show ((3, Value.int ((pairS I w k).2)) : Nat × Value) = (3, Value.int ((pairS I w (k + 1)).2)) from by first | rw [pairS_t (by rw [tsm] at c_78; omega)] | rw [pairS_f (by rw [tsm] at c_78; omega)]]
            refine y_iinc (lv' := [(4, _), (6, _), (5, _), (3, _), (2, _), (1, _), (0, _)]) 2 dX10_pair_87 rfl (by decide) rfl ?_
            refine x_goto 23 dX10_pair_90 (by decide) ?_
            refine x_pick (lv' := [(4, _), (3, _), (2, _), (1, _), (0, _)]) [0, 3, 4, 5, 6] rfl ?_
            exact ih (iP I - (k + 1)) (by omega) (k + 1) rfl (by omega)
          · refine x_iload 0 dX10_pair_81 rfl ?_
            refine x_istore_n (lv' := [(3, _), (6, _), (5, _), (4, _), (2, _), (1, _), (0, _)]) dX10_pair_83 rfl (by decide) rfl ?_
            refine x_iload 3 dX10_pair_84 rfl ?_
            refine x_istore_n (lv' := [(2, _), (3, _), (6, _), (5, _), (4, _), (1, _), (0, _)]) dX10_pair_86 rfl (by decide) rfl ?_
            rw [show ((2, Value.int (nI ((k + 1)))) : Nat × Value) = (2, Value.int ((pairS I w (k + 1)).1)) from by first | rw [pairS_t (by rw [tsm] at c_78; omega)] | rw [pairS_f (by rw [tsm] at c_78; omega)]]
            rw [show ((3, Value.int (nI ((smF I w (k + 1))))) : Nat × Value) = (3, Value.int ((pairS I w (k + 1)).2)) from by first | rw [pairS_t (by rw [tsm] at c_78; omega)] | rw [pairS_f (by rw [tsm] at c_78; omega)]]
            refine y_iinc (lv' := [(4, _), (2, _), (3, _), (6, _), (5, _), (1, _), (0, _)]) 4 dX10_pair_87 rfl (by decide) rfl ?_
            refine x_goto 23 dX10_pair_90 (by decide) ?_
            refine x_pick (lv' := [(4, _), (3, _), (2, _), (1, _), (0, _)]) [0, 2, 1, 5, 6] rfl ?_
            exact ih (iP I - (k + 1)) (by omega) (k + 1) rfl (by omega)
        · refine x_aload_n 5 dX10_pair_54 rfl rfl ?_
          refine x_iload 0 dX10_pair_55 rfl ?_
          refine x_bipush (v := nI 6) dX10_pair_57 (by decide) ?_
          refine x_iload 1 dX10_pair_59 rfl ?_
          refine y_isub dX10_pair_61 (by omega) ?_
          refine x_iload 0 dX10_pair_62 rfl ?_
          refine y_isub dX10_pair_64 (by omega) ?_
          refine x_callVu (as := [_, _]) (rest := [_]) vX10_347 (c_X10_needs hI hO hP (by omega) (by omega)) dX10_pair_65 l0 rfl rfl rfl (Nat.le_of_ble_eq_true rfl) (Nat.le_of_ble_eq_true rfl) (Nat.le_of_ble_eq_true rfl) ?_
          refine x_goto 72 dX10_pair_68 (by decide) ?_
          refine y_iadd dX10_pair_72 ?_
          refine x_istore (lv' := [(6, _), (5, _), (4, _), (3, _), (2, _), (1, _), (0, _)]) dX10_pair_73 (by decide) rfl ?_
          rw [show ((6, Value.int (nI (((bsF I w 0 (k + 1)) + (bsF I w (oth (k + 1)) (6 - (k + 1) - oth (k + 1))))))) : Nat × Value) = (6, Value.int (nI (smF I w (k + 1)))) from by unfold smF; first | rw [if_pos c_51] | rw [if_neg c_51]]
          refine x_iload 0 dX10_pair_75 rfl ?_
          refine x_iload_n 3 dX10_pair_77 rfl rfl ?_
          refine x_ic_le 87 dX10_pair_78 (by decide) (fun c_78 => ?_) (fun c_78 => ?_)
          · rw [show ((2, Value.int ((pairS I w k).1)) : Nat × Value) = (2, Value.int ((pairS I w (k + 1)).1)) from by first | rw [pairS_t (by rw [tsm] at c_78; omega)] | rw [pairS_f (by rw [tsm] at c_78; omega)]]
            rw [show ((3, Value.int ((pairS I w k).2)) : Nat × Value) = (3, Value.int ((pairS I w (k + 1)).2)) from by first | rw [pairS_t (by rw [tsm] at c_78; omega)] | rw [pairS_f (by rw [tsm] at c_78; omega)]]
            refine y_iinc (lv' := [(4, _), (6, _), (5, _), (3, _), (2, _), (1, _), (0, _)]) 2 dX10_pair_87 rfl (by decide) rfl ?_
            refine x_goto 23 dX10_pair_90 (by decide) ?_
            refine x_pick (lv' := [(4, _), (3, _), (2, _), (1, _), (0, _)]) [0, 3, 4, 5, 6] rfl ?_
            exact ih (iP I - (k + 1)) (by omega) (k + 1) rfl (by omega)
          · refine x_iload 0 dX10_pair_81 rfl ?_
            refine x_istore_n (lv' := [(3, _), (6, _), (5, _), (4, _), (2, _), (1, _), (0, _)]) dX10_pair_83 rfl (by decide) rfl ?_
            refine x_iload 3 dX10_pair_84 rfl ?_
            refine x_istore_n (lv' := [(2, _), (3, _), (6, _), (5, _), (4, _), (1, _), (0, _)]) dX10_pair_86 rfl (by decide) rfl ?_
            rw [show ((2, Value.int (nI ((k + 1)))) : Nat × Value) = (2, Value.int ((pairS I w (k + 1)).1)) from by first | rw [pairS_t (by rw [tsm] at c_78; omega)] | rw [pairS_f (by rw [tsm] at c_78; omega)]]
            rw [show ((3, Value.int (nI ((smF I w (k + 1))))) : Nat × Value) = (3, Value.int ((pairS I w (k + 1)).2)) from by first | rw [pairS_t (by rw [tsm] at c_78; omega)] | rw [pairS_f (by rw [tsm] at c_78; omega)]]
            refine y_iinc (lv' := [(4, _), (2, _), (3, _), (6, _), (5, _), (1, _), (0, _)]) 4 dX10_pair_87 rfl (by decide) rfl ?_
            refine x_goto 23 dX10_pair_90 (by decide) ?_
            refine x_pick (lv' := [(4, _), (3, _), (2, _), (1, _), (0, _)]) [0, 2, 1, 5, 6] rfl ?_
            exact ih (iP I - (k + 1)) (by omega) (k + 1) rfl (by omega)

set_option maxHeartbeats 4000000 in
set_option maxRecDepth 100000 in
theorem c_X10_pair {S : St} {I : Isl} (hI : IsX 11 I S) (hO : IOK I) {w : Nat → Nat} (hP : PlT 35 I w S) : C 2 60 yX10_pair mX10_pair [.ref 0] S (pu (.int (i2 (iP I = 0) (-4) (pairE I w).1)) (i2 (iP I = 0) S (setI S 1 0 (mxz (pairE I w).2)))) := by
  have hO1 := hO.1
  have hO2 := hO.2.1
  have hO3 := hO.2.2.1
  have hO4 := hO.2.2.2.1
  refine C.ofX (by decide) rfl (Nat.le_of_ble_eq_true rfl) ?_
  show X 2 60 mX10_pair (pu (.int (i2 (iP I = 0) (-4) (pairE I w).1)) (i2 (iP I = 0) S (setI S 1 0 (mxz (pairE I w).2)))) 0 [(0, .ref 0)] [] S
  refine x_aload_n 0 dX10_pair_0 rfl rfl ?_
  refine x_getR fX10_40 dX10_pair_1 l0 rfl ?_
  refine y_getI fX10_271 dX10_pair_4 l11 rfl hI.1 ?_
  refine x_istore_n (lv' := [(1, _), (0, _)]) dX10_pair_7 rfl (by decide) rfl ?_
  refine x_iload_n 0 dX10_pair_8 rfl rfl ?_
  refine y_if_ne 15 dX10_pair_9 (by decide) (by omega) (fun c_9 => ?_) (fun c_9 => ?_)
  · refine x_bipush (v := -9) dX10_pair_15 (by decide) ?_
    refine x_istore_n (lv' := [(2, _), (1, _), (0, _)]) dX10_pair_17 rfl (by decide) rfl ?_
    refine x_iconst (v := -1) dX10_pair_18 (by decide) ?_
    refine x_istore_n (lv' := [(3, _), (2, _), (1, _), (0, _)]) dX10_pair_19 rfl (by decide) rfl ?_
    refine x_iconst (v := nI 1) dX10_pair_20 (by decide) ?_
    refine x_istore (lv' := [(4, _), (3, _), (2, _), (1, _), (0, _)]) dX10_pair_21 (by decide) rfl ?_
    refine x_pick (lv' := [(4, _), (3, _), (2, _), (1, _), (0, _)]) [0, 1, 2, 3, 4] rfl ?_
    exact lp_pairX hI hO hP c_9 0 (by omega)
  · refine x_bipush (v := -4) dX10_pair_12 (by decide) ?_
    refine x_iret rfl dX10_pair_14 (p2_0 c_9)

/-- but for what is looked at -/
abbrev F97 (S S' : St) : Prop := Fr (fun a => a = 97) S S'
theorem lkS_f (S : St) (n : Nat) : F97 S (lkS S n) := ⟨rfl, fun a ha b => lkS_k ha⟩
theorem loS_f (S : St) (c n : Nat) : F97 S (loS S c n) := ⟨rfl, fun a ha b => loS_k ha⟩
theorem IsM.f97 {I : Isl} {S S' : St} (h : IsM I S) (hf : F97 S S') : IsM I S' := h.keep (fun j _ => hf.2 83 (by decide) j) (fun a ha b => hf.2 a (by intro e; subst e; revert ha; decide) b)

