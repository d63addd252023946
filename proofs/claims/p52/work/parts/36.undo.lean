/-! ===== undo, keep, on ===== -/
theorem nI_m1 (a : Nat) : nI a + Int32.ofInt (-1) = nI a - nI 1 := by rw [show Int32.ofInt (-1) = -(nI 1) from by decide, ← Int32.sub_eq_add_neg]
theorem nI_m1i {a : Nat} (h : a ≤ 900) : (nI a - nI 1).toInt = (a : Int) - 1 := by
  rw [toI_sub (by rw [tiN (by omega)]; omega) (by rw [tiN (by omega)]; omega) (by rw [tiN (by decide)]; omega) (by rw [tiN (by decide)]; omega), tiN (by omega), tiN (by decide)]
  rfl
theorem Fr.refl {R : Nat → Prop} {S : St} : Fr R S S := ⟨rfl, fun _ _ _ => rfl⟩
theorem Fr.trans {R : Nat → Prop} {S S1 S2 : St} (h : Fr R S S1) (h' : Fr R S1 S2) : Fr R S S2 := ⟨h'.1.trans h.1, fun a ha b => (h'.2 a ha b).trans (h.2 a ha b)⟩
theorem Fr.wider {R R' : Nat → Prop} {S S' : St} (h : Fr R S S') (hR : ∀ a, R a → R' a) : Fr R' S S' := ⟨h.1, fun a ha b => h.2 a (fun q => ha (hR a q)) b⟩
/-- undoing leads through these states -/
def UPath (I : Isl) (ws : Nat → Nat → Nat) (T F : Nat → Nat) (d : Nat) : Prop := ∀ i, i < d → ws i = upW (ws (i + 1)) (T i) (F i) ∧ T i < iM I ∧ F i < 7 ∧ WOK I (ws i)
def unS (S : St) (I : Isl) (ws : Nat → Nat → Nat) (j : Nat) : St := (fun a b => if a = 93 ∧ b < iM I then nI (ws j b) else if a = 83 ∧ b = 29 then nI j else S.1 a b, S.2)
theorem unS_0 {S : St} {I : Isl} {ws : Nat → Nat → Nat} {d : Nat} (h : ∀ t, t < iM I → S.1 93 t = nI (ws d t)) (h0 : S.1 83 29 = nI d) : unS S I ws d = S := by
  refine st_ext rfl fun a b => ?_
  show (if a = 93 ∧ b < iM I then nI (ws d b) else if a = 83 ∧ b = 29 then nI d else S.1 a b) = S.1 a b
  by_cases h1 : a = 93 ∧ b < iM I
  · rw [if_pos h1, h1.1, h b h1.2]
  · rw [if_neg h1]
    by_cases h2 : a = 83 ∧ b = 29
    · rw [if_pos h2, h2.1, h2.2, h0]
    · rw [if_neg h2]
theorem unS_d {S : St} {I : Isl} {ws : Nat → Nat → Nat} {j a b : Nat} : (unS S I ws j).1 a b = if a = 93 ∧ b < iM I then nI (ws j b) else if a = 83 ∧ b = 29 then nI j else S.1 a b := rfl
theorem unS_29 {S : St} {I : Isl} {ws : Nat → Nat → Nat} {j : Nat} : (unS S I ws j).1 83 29 = nI j := by rw [unS_d, if_neg (fun q => absurd q.1 (by decide)), if_pos ⟨rfl, rfl⟩]
theorem unS_k {S : St} {I : Isl} {ws : Nat → Nat → Nat} {j a b : Nat} (h : ¬ (a = 93 ∨ a = 83)) : (unS S I ws j).1 a b = S.1 a b := by rw [unS_d, if_neg (fun q => h (Or.inl q.1)), if_neg (fun q => h (Or.inr q.1))]
theorem unS_s {S : St} {I : Isl} {ws : Nat → Nat → Nat} {j t f : Nat} (h : ws j = upW (ws (j + 1)) t f) (ht : t < iM I) : setI (setI (unS S I ws (j + 1)) 83 29 (nI j)) 93 t (nI f) = unS S I ws j := by
  refine st_ext rfl fun a b => ?_
  by_cases h1 : a = 93
  · subst h1
    by_cases h2 : b = t
    · subst h2
      rw [rdI_eq, unS_d, if_pos ⟨rfl, ht⟩, h]
      unfold upW
      rw [if_pos rfl]
    · rw [rdI_j h2, rdI_k (by decide), unS_d, unS_d]
      by_cases h3 : b < iM I
      · rw [if_pos ⟨rfl, h3⟩, if_pos ⟨rfl, h3⟩, h]
        unfold upW
        rw [if_neg h2]
      · rw [if_neg (fun q => h3 q.2), if_neg (fun q => absurd q.1 (by decide)), if_neg (fun q => h3 q.2), if_neg (fun q => absurd q.1 (by decide))]
  · rw [rdI_k h1]
    by_cases h2 : a = 83
    · subst h2
      by_cases h3 : b = 29
      · subst h3
        rw [rdI_eq]
        exact unS_29.symm
      · rw [rdI_j h3, unS_d, unS_d, if_neg (fun q => h1 q.1), if_neg (fun q => h3 q.2), if_neg (fun q => h1 q.1), if_neg (fun q => h3 q.2)]
    · rw [rdI_k h2, unS_k (by omega), unS_k (by omega)]

theorem c_firstOf {S : St} {k c cnt : Nat} (hk : isPrs k c) {i : Nat} {v : Int32} (h0 : S.1 k 0 = nI cnt) (hc : cnt ≤ c) (hi : i < cnt) (hv : S.1 (k + 1) i = v) : C 0 0 yX2_firstOf mX2_firstOf [.ref k, .int (nI i)] S (pu (.int v) S) := by
  have h := c_X2_firstOf (S := S) hk h0 hc hi
  rw [hv] at h
  exact h

theorem c_secondOf {S : St} {k c cnt : Nat} (hk : isPrs k c) {i : Nat} {v : Int32} (h0 : S.1 k 0 = nI cnt) (hc : cnt ≤ c) (hi : i < cnt) (hv : S.1 (k + 2) i = v) : C 0 0 yX2_secondOf mX2_secondOf [.ref k, .int (nI i)] S (pu (.int v) S) := by
  have h := c_X2_secondOf (S := S) hk h0 hc hi
  rw [hv] at h
  exact h

set_option maxHeartbeats 4000000 in
set_option maxRecDepth 100000 in
theorem lp_undoX {S : St} {I : Isl} (hI : IsX 11 I S) (hO : IOK I) {d : Nat} {ws : Nat → Nat → Nat} {T F : Nat → Nat} (hd : d ≤ 40) (hU : UPath I ws T F d) (h1 : ∀ i, i < d → S.1 61 i = nI (T i)) (h2 : ∀ i, i < d → S.1 62 i = nI (F i)) (hF : ∀ i, i < d → plcF I (F i)) (h0 : S.1 60 0 = nI d) {a : Nat} (ha : a ≤ d)  : ∀ (j : Nat) (S2 : St), (a ≤ j ∧ j ≤ d) → (Fr (fun a => 36 ≤ a ∧ a ≤ 39) S S2) → (PlT 35 I (ws j) S2) → X 4 120 mX10_undo (qi (fun r S' => r = nI (d - a) ∧ ∃ S2, Fr (fun a => 36 ≤ a ∧ a ≤ 39) S S2 ∧ PlT 35 I (ws (a)) S2 ∧ S' = setI S2 60 0 (nI (a)))) 37 [(3, .int (nI j - nI 1)), (2, .int (nI ((d - a)))), (0, .ref 0), (1, .int (nI a))] [] S2 := by
  intro j S2
  induction hm : j + 0 using Nat.strongRecOn generalizing j S2 with
  | _ mm ih =>
    intro hj hf hp
    have hO1 := hO.1
    have hO2 := hO.2.1
    have hO3 := hO.2.2.1
    have hO4 := hO.2.2.2.1
    have e3 : (nI j - nI 1).toInt = (j : Int) - 1 := nI_m1i (by omega)
    have hf1 := hf.2
    have hUj := hU (j - 1)
    refine x_iload_n 0 dX10_undo_37 rfl rfl ?_
    refine x_iload_n 3 dX10_undo_38 rfl rfl ?_
    refine z_ic_lt 71 dX10_undo_39 (by decide) (by omega) (fun c_39 => ?_) (fun c_39 => ?_)
    · refine x_aload_n 2 dX10_undo_71 rfl rfl ?_
      refine x_getR fX10_61 dX10_undo_72 l0 rfl ?_
      refine x_iload_n 3 dX10_undo_75 rfl rfl ?_
      refine x_putI pX10_163 dX10_undo_76 l60 rfl ?_
      refine x_iload_n 1 dX10_undo_79 rfl rfl ?_
      refine x_iret rfl dX10_undo_80 (by obtain rfl : j = a := (by omega); exact ⟨_, rfl, rfl, S2, hf, hp, rfl⟩)
    · rw [nI_subN (a := j) (b := 1) (by omega)]
      obtain ⟨u1, u2, u3, u4⟩ := hUj (by omega)
      rw [show j - 1 + 1 = j by omega] at u1
      refine x_aload_n 2 dX10_undo_42 rfl rfl ?_
      refine x_getR fX10_49 dX10_undo_43 l0 rfl ?_
      refine x_aload_n 2 dX10_undo_46 rfl rfl ?_
      refine x_getR fX10_61 dX10_undo_47 l0 rfl ?_
      refine x_iload_n 0 dX10_undo_50 rfl rfl ?_
      refine x_callVu (as := [_]) (rest := [_]) vX10_259 (c_firstOf (c := 40) (v := nI (T (j - 1))) (Or.inl ⟨rfl, rfl⟩) ((hf1 60 (by omega) 0).trans h0) hd (by omega) ((hf1 61 (by omega) _).trans (h1 _ (by omega)))) dX10_undo_51 l60 rfl rfl rfl (Nat.le_of_ble_eq_true rfl) (Nat.le_of_ble_eq_true rfl) (Nat.le_of_ble_eq_true rfl) ?_
      refine x_aload_n 2 dX10_undo_54 rfl rfl ?_
      refine x_getR fX10_61 dX10_undo_55 l0 rfl ?_
      refine x_iload_n 0 dX10_undo_58 rfl rfl ?_
      refine x_callVu (as := [_]) (rest := [_, _]) vX10_262 (c_secondOf (c := 40) (v := nI (F (j - 1))) (Or.inl ⟨rfl, rfl⟩) ((hf1 60 (by omega) 0).trans h0) hd (by omega) ((hf1 62 (by omega) _).trans (h2 _ (by omega)))) dX10_undo_59 l60 rfl rfl rfl (Nat.le_of_ble_eq_true rfl) (Nat.le_of_ble_eq_true rfl) (Nat.le_of_ble_eq_true rfl) ?_
      refine x_callVqv (as := [_, _]) (rest := []) vX10_250 (c_X3_move (S := S2) (w := ws j) (t := T (j - 1)) (to := F (j - 1)) (Or.inl rfl) (hI.keep (fun a h1 h2 b => hf1 a (by omega) b)) hO hp.1 u2 (hF _ (by omega)) (by rw [← u1]; exact u4)) dX10_undo_62 l35 rfl rfl rfl (Nat.le_of_ble_eq_true rfl) (Nat.le_of_ble_eq_true rfl) (Nat.le_of_ble_eq_true rfl) (fun S_62 q_62 => ?_)
      obtain ⟨p1, p2⟩ := q_62
      refine x_iinc (lv' := [(3, _), (2, _), (0, _), (1, _)]) 0 dX10_undo_65 rfl rfl (by decide) rfl ?_
      rw [nI_m1]
      refine x_goto 37 dX10_undo_68 (by decide) ?_
      refine x_pick (lv' := [(3, _), (2, _), (0, _), (1, _)]) [0, 1, 2, 3] rfl ?_
      exact ih (j - 1) (by omega) (j - 1) S_62 rfl ⟨by omega, by omega⟩ (hf.trans (p1.wider (fun a h => by omega))) (by rw [u1]; exact p2)

set_option maxHeartbeats 4000000 in
set_option maxRecDepth 100000 in
theorem c_X10_undo {S : St} {I : Isl} (hI : IsX 11 I S) (hO : IOK I) {d : Nat} {ws : Nat → Nat → Nat} {T F : Nat → Nat} (hd : d ≤ 40) (hU : UPath I ws T F d) (h1 : ∀ i, i < d → S.1 61 i = nI (T i)) (h2 : ∀ i, i < d → S.1 62 i = nI (F i)) (hF : ∀ i, i < d → plcF I (F i)) (h0 : S.1 60 0 = nI d) (hP : PlT 35 I (ws d) S) {x : Int32} : C 4 120 yX10_undo mX10_undo [.ref 0, .int x] S (qi (i2 (¬ (0 ≤ x.toInt ∧ x.toInt ≤ (d : Int))) (an (-1) S) (fun r S' => r = nI (d - tn x) ∧ ∃ S2, Fr (fun a => 36 ≤ a ∧ a ≤ 39) S S2 ∧ PlT 35 I (ws (tn x)) S2 ∧ S' = setI S2 60 0 (nI (tn x))))) := by
  have n0 : (nI 0).toInt = 0 := rfl
  have n1 : (nI 1).toInt = 1 := rfl
  have n3 : (nI 3).toInt = 3 := rfl
  have n5 : (nI 5).toInt = 5 := rfl
  have n7 : (nI 7).toInt = 7 := rfl
  have n2 : (nI 2).toInt = 2 := rfl
  have n6 : (nI 6).toInt = 6 := rfl
  have hO1 := hO.1
  have hO2 := hO.2.1
  have hO3 := hO.2.2.1
  have hO4 := hO.2.2.2.1
  refine C.ofX (by decide) rfl (Nat.le_of_ble_eq_true rfl) ?_
  show X 4 120 mX10_undo (qi (i2 (¬ (0 ≤ x.toInt ∧ x.toInt ≤ (d : Int))) (an (-1) S) (fun r S' => r = nI (d - tn x) ∧ ∃ S2, Fr (fun a => 36 ≤ a ∧ a ≤ 39) S S2 ∧ PlT 35 I (ws (tn x)) S2 ∧ S' = setI S2 60 0 (nI (tn x))))) 0 [(0, .ref 0), (1, .int x)] [] S
  refine x_iload_n 1 dX10_undo_0 rfl rfl ?_
  refine x_if_lt 15 dX10_undo_1 (by decide) (fun c_1 => ?_) (fun c_1 => ?_)
  · refine x_iconst (v := -1) dX10_undo_15 (by decide) ?_
    refine x_iret rfl dX10_undo_16 (q2_0 (by omega) ⟨rfl, rfl⟩)
  · refine x_iload_n 1 dX10_undo_4 rfl rfl ?_
    refine x_aload_n 0 dX10_undo_5 rfl rfl ?_
    refine x_getR fX10_61 dX10_undo_6 l0 rfl ?_
    refine y_getI fX10_163 dX10_undo_9 l60 rfl h0 ?_
    refine z_ic_le 17 dX10_undo_12 (by decide) (by omega) (fun c_12 => ?_) (fun c_12 => ?_)
    · obtain ⟨a, ha, rfl⟩ := nI_ex (x := x) (n := d + 1) (by omega) (by omega)
      have ea : (nI a).toInt = (a : Int) := tiN (by omega)
      have ta : tn (nI a) = a := tnN (by omega)
      refine x_aload_n 0 dX10_undo_17 rfl rfl ?_
      refine x_getR fX10_61 dX10_undo_18 l0 rfl ?_
      refine y_getI fX10_163 dX10_undo_21 l60 rfl h0 ?_
      refine x_iload_n 1 dX10_undo_24 rfl rfl ?_
      refine y_isub dX10_undo_25 (by omega) ?_
      refine x_istore_n (lv' := [(2, _), (0, _), (1, _)]) dX10_undo_26 rfl (by decide) rfl ?_
      refine x_aload_n 1 dX10_undo_27 rfl rfl ?_
      refine x_getR fX10_61 dX10_undo_28 l0 rfl ?_
      refine y_getI fX10_163 dX10_undo_31 l60 rfl h0 ?_
      refine x_iconst (v := nI 1) dX10_undo_34 (by decide) ?_
      refine x_isub dX10_undo_35 ?_
      refine x_istore_n (lv' := [(3, _), (2, _), (0, _), (1, _)]) dX10_undo_36 rfl (by decide) rfl ?_
      refine x_pick (lv' := [(3, _), (2, _), (0, _), (1, _)]) [0, 1, 2, 3] rfl ?_
      refine (lp_undoX hI hO hd hU h1 h2 hF h0 (a := a) (by omega) d S ⟨by omega, by omega⟩ Fr.refl hP).mono (fun v S' hq => ?_)
      obtain ⟨r, rfl, hr⟩ := hq
      simp only [ta]
      exact q2_1 (by omega) hr
    · refine x_iconst (v := -1) dX10_undo_15 (by decide) ?_
      refine x_iret rfl dX10_undo_16 (q2_0 (by omega) ⟨rfl, rfl⟩)

set_option maxHeartbeats 4000000 in
set_option maxRecDepth 100000 in
theorem c_X10_isKeep {S : St} {x : Int32} : C 0 0 yX10_isKeep mX10_isKeep [.int x] S (pb (0 ≤ x.toInt ∧ x.toInt < 3) S) := by
  refine C.ofX (by decide) rfl (Nat.le_of_ble_eq_true rfl) ?_
  show X 0 0 mX10_isKeep (pb (0 ≤ x.toInt ∧ x.toInt < 3) S) 0 [(0, .int x)] [] S
  refine x_iload_n 0 dX10_isKeep_0 rfl rfl ?_
  refine x_if_lt 13 dX10_isKeep_1 (by decide) (fun c_1 => ?_) (fun c_1 => ?_)
  · refine x_iconst (v := nI 0) dX10_isKeep_13 (by decide) ?_
    refine x_zret rfl dX10_isKeep_14 (by decide) ⟨Or.inr ⟨rfl, by omega⟩, rfl⟩
  · refine x_iload_n 0 dX10_isKeep_4 rfl rfl ?_
    refine x_iconst (v := nI 3) dX10_isKeep_5 (by decide) ?_
    refine z_ic_ge 13 dX10_isKeep_6 (by decide) (by omega) (fun c_6 => ?_) (fun c_6 => ?_)
    · refine x_iconst (v := nI 0) dX10_isKeep_13 (by decide) ?_
      refine x_zret rfl dX10_isKeep_14 (by decide) ⟨Or.inr ⟨rfl, by omega⟩, rfl⟩
    · refine x_iconst (v := nI 1) dX10_isKeep_9 (by decide) ?_
      refine x_goto 14 dX10_isKeep_10 (by decide) ?_
      refine x_zret rfl dX10_isKeep_14 (by decide) ⟨Or.inl ⟨rfl, by omega⟩, rfl⟩

set_option maxHeartbeats 4000000 in
set_option maxRecDepth 100000 in
theorem c_X10_keep {S : St} {I : Isl} (hI : IsX 11 I S) (hO : IOK I) {w : Nat → Nat} (hP : PlT 35 I w S) {L : Nat} (hL : S.1 35 5 = nI L) (hL7 : L ≤ 6) (hv : VS I w L) {c : Nat} (h0 : S.1 60 0 = nI c) {x : Int32} : C 1 30 yX10_keep mX10_keep [.ref 0, .int x] S (pu (.int (i3 (¬ (0 ≤ x.toInt ∧ x.toInt < 3)) (iP I = 0) (-1) (-4) (nI c))) (i3 (¬ (0 ≤ x.toInt ∧ x.toInt < 3)) (iP I = 0) S S (setI (setI S 66 (tn x) (nI (codeF I w))) 67 (tn x) (nI L)))) := by
  have n0 : (nI 0).toInt = 0 := rfl
  have n1 : (nI 1).toInt = 1 := rfl
  have n3 : (nI 3).toInt = 3 := rfl
  have n5 : (nI 5).toInt = 5 := rfl
  have n7 : (nI 7).toInt = 7 := rfl
  have n2 : (nI 2).toInt = 2 := rfl
  have n6 : (nI 6).toInt = 6 := rfl
  have hO1 := hO.1
  have hO2 := hO.2.1
  have hO3 := hO.2.2.1
  have hO4 := hO.2.2.2.1
  have hw := hv.ok hO
  have hw7 := hw.w7 hO
  refine C.ofX (by decide) rfl (Nat.le_of_ble_eq_true rfl) ?_
  show X 1 30 mX10_keep (pu (.int (i3 (¬ (0 ≤ x.toInt ∧ x.toInt < 3)) (iP I = 0) (-1) (-4) (nI c))) (i3 (¬ (0 ≤ x.toInt ∧ x.toInt < 3)) (iP I = 0) S S (setI (setI S 66 (tn x) (nI (codeF I w))) 67 (tn x) (nI L)))) 0 [(0, .ref 0), (1, .int x)] [] S
  refine x_iload_n 1 dX10_keep_0 rfl rfl ?_
  refine x_callSb (as := [_]) (rest := []) sX10_268 c_X10_isKeep dX10_keep_1 rfl rfl (Nat.le_of_ble_eq_true rfl) (Nat.le_of_ble_eq_true rfl) (Nat.le_of_ble_eq_true rfl) (fun c_1 => ?_) (fun c_1 => ?_)
  · refine t_if_ne 9 dX10_keep_4 (by decide) (by decide) ?_
    obtain ⟨a, ha, rfl⟩ := nI_ex (x := x) (n := 3) (by omega) (by omega)
    have ea : (nI a).toInt = (a : Int) := tiN (by omega)
    have ta : tn (nI a) = a := tnN (by omega)
    refine x_aload_n 0 dX10_keep_9 rfl rfl ?_
    refine x_getR fX10_40 dX10_keep_10 l0 rfl ?_
    refine y_getI fX10_271 dX10_keep_13 l11 rfl hI.1 ?_
    refine y_if_ne 22 dX10_keep_16 (by decide) (by omega) (fun c_16 => ?_) (fun c_16 => ?_)
    · refine x_aload_n 0 dX10_keep_22 rfl rfl ?_
      refine x_getR fX10_68 dX10_keep_23 l0 rfl ?_
      refine x_iload_n 1 dX10_keep_26 rfl rfl ?_
      refine x_aload_n 0 dX10_keep_27 rfl rfl ?_
      refine x_getR fX10_49 dX10_keep_28 l0 rfl ?_
      refine x_callVu (as := []) (rest := [_, _]) vX10_274 (c_X3_code (Or.inl rfl) hI hO hP.1 hw7) dX10_keep_31 l35 rfl rfl rfl (Nat.le_of_ble_eq_true rfl) (Nat.le_of_ble_eq_true rfl) (Nat.le_of_ble_eq_true rfl) ?_
      refine y_iast dX10_keep_34 l66 (by omega) (by decide) ?_
      refine x_aload_n 0 dX10_keep_35 rfl rfl ?_
      refine x_getR fX10_72 dX10_keep_36 l0 rfl ?_
      refine x_iload_n 1 dX10_keep_39 rfl rfl ?_
      refine x_aload_n 0 dX10_keep_40 rfl rfl ?_
      refine x_getR fX10_49 dX10_keep_41 l0 rfl ?_
      refine y_getI fX10_231 dX10_keep_44 l35 rfl (((rdI_k (by decide))).trans hL) ?_
      refine y_iast dX10_keep_47 l67 (by omega) (by decide) ?_
      refine x_aload_n 0 dX10_keep_48 rfl rfl ?_
      refine x_getR fX10_61 dX10_keep_49 l0 rfl ?_
      refine y_getI fX10_163 dX10_keep_52 l60 rfl ((((rdI_k (by decide))).trans (rdI_k (by decide))).trans h0) ?_
      refine x_iret rfl dX10_keep_55 (by simp only [ta]; exact p3_2 (by omega) (by omega))
    · refine x_bipush (v := -4) dX10_keep_19 (by decide) ?_
      refine x_iret rfl dX10_keep_21 (by simp only [ta]; exact p3_1 (by omega) (by omega))
  · refine u_if_ne 9 dX10_keep_4 (by decide) (by decide) ?_
    refine x_iconst (v := -1) dX10_keep_7 (by decide) ?_
    refine x_iret rfl dX10_keep_8 (p3_0 c_1)

theorem codeN_h : ∀ (n : Nat) (f : Nat → Nat), codeN (n + 1) f = f 0 + 7 * codeN n (fun t => f (t + 1))
  | 0, f => by show 0 + f 0 * 7 ^ 0 = f 0 + 7 * 0; omega
  | n + 1, f => by
    have ih := codeN_h n f
    show codeN (n + 1) f + f (n + 1) * 7 ^ (n + 1) = f 0 + 7 * (codeN n (fun t => f (t + 1)) + f (n + 1) * 7 ^ n)
    rw [ih, Nat.pow_succ, Nat.mul_add, Nat.add_assoc, ← Nat.mul_assoc, Nat.mul_comm (f (n + 1) * 7 ^ n) 7]
theorem codeN_d (m j : Nat) (hj : 0 < j) (hjm : j ≤ m) (w : Nat → Nat) : 7 * codeN (m - j) (fun t => w (t + j)) + w (j - 1) = codeN (m - (j - 1)) (fun t => w (t + (j - 1))) := by
  rw [show m - (j - 1) = (m - j) + 1 by omega, codeN_h, Nat.add_comm]
  congr 1
  · show w (j - 1) = w (0 + (j - 1))
    rw [Nat.zero_add]
  · congr 2
    funext t
    rw [show t + 1 + (j - 1) = t + j by omega]

set_option maxHeartbeats 4000000 in
set_option maxRecDepth 100000 in
theorem c_X10_goOnFrom {S : St} {I : Isl} (hI : IsX 11 I S) (hO : IOK I) {c l : Nat} (hc : c < 16807) (hw : WOK I (digF c)) : C 3 90 yX10_goOnFrom mX10_goOnFrom [.ref 0, .int (nI c), .int (nI l)] S (qv (fun S' => ∃ S2, pvT S 35 I (digF c) none S2 ∧ S' = setI (setI S2 35 5 (nI l)) 60 0 (nI 0))) := by
  refine C.ofX (by decide) rfl (Nat.le_of_ble_eq_true rfl) ?_
  show X 3 90 mX10_goOnFrom (qv (fun S' => ∃ S2, pvT S 35 I (digF c) none S2 ∧ S' = setI (setI S2 35 5 (nI l)) 60 0 (nI 0))) 0 [(0, .ref 0), (1, .int (nI c)), (2, .int (nI l))] [] S
  refine x_aload_n 0 dX10_goOnFrom_0 rfl rfl ?_
  refine x_getR fX10_49 dX10_goOnFrom_1 l0 rfl ?_
  refine x_iload_n 1 dX10_goOnFrom_4 rfl rfl ?_
  refine x_callVqv (as := [_]) (rest := []) vX10_280 (c_X3_decode (Or.inl rfl) hI hO hc hw) dX10_goOnFrom_5 l35 rfl rfl rfl (Nat.le_of_ble_eq_true rfl) (Nat.le_of_ble_eq_true rfl) (Nat.le_of_ble_eq_true rfl) (fun S_5 q_5 => ?_)
  refine x_aload_n 0 dX10_goOnFrom_8 rfl rfl ?_
  refine x_getR fX10_49 dX10_goOnFrom_9 l0 rfl ?_
  refine x_iload_n 2 dX10_goOnFrom_12 rfl rfl ?_
  refine x_putI pX10_231 dX10_goOnFrom_13 l35 rfl ?_
  refine x_aload_n 0 dX10_goOnFrom_16 rfl rfl ?_
  refine x_getR fX10_61 dX10_goOnFrom_17 l0 rfl ?_
  refine x_iconst (v := nI 0) dX10_goOnFrom_20 (by decide) ?_
  refine x_putI pX10_163 dX10_goOnFrom_21 l60 rfl ?_
  refine x_vret rfl dX10_goOnFrom_24 ⟨rfl, _, ⟨rfl, q_5⟩, rfl⟩

set_option maxHeartbeats 4000000 in
set_option maxRecDepth 100000 in
theorem c_X10_on {S : St} {I : Isl} (hI : IsX 11 I S) (hO : IOK I) {kc kl : Nat → Nat} (hk : ∀ k, k < 3 → S.1 67 k = nI (kl k) ∧ kl k ≤ 6 ∧ (¬ kl k = 0 → S.1 66 k = nI (kc k) ∧ kc k < 16807 ∧ VS I (digF (kc k)) (kl k))) {x : Int32} : C 4 120 yX10_on mX10_on [.ref 0, .int x] S (qi (i3 (¬ (0 ≤ x.toInt ∧ x.toInt < 3)) (kl (tn x) = 0) (an (-1) S) (an (-3) (fndS S 1)) (fun r S' => r = nI 1 ∧ ∃ S2, pvT S 35 I (digF (kc (tn x))) none S2 ∧ S' = setI (setI S2 35 5 (nI (kl (tn x)))) 60 0 (nI 0)))) := by
  have n0 : (nI 0).toInt = 0 := rfl
  have n1 : (nI 1).toInt = 1 := rfl
  have n3 : (nI 3).toInt = 3 := rfl
  have n5 : (nI 5).toInt = 5 := rfl
  have n7 : (nI 7).toInt = 7 := rfl
  have n2 : (nI 2).toInt = 2 := rfl
  have n6 : (nI 6).toInt = 6 := rfl
  have hO1 := hO.1
  have hO2 := hO.2.1
  have hO3 := hO.2.2.1
  have hO4 := hO.2.2.2.1
  refine C.ofX (by decide) rfl (Nat.le_of_ble_eq_true rfl) ?_
  show X 4 120 mX10_on (qi (i3 (¬ (0 ≤ x.toInt ∧ x.toInt < 3)) (kl (tn x) = 0) (an (-1) S) (an (-3) (fndS S 1)) (fun r S' => r = nI 1 ∧ ∃ S2, pvT S 35 I (digF (kc (tn x))) none S2 ∧ S' = setI (setI S2 35 5 (nI (kl (tn x)))) 60 0 (nI 0)))) 0 [(0, .ref 0), (1, .int x)] [] S
  refine x_iload_n 1 dX10_on_0 rfl rfl ?_
  refine x_callSb (as := [_]) (rest := []) sX10_268 c_X10_isKeep dX10_on_1 rfl rfl (Nat.le_of_ble_eq_true rfl) (Nat.le_of_ble_eq_true rfl) (Nat.le_of_ble_eq_true rfl) (fun c_1 => ?_) (fun c_1 => ?_)
  · refine t_if_ne 9 dX10_on_4 (by decide) (by decide) ?_
    obtain ⟨a, ha, rfl⟩ := nI_ex (x := x) (n := 3) (by omega) (by omega)
    have ea : (nI a).toInt = (a : Int) := tiN (by omega)
    have ta : tn (nI a) = a := tnN (by omega)
    obtain ⟨k1, k2, k35⟩ := hk a ha
    refine x_aload_n 0 dX10_on_9 rfl rfl ?_
    refine x_getR fX10_72 dX10_on_10 l0 rfl ?_
    refine x_iload_n 1 dX10_on_13 rfl rfl ?_
    refine y_iald dX10_on_14 l67 (by omega) (by decide) k1 ?_
    refine y_if_ne 27 dX10_on_15 (by decide) (by omega) (fun c_15 => ?_) (fun c_15 => ?_)
    · obtain ⟨k3, k4, k5⟩ := k35 c_15
      refine x_aload_n 0 dX10_on_27 rfl rfl ?_
      refine x_aload_n 0 dX10_on_28 rfl rfl ?_
      refine x_getR fX10_68 dX10_on_29 l0 rfl ?_
      refine x_iload_n 1 dX10_on_32 rfl rfl ?_
      refine y_iald dX10_on_33 l66 (by omega) (by decide) k3 ?_
      refine x_aload_n 0 dX10_on_34 rfl rfl ?_
      refine x_getR fX10_72 dX10_on_35 l0 rfl ?_
      refine x_iload_n 1 dX10_on_38 rfl rfl ?_
      refine y_iald dX10_on_39 l67 (by omega) (by decide) k1 ?_
      refine x_callVqv (as := [_, _]) (rest := []) vX10_277 (c_X10_goOnFrom hI hO k4 (k5.ok hO)) dX10_on_40 l0 rfl rfl rfl (Nat.le_of_ble_eq_true rfl) (Nat.le_of_ble_eq_true rfl) (Nat.le_of_ble_eq_true rfl) (fun S_40 q_40 => ?_)
      refine x_iconst (v := nI 1) dX10_on_43 (by decide) ?_
      refine x_iret rfl dX10_on_44 (by simp only [ta]; exact q3_2 (by omega) c_15 ⟨rfl, q_40⟩)
    · refine x_aload_n 0 dX10_on_18 rfl rfl ?_
      refine x_getR fX10_10 dX10_on_19 l0 rfl ?_
      refine x_iconst (v := nI 1) dX10_on_22 (by decide) ?_
      refine x_callVu (as := [_]) (rest := []) vX10_109 (c_X9_find (by decide) (by decide)) dX10_on_23 l1 rfl rfl rfl (Nat.le_of_ble_eq_true rfl) (Nat.le_of_ble_eq_true rfl) (Nat.le_of_ble_eq_true rfl) ?_
      refine x_iret rfl dX10_on_26 (by simp only [ta]; exact q3_1 (by omega) c_15 ⟨rfl, rfl⟩)
  · refine u_if_ne 9 dX10_on_4 (by decide) (by decide) ?_
    refine x_iconst (v := -1) dX10_on_7 (by decide) ?_
    refine x_iret rfl dX10_on_8 (q3_0 c_1 ⟨rfl, rfl⟩)

def bcN (S : St) (n : Nat) : St := (fun a b => if a = 93 ∧ b < n then S.1 97 b else S.1 a b, S.2)
theorem bcN_0 (S : St) : bcN S 0 = S := st_ext rfl fun a b => if_neg (by omega)
theorem bcN_k {S : St} {n a b : Nat} (h : ¬ a = 93) : (bcN S n).1 a b = S.1 a b := if_neg fun q => h q.1
theorem bcN_s (S : St) (i : Nat) : setI (bcN S i) 93 i (S.1 97 i) = bcN S (i + 1) := by
  refine st_ext rfl fun a b => ?_
  by_cases ha : a = 93
  · subst ha
    by_cases hb : b = i
    · subst hb
      rw [rdI_eq]
      exact (if_pos ⟨rfl, Nat.lt_succ_self b⟩).symm
    · rw [rdI_j hb]
      by_cases h : b < i
      · exact (if_pos ⟨rfl, h⟩).trans (if_pos ⟨rfl, by omega⟩).symm
      · exact (if_neg (by omega)).trans (if_neg (by omega)).symm
  · rw [rdI_k ha]
    exact (if_neg (fun q => ha q.1)).trans (if_neg (fun q => ha q.1)).symm

