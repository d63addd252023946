/-! ===== the reference: all, till, nearest, fewest ===== -/

set_option maxHeartbeats 4000000 in
set_option maxRecDepth 100000 in
theorem c_X11_all {S : St} {I : Isl} (hI : IsM I S) (hO : IOK I) {w : Nat → Nat} (hw0 : ∀ t, t < iM I → S.1 93 t = nI (w t)) {L : Nat} (hL : S.1 83 17 = nI L) (hL7 : L ≤ 6) (hv : VS I w L) : C 5 150 yX11_all mX11_all [.ref 83] S (qi (fun r S' => r = nI (rC (fR I L (codeF I w))) ∧ ∃ S2, FrL S S2 ∧ QuX I (fR I L (codeF I w)) S2 ∧ S' = setI S2 83 2 (nI (rD (fR I L (codeF I w)) (rC (fR I L (codeF I w)) - 1))))) := by
  have hO1 := hO.1
  have hO2 := hO.2.1
  have hO3 := hO.2.2.1
  have hO4 := hO.2.2.2.1
  have hw := hv.ok hO
  have hw7 := hw.w7 hO
  have h7 := p7le hO
  have h0 := hv.okc hO
  refine C.ofX (by decide) rfl (Nat.le_of_ble_eq_true rfl) ?_
  show X 5 150 mX11_all (qi (fun r S' => r = nI (rC (fR I L (codeF I w))) ∧ ∃ S2, FrL S S2 ∧ QuX I (fR I L (codeF I w)) S2 ∧ S' = setI S2 83 2 (nI (rD (fR I L (codeF I w)) (rC (fR I L (codeF I w)) - 1))))) 0 [(0, .ref 83)] [] S
  refine x_aload_n 0 dX11_all_0 rfl rfl ?_
  refine x_callVqv (as := []) (rest := []) vX11_272 (c_X11_layFar hI hO hw0 hL hL7 hv) dX11_all_1 l83 rfl rfl rfl (Nat.le_of_ble_eq_true rfl) (Nat.le_of_ble_eq_true rfl) (Nat.le_of_ble_eq_true rfl) (fun S_1 q_1 => ?_)
  obtain ⟨f1, f2⟩ := q_1
  have hI1 := hI.fl f1
  have hpos : 0 < rC (fR I L (codeF I w)) := (fR_inv hO h0).1.1
  have hle := f2.2.1
  have hlast := f2.2.2.1 (rC (fR I L (codeF I w)) - 1) (by omega)
  refine x_aload_n 0 dX11_all_4 rfl rfl ?_
  refine x_aload_n 0 dX11_all_5 rfl rfl ?_
  refine x_getR fX11_65 dX11_all_6 l83 rfl ?_
  refine x_aload_n 0 dX11_all_9 rfl rfl ?_
  refine x_getR fX11_68 dX11_all_10 l83 rfl ?_
  refine x_aload_n 0 dX11_all_13 rfl rfl ?_
  refine y_getI fX11_269 dX11_all_14 l83 rfl f2.1 ?_
  refine x_iconst (v := nI 1) dX11_all_17 (by decide) ?_
  refine y_isub dX11_all_18 (by omega) ?_
  refine y_iald dX11_all_19 l103 (by omega) (by decide) hlast.1 ?_
  refine y_iald dX11_all_20 l102 (Nat.lt_of_lt_of_le hlast.2.1 h7) (by decide) hlast.2.2.1 ?_
  refine x_aload_n 0 dX11_all_21 rfl rfl ?_
  refine y_getI fX11_269 dX11_all_22 l83 rfl f2.1 ?_
  refine x_callVu (as := [_, _]) (rest := []) vX11_120 c_X11_tells dX11_all_25 l83 rfl rfl rfl (Nat.le_of_ble_eq_true rfl) (Nat.le_of_ble_eq_true rfl) (Nat.le_of_ble_eq_true rfl) ?_
  refine x_iret rfl dX11_all_28 ⟨_, rfl, rfl, _, f1, f2, rfl⟩

set_option maxHeartbeats 4000000 in
set_option maxRecDepth 100000 in
theorem lp_tillM {S : St} {I : Isl} (hI : IsM I S) (hO : IOK I) {w : Nat → Nat} (hw0 : ∀ t, t < iM I → S.1 93 t = nI (w t)) {L : Nat} (hL : S.1 83 17 = nI L) (hL7 : L ≤ 6) (hv : VS I w L) {a : Nat} (ha : a < iW I)  : ∀ (i : Nat) (S1 : St), (i ≤ rC (fR I L (codeF I w))) → (FrL S S1) → (QuX I (fR I L (codeF I w)) S1) → (∀ j, j < i → ¬ canF I (digF (rK (fR I L (codeF I w)) j)) a) → X 5 150 mX11_till (qi (fun r S' => ((∃ i, i < rC (fR I L (codeF I w)) ∧ (canF I (digF (rK (fR I L (codeF I w)) i)) a) ∧ (∀ j, j < i → ¬ (canF I (digF (rK (fR I L (codeF I w)) j)) a)) ∧ r = nI (rD (fR I L (codeF I w)) i)) ∨ (r = -9 ∧ ∀ j, j < rC (fR I L (codeF I w)) → ¬ (canF I (digF (rK (fR I L (codeF I w)) j)) a))) ∧ FrL S S')) 16 [(2, .int (nI i)), (0, .ref 83), (1, .int (nI a))] [] S1 := by
  intro i S1
  induction hm : rC (fR I L (codeF I w)) - i using Nat.strongRecOn generalizing i S1 with
  | _ mm ih =>
    intro hi hf hq hn
    have hO1 := hO.1
    have hO2 := hO.2.1
    have hO3 := hO.2.2.1
    have hO4 := hO.2.2.2.1
    have hw := hv.ok hO
    have hw7 := hw.w7 hO
    have h7 := p7le hO
    have h0 := hv.okc hO
    have hle := hq.2.1
    have hI1 := hI.fl hf
    have hqi := hq.2.2.1 i
    refine x_iload_n 0 dX11_till_16 rfl rfl ?_
    refine x_aload_n 1 dX11_till_17 rfl rfl ?_
    refine y_getI fX11_269 dX11_till_18 l83 rfl hq.1 ?_
    refine y_ic_ge 60 dX11_till_21 (by decide) (by omega) (by omega) (fun c_21 => ?_) (fun c_21 => ?_)
    · refine x_bipush (v := -9) dX11_till_60 (by decide) ?_
      refine x_iret rfl dX11_till_62 ⟨_, rfl, Or.inr ⟨rfl, fun j hj => hn j (by omega)⟩, hf⟩
    · refine x_aload_n 1 dX11_till_24 rfl rfl ?_
      refine x_aload_n 1 dX11_till_25 rfl rfl ?_
      refine x_getR fX11_68 dX11_till_26 l83 rfl ?_
      refine x_iload_n 0 dX11_till_29 rfl rfl ?_
      refine y_iald dX11_till_30 l103 (by omega) (by decide) (hqi (by omega)).1 ?_
      refine x_callVv (as := [_]) (rest := []) vX11_255 (c_X11_look hI1 hO (Nat.lt_of_lt_of_le (hqi (by omega)).2.1 h7)) dX11_till_31 l83 rfl rfl rfl (Nat.le_of_ble_eq_true rfl) (Nat.le_of_ble_eq_true rfl) (Nat.le_of_ble_eq_true rfl) ?_
      refine x_aload_n 1 dX11_till_34 rfl rfl ?_
      refine x_iload_n 2 dX11_till_35 rfl rfl ?_
      refine x_callVb (as := [_]) (rest := []) vX11_262 (c_X11_canWork (hI1.lo _ _) hO (fun t ht => if_pos ⟨rfl, ht⟩) (((fR_inv hO h0).2.2.1 i (by omega)).2.ok hO) ha) dX11_till_36 l83 rfl rfl rfl (Nat.le_of_ble_eq_true rfl) (Nat.le_of_ble_eq_true rfl) (Nat.le_of_ble_eq_true rfl) (fun c_36 => ?_) (fun c_36 => ?_)
      · refine u_if_eq 54 dX11_till_39 (by decide) (by decide) ?_
        refine x_aload_n 1 dX11_till_42 rfl rfl ?_
        refine x_getR fX11_65 dX11_till_43 l83 rfl ?_
        refine x_aload_n 1 dX11_till_46 rfl rfl ?_
        refine x_getR fX11_68 dX11_till_47 l83 rfl ?_
        refine x_iload_n 0 dX11_till_50 rfl rfl ?_
        refine y_iald dX11_till_51 l103 (by omega) (by decide) ((loS_k (by decide)).trans (hqi (by omega)).1) ?_
        refine y_iald dX11_till_52 l102 (Nat.lt_of_lt_of_le (hqi (by omega)).2.1 h7) (by decide) ((loS_k (by decide)).trans (hqi (by omega)).2.2.1) ?_
        refine x_iret rfl dX11_till_53 ⟨_, rfl, Or.inl ⟨i, by omega, c_36, hn, rfl⟩, hf.trans (FrL.of (loS_f _ _ _))⟩
      · refine t_if_eq 54 dX11_till_39 (by decide) (by decide) ?_
        refine y_iinc (lv' := [(2, _), (0, _), (1, _)]) 0 dX11_till_54 rfl (by decide) rfl ?_
        refine x_goto 16 dX11_till_57 (by decide) ?_
        refine x_pick (lv' := [(2, _), (0, _), (1, _)]) [0, 1, 2] rfl ?_
        exact ih (rC (fR I L (codeF I w)) - (i + 1)) (by omega) (i + 1) _ rfl (by omega) (hf.trans (FrL.of (loS_f _ _ _))) (hq.f97 (loS_f _ _ _)) (fun j hj => by rcases Nat.lt_succ_iff_lt_or_eq.mp hj with h | h; exact hn j h; subst h; exact c_36)

set_option maxHeartbeats 4000000 in
set_option maxRecDepth 100000 in
theorem c_X11_till {S : St} {I : Isl} (hI : IsM I S) (hO : IOK I) {w : Nat → Nat} (hw0 : ∀ t, t < iM I → S.1 93 t = nI (w t)) {L : Nat} (hL : S.1 83 17 = nI L) (hL7 : L ≤ 6) (hv : VS I w L) {x : Int32} : C 5 150 yX11_till mX11_till [.ref 83, .int x] S (qi (i2 (¬ (0 ≤ x.toInt ∧ x.toInt < (iW I : Int))) (an (-1) S) (fun r S' => ((∃ i, i < rC (fR I L (codeF I w)) ∧ (canF I (digF (rK (fR I L (codeF I w)) i)) (tn x)) ∧ (∀ j, j < i → ¬ (canF I (digF (rK (fR I L (codeF I w)) j)) (tn x))) ∧ r = nI (rD (fR I L (codeF I w)) i)) ∨ (r = -9 ∧ ∀ j, j < rC (fR I L (codeF I w)) → ¬ (canF I (digF (rK (fR I L (codeF I w)) j)) (tn x)))) ∧ FrL S S'))) := by
  have n0 : (nI 0).toInt = 0 := rfl
  have n1 : (nI 1).toInt = 1 := rfl
  have n3 : (nI 3).toInt = 3 := rfl
  have n5 : (nI 5).toInt = 5 := rfl
  have n7 : (nI 7).toInt = 7 := rfl
  have n2 : (nI 2).toInt = 2 := rfl
  have n6 : (nI 6).toInt = 6 := rfl
  have hO1 := hO.1
  have hO2 := hO.2.1
  have hO3 := hO.2.2.1
  have hO4 := hO.2.2.2.1
  refine C.ofX (by decide) rfl (Nat.le_of_ble_eq_true rfl) ?_
  show X 5 150 mX11_till (qi (i2 (¬ (0 ≤ x.toInt ∧ x.toInt < (iW I : Int))) (an (-1) S) (fun r S' => ((∃ i, i < rC (fR I L (codeF I w)) ∧ (canF I (digF (rK (fR I L (codeF I w)) i)) (tn x)) ∧ (∀ j, j < i → ¬ (canF I (digF (rK (fR I L (codeF I w)) j)) (tn x))) ∧ r = nI (rD (fR I L (codeF I w)) i)) ∨ (r = -9 ∧ ∀ j, j < rC (fR I L (codeF I w)) → ¬ (canF I (digF (rK (fR I L (codeF I w)) j)) (tn x)))) ∧ FrL S S'))) 0 [(0, .ref 83), (1, .int x)] [] S
  refine x_aload_n 0 dX11_till_0 rfl rfl ?_
  refine x_iload_n 1 dX11_till_1 rfl rfl ?_
  refine x_callVb (as := [_]) (rest := []) vX11_235 (c_X11_isWork (w := w) hI hO) dX11_till_2 l83 rfl rfl rfl (Nat.le_of_ble_eq_true rfl) (Nat.le_of_ble_eq_true rfl) (Nat.le_of_ble_eq_true rfl) (fun c_2 => ?_) (fun c_2 => ?_)
  · refine t_if_ne 10 dX11_till_5 (by decide) (by decide) ?_
    obtain ⟨a, ha, rfl⟩ := nI_ex (x := x) (n := iW I) (by omega) (by omega)
    have ea : (nI a).toInt = (a : Int) := tiN (by omega)
    have ta : tn (nI a) = a := tnN (by omega)
    refine x_aload_n 0 dX11_till_10 rfl rfl ?_
    refine x_callVqv (as := []) (rest := []) vX11_272 (c_X11_layFar hI hO hw0 hL hL7 hv) dX11_till_11 l83 rfl rfl rfl (Nat.le_of_ble_eq_true rfl) (Nat.le_of_ble_eq_true rfl) (Nat.le_of_ble_eq_true rfl) (fun S_11 q_11 => ?_)
    obtain ⟨f1, f2⟩ := q_11
    have hI1 := hI.fl f1
    refine x_iconst (v := nI 0) dX11_till_14 (by decide) ?_
    refine x_istore_n (lv' := [(2, _), (0, _), (1, _)]) dX11_till_15 rfl (by decide) rfl ?_
    refine x_pick (lv' := [(2, _), (0, _), (1, _)]) [0, 1, 2] rfl ?_
    refine (lp_tillM hI hO hw0 hL hL7 hv ha 0 S_11 (Nat.zero_le _) f1 f2 (fun j hj => absurd hj (Nat.not_lt_zero j))).mono (fun v S' hq => ?_)
    obtain ⟨r, rfl, hr⟩ := hq
    simp only [ta]
    exact q2_1 (by omega) hr
  · refine u_if_ne 10 dX11_till_5 (by decide) (by decide) ?_
    refine x_iconst (v := -1) dX11_till_8 (by decide) ?_
    refine x_iret rfl dX11_till_9 (q2_0 c_2 ⟨rfl, rfl⟩)

def wantW (I : Isl) (wv : Nat → Int32) (w : Nat → Nat) (n : Nat) : Prop := ∀ t, t < n → 0 ≤ (wv t).toInt → (whomF I w t : Int) = (wv t).toInt
theorem neg_no {x : Int32} (e : x = -1) (h : 0 ≤ x.toInt) : False := by rw [e] at h; exact absurd h (by decide)
theorem eq_who {p : Int32} {n : Nat} (e : nI n = p) (hn : n ≤ 4) : (n : Int) = p.toInt := by rw [← e]; exact (tiN (by omega)).symm
theorem okw_m1 {p n : Int32} {k : Nat} (h : p = -1 ∨ p = nI 4 ∨ (0 ≤ p.toInt ∧ p.toInt < (k : Int))) : p = -1 ∨ 0 ≤ p.toInt := by
  rcases h with h | h | h
  · exact Or.inl h
  · exact Or.inr (by rw [h]; decide)
  · exact Or.inr h.1

set_option maxHeartbeats 4000000 in
set_option maxRecDepth 100000 in
theorem lp_isW {S : St} {I : Isl} (hI : IsM I S) (hO : IOK I) {w : Nat → Nat} (hw0 : MW I w S) (hw : WOK I w) {a : Nat} (ha : a < 6) (hok : ∀ t, t < iM I → (S.1 86 (60 * a + t) = -1 ∨ S.1 86 (60 * a + t) = nI 4 ∨ (0 ≤ (S.1 86 (60 * a + t)).toInt ∧ (S.1 86 (60 * a + t)).toInt < (iP I : Int))))  : ∀ (i : Nat) (x : Int32), (i ≤ iM I) → ((x = 1 ∧ wantW I (fun t => S.1 86 (60 * a + t)) w i) ∨ (x = 0 ∧ ¬ wantW I (fun t => S.1 86 (60 * a + t)) w i)) → X 1 30 mX11_isWanted (pb (wantW I (fun t => S.1 86 (60 * a + t)) w (iM I)) S) 4 [(3, .int (nI i)), (2, .int x), (0, .ref 83), (1, .int (nI a))] [] S := by
  intro i x
  induction hm : iM I - i using Nat.strongRecOn generalizing i x with
  | _ mm ih =>
    intro hi hx
    have hO1 := hO.1
    have hO2 := hO.2.1
    have hO3 := hO.2.2.1
    have hO4 := hO.2.2.2.1
    have hpx : ¬ x = 0 → wantW I (fun t => S.1 86 (60 * a + t)) w i := fun q => hx.elim (fun a => a.2) (fun a => absurd a.1 q)
    have hpn : x = 0 → ¬ wantW I (fun t => S.1 86 (60 * a + t)) w i := fun q => hx.elim (fun a => absurd (a.1.symm.trans q) (by decide)) (fun a => a.2)
    have hwh := @whomF_le I w hw i
    have tw : i < iM I → (nI (whomF I w i)).toInt = (whomF I w i : Int) := fun q => tiN (by have := hwh q; omega)
    refine x_iload_n 0 dX11_isWanted_4 rfl rfl ?_
    refine x_aload_n 2 dX11_isWanted_5 rfl rfl ?_
    refine y_getI fX11_181 dX11_isWanted_6 l83 rfl hI.2.1 ?_
    refine y_ic_ge 52 dX11_isWanted_9 (by decide) (by omega) (by omega) (fun c_9 => ?_) (fun c_9 => ?_)
    · refine x_iload_n 1 dX11_isWanted_52 rfl rfl ?_
      refine x_zret rfl dX11_isWanted_53 (sb2 hx) (by obtain rfl : i = iM I := (by omega); exact sb1 hx)
    · refine x_iload_n 1 dX11_isWanted_12 rfl rfl ?_
      refine x_if_eq 44 dX11_isWanted_13 (by decide) (fun c_13 => ?_) (fun c_13 => ?_)
      · refine x_iconst (v := nI 0) dX11_isWanted_44 (by decide) ?_
        refine x_istore_n (lv' := [(2, _), (3, _), (0, _), (1, _)]) dX11_isWanted_45 rfl (by decide) rfl ?_
        refine y_iinc (lv' := [(3, _), (2, _), (0, _), (1, _)]) 1 dX11_isWanted_46 rfl (by decide) rfl ?_
        refine x_goto 4 dX11_isWanted_49 (by decide) ?_
        refine x_pick (lv' := [(3, _), (2, _), (0, _), (1, _)]) [0, 1, 2, 3] rfl ?_
        exact ih (iM I - (i + 1)) (by omega) (i + 1) (nI 0) rfl (by omega) (Or.inr ⟨rfl, fun h => by first | exact hpn c_13 (fun t ht => h t (by omega)) | exact c_37 (Int32.toInt_inj.mp ((tw (by omega)).trans (h i (by omega) ((okw_m1 (n := 0) (hok i (by omega))).resolve_left c_23))))⟩)
      · refine x_aload_n 2 dX11_isWanted_16 rfl rfl ?_
        refine x_iload_n 3 dX11_isWanted_17 rfl rfl ?_
        refine x_iload_n 0 dX11_isWanted_18 rfl rfl ?_
        refine x_callVu (as := [_, _]) (rest := []) vX11_116 (c_rowAtM ha (by omega) rfl) dX11_isWanted_19 l83 rfl rfl rfl (Nat.le_of_ble_eq_true rfl) (Nat.le_of_ble_eq_true rfl) (Nat.le_of_ble_eq_true rfl) ?_
        refine x_iconst (v := -1) dX11_isWanted_22 (by decide) ?_
        refine x_ic_eq 40 dX11_isWanted_23 (by decide) (fun c_23 => ?_) (fun c_23 => ?_)
        · refine x_iconst (v := nI 1) dX11_isWanted_40 (by decide) ?_
          refine x_goto 45 dX11_isWanted_41 (by decide) ?_
          refine x_istore_n (lv' := [(2, _), (3, _), (0, _), (1, _)]) dX11_isWanted_45 rfl (by decide) rfl ?_
          refine y_iinc (lv' := [(3, _), (2, _), (0, _), (1, _)]) 1 dX11_isWanted_46 rfl (by decide) rfl ?_
          refine x_goto 4 dX11_isWanted_49 (by decide) ?_
          refine x_pick (lv' := [(3, _), (2, _), (0, _), (1, _)]) [0, 1, 2, 3] rfl ?_
          exact ih (iM I - (i + 1)) (by omega) (i + 1) (nI 1) rfl (by omega) (Or.inl ⟨rfl, fun t ht hn => by rcases Nat.lt_succ_iff_lt_or_eq.mp ht with h | h; exact hpx c_13 t h hn; subst h; first | exact (neg_no c_23 hn).elim | exact eq_who c_37 (hwh (by omega))⟩)
        · refine x_aload_n 2 dX11_isWanted_26 rfl rfl ?_
          refine x_iload_n 0 dX11_isWanted_27 rfl rfl ?_
          refine x_callVu (as := [_]) (rest := []) vX11_199 (c_X11_with hI hO hw0 hw (by omega)) dX11_isWanted_28 l83 rfl rfl rfl (Nat.le_of_ble_eq_true rfl) (Nat.le_of_ble_eq_true rfl) (Nat.le_of_ble_eq_true rfl) ?_
          refine x_aload_n 2 dX11_isWanted_31 rfl rfl ?_
          refine x_iload_n 3 dX11_isWanted_32 rfl rfl ?_
          refine x_iload_n 0 dX11_isWanted_33 rfl rfl ?_
          refine x_callVu (as := [_, _]) (rest := [_]) vX11_116 (c_rowAtM ha (by omega) rfl) dX11_isWanted_34 l83 rfl rfl rfl (Nat.le_of_ble_eq_true rfl) (Nat.le_of_ble_eq_true rfl) (Nat.le_of_ble_eq_true rfl) ?_
          refine x_ic_ne 44 dX11_isWanted_37 (by decide) (fun c_37 => ?_) (fun c_37 => ?_)
          · refine x_iconst (v := nI 0) dX11_isWanted_44 (by decide) ?_
            refine x_istore_n (lv' := [(2, _), (3, _), (0, _), (1, _)]) dX11_isWanted_45 rfl (by decide) rfl ?_
            refine y_iinc (lv' := [(3, _), (2, _), (0, _), (1, _)]) 1 dX11_isWanted_46 rfl (by decide) rfl ?_
            refine x_goto 4 dX11_isWanted_49 (by decide) ?_
            refine x_pick (lv' := [(3, _), (2, _), (0, _), (1, _)]) [0, 1, 2, 3] rfl ?_
            exact ih (iM I - (i + 1)) (by omega) (i + 1) (nI 0) rfl (by omega) (Or.inr ⟨rfl, fun h => by first | exact hpn c_13 (fun t ht => h t (by omega)) | exact c_37 (Int32.toInt_inj.mp ((tw (by omega)).trans (h i (by omega) ((okw_m1 (n := 0) (hok i (by omega))).resolve_left c_23))))⟩)
          · refine x_iconst (v := nI 1) dX11_isWanted_40 (by decide) ?_
            refine x_goto 45 dX11_isWanted_41 (by decide) ?_
            refine x_istore_n (lv' := [(2, _), (3, _), (0, _), (1, _)]) dX11_isWanted_45 rfl (by decide) rfl ?_
            refine y_iinc (lv' := [(3, _), (2, _), (0, _), (1, _)]) 1 dX11_isWanted_46 rfl (by decide) rfl ?_
            refine x_goto 4 dX11_isWanted_49 (by decide) ?_
            refine x_pick (lv' := [(3, _), (2, _), (0, _), (1, _)]) [0, 1, 2, 3] rfl ?_
            exact ih (iM I - (i + 1)) (by omega) (i + 1) (nI 1) rfl (by omega) (Or.inl ⟨rfl, fun t ht hn => by rcases Nat.lt_succ_iff_lt_or_eq.mp ht with h | h; exact hpx c_13 t h hn; subst h; first | exact (neg_no c_23 hn).elim | exact eq_who c_37 (hwh (by omega))⟩)

set_option maxHeartbeats 4000000 in
set_option maxRecDepth 100000 in
theorem c_X11_isWanted {S : St} {I : Isl} (hI : IsM I S) (hO : IOK I) {w : Nat → Nat} (hw0 : MW I w S) (hw : WOK I w) {a : Nat} (ha : a < 6) (hok : ∀ t, t < iM I → (S.1 86 (60 * a + t) = -1 ∨ S.1 86 (60 * a + t) = nI 4 ∨ (0 ≤ (S.1 86 (60 * a + t)).toInt ∧ (S.1 86 (60 * a + t)).toInt < (iP I : Int))))  : C 1 30 yX11_isWanted mX11_isWanted [.ref 83, .int (nI a)] S (pb (wantW I (fun t => S.1 86 (60 * a + t)) w (iM I)) S) := by
  refine C.ofX (by decide) rfl (Nat.le_of_ble_eq_true rfl) ?_
  show X 1 30 mX11_isWanted (pb (wantW I (fun t => S.1 86 (60 * a + t)) w (iM I)) S) 0 [(0, .ref 83), (1, .int (nI a))] [] S
  refine x_iconst (v := nI 1) dX11_isWanted_0 (by decide) ?_
  refine x_istore_n (lv' := [(2, _), (0, _), (1, _)]) dX11_isWanted_1 rfl (by decide) rfl ?_
  refine x_iconst (v := nI 0) dX11_isWanted_2 (by decide) ?_
  refine x_istore_n (lv' := [(3, _), (2, _), (0, _), (1, _)]) dX11_isWanted_3 rfl (by decide) rfl ?_
  refine x_pick (lv' := [(3, _), (2, _), (0, _), (1, _)]) [0, 1, 2, 3] rfl ?_
  exact lp_isW hI hO hw0 hw ha hok 0 (nI 1) (Nat.zero_le _) (Or.inl ⟨rfl, fun t ht => absurd ht (Nat.not_lt_zero t)⟩)

set_option maxHeartbeats 4000000 in
set_option maxRecDepth 100000 in
theorem lp_needW {S : St} {I : Isl} (hI : IsM I S) (hO : IOK I) {a : Nat} (ha : a < 6)  : ∀ (i : Nat) (x : Int32), (i ≤ iM I) → ((x = 1 ∧ (∀ t, t < i → (S.1 86 (60 * a + t) = -1 ∨ S.1 86 (60 * a + t) = nI 4 ∨ (0 ≤ (S.1 86 (60 * a + t)).toInt ∧ (S.1 86 (60 * a + t)).toInt < (iP I : Int))))) ∨ (x = 0 ∧ ¬ (∀ t, t < i → (S.1 86 (60 * a + t) = -1 ∨ S.1 86 (60 * a + t) = nI 4 ∨ (0 ≤ (S.1 86 (60 * a + t)).toInt ∧ (S.1 86 (60 * a + t)).toInt < (iP I : Int)))))) → X 2 60 mX11_needWanted (pu (.int (i2 (¬ (∀ t, t < iM I → (S.1 86 (60 * a + t) = -1 ∨ S.1 86 (60 * a + t) = nI 4 ∨ (0 ≤ (S.1 86 (60 * a + t)).toInt ∧ (S.1 86 (60 * a + t)).toInt < (iP I : Int))))) (-3) (nI 0))) (i2 (¬ (∀ t, t < iM I → (S.1 86 (60 * a + t) = -1 ∨ S.1 86 (60 * a + t) = nI 4 ∨ (0 ≤ (S.1 86 (60 * a + t)).toInt ∧ (S.1 86 (60 * a + t)).toInt < (iP I : Int))))) (fndM S 3) S)) 38 [(3, .int (nI i)), (2, .int x), (0, .ref 83), (1, .int (nI a))] [] S := by
  intro i x
  induction hm : iM I - i using Nat.strongRecOn generalizing i x with
  | _ mm ih =>
    intro hi hx
    have hO1 := hO.1
    have hO2 := hO.2.1
    have hO3 := hO.2.2.1
    have hO4 := hO.2.2.2.1
    have hpx : ¬ x = 0 → (∀ t, t < i → (S.1 86 (60 * a + t) = -1 ∨ S.1 86 (60 * a + t) = nI 4 ∨ (0 ≤ (S.1 86 (60 * a + t)).toInt ∧ (S.1 86 (60 * a + t)).toInt < (iP I : Int)))) := fun q => hx.elim (fun a => a.2) (fun a => absurd a.1 q)
    have hpn : x = 0 → ¬ (∀ t, t < i → (S.1 86 (60 * a + t) = -1 ∨ S.1 86 (60 * a + t) = nI 4 ∨ (0 ≤ (S.1 86 (60 * a + t)).toInt ∧ (S.1 86 (60 * a + t)).toInt < (iP I : Int)))) := fun q => hx.elim (fun a => absurd (a.1.symm.trans q) (by decide)) (fun a => a.2)
    refine x_iload_n 0 dX11_needWanted_38 rfl rfl ?_
    refine x_aload_n 2 dX11_needWanted_39 rfl rfl ?_
    refine y_getI fX11_181 dX11_needWanted_40 l83 rfl hI.2.1 ?_
    refine y_ic_ge 95 dX11_needWanted_43 (by decide) (by omega) (by omega) (fun c_43 => ?_) (fun c_43 => ?_)
    · refine x_iload_n 1 dX11_needWanted_95 rfl rfl ?_
      refine x_if_eq 103 dX11_needWanted_96 (by decide) (fun c_96 => ?_) (fun c_96 => ?_)
      · refine x_aload_n 2 dX11_needWanted_103 rfl rfl ?_
        refine x_iconst (v := nI 3) dX11_needWanted_104 (by decide) ?_
        refine x_callVu (as := [_]) (rest := []) vX11_112 (c_X11_meets (by decide)) dX11_needWanted_105 l83 rfl rfl rfl (Nat.le_of_ble_eq_true rfl) (Nat.le_of_ble_eq_true rfl) (Nat.le_of_ble_eq_true rfl) ?_
        refine x_iret rfl dX11_needWanted_108 (by obtain rfl : i = iM I := (by omega); first | exact p2_1 (fun h => h (hpx c_96)) | exact p2_0 (hpn c_96))
      · refine x_iconst (v := nI 0) dX11_needWanted_99 (by decide) ?_
        refine x_goto 108 dX11_needWanted_100 (by decide) ?_
        refine x_iret rfl dX11_needWanted_108 (by obtain rfl : i = iM I := (by omega); first | exact p2_1 (fun h => h (hpx c_96)) | exact p2_0 (hpn c_96))
    · refine x_iload_n 1 dX11_needWanted_46 rfl rfl ?_
      refine x_if_eq 87 dX11_needWanted_47 (by decide) (fun c_47 => ?_) (fun c_47 => ?_)
      · refine x_iconst (v := nI 0) dX11_needWanted_87 (by decide) ?_
        refine x_istore_n (lv' := [(2, _), (3, _), (0, _), (1, _)]) dX11_needWanted_88 rfl (by decide) rfl ?_
        refine y_iinc (lv' := [(3, _), (2, _), (0, _), (1, _)]) 1 dX11_needWanted_89 rfl (by decide) rfl ?_
        refine x_goto 38 dX11_needWanted_92 (by decide) ?_
        refine x_pick (lv' := [(3, _), (2, _), (0, _), (1, _)]) [0, 1, 2, 3] rfl ?_
        exact ih (iM I - (i + 1)) (by omega) (i + 1) (nI 0) rfl (by omega) (Or.inr ⟨rfl, fun h => by first | exact hpn c_47 (fun t ht => h t (by omega)) | (rcases h i (by omega) with k | k | k; exact c_80 k; exact c_70 k; exact c_57 k)⟩)
      · refine x_aload_n 2 dX11_needWanted_50 rfl rfl ?_
        refine x_aload_n 2 dX11_needWanted_51 rfl rfl ?_
        refine x_iload_n 3 dX11_needWanted_52 rfl rfl ?_
        refine x_iload_n 0 dX11_needWanted_53 rfl rfl ?_
        refine x_callVu (as := [_, _]) (rest := [_]) vX11_116 (c_rowAtM ha (by omega) rfl) dX11_needWanted_54 l83 rfl rfl rfl (Nat.le_of_ble_eq_true rfl) (Nat.le_of_ble_eq_true rfl) (Nat.le_of_ble_eq_true rfl) ?_
        refine x_callVb (as := [_]) (rest := []) vX11_196 (c_X11_isOne (w := fun _ => 0) hI hO) dX11_needWanted_57 l83 rfl rfl rfl (Nat.le_of_ble_eq_true rfl) (Nat.le_of_ble_eq_true rfl) (Nat.le_of_ble_eq_true rfl) (fun c_57 => ?_) (fun c_57 => ?_)
        · refine t_if_ne 83 dX11_needWanted_60 (by decide) (by decide) ?_
          refine x_iconst (v := nI 1) dX11_needWanted_83 (by decide) ?_
          refine x_goto 88 dX11_needWanted_84 (by decide) ?_
          refine x_istore_n (lv' := [(2, _), (3, _), (0, _), (1, _)]) dX11_needWanted_88 rfl (by decide) rfl ?_
          refine y_iinc (lv' := [(3, _), (2, _), (0, _), (1, _)]) 1 dX11_needWanted_89 rfl (by decide) rfl ?_
          refine x_goto 38 dX11_needWanted_92 (by decide) ?_
          refine x_pick (lv' := [(3, _), (2, _), (0, _), (1, _)]) [0, 1, 2, 3] rfl ?_
          exact ih (iM I - (i + 1)) (by omega) (i + 1) (nI 1) rfl (by omega) (Or.inl ⟨rfl, fun t ht => by rcases Nat.lt_succ_iff_lt_or_eq.mp ht with h | h; exact hpx c_47 t h; subst h; first | exact Or.inr (Or.inr c_57) | exact Or.inr (Or.inl c_70) | exact Or.inl c_80⟩)
        · refine u_if_ne 83 dX11_needWanted_60 (by decide) (by decide) ?_
          refine x_aload_n 2 dX11_needWanted_63 rfl rfl ?_
          refine x_iload_n 3 dX11_needWanted_64 rfl rfl ?_
          refine x_iload_n 0 dX11_needWanted_65 rfl rfl ?_
          refine x_callVu (as := [_, _]) (rest := []) vX11_116 (c_rowAtM ha (by omega) rfl) dX11_needWanted_66 l83 rfl rfl rfl (Nat.le_of_ble_eq_true rfl) (Nat.le_of_ble_eq_true rfl) (Nat.le_of_ble_eq_true rfl) ?_
          refine x_iconst (v := nI 4) dX11_needWanted_69 (by decide) ?_
          refine x_ic_eq 83 dX11_needWanted_70 (by decide) (fun c_70 => ?_) (fun c_70 => ?_)
          · refine x_iconst (v := nI 1) dX11_needWanted_83 (by decide) ?_
            refine x_goto 88 dX11_needWanted_84 (by decide) ?_
            refine x_istore_n (lv' := [(2, _), (3, _), (0, _), (1, _)]) dX11_needWanted_88 rfl (by decide) rfl ?_
            refine y_iinc (lv' := [(3, _), (2, _), (0, _), (1, _)]) 1 dX11_needWanted_89 rfl (by decide) rfl ?_
            refine x_goto 38 dX11_needWanted_92 (by decide) ?_
            refine x_pick (lv' := [(3, _), (2, _), (0, _), (1, _)]) [0, 1, 2, 3] rfl ?_
            exact ih (iM I - (i + 1)) (by omega) (i + 1) (nI 1) rfl (by omega) (Or.inl ⟨rfl, fun t ht => by rcases Nat.lt_succ_iff_lt_or_eq.mp ht with h | h; exact hpx c_47 t h; subst h; first | exact Or.inr (Or.inr c_57) | exact Or.inr (Or.inl c_70) | exact Or.inl c_80⟩)
          · refine x_aload_n 2 dX11_needWanted_73 rfl rfl ?_
            refine x_iload_n 3 dX11_needWanted_74 rfl rfl ?_
            refine x_iload_n 0 dX11_needWanted_75 rfl rfl ?_
            refine x_callVu (as := [_, _]) (rest := []) vX11_116 (c_rowAtM ha (by omega) rfl) dX11_needWanted_76 l83 rfl rfl rfl (Nat.le_of_ble_eq_true rfl) (Nat.le_of_ble_eq_true rfl) (Nat.le_of_ble_eq_true rfl) ?_
            refine x_iconst (v := -1) dX11_needWanted_79 (by decide) ?_
            refine x_ic_ne 87 dX11_needWanted_80 (by decide) (fun c_80 => ?_) (fun c_80 => ?_)
            · refine x_iconst (v := nI 0) dX11_needWanted_87 (by decide) ?_
              refine x_istore_n (lv' := [(2, _), (3, _), (0, _), (1, _)]) dX11_needWanted_88 rfl (by decide) rfl ?_
              refine y_iinc (lv' := [(3, _), (2, _), (0, _), (1, _)]) 1 dX11_needWanted_89 rfl (by decide) rfl ?_
              refine x_goto 38 dX11_needWanted_92 (by decide) ?_
              refine x_pick (lv' := [(3, _), (2, _), (0, _), (1, _)]) [0, 1, 2, 3] rfl ?_
              exact ih (iM I - (i + 1)) (by omega) (i + 1) (nI 0) rfl (by omega) (Or.inr ⟨rfl, fun h => by first | exact hpn c_47 (fun t ht => h t (by omega)) | (rcases h i (by omega) with k | k | k; exact c_80 k; exact c_70 k; exact c_57 k)⟩)
            · refine x_iconst (v := nI 1) dX11_needWanted_83 (by decide) ?_
              refine x_goto 88 dX11_needWanted_84 (by decide) ?_
              refine x_istore_n (lv' := [(2, _), (3, _), (0, _), (1, _)]) dX11_needWanted_88 rfl (by decide) rfl ?_
              refine y_iinc (lv' := [(3, _), (2, _), (0, _), (1, _)]) 1 dX11_needWanted_89 rfl (by decide) rfl ?_
              refine x_goto 38 dX11_needWanted_92 (by decide) ?_
              refine x_pick (lv' := [(3, _), (2, _), (0, _), (1, _)]) [0, 1, 2, 3] rfl ?_
              exact ih (iM I - (i + 1)) (by omega) (i + 1) (nI 1) rfl (by omega) (Or.inl ⟨rfl, fun t ht => by rcases Nat.lt_succ_iff_lt_or_eq.mp ht with h | h; exact hpx c_47 t h; subst h; first | exact Or.inr (Or.inr c_57) | exact Or.inr (Or.inl c_70) | exact Or.inl c_80⟩)

set_option maxHeartbeats 4000000 in
set_option maxRecDepth 100000 in
theorem c_X11_needWanted {S : St} {I : Isl} (hI : IsM I S) (hO : IOK I) (hS : RwM S) {a : Nat} (ha : a < 6)  : C 2 60 yX11_needWanted mX11_needWanted [.ref 83, .int (nI a)] S (pu (.int (i4 ((S.1 85 a).toInt < 0) (¬ (S.1 85 a).toInt = (iM I : Int)) (¬ (∀ t, t < iM I → (S.1 86 (60 * a + t) = -1 ∨ S.1 86 (60 * a + t) = nI 4 ∨ (0 ≤ (S.1 86 (60 * a + t)).toInt ∧ (S.1 86 (60 * a + t)).toInt < (iP I : Int))))) (-3) (-3) (-3) (nI 0))) (i4 ((S.1 85 a).toInt < 0) (¬ (S.1 85 a).toInt = (iM I : Int)) (¬ (∀ t, t < iM I → (S.1 86 (60 * a + t) = -1 ∨ S.1 86 (60 * a + t) = nI 4 ∨ (0 ≤ (S.1 86 (60 * a + t)).toInt ∧ (S.1 86 (60 * a + t)).toInt < (iP I : Int))))) (fndM S 1) (fndM S 5) (fndM S 3) S)) := by
  have hO1 := hO.1
  have hO2 := hO.2.1
  have hO3 := hO.2.2.1
  have hO4 := hO.2.2.2.1
  refine C.ofX (by decide) rfl (Nat.le_of_ble_eq_true rfl) ?_
  show X 2 60 mX11_needWanted (pu (.int (i4 ((S.1 85 a).toInt < 0) (¬ (S.1 85 a).toInt = (iM I : Int)) (¬ (∀ t, t < iM I → (S.1 86 (60 * a + t) = -1 ∨ S.1 86 (60 * a + t) = nI 4 ∨ (0 ≤ (S.1 86 (60 * a + t)).toInt ∧ (S.1 86 (60 * a + t)).toInt < (iP I : Int))))) (-3) (-3) (-3) (nI 0))) (i4 ((S.1 85 a).toInt < 0) (¬ (S.1 85 a).toInt = (iM I : Int)) (¬ (∀ t, t < iM I → (S.1 86 (60 * a + t) = -1 ∨ S.1 86 (60 * a + t) = nI 4 ∨ (0 ≤ (S.1 86 (60 * a + t)).toInt ∧ (S.1 86 (60 * a + t)).toInt < (iP I : Int))))) (fndM S 1) (fndM S 5) (fndM S 3) S)) 0 [(0, .ref 83), (1, .int (nI a))] [] S
  refine x_aload_n 0 dX11_needWanted_0 rfl rfl ?_
  refine x_getR fX11_13 dX11_needWanted_1 l83 rfl ?_
  refine x_iload_n 1 dX11_needWanted_4 rfl rfl ?_
  refine y_iald dX11_needWanted_5 l85 (by omega) (by decide) rfl ?_
  refine x_if_ge 15 dX11_needWanted_6 (by decide) (fun c_6 => ?_) (fun c_6 => ?_)
  · obtain ⟨z, hz, ez⟩ := hS.r ha (by omega)
    have ezi : (nI z).toInt = (z : Int) := tiN (by omega)
    refine x_aload_n 0 dX11_needWanted_15 rfl rfl ?_
    refine x_getR fX11_13 dX11_needWanted_16 l83 rfl ?_
    refine x_iload_n 1 dX11_needWanted_19 rfl rfl ?_
    refine y_iald dX11_needWanted_20 l85 (by omega) (by decide) ez ?_
    refine x_aload_n 0 dX11_needWanted_21 rfl rfl ?_
    refine y_getI fX11_181 dX11_needWanted_22 l83 rfl hI.2.1 ?_
    refine y_ic_eq 34 dX11_needWanted_25 (by decide) (by omega) (by omega) (fun c_25 => ?_) (fun c_25 => ?_)
    · refine x_iconst (v := nI 1) dX11_needWanted_34 (by decide) ?_
      refine x_istore_n (lv' := [(2, _), (0, _), (1, _)]) dX11_needWanted_35 rfl (by decide) rfl ?_
      refine x_iconst (v := nI 0) dX11_needWanted_36 (by decide) ?_
      refine x_istore_n (lv' := [(3, _), (2, _), (0, _), (1, _)]) dX11_needWanted_37 rfl (by decide) rfl ?_
      refine x_pick (lv' := [(3, _), (2, _), (0, _), (1, _)]) [0, 1, 2, 3] rfl ?_
      refine (lp_needW hI hO ha 0 (nI 1) (Nat.zero_le _) (Or.inl ⟨rfl, fun t ht => absurd ht (Nat.not_lt_zero t)⟩)).mono (fun v S' hq => ?_)
      obtain ⟨rfl, rfl⟩ := hq
      by_cases hg : (∀ t, t < iM I → (S.1 86 (60 * a + t) = -1 ∨ S.1 86 (60 * a + t) = nI 4 ∨ (0 ≤ (S.1 86 (60 * a + t)).toInt ∧ (S.1 86 (60 * a + t)).toInt < (iP I : Int))))
      · rw [e2_1 (fun q => q hg), e2_1 (fun q => q hg)]
        exact p4_3 (by omega) (by rw [ez]; omega) (fun q => q hg)
      · rw [e2_0 hg, e2_0 hg]
        exact p4_2 (by omega) (by rw [ez]; omega) hg
    · refine x_aload_n 0 dX11_needWanted_28 rfl rfl ?_
      refine x_iconst (v := nI 5) dX11_needWanted_29 (by decide) ?_
      refine x_callVu (as := [_]) (rest := []) vX11_112 (c_X11_meets (by decide)) dX11_needWanted_30 l83 rfl rfl rfl (Nat.le_of_ble_eq_true rfl) (Nat.le_of_ble_eq_true rfl) (Nat.le_of_ble_eq_true rfl) ?_
      refine x_iret rfl dX11_needWanted_33 (p4_1 (by omega) (by rw [ez]; omega))
  · refine x_aload_n 0 dX11_needWanted_9 rfl rfl ?_
    refine x_iconst (v := nI 1) dX11_needWanted_10 (by decide) ?_
    refine x_callVu (as := [_]) (rest := []) vX11_112 (c_X11_meets (by decide)) dX11_needWanted_11 l83 rfl rfl rfl (Nat.le_of_ble_eq_true rfl) (Nat.le_of_ble_eq_true rfl) (Nat.le_of_ble_eq_true rfl) ?_
    refine x_iret rfl dX11_needWanted_14 (p4_0 (by omega))

theorem need_no {p0 p q r : Prop} {S S0 S1 S2 S3 : St} {e : Int32 → St → Prop} (hp0 : ¬ p0) (h : (i4 p q r (-3 : Int32) (-3) (-3) (nI 0)).toInt < 0) : qi (i5 p0 p q r (an (-1) S0) (an (-3) S1) (an (-3) S2) (an (-3) S3) e) (some (.int (i4 p q r (-3) (-3) (-3) (nI 0)))) (i4 p q r S1 S2 S3 S) := by
  by_cases hp : p
  · rw [e4_0 hp, e4_0 hp]; exact q5_1 hp0 hp ⟨rfl, rfl⟩
  · by_cases hq : q
    · rw [e4_1 hp hq, e4_1 hp hq]; exact q5_2 hp0 hp hq ⟨rfl, rfl⟩
    · by_cases hr : r
      · rw [e4_2 hp hq hr, e4_2 hp hq hr]; exact q5_3 hp0 hp hq hr ⟨rfl, rfl⟩
      · rw [e4_3 hp hq hr] at h
        exact absurd h (by decide)
theorem need_ok {p q r : Prop} (h : 0 ≤ (i4 p q r (-3 : Int32) (-3) (-3) (nI 0)).toInt) : ¬ p ∧ ¬ q ∧ ¬ r := by
  by_cases hp : p
  · rw [e4_0 hp] at h; exact absurd h (by decide)
  · by_cases hq : q
    · rw [e4_1 hp hq] at h; exact absurd h (by decide)
    · by_cases hr : r
      · rw [e4_2 hp hq hr] at h; exact absurd h (by decide)
      · exact ⟨hp, hq, hr⟩
/-- but for what a search of the reference writes, and how many are as near -/
def FrN (S S' : St) : Prop := S'.2 = S.2 ∧ ∀ a b, ¬ (a = 97 ∨ a = 102 ∨ a = 103) → ¬ (a = 83 ∧ (b = 36 ∨ b = 37)) → S'.1 a b = S.1 a b
theorem FrN.of {S S1 : St} (h : FrL S S1) : FrN S S1 := ⟨h.1, fun a b h1 h2 => h.2 a b h1 (fun q => h2 ⟨q.1, Or.inl q.2⟩)⟩
theorem FrN.trans {S S1 S2 : St} (h : FrN S S1) (h' : FrN S1 S2) : FrN S S2 := ⟨h'.1.trans h.1, fun a b h1 h2 => (h'.2 a b h1 h2).trans (h.2 a b h1 h2)⟩
theorem FrN.set {S S1 : St} {v : Int32} (h : FrN S S1) : FrN S (setI S1 83 37 v) := ⟨h.1, fun a b h1 h2 => by
  refine Eq.trans ?_ (h.2 a b h1 h2)
  by_cases q : a = 83
  · exact rdI_j (by omega)
  · exact rdI_k q⟩
theorem IsM.fn {I : Isl} {S S' : St} (h : IsM I S) (hf : FrN S S') : IsM I S' := h.keep (fun j hj => hf.2 83 j (by decide) (by intro q; rcases q.2 with e | e <;> rw [e] at hj <;> revert hj <;> decide)) (fun a ha b => hf.2 a b (by intro e; rcases e with rfl | rfl | rfl <;> revert ha <;> decide) (by intro e; rw [e.1] at ha; revert ha; decide))

set_option maxHeartbeats 4000000 in
set_option maxRecDepth 100000 in
theorem lp_nearM {S : St} {I : Isl} (hI : IsM I S) (hO : IOK I) {w : Nat → Nat} (hw0 : ∀ t, t < iM I → S.1 93 t = nI (w t)) {L : Nat} (hL : S.1 83 17 = nI L) (hL7 : L ≤ 6) (hv : VS I w L) {a : Nat} (ha : a < 6) (hok : ∀ t, t < iM I → (S.1 86 (60 * a + t) = -1 ∨ S.1 86 (60 * a + t) = nI 4 ∨ (0 ≤ (S.1 86 (60 * a + t)).toInt ∧ (S.1 86 (60 * a + t)).toInt < (iP I : Int))))  : ∀ (i : Nat) (S1 : St) (x : Int32) (near : Nat), (i ≤ rC (fR I L (codeF I w))) → (FrN S S1) → (QuX I (fR I L (codeF I w)) S1) → (S1.1 83 37 = nI near) → ((x = -9 ∧ near = 0 ∧ ∀ j, j < i → ¬ wantP I (fun t => S.1 86 (60 * a + t)) (rK (fR I L (codeF I w)) j)) ∨ (∃ f, f < i ∧ wantP I (fun t => S.1 86 (60 * a + t)) (rK (fR I L (codeF I w)) f) ∧ (∀ j, j < f → ¬ wantP I (fun t => S.1 86 (60 * a + t)) (rK (fR I L (codeF I w)) j)) ∧ x = nI (rD (fR I L (codeF I w)) f) ∧ near = sm (nearT I L (codeF I w) f (fun t => S.1 86 (60 * a + t))) i)) → X 5 150 mX11_nearest (qi (fun r S' => FrN S S' ∧ QuX I (fR I L (codeF I w)) S' ∧ ((r = -9 ∧ ∀ j, j < rC (fR I L (codeF I w)) → ¬ wantP I (fun t => S.1 86 (60 * a + t)) (rK (fR I L (codeF I w)) j)) ∨ (∃ f, f < rC (fR I L (codeF I w)) ∧ wantP I (fun t => S.1 86 (60 * a + t)) (rK (fR I L (codeF I w)) f) ∧ (∀ j, j < f → ¬ wantP I (fun t => S.1 86 (60 * a + t)) (rK (fR I L (codeF I w)) j)) ∧ r = nI (rD (fR I L (codeF I w)) f) ∧ S'.1 83 37 = nI (sm (nearT I L (codeF I w) f (fun t => S.1 86 (60 * a + t))) (rC (fR I L (codeF I w)))))))) 14 [(3, .int (nI i)), (2, .int x), (0, .ref 83), (1, .int (nI a))] [] S1 := by
  intro i S1 x near
  induction hm : rC (fR I L (codeF I w)) - i using Nat.strongRecOn generalizing i S1 x near with
  | _ mm ih =>
    intro hi hf hq hnr hx
    have hO1 := hO.1
    have hO2 := hO.2.1
    have hO3 := hO.2.2.1
    have hO4 := hO.2.2.2.1
    have hw := hv.ok hO
    have hw7 := hw.w7 hO
    have h7 := p7le hO
    have h0 := hv.okc hO
    have hle := hq.2.1
    have hI1 := hI.fn hf
    have hqi := hq.2.2.1 i
    have hf2 : FrN S (loS S1 (rK (fR I L (codeF I w)) i) (iM I)) := hf.trans (FrN.of (FrL.of (loS_f _ _ _)))
    have hq2 : QuX I (fR I L (codeF I w)) (loS S1 (rK (fR I L (codeF I w)) i) (iM I)) := hq.f97 (loS_f _ _ _)
    have hwq := fun h => ((fR_inv hO h0).2.2.1 i h).2.ok hO
    have hrow : ∀ t, (loS S1 (rK (fR I L (codeF I w)) i) (iM I)).1 86 (60 * a + t) = S.1 86 (60 * a + t) := fun t => hf2.2 86 _ (by decide) (by omega)
    have hwe : (fun t => (loS S1 (rK (fR I L (codeF I w)) i) (iM I)).1 86 (60 * a + t)) = (fun t => S.1 86 (60 * a + t)) := funext hrow
    refine x_iload_n 0 dX11_nearest_14 rfl rfl ?_
    refine x_aload_n 2 dX11_nearest_15 rfl rfl ?_
    refine y_getI fX11_269 dX11_nearest_16 l83 rfl hq.1 ?_
    refine y_ic_ge 84 dX11_nearest_19 (by decide) (by omega) (by omega) (fun c_19 => ?_) (fun c_19 => ?_)
    · refine x_iload_n 1 dX11_nearest_84 rfl rfl ?_
      refine x_iret rfl dX11_nearest_85 (by
        obtain rfl : i = rC (fR I L (codeF I w)) := (by omega)
        refine ⟨_, rfl, hf, hq, ?_⟩
        rcases hx with ⟨h1, h2, h3⟩ | ⟨f, h1, h2, h3, h4, h5⟩
        · exact Or.inl ⟨h1, h3⟩
        · exact Or.inr ⟨f, h1, h2, h3, h4, by rw [hnr, h5]⟩)
    · refine x_aload_n 2 dX11_nearest_22 rfl rfl ?_
      refine x_getR fX11_65 dX11_nearest_23 l83 rfl ?_
      refine x_aload_n 2 dX11_nearest_26 rfl rfl ?_
      refine x_getR fX11_68 dX11_nearest_27 l83 rfl ?_
      refine x_iload_n 0 dX11_nearest_30 rfl rfl ?_
      refine y_iald dX11_nearest_31 l103 (by omega) (by decide) (hqi (by omega)).1 ?_
      refine y_iald dX11_nearest_32 l102 (Nat.lt_of_lt_of_le (hqi (by omega)).2.1 h7) (by decide) (hqi (by omega)).2.2.1 ?_
      have hdl := (hqi (by omega)).2.2.2
      refine x_istore (lv' := [(4, _), (3, _), (2, _), (0, _), (1, _)]) dX11_nearest_33 (by decide) rfl ?_
      refine x_aload_n 3 dX11_nearest_35 rfl rfl ?_
      refine x_aload_n 3 dX11_nearest_36 rfl rfl ?_
      refine x_getR fX11_68 dX11_nearest_37 l83 rfl ?_
      refine x_iload_n 1 dX11_nearest_40 rfl rfl ?_
      refine y_iald dX11_nearest_41 l103 (by omega) (by decide) (hqi (by omega)).1 ?_
      refine x_callVv (as := [_]) (rest := []) vX11_255 (c_X11_look hI1 hO (Nat.lt_of_lt_of_le (hqi (by omega)).2.1 h7)) dX11_nearest_42 l83 rfl rfl rfl (Nat.le_of_ble_eq_true rfl) (Nat.le_of_ble_eq_true rfl) (Nat.le_of_ble_eq_true rfl) ?_
      refine x_iload_n 2 dX11_nearest_45 rfl rfl ?_
      refine x_bipush (v := -9) dX11_nearest_46 (by decide) ?_
      refine x_ic_eq 57 dX11_nearest_48 (by decide) (fun c_48 => ?_) (fun c_48 => ?_)
      · refine x_aload_n 3 dX11_nearest_57 rfl rfl ?_
        refine x_iload_n 4 dX11_nearest_58 rfl rfl ?_
        refine x_callVb (as := [_]) (rest := []) vX11_278 (show C _ _ _ _ _ _ (pb (wantP I (fun t => S.1 86 (60 * a + t)) (rK (fR I L (codeF I w)) i)) _) by
            have h := c_X11_isWanted (hI1.lo (rK (fR I L (codeF I w)) i) (iM I)) hO (w := digF (rK (fR I L (codeF I w)) i)) (fun t ht => if_pos ⟨rfl, ht⟩) (hwq (by omega)) ha (fun t ht => by rw [hrow t]; exact hok t ht)
            rw [hwe] at h
            exact h) dX11_nearest_59 l83 rfl rfl rfl (Nat.le_of_ble_eq_true rfl) (Nat.le_of_ble_eq_true rfl) (Nat.le_of_ble_eq_true rfl) (fun c_59 => ?_) (fun c_59 => ?_)
        · refine u_if_eq 78 dX11_nearest_62 (by decide) (by decide) ?_
          refine x_iload 0 dX11_nearest_65 rfl ?_
          refine x_istore_n (lv' := [(2, _), (4, _), (3, _), (0, _), (1, _)]) dX11_nearest_67 rfl (by decide) rfl ?_
          refine x_aload_n 3 dX11_nearest_68 rfl rfl ?_
          refine x_dup dX11_nearest_69 rfl ?_
          refine y_getI fX11_275 dX11_nearest_70 l83 rfl ((loS_k (by decide)).trans hnr) ?_
          refine x_iconst (v := nI 1) dX11_nearest_73 (by decide) ?_
          refine y_iadd dX11_nearest_74 ?_
          refine x_putI pX11_275 dX11_nearest_75 l83 rfl ?_
          refine y_iinc (lv' := [(3, _), (2, _), (4, _), (0, _), (1, _)]) 2 dX11_nearest_78 rfl (by decide) rfl ?_
          refine x_goto 14 dX11_nearest_81 (by decide) ?_
          refine x_pick (lv' := [(3, _), (2, _), (0, _), (1, _)]) [0, 1, 3, 4] rfl ?_
          refine ih (rC (fR I L (codeF I w)) - (i + 1)) (by omega) (i + 1) _ _ (near + 1) rfl (by omega) (hf2.set) (hq2.keep (fun b => ⟨rdI_k (by decide), rdI_k (by decide)⟩) (rdI_j (by decide))) rdI_eq (Or.inr ?_)
          rcases hx with ⟨h1, h2, h3⟩ | ⟨f, h1, h2, h3, h4, h5⟩
          · refine ⟨i, Nat.lt_succ_self i, c_59, h3, rfl, ?_⟩
            rw [sm_s, nearT_1 rfl c_59, sm_zero (fun j hj => nearT_0 (fun q => h3 j hj q.2)), h2]
          · have e : rD (fR I L (codeF I w)) i = rD (fR I L (codeF I w)) f := by
              first
              | (rw [h4] at c_48; exact absurd c_48 (nI_ne9 (by have := (hq.2.2.1 f (by omega)).2.2.2; omega)))
              | (rw [h4] at c_54; exact nI_inj (by omega) (by have := (hq.2.2.1 f (by omega)).2.2.2; omega) c_54)
            exact ⟨f, by omega, h2, h3, by rw [e], by rw [sm_s, nearT_1 e c_59, h5]⟩
        · refine t_if_eq 78 dX11_nearest_62 (by decide) (by decide) ?_
          refine y_iinc (lv' := [(3, _), (4, _), (2, _), (0, _), (1, _)]) 1 dX11_nearest_78 rfl (by decide) rfl ?_
          refine x_goto 14 dX11_nearest_81 (by decide) ?_
          refine x_pick (lv' := [(3, _), (2, _), (0, _), (1, _)]) [0, 2, 3, 4] rfl ?_
          refine ih (rC (fR I L (codeF I w)) - (i + 1)) (by omega) (i + 1) _ x near rfl (by omega) hf2 hq2 ((loS_k (by decide)).trans hnr) ?_
          rcases hx with ⟨h1, h2, h3⟩ | ⟨f, h1, h2, h3, h4, h5⟩
          · refine Or.inl ⟨h1, h2, fun j hj => ?_⟩
            rcases Nat.lt_succ_iff_lt_or_eq.mp hj with h | h
            · exact h3 j h
            · subst h
              first | exact c_59 | exact absurd h1 c_48
          · refine Or.inr ⟨f, by omega, h2, h3, h4, ?_⟩
            rw [sm_s, nearT_0 (fun q => by first | exact c_59 q.2 | (rw [h4] at c_54; exact c_54 (by rw [q.1]))), h5, Nat.add_zero]
      · refine x_iload 0 dX11_nearest_51 rfl ?_
        refine x_iload_n 2 dX11_nearest_53 rfl rfl ?_
        refine x_ic_ne 78 dX11_nearest_54 (by decide) (fun c_54 => ?_) (fun c_54 => ?_)
        · refine y_iinc (lv' := [(3, _), (4, _), (2, _), (0, _), (1, _)]) 1 dX11_nearest_78 rfl (by decide) rfl ?_
          refine x_goto 14 dX11_nearest_81 (by decide) ?_
          refine x_pick (lv' := [(3, _), (2, _), (0, _), (1, _)]) [0, 2, 3, 4] rfl ?_
          refine ih (rC (fR I L (codeF I w)) - (i + 1)) (by omega) (i + 1) _ x near rfl (by omega) hf2 hq2 ((loS_k (by decide)).trans hnr) ?_
          rcases hx with ⟨h1, h2, h3⟩ | ⟨f, h1, h2, h3, h4, h5⟩
          · refine Or.inl ⟨h1, h2, fun j hj => ?_⟩
            rcases Nat.lt_succ_iff_lt_or_eq.mp hj with h | h
            · exact h3 j h
            · subst h
              first | exact c_59 | exact absurd h1 c_48
          · refine Or.inr ⟨f, by omega, h2, h3, h4, ?_⟩
            rw [sm_s, nearT_0 (fun q => by first | exact c_59 q.2 | (rw [h4] at c_54; exact c_54 (by rw [q.1]))), h5, Nat.add_zero]
        · refine x_aload_n 3 dX11_nearest_57 rfl rfl ?_
          refine x_iload_n 4 dX11_nearest_58 rfl rfl ?_
          refine x_callVb (as := [_]) (rest := []) vX11_278 (show C _ _ _ _ _ _ (pb (wantP I (fun t => S.1 86 (60 * a + t)) (rK (fR I L (codeF I w)) i)) _) by
              have h := c_X11_isWanted (hI1.lo (rK (fR I L (codeF I w)) i) (iM I)) hO (w := digF (rK (fR I L (codeF I w)) i)) (fun t ht => if_pos ⟨rfl, ht⟩) (hwq (by omega)) ha (fun t ht => by rw [hrow t]; exact hok t ht)
              rw [hwe] at h
              exact h) dX11_nearest_59 l83 rfl rfl rfl (Nat.le_of_ble_eq_true rfl) (Nat.le_of_ble_eq_true rfl) (Nat.le_of_ble_eq_true rfl) (fun c_59 => ?_) (fun c_59 => ?_)
          · refine u_if_eq 78 dX11_nearest_62 (by decide) (by decide) ?_
            refine x_iload 0 dX11_nearest_65 rfl ?_
            refine x_istore_n (lv' := [(2, _), (4, _), (3, _), (0, _), (1, _)]) dX11_nearest_67 rfl (by decide) rfl ?_
            refine x_aload_n 3 dX11_nearest_68 rfl rfl ?_
            refine x_dup dX11_nearest_69 rfl ?_
            refine y_getI fX11_275 dX11_nearest_70 l83 rfl ((loS_k (by decide)).trans hnr) ?_
            refine x_iconst (v := nI 1) dX11_nearest_73 (by decide) ?_
            refine y_iadd dX11_nearest_74 ?_
            refine x_putI pX11_275 dX11_nearest_75 l83 rfl ?_
            refine y_iinc (lv' := [(3, _), (2, _), (4, _), (0, _), (1, _)]) 2 dX11_nearest_78 rfl (by decide) rfl ?_
            refine x_goto 14 dX11_nearest_81 (by decide) ?_
            refine x_pick (lv' := [(3, _), (2, _), (0, _), (1, _)]) [0, 1, 3, 4] rfl ?_
            refine ih (rC (fR I L (codeF I w)) - (i + 1)) (by omega) (i + 1) _ _ (near + 1) rfl (by omega) (hf2.set) (hq2.keep (fun b => ⟨rdI_k (by decide), rdI_k (by decide)⟩) (rdI_j (by decide))) rdI_eq (Or.inr ?_)
            rcases hx with ⟨h1, h2, h3⟩ | ⟨f, h1, h2, h3, h4, h5⟩
            · refine ⟨i, Nat.lt_succ_self i, c_59, h3, rfl, ?_⟩
              rw [sm_s, nearT_1 rfl c_59, sm_zero (fun j hj => nearT_0 (fun q => h3 j hj q.2)), h2]
            · have e : rD (fR I L (codeF I w)) i = rD (fR I L (codeF I w)) f := by
                first
                | (rw [h4] at c_48; exact absurd c_48 (nI_ne9 (by have := (hq.2.2.1 f (by omega)).2.2.2; omega)))
                | (rw [h4] at c_54; exact nI_inj (by omega) (by have := (hq.2.2.1 f (by omega)).2.2.2; omega) c_54)
              exact ⟨f, by omega, h2, h3, by rw [e], by rw [sm_s, nearT_1 e c_59, h5]⟩
          · refine t_if_eq 78 dX11_nearest_62 (by decide) (by decide) ?_
            refine y_iinc (lv' := [(3, _), (4, _), (2, _), (0, _), (1, _)]) 1 dX11_nearest_78 rfl (by decide) rfl ?_
            refine x_goto 14 dX11_nearest_81 (by decide) ?_
            refine x_pick (lv' := [(3, _), (2, _), (0, _), (1, _)]) [0, 2, 3, 4] rfl ?_
            refine ih (rC (fR I L (codeF I w)) - (i + 1)) (by omega) (i + 1) _ x near rfl (by omega) hf2 hq2 ((loS_k (by decide)).trans hnr) ?_
            rcases hx with ⟨h1, h2, h3⟩ | ⟨f, h1, h2, h3, h4, h5⟩
            · refine Or.inl ⟨h1, h2, fun j hj => ?_⟩
              rcases Nat.lt_succ_iff_lt_or_eq.mp hj with h | h
              · exact h3 j h
              · subst h
                first | exact c_59 | exact absurd h1 c_48
            · refine Or.inr ⟨f, by omega, h2, h3, h4, ?_⟩
              rw [sm_s, nearT_0 (fun q => by first | exact c_59 q.2 | (rw [h4] at c_54; exact c_54 (by rw [q.1]))), h5, Nat.add_zero]

set_option maxHeartbeats 4000000 in
set_option maxRecDepth 100000 in
theorem c_X11_nearest {S : St} {I : Isl} (hI : IsM I S) (hO : IOK I) {w : Nat → Nat} (hw0 : ∀ t, t < iM I → S.1 93 t = nI (w t)) {L : Nat} (hL : S.1 83 17 = nI L) (hL7 : L ≤ 6) (hv : VS I w L) {a : Nat} (ha : a < 6) (hok : ∀ t, t < iM I → (S.1 86 (60 * a + t) = -1 ∨ S.1 86 (60 * a + t) = nI 4 ∨ (0 ≤ (S.1 86 (60 * a + t)).toInt ∧ (S.1 86 (60 * a + t)).toInt < (iP I : Int))))  : C 5 150 yX11_nearest mX11_nearest [.ref 83, .int (nI a)] S (qi (fun r S' => FrN S S' ∧ QuX I (fR I L (codeF I w)) S' ∧ ((r = -9 ∧ ∀ j, j < rC (fR I L (codeF I w)) → ¬ wantP I (fun t => S.1 86 (60 * a + t)) (rK (fR I L (codeF I w)) j)) ∨ (∃ f, f < rC (fR I L (codeF I w)) ∧ wantP I (fun t => S.1 86 (60 * a + t)) (rK (fR I L (codeF I w)) f) ∧ (∀ j, j < f → ¬ wantP I (fun t => S.1 86 (60 * a + t)) (rK (fR I L (codeF I w)) j)) ∧ r = nI (rD (fR I L (codeF I w)) f) ∧ S'.1 83 37 = nI (sm (nearT I L (codeF I w) f (fun t => S.1 86 (60 * a + t))) (rC (fR I L (codeF I w)))))))) := by
  refine C.ofX (by decide) rfl (Nat.le_of_ble_eq_true rfl) ?_
  show X 5 150 mX11_nearest (qi (fun r S' => FrN S S' ∧ QuX I (fR I L (codeF I w)) S' ∧ ((r = -9 ∧ ∀ j, j < rC (fR I L (codeF I w)) → ¬ wantP I (fun t => S.1 86 (60 * a + t)) (rK (fR I L (codeF I w)) j)) ∨ (∃ f, f < rC (fR I L (codeF I w)) ∧ wantP I (fun t => S.1 86 (60 * a + t)) (rK (fR I L (codeF I w)) f) ∧ (∀ j, j < f → ¬ wantP I (fun t => S.1 86 (60 * a + t)) (rK (fR I L (codeF I w)) j)) ∧ r = nI (rD (fR I L (codeF I w)) f) ∧ S'.1 83 37 = nI (sm (nearT I L (codeF I w) f (fun t => S.1 86 (60 * a + t))) (rC (fR I L (codeF I w)))))))) 0 [(0, .ref 83), (1, .int (nI a))] [] S
  refine x_aload_n 0 dX11_nearest_0 rfl rfl ?_
  refine x_callVqv (as := []) (rest := []) vX11_272 (c_X11_layFar hI hO hw0 hL hL7 hv) dX11_nearest_1 l83 rfl rfl rfl (Nat.le_of_ble_eq_true rfl) (Nat.le_of_ble_eq_true rfl) (Nat.le_of_ble_eq_true rfl) (fun S_1 q_1 => ?_)
  obtain ⟨f1, f2⟩ := q_1
  have hI1 := hI.fl f1
  refine x_bipush (v := -9) dX11_nearest_4 (by decide) ?_
  refine x_istore_n (lv' := [(2, _), (0, _), (1, _)]) dX11_nearest_6 rfl (by decide) rfl ?_
  refine x_aload_n 1 dX11_nearest_7 rfl rfl ?_
  refine x_iconst (v := nI 0) dX11_nearest_8 (by decide) ?_
  refine x_putI pX11_275 dX11_nearest_9 l83 rfl ?_
  refine x_iconst (v := nI 0) dX11_nearest_12 (by decide) ?_
  refine x_istore_n (lv' := [(3, _), (2, _), (0, _), (1, _)]) dX11_nearest_13 rfl (by decide) rfl ?_
  refine x_pick (lv' := [(3, _), (2, _), (0, _), (1, _)]) [0, 1, 2, 3] rfl ?_
  exact lp_nearM hI hO hw0 hL hL7 hv ha hok 0 _ (-9) 0 (Nat.zero_le _) (FrN.of f1).set (f2.keep (fun b => ⟨rdI_k (by decide), rdI_k (by decide)⟩) (rdI_j (by decide))) rdI_eq (Or.inl ⟨rfl, rfl, fun j hj => absurd hj (Nat.not_lt_zero j)⟩)
