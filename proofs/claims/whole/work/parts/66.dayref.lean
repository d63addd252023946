/-! ===== days, the reference ===== -/
/-- u by the states' numbers -/
noncomputable def UC (R : Rs) (u : Nat → Nat) (c : Nat) : Nat := i2 (rIn R c) (u (ixR R c)) 0
theorem UC_no {R : Rs} {u : Nat → Nat} {c : Nat} (h : ¬ rIn R c) : UC R u c = 0 := by unfold UC; rw [e2_1 h]
theorem UC_in {I : Isl} {L c0 : Nat} (hO : IOK I) (h0 : OKc I L c0) {u : Nat → Nat} {j : Nat} (hj : j < rC (fR I L c0)) : UC (fR I L c0) u (rK (fR I L c0) j) = u j := by
  have hin : rIn (fR I L c0) (rK (fR I L c0) j) := ⟨j, hj, rfl⟩
  have a := ixR_ok hin
  unfold UC
  rw [e2_0 hin, (fR_inv hO h0).2.1 _ j a.1 hj a.2]
theorem UC_ne {R : Rs} {u : Nat → Nat} {c : Nat} (h : ¬ UC R u c = 0) : ∃ j, j < rC R ∧ rK R j = c := Classical.byContradiction fun q => h (UC_no q)
theorem UC_le {R : Rs} {u : Nat → Nat} {B : Nat} (h : ∀ i, u i ≤ B) (c : Nat) : UC R u c ≤ B := by
  unfold UC
  by_cases q : rIn R c
  · rw [e2_0 q]; exact h _
  · rw [e2_1 q]; exact Nat.zero_le _
/-- one step from d to c -/
def adC (I : Isl) (L d c : Nat) : Prop := ∃ t, t < 7 * iM I ∧ mb I L d t = true ∧ nx I d t = c
theorem UC_st {I : Isl} {L c0 : Nat} (hO : IOK I) (h0 : OKc I L c0) {u : Nat → Nat} {c y : Nat} (h : IsMx (UC (fR I L c0) u) (7 ^ iM I) c y (fun d => ¬ UC (fR I L c0) u d = 0 ∧ adC I L d c)) : y = UC (fR I L c0) (stU I L (fR I L c0) u) c := by
  have hv := fR_inv hO h0
  by_cases hin : rIn (fR I L c0) c
  · obtain ⟨i, hi, rfl⟩ := hin
    rw [UC_in hO h0 hi]
    apply Nat.le_antisymm
    · have hm := ((stU_mx (I := I) (L := L) (u := u) hi) _).mp (Nat.le_refl _)
      refine (h _).mpr ⟨by rw [UC_in hO h0 hi]; exact hm.1, fun d hd hp => ?_⟩
      obtain ⟨j, hj, rfl⟩ := UC_ne hp.1
      rw [UC_in hO h0 hj]
      obtain ⟨t, t1, t2, t3⟩ := hp.2
      exact hm.2 j hj (adjR_sym hO h0 hj ⟨t, t1, t2, t3⟩)
    · have hm := (h _).mp (Nat.le_refl _)
      rw [UC_in hO h0 hi] at hm
      refine ((stU_mx hi) _).mpr ⟨hm.1, fun j hj hp => ?_⟩
      by_cases q : u j = 0
      · rw [q]; exact Nat.zero_le _
      · have hk := hm.2 (rK (fR I L c0) j) (hv.2.2.1 j hj).1 ⟨by rw [UC_in hO h0 hj]; exact q, adjR_sym hO h0 hi hp⟩
        rw [UC_in hO h0 hj] at hk
        exact hk
  · rw [UC_no hin]
    refine Nat.le_zero.mp ((h 0).mpr ⟨Nat.le_of_eq (UC_no hin), fun d hd hp => ?_⟩)
    obtain ⟨j, hj, rfl⟩ := UC_ne hp.1
    obtain ⟨t, t1, t2, t3⟩ := hp.2
    obtain ⟨k, k1, k2, _⟩ := hv.2.2.2.2.1 j t hj (Or.inl (by have := (bN_ok hO h0).2; omega)) t1 t2
    exact absurd ⟨k, k1, k2.trans t3⟩ hin
/-- the pairs looked at -/
def Pst (I : Isl) (L : Nat) (U : Nat → Nat) (s i c d : Nat) : Prop := (d < s ∧ ¬ U d = 0 ∧ adC I L d c) ∨ (d = s ∧ ∃ t, t < i ∧ mb I L s t = true ∧ nx I s t = c)
theorem vI_gt {a b : Nat} (ha : a ≤ 900) (hb : b ≤ 900) : (if (vI a).toInt > (vI b).toInt then vI a else vI b) = vI (max a b) := by
  rw [vI_i ha, vI_i hb]
  by_cases q : b < a
  · rw [if_pos (by omega), Nat.max_eq_left (by omega)]
  · rw [if_neg (by omega), Nat.max_eq_right (by omega)]
theorem vI_neg {a : Nat} (ha : a ≤ 900) : (vI a).toInt < 0 ↔ a = 0 := by rw [vI_i ha]; omega
def FYr (a : Nat) : Prop := a = 97 ∨ a = 105 ∨ a = 106
theorem frY {S S' : St} (h : F97 S S') : Fr FYr S S' := ⟨h.1, fun a ha b => h.2 a (fun q => ha (Or.inl q)) b⟩
theorem IsM.fdr {I : Isl} {S S' : St} (h : IsM I S) (hf : Fr FYr S S') : IsM I S' := h.keep (fun j _ => hf.2 83 (by unfold FYr; decide) j) (fun a ha b => hf.2 a (by unfold FYr; intro e; rcases e with rfl | rfl | rfl <;> revert ha <;> decide) b)
theorem FrYset {S S1 : St} {k j : Nat} {v : Int32} (h : Fr FYr S S1) (hk : FYr k) : Fr FYr S (setI S1 k j v) := ⟨h.1, fun a ha b => (rdI_k (fun q => ha (by rw [q]; exact hk))).trans (h.2 a ha b)⟩

set_option maxHeartbeats 4000000 in
set_option maxRecDepth 100000 in
theorem lp_so4 {S : St} {I : Isl} (hI : IsM I S) (hO : IOK I) {L c0 : Nat} (hL : S.1 83 17 = nI L) (hL7 : L ≤ 6) (h0 : OKc I L c0) {u : Nat → Nat} (hu : ∀ i, u i ≤ 500) (hb : ∀ c, c < 7 ^ iM I → S.1 105 c = vI (UC (fR I L c0) u c)) {S1 : St} (f1 : Fr FYr S S1) (ht : ∀ c, c < 7 ^ iM I → S1.1 106 c = vI ((UC (fR I L c0) (stU I L (fR I L c0) u)) c))  : ∀ (s : Nat), (s ≤ 7 ^ iM I) → X 4 120 mX11_stepsOn (qv (fun S' => Fr FYr S S' ∧ ∀ c, c < 7 ^ iM I → S'.1 105 c = vI (UC (fR I L c0) (stU I L (fR I L c0) u) c))) 156 [(1, .int (nI s)), (0, .ref 83)] [] (rwS S1 105 0 s (fun c => S1.1 106 c)) := by
  intro s
  induction hm : 16808 - s using Nat.strongRecOn generalizing s with
  | _ mm ih =>
    intro hs
    have hO1 := hO.1
    have hO2 := hO.2.1
    have hO3 := hO.2.2.1
    have hO4 := hO.2.2.2.1
    have h7 := p7le hO
    have hv := fR_inv hO h0
    have hUl := fun c => UC_le (R := (fR I L c0)) hu c
    have hI1 : IsM I (rwS S1 105 0 s (fun c => S1.1 106 c)) := hI.fdr ⟨f1.1, fun a ha b => (rwS_k (fun q => ha (Or.inr (Or.inl q)))).trans (f1.2 a ha b)⟩
    have h106 : (rwS S1 105 0 s (fun c => S1.1 106 c)).1 106 s = S1.1 106 s := rwS_k (by decide)
    refine x_iload_n 0 dX11_stepsOn_156 rfl rfl ?_
    refine x_aload_n 1 dX11_stepsOn_157 rfl rfl ?_
    refine x_callVu (as := []) (rest := [_]) vX11_265 (c_X11_stateMany hI1 hO) dX11_stepsOn_158 l83 rfl rfl rfl (Nat.le_of_ble_eq_true rfl) (Nat.le_of_ble_eq_true rfl) (Nat.le_of_ble_eq_true rfl) ?_
    refine y_ic_ge 182 dX11_stepsOn_161 (by decide) (by omega) (by omega) (fun c_161 => ?_) (fun c_161 => ?_)
    · refine x_vret rfl dX11_stepsOn_182 (by obtain rfl : s = 7 ^ iM I := (by omega); exact ⟨rfl, ⟨f1.1, fun a ha b => (rwS_k (fun q => ha (Or.inr (Or.inl q)))).trans (f1.2 a ha b)⟩, fun c hc => (rwS_at0 hc).trans (ht c hc)⟩)
    · refine x_aload_n 1 dX11_stepsOn_164 rfl rfl ?_
      refine x_getR fX11_75 dX11_stepsOn_165 l83 rfl ?_
      refine x_iload_n 0 dX11_stepsOn_168 rfl rfl ?_
      refine x_aload_n 1 dX11_stepsOn_169 rfl rfl ?_
      refine x_getR fX11_78 dX11_stepsOn_170 l83 rfl ?_
      refine x_iload_n 0 dX11_stepsOn_173 rfl rfl ?_
      refine y_iald dX11_stepsOn_174 l106 (by omega) (by decide) h106 ?_
      refine y_iast dX11_stepsOn_175 l105 (by omega) (by decide) ?_
      refine y_iinc (lv' := [(1, _), (0, _)]) 0 dX11_stepsOn_176 rfl (by decide) rfl ?_
      refine x_goto 156 dX11_stepsOn_179 (by decide) ?_
      refine x_pick (lv' := [(1, _), (0, _)]) [0, 1] rfl ?_
      refine x_cast (rwS_s0 S1 105 s (fun c => S1.1 106 c)) ?_
      exact ih (16808 - (s + 1)) (by omega) (s + 1) rfl (by omega)

set_option maxHeartbeats 4000000 in
set_option maxRecDepth 100000 in
theorem lp_so3 {S : St} {I : Isl} (hI : IsM I S) (hO : IOK I) {L c0 : Nat} (hL : S.1 83 17 = nI L) (hL7 : L ≤ 6) (h0 : OKc I L c0) {u : Nat → Nat} (hu : ∀ i, u i ≤ 500) (hb : ∀ c, c < 7 ^ iM I → S.1 105 c = vI (UC (fR I L c0) u c)) {s : Nat} (hs : s < 7 ^ iM I) (hU : ¬ (UC (fR I L c0) u) s = 0) {Q : Option Value → St → Prop} (kk : ∀ S2, Fr FYr S S2 → (∀ c, c < 7 ^ iM I → S2.1 105 c = vI (UC (fR I L c0) u c)) → (∀ c, c < 7 ^ iM I → ∃ y, S2.1 106 c = vI y ∧ IsMx (UC (fR I L c0) u) (7 ^ iM I) c y (Pst I L (UC (fR I L c0) u) (s + 1) 0 c)) → X 4 120 mX11_stepsOn Q 30 [(1, .int (nI (s + 1))), (0, .ref 83)] [] S2)  : ∀ (i : Nat) (S1 : St), (i ≤ 7 * iM I) → (Fr FYr S S1 ∧ (∀ c, c < 7 ^ iM I → S1.1 105 c = vI (UC (fR I L c0) u c)) ∧ MW I (digF s) S1 ∧ (∀ c, c < 7 ^ iM I → ∃ y, S1.1 106 c = vI y ∧ IsMx (UC (fR I L c0) u) (7 ^ iM I) c y (Pst I L (UC (fR I L c0) u) s i c))) → X 4 120 mX11_stepsOn (Q) 54 [(2, .int (nI i)), (1, .int (nI s)), (0, .ref 83)] [] S1 := by
  intro i S1
  induction hm : 7 * iM I - i using Nat.strongRecOn generalizing i S1 with
  | _ mm ih =>
    intro hi hE
    have hO1 := hO.1
    have hO2 := hO.2.1
    have hO3 := hO.2.2.1
    have hO4 := hO.2.2.2.1
    have h7 := p7le hO
    have hv := fR_inv hO h0
    have hUl := fun c => UC_le (R := (fR I L c0)) hu c
    obtain ⟨x1, x2, x3, x4⟩ := id hE
    have hI1 := hI.fdr x1
    have hok : OKc I L s := by
      obtain ⟨j, hj, rfl⟩ := UC_ne hU
      exact hv.2.2.1 j hj
    have hwk := hok.2.ok hO
    have hw7 := hwk.w7 hO
    have hmb : mb I L s i = true ↔ mayF I (digF s) L (i / 7) (i % 7) := mb_iff
    have hdl : (digF s (i / 7)) < 7 := digF_lt s (i / 7)
    refine x_iload_n 0 dX11_stepsOn_54 rfl rfl ?_
    refine x_bipush (v := nI 7) dX11_stepsOn_55 (by decide) ?_
    refine x_aload_n 2 dX11_stepsOn_57 rfl rfl ?_
    refine y_getI fX11_181 dX11_stepsOn_58 l83 rfl hI1.2.1 ?_
    refine y_imul dX11_stepsOn_61 ?_
    refine y_ic_ge 148 dX11_stepsOn_62 (by decide) (by omega) (by omega) (fun c_62 => ?_) (fun c_62 => ?_)
    · refine y_iinc (lv' := [(1, _), (2, _), (0, _)]) 1 dX11_stepsOn_148 rfl (by decide) rfl ?_
      refine x_goto 30 dX11_stepsOn_151 (by decide) ?_
      refine x_pick (lv' := [(1, _), (0, _)]) [0, 2] rfl ?_
      obtain rfl : i = 7 * iM I := (by omega)
      refine kk S1 x1 x2 (fun c hc => ?_)
      obtain ⟨y', z1, z2⟩ := x4 c hc
      refine ⟨y', z1, z2.congr (fun d hd => ⟨fun h => Or.inr ?_, fun h => Or.inr ?_⟩)⟩
      · rcases h with ⟨h1, h2⟩ | ⟨h, t, t1, t2, t3⟩
        · exact Or.inl ⟨by omega, h2⟩
        · rw [h]; exact Or.inl ⟨by omega, hU, t, t1, t2, t3⟩
      · rcases h with ⟨h1, h2, t, t1, t2, t3⟩ | ⟨h, t, t1, _⟩
        · by_cases e : d = s
          · rw [e] at t2 t3; exact Or.inr ⟨e, t, t1, t2, t3⟩
          · exact Or.inl ⟨by omega, h2, t, t1, t2, t3⟩
        · omega
    · refine x_aload_n 2 dX11_stepsOn_65 rfl rfl ?_
      refine x_iload_n 0 dX11_stepsOn_66 rfl rfl ?_
      refine x_bipush (v := nI 7) dX11_stepsOn_67 (by decide) ?_
      refine y_idiv dX11_stepsOn_69 (by omega) (by omega) (by omega) ?_
      refine x_iload_n 0 dX11_stepsOn_70 rfl rfl ?_
      refine x_bipush (v := nI 7) dX11_stepsOn_71 (by decide) ?_
      refine y_irem dX11_stepsOn_73 (by omega) (by omega) (by omega) ?_
      refine x_callVb (as := [_, _]) (rest := []) vX11_241 (c_X11_mayStep hI1 hO x3 hwk ((x1.2 83 (by unfold FYr; decide) 17).trans hL) (by omega) (by omega) (Nat.mod_lt _ (by decide))) dX11_stepsOn_74 l83 rfl rfl rfl (Nat.le_of_ble_eq_true rfl) (Nat.le_of_ble_eq_true rfl) (Nat.le_of_ble_eq_true rfl) (fun c_74 => ?_) (fun c_74 => ?_)
      · refine u_if_eq 142 dX11_stepsOn_77 (by decide) (by decide) ?_
        have hm := hmb.mpr c_74
        have hnx := nx_ok hO hok (by omega) hm
        have hnl := hnx.1
        obtain ⟨y, y1, y2⟩ := x4 (nx I s i) hnl
        have hyl := y2.le (B := 500) hUl
        have hul := hUl s
        refine x_aload_n 2 dX11_stepsOn_80 rfl rfl ?_
        refine x_getR fX11_50 dX11_stepsOn_81 l83 rfl ?_
        refine x_iload_n 0 dX11_stepsOn_84 rfl rfl ?_
        refine x_bipush (v := nI 7) dX11_stepsOn_85 (by decide) ?_
        refine y_idiv dX11_stepsOn_87 (by omega) (by omega) (by omega) ?_
        refine y_iald dX11_stepsOn_88 l97 (by omega) (by decide) (x3 (i / 7) (by omega)) ?_
        refine x_istore_n (lv' := [(3, _), (2, _), (1, _), (0, _)]) dX11_stepsOn_89 rfl (by decide) rfl ?_
        refine x_aload_n 3 dX11_stepsOn_90 rfl rfl ?_
        refine x_getR fX11_50 dX11_stepsOn_91 l83 rfl ?_
        refine x_iload_n 1 dX11_stepsOn_94 rfl rfl ?_
        refine x_bipush (v := nI 7) dX11_stepsOn_95 (by decide) ?_
        refine y_idiv dX11_stepsOn_97 (by omega) (by omega) (by omega) ?_
        refine x_iload_n 1 dX11_stepsOn_98 rfl rfl ?_
        refine x_bipush (v := nI 7) dX11_stepsOn_99 (by decide) ?_
        refine y_irem dX11_stepsOn_101 (by omega) (by omega) (by omega) ?_
        refine y_iast dX11_stepsOn_102 l97 (by omega) (by decide) ?_
        refine x_aload_n 3 dX11_stepsOn_103 rfl rfl ?_
        refine x_callVu (as := []) (rest := []) vX11_251 (c_codeNx (hI1.fdr (FrYset Fr.refl (Or.inl rfl))) hO (c := s) (fun t ht => by by_cases q : t = i / 7; rw [q, upW_eq, rdI_eq]; rw [upW_ne q, rdI_j q]; exact x3 t ht)) dX11_stepsOn_104 l83 rfl rfl rfl (Nat.le_of_ble_eq_true rfl) (Nat.le_of_ble_eq_true rfl) (Nat.le_of_ble_eq_true rfl) ?_
        refine x_istore (lv' := [(4, _), (3, _), (2, _), (1, _), (0, _)]) dX11_stepsOn_107 (by decide) rfl ?_
        refine x_aload_n 4 dX11_stepsOn_109 rfl rfl ?_
        refine x_getR fX11_50 dX11_stepsOn_110 l83 rfl ?_
        refine x_iload_n 2 dX11_stepsOn_113 rfl rfl ?_
        refine x_bipush (v := nI 7) dX11_stepsOn_114 (by decide) ?_
        refine y_idiv dX11_stepsOn_116 (by omega) (by omega) (by omega) ?_
        refine x_iload_n 1 dX11_stepsOn_117 rfl rfl ?_
        refine y_iast dX11_stepsOn_118 l97 (by omega) (by decide) ?_
        refine x_aload_n 4 dX11_stepsOn_119 rfl rfl ?_
        refine x_getR fX11_78 dX11_stepsOn_120 l83 rfl ?_
        refine x_iload 0 dX11_stepsOn_123 rfl ?_
        refine x_aload_n 4 dX11_stepsOn_125 rfl rfl ?_
        refine x_getR fX11_78 dX11_stepsOn_126 l83 rfl ?_
        refine x_iload 0 dX11_stepsOn_129 rfl ?_
        refine y_iald dX11_stepsOn_131 l106 (by omega) (by decide) ((((rdI_k (by decide))).trans (rdI_k (by decide))).trans y1) ?_
        refine x_aload_n 4 dX11_stepsOn_132 rfl rfl ?_
        refine x_getR fX11_75 dX11_stepsOn_133 l83 rfl ?_
        refine x_iload_n 3 dX11_stepsOn_136 rfl rfl ?_
        refine y_iald dX11_stepsOn_137 l105 (by omega) (by decide) ((((rdI_k (by decide))).trans (rdI_k (by decide))).trans (x2 s hs)) ?_
        refine x_callSu (as := [_, _]) (rest := [_, _]) sX11_290 c_X11_greater dX11_stepsOn_138 rfl rfl (Nat.le_of_ble_eq_true rfl) (Nat.le_of_ble_eq_true rfl) (Nat.le_of_ble_eq_true rfl) ?_
        rw [vI_gt (by omega) (by omega)]
        refine y_iast dX11_stepsOn_141 l106 (by omega) (by decide) ?_
        refine y_iinc (lv' := [(2, _), (4, _), (3, _), (1, _), (0, _)]) 2 dX11_stepsOn_142 rfl (by decide) rfl ?_
        refine x_goto 54 dX11_stepsOn_145 (by decide) ?_
        refine x_pick (lv' := [(2, _), (1, _), (0, _)]) [0, 3, 4] rfl ?_
        have hback : ∀ a b, ¬ a = 97 → ¬ a = 106 → (setI (setI (setI S1 97 (i / 7) (nI (i % 7))) 97 (i / 7) (nI (digF s (i / 7)))) 106 (nx I s i) (vI (max y ((UC (fR I L c0) u) s)))).1 a b = S1.1 a b := fun a b q q2 => (rdI_k q2).trans ((rdI_k q).trans (rdI_k q))
        have hb106 : ∀ b, ¬ b = (nx I s i) → (setI (setI (setI S1 97 (i / 7) (nI (i % 7))) 97 (i / 7) (nI (digF s (i / 7)))) 106 (nx I s i) (vI (max y ((UC (fR I L c0) u) s)))).1 106 b = S1.1 106 b := fun b q => (rdI_j q).trans ((rdI_k (by decide)).trans (rdI_k (by decide)))
        refine ih (7 * iM I - (i + 1)) (by omega) (i + 1) _ rfl (by omega) ⟨FrYset (FrYset (FrYset x1 (Or.inl rfl)) (Or.inl rfl)) (Or.inr (Or.inr rfl)), fun c hc => (hback 105 c (by decide) (by decide)).trans (x2 c hc), fun t ht => ?_, fun c hc => ?_⟩
        · rw [rdI_k (by decide)]
          by_cases q : t = i / 7
          · rw [q, rdI_eq]
          · rw [rdI_j q, rdI_j q]; exact x3 t ht
        · by_cases q : c = (nx I s i)
          · rw [q]
            refine ⟨max y ((UC (fR I L c0) u) s), rdI_eq, y2.add hs (fun d => ⟨fun h => ?_, fun h => ?_⟩)⟩
            · rcases h with h | ⟨h, _⟩
              · exact Or.inl (Or.inl h)
              · exact Or.inr h
            · rcases h with (h | ⟨h, t, t1, t2, t3⟩) | h
              · exact Or.inl h
              · exact Or.inr ⟨h, t, by omega, t2, t3⟩
              · exact Or.inr ⟨h, i, by omega, hm, rfl⟩
          · obtain ⟨y', z1, z2⟩ := x4 c hc
            refine ⟨y', (hb106 c q).trans z1, z2.congr (fun d hd => ⟨fun h => Or.inr ?_, fun h => Or.inr ?_⟩)⟩
            · rcases h with h | ⟨h, t, t1, t2, t3⟩
              · exact Or.inl h
              · exact Or.inr ⟨h, t, by omega, t2, t3⟩
            · rcases h with h | ⟨h, t, t1, t2, t3⟩
              · exact Or.inl h
              · refine Or.inr ⟨h, t, ?_, t2, t3⟩
                by_cases e : t = i
                · rw [e] at t3; exact absurd t3.symm q
                · omega
      · refine t_if_eq 142 dX11_stepsOn_77 (by decide) (by decide) ?_
        refine y_iinc (lv' := [(2, _), (1, _), (0, _)]) 0 dX11_stepsOn_142 rfl (by decide) rfl ?_
        refine x_goto 54 dX11_stepsOn_145 (by decide) ?_
        refine x_pick (lv' := [(2, _), (1, _), (0, _)]) [0, 1, 2] rfl ?_
        refine ih (7 * iM I - (i + 1)) (by omega) (i + 1) S1 rfl (by omega) ⟨x1, x2, x3, fun c hc => ?_⟩
        obtain ⟨y', z1, z2⟩ := x4 c hc
        refine ⟨y', z1, z2.congr (fun d hd => ⟨fun h => Or.inr ?_, fun h => Or.inr ?_⟩)⟩
        · rcases h with h | ⟨h, t, t1, t2, t3⟩
          · exact Or.inl h
          · exact Or.inr ⟨h, t, by omega, t2, t3⟩
        · rcases h with h | ⟨h, t, t1, t2, t3⟩
          · exact Or.inl h
          · refine Or.inr ⟨h, t, ?_, t2, t3⟩
            by_cases e : t = i
            · rw [e] at t2; exact absurd (hmb.mp t2) c_74
            · omega

set_option maxHeartbeats 4000000 in
set_option maxRecDepth 100000 in
theorem lp_so2 {S : St} {I : Isl} (hI : IsM I S) (hO : IOK I) {L c0 : Nat} (hL : S.1 83 17 = nI L) (hL7 : L ≤ 6) (h0 : OKc I L c0) {u : Nat → Nat} (hu : ∀ i, u i ≤ 500) (hb : ∀ c, c < 7 ^ iM I → S.1 105 c = vI (UC (fR I L c0) u c))  : ∀ (s : Nat) (S1 : St), (s ≤ 7 ^ iM I) → (Fr FYr S S1 ∧ (∀ c, c < 7 ^ iM I → S1.1 105 c = vI (UC (fR I L c0) u c)) ∧ (∀ c, c < 7 ^ iM I → ∃ y, S1.1 106 c = vI y ∧ IsMx (UC (fR I L c0) u) (7 ^ iM I) c y (Pst I L (UC (fR I L c0) u) s 0 c))) → X 4 120 mX11_stepsOn (qv (fun S' => Fr FYr S S' ∧ ∀ c, c < 7 ^ iM I → S'.1 105 c = vI (UC (fR I L c0) (stU I L (fR I L c0) u) c))) 30 [(1, .int (nI s)), (0, .ref 83)] [] S1 := by
  intro s S1
  induction hm : 16808 - s using Nat.strongRecOn generalizing s S1 with
  | _ mm ih =>
    intro hs hE
    have hO1 := hO.1
    have hO2 := hO.2.1
    have hO3 := hO.2.2.1
    have hO4 := hO.2.2.2.1
    have h7 := p7le hO
    have hv := fR_inv hO h0
    have hUl := fun c => UC_le (R := (fR I L c0)) hu c
    obtain ⟨x1, x2, x4⟩ := id hE
    have hI1 := hI.fdr x1
    have hul := hUl s
    have hvn := vI_neg (a := (UC (fR I L c0) u) s) (by omega)
    refine x_iload_n 0 dX11_stepsOn_30 rfl rfl ?_
    refine x_aload_n 1 dX11_stepsOn_31 rfl rfl ?_
    refine x_callVu (as := []) (rest := [_]) vX11_265 (c_X11_stateMany hI1 hO) dX11_stepsOn_32 l83 rfl rfl rfl (Nat.le_of_ble_eq_true rfl) (Nat.le_of_ble_eq_true rfl) (Nat.le_of_ble_eq_true rfl) ?_
    refine y_ic_ge 154 dX11_stepsOn_35 (by decide) (by omega) (by omega) (fun c_35 => ?_) (fun c_35 => ?_)
    · refine x_iconst (v := nI 0) dX11_stepsOn_154 (by decide) ?_
      refine x_istore_n (lv' := [(1, _), (0, _)]) dX11_stepsOn_155 rfl (by decide) rfl ?_
      refine x_pick (lv' := [(1, _), (0, _)]) [0, 1] rfl ?_
      obtain rfl : s = 7 ^ iM I := (by omega)
      have hh := lp_so4 hI hO hL hL7 h0 hu hb x1 (fun c hc => ?_) 0 (Nat.zero_le _)
      · rw [rwS_0] at hh
        exact hh
      · obtain ⟨y', z1, z2⟩ := x4 c hc
        rw [z1]
        refine congrArg vI (UC_st hO h0 (z2.congr (fun d hd => ⟨fun h => Or.inr ?_, fun h => Or.inr ?_⟩)))
        · rcases h with ⟨h1, h2⟩ | ⟨h, t, t1, _⟩
          · exact h2
          · omega
        · exact Or.inl ⟨hd, h⟩
    · refine x_aload_n 1 dX11_stepsOn_38 rfl rfl ?_
      refine x_getR fX11_75 dX11_stepsOn_39 l83 rfl ?_
      refine x_iload_n 0 dX11_stepsOn_42 rfl rfl ?_
      refine y_iald dX11_stepsOn_43 l105 (by omega) (by decide) (x2 s (by omega)) ?_
      refine x_if_lt 148 dX11_stepsOn_44 (by decide) (fun c_44 => ?_) (fun c_44 => ?_)
      · refine y_iinc (lv' := [(1, _), (0, _)]) 0 dX11_stepsOn_148 rfl (by decide) rfl ?_
        refine x_goto 30 dX11_stepsOn_151 (by decide) ?_
        refine x_pick (lv' := [(1, _), (0, _)]) [0, 1] rfl ?_
        have hz : (UC (fR I L c0) u) s = 0 := hvn.mp c_44
        refine ih (16808 - (s + 1)) (by omega) (s + 1) S1 rfl (by omega) ⟨x1, x2, fun c hc => ?_⟩
        obtain ⟨y', z1, z2⟩ := x4 c hc
        refine ⟨y', z1, z2.congr (fun d hd => ⟨fun h => Or.inr ?_, fun h => ?_⟩)⟩
        · rcases h with ⟨h1, h2⟩ | ⟨h, t, t1, _⟩
          · exact Or.inl ⟨by omega, h2⟩
          · omega
        · rcases h with ⟨h1, h2, h3⟩ | ⟨h, t, t1, _⟩
          · by_cases e : d = s
            · rw [e]; exact Or.inl hz
            · exact Or.inr (Or.inl ⟨by omega, h2, h3⟩)
          · omega
      · refine x_aload_n 1 dX11_stepsOn_47 rfl rfl ?_
        refine x_iload_n 0 dX11_stepsOn_48 rfl rfl ?_
        refine x_callVv (as := [_]) (rest := []) vX11_255 (c_X11_look hI1 hO (c := s) (by omega)) dX11_stepsOn_49 l83 rfl rfl rfl (Nat.le_of_ble_eq_true rfl) (Nat.le_of_ble_eq_true rfl) (Nat.le_of_ble_eq_true rfl) ?_
        refine x_iconst (v := nI 0) dX11_stepsOn_52 (by decide) ?_
        refine x_istore_n (lv' := [(2, _), (1, _), (0, _)]) dX11_stepsOn_53 rfl (by decide) rfl ?_
        refine x_pick (lv' := [(2, _), (1, _), (0, _)]) [0, 1, 2] rfl ?_
        have hU : ¬ (UC (fR I L c0) u) s = 0 := fun q => absurd (hvn.mpr q) (by omega)
        exact lp_so3 hI hO hL hL7 h0 hu hb (by omega) hU (fun S2 f2 k2 t2 => ih (16808 - (s + 1)) (by omega) (s + 1) S2 rfl (by omega) ⟨f2, k2, t2⟩) 0 (loS S1 s (iM I)) (Nat.zero_le _) ⟨x1.trans (frY (loS_f _ _ _)), fun c hc => (loS_k (by decide)).trans (x2 c hc), loS_W S1 s, fun c hc => by
          obtain ⟨y', z1, z2⟩ := x4 c hc
          exact ⟨y', (loS_k (by decide)).trans z1, z2⟩⟩

set_option maxHeartbeats 4000000 in
set_option maxRecDepth 100000 in
theorem lp_so1 {S : St} {I : Isl} (hI : IsM I S) (hO : IOK I) {L c0 : Nat} (hL : S.1 83 17 = nI L) (hL7 : L ≤ 6) (h0 : OKc I L c0) {u : Nat → Nat} (hu : ∀ i, u i ≤ 500) (hb : ∀ c, c < 7 ^ iM I → S.1 105 c = vI (UC (fR I L c0) u c))  : ∀ (s : Nat), (s ≤ 7 ^ iM I) → X 4 120 mX11_stepsOn (qv (fun S' => Fr FYr S S' ∧ ∀ c, c < 7 ^ iM I → S'.1 105 c = vI (UC (fR I L c0) (stU I L (fR I L c0) u) c))) 2 [(1, .int (nI s)), (0, .ref 83)] [] (rwS S 106 0 s (fun c => S.1 105 c)) := by
  intro s
  induction hm : 16808 - s using Nat.strongRecOn generalizing s with
  | _ mm ih =>
    intro hs
    have hO1 := hO.1
    have hO2 := hO.2.1
    have hO3 := hO.2.2.1
    have hO4 := hO.2.2.2.1
    have h7 := p7le hO
    have hv := fR_inv hO h0
    have hUl := fun c => UC_le (R := (fR I L c0)) hu c
    have hfk : Fr FYr S (rwS S 106 0 s (fun c => S.1 105 c)) := ⟨rfl, fun a ha b => rwS_k (fun q => ha (Or.inr (Or.inr q)))⟩
    have hI1 := hI.fdr hfk
    have h105 : (rwS S 106 0 s (fun c => S.1 105 c)).1 105 s = S.1 105 s := rwS_k (by decide)
    refine x_iload_n 0 dX11_stepsOn_2 rfl rfl ?_
    refine x_aload_n 1 dX11_stepsOn_3 rfl rfl ?_
    refine x_callVu (as := []) (rest := [_]) vX11_265 (c_X11_stateMany hI1 hO) dX11_stepsOn_4 l83 rfl rfl rfl (Nat.le_of_ble_eq_true rfl) (Nat.le_of_ble_eq_true rfl) (Nat.le_of_ble_eq_true rfl) ?_
    refine y_ic_ge 28 dX11_stepsOn_7 (by decide) (by omega) (by omega) (fun c_7 => ?_) (fun c_7 => ?_)
    · refine x_iconst (v := nI 0) dX11_stepsOn_28 (by decide) ?_
      refine x_istore_n (lv' := [(1, _), (0, _)]) dX11_stepsOn_29 rfl (by decide) rfl ?_
      refine x_pick (lv' := [(1, _), (0, _)]) [0, 1] rfl ?_
      obtain rfl : s = 7 ^ iM I := (by omega)
      exact lp_so2 hI hO hL hL7 h0 hu hb 0 _ (Nat.zero_le _) ⟨hfk, fun c hc => (rwS_k (by decide)).trans (hb c hc), fun c hc => ⟨(UC (fR I L c0) u) c, (rwS_at0 hc).trans (hb c hc), IsMx.zero (fun d _ p => by rcases p with ⟨p, _⟩ | ⟨_, t, p, _⟩ <;> omega)⟩⟩
    · refine x_aload_n 1 dX11_stepsOn_10 rfl rfl ?_
      refine x_getR fX11_78 dX11_stepsOn_11 l83 rfl ?_
      refine x_iload_n 0 dX11_stepsOn_14 rfl rfl ?_
      refine x_aload_n 1 dX11_stepsOn_15 rfl rfl ?_
      refine x_getR fX11_75 dX11_stepsOn_16 l83 rfl ?_
      refine x_iload_n 0 dX11_stepsOn_19 rfl rfl ?_
      refine y_iald dX11_stepsOn_20 l105 (by omega) (by decide) h105 ?_
      refine y_iast dX11_stepsOn_21 l106 (by omega) (by decide) ?_
      refine y_iinc (lv' := [(1, _), (0, _)]) 0 dX11_stepsOn_22 rfl (by decide) rfl ?_
      refine x_goto 2 dX11_stepsOn_25 (by decide) ?_
      refine x_pick (lv' := [(1, _), (0, _)]) [0, 1] rfl ?_
      refine x_cast (rwS_s0 S 106 s (fun c => S.1 105 c)) ?_
      exact ih (16808 - (s + 1)) (by omega) (s + 1) rfl (by omega)

set_option maxHeartbeats 4000000 in
set_option maxRecDepth 100000 in
theorem c_X11_stepsOn {S : St} {I : Isl} (hI : IsM I S) (hO : IOK I) {L c0 : Nat} (hL : S.1 83 17 = nI L) (hL7 : L ≤ 6) (h0 : OKc I L c0) {u : Nat → Nat} (hu : ∀ i, u i ≤ 500) (hb : ∀ c, c < 7 ^ iM I → S.1 105 c = vI (UC (fR I L c0) u c)) : C 4 120 yX11_stepsOn mX11_stepsOn [.ref 83] S (qv (fun S' => Fr FYr S S' ∧ ∀ c, c < 7 ^ iM I → S'.1 105 c = vI (UC (fR I L c0) (stU I L (fR I L c0) u) c))) := by
  refine C.ofX (by decide) rfl (Nat.le_of_ble_eq_true rfl) ?_
  show X 4 120 mX11_stepsOn (qv (fun S' => Fr FYr S S' ∧ ∀ c, c < 7 ^ iM I → S'.1 105 c = vI (UC (fR I L c0) (stU I L (fR I L c0) u) c))) 0 [(0, .ref 83)] [] S
  refine x_iconst (v := nI 0) dX11_stepsOn_0 (by decide) ?_
  refine x_istore_n (lv' := [(1, _), (0, _)]) dX11_stepsOn_1 rfl (by decide) rfl ?_
  refine x_pick (lv' := [(1, _), (0, _)]) [0, 1] rfl ?_
  have hh := lp_so1 hI hO hL hL7 h0 hu hb 0 (Nat.zero_le _)
  rw [rwS_0] at hh
  exact hh
