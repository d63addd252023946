/-! ===== gone ===== -/
def PB1 (I : Isl) (w : Nat → Nat) (n : Nat) : Prop := ∀ t, t < n → (livK (iK I t) → w t < 4) ∧ (bagK (iK I t) → w t ≤ 4)
def PB2 (I : Isl) (w : Nat → Nat) (n : Nat) : Prop := ∀ b, b < n → insF I w b ≤ rm (iK I (iG I b))
def PB3 (I : Isl) (w : Nat → Nat) (L n : Nat) : Prop := ∀ p, p < n → loadF I w p ≤ L
theorem VB_iff {I : Isl} {w : Nat → Nat} {L : Nat} : VB I w L ↔ PB1 I w (iM I) ∧ PB2 I w (iB I) ∧ PB3 I w L (iP I) := Iff.rfl

theorem dig_code : ∀ {m : Nat} {w : Nat → Nat}, (∀ t, t < m → w t < 7) → ∀ t, t < m → digF (codeN m w) t = w t
  | 0, _, _, t, ht => absurd ht (Nat.not_lt_zero t)
  | m + 1, w, h, t, ht => by
    rw [codeN_h]
    unfold digF
    have h0 := h 0 (Nat.succ_pos m)
    cases t with
    | zero => rw [Nat.pow_zero, Nat.div_one]; omega
    | succ t =>
      rw [Nat.pow_succ, Nat.mul_comm (7 ^ t) 7, ← Nat.div_div_eq_div_mul, show (w 0 + 7 * codeN m (fun t => w (t + 1))) / 7 = codeN m (fun t => w (t + 1)) by omega]
      exact dig_code (m := m) (w := fun t => w (t + 1)) (fun i hi => h (i + 1) (by omega)) t (by omega)
theorem WOK.congr {I : Isl} (hO : IOK I) {w w' : Nat → Nat} (h : ∀ t, t < iM I → w' t = w t) (hw : WOK I w) : WOK I w' :=
  ⟨fun t ht => by rw [h t ht]; exact hw.1 t ht, fun b hb => by rw [h _ (hO.2.2.2.2.2.1 b hb).1]; exact hw.2 b hb⟩
theorem WOK.dig {I : Isl} (hO : IOK I) {w : Nat → Nat} (hw : WOK I w) : WOK I (digF (codeF I w)) := hw.congr hO (dig_code (hw.w7 hO))
theorem VB.ok {I : Isl} (hO : IOK I) {w : Nat → Nat} {L : Nat} (h : VB I w L) (hwo : ∀ t, t < iM I → w t < 5 + iB I) : WOK I w :=
  ⟨hwo, fun b hb => have hg := hO.2.2.2.2.2.1 b hb; (h.1 _ hg.1).2 hg.2⟩
theorem rwS_s0 (S : St) (k n : Nat) (f : Nat → Int32) : setI (rwS S k 0 n f) k n (f n) = rwS S k 0 (n + 1) f := by
  have h := rwS_s S k 0 n f
  rw [Nat.zero_add] at h
  exact h
theorem plcI_tn {I : Isl} (hO : IOK I) {x : Int32} (h : plcI I x) : x = nI (tn x) ∧ tn x < 5 + iB I ∧ plcF I (tn x) := by
  have h4 := hO.2.2.2.1
  have h1 := hO.1
  have h0 : 0 ≤ x.toInt ∧ x.toInt < 5 + (iB I : Int) := by unfold plcI at h; omega
  have e : x = nI (tn x) := nI_of_int (by unfold tn; omega)
  refine ⟨e, by unfold tn; omega, ?_⟩
  rw [e] at h
  exact (plcI_n (by unfold tn; omega)).mp h
/-- an image that can be had again -/
def goodG (I : Isl) (v : Nat → Int32) : Prop := (1 ≤ (v (iM I)).toInt ∧ (v (iM I)).toInt ≤ 6) ∧ (∀ t, t < iM I → plcI I (v t)) ∧ VB I (fun t => tn (v t)) (tn (v (iM I)))
theorem goodG_iff {I : Isl} {v : Nat → Int32} {l : Nat} (h : v (iM I) = nI l) (hl : l ≤ 6) : goodG I v ↔ 1 ≤ l ∧ (∀ t, t < iM I → plcI I (v t)) ∧ VB I (fun t => tn (v t)) l := by
  unfold goodG
  rw [h, tiN (by omega), tnN (by omega)]
  constructor
  · exact fun h => ⟨by omega, h.2⟩
  · exact fun h => ⟨by omega, h.2⟩
theorem c_getR {S : St} {r i z : Nat} {v : Int32} (h0 : S.1 3 0 = nI 60) (hr : r < 6) (hz : S.1 4 r = nI z) (hz2 : z ≤ 60) (hi : i < z) (hv : S.1 5 (r * 60 + i) = v) : C 1 30 yX5_get mX5_get [.ref 3, .int (nI r), .int (nI i)] S (pu (.int v) S) := c_get isR h0 hr hz hz2 hi hv

set_option maxHeartbeats 4000000 in
set_option maxRecDepth 100000 in
theorem lp_goneX {S : St} {I : Isl} (hI : IsX 11 I S) (hO : IOK I) (hS : RwS 3 6 60 S) {a l z : Nat} (ha : a < 6) (ez : S.1 4 a = nI z) (hz : z ≤ 60) (hzm : z = iM I + 1) (el : S.1 5 (a * 60 + iM I) = nI l) (hl1 : 1 ≤ l) (hl : l ≤ 6)  : ∀ (k : Nat), (k ≤ iM I) → (∀ t, t < k → plcI I (S.1 5 (a * 60 + t))) → X 4 120 mX10_gone (qi (i2 (¬ goodG I (fun t => S.1 5 (a * 60 + t))) (fun r S' => r = -3 ∧ ∃ S2, Fr (fun c => 40 ≤ c ∧ c ≤ 44) S S2 ∧ S' = fndS S2 3) (fun r S' => r = nI 1 ∧ ∃ S2, Fr (fun c => 36 ≤ c ∧ c ≤ 44) S S2 ∧ PlT 35 I (digF (codeF I (fun t => tn (S.1 5 (a * 60 + t))))) S2 ∧ S' = setI (setI S2 35 5 (nI (tn (S.1 5 (a * 60 + iM I))))) 60 0 (nI 0)))) 100 [(3, .int (nI k)), (2, .int (nI l)), (0, .ref 0), (1, .int (nI a))] [] (rwS S 41 0 k (fun t => S.1 5 (a * 60 + t))) := by
  intro k
  induction hm : iM I - k using Nat.strongRecOn generalizing k with
  | _ mm ih =>
    intro hk hx
    have hO1 := hO.1
    have hO2 := hO.2.1
    have hO3 := hO.2.2.1
    have hO4 := hO.2.2.2.1
    have hI1 : IsX 11 I (rwS S 41 0 k (fun t => S.1 5 (a * 60 + t))) := hI.keep (fun c h1 h2 b => rwS_k (by omega))
    have tl : tn (nI l) = l := tnN (by omega)
    have hgg := goodG_iff (v := (fun t => S.1 5 (a * 60 + t))) el hl
    have hf41 : Fr (fun c => 40 ≤ c ∧ c ≤ 44) S (rwS S 41 0 k (fun t => S.1 5 (a * 60 + t))) := ⟨rfl, fun c hc b => rwS_k (by omega)⟩
    refine x_iload_n 0 dX10_gone_100 rfl rfl ?_
    refine x_aload_n 2 dX10_gone_101 rfl rfl ?_
    refine x_getR fX10_40 dX10_gone_102 l0 rfl ?_
    refine y_getI fX10_173 dX10_gone_105 l11 rfl hI1.2.1 ?_
    refine y_ic_ge 163 dX10_gone_108 (by decide) (by omega) (by omega) (fun c_108 => ?_) (fun c_108 => ?_)
    · obtain rfl : k = iM I := (by omega)
      refine x_aload_n 2 dX10_gone_163 rfl rfl ?_
      refine x_getR fX10_53 dX10_gone_164 l0 rfl ?_
      refine x_iload_n 1 dX10_gone_167 rfl rfl ?_
      refine x_putI pX10_231 dX10_gone_168 l40 rfl ?_
      have hI2 : IsX 11 I (setI (rwS S 41 0 (iM I) (fun t => S.1 5 (a * 60 + t))) 40 5 (nI l)) := hI1.keep (fun c h1 h2 b => rdI_k (by omega))
      have hP2 : PlW 40 I (fun t => tn (S.1 5 (a * 60 + t))) (setI (rwS S 41 0 (iM I) (fun t => S.1 5 (a * 60 + t))) 40 5 (nI l)) := fun t ht => (rdI_k (by decide)).trans ((rwS_at0 ht).trans (plcI_tn hO (hx t ht)).1)
      have hb2 : ∀ t, t < iM I → tn (S.1 5 (a * 60 + t)) < 5 + iB I := fun t ht => (plcI_tn hO (hx t ht)).2.1
      refine x_aload_n 2 dX10_gone_171 rfl rfl ?_
      refine x_getR fX10_53 dX10_gone_172 l0 rfl ?_
      refine x_callVqi (as := []) (rest := []) vX10_370 (c_X3_canBe (Or.inr (Or.inl rfl)) hI2 hO hP2 rdI_eq (by omega) hb2) dX10_gone_175 l40 rfl rfl rfl (Nat.le_of_ble_eq_true rfl) (Nat.le_of_ble_eq_true rfl) (Nat.le_of_ble_eq_true rfl) (fun r_175 S_175 q_175 => ?_)
      obtain ⟨hf3, hr3⟩ := q_175
      have hf41b : Fr (fun c => 40 ≤ c ∧ c ≤ 44) (rwS S 41 0 (iM I) (fun t => S.1 5 (a * 60 + t))) (setI (rwS S 41 0 (iM I) (fun t => S.1 5 (a * 60 + t))) 40 5 (nI l)) := ⟨rfl, fun c hc b => rdI_k (by omega)⟩
      have hf40 : Fr (fun c => 40 ≤ c ∧ c ≤ 44) S S_175 := (hf41.trans hf41b).trans (hf3.wider (fun c h => by omega))
      refine x_if_ne 190 dX10_gone_178 (by decide) (fun c_178 => ?_) (fun c_178 => ?_)
      · have hvb : VB I (fun t => tn (S.1 5 (a * 60 + t))) l := hr3.elim (fun h => h.2) (fun h => absurd h.1 c_178)
        have hwk := hvb.ok hO hb2
        have hw7 := hwk.w7 hO
        have hI3 : IsX 11 I S_175 := hI.keep (fun c h1 h2 b => hf40.2 c (by omega) b)
        have hP3 : PlW 40 I (fun t => tn (S.1 5 (a * 60 + t))) S_175 := fun t ht => (hf3.2 41 (by omega) t).trans (hP2 t ht)
        refine x_aload_n 2 dX10_gone_190 rfl rfl ?_
        refine x_aload_n 2 dX10_gone_191 rfl rfl ?_
        refine x_getR fX10_53 dX10_gone_192 l0 rfl ?_
        refine x_callVu (as := []) (rest := [_]) vX10_274 (c_X3_code (Or.inr (Or.inl rfl)) hI3 hO hP3 hw7) dX10_gone_195 l40 rfl rfl rfl (Nat.le_of_ble_eq_true rfl) (Nat.le_of_ble_eq_true rfl) (Nat.le_of_ble_eq_true rfl) ?_
        refine x_iload_n 1 dX10_gone_198 rfl rfl ?_
        refine x_callVqv (as := [_, _]) (rest := []) vX10_277 (c_X10_goOnFrom hI3 hO (codeF_lt hO hw7) (hwk.dig hO)) dX10_gone_199 l0 rfl rfl rfl (Nat.le_of_ble_eq_true rfl) (Nat.le_of_ble_eq_true rfl) (Nat.le_of_ble_eq_true rfl) (fun S_199 q_199 => ?_)
        refine x_iconst (v := nI 1) dX10_gone_202 (by decide) ?_
        refine x_iret rfl dX10_gone_203 (by obtain ⟨S2, ⟨_, hf5, hp5⟩, rfl⟩ := q_199; refine q2_1 (fun h => h (hgg.mpr ⟨hl1, hx, hvb⟩)) ⟨rfl, S2, (hf40.wider (fun c h => by omega)).trans (hf5.wider (fun c h => by omega)), hp5, by rw [el, tl]⟩)
      · refine x_aload_n 2 dX10_gone_181 rfl rfl ?_
        refine x_getR fX10_10 dX10_gone_182 l0 rfl ?_
        refine x_iconst (v := nI 3) dX10_gone_185 (by decide) ?_
        refine x_callVu (as := [_]) (rest := []) vX10_109 (c_X9_find (by decide) (by decide)) dX10_gone_186 l1 rfl rfl rfl (Nat.le_of_ble_eq_true rfl) (Nat.le_of_ble_eq_true rfl) (Nat.le_of_ble_eq_true rfl) ?_
        refine x_iret rfl dX10_gone_189 (q2_0 (fun h => by have h2 := (hgg.mp h).2.2; rcases hr3 with ⟨h3, _⟩ | ⟨_, h3⟩; exact absurd (h3.symm.trans c_178) (by decide); exact h3 h2) ⟨rfl, _, hf40, rfl⟩)
    · refine x_aload_n 2 dX10_gone_111 rfl rfl ?_
      refine x_getR fX10_40 dX10_gone_112 l0 rfl ?_
      refine x_aload_n 2 dX10_gone_115 rfl rfl ?_
      refine x_getR fX10_21 dX10_gone_116 l0 rfl ?_
      refine x_iload_n 3 dX10_gone_119 rfl rfl ?_
      refine x_iload_n 0 dX10_gone_120 rfl rfl ?_
      refine x_callVu (as := [_, _]) (rest := [_]) vX10_124 (c_getR ((rwS_k (by decide)).trans hS.1) ha ((rwS_k (by decide)).trans ez) hz (by omega) (rwS_k (by decide))) dX10_gone_121 l3 rfl rfl rfl (Nat.le_of_ble_eq_true rfl) (Nat.le_of_ble_eq_true rfl) (Nat.le_of_ble_eq_true rfl) ?_
      refine x_callVb (as := [_]) (rest := []) vX10_367 (c_X1_isPlace hI1 hO) dX10_gone_124 l11 rfl rfl rfl (Nat.le_of_ble_eq_true rfl) (Nat.le_of_ble_eq_true rfl) (Nat.le_of_ble_eq_true rfl) (fun c_124 => ?_) (fun c_124 => ?_)
      · refine t_if_ne 139 dX10_gone_127 (by decide) (by decide) ?_
        refine x_aload_n 2 dX10_gone_139 rfl rfl ?_
        refine x_getR fX10_53 dX10_gone_140 l0 rfl ?_
        refine x_getR fX10_185 dX10_gone_143 l40 rfl ?_
        refine x_iload_n 0 dX10_gone_146 rfl rfl ?_
        refine x_aload_n 2 dX10_gone_147 rfl rfl ?_
        refine x_getR fX10_21 dX10_gone_148 l0 rfl ?_
        refine x_iload_n 3 dX10_gone_151 rfl rfl ?_
        refine x_iload_n 0 dX10_gone_152 rfl rfl ?_
        refine x_callVu (as := [_, _]) (rest := [_, _]) vX10_124 (c_getR ((rwS_k (by decide)).trans hS.1) ha ((rwS_k (by decide)).trans ez) hz (by omega) (rwS_k (by decide))) dX10_gone_153 l3 rfl rfl rfl (Nat.le_of_ble_eq_true rfl) (Nat.le_of_ble_eq_true rfl) (Nat.le_of_ble_eq_true rfl) ?_
        refine y_iast dX10_gone_156 l41 (by omega) (by decide) ?_
        refine y_iinc (lv' := [(3, _), (2, _), (0, _), (1, _)]) 0 dX10_gone_157 rfl (by decide) rfl ?_
        refine x_goto 100 dX10_gone_160 (by decide) ?_
        refine x_pick (lv' := [(3, _), (2, _), (0, _), (1, _)]) [0, 1, 2, 3] rfl ?_
        refine x_cast (rwS_s0 S 41 k (fun t => S.1 5 (a * 60 + t))) ?_
        exact ih (iM I - (k + 1)) (by omega) (k + 1) rfl (by omega) (fun t ht => by rcases Nat.lt_succ_iff_lt_or_eq.mp ht with h | h; exact hx t h; subst h; exact c_124)
      · refine u_if_ne 139 dX10_gone_127 (by decide) (by decide) ?_
        refine x_aload_n 2 dX10_gone_130 rfl rfl ?_
        refine x_getR fX10_10 dX10_gone_131 l0 rfl ?_
        refine x_iconst (v := nI 3) dX10_gone_134 (by decide) ?_
        refine x_callVu (as := [_]) (rest := []) vX10_109 (c_X9_find (by decide) (by decide)) dX10_gone_135 l1 rfl rfl rfl (Nat.le_of_ble_eq_true rfl) (Nat.le_of_ble_eq_true rfl) (Nat.le_of_ble_eq_true rfl) ?_
        refine x_iret rfl dX10_gone_138 (q2_0 (fun h => c_124 ((hgg.mp h).2.1 k (by omega))) ⟨rfl, _, hf41, rfl⟩)

set_option maxHeartbeats 4000000 in
set_option maxRecDepth 100000 in
theorem c_X10_gone {S : St} {I : Isl} (hI : IsX 11 I S) (hO : IOK I) (hS : RwS 3 6 60 S) {x : Int32} : C 4 120 yX10_gone mX10_gone [.ref 0, .int x] S (qi (i5 (¬ (0 ≤ x.toInt ∧ x.toInt < 6)) ((S.1 4 (tn x)).toInt < 0) (¬ (S.1 4 (tn x)).toInt = (iM I : Int) + 1) (¬ goodG I (fun t => S.1 5 (tn x * 60 + t))) (an (-1) S) (an (-3) (fndS S 1)) (an (-3) (fndS S 5)) (fun r S' => r = -3 ∧ ∃ S2, Fr (fun c => 40 ≤ c ∧ c ≤ 44) S S2 ∧ S' = fndS S2 3) (fun r S' => r = nI 1 ∧ ∃ S2, Fr (fun c => 36 ≤ c ∧ c ≤ 44) S S2 ∧ PlT 35 I (digF (codeF I (fun t => tn (S.1 5 (tn x * 60 + t))))) S2 ∧ S' = setI (setI S2 35 5 (nI (tn (S.1 5 (tn x * 60 + iM I))))) 60 0 (nI 0)))) := by
  have hO1 := hO.1
  have hO2 := hO.2.1
  have hO3 := hO.2.2.1
  have hO4 := hO.2.2.2.1
  refine C.ofX (by decide) rfl (Nat.le_of_ble_eq_true rfl) ?_
  show X 4 120 mX10_gone (qi (i5 (¬ (0 ≤ x.toInt ∧ x.toInt < 6)) ((S.1 4 (tn x)).toInt < 0) (¬ (S.1 4 (tn x)).toInt = (iM I : Int) + 1) (¬ goodG I (fun t => S.1 5 (tn x * 60 + t))) (an (-1) S) (an (-3) (fndS S 1)) (an (-3) (fndS S 5)) (fun r S' => r = -3 ∧ ∃ S2, Fr (fun c => 40 ≤ c ∧ c ≤ 44) S S2 ∧ S' = fndS S2 3) (fun r S' => r = nI 1 ∧ ∃ S2, Fr (fun c => 36 ≤ c ∧ c ≤ 44) S S2 ∧ PlT 35 I (digF (codeF I (fun t => tn (S.1 5 (tn x * 60 + t))))) S2 ∧ S' = setI (setI S2 35 5 (nI (tn (S.1 5 (tn x * 60 + iM I))))) 60 0 (nI 0)))) 0 [(0, .ref 0), (1, .int x)] [] S
  refine x_aload_n 0 dX10_gone_0 rfl rfl ?_
  refine x_getR fX10_21 dX10_gone_1 l0 rfl ?_
  refine x_iload_n 1 dX10_gone_4 rfl rfl ?_
  refine x_callVb (as := [_]) (rest := []) vX10_105 (c_X5_isOne isR) dX10_gone_5 l3 rfl rfl rfl (Nat.le_of_ble_eq_true rfl) (Nat.le_of_ble_eq_true rfl) (Nat.le_of_ble_eq_true rfl) (fun c_5 => ?_) (fun c_5 => ?_)
  · refine t_if_ne 13 dX10_gone_8 (by decide) (by decide) ?_
    obtain ⟨a, ha, rfl⟩ := nI_ex (x := x) (n := 6) (by omega) (by omega)
    have ea : (nI a).toInt = (a : Int) := tiN (by omega)
    have ta : tn (nI a) = a := tnN (by omega)
    refine x_aload_n 0 dX10_gone_13 rfl rfl ?_
    refine x_getR fX10_21 dX10_gone_14 l0 rfl ?_
    refine x_iload_n 1 dX10_gone_17 rfl rfl ?_
    refine x_callVb (as := [_]) (rest := []) vX10_117 (c_miss ha) dX10_gone_18 l3 rfl rfl rfl (Nat.le_of_ble_eq_true rfl) (Nat.le_of_ble_eq_true rfl) (Nat.le_of_ble_eq_true rfl) (fun c_18 => ?_) (fun c_18 => ?_)
    · refine u_if_eq 33 dX10_gone_21 (by decide) (by decide) ?_
      refine x_aload_n 0 dX10_gone_24 rfl rfl ?_
      refine x_getR fX10_10 dX10_gone_25 l0 rfl ?_
      refine x_iconst (v := nI 1) dX10_gone_28 (by decide) ?_
      refine x_callVu (as := [_]) (rest := []) vX10_109 (c_X9_find (by decide) (by decide)) dX10_gone_29 l1 rfl rfl rfl (Nat.le_of_ble_eq_true rfl) (Nat.le_of_ble_eq_true rfl) (Nat.le_of_ble_eq_true rfl) ?_
      refine x_iret rfl dX10_gone_32 (by simp only [ta]; exact q5_1 (by omega) (by omega) ⟨rfl, rfl⟩)
    · refine t_if_eq 33 dX10_gone_21 (by decide) (by decide) ?_
      obtain ⟨z, hz, ez⟩ := hS.nn ha c_18
      have ezi : (nI z).toInt = (z : Int) := tiN (by omega)
      refine x_aload_n 0 dX10_gone_33 rfl rfl ?_
      refine x_getR fX10_21 dX10_gone_34 l0 rfl ?_
      refine x_iload_n 1 dX10_gone_37 rfl rfl ?_
      refine x_callVu (as := [_]) (rest := []) vX10_141 (c_sizeOf isR ha ez) dX10_gone_38 l3 rfl rfl rfl (Nat.le_of_ble_eq_true rfl) (Nat.le_of_ble_eq_true rfl) (Nat.le_of_ble_eq_true rfl) ?_
      refine x_aload_n 0 dX10_gone_41 rfl rfl ?_
      refine x_getR fX10_40 dX10_gone_42 l0 rfl ?_
      refine y_getI fX10_173 dX10_gone_45 l11 rfl hI.2.1 ?_
      refine x_iconst (v := nI 1) dX10_gone_48 (by decide) ?_
      refine y_iadd dX10_gone_49 ?_
      refine y_ic_eq 62 dX10_gone_50 (by decide) (by omega) (by omega) (fun c_50 => ?_) (fun c_50 => ?_)
      · refine x_aload_n 0 dX10_gone_62 rfl rfl ?_
        refine x_getR fX10_21 dX10_gone_63 l0 rfl ?_
        refine x_iload_n 1 dX10_gone_66 rfl rfl ?_
        refine x_aload_n 0 dX10_gone_67 rfl rfl ?_
        refine x_getR fX10_40 dX10_gone_68 l0 rfl ?_
        refine y_getI fX10_173 dX10_gone_71 l11 rfl hI.2.1 ?_
        refine x_callVu (as := [_, _]) (rest := []) vX10_124 (c_getR hS.1 ha ez hz (by omega) rfl) dX10_gone_74 l3 rfl rfl rfl (Nat.le_of_ble_eq_true rfl) (Nat.le_of_ble_eq_true rfl) (Nat.le_of_ble_eq_true rfl) ?_
        refine x_istore_n (lv' := [(2, _), (0, _), (1, _)]) dX10_gone_77 rfl (by decide) rfl ?_
        refine x_iload_n 0 dX10_gone_78 rfl rfl ?_
        refine x_iconst (v := nI 1) dX10_gone_79 (by decide) ?_
        refine z_ic_lt 89 dX10_gone_80 (by decide) (by omega) (fun c_80 => ?_) (fun c_80 => ?_)
        · refine x_aload_n 1 dX10_gone_89 rfl rfl ?_
          refine x_getR fX10_10 dX10_gone_90 l0 rfl ?_
          refine x_iconst (v := nI 3) dX10_gone_93 (by decide) ?_
          refine x_callVu (as := [_]) (rest := []) vX10_109 (c_X9_find (by decide) (by decide)) dX10_gone_94 l1 rfl rfl rfl (Nat.le_of_ble_eq_true rfl) (Nat.le_of_ble_eq_true rfl) (Nat.le_of_ble_eq_true rfl) ?_
          refine x_iret rfl dX10_gone_97 (by simp only [ta, ez]; exact q5_3 (by omega) (by omega) (by omega) (fun h => by have h1 : 1 ≤ (S.1 5 (a * 60 + iM I)).toInt ∧ (S.1 5 (a * 60 + iM I)).toInt ≤ 6 := h.1; omega) ⟨rfl, S, Fr.refl, rfl⟩)
        · refine x_iload_n 0 dX10_gone_83 rfl rfl ?_
          refine x_bipush (v := nI 6) dX10_gone_84 (by decide) ?_
          refine z_ic_le 98 dX10_gone_86 (by decide) (by omega) (fun c_86 => ?_) (fun c_86 => ?_)
          · obtain ⟨l, hl7, el⟩ := nI_ex (x := S.1 5 (a * 60 + iM I)) (n := 7) (by omega) (by omega)
            rw [el, tiN (by omega)] at c_80 c_86
            rw [el]
            refine x_iconst (v := nI 0) dX10_gone_98 (by decide) ?_
            refine x_istore_n (lv' := [(3, _), (2, _), (0, _), (1, _)]) dX10_gone_99 rfl (by decide) rfl ?_
            refine x_pick (lv' := [(3, _), (2, _), (0, _), (1, _)]) [0, 1, 2, 3] rfl ?_
            have hh := lp_goneX hI hO hS ha ez hz (by omega) el (by omega) (by omega) 0 (Nat.zero_le _) (fun t ht => absurd ht (Nat.not_lt_zero t))
            rw [rwS_0] at hh
            refine hh.mono (fun v S' hq => ?_)
            obtain ⟨r, rfl, hr⟩ := hq
            simp only [ta, ez]
            by_cases hg : goodG I (fun t => S.1 5 (a * 60 + t))
            · rw [e2_1 (fun q => q hg)] at hr
              exact q5_4 (by omega) (by omega) (by omega) (fun q => q hg) hr
            · rw [e2_0 hg] at hr
              exact q5_3 (by omega) (by omega) (by omega) hg hr
          · refine x_aload_n 1 dX10_gone_89 rfl rfl ?_
            refine x_getR fX10_10 dX10_gone_90 l0 rfl ?_
            refine x_iconst (v := nI 3) dX10_gone_93 (by decide) ?_
            refine x_callVu (as := [_]) (rest := []) vX10_109 (c_X9_find (by decide) (by decide)) dX10_gone_94 l1 rfl rfl rfl (Nat.le_of_ble_eq_true rfl) (Nat.le_of_ble_eq_true rfl) (Nat.le_of_ble_eq_true rfl) ?_
            refine x_iret rfl dX10_gone_97 (by simp only [ta, ez]; exact q5_3 (by omega) (by omega) (by omega) (fun h => by have h1 : 1 ≤ (S.1 5 (a * 60 + iM I)).toInt ∧ (S.1 5 (a * 60 + iM I)).toInt ≤ 6 := h.1; omega) ⟨rfl, S, Fr.refl, rfl⟩)
      · refine x_aload_n 0 dX10_gone_53 rfl rfl ?_
        refine x_getR fX10_10 dX10_gone_54 l0 rfl ?_
        refine x_iconst (v := nI 5) dX10_gone_57 (by decide) ?_
        refine x_callVu (as := [_]) (rest := []) vX10_109 (c_X9_find (by decide) (by decide)) dX10_gone_58 l1 rfl rfl rfl (Nat.le_of_ble_eq_true rfl) (Nat.le_of_ble_eq_true rfl) (Nat.le_of_ble_eq_true rfl) ?_
        refine x_iret rfl dX10_gone_61 (by simp only [ta, ez]; exact q5_2 (by omega) (by omega) (by omega) ⟨rfl, rfl⟩)
  · refine u_if_ne 13 dX10_gone_8 (by decide) (by decide) ?_
    refine x_iconst (v := -1) dX10_gone_11 (by decide) ?_
    refine x_iret rfl dX10_gone_12 (q5_0 c_5 ⟨rfl, rfl⟩)

theorem IsM.rw {I : Isl} {S : St} (h : IsM I S) (k : Nat) (f : Nat → Int32) : IsM I (rwS S 97 0 k f) := h.keep (fun j _ => rwS_k (by decide)) (fun a ha b => rwS_k (by intro e; subst e; revert ha; decide))
theorem rw_f (S : St) (k : Nat) (f : Nat → Int32) : F97 S (rwS S 97 0 k f) := ⟨rfl, fun a ha b => rwS_k ha⟩

