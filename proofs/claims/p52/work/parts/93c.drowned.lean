/-! ===== drowned ===== -/
def Dfr (S S1 : St) : Prop := ∀ a b, ¬ (a = 1 ∧ b = 0) → ¬ (a = 63 ∧ b = 0) → ¬ a = 64 → ¬ a = 65 → S1.1 a b = S.1 a b
def DrS (I : Isl) (S S1 : St) (c : Nat) (sw si : Nat → Nat) : Prop := Dfr S S1 ∧ S1.1 63 0 = nI c ∧ ∀ i, i < c → S1.1 64 i = nI (sw i) ∧ S1.1 65 i = nI (si i) ∧ sw i < iW I ∧ si i ≤ 1
theorem Dfr.I {I : Isl} {S S1 : St} (h : Dfr S S1) (hI : IsX 11 I S) : IsX 11 I S1 := hI.keep (fun a h1 h2 b => h a b (by omega) (by omega) (by omega) (by omega))
theorem Dfr.L {S S1 : St} (h : Dfr S S1) (hL : S.1 35 5 = nI 3) : S1.1 35 5 = nI 3 := (h 35 5 (by omega) (by omega) (by omega) (by omega)).trans hL
noncomputable def cbF (I : Isl) (c : Nat) (sw si : Nat → Nat) : Nat := cb (hadB I 3 c sw si) (2 ^ iM I)
section DR
variable {S S1 : St} {I : Isl} {c : Nat} {sw si : Nat → Nat}
theorem c_drownedD (h : DrS I S S1 c sw si) (hI : IsX 11 I S) (hO : IOK I) (hL : S.1 35 5 = nI 3) (hc : c ≤ 8) : C 2 60 yX10_drowned mX10_drowned [.ref 0] S1 (qi (fun r S' => r = nI (cbF I c sw si) ∧ S'.1 1 0 = nI (dwT I 3 c sw si) ∧ DrS I S S' c sw si)) := by
  refine (c_X10_drowned (h.1.I hI) hO hc h.2.2 (by decide) h.2.1 (h.1.L hL)).mono (fun v S' hq => ?_)
  obtain ⟨rfl, rfl⟩ := hq
  refine ⟨_, rfl, rfl, rdI_eq, fun a b q1 q2 q3 q4 => ?_, (rdI_k (by decide)).trans h.2.1, fun i hi => ?_⟩
  · by_cases z : a = 1
    · subst z
      rw [rdI_j (by omega)]; exact h.1 1 b q1 q2 q3 q4
    · rw [rdI_k z]; exact h.1 a b q1 q2 q3 q4
  · rw [rdI_k (by decide), rdI_k (by decide)]; exact h.2.2 i hi
theorem c_sawD {a b : Nat} (h : DrS I S S1 c sw si) (hI : IsX 11 I S) (hO : IOK I) (hc : c ≤ 7) (ha : a < iW I) (hb : b ≤ 1) : C 2 60 yX10_saw mX10_saw [.ref 0, .int (nI a), .int (nI b)] S1 (qi (fun r S' => r = nI c ∧ DrS I S S' (c + 1) (upW sw c a) (upW si c b))) := by
  have hO3 := hO.2.2.1
  have ea : (nI a).toInt = (a : Int) := tiN (by omega)
  have eb : (nI b).toInt = (b : Int) := tiN (by omega)
  refine (c_X10_saw (x := nI a) (y := nI b) (h.1.I hI) hO h.2.1 (by omega)).mono (fun v S' hq => ?_)
  obtain ⟨rfl, rfl⟩ := hq
  rw [e3_2 (fun z => z ⟨⟨by omega, by omega⟩, by omega, by omega⟩) (by omega), e3_2 (fun z => z ⟨⟨by omega, by omega⟩, by omega, by omega⟩) (by omega)]
  refine ⟨_, rfl, rfl, fun x y q1 q2 q3 q4 => ?_, rdI_eq, fun i hi => ?_⟩
  · by_cases z : x = 63
    · subst z
      rw [rdI_j (by omega), rdI_k (by decide), rdI_k (by decide)]; exact h.1 63 y q1 q2 q3 q4
    · rw [rdI_k z, rdI_k q4, rdI_k q3]; exact h.1 x y q1 q2 q3 q4
  · by_cases z : i = c
    · subst z
      rw [upW_eq, upW_eq, rdI_k (by decide), rdI_k (by decide), rdI_eq, rdI_k (by decide), rdI_eq]
      exact ⟨rfl, rfl, ha, hb⟩
    · rw [upW_ne z, upW_ne z, rdI_k (by decide), rdI_k (by decide), rdI_j z, rdI_k (by decide), rdI_j z]
      exact h.2.2 i (by omega)
theorem c_oddsD {t : Nat} (h : DrS I S S1 c sw si) (hI : IsX 11 I S) (hO : IOK I) (hL : S.1 35 5 = nI 3) (hc : c ≤ 8) (ht : t < iM I) (hn : 0 < cbF I c sw si) : C 2 60 yX10_odds mX10_odds [.ref 0, .int (nI t)] S1 (qi (fun r S' => r = nI (wiA (hadB I 3 c sw si) t (2 ^ iM I)) ∧ S'.2 1 1 = nL (wiA (hadB I 3 c sw si) t (2 ^ iM I) / Nat.gcd (wiA (hadB I 3 c sw si) t (2 ^ iM I)) (cbF I c sw si)) ∧ S'.2 1 2 = nL (cbF I c sw si / Nat.gcd (wiA (hadB I 3 c sw si) t (2 ^ iM I)) (cbF I c sw si)) ∧ DrS I S S' c sw si)) := by
  have hO2 := hO.2.1
  have et : (nI t).toInt = (t : Int) := tiN (by omega)
  have tt : tn (nI t) = t := tnN (by omega)
  refine (c_X10_odds (x := nI t) (h.1.I hI) hO hc h.2.2 (by decide) h.2.1 (h.1.L hL)).mono (fun v S' hq => ?_)
  obtain ⟨rfl, rfl⟩ := hq
  unfold cbF at hn
  rw [e3_2 (fun z => z ⟨by omega, by omega⟩) (by omega), e3_2 (fun z => z ⟨by omega, by omega⟩) (by omega), tt]
  exact ⟨_, rfl, rfl, (rdL_j (by decide)).trans rdL_eq, rdL_eq, h.1, h.2.1, h.2.2⟩
theorem c_forgetD (h : DrS I S S1 c sw si) (hc : c ≤ 8) : C 0 0 yX10_forget mX10_forget [.ref 0, .int (nI 0)] S1 (qi (fun r S' => 0 ≤ r.toInt ∧ Dfr S S' ∧ S'.1 63 0 = nI 0)) := by
  have e0 : (nI 0).toInt = 0 := rfl
  refine (c_X10_forget (x := nI 0) h.2.1 hc).mono (fun v S' hq => ?_)
  obtain ⟨rfl, rfl⟩ := hq
  rw [e2_1 (fun z => z ⟨by omega, by omega⟩), e2_1 (fun z => z ⟨by omega, by omega⟩)]
  refine ⟨_, rfl, by rw [tiN (by omega)]; omega, fun a b q1 q2 q3 q4 => ?_, rdI_eq⟩
  by_cases z : a = 63
  · subst z
    rw [rdI_j (by omega)]; exact h.1 63 b q1 q2 q3 q4
  · rw [rdI_k z]; exact h.1 a b q1 q2 q3 q4
end DR
theorem aA_le {b : Nat → Bool} {z : Nat} : ∀ n, aA b z n ≤ z
  | 0 => Nat.le_refl _
  | n + 1 => by
    by_cases h : b n = true
    · rw [aA_t h]; exact Nat.le_trans Nat.and_le_left (aA_le n)
    · rw [aA_f h]; exact aA_le n
theorem dwT_lt {I : Isl} (hO : IOK I) {L c : Nat} {sw si : Nat → Nat} : dwT I L c sw si < 32 := by
  have h2 : 2 ^ iM I ≤ 2 ^ 5 := Nat.pow_le_pow_right (by decide) hO.2.1
  have h1 := Nat.two_pow_pos (iM I)
  unfold dwT
  split
  · decide
  · have := aA_le (b := hadB I L c sw si) (z := 2 ^ iM I - 1) (2 ^ iM I)
    omega
theorem c_upperA {S1 : St} {v : Int64} (h : S1.2 1 1 = v) : C 0 0 yX10_upper mX10_upper [.ref 0] S1 (pu (.long v) S1) := by
  subst h
  exact c_X10_upper
theorem c_lowerA {S1 : St} {v : Int64} (h : S1.2 1 2 = v) : C 0 0 yX10_lower mX10_lower [.ref 0] S1 (pu (.long v) S1) := by
  subst h
  exact c_X10_lower
theorem cmp_eq {x y : Int64} (h : x = y) : lg_cmp x y = 0 := by
  subst h
  unfold lg_cmp
  rw [if_neg (fun q => Int64.lt_irrefl q), if_pos rfl]
theorem cbF_s {I : Isl} {c a b : Nat} {sw si : Nat → Nat} : cbF I (c + 1) (upW sw c a) (upW si c b) ≤ cbF I c sw si := by
  unfold cbF
  refine cb_up fun s _ h => ?_
  have := had_s h
  rw [had_c (sw := sw) (si := si) (fun i hi => ⟨upW_ne (by omega), upW_ne (by omega)⟩)] at this
  exact this
theorem cbF_le {I : Isl} (h4 : iM I ≤ 4) {c : Nat} {sw si : Nat → Nat} : cbF I c sw si ≤ 16 := by
  have h1 := cb_le (b := hadB I 3 c sw si) (2 ^ iM I)
  have h2 : 2 ^ iM I ≤ 2 ^ 4 := Nat.pow_le_pow_right (by decide) h4
  unfold cbF
  omega

set_option maxHeartbeats 4000000 in
set_option maxRecDepth 100000 in
theorem dr_B {S : St} {sc : Sc} (hsc : sc.1 ≤ 260) {I : Isl} (hI : IsX 11 I S) (hO : IOK I) (hL : S.1 35 5 = nI 3) (h4 : iM I ≤ 4) {k a b : Nat} {sw si : Nat → Nat} (hk : k < 4) {Q : Option Value → St → Prop} (H : ∀ S1, DrS I S S1 (k + 1) (upW sw k a) (upW si k b) → X 3 90 (mL_drowned sc) Q 28 [(6, .int (nI ((k + 1)))), (4, .int (nI ((cbF I (k + 1) (upW sw k a) (upW si k b))))), (0, .ref 0), (1, .ref 201), (2, .int (nI ((iM I)))), (3, .int (nI ((iW I))))] [] S1)  : ∀ (t : Nat) (z : Nat) (S1 : St), (t ≤ iM I) → (z ≤ (cbF I (k + 1) (upW sw k a) (upW si k b)) * t) → (DrS I S S1 (k + 1) (upW sw k a) (upW si k b)) → X 3 90 (mL_drowned sc) (Q) 103 [(11, .int (nI t)), (10, .int (nI z)), (9, .int (nI ((dwT I 3 (k + 1) (upW sw k a) (upW si k b))))), (8, .int (nI ((cbF I (k + 1) (upW sw k a) (upW si k b))))), (6, .int (nI k)), (4, .int (nI ((cbF I k sw si)))), (0, .ref 0), (1, .ref 201), (2, .int (nI ((iM I)))), (3, .int (nI ((iW I))))] [] S1 := by
  intro t z S1
  induction hm : iM I - t using Nat.strongRecOn generalizing t z S1 with
  | _ mm ih =>
    intro ht hz hx
    have hO1 := hO.1
    have hO2 := hO.2.1
    have hO3 := hO.2.2.1
    have hnow := cbF_le (c := k + 1) (sw := (upW sw k a)) (si := (upW si k b)) h4
    have hofl : (wiA (hadB I 3 (k + 1) (upW sw k a) (upW si k b)) t (2 ^ iM I)) ≤ (cbF I (k + 1) (upW sw k a) (upW si k b)) := wiA_le _
    have hdw : t < iM I → 0 < (cbF I (k + 1) (upW sw k a) (upW si k b)) → ((dwT I 3 (k + 1) (upW sw k a) (upW si k b)) / 2 ^ t % 2 = 1 ↔ (wiA (hadB I 3 (k + 1) (upW sw k a) (upW si k b)) t (2 ^ iM I)) = (cbF I (k + 1) (upW sw k a) (upW si k b))) := fun q1 q2 => has_iff.trans (dw_bit q1 (by unfold cbF at q2; omega))
    have hb32 := dwT_lt hO (L := 3) (c := k + 1) (sw := (upW sw k a)) (si := (upW si k b))
    have hz4 : (cbF I (k + 1) (upW sw k a) (upW si k b)) * t ≤ (cbF I (k + 1) (upW sw k a) (upW si k b)) * 4 := Nat.mul_le_mul_left _ (by omega)
    have hzs : (cbF I (k + 1) (upW sw k a) (upW si k b)) * (t + 1) = (cbF I (k + 1) (upW sw k a) (upW si k b)) * t + (cbF I (k + 1) (upW sw k a) (upW si k b)) := Nat.mul_succ _ _
    refine x_iload 0 dL_drowned_103 rfl ?_
    refine x_iload_n 8 dL_drowned_105 rfl rfl ?_
    refine y_ic_ge 200 dL_drowned_106 (by decide) (by omega) (by omega) (fun c_106 => ?_) (fun c_106 => ?_)
    · refine x_iload 3 dL_drowned_200 rfl ?_
      refine y_if_le 217 dL_drowned_202 (by decide) (by omega) (fun c_202 => ?_) (fun c_202 => ?_)
      · refine x_iload 3 dL_drowned_217 rfl ?_
        refine x_istore (lv' := [(4, _), (11, _), (10, _), (9, _), (8, _), (6, _), (0, _), (1, _), (2, _), (3, _)]) dL_drowned_219 (lt_ok rfl) rfl ?_
        refine y_iinc (lv' := [(6, _), (4, _), (11, _), (10, _), (9, _), (8, _), (0, _), (1, _), (2, _), (3, _)]) 5 dL_drowned_221 rfl (lt_ok rfl) rfl ?_
        refine x_goto 28 dL_drowned_224 (by decide) ?_
        refine x_pick (lv' := [(6, _), (4, _), (0, _), (1, _), (2, _), (3, _)]) [0, 1, 6, 7, 8, 9] rfl ?_
        exact H _ hx
      · refine x_iload 1 dL_drowned_205 rfl ?_
        refine x_bipush (v := nI 6) dL_drowned_207 (by decide) ?_
        refine x_iload 3 dL_drowned_209 rfl ?_
        refine y_imul dL_drowned_211 ?_
        refine y_ic_le 217 dL_drowned_212 (by decide) (by omega) (by omega) (fun c_212 => ?_) (fun c_212 => ?_)
        · refine x_iload 3 dL_drowned_217 rfl ?_
          refine x_istore (lv' := [(4, _), (11, _), (10, _), (9, _), (8, _), (6, _), (0, _), (1, _), (2, _), (3, _)]) dL_drowned_219 (lt_ok rfl) rfl ?_
          refine y_iinc (lv' := [(6, _), (4, _), (11, _), (10, _), (9, _), (8, _), (0, _), (1, _), (2, _), (3, _)]) 5 dL_drowned_221 rfl (lt_ok rfl) rfl ?_
          refine x_goto 28 dL_drowned_224 (by decide) ?_
          refine x_pick (lv' := [(6, _), (4, _), (0, _), (1, _), (2, _), (3, _)]) [0, 1, 6, 7, 8, 9] rfl ?_
          exact H _ hx
        · refine x_iconst (v := nI 0) dL_drowned_215 (by decide) ?_
          refine x_zret rfl dL_drowned_216 (by decide) (by exfalso; omega)
    · refine x_iload 3 dL_drowned_109 rfl ?_
      refine y_if_le 200 dL_drowned_111 (by decide) (by omega) (fun c_111 => ?_) (fun c_111 => ?_)
      · refine x_iload 3 dL_drowned_200 rfl ?_
        refine y_if_le 217 dL_drowned_202 (by decide) (by omega) (fun c_202 => ?_) (fun c_202 => ?_)
        · refine x_iload 3 dL_drowned_217 rfl ?_
          refine x_istore (lv' := [(4, _), (11, _), (10, _), (9, _), (8, _), (6, _), (0, _), (1, _), (2, _), (3, _)]) dL_drowned_219 (lt_ok rfl) rfl ?_
          refine y_iinc (lv' := [(6, _), (4, _), (11, _), (10, _), (9, _), (8, _), (0, _), (1, _), (2, _), (3, _)]) 5 dL_drowned_221 rfl (lt_ok rfl) rfl ?_
          refine x_goto 28 dL_drowned_224 (by decide) ?_
          refine x_pick (lv' := [(6, _), (4, _), (0, _), (1, _), (2, _), (3, _)]) [0, 1, 6, 7, 8, 9] rfl ?_
          exact H _ hx
        · refine x_iload 1 dL_drowned_205 rfl ?_
          refine x_bipush (v := nI 6) dL_drowned_207 (by decide) ?_
          refine x_iload 3 dL_drowned_209 rfl ?_
          refine y_imul dL_drowned_211 ?_
          refine y_ic_le 217 dL_drowned_212 (by decide) (by omega) (by omega) (fun c_212 => ?_) (fun c_212 => ?_)
          · refine x_iload 3 dL_drowned_217 rfl ?_
            refine x_istore (lv' := [(4, _), (11, _), (10, _), (9, _), (8, _), (6, _), (0, _), (1, _), (2, _), (3, _)]) dL_drowned_219 (lt_ok rfl) rfl ?_
            refine y_iinc (lv' := [(6, _), (4, _), (11, _), (10, _), (9, _), (8, _), (0, _), (1, _), (2, _), (3, _)]) 5 dL_drowned_221 rfl (lt_ok rfl) rfl ?_
            refine x_goto 28 dL_drowned_224 (by decide) ?_
            refine x_pick (lv' := [(6, _), (4, _), (0, _), (1, _), (2, _), (3, _)]) [0, 1, 6, 7, 8, 9] rfl ?_
            exact H _ hx
          · refine x_iconst (v := nI 0) dL_drowned_215 (by decide) ?_
            refine x_zret rfl dL_drowned_216 (by decide) (by exfalso; omega)
      · refine x_aload_n 6 dL_drowned_114 rfl rfl ?_
        refine x_iload 0 dL_drowned_115 rfl ?_
        refine x_callVqi (as := [_]) (rest := []) vL_208 (c_oddsD hx hI hO hL (show k + 1 ≤ 8 by omega) (show t < iM I by omega) (by omega)) dL_drowned_117 l0 rfl rfl rfl (Nat.le_of_ble_eq_true rfl) (Nat.le_of_ble_eq_true rfl) (Nat.le_of_ble_eq_true rfl) (fun r_117 S_117 q_117 => ?_)
        obtain ⟨rfl, u_117, l_117, x_117⟩ := q_117
        have hd2 := hdw (by omega) (by omega)
        refine x_istore (lv' := [(12, _), (11, _), (10, _), (9, _), (8, _), (6, _), (4, _), (0, _), (1, _), (2, _), (3, _)]) dL_drowned_120 (lt_ok rfl) rfl ?_
        refine x_iload 2 dL_drowned_122 rfl ?_
        refine x_iload 0 dL_drowned_124 rfl ?_
        refine y_iadd dL_drowned_126 ?_
        refine x_istore (lv' := [(10, _), (12, _), (11, _), (9, _), (8, _), (6, _), (4, _), (0, _), (1, _), (2, _), (3, _)]) dL_drowned_127 (lt_ok rfl) rfl ?_
        refine x_iload 1 dL_drowned_129 rfl ?_
        refine y_if_lt 192 dL_drowned_131 (by decide) (by omega) (fun c_131 => ?_) (fun c_131 => ?_)
        · refine x_iconst (v := nI 0) dL_drowned_192 (by decide) ?_
          refine x_zret rfl dL_drowned_193 (by decide) (by exfalso; omega)
        · refine x_iload 1 dL_drowned_134 rfl ?_
          refine x_iload 4 dL_drowned_136 rfl ?_
          refine y_ic_gt 192 dL_drowned_138 (by decide) (by omega) (by omega) (fun c_138 => ?_) (fun c_138 => ?_)
          · refine x_iconst (v := nI 0) dL_drowned_192 (by decide) ?_
            refine x_zret rfl dL_drowned_193 (by decide) (by exfalso; omega)
          · refine x_aload_n 7 dL_drowned_141 rfl rfl ?_
            refine x_callVu (as := []) (rest := []) vL_211 (c_upperA u_117) dL_drowned_142 l0 rfl rfl rfl (Nat.le_of_ble_eq_true rfl) (Nat.le_of_ble_eq_true rfl) (Nat.le_of_ble_eq_true rfl) ?_
            refine x_iload 4 dL_drowned_145 rfl ?_
            refine x_i2l dL_drowned_147 ?_
            refine x_lmul dL_drowned_148 ?_
            refine x_iload 1 dL_drowned_149 rfl ?_
            refine x_i2l dL_drowned_151 ?_
            refine x_aload_n 7 dL_drowned_152 rfl rfl ?_
            refine x_callVu (as := []) (rest := [_, _]) vL_214 (c_lowerA l_117) dL_drowned_153 l0 rfl rfl rfl (Nat.le_of_ble_eq_true rfl) (Nat.le_of_ble_eq_true rfl) (Nat.le_of_ble_eq_true rfl) ?_
            refine x_lmul dL_drowned_156 ?_
            refine x_lcmp dL_drowned_157 ?_
            refine u_if_ne 192 dL_drowned_158 (by decide) (cmp_eq (frac_ok (by omega) (by omega))) ?_
            refine x_iload 3 dL_drowned_161 rfl ?_
            refine x_iload 2 dL_drowned_163 rfl ?_
            refine y_ishr dL_drowned_165 (by omega) (by omega) ?_
            refine x_iconst (v := nI 1) dL_drowned_166 (by decide) ?_
            refine y_iand dL_drowned_167 ?_
            rw [show (((dwT I 3 (k + 1) (upW sw k a) (upW si k b)) / 2 ^ t) &&& 1) = ((dwT I 3 (k + 1) (upW sw k a) (upW si k b)) / 2 ^ t % 2) from by rw [Nat.and_one_is_mod]]
            refine x_iconst (v := nI 1) dL_drowned_168 (by decide) ?_
            refine y_ic_ne 176 dL_drowned_169 (by decide) (by omega) (by omega) (fun c_169 => ?_) (fun c_169 => ?_)
            · refine x_iconst (v := nI 0) dL_drowned_176 (by decide) ?_
              refine x_iload 1 dL_drowned_177 rfl ?_
              refine x_iload 4 dL_drowned_179 rfl ?_
              refine y_ic_ne 188 dL_drowned_181 (by decide) (by omega) (by omega) (fun c_181 => ?_) (fun c_181 => ?_)
              · refine x_iconst (v := nI 0) dL_drowned_188 (by decide) ?_
                refine y_ic_eq 194 dL_drowned_189 (by decide) (by omega) (by omega) (fun c_189 => ?_) (fun c_189 => ?_)
                · refine y_iinc (lv' := [(11, _), (10, _), (12, _), (9, _), (8, _), (6, _), (4, _), (0, _), (1, _), (2, _), (3, _)]) 2 dL_drowned_194 rfl (lt_ok rfl) rfl ?_
                  refine x_goto 103 dL_drowned_197 (by decide) ?_
                  refine x_pick (lv' := [(11, _), (10, _), (9, _), (8, _), (6, _), (4, _), (0, _), (1, _), (2, _), (3, _)]) [0, 1, 3, 4, 5, 6, 7, 8, 9, 10] rfl ?_
                  exact ih (iM I - (t + 1)) (by omega) (t + 1) _ _ rfl (by omega) (by omega) x_117
                · refine x_iconst (v := nI 0) dL_drowned_192 (by decide) ?_
                  refine x_zret rfl dL_drowned_193 (by decide) (by exfalso; omega)
              · refine x_iconst (v := nI 1) dL_drowned_184 (by decide) ?_
                refine x_goto 189 dL_drowned_185 (by decide) ?_
                refine y_ic_eq 194 dL_drowned_189 (by decide) (by omega) (by omega) (fun c_189 => ?_) (fun c_189 => ?_)
                · refine y_iinc (lv' := [(11, _), (10, _), (12, _), (9, _), (8, _), (6, _), (4, _), (0, _), (1, _), (2, _), (3, _)]) 2 dL_drowned_194 rfl (lt_ok rfl) rfl ?_
                  refine x_goto 103 dL_drowned_197 (by decide) ?_
                  refine x_pick (lv' := [(11, _), (10, _), (9, _), (8, _), (6, _), (4, _), (0, _), (1, _), (2, _), (3, _)]) [0, 1, 3, 4, 5, 6, 7, 8, 9, 10] rfl ?_
                  exact ih (iM I - (t + 1)) (by omega) (t + 1) _ _ rfl (by omega) (by omega) x_117
                · refine x_iconst (v := nI 0) dL_drowned_192 (by decide) ?_
                  refine x_zret rfl dL_drowned_193 (by decide) (by exfalso; omega)
            · refine x_iconst (v := nI 1) dL_drowned_172 (by decide) ?_
              refine x_goto 177 dL_drowned_173 (by decide) ?_
              refine x_iload 1 dL_drowned_177 rfl ?_
              refine x_iload 4 dL_drowned_179 rfl ?_
              refine y_ic_ne 188 dL_drowned_181 (by decide) (by omega) (by omega) (fun c_181 => ?_) (fun c_181 => ?_)
              · refine x_iconst (v := nI 0) dL_drowned_188 (by decide) ?_
                refine y_ic_eq 194 dL_drowned_189 (by decide) (by omega) (by omega) (fun c_189 => ?_) (fun c_189 => ?_)
                · refine y_iinc (lv' := [(11, _), (10, _), (12, _), (9, _), (8, _), (6, _), (4, _), (0, _), (1, _), (2, _), (3, _)]) 2 dL_drowned_194 rfl (lt_ok rfl) rfl ?_
                  refine x_goto 103 dL_drowned_197 (by decide) ?_
                  refine x_pick (lv' := [(11, _), (10, _), (9, _), (8, _), (6, _), (4, _), (0, _), (1, _), (2, _), (3, _)]) [0, 1, 3, 4, 5, 6, 7, 8, 9, 10] rfl ?_
                  exact ih (iM I - (t + 1)) (by omega) (t + 1) _ _ rfl (by omega) (by omega) x_117
                · refine x_iconst (v := nI 0) dL_drowned_192 (by decide) ?_
                  refine x_zret rfl dL_drowned_193 (by decide) (by exfalso; omega)
              · refine x_iconst (v := nI 1) dL_drowned_184 (by decide) ?_
                refine x_goto 189 dL_drowned_185 (by decide) ?_
                refine y_ic_eq 194 dL_drowned_189 (by decide) (by omega) (by omega) (fun c_189 => ?_) (fun c_189 => ?_)
                · refine y_iinc (lv' := [(11, _), (10, _), (12, _), (9, _), (8, _), (6, _), (4, _), (0, _), (1, _), (2, _), (3, _)]) 2 dL_drowned_194 rfl (lt_ok rfl) rfl ?_
                  refine x_goto 103 dL_drowned_197 (by decide) ?_
                  refine x_pick (lv' := [(11, _), (10, _), (9, _), (8, _), (6, _), (4, _), (0, _), (1, _), (2, _), (3, _)]) [0, 1, 3, 4, 5, 6, 7, 8, 9, 10] rfl ?_
                  exact ih (iM I - (t + 1)) (by omega) (t + 1) _ _ rfl (by omega) (by omega) x_117
                · refine x_iconst (v := nI 0) dL_drowned_192 (by decide) ?_
                  refine x_zret rfl dL_drowned_193 (by decide) (by exfalso; omega)

set_option maxHeartbeats 4000000 in
set_option maxRecDepth 100000 in
theorem dr_A {S : St} {sc : Sc} (hsc : sc.1 ≤ 260) {I : Isl} (hI : IsX 11 I S) (hO : IOK I) (hL : S.1 35 5 = nI 3) (h4 : iM I ≤ 4)  : ∀ (k : Nat) (sw : Nat → Nat) (si : Nat → Nat) (S1 : St), (k ≤ 4) → (DrS I S S1 k sw si) → X 3 90 (mL_drowned sc) (qi (fun r S' => r = nI 1 ∧ Dfr S S' ∧ S'.1 63 0 = nI 0)) 28 [(6, .int (nI k)), (4, .int (nI ((cbF I k sw si)))), (0, .ref 0), (1, .ref 201), (2, .int (nI ((iM I)))), (3, .int (nI ((iW I))))] [] S1 := by
  intro k sw si S1
  induction hm : 4 - k using Nat.strongRecOn generalizing k sw si S1 with
  | _ mm ih =>
    intro hk hx
    have hO1 := hO.1
    have hO2 := hO.2.1
    have hO3 := hO.2.2.1
    have hcl := cel_lt (sc := sc) (k := 90 + k) (by omega)
    have hwas := cbF_le (c := k) (sw := sw) (si := si) h4
    have hmod : 0 < iW I → celF sc (90 + k) % iW I < iW I := fun q => Nat.mod_lt _ q
    have hns := cbF_s (I := I) (c := k) (a := celF sc (90 + k) % iW I) (b := celF sc (90 + k) / 8 % 2) (sw := sw) (si := si)
    refine x_iload 0 dL_drowned_28 rfl ?_
    refine x_iconst (v := nI 4) dL_drowned_30 (by decide) ?_
    refine y_ic_ge 227 dL_drowned_31 (by decide) (by omega) (by omega) (fun c_31 => ?_) (fun c_31 => ?_)
    · refine x_aload_n 2 dL_drowned_227 rfl rfl ?_
      refine x_iconst (v := nI 0) dL_drowned_228 (by decide) ?_
      refine x_callVqi (as := [_]) (rest := []) vL_217 (c_forgetD hx (show k ≤ 8 by omega)) dL_drowned_229 l0 rfl rfl rfl (Nat.le_of_ble_eq_true rfl) (Nat.le_of_ble_eq_true rfl) (Nat.le_of_ble_eq_true rfl) (fun r_229 S_229 q_229 => ?_)
      obtain ⟨f_229, x_229⟩ := q_229
      refine x_if_lt 239 dL_drowned_232 (by decide) (fun c_232 => ?_) (fun c_232 => ?_)
      · refine x_iconst (v := nI 0) dL_drowned_239 (by decide) ?_
        refine x_zret rfl dL_drowned_240 (by decide) (by exfalso; omega)
      · refine x_iconst (v := nI 1) dL_drowned_235 (by decide) ?_
        refine x_goto 240 dL_drowned_236 (by decide) ?_
        refine x_zret rfl dL_drowned_240 (by decide) ⟨_, rfl, rfl, x_229⟩
    · refine x_iload_n 5 dL_drowned_34 rfl rfl ?_
      refine y_if_le 227 dL_drowned_35 (by decide) (by omega) (fun c_35 => ?_) (fun c_35 => ?_)
      · refine x_aload_n 2 dL_drowned_227 rfl rfl ?_
        refine x_iconst (v := nI 0) dL_drowned_228 (by decide) ?_
        refine x_callVqi (as := [_]) (rest := []) vL_217 (c_forgetD hx (show k ≤ 8 by omega)) dL_drowned_229 l0 rfl rfl rfl (Nat.le_of_ble_eq_true rfl) (Nat.le_of_ble_eq_true rfl) (Nat.le_of_ble_eq_true rfl) (fun r_229 S_229 q_229 => ?_)
        obtain ⟨f_229, x_229⟩ := q_229
        refine x_if_lt 239 dL_drowned_232 (by decide) (fun c_232 => ?_) (fun c_232 => ?_)
        · refine x_iconst (v := nI 0) dL_drowned_239 (by decide) ?_
          refine x_zret rfl dL_drowned_240 (by decide) (by exfalso; omega)
        · refine x_iconst (v := nI 1) dL_drowned_235 (by decide) ?_
          refine x_goto 240 dL_drowned_236 (by decide) ?_
          refine x_zret rfl dL_drowned_240 (by decide) ⟨_, rfl, rfl, x_229⟩
      · refine x_aload_n 3 dL_drowned_38 rfl rfl ?_
        refine x_bipush (v := nI 90) dL_drowned_39 (by decide) ?_
        refine x_iload 0 dL_drowned_41 rfl ?_
        refine y_iadd dL_drowned_43 ?_
        refine x_callSu (as := [_, _]) (rest := []) sL_14 (c_L_cell hsc (k := 90 + k) (by omega)) dL_drowned_44 rfl rfl (Nat.le_of_ble_eq_true rfl) (Nat.le_of_ble_eq_true rfl) (Nat.le_of_ble_eq_true rfl) ?_
        refine x_istore (lv' := [(7, _), (6, _), (4, _), (0, _), (1, _), (2, _), (3, _)]) dL_drowned_47 (lt_ok rfl) rfl ?_
        refine x_aload_n 3 dL_drowned_49 rfl rfl ?_
        refine x_iload 0 dL_drowned_50 rfl ?_
        refine x_iload_n 6 dL_drowned_52 rfl rfl ?_
        refine y_irem dL_drowned_53 (by omega) (by omega) (by omega) ?_
        refine x_iload 0 dL_drowned_54 rfl ?_
        refine x_bipush (v := nI 8) dL_drowned_56 (by decide) ?_
        refine y_idiv dL_drowned_58 (by omega) (by omega) (by omega) ?_
        refine x_iconst (v := nI 2) dL_drowned_59 (by decide) ?_
        refine y_irem dL_drowned_60 (by omega) (by omega) (by omega) ?_
        refine x_callVqi (as := [_, _]) (rest := []) vL_205 (c_sawD hx hI hO (show k ≤ 7 by omega) (hmod (by omega)) (show celF sc (90 + k) / 8 % 2 ≤ 1 by omega)) dL_drowned_61 l0 rfl rfl rfl (Nat.le_of_ble_eq_true rfl) (Nat.le_of_ble_eq_true rfl) (Nat.le_of_ble_eq_true rfl) (fun r_61 S_61 q_61 => ?_)
        obtain ⟨rfl, x_61⟩ := q_61
        refine x_iload 1 dL_drowned_64 rfl ?_
        refine y_ic_eq 71 dL_drowned_66 (by decide) (by omega) (by omega) (fun c_66 => ?_) (fun c_66 => ?_)
        · refine x_aload_n 3 dL_drowned_71 rfl rfl ?_
          refine x_callVqi (as := []) (rest := []) vL_203 (c_drownedD x_61 hI hO hL (show k + 1 ≤ 8 by omega)) dL_drowned_72 l0 rfl rfl rfl (Nat.le_of_ble_eq_true rfl) (Nat.le_of_ble_eq_true rfl) (Nat.le_of_ble_eq_true rfl) (fun r_72 S_72 q_72 => ?_)
          obtain ⟨rfl, e_72, x_72⟩ := q_72
          refine x_istore (lv' := [(8, _), (7, _), (6, _), (4, _), (0, _), (1, _), (2, _), (3, _)]) dL_drowned_75 (lt_ok rfl) rfl ?_
          refine x_aload_n 4 dL_drowned_77 rfl rfl ?_
          refine x_callVu (as := []) (rest := []) vL_83 (c_askedA e_72) dL_drowned_78 l0 rfl rfl rfl (Nat.le_of_ble_eq_true rfl) (Nat.le_of_ble_eq_true rfl) (Nat.le_of_ble_eq_true rfl) ?_
          refine x_istore (lv' := [(9, _), (8, _), (7, _), (6, _), (4, _), (0, _), (1, _), (2, _), (3, _)]) dL_drowned_81 (lt_ok rfl) rfl ?_
          refine x_iload 1 dL_drowned_83 rfl ?_
          refine x_iload 4 dL_drowned_85 rfl ?_
          refine y_ic_gt 95 dL_drowned_87 (by decide) (by omega) (by omega) (fun c_87 => ?_) (fun c_87 => ?_)
          · refine x_iconst (v := nI 0) dL_drowned_95 (by decide) ?_
            refine x_zret rfl dL_drowned_96 (by decide) (by exfalso; omega)
          · refine x_iload 1 dL_drowned_90 rfl ?_
            refine y_if_ge 97 dL_drowned_92 (by decide) (by omega) (fun c_92 => ?_) (fun c_92 => ?_)
            · refine x_iconst (v := nI 0) dL_drowned_97 (by decide) ?_
              refine x_istore (lv' := [(10, _), (9, _), (8, _), (7, _), (6, _), (4, _), (0, _), (1, _), (2, _), (3, _)]) dL_drowned_98 (lt_ok rfl) rfl ?_
              refine x_iconst (v := nI 0) dL_drowned_100 (by decide) ?_
              refine x_istore (lv' := [(11, _), (10, _), (9, _), (8, _), (7, _), (6, _), (4, _), (0, _), (1, _), (2, _), (3, _)]) dL_drowned_101 (lt_ok rfl) rfl ?_
              refine x_pick (lv' := [(11, _), (10, _), (9, _), (8, _), (6, _), (4, _), (0, _), (1, _), (2, _), (3, _)]) [0, 1, 2, 3, 5, 6, 7, 8, 9, 10] rfl ?_
              exact dr_B hsc hI hO hL h4 (show k < 4 by omega) (fun S1 z => ih (4 - (k + 1)) (by omega) (k + 1) _ _ S1 rfl (by omega) z) 0 0 _ (Nat.zero_le _) (Nat.zero_le _) x_72
            · refine x_iconst (v := nI 0) dL_drowned_95 (by decide) ?_
              refine x_zret rfl dL_drowned_96 (by decide) (by exfalso; omega)
        · refine x_iconst (v := nI 0) dL_drowned_69 (by decide) ?_
          refine x_zret rfl dL_drowned_70 (by decide) (by exfalso; omega)

set_option maxHeartbeats 4000000 in
set_option maxRecDepth 100000 in
theorem c_L_drowned {S : St} {sc : Sc} (hsc : sc.1 ≤ 260) {I : Isl} (hI : IsX 11 I S) (hO : IOK I) (hL : S.1 35 5 = nI 3) (h4 : iM I ≤ 4) (h63 : S.1 63 0 = nI 0)  : C 3 90 yL_drowned (mL_drowned sc) [.ref 0, .ref 201, .int (nI ((iM I))), .int (nI ((iW I)))] S (qi (fun r S' => r = nI 1 ∧ Dfr S S' ∧ S'.1 63 0 = nI 0)) := by
  have hx : DrS I S S 0 (fun _ => 0) (fun _ => 0) := ⟨fun _ _ _ _ _ _ => rfl, h63, fun i hi => absurd hi (Nat.not_lt_zero i)⟩
  have hwas := cbF_le (c := 0) (sw := fun _ => 0) (si := fun _ => 0) h4
  have h1 : 1 ≤ cbF I 0 (fun _ => 0) (fun _ => 0) := cb_ge1 (s := 0) (Nat.two_pow_pos _) had_0
  refine C.ofX (by decide) rfl (Nat.le_of_ble_eq_true rfl) ?_
  show X 3 90 (mL_drowned sc) (qi (fun r S' => r = nI 1 ∧ Dfr S S' ∧ S'.1 63 0 = nI 0)) 0 [(0, .ref 0), (1, .ref 201), (2, .int (nI ((iM I)))), (3, .int (nI ((iW I))))] [] S
  refine x_aload_n 0 dL_drowned_0 rfl rfl ?_
  refine x_callVqi (as := []) (rest := []) vL_203 (c_drownedD hx hI hO hL (Nat.zero_le _)) dL_drowned_1 l0 rfl rfl rfl (Nat.le_of_ble_eq_true rfl) (Nat.le_of_ble_eq_true rfl) (Nat.le_of_ble_eq_true rfl) (fun r_1 S_1 q_1 => ?_)
  obtain ⟨rfl, e_1, x_1⟩ := q_1
  refine x_istore (lv' := [(4, _), (0, _), (1, _), (2, _), (3, _)]) dL_drowned_4 (lt_ok rfl) rfl ?_
  refine x_aload_n 1 dL_drowned_6 rfl rfl ?_
  refine x_callVu (as := []) (rest := []) vL_83 (c_askedA (e_1.trans (congrArg nI dw_0))) dL_drowned_7 l0 rfl rfl rfl (Nat.le_of_ble_eq_true rfl) (Nat.le_of_ble_eq_true rfl) (Nat.le_of_ble_eq_true rfl) ?_
  refine x_istore (lv' := [(5, _), (4, _), (0, _), (1, _), (2, _), (3, _)]) dL_drowned_10 (lt_ok rfl) rfl ?_
  refine x_iload 1 dL_drowned_12 rfl ?_
  refine x_iconst (v := nI 1) dL_drowned_14 (by decide) ?_
  refine y_ic_lt 23 dL_drowned_15 (by decide) (by omega) (by omega) (fun c_15 => ?_) (fun c_15 => ?_)
  · refine x_iconst (v := nI 0) dL_drowned_23 (by decide) ?_
    refine x_zret rfl dL_drowned_24 (by decide) (by exfalso; omega)
  · refine x_iload 0 dL_drowned_18 rfl ?_
    refine y_if_eq 25 dL_drowned_20 (by decide) (by omega) (fun c_20 => ?_) (fun c_20 => ?_)
    · refine x_iconst (v := nI 0) dL_drowned_25 (by decide) ?_
      refine x_istore (lv' := [(6, _), (5, _), (4, _), (0, _), (1, _), (2, _), (3, _)]) dL_drowned_26 (lt_ok rfl) rfl ?_
      refine x_pick (lv' := [(6, _), (4, _), (0, _), (1, _), (2, _), (3, _)]) [0, 2, 3, 4, 5, 6] rfl ?_
      exact dr_A hsc hI hO hL h4 0 _ _ _ (Nat.zero_le _) x_1
    · refine x_iconst (v := nI 0) dL_drowned_23 (by decide) ?_
      refine x_zret rfl dL_drowned_24 (by decide) (by exfalso; omega)
