/-! ===== thefts ===== -/
def ThS (I : Isl) (S S1 : St) : Prop := S1.2 = S.2 ∧ (∀ a b, ¬ FT a → ¬ (a = 1 ∧ b = 0) → S1.1 a b = S.1 a b) ∧ SrX I S1
theorem ThS.I {I : Isl} {S S1 : St} (h : ThS I S S1) (hI : IsX 11 I S) : IsX 11 I S1 := hI.keep (fun a h1 h2 b => h.2.1 a b (by unfold FT; omega) (by omega))
theorem ThS.P {I : Isl} {w : Nat → Nat} {S S1 : St} (h : ThS I S S1) (hP : PlT 35 I w S) : PlT 35 I w S1 := hP.keep (fun a h1 h2 b => h.2.1 a b (by unfold FT; omega) (by omega))
theorem ThS.L {I : Isl} {S S1 : St} (h : ThS I S S1) (hL : S.1 35 5 = nI 3) : S1.1 35 5 = nI 3 := (h.2.1 35 5 (by unfold FT; omega) (by omega)).trans hL
theorem ThS.set {I : Isl} {S S1 : St} {v : Int32} (h : ThS I S S1) : ThS I S (setI S1 1 0 v) := by
  refine ⟨h.1, fun a b q1 q2 => ?_, h.2.2.keep (fun a b q => rdI_k (by omega)) (rdI_k (by decide))⟩
  by_cases z : a = 1
  · subst z
    rw [rdI_j (by omega)]; exact h.2.1 1 b q1 q2
  · rw [rdI_k z]; exact h.2.1 a b q1 q2
theorem ThS.ft {I : Isl} {S S1 S2 : St} (h : ThS I S S1) (f : Fr FT S1 S2) (hR : ∃ R, StX R S2) (h9 : S2.1 74 9 = nI 0) : ThS I S S2 :=
  ⟨f.1.trans h.1, fun a b q1 q2 => (f.2 a q1 b).trans (h.2.1 a b q1 q2), hR, Or.inl h9⟩
section TH
variable {S S1 : St} {I : Isl} {w : Nat → Nat}
theorem c_loadT {p : Nat} (h : ThS I S S1) (hI : IsX 11 I S) (hO : IOK I) (hP : PlT 35 I w S) (hp : p < iP I) : C 1 30 yX10_load mX10_load [.ref 0, .int (nI p)] S1 (qi (fun r S' => r = nI (loadF I w p) ∧ S'.1 1 0 = nI (heldF I w p) ∧ ThS I S S')) := by
  have hO1 := hO.1
  have ep : (nI p).toInt = (p : Int) := tiN (by omega)
  have tp : tn (nI p) = p := tnN (by omega)
  refine (c_X10_load (x := nI p) (h.I hI) hO (h.P hP)).mono (fun v S' hq => ?_)
  obtain ⟨rfl, rfl⟩ := hq
  rw [e2_1 (by omega), e2_1 (by omega), tp]
  exact ⟨_, rfl, rfl, rdI_eq, h.set⟩
theorem c_theftsT {p k : Nat} (h : ThS I S S1) (hI : IsX 11 I S) (hO : IOK I) (hP : PlT 35 I w S) (hL : S.1 35 5 = nI 3) (hv : VS I w 3) (hp : p < iP I) (hk : k ≤ 3) : C 6 180 yX10_thefts mX10_thefts [.ref 0, .int (nI p), .int (nI k)] S1 (qi (fun r S' => r = nI (tsF I 3 p k (codeF I w)) ∧ ThS I S S')) := by
  have hO1 := hO.1
  have ep : (nI p).toInt = (p : Int) := tiN (by omega)
  have tp : tn (nI p) = p := tnN (by omega)
  have ek : (nI k).toInt = (k : Int) := tiN (by omega)
  have tk : tn (nI k) = k := tnN (by omega)
  obtain ⟨R, hR⟩ := h.2.2.1
  refine (c_X10_thefts (x := nI p) (y := nI k) (h.I hI) hO (h.P hP) (h.L hL) (by decide) hv (cnt_ok hO) hR).mono (fun v S' hq => ?_)
  obtain ⟨r, rfl, hr⟩ := hq
  rw [e2_1 (fun q => q ⟨⟨by omega, by omega⟩, by omega, by omega⟩), tp, tk] at hr
  exact ⟨r, rfl, hr.1, h.ft hr.2.1 hr.2.2.1 hr.2.2.2⟩
theorem c_theftT {p t : Nat} (h : ThS I S S1) (hI : IsX 11 I S) (hO : IOK I) (hP : PlT 35 I w S) (hL : S.1 35 5 = nI 3) (hv : VS I w 3) (hp : p < iP I) (ht : t < iM I) : C 6 180 yX10_theft mX10_theft [.ref 0, .int (nI p), .int (nI t)] S1 (qi (fun r S' => thfP I 3 p (codeF I w) t r ∧ ThS I S S')) := by
  have hO1 := hO.1
  have hO2 := hO.2.1
  have ep : (nI p).toInt = (p : Int) := tiN (by omega)
  have tp : tn (nI p) = p := tnN (by omega)
  have ek : (nI t).toInt = (t : Int) := tiN (by omega)
  have tk : tn (nI t) = t := tnN (by omega)
  obtain ⟨R, hR⟩ := h.2.2.1
  refine (c_X10_theft (x := nI p) (y := nI t) (h.I hI) hO (h.P hP) (h.L hL) (by decide) hv (cnt_ok hO) hR).mono (fun v S' hq => ?_)
  obtain ⟨r, rfl, hr⟩ := hq
  rw [e2_1 (fun q => q ⟨⟨by omega, by omega⟩, by omega, by omega⟩), tp, tk] at hr
  exact ⟨r, rfl, hr.1, h.ft hr.2.1 hr.2.2.1 hr.2.2.2⟩
theorem c_dropsT {p q : Nat} (h : ThS I S S1) (hI : IsX 11 I S) (hO : IOK I) (hP : PlT 35 I w S) (hL : S.1 35 5 = nI 3) (hv : VS I w 3) (hp : p < iP I) (hq : q < iP I) (hpq : ¬ p = q) : C 3 90 yX10_drops mX10_drops [.ref 0, .int (nI p), .int (nI q)] S1 (qi (fun r S' => r = nI (drP I w 3 p q (iM I)).1 ∧ S'.1 1 0 = (drP I w 3 p q (iM I)).2 ∧ ThS I S S')) := by
  have hO1 := hO.1
  have ep : (nI p).toInt = (p : Int) := tiN (by omega)
  have tp : tn (nI p) = p := tnN (by omega)
  have ek : (nI q).toInt = (q : Int) := tiN (by omega)
  have tk : tn (nI q) = q := tnN (by omega)
  have hne : ¬ nI p = nI q := fun z => hpq (nI_inj (by omega) (by omega) z)
  refine (c_X10_drops (x := nI p) (y := nI q) (h.I hI) hO (h.P hP) (h.L hL) (by decide) hv).mono (fun v S' hq => ?_)
  obtain ⟨rfl, rfl⟩ := hq
  rw [e2_1 (fun z => z ⟨⟨by omega, by omega⟩, ⟨by omega, by omega⟩, hne⟩), e2_1 (fun z => z ⟨⟨by omega, by omega⟩, ⟨by omega, by omega⟩, hne⟩), tp, tk]
  exact ⟨_, rfl, rfl, rdI_eq, h.set⟩
theorem c_besideT {p q : Nat} (h : ThS I S S1) (hI : IsX 11 I S) (hO : IOK I) (hP : PlT 35 I w S) (hp : p < iP I) (hq : q < iP I) (hpq : ¬ p = q) : C 2 60 yX10_beside mX10_beside [.ref 0, .int (nI p), .int (nI q)] S1 (pu (.int (nI (bsF I w p q))) S1) := by
  have hO1 := hO.1
  have ep : (nI p).toInt = (p : Int) := tiN (by omega)
  have tp : tn (nI p) = p := tnN (by omega)
  have ek : (nI q).toInt = (q : Int) := tiN (by omega)
  have tk : tn (nI q) = q := tnN (by omega)
  have hne : ¬ nI p = nI q := fun z => hpq (nI_inj (by omega) (by omega) z)
  have k := c_X10_beside (x := nI p) (y := nI q) (h.I hI) hO (h.P hP)
  rw [e2_1 (fun z => z ⟨⟨by omega, by omega⟩, ⟨by omega, by omega⟩, hne⟩), e2_1 (fun z => z ⟨⟨by omega, by omega⟩, ⟨by omega, by omega⟩, hne⟩), tp, tk] at k
  exact k
theorem pairS_ge : ∀ k, k ≤ 4 → -9 ≤ (pairS I w k).1.toInt
  | 0, _ => (by decide : (-9 : Int) ≤ ((-9 : Int32)).toInt)
  | k + 1, hk => by
    by_cases h : (pairS I w k).2.toInt < (smF I w (k + 1) : Int)
    · rw [pairS_t h]
      show -9 ≤ (nI (k + 1)).toInt
      rw [tiN (by omega)]; omega
    · rw [pairS_f h]; exact pairS_ge k (by omega)
theorem pairE_ge (hO : IOK I) : -9 ≤ (pairE I w).1.toInt := by
  have hO1 := hO.1
  unfold pairE
  split
  · exact (by decide : (-9 : Int) ≤ ((-9 : Int32)).toInt)
  · exact pairS_ge _ (by omega)
theorem mxz_ge (v : Int32) : 0 ≤ (mxz v).toInt := by
  unfold mxz
  split
  · decide
  · omega
theorem c_pairT (h : ThS I S S1) (hI : IsX 11 I S) (hO : IOK I) (hP : PlT 35 I w S) (h0 : ¬ iP I = 0) : C 2 60 yX10_pair mX10_pair [.ref 0] S1 (qi (fun r S' => -9 ≤ r.toInt ∧ 0 ≤ (S'.1 1 0).toInt ∧ ThS I S S')) := by
  refine (c_X10_pair (h.I hI) hO (h.P hP)).mono (fun v S' hq => ?_)
  obtain ⟨rfl, rfl⟩ := hq
  rw [e2_1 h0, e2_1 h0]
  exact ⟨_, rfl, pairE_ge hO, by rw [rdI_eq]; exact mxz_ge _, h.set⟩
end TH
theorem xand_0 {a b : Nat} (h : ∀ i, a.testBit i = true → b.testBit i = true) : a ^^^ (a &&& b) = 0 := Nat.eq_of_testBit_eq fun i => by
  rw [Nat.testBit_xor, Nat.testBit_and, Nat.zero_testBit]
  cases ha : a.testBit i with
  | false => rfl
  | true => rw [h i ha]; rfl
noncomputable def lsF (I : Isl) (p c0 k : Nat) : Nat := if k = 0 then 0 else tsF I 3 p (k - 1) c0

set_option maxHeartbeats 4000000 in
set_option maxRecDepth 100000 in
theorem tf_A3 {S : St} {I : Isl} (hI : IsX 11 I S) (hO : IOK I) {w : Nat → Nat} (hP : PlT 35 I w S) (hL : S.1 35 5 = nI 3) (hv : VS I w 3) (hP0 : ¬ iP I = 0) {p k : Nat} (hp : p < iP I) (hk : k < 4) {Q : Option Value → St → Prop} (H : ∀ S1, ThS I S S1 → X 7 210 mL_thefts Q 31 [(6, .int (nI ((k + 1)))), (5, .int (nI ((lsF I p (codeF I w) (k + 1))))), (4, .int (nI ((heldF I w p)))), (3, .int (nI p)), (0, .ref 0), (1, .int (nI ((iP I)))), (2, .int (nI ((iM I))))] [] S1)  : ∀ (t : Nat) (S1 : St), (t ≤ iM I) → (ThS I S S1) → X 7 210 mL_thefts (Q) 73 [(8, .int (nI t)), (7, .int (nI ((tsF I 3 p k (codeF I w))))), (6, .int (nI k)), (5, .int (nI ((lsF I p (codeF I w) k)))), (4, .int (nI ((heldF I w p)))), (3, .int (nI p)), (0, .ref 0), (1, .int (nI ((iP I)))), (2, .int (nI ((iM I))))] [] S1 := by
  intro t S1
  induction hm : iM I - t using Nat.strongRecOn generalizing t S1 with
  | _ mm ih =>
    intro ht hx
    have hO1 := hO.1
    have hO2 := hO.2.1
    have hO4 := hO.2.2.2.1
    have hts := ts_lt hO (L := 3) (p := p) (k := k) (c0 := codeF I w)
    have h0 := OKc.code hO hv
    refine x_iload 0 dL_thefts_73 rfl ?_
    refine x_iload_n 8 dL_thefts_75 rfl rfl ?_
    refine y_ic_ge 138 dL_thefts_76 (by decide) (by omega) (by omega) (fun c_76 => ?_) (fun c_76 => ?_)
    · refine x_iload 1 dL_thefts_138 rfl ?_
      refine x_istore (lv' := [(5, _), (8, _), (7, _), (6, _), (4, _), (3, _), (0, _), (1, _), (2, _)]) dL_thefts_140 (lt_ok rfl) rfl ?_
      refine y_iinc (lv' := [(6, _), (5, _), (8, _), (7, _), (4, _), (3, _), (0, _), (1, _), (2, _)]) 3 dL_thefts_142 rfl (lt_ok rfl) rfl ?_
      refine x_goto 31 dL_thefts_145 (by decide) ?_
      refine x_pick (lv' := [(6, _), (5, _), (4, _), (3, _), (0, _), (1, _), (2, _)]) [0, 1, 4, 5, 6, 7, 8] rfl ?_
      exact H _ hx
    · refine x_aload_n 6 dL_thefts_79 rfl rfl ?_
      refine x_iload_n 5 dL_thefts_80 rfl rfl ?_
      refine x_iload 0 dL_thefts_81 rfl ?_
      refine x_callVqi (as := [_, _]) (rest := []) vL_191 (c_theftT hx hI hO hP hL hv hp (show t < iM I by omega)) dL_thefts_83 l0 rfl rfl rfl (Nat.le_of_ble_eq_true rfl) (Nat.le_of_ble_eq_true rfl) (Nat.le_of_ble_eq_true rfl) (fun r_83 S_83 q_83 => ?_)
      obtain ⟨t_83, x_83⟩ := q_83
      have k83 := thf_le hO hp h0 (show k ≤ 4 by omega) (show t < iM I by omega) t_83
      have k84 := k83.2.trans has_iff.symm
      have k85 := k83.1
      clear k83 t_83
      refine x_istore (lv' := [(9, _), (8, _), (7, _), (6, _), (5, _), (4, _), (3, _), (0, _), (1, _), (2, _)]) dL_thefts_86 (lt_ok rfl) rfl ?_
      refine x_iload 0 dL_thefts_88 rfl ?_
      refine x_if_lt 104 dL_thefts_90 (by decide) (fun c_90 => ?_) (fun c_90 => ?_)
      · refine x_iconst (v := nI 0) dL_thefts_104 (by decide) ?_
        refine x_iload 2 dL_thefts_105 rfl ?_
        refine x_iload 1 dL_thefts_107 rfl ?_
        refine y_ishr dL_thefts_109 (by omega) (by omega) ?_
        refine x_iconst (v := nI 1) dL_thefts_110 (by decide) ?_
        refine y_iand dL_thefts_111 ?_
        rw [show (((tsF I 3 p k (codeF I w)) / 2 ^ t) &&& 1) = (tsF I 3 p k (codeF I w) / 2 ^ t % 2) from by rw [Nat.and_one_is_mod]]
        refine x_iconst (v := nI 1) dL_thefts_112 (by decide) ?_
        refine y_ic_ne 120 dL_thefts_113 (by decide) (by omega) (by omega) (fun c_113 => ?_) (fun c_113 => ?_)
        · refine x_iconst (v := nI 0) dL_thefts_120 (by decide) ?_
          refine y_ic_ne 130 dL_thefts_121 (by decide) (by omega) (by omega) (fun c_121 => ?_) (fun c_121 => ?_)
          · refine x_iconst (v := nI 0) dL_thefts_130 (by decide) ?_
            refine x_zret rfl dL_thefts_131 (by decide) (by exfalso; omega)
          · refine x_iload 0 dL_thefts_124 rfl ?_
            refine x_iconst (v := nI 4) dL_thefts_126 (by decide) ?_
            refine z_ic_le 132 dL_thefts_127 (by decide) (by omega) (fun c_127 => ?_) (fun c_127 => ?_)
            · refine y_iinc (lv' := [(8, _), (9, _), (7, _), (6, _), (5, _), (4, _), (3, _), (0, _), (1, _), (2, _)]) 1 dL_thefts_132 rfl (lt_ok rfl) rfl ?_
              refine x_goto 73 dL_thefts_135 (by decide) ?_
              refine x_pick (lv' := [(8, _), (7, _), (6, _), (5, _), (4, _), (3, _), (0, _), (1, _), (2, _)]) [0, 2, 3, 4, 5, 6, 7, 8, 9] rfl ?_
              exact ih (iM I - (t + 1)) (by omega) (t + 1) _ rfl (by omega) x_83
            · refine x_iconst (v := nI 0) dL_thefts_130 (by decide) ?_
              refine x_zret rfl dL_thefts_131 (by decide) (by exfalso; omega)
        · refine x_iconst (v := nI 1) dL_thefts_116 (by decide) ?_
          refine x_goto 121 dL_thefts_117 (by decide) ?_
          refine y_ic_ne 130 dL_thefts_121 (by decide) (by omega) (by omega) (fun c_121 => ?_) (fun c_121 => ?_)
          · refine x_iconst (v := nI 0) dL_thefts_130 (by decide) ?_
            refine x_zret rfl dL_thefts_131 (by decide) (by exfalso; omega)
          · refine x_iload 0 dL_thefts_124 rfl ?_
            refine x_iconst (v := nI 4) dL_thefts_126 (by decide) ?_
            refine z_ic_le 132 dL_thefts_127 (by decide) (by omega) (fun c_127 => ?_) (fun c_127 => ?_)
            · refine y_iinc (lv' := [(8, _), (9, _), (7, _), (6, _), (5, _), (4, _), (3, _), (0, _), (1, _), (2, _)]) 1 dL_thefts_132 rfl (lt_ok rfl) rfl ?_
              refine x_goto 73 dL_thefts_135 (by decide) ?_
              refine x_pick (lv' := [(8, _), (7, _), (6, _), (5, _), (4, _), (3, _), (0, _), (1, _), (2, _)]) [0, 2, 3, 4, 5, 6, 7, 8, 9] rfl ?_
              exact ih (iM I - (t + 1)) (by omega) (t + 1) _ rfl (by omega) x_83
            · refine x_iconst (v := nI 0) dL_thefts_130 (by decide) ?_
              refine x_zret rfl dL_thefts_131 (by decide) (by exfalso; omega)
      · refine x_iload 0 dL_thefts_93 rfl ?_
        refine x_iload 3 dL_thefts_95 rfl ?_
        refine z_ic_gt 104 dL_thefts_97 (by decide) (by omega) (fun c_97 => ?_) (fun c_97 => ?_)
        · refine x_iconst (v := nI 0) dL_thefts_104 (by decide) ?_
          refine x_iload 2 dL_thefts_105 rfl ?_
          refine x_iload 1 dL_thefts_107 rfl ?_
          refine y_ishr dL_thefts_109 (by omega) (by omega) ?_
          refine x_iconst (v := nI 1) dL_thefts_110 (by decide) ?_
          refine y_iand dL_thefts_111 ?_
          rw [show (((tsF I 3 p k (codeF I w)) / 2 ^ t) &&& 1) = (tsF I 3 p k (codeF I w) / 2 ^ t % 2) from by rw [Nat.and_one_is_mod]]
          refine x_iconst (v := nI 1) dL_thefts_112 (by decide) ?_
          refine y_ic_ne 120 dL_thefts_113 (by decide) (by omega) (by omega) (fun c_113 => ?_) (fun c_113 => ?_)
          · refine x_iconst (v := nI 0) dL_thefts_120 (by decide) ?_
            refine y_ic_ne 130 dL_thefts_121 (by decide) (by omega) (by omega) (fun c_121 => ?_) (fun c_121 => ?_)
            · refine x_iconst (v := nI 0) dL_thefts_130 (by decide) ?_
              refine x_zret rfl dL_thefts_131 (by decide) (by exfalso; omega)
            · refine x_iload 0 dL_thefts_124 rfl ?_
              refine x_iconst (v := nI 4) dL_thefts_126 (by decide) ?_
              refine z_ic_le 132 dL_thefts_127 (by decide) (by omega) (fun c_127 => ?_) (fun c_127 => ?_)
              · refine y_iinc (lv' := [(8, _), (9, _), (7, _), (6, _), (5, _), (4, _), (3, _), (0, _), (1, _), (2, _)]) 1 dL_thefts_132 rfl (lt_ok rfl) rfl ?_
                refine x_goto 73 dL_thefts_135 (by decide) ?_
                refine x_pick (lv' := [(8, _), (7, _), (6, _), (5, _), (4, _), (3, _), (0, _), (1, _), (2, _)]) [0, 2, 3, 4, 5, 6, 7, 8, 9] rfl ?_
                exact ih (iM I - (t + 1)) (by omega) (t + 1) _ rfl (by omega) x_83
              · refine x_iconst (v := nI 0) dL_thefts_130 (by decide) ?_
                refine x_zret rfl dL_thefts_131 (by decide) (by exfalso; omega)
          · refine x_iconst (v := nI 1) dL_thefts_116 (by decide) ?_
            refine x_goto 121 dL_thefts_117 (by decide) ?_
            refine y_ic_ne 130 dL_thefts_121 (by decide) (by omega) (by omega) (fun c_121 => ?_) (fun c_121 => ?_)
            · refine x_iconst (v := nI 0) dL_thefts_130 (by decide) ?_
              refine x_zret rfl dL_thefts_131 (by decide) (by exfalso; omega)
            · refine x_iload 0 dL_thefts_124 rfl ?_
              refine x_iconst (v := nI 4) dL_thefts_126 (by decide) ?_
              refine z_ic_le 132 dL_thefts_127 (by decide) (by omega) (fun c_127 => ?_) (fun c_127 => ?_)
              · refine y_iinc (lv' := [(8, _), (9, _), (7, _), (6, _), (5, _), (4, _), (3, _), (0, _), (1, _), (2, _)]) 1 dL_thefts_132 rfl (lt_ok rfl) rfl ?_
                refine x_goto 73 dL_thefts_135 (by decide) ?_
                refine x_pick (lv' := [(8, _), (7, _), (6, _), (5, _), (4, _), (3, _), (0, _), (1, _), (2, _)]) [0, 2, 3, 4, 5, 6, 7, 8, 9] rfl ?_
                exact ih (iM I - (t + 1)) (by omega) (t + 1) _ rfl (by omega) x_83
              · refine x_iconst (v := nI 0) dL_thefts_130 (by decide) ?_
                refine x_zret rfl dL_thefts_131 (by decide) (by exfalso; omega)
        · refine x_iconst (v := nI 1) dL_thefts_100 (by decide) ?_
          refine x_goto 105 dL_thefts_101 (by decide) ?_
          refine x_iload 2 dL_thefts_105 rfl ?_
          refine x_iload 1 dL_thefts_107 rfl ?_
          refine y_ishr dL_thefts_109 (by omega) (by omega) ?_
          refine x_iconst (v := nI 1) dL_thefts_110 (by decide) ?_
          refine y_iand dL_thefts_111 ?_
          rw [show (((tsF I 3 p k (codeF I w)) / 2 ^ t) &&& 1) = (tsF I 3 p k (codeF I w) / 2 ^ t % 2) from by rw [Nat.and_one_is_mod]]
          refine x_iconst (v := nI 1) dL_thefts_112 (by decide) ?_
          refine y_ic_ne 120 dL_thefts_113 (by decide) (by omega) (by omega) (fun c_113 => ?_) (fun c_113 => ?_)
          · refine x_iconst (v := nI 0) dL_thefts_120 (by decide) ?_
            refine y_ic_ne 130 dL_thefts_121 (by decide) (by omega) (by omega) (fun c_121 => ?_) (fun c_121 => ?_)
            · refine x_iconst (v := nI 0) dL_thefts_130 (by decide) ?_
              refine x_zret rfl dL_thefts_131 (by decide) (by exfalso; omega)
            · refine x_iload 0 dL_thefts_124 rfl ?_
              refine x_iconst (v := nI 4) dL_thefts_126 (by decide) ?_
              refine z_ic_le 132 dL_thefts_127 (by decide) (by omega) (fun c_127 => ?_) (fun c_127 => ?_)
              · refine y_iinc (lv' := [(8, _), (9, _), (7, _), (6, _), (5, _), (4, _), (3, _), (0, _), (1, _), (2, _)]) 1 dL_thefts_132 rfl (lt_ok rfl) rfl ?_
                refine x_goto 73 dL_thefts_135 (by decide) ?_
                refine x_pick (lv' := [(8, _), (7, _), (6, _), (5, _), (4, _), (3, _), (0, _), (1, _), (2, _)]) [0, 2, 3, 4, 5, 6, 7, 8, 9] rfl ?_
                exact ih (iM I - (t + 1)) (by omega) (t + 1) _ rfl (by omega) x_83
              · refine x_iconst (v := nI 0) dL_thefts_130 (by decide) ?_
                refine x_zret rfl dL_thefts_131 (by decide) (by exfalso; omega)
          · refine x_iconst (v := nI 1) dL_thefts_116 (by decide) ?_
            refine x_goto 121 dL_thefts_117 (by decide) ?_
            refine y_ic_ne 130 dL_thefts_121 (by decide) (by omega) (by omega) (fun c_121 => ?_) (fun c_121 => ?_)
            · refine x_iconst (v := nI 0) dL_thefts_130 (by decide) ?_
              refine x_zret rfl dL_thefts_131 (by decide) (by exfalso; omega)
            · refine x_iload 0 dL_thefts_124 rfl ?_
              refine x_iconst (v := nI 4) dL_thefts_126 (by decide) ?_
              refine z_ic_le 132 dL_thefts_127 (by decide) (by omega) (fun c_127 => ?_) (fun c_127 => ?_)
              · refine y_iinc (lv' := [(8, _), (9, _), (7, _), (6, _), (5, _), (4, _), (3, _), (0, _), (1, _), (2, _)]) 1 dL_thefts_132 rfl (lt_ok rfl) rfl ?_
                refine x_goto 73 dL_thefts_135 (by decide) ?_
                refine x_pick (lv' := [(8, _), (7, _), (6, _), (5, _), (4, _), (3, _), (0, _), (1, _), (2, _)]) [0, 2, 3, 4, 5, 6, 7, 8, 9] rfl ?_
                exact ih (iM I - (t + 1)) (by omega) (t + 1) _ rfl (by omega) x_83
              · refine x_iconst (v := nI 0) dL_thefts_130 (by decide) ?_
                refine x_zret rfl dL_thefts_131 (by decide) (by exfalso; omega)

set_option maxHeartbeats 4000000 in
set_option maxRecDepth 100000 in
theorem tf_A2 {S : St} {I : Isl} (hI : IsX 11 I S) (hO : IOK I) {w : Nat → Nat} (hP : PlT 35 I w S) (hL : S.1 35 5 = nI 3) (hv : VS I w 3) (hP0 : ¬ iP I = 0) {p : Nat} (hp : p < iP I) {Q : Option Value → St → Prop} (H : ∀ S1, ThS I S S1 → X 7 210 mL_thefts Q 151 [(6, .int (nI 0)), (4, .int (nI ((heldF I w p)))), (3, .int (nI p)), (0, .ref 0), (1, .int (nI ((iP I)))), (2, .int (nI ((iM I))))] [] S1)  : ∀ (k : Nat) (S1 : St), (k ≤ 4) → (ThS I S S1) → X 7 210 mL_thefts (Q) 31 [(6, .int (nI k)), (5, .int (nI ((lsF I p (codeF I w) k)))), (4, .int (nI ((heldF I w p)))), (3, .int (nI p)), (0, .ref 0), (1, .int (nI ((iP I)))), (2, .int (nI ((iM I))))] [] S1 := by
  intro k S1
  induction hm : 4 - k using Nat.strongRecOn generalizing k S1 with
  | _ mm ih =>
    intro hk hx
    have hO1 := hO.1
    have hO2 := hO.2.1
    have hO4 := hO.2.2.2.1
    have hts := ts_lt hO (L := 3) (p := p) (k := k) (c0 := codeF I w)
    have h0 := OKc.code hO hv
    have hls : lsF I p (codeF I w) k < 32 := by
      unfold lsF
      split
      · decide
      · exact ts_lt hO
    have hh := held_lt hO (w := w) (p := p)
    have hk0 : k = 0 → tsF I 3 p k (codeF I w) = heldF I w p := fun q => by rw [q]; exact ts_0 hO hv
    have hsub : lsF I p (codeF I w) k ^^^ (lsF I p (codeF I w) k &&& tsF I 3 p k (codeF I w)) = 0 := xand_0 fun i hi => by
      unfold lsF at hi
      by_cases q : k = 0
      · rw [if_pos q, Nat.zero_testBit] at hi; cases hi
      · rw [if_neg q] at hi
        exact ts_up hO hp h0 (Nat.sub_le k 1) hi
    refine x_iload 0 dL_thefts_31 rfl ?_
    refine x_iconst (v := nI 4) dL_thefts_33 (by decide) ?_
    refine y_ic_ge 148 dL_thefts_34 (by decide) (by omega) (by omega) (fun c_34 => ?_) (fun c_34 => ?_)
    · refine x_iconst (v := nI 0) dL_thefts_148 (by decide) ?_
      refine x_istore (lv' := [(6, _), (5, _), (4, _), (3, _), (0, _), (1, _), (2, _)]) dL_thefts_149 (lt_ok rfl) rfl ?_
      refine x_pick (lv' := [(6, _), (4, _), (3, _), (0, _), (1, _), (2, _)]) [0, 2, 3, 4, 5, 6] rfl ?_
      exact H _ hx
    · refine x_aload_n 4 dL_thefts_37 rfl rfl ?_
      refine x_iload_n 3 dL_thefts_38 rfl rfl ?_
      refine x_iload 0 dL_thefts_39 rfl ?_
      refine x_callVqi (as := [_, _]) (rest := []) vL_189 (c_theftsT hx hI hO hP hL hv hp (show k ≤ 3 by omega)) dL_thefts_41 l0 rfl rfl rfl (Nat.le_of_ble_eq_true rfl) (Nat.le_of_ble_eq_true rfl) (Nat.le_of_ble_eq_true rfl) (fun r_41 S_41 q_41 => ?_)
      obtain ⟨rfl, x_41⟩ := q_41
      refine x_istore (lv' := [(7, _), (6, _), (5, _), (4, _), (3, _), (0, _), (1, _), (2, _)]) dL_thefts_44 (lt_ok rfl) rfl ?_
      refine x_iload 1 dL_thefts_46 rfl ?_
      refine y_if_ne 58 dL_thefts_48 (by decide) (by omega) (fun c_48 => ?_) (fun c_48 => ?_)
      · refine x_iload 2 dL_thefts_58 rfl ?_
        refine x_iload 0 dL_thefts_60 rfl ?_
        refine y_andn dL_thefts_62 dL_thefts_63 dL_thefts_64 (by omega) (by omega) ?_
        refine y_if_eq 70 dL_thefts_65 (by decide) (by omega) (fun c_65 => ?_) (fun c_65 => ?_)
        · refine x_iconst (v := nI 0) dL_thefts_70 (by decide) ?_
          refine x_istore (lv' := [(8, _), (7, _), (6, _), (5, _), (4, _), (3, _), (0, _), (1, _), (2, _)]) dL_thefts_71 (lt_ok rfl) rfl ?_
          refine x_pick (lv' := [(8, _), (7, _), (6, _), (5, _), (4, _), (3, _), (0, _), (1, _), (2, _)]) [0, 1, 2, 3, 4, 5, 6, 7, 8] rfl ?_
          exact tf_A3 hI hO hP hL hv hP0 hp (show k < 4 by omega) (fun S1 z => ih (4 - (k + 1)) (by omega) (k + 1) S1 rfl (by omega) z) 0 _ (Nat.zero_le _) x_41
        · refine x_iconst (v := nI 0) dL_thefts_68 (by decide) ?_
          refine x_zret rfl dL_thefts_69 (by decide) (by exfalso; omega)
      · refine x_iload 0 dL_thefts_51 rfl ?_
        refine x_iload 3 dL_thefts_53 rfl ?_
        refine y_ic_ne 68 dL_thefts_55 (by decide) (by omega) (by omega) (fun c_55 => ?_) (fun c_55 => ?_)
        · refine x_iconst (v := nI 0) dL_thefts_68 (by decide) ?_
          refine x_zret rfl dL_thefts_69 (by decide) (by exfalso; omega)
        · refine x_iload 2 dL_thefts_58 rfl ?_
          refine x_iload 0 dL_thefts_60 rfl ?_
          refine y_andn dL_thefts_62 dL_thefts_63 dL_thefts_64 (by omega) (by omega) ?_
          refine y_if_eq 70 dL_thefts_65 (by decide) (by omega) (fun c_65 => ?_) (fun c_65 => ?_)
          · refine x_iconst (v := nI 0) dL_thefts_70 (by decide) ?_
            refine x_istore (lv' := [(8, _), (7, _), (6, _), (5, _), (4, _), (3, _), (0, _), (1, _), (2, _)]) dL_thefts_71 (lt_ok rfl) rfl ?_
            refine x_pick (lv' := [(8, _), (7, _), (6, _), (5, _), (4, _), (3, _), (0, _), (1, _), (2, _)]) [0, 1, 2, 3, 4, 5, 6, 7, 8] rfl ?_
            exact tf_A3 hI hO hP hL hv hP0 hp (show k < 4 by omega) (fun S1 z => ih (4 - (k + 1)) (by omega) (k + 1) S1 rfl (by omega) z) 0 _ (Nat.zero_le _) x_41
          · refine x_iconst (v := nI 0) dL_thefts_68 (by decide) ?_
            refine x_zret rfl dL_thefts_69 (by decide) (by exfalso; omega)

set_option maxHeartbeats 4000000 in
set_option maxRecDepth 100000 in
theorem tf_B {S : St} {I : Isl} (hI : IsX 11 I S) (hO : IOK I) {w : Nat → Nat} (hP : PlT 35 I w S) (hL : S.1 35 5 = nI 3) (hv : VS I w 3) (hP0 : ¬ iP I = 0) {p : Nat} (hp : p < iP I) {Q : Option Value → St → Prop} (H : ∀ S1, ThS I S S1 → X 7 210 mL_thefts Q 2 [(3, .int (nI ((p + 1)))), (0, .ref 0), (1, .int (nI ((iP I)))), (2, .int (nI ((iM I))))] [] S1)  : ∀ (q : Nat) (S1 : St), (q ≤ iP I) → (ThS I S S1) → X 7 210 mL_thefts (Q) 151 [(6, .int (nI q)), (4, .int (nI ((heldF I w p)))), (3, .int (nI p)), (0, .ref 0), (1, .int (nI ((iP I)))), (2, .int (nI ((iM I))))] [] S1 := by
  intro q S1
  induction hm : iP I - q using Nat.strongRecOn generalizing q S1 with
  | _ mm ih =>
    intro hq hx
    have hO1 := hO.1
    have hO2 := hO.2.1
    have hO4 := hO.2.2.2.1
    have hh := held_lt hO (w := w) (p := p)
    have hhq := held_lt hO (w := w) (p := q)
    have hdl := drP_lt hO w 3 p q (iM I)
    have hdk := fun _ : Nat => drP_ok (I := I) (w := w) (L := 3) (p := p) (q := q) (iM I)
    have e9 : (-9 : Int32).toInt = -9 := by decide
    have hwq : ∀ {u v : Nat}, v < iP I → w u = v → whomF I w u = v := fun {u v} h1 h2 => by
      unfold whomF
      rw [if_pos (by omega)]
      exact h2
    have hsub : q < iP I → (drP I w 3 p q (iM I)).1 ^^^ ((drP I w 3 p q (iM I)).1 &&& heldF I w q) = 0 := fun hq2 => xand_0 fun i hi => by
      have := (hdk 0).1 i hi
      exact held_bit.mpr ⟨this.1, hwq hq2 this.2⟩
    have hbs1 := bsF_le I hO w p q
    have hbs2 := bsF_le I hO w q p
    have hbs3 := bs_sym (I := I) (w := w) (p := p) (q := q)
    refine x_iload 0 dL_thefts_151 rfl ?_
    refine x_iload_n 4 dL_thefts_153 rfl rfl ?_
    refine y_ic_ge 273 dL_thefts_154 (by decide) (by omega) (by omega) (fun c_154 => ?_) (fun c_154 => ?_)
    · refine y_iinc (lv' := [(3, _), (6, _), (4, _), (0, _), (1, _), (2, _)]) 2 dL_thefts_273 rfl (lt_ok rfl) rfl ?_
      refine x_goto 2 dL_thefts_276 (by decide) ?_
      refine x_pick (lv' := [(3, _), (0, _), (1, _), (2, _)]) [0, 3, 4, 5] rfl ?_
      exact H _ hx
    · refine x_iload 0 dL_thefts_157 rfl ?_
      refine x_iload_n 2 dL_thefts_159 rfl rfl ?_
      refine y_ic_eq 267 dL_thefts_160 (by decide) (by omega) (by omega) (fun c_160 => ?_) (fun c_160 => ?_)
      · refine y_iinc (lv' := [(6, _), (4, _), (3, _), (0, _), (1, _), (2, _)]) 0 dL_thefts_267 rfl (lt_ok rfl) rfl ?_
        refine x_goto 151 dL_thefts_270 (by decide) ?_
        refine x_pick (lv' := [(6, _), (4, _), (3, _), (0, _), (1, _), (2, _)]) [0, 1, 2, 3, 4, 5] rfl ?_
        exact ih (iP I - (q + 1)) (by omega) (q + 1) _ rfl (by omega) hx
      · refine x_aload_n 3 dL_thefts_163 rfl rfl ?_
        refine x_iload 0 dL_thefts_164 rfl ?_
        refine x_callVqi (as := [_]) (rest := []) vL_94 (c_loadT hx hI hO hP (show q < iP I by omega)) dL_thefts_166 l0 rfl rfl rfl (Nat.le_of_ble_eq_true rfl) (Nat.le_of_ble_eq_true rfl) (Nat.le_of_ble_eq_true rfl) (fun r_166 S_166 q_166 => ?_)
        obtain ⟨rfl, e_166, x_166⟩ := q_166
        have hl2 := loadF_le I hO w q
        refine y_if_ge 176 dL_thefts_169 (by decide) (by omega) (fun c_169 => ?_) (fun c_169 => ?_)
        · refine x_aload_n 3 dL_thefts_176 rfl rfl ?_
          refine x_callVu (as := []) (rest := []) vL_83 (c_askedA e_166) dL_thefts_177 l0 rfl rfl rfl (Nat.le_of_ble_eq_true rfl) (Nat.le_of_ble_eq_true rfl) (Nat.le_of_ble_eq_true rfl) ?_
          refine x_istore (lv' := [(7, _), (6, _), (4, _), (3, _), (0, _), (1, _), (2, _)]) dL_thefts_180 (lt_ok rfl) rfl ?_
          refine x_aload_n 4 dL_thefts_182 rfl rfl ?_
          refine x_iload_n 3 dL_thefts_183 rfl rfl ?_
          refine x_iload 1 dL_thefts_184 rfl ?_
          refine x_callVqi (as := [_, _]) (rest := []) vL_194 (c_dropsT x_166 hI hO hP hL hv hp (show q < iP I by omega) (fun z => c_160 z.symm)) dL_thefts_186 l0 rfl rfl rfl (Nat.le_of_ble_eq_true rfl) (Nat.le_of_ble_eq_true rfl) (Nat.le_of_ble_eq_true rfl) (fun r_186 S_186 q_186 => ?_)
          obtain ⟨rfl, e_186, x_186⟩ := q_186
          have hs3 := hsub (by omega)
          refine x_istore (lv' := [(8, _), (7, _), (6, _), (4, _), (3, _), (0, _), (1, _), (2, _)]) dL_thefts_189 (lt_ok rfl) rfl ?_
          refine x_aload_n 5 dL_thefts_191 rfl rfl ?_
          refine x_callVu (as := []) (rest := []) vL_83 (c_askedA e_186) dL_thefts_192 l0 rfl rfl rfl (Nat.le_of_ble_eq_true rfl) (Nat.le_of_ble_eq_true rfl) (Nat.le_of_ble_eq_true rfl) ?_
          refine x_istore (lv' := [(9, _), (8, _), (7, _), (6, _), (4, _), (3, _), (0, _), (1, _), (2, _)]) dL_thefts_195 (lt_ok rfl) rfl ?_
          refine x_iload 1 dL_thefts_197 rfl ?_
          refine x_iload 2 dL_thefts_199 rfl ?_
          refine y_andn dL_thefts_201 dL_thefts_202 dL_thefts_203 (by omega) (by omega) ?_
          refine y_if_ne 265 dL_thefts_204 (by decide) (by omega) (fun c_204 => ?_) (fun c_204 => ?_)
          · refine x_iconst (v := nI 0) dL_thefts_265 (by decide) ?_
            refine x_zret rfl dL_thefts_266 (by decide) (by exfalso; first | omega | (rcases (hdk 0).2 with ⟨z1, z2⟩ | ⟨z1, g, z2, z3, z4⟩ <;> first | exact absurd z1 c_209 | exact absurd c_209 z1 | exact absurd z2 c_221 | exact nI_ne9 (by omega) (z4.symm.trans c_221)))
          · refine x_iload 1 dL_thefts_207 rfl ?_
            refine y_if_ne 216 dL_thefts_209 (by decide) (by omega) (fun c_209 => ?_) (fun c_209 => ?_)
            · refine x_iconst (v := nI 0) dL_thefts_216 (by decide) ?_
              refine x_iload 0 dL_thefts_217 rfl ?_
              refine x_bipush (v := -9) dL_thefts_219 (by decide) ?_
              refine x_ic_ne 228 dL_thefts_221 (by decide) (fun c_221 => ?_) (fun c_221 => ?_)
              · refine x_iconst (v := nI 0) dL_thefts_228 (by decide) ?_
                refine y_ic_ne 265 dL_thefts_229 (by decide) (by omega) (by omega) (fun c_229 => ?_) (fun c_229 => ?_)
                · refine x_iconst (v := nI 0) dL_thefts_265 (by decide) ?_
                  refine x_zret rfl dL_thefts_266 (by decide) (by exfalso; first | omega | (rcases (hdk 0).2 with ⟨z1, z2⟩ | ⟨z1, g, z2, z3, z4⟩ <;> first | exact absurd z1 c_209 | exact absurd c_209 z1 | exact absurd z2 c_221 | exact nI_ne9 (by omega) (z4.symm.trans c_221)))
                · refine x_iload 0 dL_thefts_232 rfl ?_
                  refine x_if_lt 248 dL_thefts_234 (by decide) (fun c_234 => ?_) (fun c_234 => ?_)
                  · refine x_aload_n 6 dL_thefts_248 rfl rfl ?_
                    refine x_iload_n 5 dL_thefts_249 rfl rfl ?_
                    refine x_iload 3 dL_thefts_250 rfl ?_
                    refine x_callVu (as := [_, _]) (rest := []) vL_197 (c_besideT x_186 hI hO hP hp (show q < iP I by omega) (fun z => c_160 z.symm)) dL_thefts_252 l0 rfl rfl rfl (Nat.le_of_ble_eq_true rfl) (Nat.le_of_ble_eq_true rfl) (Nat.le_of_ble_eq_true rfl) ?_
                    refine x_aload_n 6 dL_thefts_255 rfl rfl ?_
                    refine x_iload 3 dL_thefts_256 rfl ?_
                    refine x_iload_n 5 dL_thefts_258 rfl rfl ?_
                    refine x_callVu (as := [_, _]) (rest := [_]) vL_197 (c_besideT x_186 hI hO hP (show q < iP I by omega) hp c_160) dL_thefts_259 l0 rfl rfl rfl (Nat.le_of_ble_eq_true rfl) (Nat.le_of_ble_eq_true rfl) (Nat.le_of_ble_eq_true rfl) ?_
                    refine y_ic_eq 267 dL_thefts_262 (by decide) (by omega) (by omega) (fun c_262 => ?_) (fun c_262 => ?_)
                    · refine y_iinc (lv' := [(6, _), (9, _), (8, _), (7, _), (4, _), (3, _), (0, _), (1, _), (2, _)]) 3 dL_thefts_267 rfl (lt_ok rfl) rfl ?_
                      refine x_goto 151 dL_thefts_270 (by decide) ?_
                      refine x_pick (lv' := [(6, _), (4, _), (3, _), (0, _), (1, _), (2, _)]) [0, 4, 5, 6, 7, 8] rfl ?_
                      exact ih (iP I - (q + 1)) (by omega) (q + 1) _ rfl (by omega) x_186
                    · refine x_iconst (v := nI 0) dL_thefts_265 (by decide) ?_
                      refine x_zret rfl dL_thefts_266 (by decide) (by exfalso; first | omega | (rcases (hdk 0).2 with ⟨z1, z2⟩ | ⟨z1, g, z2, z3, z4⟩ <;> first | exact absurd z1 c_209 | exact absurd c_209 z1 | exact absurd z2 c_221 | exact nI_ne9 (by omega) (z4.symm.trans c_221)))
                  · obtain ⟨g, g1, g2, g3⟩ := ((hdk 0).2.resolve_left (fun z => by rw [z.2, e9] at c_234; omega)).2
                    have g4 : heldF I w p / 2 ^ g % 2 = 1 := has_iff.mpr (held_bit.mpr ⟨g1, hwq hp g2⟩)
                    rw [show ((9, Value.int (drP I w 3 p q (iM I)).2) : Nat × Value) = (9, Value.int (nI g)) from by rw [g3]]
                    refine x_iload 4 dL_thefts_237 rfl ?_
                    refine x_iload 0 dL_thefts_239 rfl ?_
                    refine y_ishr dL_thefts_241 (by omega) (by omega) ?_
                    refine x_iconst (v := nI 1) dL_thefts_242 (by decide) ?_
                    refine y_iand dL_thefts_243 ?_
                    rw [show (((heldF I w p) / 2 ^ g) &&& 1) = (heldF I w p / 2 ^ g % 2) from by rw [Nat.and_one_is_mod]]
                    refine x_iconst (v := nI 1) dL_thefts_244 (by decide) ?_
                    refine y_ic_ne 265 dL_thefts_245 (by decide) (by omega) (by omega) (fun c_245 => ?_) (fun c_245 => ?_)
                    · refine x_iconst (v := nI 0) dL_thefts_265 (by decide) ?_
                      refine x_zret rfl dL_thefts_266 (by decide) (by exfalso; first | omega | (rcases (hdk 0).2 with ⟨z1, z2⟩ | ⟨z1, g, z2, z3, z4⟩ <;> first | exact absurd z1 c_209 | exact absurd c_209 z1 | exact absurd z2 c_221 | exact nI_ne9 (by omega) (z4.symm.trans c_221)))
                    · refine x_aload_n 6 dL_thefts_248 rfl rfl ?_
                      refine x_iload_n 5 dL_thefts_249 rfl rfl ?_
                      refine x_iload 3 dL_thefts_250 rfl ?_
                      refine x_callVu (as := [_, _]) (rest := []) vL_197 (c_besideT x_186 hI hO hP hp (show q < iP I by omega) (fun z => c_160 z.symm)) dL_thefts_252 l0 rfl rfl rfl (Nat.le_of_ble_eq_true rfl) (Nat.le_of_ble_eq_true rfl) (Nat.le_of_ble_eq_true rfl) ?_
                      refine x_aload_n 6 dL_thefts_255 rfl rfl ?_
                      refine x_iload 3 dL_thefts_256 rfl ?_
                      refine x_iload_n 5 dL_thefts_258 rfl rfl ?_
                      refine x_callVu (as := [_, _]) (rest := [_]) vL_197 (c_besideT x_186 hI hO hP (show q < iP I by omega) hp c_160) dL_thefts_259 l0 rfl rfl rfl (Nat.le_of_ble_eq_true rfl) (Nat.le_of_ble_eq_true rfl) (Nat.le_of_ble_eq_true rfl) ?_
                      refine y_ic_eq 267 dL_thefts_262 (by decide) (by omega) (by omega) (fun c_262 => ?_) (fun c_262 => ?_)
                      · refine y_iinc (lv' := [(6, _), (9, _), (8, _), (7, _), (4, _), (3, _), (0, _), (1, _), (2, _)]) 3 dL_thefts_267 rfl (lt_ok rfl) rfl ?_
                        refine x_goto 151 dL_thefts_270 (by decide) ?_
                        refine x_pick (lv' := [(6, _), (4, _), (3, _), (0, _), (1, _), (2, _)]) [0, 4, 5, 6, 7, 8] rfl ?_
                        exact ih (iP I - (q + 1)) (by omega) (q + 1) _ rfl (by omega) x_186
                      · refine x_iconst (v := nI 0) dL_thefts_265 (by decide) ?_
                        refine x_zret rfl dL_thefts_266 (by decide) (by exfalso; first | omega | (rcases (hdk 0).2 with ⟨z1, z2⟩ | ⟨z1, g, z2, z3, z4⟩ <;> first | exact absurd z1 c_209 | exact absurd c_209 z1 | exact absurd z2 c_221 | exact nI_ne9 (by omega) (z4.symm.trans c_221)))
              · refine x_iconst (v := nI 1) dL_thefts_224 (by decide) ?_
                refine x_goto 229 dL_thefts_225 (by decide) ?_
                refine y_ic_ne 265 dL_thefts_229 (by decide) (by omega) (by omega) (fun c_229 => ?_) (fun c_229 => ?_)
                · refine x_iconst (v := nI 0) dL_thefts_265 (by decide) ?_
                  refine x_zret rfl dL_thefts_266 (by decide) (by exfalso; first | omega | (rcases (hdk 0).2 with ⟨z1, z2⟩ | ⟨z1, g, z2, z3, z4⟩ <;> first | exact absurd z1 c_209 | exact absurd c_209 z1 | exact absurd z2 c_221 | exact nI_ne9 (by omega) (z4.symm.trans c_221)))
                · refine x_iload 0 dL_thefts_232 rfl ?_
                  refine x_if_lt 248 dL_thefts_234 (by decide) (fun c_234 => ?_) (fun c_234 => ?_)
                  · refine x_aload_n 6 dL_thefts_248 rfl rfl ?_
                    refine x_iload_n 5 dL_thefts_249 rfl rfl ?_
                    refine x_iload 3 dL_thefts_250 rfl ?_
                    refine x_callVu (as := [_, _]) (rest := []) vL_197 (c_besideT x_186 hI hO hP hp (show q < iP I by omega) (fun z => c_160 z.symm)) dL_thefts_252 l0 rfl rfl rfl (Nat.le_of_ble_eq_true rfl) (Nat.le_of_ble_eq_true rfl) (Nat.le_of_ble_eq_true rfl) ?_
                    refine x_aload_n 6 dL_thefts_255 rfl rfl ?_
                    refine x_iload 3 dL_thefts_256 rfl ?_
                    refine x_iload_n 5 dL_thefts_258 rfl rfl ?_
                    refine x_callVu (as := [_, _]) (rest := [_]) vL_197 (c_besideT x_186 hI hO hP (show q < iP I by omega) hp c_160) dL_thefts_259 l0 rfl rfl rfl (Nat.le_of_ble_eq_true rfl) (Nat.le_of_ble_eq_true rfl) (Nat.le_of_ble_eq_true rfl) ?_
                    refine y_ic_eq 267 dL_thefts_262 (by decide) (by omega) (by omega) (fun c_262 => ?_) (fun c_262 => ?_)
                    · refine y_iinc (lv' := [(6, _), (9, _), (8, _), (7, _), (4, _), (3, _), (0, _), (1, _), (2, _)]) 3 dL_thefts_267 rfl (lt_ok rfl) rfl ?_
                      refine x_goto 151 dL_thefts_270 (by decide) ?_
                      refine x_pick (lv' := [(6, _), (4, _), (3, _), (0, _), (1, _), (2, _)]) [0, 4, 5, 6, 7, 8] rfl ?_
                      exact ih (iP I - (q + 1)) (by omega) (q + 1) _ rfl (by omega) x_186
                    · refine x_iconst (v := nI 0) dL_thefts_265 (by decide) ?_
                      refine x_zret rfl dL_thefts_266 (by decide) (by exfalso; first | omega | (rcases (hdk 0).2 with ⟨z1, z2⟩ | ⟨z1, g, z2, z3, z4⟩ <;> first | exact absurd z1 c_209 | exact absurd c_209 z1 | exact absurd z2 c_221 | exact nI_ne9 (by omega) (z4.symm.trans c_221)))
                  · obtain ⟨g, g1, g2, g3⟩ := ((hdk 0).2.resolve_left (fun z => by rw [z.2, e9] at c_234; omega)).2
                    have g4 : heldF I w p / 2 ^ g % 2 = 1 := has_iff.mpr (held_bit.mpr ⟨g1, hwq hp g2⟩)
                    rw [show ((9, Value.int (drP I w 3 p q (iM I)).2) : Nat × Value) = (9, Value.int (nI g)) from by rw [g3]]
                    refine x_iload 4 dL_thefts_237 rfl ?_
                    refine x_iload 0 dL_thefts_239 rfl ?_
                    refine y_ishr dL_thefts_241 (by omega) (by omega) ?_
                    refine x_iconst (v := nI 1) dL_thefts_242 (by decide) ?_
                    refine y_iand dL_thefts_243 ?_
                    rw [show (((heldF I w p) / 2 ^ g) &&& 1) = (heldF I w p / 2 ^ g % 2) from by rw [Nat.and_one_is_mod]]
                    refine x_iconst (v := nI 1) dL_thefts_244 (by decide) ?_
                    refine y_ic_ne 265 dL_thefts_245 (by decide) (by omega) (by omega) (fun c_245 => ?_) (fun c_245 => ?_)
                    · refine x_iconst (v := nI 0) dL_thefts_265 (by decide) ?_
                      refine x_zret rfl dL_thefts_266 (by decide) (by exfalso; first | omega | (rcases (hdk 0).2 with ⟨z1, z2⟩ | ⟨z1, g, z2, z3, z4⟩ <;> first | exact absurd z1 c_209 | exact absurd c_209 z1 | exact absurd z2 c_221 | exact nI_ne9 (by omega) (z4.symm.trans c_221)))
                    · refine x_aload_n 6 dL_thefts_248 rfl rfl ?_
                      refine x_iload_n 5 dL_thefts_249 rfl rfl ?_
                      refine x_iload 3 dL_thefts_250 rfl ?_
                      refine x_callVu (as := [_, _]) (rest := []) vL_197 (c_besideT x_186 hI hO hP hp (show q < iP I by omega) (fun z => c_160 z.symm)) dL_thefts_252 l0 rfl rfl rfl (Nat.le_of_ble_eq_true rfl) (Nat.le_of_ble_eq_true rfl) (Nat.le_of_ble_eq_true rfl) ?_
                      refine x_aload_n 6 dL_thefts_255 rfl rfl ?_
                      refine x_iload 3 dL_thefts_256 rfl ?_
                      refine x_iload_n 5 dL_thefts_258 rfl rfl ?_
                      refine x_callVu (as := [_, _]) (rest := [_]) vL_197 (c_besideT x_186 hI hO hP (show q < iP I by omega) hp c_160) dL_thefts_259 l0 rfl rfl rfl (Nat.le_of_ble_eq_true rfl) (Nat.le_of_ble_eq_true rfl) (Nat.le_of_ble_eq_true rfl) ?_
                      refine y_ic_eq 267 dL_thefts_262 (by decide) (by omega) (by omega) (fun c_262 => ?_) (fun c_262 => ?_)
                      · refine y_iinc (lv' := [(6, _), (9, _), (8, _), (7, _), (4, _), (3, _), (0, _), (1, _), (2, _)]) 3 dL_thefts_267 rfl (lt_ok rfl) rfl ?_
                        refine x_goto 151 dL_thefts_270 (by decide) ?_
                        refine x_pick (lv' := [(6, _), (4, _), (3, _), (0, _), (1, _), (2, _)]) [0, 4, 5, 6, 7, 8] rfl ?_
                        exact ih (iP I - (q + 1)) (by omega) (q + 1) _ rfl (by omega) x_186
                      · refine x_iconst (v := nI 0) dL_thefts_265 (by decide) ?_
                        refine x_zret rfl dL_thefts_266 (by decide) (by exfalso; first | omega | (rcases (hdk 0).2 with ⟨z1, z2⟩ | ⟨z1, g, z2, z3, z4⟩ <;> first | exact absurd z1 c_209 | exact absurd c_209 z1 | exact absurd z2 c_221 | exact nI_ne9 (by omega) (z4.symm.trans c_221)))
            · refine x_iconst (v := nI 1) dL_thefts_212 (by decide) ?_
              refine x_goto 217 dL_thefts_213 (by decide) ?_
              refine x_iload 0 dL_thefts_217 rfl ?_
              refine x_bipush (v := -9) dL_thefts_219 (by decide) ?_
              refine x_ic_ne 228 dL_thefts_221 (by decide) (fun c_221 => ?_) (fun c_221 => ?_)
              · refine x_iconst (v := nI 0) dL_thefts_228 (by decide) ?_
                refine y_ic_ne 265 dL_thefts_229 (by decide) (by omega) (by omega) (fun c_229 => ?_) (fun c_229 => ?_)
                · refine x_iconst (v := nI 0) dL_thefts_265 (by decide) ?_
                  refine x_zret rfl dL_thefts_266 (by decide) (by exfalso; first | omega | (rcases (hdk 0).2 with ⟨z1, z2⟩ | ⟨z1, g, z2, z3, z4⟩ <;> first | exact absurd z1 c_209 | exact absurd c_209 z1 | exact absurd z2 c_221 | exact nI_ne9 (by omega) (z4.symm.trans c_221)))
                · refine x_iload 0 dL_thefts_232 rfl ?_
                  refine x_if_lt 248 dL_thefts_234 (by decide) (fun c_234 => ?_) (fun c_234 => ?_)
                  · refine x_aload_n 6 dL_thefts_248 rfl rfl ?_
                    refine x_iload_n 5 dL_thefts_249 rfl rfl ?_
                    refine x_iload 3 dL_thefts_250 rfl ?_
                    refine x_callVu (as := [_, _]) (rest := []) vL_197 (c_besideT x_186 hI hO hP hp (show q < iP I by omega) (fun z => c_160 z.symm)) dL_thefts_252 l0 rfl rfl rfl (Nat.le_of_ble_eq_true rfl) (Nat.le_of_ble_eq_true rfl) (Nat.le_of_ble_eq_true rfl) ?_
                    refine x_aload_n 6 dL_thefts_255 rfl rfl ?_
                    refine x_iload 3 dL_thefts_256 rfl ?_
                    refine x_iload_n 5 dL_thefts_258 rfl rfl ?_
                    refine x_callVu (as := [_, _]) (rest := [_]) vL_197 (c_besideT x_186 hI hO hP (show q < iP I by omega) hp c_160) dL_thefts_259 l0 rfl rfl rfl (Nat.le_of_ble_eq_true rfl) (Nat.le_of_ble_eq_true rfl) (Nat.le_of_ble_eq_true rfl) ?_
                    refine y_ic_eq 267 dL_thefts_262 (by decide) (by omega) (by omega) (fun c_262 => ?_) (fun c_262 => ?_)
                    · refine y_iinc (lv' := [(6, _), (9, _), (8, _), (7, _), (4, _), (3, _), (0, _), (1, _), (2, _)]) 3 dL_thefts_267 rfl (lt_ok rfl) rfl ?_
                      refine x_goto 151 dL_thefts_270 (by decide) ?_
                      refine x_pick (lv' := [(6, _), (4, _), (3, _), (0, _), (1, _), (2, _)]) [0, 4, 5, 6, 7, 8] rfl ?_
                      exact ih (iP I - (q + 1)) (by omega) (q + 1) _ rfl (by omega) x_186
                    · refine x_iconst (v := nI 0) dL_thefts_265 (by decide) ?_
                      refine x_zret rfl dL_thefts_266 (by decide) (by exfalso; first | omega | (rcases (hdk 0).2 with ⟨z1, z2⟩ | ⟨z1, g, z2, z3, z4⟩ <;> first | exact absurd z1 c_209 | exact absurd c_209 z1 | exact absurd z2 c_221 | exact nI_ne9 (by omega) (z4.symm.trans c_221)))
                  · obtain ⟨g, g1, g2, g3⟩ := ((hdk 0).2.resolve_left (fun z => by rw [z.2, e9] at c_234; omega)).2
                    have g4 : heldF I w p / 2 ^ g % 2 = 1 := has_iff.mpr (held_bit.mpr ⟨g1, hwq hp g2⟩)
                    rw [show ((9, Value.int (drP I w 3 p q (iM I)).2) : Nat × Value) = (9, Value.int (nI g)) from by rw [g3]]
                    refine x_iload 4 dL_thefts_237 rfl ?_
                    refine x_iload 0 dL_thefts_239 rfl ?_
                    refine y_ishr dL_thefts_241 (by omega) (by omega) ?_
                    refine x_iconst (v := nI 1) dL_thefts_242 (by decide) ?_
                    refine y_iand dL_thefts_243 ?_
                    rw [show (((heldF I w p) / 2 ^ g) &&& 1) = (heldF I w p / 2 ^ g % 2) from by rw [Nat.and_one_is_mod]]
                    refine x_iconst (v := nI 1) dL_thefts_244 (by decide) ?_
                    refine y_ic_ne 265 dL_thefts_245 (by decide) (by omega) (by omega) (fun c_245 => ?_) (fun c_245 => ?_)
                    · refine x_iconst (v := nI 0) dL_thefts_265 (by decide) ?_
                      refine x_zret rfl dL_thefts_266 (by decide) (by exfalso; first | omega | (rcases (hdk 0).2 with ⟨z1, z2⟩ | ⟨z1, g, z2, z3, z4⟩ <;> first | exact absurd z1 c_209 | exact absurd c_209 z1 | exact absurd z2 c_221 | exact nI_ne9 (by omega) (z4.symm.trans c_221)))
                    · refine x_aload_n 6 dL_thefts_248 rfl rfl ?_
                      refine x_iload_n 5 dL_thefts_249 rfl rfl ?_
                      refine x_iload 3 dL_thefts_250 rfl ?_
                      refine x_callVu (as := [_, _]) (rest := []) vL_197 (c_besideT x_186 hI hO hP hp (show q < iP I by omega) (fun z => c_160 z.symm)) dL_thefts_252 l0 rfl rfl rfl (Nat.le_of_ble_eq_true rfl) (Nat.le_of_ble_eq_true rfl) (Nat.le_of_ble_eq_true rfl) ?_
                      refine x_aload_n 6 dL_thefts_255 rfl rfl ?_
                      refine x_iload 3 dL_thefts_256 rfl ?_
                      refine x_iload_n 5 dL_thefts_258 rfl rfl ?_
                      refine x_callVu (as := [_, _]) (rest := [_]) vL_197 (c_besideT x_186 hI hO hP (show q < iP I by omega) hp c_160) dL_thefts_259 l0 rfl rfl rfl (Nat.le_of_ble_eq_true rfl) (Nat.le_of_ble_eq_true rfl) (Nat.le_of_ble_eq_true rfl) ?_
                      refine y_ic_eq 267 dL_thefts_262 (by decide) (by omega) (by omega) (fun c_262 => ?_) (fun c_262 => ?_)
                      · refine y_iinc (lv' := [(6, _), (9, _), (8, _), (7, _), (4, _), (3, _), (0, _), (1, _), (2, _)]) 3 dL_thefts_267 rfl (lt_ok rfl) rfl ?_
                        refine x_goto 151 dL_thefts_270 (by decide) ?_
                        refine x_pick (lv' := [(6, _), (4, _), (3, _), (0, _), (1, _), (2, _)]) [0, 4, 5, 6, 7, 8] rfl ?_
                        exact ih (iP I - (q + 1)) (by omega) (q + 1) _ rfl (by omega) x_186
                      · refine x_iconst (v := nI 0) dL_thefts_265 (by decide) ?_
                        refine x_zret rfl dL_thefts_266 (by decide) (by exfalso; first | omega | (rcases (hdk 0).2 with ⟨z1, z2⟩ | ⟨z1, g, z2, z3, z4⟩ <;> first | exact absurd z1 c_209 | exact absurd c_209 z1 | exact absurd z2 c_221 | exact nI_ne9 (by omega) (z4.symm.trans c_221)))
              · refine x_iconst (v := nI 1) dL_thefts_224 (by decide) ?_
                refine x_goto 229 dL_thefts_225 (by decide) ?_
                refine y_ic_ne 265 dL_thefts_229 (by decide) (by omega) (by omega) (fun c_229 => ?_) (fun c_229 => ?_)
                · refine x_iconst (v := nI 0) dL_thefts_265 (by decide) ?_
                  refine x_zret rfl dL_thefts_266 (by decide) (by exfalso; first | omega | (rcases (hdk 0).2 with ⟨z1, z2⟩ | ⟨z1, g, z2, z3, z4⟩ <;> first | exact absurd z1 c_209 | exact absurd c_209 z1 | exact absurd z2 c_221 | exact nI_ne9 (by omega) (z4.symm.trans c_221)))
                · refine x_iload 0 dL_thefts_232 rfl ?_
                  refine x_if_lt 248 dL_thefts_234 (by decide) (fun c_234 => ?_) (fun c_234 => ?_)
                  · refine x_aload_n 6 dL_thefts_248 rfl rfl ?_
                    refine x_iload_n 5 dL_thefts_249 rfl rfl ?_
                    refine x_iload 3 dL_thefts_250 rfl ?_
                    refine x_callVu (as := [_, _]) (rest := []) vL_197 (c_besideT x_186 hI hO hP hp (show q < iP I by omega) (fun z => c_160 z.symm)) dL_thefts_252 l0 rfl rfl rfl (Nat.le_of_ble_eq_true rfl) (Nat.le_of_ble_eq_true rfl) (Nat.le_of_ble_eq_true rfl) ?_
                    refine x_aload_n 6 dL_thefts_255 rfl rfl ?_
                    refine x_iload 3 dL_thefts_256 rfl ?_
                    refine x_iload_n 5 dL_thefts_258 rfl rfl ?_
                    refine x_callVu (as := [_, _]) (rest := [_]) vL_197 (c_besideT x_186 hI hO hP (show q < iP I by omega) hp c_160) dL_thefts_259 l0 rfl rfl rfl (Nat.le_of_ble_eq_true rfl) (Nat.le_of_ble_eq_true rfl) (Nat.le_of_ble_eq_true rfl) ?_
                    refine y_ic_eq 267 dL_thefts_262 (by decide) (by omega) (by omega) (fun c_262 => ?_) (fun c_262 => ?_)
                    · refine y_iinc (lv' := [(6, _), (9, _), (8, _), (7, _), (4, _), (3, _), (0, _), (1, _), (2, _)]) 3 dL_thefts_267 rfl (lt_ok rfl) rfl ?_
                      refine x_goto 151 dL_thefts_270 (by decide) ?_
                      refine x_pick (lv' := [(6, _), (4, _), (3, _), (0, _), (1, _), (2, _)]) [0, 4, 5, 6, 7, 8] rfl ?_
                      exact ih (iP I - (q + 1)) (by omega) (q + 1) _ rfl (by omega) x_186
                    · refine x_iconst (v := nI 0) dL_thefts_265 (by decide) ?_
                      refine x_zret rfl dL_thefts_266 (by decide) (by exfalso; first | omega | (rcases (hdk 0).2 with ⟨z1, z2⟩ | ⟨z1, g, z2, z3, z4⟩ <;> first | exact absurd z1 c_209 | exact absurd c_209 z1 | exact absurd z2 c_221 | exact nI_ne9 (by omega) (z4.symm.trans c_221)))
                  · obtain ⟨g, g1, g2, g3⟩ := ((hdk 0).2.resolve_left (fun z => by rw [z.2, e9] at c_234; omega)).2
                    have g4 : heldF I w p / 2 ^ g % 2 = 1 := has_iff.mpr (held_bit.mpr ⟨g1, hwq hp g2⟩)
                    rw [show ((9, Value.int (drP I w 3 p q (iM I)).2) : Nat × Value) = (9, Value.int (nI g)) from by rw [g3]]
                    refine x_iload 4 dL_thefts_237 rfl ?_
                    refine x_iload 0 dL_thefts_239 rfl ?_
                    refine y_ishr dL_thefts_241 (by omega) (by omega) ?_
                    refine x_iconst (v := nI 1) dL_thefts_242 (by decide) ?_
                    refine y_iand dL_thefts_243 ?_
                    rw [show (((heldF I w p) / 2 ^ g) &&& 1) = (heldF I w p / 2 ^ g % 2) from by rw [Nat.and_one_is_mod]]
                    refine x_iconst (v := nI 1) dL_thefts_244 (by decide) ?_
                    refine y_ic_ne 265 dL_thefts_245 (by decide) (by omega) (by omega) (fun c_245 => ?_) (fun c_245 => ?_)
                    · refine x_iconst (v := nI 0) dL_thefts_265 (by decide) ?_
                      refine x_zret rfl dL_thefts_266 (by decide) (by exfalso; first | omega | (rcases (hdk 0).2 with ⟨z1, z2⟩ | ⟨z1, g, z2, z3, z4⟩ <;> first | exact absurd z1 c_209 | exact absurd c_209 z1 | exact absurd z2 c_221 | exact nI_ne9 (by omega) (z4.symm.trans c_221)))
                    · refine x_aload_n 6 dL_thefts_248 rfl rfl ?_
                      refine x_iload_n 5 dL_thefts_249 rfl rfl ?_
                      refine x_iload 3 dL_thefts_250 rfl ?_
                      refine x_callVu (as := [_, _]) (rest := []) vL_197 (c_besideT x_186 hI hO hP hp (show q < iP I by omega) (fun z => c_160 z.symm)) dL_thefts_252 l0 rfl rfl rfl (Nat.le_of_ble_eq_true rfl) (Nat.le_of_ble_eq_true rfl) (Nat.le_of_ble_eq_true rfl) ?_
                      refine x_aload_n 6 dL_thefts_255 rfl rfl ?_
                      refine x_iload 3 dL_thefts_256 rfl ?_
                      refine x_iload_n 5 dL_thefts_258 rfl rfl ?_
                      refine x_callVu (as := [_, _]) (rest := [_]) vL_197 (c_besideT x_186 hI hO hP (show q < iP I by omega) hp c_160) dL_thefts_259 l0 rfl rfl rfl (Nat.le_of_ble_eq_true rfl) (Nat.le_of_ble_eq_true rfl) (Nat.le_of_ble_eq_true rfl) ?_
                      refine y_ic_eq 267 dL_thefts_262 (by decide) (by omega) (by omega) (fun c_262 => ?_) (fun c_262 => ?_)
                      · refine y_iinc (lv' := [(6, _), (9, _), (8, _), (7, _), (4, _), (3, _), (0, _), (1, _), (2, _)]) 3 dL_thefts_267 rfl (lt_ok rfl) rfl ?_
                        refine x_goto 151 dL_thefts_270 (by decide) ?_
                        refine x_pick (lv' := [(6, _), (4, _), (3, _), (0, _), (1, _), (2, _)]) [0, 4, 5, 6, 7, 8] rfl ?_
                        exact ih (iP I - (q + 1)) (by omega) (q + 1) _ rfl (by omega) x_186
                      · refine x_iconst (v := nI 0) dL_thefts_265 (by decide) ?_
                        refine x_zret rfl dL_thefts_266 (by decide) (by exfalso; first | omega | (rcases (hdk 0).2 with ⟨z1, z2⟩ | ⟨z1, g, z2, z3, z4⟩ <;> first | exact absurd z1 c_209 | exact absurd c_209 z1 | exact absurd z2 c_221 | exact nI_ne9 (by omega) (z4.symm.trans c_221)))
        · exact (show False by omega).elim

set_option maxHeartbeats 4000000 in
set_option maxRecDepth 100000 in
theorem tf_A {S : St} {I : Isl} (hI : IsX 11 I S) (hO : IOK I) {w : Nat → Nat} (hP : PlT 35 I w S) (hL : S.1 35 5 = nI 3) (hv : VS I w 3) (hP0 : ¬ iP I = 0)  : ∀ (p : Nat) (S1 : St), (p ≤ iP I) → (ThS I S S1) → X 7 210 mL_thefts (qi (fun r S' => r = nI 1 ∧ ThS I S S')) 2 [(3, .int (nI p)), (0, .ref 0), (1, .int (nI ((iP I)))), (2, .int (nI ((iM I))))] [] S1 := by
  intro p S1
  induction hm : iP I - p using Nat.strongRecOn generalizing p S1 with
  | _ mm ih =>
    intro hp hx
    have hO1 := hO.1
    have hO2 := hO.2.1
    have hO4 := hO.2.2.2.1
    have e9 : (-9 : Int32).toInt = -9 := by decide
    have hl2 := loadF_le I hO w p
    refine x_iload_n 0 dL_thefts_2 rfl rfl ?_
    refine x_iload_n 2 dL_thefts_3 rfl rfl ?_
    refine y_ic_ge 279 dL_thefts_4 (by decide) (by omega) (by omega) (fun c_4 => ?_) (fun c_4 => ?_)
    · refine x_aload_n 1 dL_thefts_279 rfl rfl ?_
      refine x_callVqi (as := []) (rest := []) vL_200 (c_pairT hx hI hO hP hP0) dL_thefts_280 l0 rfl rfl rfl (Nat.le_of_ble_eq_true rfl) (Nat.le_of_ble_eq_true rfl) (Nat.le_of_ble_eq_true rfl) (fun r_280 S_280 q_280 => ?_)
      obtain ⟨p_280, e_280, x_280⟩ := q_280
      refine x_bipush (v := -9) dL_thefts_283 (by decide) ?_
      refine x_ic_lt 299 dL_thefts_285 (by decide) (fun c_285 => ?_) (fun c_285 => ?_)
      · refine x_iconst (v := nI 0) dL_thefts_299 (by decide) ?_
        refine x_zret rfl dL_thefts_300 (by decide) (by exfalso; omega)
      · refine x_aload_n 1 dL_thefts_288 rfl rfl ?_
        refine x_callVu (as := []) (rest := []) vL_83 (c_askedA rfl) dL_thefts_289 l0 rfl rfl rfl (Nat.le_of_ble_eq_true rfl) (Nat.le_of_ble_eq_true rfl) (Nat.le_of_ble_eq_true rfl) ?_
        refine x_if_lt 299 dL_thefts_292 (by decide) (fun c_292 => ?_) (fun c_292 => ?_)
        · refine x_iconst (v := nI 0) dL_thefts_299 (by decide) ?_
          refine x_zret rfl dL_thefts_300 (by decide) (by exfalso; omega)
        · refine x_iconst (v := nI 1) dL_thefts_295 (by decide) ?_
          refine x_goto 300 dL_thefts_296 (by decide) ?_
          refine x_zret rfl dL_thefts_300 (by decide) ⟨_, rfl, rfl, x_280⟩
    · refine x_aload_n 1 dL_thefts_7 rfl rfl ?_
      refine x_iload_n 0 dL_thefts_8 rfl rfl ?_
      refine x_callVqi (as := [_]) (rest := []) vL_94 (c_loadT hx hI hO hP (show p < iP I by omega)) dL_thefts_9 l0 rfl rfl rfl (Nat.le_of_ble_eq_true rfl) (Nat.le_of_ble_eq_true rfl) (Nat.le_of_ble_eq_true rfl) (fun r_9 S_9 q_9 => ?_)
      obtain ⟨rfl, e_9, x_9⟩ := q_9
      refine y_if_ge 19 dL_thefts_12 (by decide) (by omega) (fun c_12 => ?_) (fun c_12 => ?_)
      · refine x_aload_n 1 dL_thefts_19 rfl rfl ?_
        refine x_callVu (as := []) (rest := []) vL_83 (c_askedA e_9) dL_thefts_20 l0 rfl rfl rfl (Nat.le_of_ble_eq_true rfl) (Nat.le_of_ble_eq_true rfl) (Nat.le_of_ble_eq_true rfl) ?_
        refine x_istore (lv' := [(4, _), (3, _), (0, _), (1, _), (2, _)]) dL_thefts_23 (lt_ok rfl) rfl ?_
        refine x_iconst (v := nI 0) dL_thefts_25 (by decide) ?_
        refine x_istore (lv' := [(5, _), (4, _), (3, _), (0, _), (1, _), (2, _)]) dL_thefts_26 (lt_ok rfl) rfl ?_
        refine x_iconst (v := nI 0) dL_thefts_28 (by decide) ?_
        refine x_istore (lv' := [(6, _), (5, _), (4, _), (3, _), (0, _), (1, _), (2, _)]) dL_thefts_29 (lt_ok rfl) rfl ?_
        refine x_pick (lv' := [(6, _), (5, _), (4, _), (3, _), (0, _), (1, _), (2, _)]) [0, 1, 2, 3, 4, 5, 6] rfl ?_
        exact tf_A2 hI hO hP hL hv hP0 (show p < iP I by omega) (fun S1 z => tf_B hI hO hP hL hv hP0 (show p < iP I by omega) (fun S2 z2 => ih (iP I - (p + 1)) (by omega) (p + 1) S2 rfl (by omega) z2) 0 S1 (Nat.zero_le _) z) 0 _ (Nat.zero_le _) x_9
      · exact (show False by omega).elim

set_option maxHeartbeats 4000000 in
set_option maxRecDepth 100000 in
theorem c_L_thefts {S : St} {I : Isl} (hI : IsX 11 I S) (hO : IOK I) {w : Nat → Nat} (hP : PlT 35 I w S) (hL : S.1 35 5 = nI 3) (hv : VS I w 3) (hP0 : ¬ iP I = 0) (hs : SrX I S)  : C 7 210 yL_thefts mL_thefts [.ref 0, .int (nI ((iP I))), .int (nI ((iM I)))] S (qi (fun r S' => r = nI 1 ∧ ThS I S S')) := by
  refine C.ofX (by decide) rfl (Nat.le_of_ble_eq_true rfl) ?_
  show X 7 210 mL_thefts (qi (fun r S' => r = nI 1 ∧ ThS I S S')) 0 [(0, .ref 0), (1, .int (nI ((iP I)))), (2, .int (nI ((iM I))))] [] S
  refine x_iconst (v := nI 0) dL_thefts_0 (by decide) ?_
  refine x_istore_n (lv' := [(3, _), (0, _), (1, _), (2, _)]) dL_thefts_1 rfl (lt_ok rfl) rfl ?_
  refine x_pick (lv' := [(3, _), (0, _), (1, _), (2, _)]) [0, 1, 2, 3] rfl ?_
  exact tf_A hI hO hP hL hv hP0 0 S (Nat.zero_le _) ⟨rfl, fun _ _ _ _ => rfl, hs⟩
