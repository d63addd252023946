/-! ===== the reference reads a text: works ===== -/
set_option maxHeartbeats 4000000 in
set_option maxRecDepth 100000 in
theorem lp_wm {S : St} {t n pos : Nat} {β : Nat → Int32} (hx : TxM t n β S) (hpn : pos ≤ 1000) {I : Isl} (hM : S.1 83 22 = nI (iM I)) (hO : IOK I) {q h : Nat} {Q : Option Value → St → Prop} (kk : ¬ (wqF (chF n β) pos (wK (chF n β) (iM I) pos) = 0 ∨ ¬ chF n β (pos + (wK (chF n β) (iM I) pos)) = 58) → X 2 60 mX11_readsWork Q 145 [(4, .int (nI (wqF (chF n β) pos (wK (chF n β) (iM I) pos)))), (3, .int (nI q)), (2, .int (nI h)), (0, .ref 83), (1, .int (nI t))] [] (setI S 83 19 (nI (pos + (wK (chF n β) (iM I) pos))))) (kf : (wqF (chF n β) pos (wK (chF n β) (iM I) pos) = 0 ∨ ¬ chF n β (pos + (wK (chF n β) (iM I) pos)) = 58) → Q (some (.int (nI 0))) (setI S 83 19 (nI (pos + (wK (chF n β) (iM I) pos)))))  : ∀ (k : Nat), (k ≤ 5) → (∀ j, j < k → wgood (chF n β) (iM I) pos j) → (wkF (chF n β) (iM I) pos (5 - k) k = (wK (chF n β) (iM I) pos)) → X 2 60 mX11_readsWork (Q) 63 [(4, .int (nI (wqF (chF n β) pos k))), (3, .int (nI q)), (2, .int (nI h)), (0, .ref 83), (1, .int (nI t))] [] (setI S 83 19 (nI (pos + k))) := by
  intro k
  induction hm : 6 - k using Nat.strongRecOn generalizing k with
  | _ mm ih =>
    intro hk hg hw
    have hx1 := hx.1
    have hx2 := hx.2.1
    have hO1 := hO.1
    have hO2 := hO.2.1
    have hO3 := hO.2.2.1
    have hO4 := hO.2.2.2.1
    have hx3 : TxM t n β (setI S 83 19 (nI (pos + k))) := hx.fr (FrJ.refl.set (Or.inl (by decide)))
    have hsg := sg_M (n := n) (i := pos + k) hx.2.2.1
    have hws := wq_lt k hg
    have hw5 : 2 ^ iM I ≤ 2 ^ 5 := Nat.pow_le_pow_right (by decide) hO2
    have hfg := hsg.fig (lo := 0) (hi := 9) (by decide)
    have h58 := hsg.eq (k := 58) (by decide) (by decide)
    have hgd : wgood (chF n β) (iM I) pos k ↔ (48 ≤ (chF n β (pos + k)) ∧ (chF n β (pos + k)) < 48 + iM I ∧ (wqF (chF n β) pos k).testBit ((chF n β (pos + k)) - 48) = false) := Iff.rfl
    refine x_aload_n 3 dX11_readsWork_63 rfl rfl ?_
    refine x_iload_n 4 dX11_readsWork_64 rfl rfl ?_
    refine x_aload_n 3 dX11_readsWork_65 rfl rfl ?_
    refine y_getI fX11_126 dX11_readsWork_66 l83 rfl rdI_eq ?_
    refine x_callVu (as := [_, _]) (rest := []) vX11_129 (c_byteM hx3 (by omega)) dX11_readsWork_69 l83 rfl rfl rfl (Nat.le_of_ble_eq_true rfl) (Nat.le_of_ble_eq_true rfl) (Nat.le_of_ble_eq_true rfl) ?_
    refine x_bipush (v := nI 58) dX11_readsWork_72 (by decide) ?_
    refine x_ic_ne 82 dX11_readsWork_74 (by decide) (fun c_74 => ?_) (fun c_74 => ?_)
    · refine x_aload_n 3 dX11_readsWork_82 rfl rfl ?_
      refine x_iload_n 4 dX11_readsWork_83 rfl rfl ?_
      refine x_aload_n 3 dX11_readsWork_84 rfl rfl ?_
      refine y_getI fX11_126 dX11_readsWork_85 l83 rfl rdI_eq ?_
      refine x_callVu (as := [_, _]) (rest := []) vX11_129 (c_byteM hx3 (by omega)) dX11_readsWork_88 l83 rfl rfl rfl (Nat.le_of_ble_eq_true rfl) (Nat.le_of_ble_eq_true rfl) (Nat.le_of_ble_eq_true rfl) ?_
      refine x_bipush (v := nI 48) dX11_readsWork_91 (by decide) ?_
      refine x_isub dX11_readsWork_93 ?_
      refine x_istore (lv' := [(5, _), (4, _), (3, _), (2, _), (0, _), (1, _)]) dX11_readsWork_94 (by decide) rfl ?_
      refine x_iload 0 dX11_readsWork_96 rfl ?_
      refine x_iconst (v := nI 0) dX11_readsWork_98 (by decide) ?_
      refine x_aload_n 4 dX11_readsWork_99 rfl rfl ?_
      refine y_getI fX11_144 dX11_readsWork_100 l83 rfl ((rdI_j (by decide)).trans hM) ?_
      refine x_iconst (v := nI 1) dX11_readsWork_103 (by decide) ?_
      refine x_isub dX11_readsWork_104 ?_
      refine x_callSb (as := [_, _, _]) (rest := []) sX11_98 c_X11_in dX11_readsWork_105 rfl rfl (Nat.le_of_ble_eq_true rfl) (Nat.le_of_ble_eq_true rfl) (Nat.le_of_ble_eq_true rfl) (fun c_105 => ?_) (fun c_105 => ?_)
      · refine u_if_eq 121 dX11_readsWork_108 (by decide) (by decide) ?_
        have hin := (in_iff (by omega)).mp c_105
        have hd48 := hfg.mp ⟨by omega, by omega⟩
        have hdv := hsg.val hd48.1 hd48.2
        have hdi : (sgM n β (pos + k) - nI 48).toInt = (((chF n β (pos + k)) - 48 : Nat) : Int) := by rw [hdv]; exact tiN (by omega)
        rw [hdv]
        refine x_iload 1 dX11_readsWork_111 rfl ?_
        refine x_iload 0 dX11_readsWork_113 rfl ?_
        refine x_callSb (as := [_, _]) (rest := []) sX11_162 (c_X11_has (by omega) (by omega)) dX11_readsWork_115 rfl rfl (Nat.le_of_ble_eq_true rfl) (Nat.le_of_ble_eq_true rfl) (Nat.le_of_ble_eq_true rfl) (fun c_115 => ?_) (fun c_115 => ?_)
        · refine u_if_eq 123 dX11_readsWork_118 (by decide) (by decide) ?_
          refine x_iconst (v := nI 0) dX11_readsWork_121 (by decide) ?_
          refine x_zret rfl dX11_readsWork_122 (by decide) (by
            have hne : ¬ wgood (chF n β) (iM I) pos k := fun h => by
              have h1 := hgd.mp h
              first
              | (refine c_105 ((in_iff (by omega)).mpr ?_); rw [hsg.val h1.1 (by omega)]; have := tiN (show (chF n β (pos + k)) - 48 < 2147483648 by omega); omega)
              | exact absurd c_115 (by rw [h1.2.2]; decide)
            have e := (wk_f hk hne).symm.trans hw
            rw [← e] at kf
            refine kf ?_
            first
            | exact Or.inl c_79
            | exact Or.inr (fun z => c_74 (h58.mpr z)))
        · refine t_if_eq 123 dX11_readsWork_118 (by decide) (by decide) ?_
          have hgood := hgd.mpr ⟨by omega, by omega, Bool.eq_false_iff.mpr c_115⟩
          have hk5 : k + 1 ≤ iM I := wq_many (k + 1) (fun j hj => by rcases Nat.lt_succ_iff_lt_or_eq.mp hj with h | h; exact hg j h; rw [h]; exact hgood)
          refine x_iload 1 dX11_readsWork_123 rfl ?_
          refine x_iconst (v := nI 1) dX11_readsWork_125 (by decide) ?_
          refine x_iload 0 dX11_readsWork_126 rfl ?_
          refine y_ishl dX11_readsWork_128 (by omega) ?_
          refine y_ior dX11_readsWork_129 ?_
          refine x_istore (lv' := [(4, _), (5, _), (3, _), (2, _), (0, _), (1, _)]) dX11_readsWork_130 (by decide) rfl ?_
          rw [show ((4, Value.int (nI ((wqF (chF n β) pos k ||| (1 * 2 ^ ((chF n β (pos + k)) - 48)))))) : Nat × Value) = (4, Value.int (nI (wqF (chF n β) pos (k + 1)))) from by rw [Nat.one_mul]; rfl]
          refine x_aload_n 4 dX11_readsWork_132 rfl rfl ?_
          refine x_dup dX11_readsWork_133 rfl ?_
          refine y_getI fX11_126 dX11_readsWork_134 l83 rfl rdI_eq ?_
          refine x_iconst (v := nI 1) dX11_readsWork_137 (by decide) ?_
          refine y_iadd dX11_readsWork_138 ?_
          refine x_putI pX11_126 dX11_readsWork_139 l83 rfl ?_
          refine x_cast set_set ?_
          refine x_goto 63 dX11_readsWork_142 (by decide) ?_
          refine x_pick (lv' := [(4, _), (3, _), (2, _), (0, _), (1, _)]) [0, 2, 3, 4, 5] rfl ?_
          exact ih (6 - (k + 1)) (by omega) (k + 1) rfl (by omega) (fun j hj => by rcases Nat.lt_succ_iff_lt_or_eq.mp hj with h | h; exact hg j h; rw [h]; exact hgood) ((wk_t (by omega) hgood).symm.trans hw)
      · refine t_if_eq 121 dX11_readsWork_108 (by decide) (by decide) ?_
        refine x_iconst (v := nI 0) dX11_readsWork_121 (by decide) ?_
        refine x_zret rfl dX11_readsWork_122 (by decide) (by
          have hne : ¬ wgood (chF n β) (iM I) pos k := fun h => by
            have h1 := hgd.mp h
            first
            | (refine c_105 ((in_iff (by omega)).mpr ?_); rw [hsg.val h1.1 (by omega)]; have := tiN (show (chF n β (pos + k)) - 48 < 2147483648 by omega); omega)
            | exact absurd c_115 (by rw [h1.2.2]; decide)
          have e := (wk_f hk hne).symm.trans hw
          rw [← e] at kf
          refine kf ?_
          first
          | exact Or.inl c_79
          | exact Or.inr (fun z => c_74 (h58.mpr z)))
    · refine x_iload 0 dX11_readsWork_77 rfl ?_
      refine y_if_ne 145 dX11_readsWork_79 (by decide) (by omega) (fun c_79 => ?_) (fun c_79 => ?_)
      · refine x_pick (lv' := [(4, _), (3, _), (2, _), (0, _), (1, _)]) [0, 1, 2, 3, 4] rfl ?_
        have c58 := h58.mp c_74
        have hne : ¬ wgood (chF n β) (iM I) pos k := fun h => by
          have h1 := hgd.mp h
          omega
        have e := (wk_f hk hne).symm.trans hw
        rw [← e] at kk
        exact kk (fun z => z.elim c_79 (fun z => z c58))
      · refine x_aload_n 3 dX11_readsWork_82 rfl rfl ?_
        refine x_iload_n 4 dX11_readsWork_83 rfl rfl ?_
        refine x_aload_n 3 dX11_readsWork_84 rfl rfl ?_
        refine y_getI fX11_126 dX11_readsWork_85 l83 rfl rdI_eq ?_
        refine x_callVu (as := [_, _]) (rest := []) vX11_129 (c_byteM hx3 (by omega)) dX11_readsWork_88 l83 rfl rfl rfl (Nat.le_of_ble_eq_true rfl) (Nat.le_of_ble_eq_true rfl) (Nat.le_of_ble_eq_true rfl) ?_
        refine x_bipush (v := nI 48) dX11_readsWork_91 (by decide) ?_
        refine x_isub dX11_readsWork_93 ?_
        refine x_istore (lv' := [(5, _), (4, _), (3, _), (2, _), (0, _), (1, _)]) dX11_readsWork_94 (by decide) rfl ?_
        refine x_iload 0 dX11_readsWork_96 rfl ?_
        refine x_iconst (v := nI 0) dX11_readsWork_98 (by decide) ?_
        refine x_aload_n 4 dX11_readsWork_99 rfl rfl ?_
        refine y_getI fX11_144 dX11_readsWork_100 l83 rfl ((rdI_j (by decide)).trans hM) ?_
        refine x_iconst (v := nI 1) dX11_readsWork_103 (by decide) ?_
        refine x_isub dX11_readsWork_104 ?_
        refine x_callSb (as := [_, _, _]) (rest := []) sX11_98 c_X11_in dX11_readsWork_105 rfl rfl (Nat.le_of_ble_eq_true rfl) (Nat.le_of_ble_eq_true rfl) (Nat.le_of_ble_eq_true rfl) (fun c_105 => ?_) (fun c_105 => ?_)
        · refine u_if_eq 121 dX11_readsWork_108 (by decide) (by decide) ?_
          have hin := (in_iff (by omega)).mp c_105
          have hd48 := hfg.mp ⟨by omega, by omega⟩
          have hdv := hsg.val hd48.1 hd48.2
          have hdi : (sgM n β (pos + k) - nI 48).toInt = (((chF n β (pos + k)) - 48 : Nat) : Int) := by rw [hdv]; exact tiN (by omega)
          rw [hdv]
          refine x_iload 1 dX11_readsWork_111 rfl ?_
          refine x_iload 0 dX11_readsWork_113 rfl ?_
          refine x_callSb (as := [_, _]) (rest := []) sX11_162 (c_X11_has (by omega) (by omega)) dX11_readsWork_115 rfl rfl (Nat.le_of_ble_eq_true rfl) (Nat.le_of_ble_eq_true rfl) (Nat.le_of_ble_eq_true rfl) (fun c_115 => ?_) (fun c_115 => ?_)
          · refine u_if_eq 123 dX11_readsWork_118 (by decide) (by decide) ?_
            refine x_iconst (v := nI 0) dX11_readsWork_121 (by decide) ?_
            refine x_zret rfl dX11_readsWork_122 (by decide) (by
              have hne : ¬ wgood (chF n β) (iM I) pos k := fun h => by
                have h1 := hgd.mp h
                first
                | (refine c_105 ((in_iff (by omega)).mpr ?_); rw [hsg.val h1.1 (by omega)]; have := tiN (show (chF n β (pos + k)) - 48 < 2147483648 by omega); omega)
                | exact absurd c_115 (by rw [h1.2.2]; decide)
              have e := (wk_f hk hne).symm.trans hw
              rw [← e] at kf
              refine kf ?_
              first
              | exact Or.inl c_79
              | exact Or.inr (fun z => c_74 (h58.mpr z)))
          · refine t_if_eq 123 dX11_readsWork_118 (by decide) (by decide) ?_
            have hgood := hgd.mpr ⟨by omega, by omega, Bool.eq_false_iff.mpr c_115⟩
            have hk5 : k + 1 ≤ iM I := wq_many (k + 1) (fun j hj => by rcases Nat.lt_succ_iff_lt_or_eq.mp hj with h | h; exact hg j h; rw [h]; exact hgood)
            refine x_iload 1 dX11_readsWork_123 rfl ?_
            refine x_iconst (v := nI 1) dX11_readsWork_125 (by decide) ?_
            refine x_iload 0 dX11_readsWork_126 rfl ?_
            refine y_ishl dX11_readsWork_128 (by omega) ?_
            refine y_ior dX11_readsWork_129 ?_
            refine x_istore (lv' := [(4, _), (5, _), (3, _), (2, _), (0, _), (1, _)]) dX11_readsWork_130 (by decide) rfl ?_
            rw [show ((4, Value.int (nI ((wqF (chF n β) pos k ||| (1 * 2 ^ ((chF n β (pos + k)) - 48)))))) : Nat × Value) = (4, Value.int (nI (wqF (chF n β) pos (k + 1)))) from by rw [Nat.one_mul]; rfl]
            refine x_aload_n 4 dX11_readsWork_132 rfl rfl ?_
            refine x_dup dX11_readsWork_133 rfl ?_
            refine y_getI fX11_126 dX11_readsWork_134 l83 rfl rdI_eq ?_
            refine x_iconst (v := nI 1) dX11_readsWork_137 (by decide) ?_
            refine y_iadd dX11_readsWork_138 ?_
            refine x_putI pX11_126 dX11_readsWork_139 l83 rfl ?_
            refine x_cast set_set ?_
            refine x_goto 63 dX11_readsWork_142 (by decide) ?_
            refine x_pick (lv' := [(4, _), (3, _), (2, _), (0, _), (1, _)]) [0, 2, 3, 4, 5] rfl ?_
            exact ih (6 - (k + 1)) (by omega) (k + 1) rfl (by omega) (fun j hj => by rcases Nat.lt_succ_iff_lt_or_eq.mp hj with h | h; exact hg j h; rw [h]; exact hgood) ((wk_t (by omega) hgood).symm.trans hw)
        · refine t_if_eq 121 dX11_readsWork_108 (by decide) (by decide) ?_
          refine x_iconst (v := nI 0) dX11_readsWork_121 (by decide) ?_
          refine x_zret rfl dX11_readsWork_122 (by decide) (by
            have hne : ¬ wgood (chF n β) (iM I) pos k := fun h => by
              have h1 := hgd.mp h
              first
              | (refine c_105 ((in_iff (by omega)).mpr ?_); rw [hsg.val h1.1 (by omega)]; have := tiN (show (chF n β (pos + k)) - 48 < 2147483648 by omega); omega)
              | exact absurd c_115 (by rw [h1.2.2]; decide)
            have e := (wk_f hk hne).symm.trans hw
            rw [← e] at kf
            refine kf ?_
            first
            | exact Or.inl c_79
            | exact Or.inr (fun z => c_74 (h58.mpr z)))

theorem RdM_addV {S S' : St} {pos p h q s z : Nat} {I : Isl} (hR : RdM pos I S) (h19 : S'.1 83 19 = nI p) (h2 : ∀ b, 21 ≤ b → b ≤ 23 → S'.1 83 b = S.1 83 b) (h24 : S'.1 83 24 = nI (iW I + 1)) (hk : ∀ a b, (a = 94 ∨ a = 95) → S'.1 a b = S.1 a b) (v0 : S'.1 96 (4 * iW I) = nI h) (v1 : S'.1 96 (4 * iW I + 1) = nI q) (v2 : S'.1 96 (4 * iW I + 2) = nI s) (v3 : S'.1 96 (4 * iW I + 3) = nI z) (e : ∀ b, b < 4 * iW I → S'.1 96 b = S.1 96 b) : RdM p (addV I h q s z) S' := by
  have eV : ∀ w j, iV (addV I h q s z) w j = if w = iW I then (if j = 0 then h else if j = 1 then q else if j = 2 then s else z) else iV I w j := fun _ _ => rfl
  have eW : iW (addV I h q s z) = iW I + 1 := rfl
  refine ⟨h19, (h2 21 (by decide) (by decide)).trans hR.2.1, (h2 22 (by decide) (by decide)).trans hR.2.2.1, (h2 23 (by decide) (by decide)).trans hR.2.2.2.1, h24, fun t ht => ?_, fun v hv j hj => ?_⟩
  · have := hR.2.2.2.2.2.1 t ht
    exact ⟨(hk 94 t (Or.inl rfl)).trans this.1, (hk 95 t (Or.inr rfl)).trans this.2⟩
  · rw [eV]
    by_cases k : v = iW I
    · rw [if_pos k, k]
      have hj4 : j = 0 ∨ j = 1 ∨ j = 2 ∨ j = 3 := by omega
      rcases hj4 with rfl | rfl | rfl | rfl
      · exact v0
      · exact v1
      · exact v2
      · exact v3
    · rw [if_neg k]
      exact (e _ (by omega)).trans (hR.2.2.2.2.2.2 v (by omega) j hj)

set_option maxHeartbeats 4000000 in
set_option maxRecDepth 100000 in
theorem lp_wv {S0 S : St} {t n pos p : Nat} {β : Nat → Int32} (hx : TxM t n β S) {I : Isl} (hR : RdM pos I S0) (hPI : PI I) (hw8 : iW I < 8) (hf : S.2 = S0.2 ∧ ∀ a b, ¬ (a = 83 ∧ (b = 19 ∨ b = 20)) → S.1 a b = S0.1 a b) (hp : S.1 83 19 = nI p) (hp2 : p ≤ 200) {h q s : Nat} {Q : Option Value → St → Prop} (kN : ¬ (49 ≤ chF n β (p + 1) ∧ chF n β (p + 1) ≤ 57) → ∀ S', FrJ S0 S' → S'.1 83 19 = nI (p + 1) → Q (some (.int (nI 0))) S') (kT : (49 ≤ chF n β (p + 1) ∧ chF n β (p + 1) ≤ 57) → ∀ S', FrJ S0 S' → RdM (p + 2) (addV I h q s (chF n β (p + 1) - 48)) S' → Q (some (.int (nI 1))) S')  : ∀ (k : Nat), (k < 1000) → X 2 60 mX11_readsWork (Q) 145 [(4, .int (nI s)), (3, .int (nI q)), (2, .int (nI h)), (0, .ref 83), (1, .int (nI t))] [] S := by
  intro k
  induction hm : 0 * k using Nat.strongRecOn generalizing k with
  | _ mm ih =>
    intro hk
    have hx1 := hx.1
    have hx2 := hx.2.1
    have hO := hPI.1
    have hO1 := hO.1
    have hO2 := hO.2.1
    have hO3 := hO.2.2.1
    have hO4 := hO.2.2.2.1
    have f0 : FrJ S0 S := ⟨hf.1, fun a b h1 _ => hf.2 a b (by omega)⟩
    have f1 : FrJ S0 (setI S 83 19 (nI (p + 1))) := f0.set (Or.inl (by decide))
    have hx1' : TxM t n β (setI S 83 19 (nI (p + 1))) := hx.fr (FrJ.refl.set (Or.inl (by decide)))
    refine x_aload_n 3 dX11_readsWork_145 rfl rfl ?_
    refine x_dup dX11_readsWork_146 rfl ?_
    refine y_getI fX11_126 dX11_readsWork_147 l83 rfl hp ?_
    refine x_iconst (v := nI 1) dX11_readsWork_150 (by decide) ?_
    refine y_iadd dX11_readsWork_151 ?_
    refine x_putI pX11_126 dX11_readsWork_152 l83 rfl ?_
    refine x_aload_n 3 dX11_readsWork_155 rfl rfl ?_
    refine x_iload_n 4 dX11_readsWork_156 rfl rfl ?_
    refine x_iconst (v := nI 1) dX11_readsWork_157 (by decide) ?_
    refine x_bipush (v := nI 9) dX11_readsWork_158 (by decide) ?_
    refine x_callVqi (as := [_, _, _]) (rest := []) vX11_135 (c_X11_figure (lo := 1) (hi := 9) hx1' rdI_eq (by omega) rfl rfl (by omega)) dX11_readsWork_160 l83 rfl rfl rfl (Nat.le_of_ble_eq_true rfl) (Nat.le_of_ble_eq_true rfl) (Nat.le_of_ble_eq_true rfl) (fun r_160 S_160 q_160 => ?_)
    refine x_if_ne 168 dX11_readsWork_163 (by decide) (fun c_163 => ?_) (fun c_163 => ?_)
    · obtain ⟨g1, g2, g3⟩ := q_160.pos c_163
      have hk0 : ∀ a b, ¬ (a = 83 ∧ (b = 19 ∨ b = 20)) → S_160.1 a b = S0.1 a b := fun a b h1 => (q_160.1.2 a b h1).trans ((by
        by_cases z : a = 83
        · subst z; exact rdI_j (fun e => h1 ⟨rfl, Or.inl e⟩)
        · exact rdI_k z : (setI S 83 19 (nI (p + 1))).1 a b = S.1 a b).trans (hf.2 a b h1))
      have hW : S_160.1 83 24 = nI (iW I) := (hk0 83 24 (by decide)).trans hR.2.2.2.2.1
      refine x_aload_n 3 dX11_readsWork_168 rfl rfl ?_
      refine x_getR fX11_47 dX11_readsWork_169 l83 rfl ?_
      refine x_iconst (v := nI 4) dX11_readsWork_172 (by decide) ?_
      refine x_aload_n 3 dX11_readsWork_173 rfl rfl ?_
      refine y_getI fX11_147 dX11_readsWork_174 l83 rfl hW ?_
      refine y_imul dX11_readsWork_177 ?_
      refine x_iload_n 2 dX11_readsWork_178 rfl rfl ?_
      refine y_iast dX11_readsWork_179 l96 (by omega) (by decide) ?_
      refine x_aload_n 3 dX11_readsWork_180 rfl rfl ?_
      refine x_getR fX11_47 dX11_readsWork_181 l83 rfl ?_
      refine x_iconst (v := nI 4) dX11_readsWork_184 (by decide) ?_
      refine x_aload_n 3 dX11_readsWork_185 rfl rfl ?_
      refine y_getI fX11_147 dX11_readsWork_186 l83 rfl (((rdI_k (by decide))).trans hW) ?_
      refine y_imul dX11_readsWork_189 ?_
      refine x_iconst (v := nI 1) dX11_readsWork_190 (by decide) ?_
      refine y_iadd dX11_readsWork_191 ?_
      refine x_iload_n 1 dX11_readsWork_192 rfl rfl ?_
      refine y_iast dX11_readsWork_193 l96 (by omega) (by decide) ?_
      refine x_aload_n 3 dX11_readsWork_194 rfl rfl ?_
      refine x_getR fX11_47 dX11_readsWork_195 l83 rfl ?_
      refine x_iconst (v := nI 4) dX11_readsWork_198 (by decide) ?_
      refine x_aload_n 3 dX11_readsWork_199 rfl rfl ?_
      refine y_getI fX11_147 dX11_readsWork_200 l83 rfl ((((rdI_k (by decide))).trans (rdI_k (by decide))).trans hW) ?_
      refine y_imul dX11_readsWork_203 ?_
      refine x_iconst (v := nI 2) dX11_readsWork_204 (by decide) ?_
      refine y_iadd dX11_readsWork_205 ?_
      refine x_iload 0 dX11_readsWork_206 rfl ?_
      refine y_iast dX11_readsWork_208 l96 (by omega) (by decide) ?_
      refine x_aload_n 3 dX11_readsWork_209 rfl rfl ?_
      refine x_getR fX11_47 dX11_readsWork_210 l83 rfl ?_
      refine x_iconst (v := nI 4) dX11_readsWork_213 (by decide) ?_
      refine x_aload_n 3 dX11_readsWork_214 rfl rfl ?_
      refine y_getI fX11_147 dX11_readsWork_215 l83 rfl (((((rdI_k (by decide))).trans (rdI_k (by decide))).trans (rdI_k (by decide))).trans hW) ?_
      refine y_imul dX11_readsWork_218 ?_
      refine x_iconst (v := nI 3) dX11_readsWork_219 (by decide) ?_
      refine y_iadd dX11_readsWork_220 ?_
      refine x_aload_n 3 dX11_readsWork_221 rfl rfl ?_
      refine y_getI fX11_132 dX11_readsWork_222 l83 rfl (((((rdI_k (by decide))).trans (rdI_k (by decide))).trans (rdI_k (by decide))).trans g3) ?_
      refine y_iast dX11_readsWork_225 l96 (by omega) (by decide) ?_
      refine x_aload_n 3 dX11_readsWork_226 rfl rfl ?_
      refine x_dup dX11_readsWork_227 rfl ?_
      refine y_getI fX11_147 dX11_readsWork_228 l83 rfl ((((((rdI_k (by decide))).trans (rdI_k (by decide))).trans (rdI_k (by decide))).trans (rdI_k (by decide))).trans hW) ?_
      refine x_iconst (v := nI 1) dX11_readsWork_231 (by decide) ?_
      refine y_iadd dX11_readsWork_232 ?_
      refine x_putI pX11_147 dX11_readsWork_233 l83 rfl ?_
      refine x_iconst (v := nI 1) dX11_readsWork_236 (by decide) ?_
      refine x_zret rfl dX11_readsWork_237 (by decide) (by
        refine kT g1 _ (((((((q_160.fr f1).set (Or.inr (by decide))).set (Or.inr (by decide))).set (Or.inr (by decide))).set (Or.inr (by decide))).set (Or.inl (by decide)))) (RdM_addV hR ?_ (fun b h1 h2 => ?_) rdI_eq (fun a b ha => ?_) ?_ ?_ ?_ ?_ (fun b hb => ?_))
        · rw [rdI_j (by decide), rdI_k (by decide), rdI_k (by decide), rdI_k (by decide), rdI_k (by decide)]; exact g2
        · rw [rdI_j (by omega), rdI_k (by decide), rdI_k (by decide), rdI_k (by decide), rdI_k (by decide)]; exact hk0 83 b (by omega)
        · rw [rdI_k (by omega), rdI_k (by omega), rdI_k (by omega), rdI_k (by omega), rdI_k (by omega)]; exact hk0 a b (by omega)
        · rw [rdI_k (by decide), rdI_j (by omega), rdI_j (by omega), rdI_j (by omega), rdI_eq]
        · rw [rdI_k (by decide), rdI_j (by omega), rdI_j (by omega), rdI_eq]
        · rw [rdI_k (by decide), rdI_j (by omega), rdI_eq]
        · rw [rdI_k (by decide), rdI_eq]
        · rw [rdI_k (by decide), rdI_j (by omega), rdI_j (by omega), rdI_j (by omega), rdI_j (by omega)]; exact hk0 96 b (by omega))
    · refine x_iconst (v := nI 0) dX11_readsWork_166 (by decide) ?_
      refine x_zret rfl dX11_readsWork_167 (by decide) (by have hN := q_160.neg c_163; exact kN hN.1 _ (q_160.fr f1) hN.2)

set_option maxHeartbeats 4000000 in
set_option maxRecDepth 100000 in
theorem c_X11_readsWork {S : St} {t n pos : Nat} {β : Nat → Int32} (hx : TxM t n β S) {I : Isl} (hR : RdM pos I S) (hpn : pos ≤ n) (hPI : PI I) (hP1 : 1 ≤ iP I) : C 2 60 yX11_readsWork mX11_readsWork [.ref 83, .int (nI t)] S (qi (ItM (rdW (chF n β) pos I) S)) := by
  have hx1 := hx.1
  have hx2 := hx.2.1
  obtain ⟨hp, hr1, hr2, hr3, hr4, hr5, hr6⟩ := id hR
  have hsg := sg_M (i := pos) hx.2.2.1
  have hO := hPI.1
  have hO1 := hO.1
  have hO2 := hO.2.1
  have hO3 := hO.2.2.1
  have hO4 := hO.2.2.2.1
  have f1 : FrJ S (setI S 83 19 (nI (pos + 1))) := FrJ.refl.set (Or.inl (by decide))
  have hx1' : TxM t n β (setI S 83 19 (nI (pos + 1))) := hx.fr f1
  have eP1 : (nI (iP I - 1)).toInt = ((iP I - 1 : Nat) : Int) := tiN (by omega)
  refine C.ofX (by decide) rfl (Nat.le_of_ble_eq_true rfl) ?_
  show X 2 60 mX11_readsWork (qi (ItM (rdW (chF n β) pos I) S)) 0 [(0, .ref 83), (1, .int (nI t))] [] S
  refine x_aload_n 0 dX11_readsWork_0 rfl rfl ?_
  refine y_getI fX11_147 dX11_readsWork_1 l83 rfl hr4 ?_
  refine x_bipush (v := nI 8) dX11_readsWork_4 (by decide) ?_
  refine y_ic_ne 11 dX11_readsWork_6 (by decide) (by omega) (by omega) (fun c_6 => ?_) (fun c_6 => ?_)
  · refine x_aload_n 0 dX11_readsWork_11 rfl rfl ?_
    refine x_dup dX11_readsWork_12 rfl ?_
    refine y_getI fX11_126 dX11_readsWork_13 l83 rfl hp ?_
    refine x_iconst (v := nI 1) dX11_readsWork_16 (by decide) ?_
    refine y_iadd dX11_readsWork_17 ?_
    refine x_putI pX11_126 dX11_readsWork_18 l83 rfl ?_
    refine x_aload_n 0 dX11_readsWork_21 rfl rfl ?_
    refine x_iload_n 1 dX11_readsWork_22 rfl rfl ?_
    refine x_iconst (v := nI 0) dX11_readsWork_23 (by decide) ?_
    refine x_iconst (v := nI 5) dX11_readsWork_24 (by decide) ?_
    refine x_callVqi (as := [_, _, _]) (rest := []) vX11_135 (c_X11_figure (lo := 0) (hi := 5) hx1' rdI_eq (by omega) rfl rfl (by omega)) dX11_readsWork_25 l83 rfl rfl rfl (Nat.le_of_ble_eq_true rfl) (Nat.le_of_ble_eq_true rfl) (Nat.le_of_ble_eq_true rfl) (fun r_25 S_25 q_25 => ?_)
    refine x_if_ne 33 dX11_readsWork_28 (by decide) (fun c_28 => ?_) (fun c_28 => ?_)
    · obtain ⟨g1, g2, g3⟩ := q_25.pos c_28
      refine x_aload_n 0 dX11_readsWork_33 rfl rfl ?_
      refine y_getI fX11_132 dX11_readsWork_34 l83 rfl g3 ?_
      refine x_istore_n (lv' := [(2, _), (0, _), (1, _)]) dX11_readsWork_37 rfl (by decide) rfl ?_
      refine x_aload_n 1 dX11_readsWork_38 rfl rfl ?_
      refine x_iload_n 2 dX11_readsWork_39 rfl rfl ?_
      refine x_iconst (v := nI 0) dX11_readsWork_40 (by decide) ?_
      refine x_aload_n 1 dX11_readsWork_41 rfl rfl ?_
      refine y_getI fX11_138 dX11_readsWork_42 l83 rfl ((q_25.1.2 83 21 (by decide)).trans ((rdI_j (by decide)).trans hr1)) ?_
      refine x_iconst (v := nI 1) dX11_readsWork_45 (by decide) ?_
      refine y_isub dX11_readsWork_46 (by omega) ?_
      refine x_callVqi (as := [_, _, _]) (rest := []) vX11_135 (c_X11_figure (lo := 0) (hi := (iP I - 1)) (hx.fr (q_25.fr f1)) g2 (by omega) rfl eP1 (by omega)) dX11_readsWork_47 l83 rfl rfl rfl (Nat.le_of_ble_eq_true rfl) (Nat.le_of_ble_eq_true rfl) (Nat.le_of_ble_eq_true rfl) (fun r_47 S_47 q_47 => ?_)
      refine x_if_ne 55 dX11_readsWork_50 (by decide) (fun c_50 => ?_) (fun c_50 => ?_)
      · obtain ⟨j1, j2, j3⟩ := q_47.pos c_50
        refine x_aload_n 1 dX11_readsWork_55 rfl rfl ?_
        refine y_getI fX11_132 dX11_readsWork_56 l83 rfl j3 ?_
        refine x_istore_n (lv' := [(3, _), (2, _), (0, _), (1, _)]) dX11_readsWork_59 rfl (by decide) rfl ?_
        refine x_iconst (v := nI 0) dX11_readsWork_60 (by decide) ?_
        refine x_istore (lv' := [(4, _), (3, _), (2, _), (0, _), (1, _)]) dX11_readsWork_61 (by decide) rfl ?_
        refine x_pick (lv' := [(4, _), (3, _), (2, _), (0, _), (1, _)]) [0, 1, 2, 3, 4] rfl ?_
        have hw8 : iW I < 8 := by have := c_6; omega
        have hf2 : FrJ S S_47 := q_47.fr (q_25.fr f1)
        have hk0 : S_47.2 = S.2 ∧ ∀ a b, ¬ (a = 83 ∧ (b = 19 ∨ b = 20)) → S_47.1 a b = S.1 a b := ⟨hf2.1, fun a b h1 => (q_47.1.2 a b h1).trans ((q_25.1.2 a b h1).trans (by
          by_cases z : a = 83
          · subst z; exact rdI_j (fun e => h1 ⟨rfl, Or.inl e⟩)
          · exact rdI_k z))⟩
        have h2n : 48 ≤ chF n β (pos + 2) ∧ chF n β (pos + 2) < 48 + iP I := ⟨j1.1, Nat.lt_of_le_of_lt j1.2 (by omega)⟩
        have hkk := wK_ok (chF n β) (iM I) (pos + 3)
        have hp4 : (p4W (chF n β) pos I) ≤ 200 := by unfold p4W; omega
        have hh := lp_wm (S := S_47) (pos := pos + 3) (hx.fr hf2) (by omega) ((hk0.2 83 22 (by decide)).trans hr2) hO (q := (chF n β (pos + 1 + 1) - 48)) (h := (chF n β (pos + 1) - 48)) (Q := qi (ItM (rdW (chF n β) pos I) S))
          (fun h3n => lp_wv (S0 := S) (S := setI S_47 83 19 (nI (p4W (chF n β) pos I))) (p := (p4W (chF n β) pos I)) (s := (swW (chF n β) pos I)) ((hx.fr hf2).fr (FrJ.refl.set (Or.inl (by decide)))) hR hPI hw8 ⟨hk0.1, fun a b h1 => (by
            by_cases z : a = 83
            · subst z; exact rdI_j (fun e => h1 ⟨rfl, Or.inl e⟩)
            · exact rdI_k z : (setI S_47 83 19 (nI (p4W (chF n β) pos I))).1 a b = S_47.1 a b).trans (hk0.2 a b h1)⟩ rdI_eq hp4
            (fun h4 S' f' hq => ⟨_, rfl, ItM.f (rdW_4 (by omega) g1 h2n h3n h4) f' hq⟩)
            (fun h4 S' f' hq => ⟨_, rfl, ItM.t (rdW_5 (by omega) g1 h2n h3n h4) f' hq⟩) 0 (by decide))
          (fun h3 => ⟨_, rfl, ItM.f (rdW_3 (by omega) g1 h2n h3) (hf2.set (Or.inl (by decide))) rdI_eq⟩)
          0 (Nat.zero_le _) (fun j hj => absurd hj (Nat.not_lt_zero j)) rfl
        rw [Nat.add_zero, set_id j2] at hh
        exact hh
      · refine x_iconst (v := nI 0) dX11_readsWork_53 (by decide) ?_
        refine x_zret rfl dX11_readsWork_54 (by decide) (by have hN := q_47.neg c_50; exact ⟨_, rfl, ItM.f (rdW_2 (by omega) g1 (fun h => hN.1 ⟨h.1, Nat.le_trans (show chF n β (pos + 2) ≤ 47 + iP I by have := h.2; omega) (by omega)⟩)) (q_47.fr (q_25.fr f1)) hN.2⟩)
    · refine x_iconst (v := nI 0) dX11_readsWork_31 (by decide) ?_
      refine x_zret rfl dX11_readsWork_32 (by decide) (by have hN := q_25.neg c_28; exact ⟨_, rfl, ItM.f (rdW_1 (by omega) hN.1) (q_25.fr f1) hN.2⟩)
  · refine x_iconst (v := nI 0) dX11_readsWork_9 (by decide) ?_
    refine x_zret rfl dX11_readsWork_10 (by decide) ⟨_, rfl, ItM.f (rdW_0 (by omega)) FrJ.refl hp⟩
