/-! ===== gone ===== -/
def PB1 (I : Isl) (w : Nat → Nat) (n : Nat) : Prop := ∀ t, t < n → (livK (iK I t) → w t < 4) ∧ (bagK (iK I t) → w t ≤ 4)
def PB2 (I : Isl) (w : Nat → Nat) (n : Nat) : Prop := ∀ b, b < n → insF I w b ≤ rm (iK I (iG I b))
def PB3 (I : Isl) (w : Nat → Nat) (L n : Nat) : Prop := ∀ p, p < n → loadF I w p ≤ L
theorem VB_iff {I : Isl} {w : Nat → Nat} {L : Nat} : VB I w L ↔ PB1 I w (iM I) ∧ PB2 I w (iB I) ∧ PB3 I w L (iP I) := Iff.rfl

set_option maxHeartbeats 4000000 in
set_option maxRecDepth 100000 in
theorem lp_cb3 {S : St} {I : Isl} (hI : IsM I S) (hO : IOK I) {w : Nat → Nat} (hw0 : MW I w S) (hwo : ∀ t, t < iM I → w t < 5 + iB I) {l : Nat} (hl : l ≤ 6)  : ∀ (i : Nat) (x : Int32), (i ≤ iP I) → ((x = 1 ∧ PB1 I w (iM I) ∧ PB2 I w (iB I) ∧ PB3 I w l i) ∨ (x = 0 ∧ ¬ VB I w l)) → X 2 60 mX11_canBe (pb (VB I w l) S) 117 [(3, .int (nI i)), (2, .int x), (0, .ref 83), (1, .int (nI l))] [] S := by
  intro i x
  induction hm : iP I - i using Nat.strongRecOn generalizing i x with
  | _ mm ih =>
    intro hi hx
    have hO1 := hO.1
    have hO2 := hO.2.1
    have hO3 := hO.2.2.1
    have hO4 := hO.2.2.2.1
    have hw7 : ∀ t, t < iM I → w t < 7 := fun t ht => by have := hwo t ht; omega
    have hpx : ¬ x = 0 → PB1 I w (iM I) ∧ PB2 I w (iB I) ∧ PB3 I w l i := fun q => hx.elim (fun a => a.2) (fun a => absurd a.1 q)
    have hpn : x = 0 → ¬ VB I w l := fun q => hx.elim (fun a => absurd (a.1.symm.trans q) (by decide)) (fun a => a.2)
    have hld := loadF_le I hO w i
    refine x_iload_n 0 dX11_canBe_117 rfl rfl ?_
    refine x_aload_n 2 dX11_canBe_118 rfl rfl ?_
    refine y_getI fX11_178 dX11_canBe_119 l83 rfl hI.1 ?_
    refine y_ic_ge 150 dX11_canBe_122 (by decide) (by omega) (by omega) (fun c_122 => ?_) (fun c_122 => ?_)
    · have hxx : (x = 1 ∧ VB I w l) ∨ (x = 0 ∧ ¬ VB I w l) := by
        rcases hx with ⟨h1, h2⟩ | h
        · first
          | exact absurd (h1.symm.trans c_126) (by decide)
          | (obtain rfl : i = iP I := (by omega); exact Or.inl ⟨h1, h2⟩)
        · exact Or.inr h
      refine x_iload_n 1 dX11_canBe_150 rfl rfl ?_
      refine x_zret rfl dX11_canBe_151 (sb2 hxx) (sb1 hxx)
    · refine x_iload_n 1 dX11_canBe_125 rfl rfl ?_
      refine x_if_eq 150 dX11_canBe_126 (by decide) (fun c_126 => ?_) (fun c_126 => ?_)
      · have hxx : (x = 1 ∧ VB I w l) ∨ (x = 0 ∧ ¬ VB I w l) := by
          rcases hx with ⟨h1, h2⟩ | h
          · first
            | exact absurd (h1.symm.trans c_126) (by decide)
            | (obtain rfl : i = iP I := (by omega); exact Or.inl ⟨h1, h2⟩)
          · exact Or.inr h
        refine x_iload_n 1 dX11_canBe_150 rfl rfl ?_
        refine x_zret rfl dX11_canBe_151 (sb2 hxx) (sb1 hxx)
      · refine x_aload_n 2 dX11_canBe_129 rfl rfl ?_
        refine x_iload_n 0 dX11_canBe_130 rfl rfl ?_
        refine x_callVu (as := [_]) (rest := []) vX11_205 (c_X11_loadOf hI hO hw0 hw7 (by omega)) dX11_canBe_131 l83 rfl rfl rfl (Nat.le_of_ble_eq_true rfl) (Nat.le_of_ble_eq_true rfl) (Nat.le_of_ble_eq_true rfl) ?_
        refine x_iload_n 3 dX11_canBe_134 rfl rfl ?_
        refine y_ic_gt 142 dX11_canBe_135 (by decide) (by omega) (by omega) (fun c_135 => ?_) (fun c_135 => ?_)
        · refine x_iconst (v := nI 0) dX11_canBe_142 (by decide) ?_
          refine x_istore_n (lv' := [(2, _), (3, _), (0, _), (1, _)]) dX11_canBe_143 rfl (by decide) rfl ?_
          refine y_iinc (lv' := [(3, _), (2, _), (0, _), (1, _)]) 1 dX11_canBe_144 rfl (by decide) rfl ?_
          refine x_goto 117 dX11_canBe_147 (by decide) ?_
          refine x_pick (lv' := [(3, _), (2, _), (0, _), (1, _)]) [0, 1, 2, 3] rfl ?_
          exact ih (iP I - (i + 1)) (by omega) (i + 1) (nI 0) rfl (by omega) (Or.inr ⟨rfl, fun h => by have := h.2.2 i (by omega); omega⟩)
        · refine x_iconst (v := nI 1) dX11_canBe_138 (by decide) ?_
          refine x_goto 143 dX11_canBe_139 (by decide) ?_
          refine x_istore_n (lv' := [(2, _), (3, _), (0, _), (1, _)]) dX11_canBe_143 rfl (by decide) rfl ?_
          refine y_iinc (lv' := [(3, _), (2, _), (0, _), (1, _)]) 1 dX11_canBe_144 rfl (by decide) rfl ?_
          refine x_goto 117 dX11_canBe_147 (by decide) ?_
          refine x_pick (lv' := [(3, _), (2, _), (0, _), (1, _)]) [0, 1, 2, 3] rfl ?_
          exact ih (iP I - (i + 1)) (by omega) (i + 1) (nI 1) rfl (by omega) (Or.inl ⟨rfl, (hpx c_126).1, (hpx c_126).2.1, fun p hp => by rcases Nat.lt_succ_iff_lt_or_eq.mp hp with h | h; exact (hpx c_126).2.2 p h; subst h; omega⟩)

set_option maxHeartbeats 4000000 in
set_option maxRecDepth 100000 in
theorem lp_cb2 {S : St} {I : Isl} (hI : IsM I S) (hO : IOK I) {w : Nat → Nat} (hw0 : MW I w S) (hwo : ∀ t, t < iM I → w t < 5 + iB I) {l : Nat} (hl : l ≤ 6)  : ∀ (i : Nat) (x : Int32), (i ≤ iB I) → ((x = 1 ∧ PB1 I w (iM I) ∧ PB2 I w i) ∨ (x = 0 ∧ ¬ VB I w l)) → X 2 60 mX11_canBe (pb (VB I w l) S) 78 [(3, .int (nI i)), (2, .int x), (0, .ref 83), (1, .int (nI l))] [] S := by
  intro i x
  induction hm : iB I - i using Nat.strongRecOn generalizing i x with
  | _ mm ih =>
    intro hi hx
    have hO1 := hO.1
    have hO2 := hO.2.1
    have hO3 := hO.2.2.1
    have hO4 := hO.2.2.2.1
    have hpx : ¬ x = 0 → PB1 I w (iM I) ∧ PB2 I w i := fun q => hx.elim (fun a => a.2) (fun a => absurd a.1 q)
    have hpn : x = 0 → ¬ VB I w l := fun q => hx.elim (fun a => absurd (a.1.symm.trans q) (by decide)) (fun a => a.2)
    have hrm := rm_le (iK I (iG I i))
    have hin := insF_le I hO w i
    have hro := toI_sub (x := nI (rm (iK I (iG I i)))) (y := nI (insF I w i)) (by rw [tiN (by omega)]; omega) (by rw [tiN (by omega)]; omega) (by rw [tiN (by omega)]; omega) (by rw [tiN (by omega)]; omega)
    rw [tiN (by omega), tiN (by omega)] at hro
    refine x_iload_n 0 dX11_canBe_78 rfl rfl ?_
    refine x_aload_n 2 dX11_canBe_79 rfl rfl ?_
    refine y_getI fX11_187 dX11_canBe_80 l83 rfl hI.2.2.1 ?_
    refine y_ic_ge 115 dX11_canBe_83 (by decide) (by omega) (by omega) (fun c_83 => ?_) (fun c_83 => ?_)
    · refine x_iconst (v := nI 0) dX11_canBe_115 (by decide) ?_
      refine x_istore_n (lv' := [(3, _), (2, _), (0, _), (1, _)]) dX11_canBe_116 rfl (by decide) rfl ?_
      refine x_pick (lv' := [(3, _), (2, _), (0, _), (1, _)]) [0, 1, 2, 3] rfl ?_
      refine lp_cb3 hI hO hw0 hwo hl 0 _ (Nat.zero_le _) ?_
      rcases hx with ⟨h1, h2⟩ | h
      · first
        | exact absurd (h1.symm.trans c_87) (by decide)
        | (obtain rfl : i = iB I := (by omega); exact Or.inl ⟨h1, h2.1, h2.2, fun p hp => absurd hp (Nat.not_lt_zero p)⟩)
      · exact Or.inr h
    · refine x_iload_n 1 dX11_canBe_86 rfl rfl ?_
      refine x_if_eq 115 dX11_canBe_87 (by decide) (fun c_87 => ?_) (fun c_87 => ?_)
      · refine x_iconst (v := nI 0) dX11_canBe_115 (by decide) ?_
        refine x_istore_n (lv' := [(3, _), (2, _), (0, _), (1, _)]) dX11_canBe_116 rfl (by decide) rfl ?_
        refine x_pick (lv' := [(3, _), (2, _), (0, _), (1, _)]) [0, 1, 2, 3] rfl ?_
        refine lp_cb3 hI hO hw0 hwo hl 0 _ (Nat.zero_le _) ?_
        rcases hx with ⟨h1, h2⟩ | h
        · first
          | exact absurd (h1.symm.trans c_87) (by decide)
          | (obtain rfl : i = iB I := (by omega); exact Or.inl ⟨h1, h2.1, h2.2, fun p hp => absurd hp (Nat.not_lt_zero p)⟩)
        · exact Or.inr h
      · refine x_aload_n 2 dX11_canBe_90 rfl rfl ?_
        refine x_aload_n 2 dX11_canBe_91 rfl rfl ?_
        refine x_getR fX11_32 dX11_canBe_92 l83 rfl ?_
        refine x_iload_n 0 dX11_canBe_95 rfl rfl ?_
        refine y_iald dX11_canBe_96 l91 (by omega) (by decide) (hI.2.2.2.2.2.1 i (by omega)) ?_
        refine x_callVu (as := [_]) (rest := []) vX11_214 (c_X11_roomIn hI hO hw0 hwo (by omega)) dX11_canBe_97 l83 rfl rfl rfl (Nat.le_of_ble_eq_true rfl) (Nat.le_of_ble_eq_true rfl) (Nat.le_of_ble_eq_true rfl) ?_
        refine x_if_lt 107 dX11_canBe_100 (by decide) (fun c_100 => ?_) (fun c_100 => ?_)
        · refine x_iconst (v := nI 0) dX11_canBe_107 (by decide) ?_
          refine x_istore_n (lv' := [(2, _), (3, _), (0, _), (1, _)]) dX11_canBe_108 rfl (by decide) rfl ?_
          refine y_iinc (lv' := [(3, _), (2, _), (0, _), (1, _)]) 1 dX11_canBe_109 rfl (by decide) rfl ?_
          refine x_goto 78 dX11_canBe_112 (by decide) ?_
          refine x_pick (lv' := [(3, _), (2, _), (0, _), (1, _)]) [0, 1, 2, 3] rfl ?_
          exact ih (iB I - (i + 1)) (by omega) (i + 1) (nI 0) rfl (by omega) (Or.inr ⟨rfl, fun h => by have := h.2.1 i (by omega); omega⟩)
        · refine x_iconst (v := nI 1) dX11_canBe_103 (by decide) ?_
          refine x_goto 108 dX11_canBe_104 (by decide) ?_
          refine x_istore_n (lv' := [(2, _), (3, _), (0, _), (1, _)]) dX11_canBe_108 rfl (by decide) rfl ?_
          refine y_iinc (lv' := [(3, _), (2, _), (0, _), (1, _)]) 1 dX11_canBe_109 rfl (by decide) rfl ?_
          refine x_goto 78 dX11_canBe_112 (by decide) ?_
          refine x_pick (lv' := [(3, _), (2, _), (0, _), (1, _)]) [0, 1, 2, 3] rfl ?_
          exact ih (iB I - (i + 1)) (by omega) (i + 1) (nI 1) rfl (by omega) (Or.inl ⟨rfl, (hpx c_87).1, fun p hp => by rcases Nat.lt_succ_iff_lt_or_eq.mp hp with h | h; exact (hpx c_87).2 p h; subst h; omega⟩)

set_option maxHeartbeats 4000000 in
set_option maxRecDepth 100000 in
theorem lp_cb1 {S : St} {I : Isl} (hI : IsM I S) (hO : IOK I) {w : Nat → Nat} (hw0 : MW I w S) (hwo : ∀ t, t < iM I → w t < 5 + iB I) {l : Nat} (hl : l ≤ 6)  : ∀ (i : Nat) (x : Int32), (i ≤ iM I) → ((x = 1 ∧ PB1 I w i) ∨ (x = 0 ∧ ¬ PB1 I w i)) → X 2 60 mX11_canBe (pb (VB I w l) S) 4 [(3, .int (nI i)), (2, .int x), (0, .ref 83), (1, .int (nI l))] [] S := by
  intro i x
  induction hm : iM I - i using Nat.strongRecOn generalizing i x with
  | _ mm ih =>
    intro hi hx
    have hO1 := hO.1
    have hO2 := hO.2.1
    have hO3 := hO.2.2.1
    have hO4 := hO.2.2.2.1
    have hw7 : ∀ t, t < iM I → w t < 7 := fun t ht => by have := hwo t ht; omega
    have hpx : ¬ x = 0 → PB1 I w i := fun q => hx.elim (fun a => a.2) (fun a => absurd a.1 q)
    have hpn : x = 0 → ¬ PB1 I w i := fun q => hx.elim (fun a => absurd (a.1.symm.trans q) (by decide)) (fun a => a.2)
    have hk5 := hO.2.2.2.2.1 i
    have hwi := hwo i
    refine x_iload_n 0 dX11_canBe_4 rfl rfl ?_
    refine x_aload_n 2 dX11_canBe_5 rfl rfl ?_
    refine y_getI fX11_181 dX11_canBe_6 l83 rfl hI.2.1 ?_
    refine y_ic_ge 76 dX11_canBe_9 (by decide) (by omega) (by omega) (fun c_9 => ?_) (fun c_9 => ?_)
    · refine x_iconst (v := nI 0) dX11_canBe_76 (by decide) ?_
      refine x_istore_n (lv' := [(3, _), (2, _), (0, _), (1, _)]) dX11_canBe_77 rfl (by decide) rfl ?_
      refine x_pick (lv' := [(3, _), (2, _), (0, _), (1, _)]) [0, 1, 2, 3] rfl ?_
      obtain rfl : i = iM I := (by omega)
      refine lp_cb2 hI hO hw0 hwo hl 0 _ (Nat.zero_le _) ?_
      rcases hx with h | h
      · exact Or.inl ⟨h.1, h.2, fun p hp => absurd hp (Nat.not_lt_zero p)⟩
      · exact Or.inr ⟨h.1, fun q => h.2 q.1⟩
    · refine x_aload_n 2 dX11_canBe_12 rfl rfl ?_
      refine x_getR fX11_29 dX11_canBe_13 l83 rfl ?_
      refine x_iload_n 0 dX11_canBe_16 rfl rfl ?_
      refine y_iald dX11_canBe_17 l90 (by omega) (by decide) (hI.2.2.2.2.1 i (by omega)) ?_
      refine x_callSb (as := [_]) (rest := []) sX11_156 (c_X11_isLivingKind (hk5 (by omega))) dX11_canBe_18 rfl rfl (Nat.le_of_ble_eq_true rfl) (Nat.le_of_ble_eq_true rfl) (Nat.le_of_ble_eq_true rfl) (fun c_18 => ?_) (fun c_18 => ?_)
      · refine x_istore (lv' := [(4, _), (3, _), (2, _), (0, _), (1, _)]) dX11_canBe_21 (by decide) rfl ?_
        refine x_iload_n 2 dX11_canBe_23 rfl rfl ?_
        refine x_if_eq 68 dX11_canBe_24 (by decide) (fun c_24 => ?_) (fun c_24 => ?_)
        · refine x_iconst (v := nI 0) dX11_canBe_68 (by decide) ?_
          refine x_istore_n (lv' := [(2, _), (4, _), (3, _), (0, _), (1, _)]) dX11_canBe_69 rfl (by decide) rfl ?_
          refine y_iinc (lv' := [(3, _), (2, _), (4, _), (0, _), (1, _)]) 2 dX11_canBe_70 rfl (by decide) rfl ?_
          refine x_goto 4 dX11_canBe_73 (by decide) ?_
          refine x_pick (lv' := [(3, _), (2, _), (0, _), (1, _)]) [0, 1, 3, 4] rfl ?_
          exact ih (iM I - (i + 1)) (by omega) (i + 1) (nI 0) rfl (by omega) (Or.inr ⟨rfl, fun h => by first | exact hpn c_24 (fun t ht => h t (by omega)) | (have h1 := (h i (by omega)).1 c_18; omega) | (have h2 := (h i (by omega)).2 c_48; omega)⟩)
        · refine x_iload 0 dX11_canBe_27 rfl ?_
          refine u_if_eq 42 dX11_canBe_29 (by decide) (by decide) ?_
          refine x_aload_n 3 dX11_canBe_32 rfl rfl ?_
          refine x_getR fX11_50 dX11_canBe_33 l83 rfl ?_
          refine x_iload_n 1 dX11_canBe_36 rfl rfl ?_
          refine y_iald dX11_canBe_37 l97 (by omega) (by decide) (hw0 i (by omega)) ?_
          refine x_iconst (v := nI 4) dX11_canBe_38 (by decide) ?_
          refine y_ic_ge 68 dX11_canBe_39 (by decide) (by omega) (by omega) (fun c_39 => ?_) (fun c_39 => ?_)
          · refine x_iconst (v := nI 0) dX11_canBe_68 (by decide) ?_
            refine x_istore_n (lv' := [(2, _), (4, _), (3, _), (0, _), (1, _)]) dX11_canBe_69 rfl (by decide) rfl ?_
            refine y_iinc (lv' := [(3, _), (2, _), (4, _), (0, _), (1, _)]) 2 dX11_canBe_70 rfl (by decide) rfl ?_
            refine x_goto 4 dX11_canBe_73 (by decide) ?_
            refine x_pick (lv' := [(3, _), (2, _), (0, _), (1, _)]) [0, 1, 3, 4] rfl ?_
            exact ih (iM I - (i + 1)) (by omega) (i + 1) (nI 0) rfl (by omega) (Or.inr ⟨rfl, fun h => by first | exact hpn c_24 (fun t ht => h t (by omega)) | (have h1 := (h i (by omega)).1 c_18; omega) | (have h2 := (h i (by omega)).2 c_48; omega)⟩)
          · refine x_aload_n 3 dX11_canBe_42 rfl rfl ?_
            refine x_getR fX11_29 dX11_canBe_43 l83 rfl ?_
            refine x_iload_n 1 dX11_canBe_46 rfl rfl ?_
            refine y_iald dX11_canBe_47 l90 (by omega) (by decide) (hI.2.2.2.2.1 i (by omega)) ?_
            refine x_callSb (as := [_]) (rest := []) sX11_150 (c_X11_isBagKind (hk5 (by omega))) dX11_canBe_48 rfl rfl (Nat.le_of_ble_eq_true rfl) (Nat.le_of_ble_eq_true rfl) (Nat.le_of_ble_eq_true rfl) (fun c_48 => ?_) (fun c_48 => ?_)
            · refine u_if_eq 64 dX11_canBe_51 (by decide) (by decide) ?_
              refine x_aload_n 3 dX11_canBe_54 rfl rfl ?_
              refine x_getR fX11_50 dX11_canBe_55 l83 rfl ?_
              refine x_iload_n 1 dX11_canBe_58 rfl rfl ?_
              refine y_iald dX11_canBe_59 l97 (by omega) (by decide) (hw0 i (by omega)) ?_
              refine x_iconst (v := nI 5) dX11_canBe_60 (by decide) ?_
              refine y_ic_ge 68 dX11_canBe_61 (by decide) (by omega) (by omega) (fun c_61 => ?_) (fun c_61 => ?_)
              · refine x_iconst (v := nI 0) dX11_canBe_68 (by decide) ?_
                refine x_istore_n (lv' := [(2, _), (4, _), (3, _), (0, _), (1, _)]) dX11_canBe_69 rfl (by decide) rfl ?_
                refine y_iinc (lv' := [(3, _), (2, _), (4, _), (0, _), (1, _)]) 2 dX11_canBe_70 rfl (by decide) rfl ?_
                refine x_goto 4 dX11_canBe_73 (by decide) ?_
                refine x_pick (lv' := [(3, _), (2, _), (0, _), (1, _)]) [0, 1, 3, 4] rfl ?_
                exact ih (iM I - (i + 1)) (by omega) (i + 1) (nI 0) rfl (by omega) (Or.inr ⟨rfl, fun h => by first | exact hpn c_24 (fun t ht => h t (by omega)) | (have h1 := (h i (by omega)).1 c_18; omega) | (have h2 := (h i (by omega)).2 c_48; omega)⟩)
              · refine x_iconst (v := nI 1) dX11_canBe_64 (by decide) ?_
                refine x_goto 69 dX11_canBe_65 (by decide) ?_
                refine x_istore_n (lv' := [(2, _), (4, _), (3, _), (0, _), (1, _)]) dX11_canBe_69 rfl (by decide) rfl ?_
                refine y_iinc (lv' := [(3, _), (2, _), (4, _), (0, _), (1, _)]) 2 dX11_canBe_70 rfl (by decide) rfl ?_
                refine x_goto 4 dX11_canBe_73 (by decide) ?_
                refine x_pick (lv' := [(3, _), (2, _), (0, _), (1, _)]) [0, 1, 3, 4] rfl ?_
                exact ih (iM I - (i + 1)) (by omega) (i + 1) (nI 1) rfl (by omega) (Or.inl ⟨rfl, fun t ht => by rcases Nat.lt_succ_iff_lt_or_eq.mp ht with h | h; exact hpx c_24 t h; subst h; refine ⟨fun hl => ?_, fun hb => ?_⟩ <;> first | omega | exact absurd hl c_18 | exact absurd hb c_48⟩)
            · refine t_if_eq 64 dX11_canBe_51 (by decide) (by decide) ?_
              refine x_iconst (v := nI 1) dX11_canBe_64 (by decide) ?_
              refine x_goto 69 dX11_canBe_65 (by decide) ?_
              refine x_istore_n (lv' := [(2, _), (4, _), (3, _), (0, _), (1, _)]) dX11_canBe_69 rfl (by decide) rfl ?_
              refine y_iinc (lv' := [(3, _), (2, _), (4, _), (0, _), (1, _)]) 2 dX11_canBe_70 rfl (by decide) rfl ?_
              refine x_goto 4 dX11_canBe_73 (by decide) ?_
              refine x_pick (lv' := [(3, _), (2, _), (0, _), (1, _)]) [0, 1, 3, 4] rfl ?_
              exact ih (iM I - (i + 1)) (by omega) (i + 1) (nI 1) rfl (by omega) (Or.inl ⟨rfl, fun t ht => by rcases Nat.lt_succ_iff_lt_or_eq.mp ht with h | h; exact hpx c_24 t h; subst h; refine ⟨fun hl => ?_, fun hb => ?_⟩ <;> first | omega | exact absurd hl c_18 | exact absurd hb c_48⟩)
      · refine x_istore (lv' := [(4, _), (3, _), (2, _), (0, _), (1, _)]) dX11_canBe_21 (by decide) rfl ?_
        refine x_iload_n 2 dX11_canBe_23 rfl rfl ?_
        refine x_if_eq 68 dX11_canBe_24 (by decide) (fun c_24 => ?_) (fun c_24 => ?_)
        · refine x_iconst (v := nI 0) dX11_canBe_68 (by decide) ?_
          refine x_istore_n (lv' := [(2, _), (4, _), (3, _), (0, _), (1, _)]) dX11_canBe_69 rfl (by decide) rfl ?_
          refine y_iinc (lv' := [(3, _), (2, _), (4, _), (0, _), (1, _)]) 2 dX11_canBe_70 rfl (by decide) rfl ?_
          refine x_goto 4 dX11_canBe_73 (by decide) ?_
          refine x_pick (lv' := [(3, _), (2, _), (0, _), (1, _)]) [0, 1, 3, 4] rfl ?_
          exact ih (iM I - (i + 1)) (by omega) (i + 1) (nI 0) rfl (by omega) (Or.inr ⟨rfl, fun h => by first | exact hpn c_24 (fun t ht => h t (by omega)) | (have h1 := (h i (by omega)).1 c_18; omega) | (have h2 := (h i (by omega)).2 c_48; omega)⟩)
        · refine x_iload 0 dX11_canBe_27 rfl ?_
          refine t_if_eq 42 dX11_canBe_29 (by decide) (by decide) ?_
          refine x_aload_n 3 dX11_canBe_42 rfl rfl ?_
          refine x_getR fX11_29 dX11_canBe_43 l83 rfl ?_
          refine x_iload_n 1 dX11_canBe_46 rfl rfl ?_
          refine y_iald dX11_canBe_47 l90 (by omega) (by decide) (hI.2.2.2.2.1 i (by omega)) ?_
          refine x_callSb (as := [_]) (rest := []) sX11_150 (c_X11_isBagKind (hk5 (by omega))) dX11_canBe_48 rfl rfl (Nat.le_of_ble_eq_true rfl) (Nat.le_of_ble_eq_true rfl) (Nat.le_of_ble_eq_true rfl) (fun c_48 => ?_) (fun c_48 => ?_)
          · refine u_if_eq 64 dX11_canBe_51 (by decide) (by decide) ?_
            refine x_aload_n 3 dX11_canBe_54 rfl rfl ?_
            refine x_getR fX11_50 dX11_canBe_55 l83 rfl ?_
            refine x_iload_n 1 dX11_canBe_58 rfl rfl ?_
            refine y_iald dX11_canBe_59 l97 (by omega) (by decide) (hw0 i (by omega)) ?_
            refine x_iconst (v := nI 5) dX11_canBe_60 (by decide) ?_
            refine y_ic_ge 68 dX11_canBe_61 (by decide) (by omega) (by omega) (fun c_61 => ?_) (fun c_61 => ?_)
            · refine x_iconst (v := nI 0) dX11_canBe_68 (by decide) ?_
              refine x_istore_n (lv' := [(2, _), (4, _), (3, _), (0, _), (1, _)]) dX11_canBe_69 rfl (by decide) rfl ?_
              refine y_iinc (lv' := [(3, _), (2, _), (4, _), (0, _), (1, _)]) 2 dX11_canBe_70 rfl (by decide) rfl ?_
              refine x_goto 4 dX11_canBe_73 (by decide) ?_
              refine x_pick (lv' := [(3, _), (2, _), (0, _), (1, _)]) [0, 1, 3, 4] rfl ?_
              exact ih (iM I - (i + 1)) (by omega) (i + 1) (nI 0) rfl (by omega) (Or.inr ⟨rfl, fun h => by first | exact hpn c_24 (fun t ht => h t (by omega)) | (have h1 := (h i (by omega)).1 c_18; omega) | (have h2 := (h i (by omega)).2 c_48; omega)⟩)
            · refine x_iconst (v := nI 1) dX11_canBe_64 (by decide) ?_
              refine x_goto 69 dX11_canBe_65 (by decide) ?_
              refine x_istore_n (lv' := [(2, _), (4, _), (3, _), (0, _), (1, _)]) dX11_canBe_69 rfl (by decide) rfl ?_
              refine y_iinc (lv' := [(3, _), (2, _), (4, _), (0, _), (1, _)]) 2 dX11_canBe_70 rfl (by decide) rfl ?_
              refine x_goto 4 dX11_canBe_73 (by decide) ?_
              refine x_pick (lv' := [(3, _), (2, _), (0, _), (1, _)]) [0, 1, 3, 4] rfl ?_
              exact ih (iM I - (i + 1)) (by omega) (i + 1) (nI 1) rfl (by omega) (Or.inl ⟨rfl, fun t ht => by rcases Nat.lt_succ_iff_lt_or_eq.mp ht with h | h; exact hpx c_24 t h; subst h; refine ⟨fun hl => ?_, fun hb => ?_⟩ <;> first | omega | exact absurd hl c_18 | exact absurd hb c_48⟩)
          · refine t_if_eq 64 dX11_canBe_51 (by decide) (by decide) ?_
            refine x_iconst (v := nI 1) dX11_canBe_64 (by decide) ?_
            refine x_goto 69 dX11_canBe_65 (by decide) ?_
            refine x_istore_n (lv' := [(2, _), (4, _), (3, _), (0, _), (1, _)]) dX11_canBe_69 rfl (by decide) rfl ?_
            refine y_iinc (lv' := [(3, _), (2, _), (4, _), (0, _), (1, _)]) 2 dX11_canBe_70 rfl (by decide) rfl ?_
            refine x_goto 4 dX11_canBe_73 (by decide) ?_
            refine x_pick (lv' := [(3, _), (2, _), (0, _), (1, _)]) [0, 1, 3, 4] rfl ?_
            exact ih (iM I - (i + 1)) (by omega) (i + 1) (nI 1) rfl (by omega) (Or.inl ⟨rfl, fun t ht => by rcases Nat.lt_succ_iff_lt_or_eq.mp ht with h | h; exact hpx c_24 t h; subst h; refine ⟨fun hl => ?_, fun hb => ?_⟩ <;> first | omega | exact absurd hl c_18 | exact absurd hb c_48⟩)

set_option maxHeartbeats 4000000 in
set_option maxRecDepth 100000 in
theorem c_X11_canBe {S : St} {I : Isl} (hI : IsM I S) (hO : IOK I) {w : Nat → Nat} (hw0 : MW I w S) (hwo : ∀ t, t < iM I → w t < 5 + iB I) {l : Nat} (hl : l ≤ 6)  : C 2 60 yX11_canBe mX11_canBe [.ref 83, .int (nI l)] S (pb (VB I w l) S) := by
  refine C.ofX (by decide) rfl (Nat.le_of_ble_eq_true rfl) ?_
  show X 2 60 mX11_canBe (pb (VB I w l) S) 0 [(0, .ref 83), (1, .int (nI l))] [] S
  refine x_iconst (v := nI 1) dX11_canBe_0 (by decide) ?_
  refine x_istore_n (lv' := [(2, _), (0, _), (1, _)]) dX11_canBe_1 rfl (by decide) rfl ?_
  refine x_iconst (v := nI 0) dX11_canBe_2 (by decide) ?_
  refine x_istore_n (lv' := [(3, _), (2, _), (0, _), (1, _)]) dX11_canBe_3 rfl (by decide) rfl ?_
  refine x_pick (lv' := [(3, _), (2, _), (0, _), (1, _)]) [0, 1, 2, 3] rfl ?_
  exact lp_cb1 hI hO hw0 hwo hl 0 (nI 1) (Nat.zero_le _) (Or.inl ⟨rfl, fun t ht => absurd ht (Nat.not_lt_zero t)⟩)

theorem dig_code : ∀ {m : Nat} {w : Nat → Nat}, (∀ t, t < m → w t < 7) → ∀ t, t < m → digF (codeN m w) t = w t
  | 0, _, _, t, ht => absurd ht (Nat.not_lt_zero t)
  | m + 1, w, h, t, ht => by
    rw [codeN_h]
    unfold digF
    have h0 := h 0 (Nat.succ_pos m)
    cases t with
    | zero => rw [Nat.pow_zero, Nat.div_one]; omega
    | succ t =>
      rw [Nat.pow_succ, Nat.mul_comm (7 ^ t) 7, ← Nat.div_div_eq_div_mul, show (w 0 + 7 * codeN m (fun t => w (t + 1))) / 7 = codeN m (fun t => w (t + 1)) by omega]
      exact dig_code (m := m) (w := fun t => w (t + 1)) (fun i hi => h (i + 1) (by omega)) t (by omega)
theorem WOK.congr {I : Isl} (hO : IOK I) {w w' : Nat → Nat} (h : ∀ t, t < iM I → w' t = w t) (hw : WOK I w) : WOK I w' :=
  ⟨fun t ht => by rw [h t ht]; exact hw.1 t ht, fun b hb => by rw [h _ (hO.2.2.2.2.2.1 b hb).1]; exact hw.2 b hb⟩
theorem WOK.dig {I : Isl} (hO : IOK I) {w : Nat → Nat} (hw : WOK I w) : WOK I (digF (codeF I w)) := hw.congr hO (dig_code (hw.w7 hO))
theorem VB.ok {I : Isl} (hO : IOK I) {w : Nat → Nat} {L : Nat} (h : VB I w L) (hwo : ∀ t, t < iM I → w t < 5 + iB I) : WOK I w :=
  ⟨hwo, fun b hb => have hg := hO.2.2.2.2.2.1 b hb; (h.1 _ hg.1).2 hg.2⟩
theorem rwS_s0 (S : St) (k n : Nat) (f : Nat → Int32) : setI (rwS S k 0 n f) k n (f n) = rwS S k 0 (n + 1) f := by
  have h := rwS_s S k 0 n f
  rw [Nat.zero_add] at h
  exact h
theorem plcI_tn {I : Isl} (hO : IOK I) {x : Int32} (h : plcI I x) : x = nI (tn x) ∧ tn x < 5 + iB I ∧ plcF I (tn x) := by
  have h4 := hO.2.2.2.1
  have h1 := hO.1
  have h0 : 0 ≤ x.toInt ∧ x.toInt < 5 + (iB I : Int) := by unfold plcI at h; omega
  have e : x = nI (tn x) := nI_of_int (by unfold tn; omega)
  refine ⟨e, by unfold tn; omega, ?_⟩
  rw [e] at h
  exact (plcI_n (by unfold tn; omega)).mp h
/-- an image that can be had again -/
def goodG (I : Isl) (v : Nat → Int32) : Prop := (1 ≤ (v (iM I)).toInt ∧ (v (iM I)).toInt ≤ 6) ∧ (∀ t, t < iM I → plcI I (v t)) ∧ VB I (fun t => tn (v t)) (tn (v (iM I)))
theorem goodG_iff {I : Isl} {v : Nat → Int32} {l : Nat} (h : v (iM I) = nI l) (hl : l ≤ 6) : goodG I v ↔ 1 ≤ l ∧ (∀ t, t < iM I → plcI I (v t)) ∧ VB I (fun t => tn (v t)) l := by
  unfold goodG
  rw [h, tiN (by omega), tnN (by omega)]
  constructor
  · exact fun h => ⟨by omega, h.2⟩
  · exact fun h => ⟨by omega, h.2⟩
theorem c_getR {S : St} {r i z : Nat} {v : Int32} (h0 : S.1 3 0 = nI 60) (hr : r < 6) (hz : S.1 4 r = nI z) (hz2 : z ≤ 60) (hi : i < z) (hv : S.1 5 (r * 60 + i) = v) : C 1 30 yX5_get mX5_get [.ref 3, .int (nI r), .int (nI i)] S (pu (.int v) S) := c_get isR h0 hr hz hz2 hi hv

set_option maxHeartbeats 4000000 in
set_option maxRecDepth 100000 in
theorem lp_goneX {S : St} {I : Isl} (hI : IsX 11 I S) (hO : IOK I) (hS : RwS 3 6 60 S) {a l z : Nat} (ha : a < 6) (ez : S.1 4 a = nI z) (hz : z ≤ 60) (hzm : z = iM I + 1) (el : S.1 5 (a * 60 + iM I) = nI l) (hl1 : 1 ≤ l) (hl : l ≤ 6)  : ∀ (k : Nat), (k ≤ iM I) → (∀ t, t < k → plcI I (S.1 5 (a * 60 + t))) → X 4 120 mX10_gone (qi (i2 (¬ goodG I (fun t => S.1 5 (a * 60 + t))) (fun r S' => r = -3 ∧ ∃ S2, Fr (fun c => 40 ≤ c ∧ c ≤ 44) S S2 ∧ S' = fndS S2 3) (fun r S' => r = nI 1 ∧ ∃ S2, Fr (fun c => 36 ≤ c ∧ c ≤ 44) S S2 ∧ PlT 35 I (digF (codeF I (fun t => tn (S.1 5 (a * 60 + t))))) S2 ∧ S' = setI (setI S2 35 5 (nI (tn (S.1 5 (a * 60 + iM I))))) 60 0 (nI 0)))) 100 [(3, .int (nI k)), (2, .int (nI l)), (0, .ref 0), (1, .int (nI a))] [] (rwS S 41 0 k (fun t => S.1 5 (a * 60 + t))) := by
  intro k
  induction hm : iM I - k using Nat.strongRecOn generalizing k with
  | _ mm ih =>
    intro hk hx
    have hO1 := hO.1
    have hO2 := hO.2.1
    have hO3 := hO.2.2.1
    have hO4 := hO.2.2.2.1
    have hI1 : IsX 11 I (rwS S 41 0 k (fun t => S.1 5 (a * 60 + t))) := hI.keep (fun c h1 h2 b => rwS_k (by omega))
    have tl : tn (nI l) = l := tnN (by omega)
    have hgg := goodG_iff (v := (fun t => S.1 5 (a * 60 + t))) el hl
    have hf41 : Fr (fun c => 40 ≤ c ∧ c ≤ 44) S (rwS S 41 0 k (fun t => S.1 5 (a * 60 + t))) := ⟨rfl, fun c hc b => rwS_k (by omega)⟩
    refine x_iload_n 0 dX10_gone_100 rfl rfl ?_
    refine x_aload_n 2 dX10_gone_101 rfl rfl ?_
    refine x_getR fX10_40 dX10_gone_102 l0 rfl ?_
    refine y_getI fX10_173 dX10_gone_105 l11 rfl hI1.2.1 ?_
    refine y_ic_ge 163 dX10_gone_108 (by decide) (by omega) (by omega) (fun c_108 => ?_) (fun c_108 => ?_)
    · obtain rfl : k = iM I := (by omega)
      refine x_aload_n 2 dX10_gone_163 rfl rfl ?_
      refine x_getR fX10_53 dX10_gone_164 l0 rfl ?_
      refine x_iload_n 1 dX10_gone_167 rfl rfl ?_
      refine x_putI pX10_231 dX10_gone_168 l40 rfl ?_
      have hI2 : IsX 11 I (setI (rwS S 41 0 (iM I) (fun t => S.1 5 (a * 60 + t))) 40 5 (nI l)) := hI1.keep (fun c h1 h2 b => rdI_k (by omega))
      have hP2 : PlW 40 I (fun t => tn (S.1 5 (a * 60 + t))) (setI (rwS S 41 0 (iM I) (fun t => S.1 5 (a * 60 + t))) 40 5 (nI l)) := fun t ht => (rdI_k (by decide)).trans ((rwS_at0 ht).trans (plcI_tn hO (hx t ht)).1)
      have hb2 : ∀ t, t < iM I → tn (S.1 5 (a * 60 + t)) < 5 + iB I := fun t ht => (plcI_tn hO (hx t ht)).2.1
      refine x_aload_n 2 dX10_gone_171 rfl rfl ?_
      refine x_getR fX10_53 dX10_gone_172 l0 rfl ?_
      refine x_callVqi (as := []) (rest := []) vX10_370 (c_X3_canBe (Or.inr (Or.inl rfl)) hI2 hO hP2 rdI_eq (by omega) hb2) dX10_gone_175 l40 rfl rfl rfl (Nat.le_of_ble_eq_true rfl) (Nat.le_of_ble_eq_true rfl) (Nat.le_of_ble_eq_true rfl) (fun r_175 S_175 q_175 => ?_)
      obtain ⟨hf3, hr3⟩ := q_175
      have hf41b : Fr (fun c => 40 ≤ c ∧ c ≤ 44) (rwS S 41 0 (iM I) (fun t => S.1 5 (a * 60 + t))) (setI (rwS S 41 0 (iM I) (fun t => S.1 5 (a * 60 + t))) 40 5 (nI l)) := ⟨rfl, fun c hc b => rdI_k (by omega)⟩
      have hf40 : Fr (fun c => 40 ≤ c ∧ c ≤ 44) S S_175 := (hf41.trans hf41b).trans (hf3.wider (fun c h => by omega))
      refine x_if_ne 190 dX10_gone_178 (by decide) (fun c_178 => ?_) (fun c_178 => ?_)
      · have hvb : VB I (fun t => tn (S.1 5 (a * 60 + t))) l := hr3.elim (fun h => h.2) (fun h => absurd h.1 c_178)
        have hwk := hvb.ok hO hb2
        have hw7 := hwk.w7 hO
        have hI3 : IsX 11 I S_175 := hI.keep (fun c h1 h2 b => hf40.2 c (by omega) b)
        have hP3 : PlW 40 I (fun t => tn (S.1 5 (a * 60 + t))) S_175 := fun t ht => (hf3.2 41 (by omega) t).trans (hP2 t ht)
        refine x_aload_n 2 dX10_gone_190 rfl rfl ?_
        refine x_aload_n 2 dX10_gone_191 rfl rfl ?_
        refine x_getR fX10_53 dX10_gone_192 l0 rfl ?_
        refine x_callVu (as := []) (rest := [_]) vX10_274 (c_X3_code (Or.inr (Or.inl rfl)) hI3 hO hP3 hw7) dX10_gone_195 l40 rfl rfl rfl (Nat.le_of_ble_eq_true rfl) (Nat.le_of_ble_eq_true rfl) (Nat.le_of_ble_eq_true rfl) ?_
        refine x_iload_n 1 dX10_gone_198 rfl rfl ?_
        refine x_callVqv (as := [_, _]) (rest := []) vX10_277 (c_X10_goOnFrom hI3 hO (codeF_lt hO hw7) (hwk.dig hO)) dX10_gone_199 l0 rfl rfl rfl (Nat.le_of_ble_eq_true rfl) (Nat.le_of_ble_eq_true rfl) (Nat.le_of_ble_eq_true rfl) (fun S_199 q_199 => ?_)
        refine x_iconst (v := nI 1) dX10_gone_202 (by decide) ?_
        refine x_iret rfl dX10_gone_203 (by obtain ⟨S2, ⟨_, hf5, hp5⟩, rfl⟩ := q_199; refine q2_1 (fun h => h (hgg.mpr ⟨hl1, hx, hvb⟩)) ⟨rfl, S2, (hf40.wider (fun c h => by omega)).trans (hf5.wider (fun c h => by omega)), hp5, by rw [el, tl]⟩)
      · refine x_aload_n 2 dX10_gone_181 rfl rfl ?_
        refine x_getR fX10_10 dX10_gone_182 l0 rfl ?_
        refine x_iconst (v := nI 3) dX10_gone_185 (by decide) ?_
        refine x_callVu (as := [_]) (rest := []) vX10_109 (c_X9_find (by decide) (by decide)) dX10_gone_186 l1 rfl rfl rfl (Nat.le_of_ble_eq_true rfl) (Nat.le_of_ble_eq_true rfl) (Nat.le_of_ble_eq_true rfl) ?_
        refine x_iret rfl dX10_gone_189 (q2_0 (fun h => by have h2 := (hgg.mp h).2.2; rcases hr3 with ⟨h3, _⟩ | ⟨_, h3⟩; exact absurd (h3.symm.trans c_178) (by decide); exact h3 h2) ⟨rfl, _, hf40, rfl⟩)
    · refine x_aload_n 2 dX10_gone_111 rfl rfl ?_
      refine x_getR fX10_40 dX10_gone_112 l0 rfl ?_
      refine x_aload_n 2 dX10_gone_115 rfl rfl ?_
      refine x_getR fX10_21 dX10_gone_116 l0 rfl ?_
      refine x_iload_n 3 dX10_gone_119 rfl rfl ?_
      refine x_iload_n 0 dX10_gone_120 rfl rfl ?_
      refine x_callVu (as := [_, _]) (rest := [_]) vX10_124 (c_getR ((rwS_k (by decide)).trans hS.1) ha ((rwS_k (by decide)).trans ez) hz (by omega) (rwS_k (by decide))) dX10_gone_121 l3 rfl rfl rfl (Nat.le_of_ble_eq_true rfl) (Nat.le_of_ble_eq_true rfl) (Nat.le_of_ble_eq_true rfl) ?_
      refine x_callVb (as := [_]) (rest := []) vX10_367 (c_X1_isPlace hI1 hO) dX10_gone_124 l11 rfl rfl rfl (Nat.le_of_ble_eq_true rfl) (Nat.le_of_ble_eq_true rfl) (Nat.le_of_ble_eq_true rfl) (fun c_124 => ?_) (fun c_124 => ?_)
      · refine t_if_ne 139 dX10_gone_127 (by decide) (by decide) ?_
        refine x_aload_n 2 dX10_gone_139 rfl rfl ?_
        refine x_getR fX10_53 dX10_gone_140 l0 rfl ?_
        refine x_getR fX10_185 dX10_gone_143 l40 rfl ?_
        refine x_iload_n 0 dX10_gone_146 rfl rfl ?_
        refine x_aload_n 2 dX10_gone_147 rfl rfl ?_
        refine x_getR fX10_21 dX10_gone_148 l0 rfl ?_
        refine x_iload_n 3 dX10_gone_151 rfl rfl ?_
        refine x_iload_n 0 dX10_gone_152 rfl rfl ?_
        refine x_callVu (as := [_, _]) (rest := [_, _]) vX10_124 (c_getR ((rwS_k (by decide)).trans hS.1) ha ((rwS_k (by decide)).trans ez) hz (by omega) (rwS_k (by decide))) dX10_gone_153 l3 rfl rfl rfl (Nat.le_of_ble_eq_true rfl) (Nat.le_of_ble_eq_true rfl) (Nat.le_of_ble_eq_true rfl) ?_
        refine y_iast dX10_gone_156 l41 (by omega) (by decide) ?_
        refine y_iinc (lv' := [(3, _), (2, _), (0, _), (1, _)]) 0 dX10_gone_157 rfl (by decide) rfl ?_
        refine x_goto 100 dX10_gone_160 (by decide) ?_
        refine x_pick (lv' := [(3, _), (2, _), (0, _), (1, _)]) [0, 1, 2, 3] rfl ?_
        refine x_cast (rwS_s0 S 41 k (fun t => S.1 5 (a * 60 + t))) ?_
        exact ih (iM I - (k + 1)) (by omega) (k + 1) rfl (by omega) (fun t ht => by rcases Nat.lt_succ_iff_lt_or_eq.mp ht with h | h; exact hx t h; subst h; exact c_124)
      · refine u_if_ne 139 dX10_gone_127 (by decide) (by decide) ?_
        refine x_aload_n 2 dX10_gone_130 rfl rfl ?_
        refine x_getR fX10_10 dX10_gone_131 l0 rfl ?_
        refine x_iconst (v := nI 3) dX10_gone_134 (by decide) ?_
        refine x_callVu (as := [_]) (rest := []) vX10_109 (c_X9_find (by decide) (by decide)) dX10_gone_135 l1 rfl rfl rfl (Nat.le_of_ble_eq_true rfl) (Nat.le_of_ble_eq_true rfl) (Nat.le_of_ble_eq_true rfl) ?_
        refine x_iret rfl dX10_gone_138 (q2_0 (fun h => c_124 ((hgg.mp h).2.1 k (by omega))) ⟨rfl, _, hf41, rfl⟩)

set_option maxHeartbeats 4000000 in
set_option maxRecDepth 100000 in
theorem c_X10_gone {S : St} {I : Isl} (hI : IsX 11 I S) (hO : IOK I) (hS : RwS 3 6 60 S) {x : Int32} : C 4 120 yX10_gone mX10_gone [.ref 0, .int x] S (qi (i5 (¬ (0 ≤ x.toInt ∧ x.toInt < 6)) ((S.1 4 (tn x)).toInt < 0) (¬ (S.1 4 (tn x)).toInt = (iM I : Int) + 1) (¬ goodG I (fun t => S.1 5 (tn x * 60 + t))) (an (-1) S) (an (-3) (fndS S 1)) (an (-3) (fndS S 5)) (fun r S' => r = -3 ∧ ∃ S2, Fr (fun c => 40 ≤ c ∧ c ≤ 44) S S2 ∧ S' = fndS S2 3) (fun r S' => r = nI 1 ∧ ∃ S2, Fr (fun c => 36 ≤ c ∧ c ≤ 44) S S2 ∧ PlT 35 I (digF (codeF I (fun t => tn (S.1 5 (tn x * 60 + t))))) S2 ∧ S' = setI (setI S2 35 5 (nI (tn (S.1 5 (tn x * 60 + iM I))))) 60 0 (nI 0)))) := by
  have hO1 := hO.1
  have hO2 := hO.2.1
  have hO3 := hO.2.2.1
  have hO4 := hO.2.2.2.1
  refine C.ofX (by decide) rfl (Nat.le_of_ble_eq_true rfl) ?_
  show X 4 120 mX10_gone (qi (i5 (¬ (0 ≤ x.toInt ∧ x.toInt < 6)) ((S.1 4 (tn x)).toInt < 0) (¬ (S.1 4 (tn x)).toInt = (iM I : Int) + 1) (¬ goodG I (fun t => S.1 5 (tn x * 60 + t))) (an (-1) S) (an (-3) (fndS S 1)) (an (-3) (fndS S 5)) (fun r S' => r = -3 ∧ ∃ S2, Fr (fun c => 40 ≤ c ∧ c ≤ 44) S S2 ∧ S' = fndS S2 3) (fun r S' => r = nI 1 ∧ ∃ S2, Fr (fun c => 36 ≤ c ∧ c ≤ 44) S S2 ∧ PlT 35 I (digF (codeF I (fun t => tn (S.1 5 (tn x * 60 + t))))) S2 ∧ S' = setI (setI S2 35 5 (nI (tn (S.1 5 (tn x * 60 + iM I))))) 60 0 (nI 0)))) 0 [(0, .ref 0), (1, .int x)] [] S
  refine x_aload_n 0 dX10_gone_0 rfl rfl ?_
  refine x_getR fX10_21 dX10_gone_1 l0 rfl ?_
  refine x_iload_n 1 dX10_gone_4 rfl rfl ?_
  refine x_callVb (as := [_]) (rest := []) vX10_105 (c_X5_isOne isR) dX10_gone_5 l3 rfl rfl rfl (Nat.le_of_ble_eq_true rfl) (Nat.le_of_ble_eq_true rfl) (Nat.le_of_ble_eq_true rfl) (fun c_5 => ?_) (fun c_5 => ?_)
  · refine t_if_ne 13 dX10_gone_8 (by decide) (by decide) ?_
    obtain ⟨a, ha, rfl⟩ := nI_ex (x := x) (n := 6) (by omega) (by omega)
    have ea : (nI a).toInt = (a : Int) := tiN (by omega)
    have ta : tn (nI a) = a := tnN (by omega)
    refine x_aload_n 0 dX10_gone_13 rfl rfl ?_
    refine x_getR fX10_21 dX10_gone_14 l0 rfl ?_
    refine x_iload_n 1 dX10_gone_17 rfl rfl ?_
    refine x_callVb (as := [_]) (rest := []) vX10_117 (c_miss ha) dX10_gone_18 l3 rfl rfl rfl (Nat.le_of_ble_eq_true rfl) (Nat.le_of_ble_eq_true rfl) (Nat.le_of_ble_eq_true rfl) (fun c_18 => ?_) (fun c_18 => ?_)
    · refine u_if_eq 33 dX10_gone_21 (by decide) (by decide) ?_
      refine x_aload_n 0 dX10_gone_24 rfl rfl ?_
      refine x_getR fX10_10 dX10_gone_25 l0 rfl ?_
      refine x_iconst (v := nI 1) dX10_gone_28 (by decide) ?_
      refine x_callVu (as := [_]) (rest := []) vX10_109 (c_X9_find (by decide) (by decide)) dX10_gone_29 l1 rfl rfl rfl (Nat.le_of_ble_eq_true rfl) (Nat.le_of_ble_eq_true rfl) (Nat.le_of_ble_eq_true rfl) ?_
      refine x_iret rfl dX10_gone_32 (by simp only [ta]; exact q5_1 (by omega) (by omega) ⟨rfl, rfl⟩)
    · refine t_if_eq 33 dX10_gone_21 (by decide) (by decide) ?_
      obtain ⟨z, hz, ez⟩ := hS.nn ha c_18
      have ezi : (nI z).toInt = (z : Int) := tiN (by omega)
      refine x_aload_n 0 dX10_gone_33 rfl rfl ?_
      refine x_getR fX10_21 dX10_gone_34 l0 rfl ?_
      refine x_iload_n 1 dX10_gone_37 rfl rfl ?_
      refine x_callVu (as := [_]) (rest := []) vX10_141 (c_sizeOf isR ha ez) dX10_gone_38 l3 rfl rfl rfl (Nat.le_of_ble_eq_true rfl) (Nat.le_of_ble_eq_true rfl) (Nat.le_of_ble_eq_true rfl) ?_
      refine x_aload_n 0 dX10_gone_41 rfl rfl ?_
      refine x_getR fX10_40 dX10_gone_42 l0 rfl ?_
      refine y_getI fX10_173 dX10_gone_45 l11 rfl hI.2.1 ?_
      refine x_iconst (v := nI 1) dX10_gone_48 (by decide) ?_
      refine y_iadd dX10_gone_49 ?_
      refine y_ic_eq 62 dX10_gone_50 (by decide) (by omega) (by omega) (fun c_50 => ?_) (fun c_50 => ?_)
      · refine x_aload_n 0 dX10_gone_62 rfl rfl ?_
        refine x_getR fX10_21 dX10_gone_63 l0 rfl ?_
        refine x_iload_n 1 dX10_gone_66 rfl rfl ?_
        refine x_aload_n 0 dX10_gone_67 rfl rfl ?_
        refine x_getR fX10_40 dX10_gone_68 l0 rfl ?_
        refine y_getI fX10_173 dX10_gone_71 l11 rfl hI.2.1 ?_
        refine x_callVu (as := [_, _]) (rest := []) vX10_124 (c_getR hS.1 ha ez hz (by omega) rfl) dX10_gone_74 l3 rfl rfl rfl (Nat.le_of_ble_eq_true rfl) (Nat.le_of_ble_eq_true rfl) (Nat.le_of_ble_eq_true rfl) ?_
        refine x_istore_n (lv' := [(2, _), (0, _), (1, _)]) dX10_gone_77 rfl (by decide) rfl ?_
        refine x_iload_n 0 dX10_gone_78 rfl rfl ?_
        refine x_iconst (v := nI 1) dX10_gone_79 (by decide) ?_
        refine z_ic_lt 89 dX10_gone_80 (by decide) (by omega) (fun c_80 => ?_) (fun c_80 => ?_)
        · refine x_aload_n 1 dX10_gone_89 rfl rfl ?_
          refine x_getR fX10_10 dX10_gone_90 l0 rfl ?_
          refine x_iconst (v := nI 3) dX10_gone_93 (by decide) ?_
          refine x_callVu (as := [_]) (rest := []) vX10_109 (c_X9_find (by decide) (by decide)) dX10_gone_94 l1 rfl rfl rfl (Nat.le_of_ble_eq_true rfl) (Nat.le_of_ble_eq_true rfl) (Nat.le_of_ble_eq_true rfl) ?_
          refine x_iret rfl dX10_gone_97 (by simp only [ta, ez]; exact q5_3 (by omega) (by omega) (by omega) (fun h => by have h1 : 1 ≤ (S.1 5 (a * 60 + iM I)).toInt ∧ (S.1 5 (a * 60 + iM I)).toInt ≤ 6 := h.1; omega) ⟨rfl, S, Fr.refl, rfl⟩)
        · refine x_iload_n 0 dX10_gone_83 rfl rfl ?_
          refine x_bipush (v := nI 6) dX10_gone_84 (by decide) ?_
          refine z_ic_le 98 dX10_gone_86 (by decide) (by omega) (fun c_86 => ?_) (fun c_86 => ?_)
          · obtain ⟨l, hl7, el⟩ := nI_ex (x := S.1 5 (a * 60 + iM I)) (n := 7) (by omega) (by omega)
            rw [el, tiN (by omega)] at c_80 c_86
            rw [el]
            refine x_iconst (v := nI 0) dX10_gone_98 (by decide) ?_
            refine x_istore_n (lv' := [(3, _), (2, _), (0, _), (1, _)]) dX10_gone_99 rfl (by decide) rfl ?_
            refine x_pick (lv' := [(3, _), (2, _), (0, _), (1, _)]) [0, 1, 2, 3] rfl ?_
            have hh := lp_goneX hI hO hS ha ez hz (by omega) el (by omega) (by omega) 0 (Nat.zero_le _) (fun t ht => absurd ht (Nat.not_lt_zero t))
            rw [rwS_0] at hh
            refine hh.mono (fun v S' hq => ?_)
            obtain ⟨r, rfl, hr⟩ := hq
            simp only [ta, ez]
            by_cases hg : goodG I (fun t => S.1 5 (a * 60 + t))
            · rw [e2_1 (fun q => q hg)] at hr
              exact q5_4 (by omega) (by omega) (by omega) (fun q => q hg) hr
            · rw [e2_0 hg] at hr
              exact q5_3 (by omega) (by omega) (by omega) hg hr
          · refine x_aload_n 1 dX10_gone_89 rfl rfl ?_
            refine x_getR fX10_10 dX10_gone_90 l0 rfl ?_
            refine x_iconst (v := nI 3) dX10_gone_93 (by decide) ?_
            refine x_callVu (as := [_]) (rest := []) vX10_109 (c_X9_find (by decide) (by decide)) dX10_gone_94 l1 rfl rfl rfl (Nat.le_of_ble_eq_true rfl) (Nat.le_of_ble_eq_true rfl) (Nat.le_of_ble_eq_true rfl) ?_
            refine x_iret rfl dX10_gone_97 (by simp only [ta, ez]; exact q5_3 (by omega) (by omega) (by omega) (fun h => by have h1 : 1 ≤ (S.1 5 (a * 60 + iM I)).toInt ∧ (S.1 5 (a * 60 + iM I)).toInt ≤ 6 := h.1; omega) ⟨rfl, S, Fr.refl, rfl⟩)
      · refine x_aload_n 0 dX10_gone_53 rfl rfl ?_
        refine x_getR fX10_10 dX10_gone_54 l0 rfl ?_
        refine x_iconst (v := nI 5) dX10_gone_57 (by decide) ?_
        refine x_callVu (as := [_]) (rest := []) vX10_109 (c_X9_find (by decide) (by decide)) dX10_gone_58 l1 rfl rfl rfl (Nat.le_of_ble_eq_true rfl) (Nat.le_of_ble_eq_true rfl) (Nat.le_of_ble_eq_true rfl) ?_
        refine x_iret rfl dX10_gone_61 (by simp only [ta, ez]; exact q5_2 (by omega) (by omega) (by omega) ⟨rfl, rfl⟩)
  · refine u_if_ne 13 dX10_gone_8 (by decide) (by decide) ?_
    refine x_iconst (v := -1) dX10_gone_11 (by decide) ?_
    refine x_iret rfl dX10_gone_12 (q5_0 c_5 ⟨rfl, rfl⟩)

theorem IsM.rw {I : Isl} {S : St} (h : IsM I S) (k : Nat) (f : Nat → Int32) : IsM I (rwS S 97 0 k f) := h.keep (fun j _ => rwS_k (by decide)) (fun a ha b => rwS_k (by intro e; subst e; revert ha; decide))
theorem rw_f (S : St) (k : Nat) (f : Nat → Int32) : F97 S (rwS S 97 0 k f) := ⟨rfl, fun a ha b => rwS_k ha⟩

set_option maxHeartbeats 4000000 in
set_option maxRecDepth 100000 in
theorem lp_goneM0 {S : St} {I : Isl} (hI : IsM I S) (hO : IOK I) {a : Nat} (ha : a < 6) (hg : ¬ goodG I (fun t => S.1 86 (60 * a + t)))  : ∀ (d : Nat), (d = 0) → X 3 90 mX11_gone (qi (i2 (¬ goodG I (fun t => S.1 86 (60 * a + t))) (fun r S' => r = -3 ∧ ∃ S2, F97 S S2 ∧ S' = fndM S2 3) (an (nI 1) (setI (setI (bcN (rwS S 97 0 (iM I) (fun t => S.1 86 (60 * a + t))) (iM I)) 83 29 (nI 0)) 83 17 (S.1 86 (60 * a + iM I)))))) 92 [(2, .int 0), (0, .ref 83), (1, .int (nI a))] [] S := by
  intro d
  induction hm : d + 0 using Nat.strongRecOn generalizing d with
  | _ mm ih =>
    intro hd
    have hO1 := hO.1
    have hO2 := hO.2.1
    have hO3 := hO.2.2.1
    have hO4 := hO.2.2.2.1
    refine x_iconst (v := nI 0) dX11_gone_92 (by decide) ?_
    refine x_istore_n (lv' := [(3, _), (2, _), (0, _), (1, _)]) dX11_gone_93 rfl (by decide) rfl ?_
    refine x_iload_n 0 dX11_gone_94 rfl rfl ?_
    refine x_aload_n 2 dX11_gone_95 rfl rfl ?_
    refine y_getI fX11_181 dX11_gone_96 l83 rfl hI.2.1 ?_
    refine y_ic_ge 124 dX11_gone_99 (by decide) (by omega) (by omega) (fun c_99 => ?_) (fun c_99 => ?_)
    · refine x_iload_n 1 dX11_gone_124 rfl rfl ?_
      refine t_if_eq 144 dX11_gone_125 (by decide) (by decide) ?_
      refine x_aload_n 2 dX11_gone_144 rfl rfl ?_
      refine x_iconst (v := nI 3) dX11_gone_145 (by decide) ?_
      refine x_callVu (as := [_]) (rest := []) vX11_112 (c_X11_meets (by decide)) dX11_gone_146 l83 rfl rfl rfl (Nat.le_of_ble_eq_true rfl) (Nat.le_of_ble_eq_true rfl) (Nat.le_of_ble_eq_true rfl) ?_
      refine x_iret rfl dX11_gone_149 (q2_0 hg ⟨rfl, S, Fr.refl, rfl⟩)
    · refine x_iload_n 1 dX11_gone_102 rfl rfl ?_
      refine t_if_eq 124 dX11_gone_103 (by decide) (by decide) ?_
      refine x_iload_n 1 dX11_gone_124 rfl rfl ?_
      refine t_if_eq 144 dX11_gone_125 (by decide) (by decide) ?_
      refine x_aload_n 2 dX11_gone_144 rfl rfl ?_
      refine x_iconst (v := nI 3) dX11_gone_145 (by decide) ?_
      refine x_callVu (as := [_]) (rest := []) vX11_112 (c_X11_meets (by decide)) dX11_gone_146 l83 rfl rfl rfl (Nat.le_of_ble_eq_true rfl) (Nat.le_of_ble_eq_true rfl) (Nat.le_of_ble_eq_true rfl) ?_
      refine x_iret rfl dX11_gone_149 (q2_0 hg ⟨rfl, S, Fr.refl, rfl⟩)

set_option maxHeartbeats 4000000 in
set_option maxRecDepth 100000 in
theorem lp_goneM1 {S : St} {I : Isl} (hI : IsM I S) (hO : IOK I) {a : Nat} (ha : a < 6)  (hg1 : ∀ t, t < iM I → plcI I (S.1 86 (60 * a + t))) {l : Nat} (el : S.1 86 (60 * a + iM I) = nI l) (hl1 : 1 ≤ l) (hl : l ≤ 6)  : ∀ (k : Nat), (k ≤ iM I) → X 3 90 mX11_gone (qi (i2 (¬ goodG I (fun t => S.1 86 (60 * a + t))) (fun r S' => r = -3 ∧ ∃ S2, F97 S S2 ∧ S' = fndM S2 3) (an (nI 1) (setI (setI (bcN (rwS S 97 0 (iM I) (fun t => S.1 86 (60 * a + t))) (iM I)) 83 29 (nI 0)) 83 17 (S.1 86 (60 * a + iM I)))))) 94 [(3, .int (nI k)), (2, .int 1), (0, .ref 83), (1, .int (nI a))] [] (rwS S 97 0 k (fun t => S.1 86 (60 * a + t))) := by
  intro k
  induction hm : iM I - k using Nat.strongRecOn generalizing k with
  | _ mm ih =>
    intro hk
    have hO1 := hO.1
    have hO2 := hO.2.1
    have hO3 := hO.2.2.1
    have hO4 := hO.2.2.2.1
    have hI1 : IsM I (rwS S 97 0 k (fun t => S.1 86 (60 * a + t))) := hI.rw k _
    have hgg := goodG_iff (v := (fun t => S.1 86 (60 * a + t))) el hl
    refine x_iload_n 0 dX11_gone_94 rfl rfl ?_
    refine x_aload_n 2 dX11_gone_95 rfl rfl ?_
    refine y_getI fX11_181 dX11_gone_96 l83 rfl hI1.2.1 ?_
    refine y_ic_ge 124 dX11_gone_99 (by decide) (by omega) (by omega) (fun c_99 => ?_) (fun c_99 => ?_)
    · obtain rfl : k = iM I := (by omega)
      have hmw : MW I (fun t => tn (S.1 86 (60 * a + t))) (rwS S 97 0 (iM I) (fun t => S.1 86 (60 * a + t))) := fun t ht => (rwS_at0 ht).trans (plcI_tn hO (hg1 t ht)).1
      have hwo : ∀ t, t < iM I → tn (S.1 86 (60 * a + t)) < 5 + iB I := fun t ht => (plcI_tn hO (hg1 t ht)).2.1
      have bcd : ∀ j, ¬ j = 29 → (setI (bcN (rwS S 97 0 (iM I) (fun t => S.1 86 (60 * a + t))) (iM I)) 83 29 (nI 0)).1 83 j = (rwS S 97 0 (iM I) (fun t => S.1 86 (60 * a + t))).1 83 j := fun j hj => (rdI_j hj).trans (bcN_k (by decide))
      refine x_iload_n 1 dX11_gone_124 rfl rfl ?_
      refine u_if_eq 144 dX11_gone_125 (by decide) (by decide) ?_
      refine x_aload_n 2 dX11_gone_128 rfl rfl ?_
      refine x_aload_n 2 dX11_gone_129 rfl rfl ?_
      refine x_iload_n 3 dX11_gone_130 rfl rfl ?_
      refine x_aload_n 2 dX11_gone_131 rfl rfl ?_
      refine y_getI fX11_181 dX11_gone_132 l83 rfl hI1.2.1 ?_
      refine x_callVu (as := [_, _]) (rest := [_]) vX11_116 (c_rowAtM ha (by omega) ((rwS_k (by decide)).trans el)) dX11_gone_135 l83 rfl rfl rfl (Nat.le_of_ble_eq_true rfl) (Nat.le_of_ble_eq_true rfl) (Nat.le_of_ble_eq_true rfl) ?_
      refine x_callVb (as := [_]) (rest := []) vX11_336 (c_X11_canBe (w := (fun t => tn (S.1 86 (60 * a + t)))) hI1 hO hmw hwo hl) dX11_gone_138 l83 rfl rfl rfl (Nat.le_of_ble_eq_true rfl) (Nat.le_of_ble_eq_true rfl) (Nat.le_of_ble_eq_true rfl) (fun c_138 => ?_) (fun c_138 => ?_)
      · refine t_if_ne 150 dX11_gone_141 (by decide) (by decide) ?_
        refine x_aload_n 2 dX11_gone_150 rfl rfl ?_
        refine x_callVv (as := []) (rest := []) vX11_259 (c_X11_becomes hI1 hO) dX11_gone_151 l83 rfl rfl rfl (Nat.le_of_ble_eq_true rfl) (Nat.le_of_ble_eq_true rfl) (Nat.le_of_ble_eq_true rfl) ?_
        refine x_aload_n 2 dX11_gone_154 rfl rfl ?_
        refine x_aload_n 2 dX11_gone_155 rfl rfl ?_
        refine x_iload_n 3 dX11_gone_156 rfl rfl ?_
        refine x_aload_n 2 dX11_gone_157 rfl rfl ?_
        refine y_getI fX11_181 dX11_gone_158 l83 rfl ((bcd 11 (by decide)).trans hI1.2.1) ?_
        refine x_callVu (as := [_, _]) (rest := [_]) vX11_116 (c_rowAtM ha (by omega) ((rdI_k (by decide)).trans ((bcN_k (by decide)).trans (rwS_k (by decide))))) dX11_gone_161 l83 rfl rfl rfl (Nat.le_of_ble_eq_true rfl) (Nat.le_of_ble_eq_true rfl) (Nat.le_of_ble_eq_true rfl) ?_
        refine x_putI pX11_91 dX11_gone_164 l83 rfl ?_
        refine x_iconst (v := nI 1) dX11_gone_167 (by decide) ?_
        refine x_iret rfl dX11_gone_168 (q2_1 (fun h => h (hgg.mpr ⟨hl1, hg1, c_138⟩)) ⟨rfl, rfl⟩)
      · refine u_if_ne 150 dX11_gone_141 (by decide) (by decide) ?_
        refine x_aload_n 2 dX11_gone_144 rfl rfl ?_
        refine x_iconst (v := nI 3) dX11_gone_145 (by decide) ?_
        refine x_callVu (as := [_]) (rest := []) vX11_112 (c_X11_meets (by decide)) dX11_gone_146 l83 rfl rfl rfl (Nat.le_of_ble_eq_true rfl) (Nat.le_of_ble_eq_true rfl) (Nat.le_of_ble_eq_true rfl) ?_
        refine x_iret rfl dX11_gone_149 (q2_0 (fun h => c_138 (hgg.mp h).2.2) ⟨rfl, _, rw_f _ _ _, rfl⟩)
    · refine x_iload_n 1 dX11_gone_102 rfl rfl ?_
      refine u_if_eq 124 dX11_gone_103 (by decide) (by decide) ?_
      refine x_aload_n 2 dX11_gone_106 rfl rfl ?_
      refine x_getR fX11_50 dX11_gone_107 l83 rfl ?_
      refine x_iload_n 0 dX11_gone_110 rfl rfl ?_
      refine x_aload_n 2 dX11_gone_111 rfl rfl ?_
      refine x_iload_n 3 dX11_gone_112 rfl rfl ?_
      refine x_iload_n 0 dX11_gone_113 rfl rfl ?_
      refine x_callVu (as := [_, _]) (rest := [_, _]) vX11_116 (c_rowAtM ha (by omega) (rwS_k (by decide))) dX11_gone_114 l83 rfl rfl rfl (Nat.le_of_ble_eq_true rfl) (Nat.le_of_ble_eq_true rfl) (Nat.le_of_ble_eq_true rfl) ?_
      refine y_iast dX11_gone_117 l97 (by omega) (by decide) ?_
      refine y_iinc (lv' := [(3, _), (2, _), (0, _), (1, _)]) 0 dX11_gone_118 rfl (by decide) rfl ?_
      refine x_goto 94 dX11_gone_121 (by decide) ?_
      refine x_pick (lv' := [(3, _), (2, _), (0, _), (1, _)]) [0, 1, 2, 3] rfl ?_
      refine x_cast (rwS_s0 S 97 k (fun t => S.1 86 (60 * a + t))) ?_
      exact ih (iM I - (k + 1)) (by omega) (k + 1) rfl (by omega)

set_option maxHeartbeats 4000000 in
set_option maxRecDepth 100000 in
theorem lp_goneM2 {S : St} {I : Isl} (hI : IsM I S) (hO : IOK I) {a : Nat} (ha : a < 6)  : ∀ (k : Nat) (x : Int32), (k ≤ iM I) → ((x = 1 ∧ (1 ≤ (S.1 86 (60 * a + iM I)).toInt ∧ (S.1 86 (60 * a + iM I)).toInt ≤ 6) ∧ ∀ t, t < k → plcI I (S.1 86 (60 * a + t))) ∨ (x = 0 ∧ ¬ ((1 ≤ (S.1 86 (60 * a + iM I)).toInt ∧ (S.1 86 (60 * a + iM I)).toInt ≤ 6) ∧ ∀ t, t < k → plcI I (S.1 86 (60 * a + t))))) → X 3 90 mX11_gone (qi (i2 (¬ goodG I (fun t => S.1 86 (60 * a + t))) (fun r S' => r = -3 ∧ ∃ S2, F97 S S2 ∧ S' = fndM S2 3) (an (nI 1) (setI (setI (bcN (rwS S 97 0 (iM I) (fun t => S.1 86 (60 * a + t))) (iM I)) 83 29 (nI 0)) 83 17 (S.1 86 (60 * a + iM I)))))) 63 [(3, .int (nI k)), (2, .int x), (0, .ref 83), (1, .int (nI a))] [] S := by
  intro k x
  induction hm : iM I - k using Nat.strongRecOn generalizing k x with
  | _ mm ih =>
    intro hk hx
    have hO1 := hO.1
    have hO2 := hO.2.1
    have hO3 := hO.2.2.1
    have hO4 := hO.2.2.2.1
    have hpx : ¬ x = 0 → (1 ≤ (S.1 86 (60 * a + iM I)).toInt ∧ (S.1 86 (60 * a + iM I)).toInt ≤ 6) ∧ ∀ t, t < k → plcI I (S.1 86 (60 * a + t)) := fun q => hx.elim (fun a => a.2) (fun a => absurd a.1 q)
    refine x_iload_n 0 dX11_gone_63 rfl rfl ?_
    refine x_aload_n 2 dX11_gone_64 rfl rfl ?_
    refine y_getI fX11_181 dX11_gone_65 l83 rfl hI.2.1 ?_
    refine y_ic_ge 92 dX11_gone_68 (by decide) (by omega) (by omega) (fun c_68 => ?_) (fun c_68 => ?_)
    · refine x_pick (lv' := [(2, _), (0, _), (1, _)]) [1, 2, 3] rfl ?_
      rcases hx with ⟨rfl, hg⟩ | ⟨rfl, hg⟩
      · first
        | exact absurd c_72 (by decide)
        | (obtain rfl : k = iM I := (by omega)
           obtain ⟨l, hl7, el⟩ := nI_ex (x := S.1 86 (60 * a + iM I)) (n := 7) (by omega) (by omega)
           have eli : (nI l).toInt = (l : Int) := tiN (by omega)
           have hg1 := hg.1
           rw [el, eli] at hg1
           have hh := lp_goneM1 hI hO ha hg.2 el (by omega) (by omega) 0 (Nat.zero_le _)
           rw [rwS_0] at hh
           refine x_iconst (v := nI 0) dX11_gone_92 (by decide) ?_
           refine x_istore_n (lv' := [(3, _), (2, _), (0, _), (1, _)]) dX11_gone_93 rfl (by decide) rfl ?_
           exact hh)
      · exact lp_goneM0 hI hO ha (fun h => hg ⟨h.1, fun t ht => h.2.1 t (by omega)⟩) 0 rfl
    · refine x_iload_n 1 dX11_gone_71 rfl rfl ?_
      refine x_if_eq 92 dX11_gone_72 (by decide) (fun c_72 => ?_) (fun c_72 => ?_)
      · refine x_pick (lv' := [(2, _), (0, _), (1, _)]) [1, 2, 3] rfl ?_
        rcases hx with ⟨rfl, hg⟩ | ⟨rfl, hg⟩
        · first
          | exact absurd c_72 (by decide)
          | (obtain rfl : k = iM I := (by omega)
             obtain ⟨l, hl7, el⟩ := nI_ex (x := S.1 86 (60 * a + iM I)) (n := 7) (by omega) (by omega)
             have eli : (nI l).toInt = (l : Int) := tiN (by omega)
             have hg1 := hg.1
             rw [el, eli] at hg1
             have hh := lp_goneM1 hI hO ha hg.2 el (by omega) (by omega) 0 (Nat.zero_le _)
             rw [rwS_0] at hh
             refine x_iconst (v := nI 0) dX11_gone_92 (by decide) ?_
             refine x_istore_n (lv' := [(3, _), (2, _), (0, _), (1, _)]) dX11_gone_93 rfl (by decide) rfl ?_
             exact hh)
        · exact lp_goneM0 hI hO ha (fun h => hg ⟨h.1, fun t ht => h.2.1 t (by omega)⟩) 0 rfl
      · refine x_aload_n 2 dX11_gone_75 rfl rfl ?_
        refine x_aload_n 2 dX11_gone_76 rfl rfl ?_
        refine x_iload_n 3 dX11_gone_77 rfl rfl ?_
        refine x_iload_n 0 dX11_gone_78 rfl rfl ?_
        refine x_callVu (as := [_, _]) (rest := [_]) vX11_116 (c_rowAtM ha (by omega) rfl) dX11_gone_79 l83 rfl rfl rfl (Nat.le_of_ble_eq_true rfl) (Nat.le_of_ble_eq_true rfl) (Nat.le_of_ble_eq_true rfl) ?_
        refine x_callVb (as := [_]) (rest := []) vX11_208 (c_X11_isPlace (w := fun _ => 0) hI hO) dX11_gone_82 l83 rfl rfl rfl (Nat.le_of_ble_eq_true rfl) (Nat.le_of_ble_eq_true rfl) (Nat.le_of_ble_eq_true rfl) (fun c_82 => ?_) (fun c_82 => ?_)
        · refine x_istore_n (lv' := [(2, _), (3, _), (0, _), (1, _)]) dX11_gone_85 rfl (by decide) rfl ?_
          refine y_iinc (lv' := [(3, _), (2, _), (0, _), (1, _)]) 1 dX11_gone_86 rfl (by decide) rfl ?_
          refine x_goto 63 dX11_gone_89 (by decide) ?_
          refine x_pick (lv' := [(3, _), (2, _), (0, _), (1, _)]) [0, 1, 2, 3] rfl ?_
          exact ih (iM I - (k + 1)) (by omega) (k + 1) 1 rfl (by omega) (Or.inl ⟨rfl, (hpx c_72).1, fun t ht => by rcases Nat.lt_succ_iff_lt_or_eq.mp ht with h | h; exact (hpx c_72).2 t h; subst h; exact c_82⟩)
        · refine x_istore_n (lv' := [(2, _), (3, _), (0, _), (1, _)]) dX11_gone_85 rfl (by decide) rfl ?_
          refine y_iinc (lv' := [(3, _), (2, _), (0, _), (1, _)]) 1 dX11_gone_86 rfl (by decide) rfl ?_
          refine x_goto 63 dX11_gone_89 (by decide) ?_
          refine x_pick (lv' := [(3, _), (2, _), (0, _), (1, _)]) [0, 1, 2, 3] rfl ?_
          exact ih (iM I - (k + 1)) (by omega) (k + 1) 0 rfl (by omega) (Or.inr ⟨rfl, fun h => c_82 (h.2 k (by omega))⟩)

set_option maxHeartbeats 4000000 in
set_option maxRecDepth 100000 in
theorem c_X11_gone {S : St} {I : Isl} (hI : IsM I S) (hO : IOK I) (hS : RwM S) {x : Int32} : C 3 90 yX11_gone mX11_gone [.ref 83, .int x] S (qi (i5 (¬ (0 ≤ x.toInt ∧ x.toInt < 6)) ((S.1 85 (tn x)).toInt < 0) (¬ (S.1 85 (tn x)).toInt = (iM I : Int) + 1) (¬ goodG I (fun t => S.1 86 (60 * tn x + t))) (an (-1) S) (an (-3) (fndM S 1)) (an (-3) (fndM S 5)) (fun r S' => r = -3 ∧ ∃ S2, F97 S S2 ∧ S' = fndM S2 3) (an (nI 1) (setI (setI (bcN (rwS S 97 0 (iM I) (fun t => S.1 86 (60 * tn x + t))) (iM I)) 83 29 (nI 0)) 83 17 (S.1 86 (60 * tn x + iM I)))))) := by
  have n0 : (nI 0).toInt = 0 := rfl
  have n1 : (nI 1).toInt = 1 := rfl
  have n3 : (nI 3).toInt = 3 := rfl
  have n5 : (nI 5).toInt = 5 := rfl
  have n7 : (nI 7).toInt = 7 := rfl
  have n2 : (nI 2).toInt = 2 := rfl
  have n6 : (nI 6).toInt = 6 := rfl
  have hO1 := hO.1
  have hO2 := hO.2.1
  have hO3 := hO.2.2.1
  have hO4 := hO.2.2.2.1
  refine C.ofX (by decide) rfl (Nat.le_of_ble_eq_true rfl) ?_
  show X 3 90 mX11_gone (qi (i5 (¬ (0 ≤ x.toInt ∧ x.toInt < 6)) ((S.1 85 (tn x)).toInt < 0) (¬ (S.1 85 (tn x)).toInt = (iM I : Int) + 1) (¬ goodG I (fun t => S.1 86 (60 * tn x + t))) (an (-1) S) (an (-3) (fndM S 1)) (an (-3) (fndM S 5)) (fun r S' => r = -3 ∧ ∃ S2, F97 S S2 ∧ S' = fndM S2 3) (an (nI 1) (setI (setI (bcN (rwS S 97 0 (iM I) (fun t => S.1 86 (60 * tn x + t))) (iM I)) 83 29 (nI 0)) 83 17 (S.1 86 (60 * tn x + iM I)))))) 0 [(0, .ref 83), (1, .int x)] [] S
  refine x_iload_n 1 dX11_gone_0 rfl rfl ?_
  refine x_callSb (as := [_]) (rest := []) sX11_108 c_X11_isRow dX11_gone_1 rfl rfl (Nat.le_of_ble_eq_true rfl) (Nat.le_of_ble_eq_true rfl) (Nat.le_of_ble_eq_true rfl) (fun c_1 => ?_) (fun c_1 => ?_)
  · refine t_if_ne 9 dX11_gone_4 (by decide) (by decide) ?_
    obtain ⟨a, ha, rfl⟩ := nI_ex (x := x) (n := 6) (by omega) (by omega)
    have ea : (nI a).toInt = (a : Int) := tiN (by omega)
    have ta : tn (nI a) = a := tnN (by omega)
    refine x_aload_n 0 dX11_gone_9 rfl rfl ?_
    refine x_getR fX11_13 dX11_gone_10 l83 rfl ?_
    refine x_iload_n 1 dX11_gone_13 rfl rfl ?_
    refine y_iald dX11_gone_14 l85 (by omega) (by decide) rfl ?_
    refine x_if_ge 24 dX11_gone_15 (by decide) (fun c_15 => ?_) (fun c_15 => ?_)
    · obtain ⟨z, hz, ez⟩ := hS.r ha (by omega)
      have ezi : (nI z).toInt = (z : Int) := tiN (by omega)
      refine x_aload_n 0 dX11_gone_24 rfl rfl ?_
      refine x_getR fX11_13 dX11_gone_25 l83 rfl ?_
      refine x_iload_n 1 dX11_gone_28 rfl rfl ?_
      refine y_iald dX11_gone_29 l85 (by omega) (by decide) ez ?_
      refine x_aload_n 0 dX11_gone_30 rfl rfl ?_
      refine y_getI fX11_181 dX11_gone_31 l83 rfl hI.2.1 ?_
      refine x_iconst (v := nI 1) dX11_gone_34 (by decide) ?_
      refine y_iadd dX11_gone_35 ?_
      refine y_ic_eq 45 dX11_gone_36 (by decide) (by omega) (by omega) (fun c_36 => ?_) (fun c_36 => ?_)
      · refine x_aload_n 0 dX11_gone_45 rfl rfl ?_
        refine x_iload_n 1 dX11_gone_46 rfl rfl ?_
        refine x_aload_n 0 dX11_gone_47 rfl rfl ?_
        refine y_getI fX11_181 dX11_gone_48 l83 rfl hI.2.1 ?_
        refine x_callVu (as := [_, _]) (rest := []) vX11_116 (c_rowAtM ha (by omega) rfl) dX11_gone_51 l83 rfl rfl rfl (Nat.le_of_ble_eq_true rfl) (Nat.le_of_ble_eq_true rfl) (Nat.le_of_ble_eq_true rfl) ?_
        refine x_iconst (v := nI 1) dX11_gone_54 (by decide) ?_
        refine x_bipush (v := nI 6) dX11_gone_55 (by decide) ?_
        refine x_callSb (as := [_, _, _]) (rest := []) sX11_98 c_X11_in dX11_gone_57 rfl rfl (Nat.le_of_ble_eq_true rfl) (Nat.le_of_ble_eq_true rfl) (Nat.le_of_ble_eq_true rfl) (fun c_57 => ?_) (fun c_57 => ?_)
        · refine x_istore_n (lv' := [(2, _), (0, _), (1, _)]) dX11_gone_60 rfl (by decide) rfl ?_
          refine x_iconst (v := nI 0) dX11_gone_61 (by decide) ?_
          refine x_istore_n (lv' := [(3, _), (2, _), (0, _), (1, _)]) dX11_gone_62 rfl (by decide) rfl ?_
          refine x_pick (lv' := [(3, _), (2, _), (0, _), (1, _)]) [0, 1, 2, 3] rfl ?_
          have hh := lp_goneM2 hI hO ha 0 1 (Nat.zero_le _) (Or.inl ⟨rfl, ⟨by omega, by omega⟩, fun t ht => absurd ht (Nat.not_lt_zero t)⟩)
          refine hh.mono (fun v S' hq => ?_)
          obtain ⟨r, rfl, hr⟩ := hq
          simp only [ta, ez]
          by_cases hg : goodG I (fun t => S.1 86 (60 * a + t))
          · rw [e2_1 (fun q => q hg)] at hr
            exact q5_4 (by omega) (by omega) (by omega) (fun q => q hg) hr
          · rw [e2_0 hg] at hr
            exact q5_3 (by omega) (by omega) (by omega) hg hr
        · refine x_istore_n (lv' := [(2, _), (0, _), (1, _)]) dX11_gone_60 rfl (by decide) rfl ?_
          refine x_iconst (v := nI 0) dX11_gone_61 (by decide) ?_
          refine x_istore_n (lv' := [(3, _), (2, _), (0, _), (1, _)]) dX11_gone_62 rfl (by decide) rfl ?_
          refine x_pick (lv' := [(3, _), (2, _), (0, _), (1, _)]) [0, 1, 2, 3] rfl ?_
          have hh := lp_goneM2 hI hO ha 0 0 (Nat.zero_le _) (Or.inr ⟨rfl, fun h => by have h1 := h.1; omega⟩)
          refine hh.mono (fun v S' hq => ?_)
          obtain ⟨r, rfl, hr⟩ := hq
          simp only [ta, ez]
          by_cases hg : goodG I (fun t => S.1 86 (60 * a + t))
          · rw [e2_1 (fun q => q hg)] at hr
            exact q5_4 (by omega) (by omega) (by omega) (fun q => q hg) hr
          · rw [e2_0 hg] at hr
            exact q5_3 (by omega) (by omega) (by omega) hg hr
      · refine x_aload_n 0 dX11_gone_39 rfl rfl ?_
        refine x_iconst (v := nI 5) dX11_gone_40 (by decide) ?_
        refine x_callVu (as := [_]) (rest := []) vX11_112 (c_X11_meets (by decide)) dX11_gone_41 l83 rfl rfl rfl (Nat.le_of_ble_eq_true rfl) (Nat.le_of_ble_eq_true rfl) (Nat.le_of_ble_eq_true rfl) ?_
        refine x_iret rfl dX11_gone_44 (by simp only [ta, ez]; exact q5_2 (by omega) (by omega) (by omega) ⟨rfl, rfl⟩)
    · refine x_aload_n 0 dX11_gone_18 rfl rfl ?_
      refine x_iconst (v := nI 1) dX11_gone_19 (by decide) ?_
      refine x_callVu (as := [_]) (rest := []) vX11_112 (c_X11_meets (by decide)) dX11_gone_20 l83 rfl rfl rfl (Nat.le_of_ble_eq_true rfl) (Nat.le_of_ble_eq_true rfl) (Nat.le_of_ble_eq_true rfl) ?_
      refine x_iret rfl dX11_gone_23 (by simp only [ta]; exact q5_1 (by omega) (by omega) ⟨rfl, rfl⟩)
  · refine u_if_ne 9 dX11_gone_4 (by decide) (by decide) ?_
    refine x_iconst (v := -1) dX11_gone_7 (by decide) ?_
    refine x_iret rfl dX11_gone_8 (q5_0 c_1 ⟨rfl, rfl⟩)
