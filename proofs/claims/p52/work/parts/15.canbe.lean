def VB (I : Isl) (w : Nat → Nat) (L : Nat) : Prop := (∀ t, t < iM I → (livK (iK I t) → w t < 4) ∧ (bagK (iK I t) → w t ≤ 4)) ∧ (∀ b, b < iB I → insF I w b ≤ rm (iK I (iG I b))) ∧ ∀ p, p < iP I → loadF I w p ≤ L
/-- a boolean answer, cells outside R as they were -/
def qb (P : Prop) (R : Nat → Prop) (S : St) : Option Value → St → Prop := qi (fun r S' => Fr R S S' ∧ ((r = 1 ∧ P) ∨ (r = 0 ∧ ¬ P)))

set_option maxHeartbeats 4000000 in
set_option maxRecDepth 100000 in
theorem lp_canBe71 {S : St} {k : Nat} {I : Isl} {w : Nat → Nat} (hk : isPl k) (hI : IsX 11 I S) (hO : IOK I) (hP : PlW k I w S) {L : Nat} (hL : S.1 k 5 = nI L) (hL7 : L ≤ 10) (hb : ∀ t, t < iM I → w t < 5 + iB I) (hv1 : ∀ t, t < iM I → (livK (iK I t) → w t < 4) ∧ (bagK (iK I t) → w t ≤ 4)) : ∀ (i : Nat), (∀ b, b < i → insF I w b ≤ rm (iK I (iG I b))) → (i ≤ iB I) → X 2 60 mX3_canBe (qb (VB I w L) (fun a => k + 2 ≤ a ∧ a ≤ k + 4) S) 71 [(1, .int (nI i)), (0, .ref k)] [] (tlP S k I w (iM I)) := by
  intro i
  induction hm : iB I - i using Nat.strongRecOn generalizing i with
  | _ mm ih =>
    intro hv2 hi
    have hO1 := hO.1
    have hO2 := hO.2.1
    have hO3 := hO.2.2.1
    have hO4 := hO.2.2.2.1
    have hg := hk.g
    have hT := tlP_T hP
    have hI1 : IsX 11 I (tlP S k I w (iM I)) := hI.keep (fun a h1 h2 b => tlP_k (by omega))
    have hin := insF_le I hO w i
    have hrm := rm_le (iK I (iG I i))
    have hgi := fun h => (hO.2.2.2.2.2.1 i h).1
    have hhv : hvF I w ≤ 10 := mx_le (fun p _ => loadF_le I hO w p)
    have hL1 : (tlP S k I w (iM I)).1 k 5 = nI L := (tlP_k (by omega)).trans hL
    refine x_iload_n 0 dX3_canBe_71 rfl rfl ?_
    refine x_aload_n 1 dX3_canBe_72 rfl rfl ?_
    refine x_getR fX3_28 dX3_canBe_73 hk.l0 rfl ?_
    refine y_getI fX3_69 dX3_canBe_76 l11 rfl hI1.2.2.2.1 ?_
    refine y_ic_ge 116 dX3_canBe_79 (by decide) (by omega) (by omega) (fun c_79 => ?_) (fun c_79 => ?_)
    · refine x_aload_n 1 dX3_canBe_116 rfl rfl ?_
      refine x_callVu (as := []) (rest := []) vX3_103 (c_X3_heaviest hk hI1 hO hT) dX3_canBe_117 hk.l0 rfl rfl rfl (Nat.le_of_ble_eq_true rfl) (Nat.le_of_ble_eq_true rfl) (Nat.le_of_ble_eq_true rfl) ?_
      refine x_aload_n 1 dX3_canBe_120 rfl rfl ?_
      refine y_getI fX3_24 dX3_canBe_121 hk.l0 rfl hL1 ?_
      refine y_ic_gt 131 dX3_canBe_124 (by decide) (by omega) (by omega) (fun c_124 => ?_) (fun c_124 => ?_)
      · refine x_iconst (v := nI 0) dX3_canBe_131 (by decide) ?_
        refine x_zret rfl dX3_canBe_132 (by decide) ⟨_, rfl, ⟨rfl, fun a ha b => tlP_k ha⟩, Or.inr ⟨rfl, fun h => Nat.not_lt.mpr (mx_iff.mpr h.2.2 : hvF I w ≤ L) c_124⟩⟩
      · refine x_iconst (v := nI 1) dX3_canBe_127 (by decide) ?_
        refine x_goto 132 dX3_canBe_128 (by decide) ?_
        refine x_zret rfl dX3_canBe_132 (by decide) ⟨_, rfl, ⟨rfl, fun a ha b => tlP_k ha⟩, Or.inl ⟨rfl, hv1, (fun b hb2 => hv2 b (by omega)), fun p hp => Nat.le_trans (mx_iff.mp (Nat.le_refl (hvF I w)) p hp) c_124⟩⟩
    · refine x_aload_n 1 dX3_canBe_82 rfl rfl ?_
      refine x_getR fX3_21 dX3_canBe_83 hk.l0 rfl ?_
      refine x_iload_n 0 dX3_canBe_86 rfl rfl ?_
      refine y_iald dX3_canBe_87 hk.l4 (by omega) (by decide) (hT.2.2.2 i (by omega)) ?_
      refine x_aload_n 1 dX3_canBe_88 rfl rfl ?_
      refine x_getR fX3_28 dX3_canBe_89 hk.l0 rfl ?_
      refine x_getR fX3_97 dX3_canBe_92 l11 rfl ?_
      refine x_aload_n 1 dX3_canBe_95 rfl rfl ?_
      refine x_getR fX3_28 dX3_canBe_96 hk.l0 rfl ?_
      refine x_getR fX3_72 dX3_canBe_99 l11 rfl ?_
      refine x_iload_n 0 dX3_canBe_102 rfl rfl ?_
      refine y_iald dX3_canBe_103 l16 (by omega) (by decide) (hI1.2.2.2.2.2.1 i (by omega)) ?_
      refine y_iald dX3_canBe_104 l15 (by have := hgi (by omega); omega) (by decide) (hI1.2.2.2.2.1 _ (hgi (by omega))).2.2.2 ?_
      refine y_ic_le 110 dX3_canBe_105 (by decide) (by omega) (by omega) (fun c_105 => ?_) (fun c_105 => ?_)
      · refine y_iinc (lv' := [(1, _), (0, _)]) 0 dX3_canBe_110 rfl (by decide) rfl ?_
        refine x_goto 71 dX3_canBe_113 (by decide) ?_
        refine x_pick (lv' := [(1, _), (0, _)]) [0, 1] rfl ?_
        exact ih (iB I - (i + 1)) (by omega) (i + 1) rfl (fun b h => by rcases Nat.lt_succ_iff_lt_or_eq.mp h with h | h; exact hv2 b h; subst h; exact c_105) (by omega)
      · refine x_iconst (v := nI 0) dX3_canBe_108 (by decide) ?_
        refine x_zret rfl dX3_canBe_109 (by decide) ⟨_, rfl, ⟨rfl, fun a ha b => tlP_k ha⟩, Or.inr ⟨rfl, fun h => absurd (h.2.1 i (by omega)) (by omega)⟩⟩

set_option maxHeartbeats 4000000 in
set_option maxRecDepth 100000 in
theorem lp_canBe2 {S : St} {k : Nat} {I : Isl} {w : Nat → Nat} (hk : isPl k) (hI : IsX 11 I S) (hO : IOK I) (hP : PlW k I w S) {L : Nat} (hL : S.1 k 5 = nI L) (hL7 : L ≤ 10) (hb : ∀ t, t < iM I → w t < 5 + iB I)  : ∀ (i : Nat), (∀ t, t < i → (livK (iK I t) → w t < 4) ∧ (bagK (iK I t) → w t ≤ 4)) → (i ≤ iM I) → X 2 60 mX3_canBe (qb (VB I w L) (fun a => k + 2 ≤ a ∧ a ≤ k + 4) S) 2 [(1, .int (nI i)), (0, .ref k)] [] S := by
  intro i
  induction hm : iM I - i using Nat.strongRecOn generalizing i with
  | _ mm ih =>
    intro hv hi
    have hO1 := hO.1
    have hO2 := hO.2.1
    have hO3 := hO.2.2.1
    have hO4 := hO.2.2.2.1
    have hbi := hb i
    refine x_iload_n 0 dX3_canBe_2 rfl rfl ?_
    refine x_aload_n 1 dX3_canBe_3 rfl rfl ?_
    refine x_getR fX3_28 dX3_canBe_4 hk.l0 rfl ?_
    refine y_getI fX3_46 dX3_canBe_7 l11 rfl hI.2.1 ?_
    refine y_ic_ge 65 dX3_canBe_10 (by decide) (by omega) (by omega) (fun c_10 => ?_) (fun c_10 => ?_)
    · have hv1 : ∀ t, t < iM I → (livK (iK I t) → w t < 4) ∧ (bagK (iK I t) → w t ≤ 4) := fun t ht => hv t (by omega)
      have hw : WOK I w := ⟨hb, fun b hbb => by obtain ⟨h1, h2⟩ := hO.2.2.2.2.2.1 b hbb; exact (hv1 _ h1).2 h2⟩
      refine x_aload_n 1 dX3_canBe_65 rfl rfl ?_
      refine x_callVv (as := []) (rest := []) vX3_43 (c_X3_tally hk hI hO hP hw) dX3_canBe_66 hk.l0 rfl rfl rfl (Nat.le_of_ble_eq_true rfl) (Nat.le_of_ble_eq_true rfl) (Nat.le_of_ble_eq_true rfl) ?_
      refine x_iconst (v := nI 0) dX3_canBe_69 (by decide) ?_
      refine x_istore_n (lv' := [(1, _), (0, _)]) dX3_canBe_70 rfl (by decide) rfl ?_
      exact lp_canBe71 hk hI hO hP hL hL7 hb hv1 0 (fun b h => absurd h (Nat.not_lt_zero b)) (Nat.zero_le _)
    · refine x_aload_n 1 dX3_canBe_13 rfl rfl ?_
      refine x_getR fX3_28 dX3_canBe_14 hk.l0 rfl ?_
      refine x_iload_n 0 dX3_canBe_17 rfl rfl ?_
      refine x_callVb (as := [_]) (rest := []) vX3_87 (c_X1_isLiving hI hO (by omega)) dX3_canBe_18 l11 rfl rfl rfl (Nat.le_of_ble_eq_true rfl) (Nat.le_of_ble_eq_true rfl) (Nat.le_of_ble_eq_true rfl) (fun c_18 => ?_) (fun c_18 => ?_)
      · refine u_if_eq 36 dX3_canBe_21 (by decide) (by decide) ?_
        refine x_aload_n 1 dX3_canBe_24 rfl rfl ?_
        refine x_getR fX3_9 dX3_canBe_25 hk.l0 rfl ?_
        refine x_iload_n 0 dX3_canBe_28 rfl rfl ?_
        refine y_iald dX3_canBe_29 hk.l1 (by omega) (by decide) (hP i (by omega)) ?_
        refine x_iconst (v := nI 4) dX3_canBe_30 (by decide) ?_
        refine y_ic_lt 36 dX3_canBe_31 (by decide) (by omega) (by omega) (fun c_31 => ?_) (fun c_31 => ?_)
        · refine x_aload_n 1 dX3_canBe_36 rfl rfl ?_
          refine x_getR fX3_28 dX3_canBe_37 hk.l0 rfl ?_
          refine x_iload_n 0 dX3_canBe_40 rfl rfl ?_
          refine x_callVb (as := [_]) (rest := []) vX3_91 (c_X1_isBag (Or.inl rfl) hI hO (by omega)) dX3_canBe_41 l11 rfl rfl rfl (Nat.le_of_ble_eq_true rfl) (Nat.le_of_ble_eq_true rfl) (Nat.le_of_ble_eq_true rfl) (fun c_41 => ?_) (fun c_41 => ?_)
          · refine u_if_eq 59 dX3_canBe_44 (by decide) (by decide) ?_
            refine x_aload_n 1 dX3_canBe_47 rfl rfl ?_
            refine x_getR fX3_9 dX3_canBe_48 hk.l0 rfl ?_
            refine x_iload_n 0 dX3_canBe_51 rfl rfl ?_
            refine y_iald dX3_canBe_52 hk.l1 (by omega) (by decide) (hP i (by omega)) ?_
            refine x_iconst (v := nI 5) dX3_canBe_53 (by decide) ?_
            refine y_ic_lt 59 dX3_canBe_54 (by decide) (by omega) (by omega) (fun c_54 => ?_) (fun c_54 => ?_)
            · refine y_iinc (lv' := [(1, _), (0, _)]) 0 dX3_canBe_59 rfl (by decide) rfl ?_
              refine x_goto 2 dX3_canBe_62 (by decide) ?_
              refine x_pick (lv' := [(1, _), (0, _)]) [0, 1] rfl ?_
              exact ih (iM I - (i + 1)) (by omega) (i + 1) rfl (fun t h => by rcases Nat.lt_succ_iff_lt_or_eq.mp h with h | h; exact hv t h; subst h; exact ⟨fun q => by first | exact absurd q c_18 | omega, fun q => by first | exact absurd q c_41 | omega⟩) (by omega)
            · refine x_iconst (v := nI 0) dX3_canBe_57 (by decide) ?_
              refine x_zret rfl dX3_canBe_58 (by decide) ⟨_, rfl, ⟨rfl, fun _ _ _ => rfl⟩, Or.inr ⟨rfl, fun h => absurd ((h.1 i (by omega)).2 c_41) (by omega)⟩⟩
          · refine t_if_eq 59 dX3_canBe_44 (by decide) (by decide) ?_
            refine y_iinc (lv' := [(1, _), (0, _)]) 0 dX3_canBe_59 rfl (by decide) rfl ?_
            refine x_goto 2 dX3_canBe_62 (by decide) ?_
            refine x_pick (lv' := [(1, _), (0, _)]) [0, 1] rfl ?_
            exact ih (iM I - (i + 1)) (by omega) (i + 1) rfl (fun t h => by rcases Nat.lt_succ_iff_lt_or_eq.mp h with h | h; exact hv t h; subst h; exact ⟨fun q => by first | exact absurd q c_18 | omega, fun q => by first | exact absurd q c_41 | omega⟩) (by omega)
        · refine x_iconst (v := nI 0) dX3_canBe_34 (by decide) ?_
          refine x_zret rfl dX3_canBe_35 (by decide) ⟨_, rfl, ⟨rfl, fun _ _ _ => rfl⟩, Or.inr ⟨rfl, fun h => absurd ((h.1 i (by omega)).1 c_18) (by omega)⟩⟩
      · refine t_if_eq 36 dX3_canBe_21 (by decide) (by decide) ?_
        refine x_aload_n 1 dX3_canBe_36 rfl rfl ?_
        refine x_getR fX3_28 dX3_canBe_37 hk.l0 rfl ?_
        refine x_iload_n 0 dX3_canBe_40 rfl rfl ?_
        refine x_callVb (as := [_]) (rest := []) vX3_91 (c_X1_isBag (Or.inl rfl) hI hO (by omega)) dX3_canBe_41 l11 rfl rfl rfl (Nat.le_of_ble_eq_true rfl) (Nat.le_of_ble_eq_true rfl) (Nat.le_of_ble_eq_true rfl) (fun c_41 => ?_) (fun c_41 => ?_)
        · refine u_if_eq 59 dX3_canBe_44 (by decide) (by decide) ?_
          refine x_aload_n 1 dX3_canBe_47 rfl rfl ?_
          refine x_getR fX3_9 dX3_canBe_48 hk.l0 rfl ?_
          refine x_iload_n 0 dX3_canBe_51 rfl rfl ?_
          refine y_iald dX3_canBe_52 hk.l1 (by omega) (by decide) (hP i (by omega)) ?_
          refine x_iconst (v := nI 5) dX3_canBe_53 (by decide) ?_
          refine y_ic_lt 59 dX3_canBe_54 (by decide) (by omega) (by omega) (fun c_54 => ?_) (fun c_54 => ?_)
          · refine y_iinc (lv' := [(1, _), (0, _)]) 0 dX3_canBe_59 rfl (by decide) rfl ?_
            refine x_goto 2 dX3_canBe_62 (by decide) ?_
            refine x_pick (lv' := [(1, _), (0, _)]) [0, 1] rfl ?_
            exact ih (iM I - (i + 1)) (by omega) (i + 1) rfl (fun t h => by rcases Nat.lt_succ_iff_lt_or_eq.mp h with h | h; exact hv t h; subst h; exact ⟨fun q => by first | exact absurd q c_18 | omega, fun q => by first | exact absurd q c_41 | omega⟩) (by omega)
          · refine x_iconst (v := nI 0) dX3_canBe_57 (by decide) ?_
            refine x_zret rfl dX3_canBe_58 (by decide) ⟨_, rfl, ⟨rfl, fun _ _ _ => rfl⟩, Or.inr ⟨rfl, fun h => absurd ((h.1 i (by omega)).2 c_41) (by omega)⟩⟩
        · refine t_if_eq 59 dX3_canBe_44 (by decide) (by decide) ?_
          refine y_iinc (lv' := [(1, _), (0, _)]) 0 dX3_canBe_59 rfl (by decide) rfl ?_
          refine x_goto 2 dX3_canBe_62 (by decide) ?_
          refine x_pick (lv' := [(1, _), (0, _)]) [0, 1] rfl ?_
          exact ih (iM I - (i + 1)) (by omega) (i + 1) rfl (fun t h => by rcases Nat.lt_succ_iff_lt_or_eq.mp h with h | h; exact hv t h; subst h; exact ⟨fun q => by first | exact absurd q c_18 | omega, fun q => by first | exact absurd q c_41 | omega⟩) (by omega)

set_option maxHeartbeats 4000000 in
set_option maxRecDepth 100000 in
theorem c_X3_canBe {S : St} {k : Nat} {I : Isl} {w : Nat → Nat} (hk : isPl k) (hI : IsX 11 I S) (hO : IOK I) (hP : PlW k I w S) {L : Nat} (hL : S.1 k 5 = nI L) (hL7 : L ≤ 10) (hb : ∀ t, t < iM I → w t < 5 + iB I)  : C 2 60 yX3_canBe mX3_canBe [.ref k] S (qb (VB I w L) (fun a => k + 2 ≤ a ∧ a ≤ k + 4) S) := by
  refine C.ofX (by decide) rfl (Nat.le_of_ble_eq_true rfl) ?_
  show X 2 60 mX3_canBe (qb (VB I w L) (fun a => k + 2 ≤ a ∧ a ≤ k + 4) S) 0 [(0, .ref k)] [] S
  refine x_iconst (v := nI 0) dX3_canBe_0 (by decide) ?_
  refine x_istore_n (lv' := [(1, _), (0, _)]) dX3_canBe_1 rfl (by decide) rfl ?_
  refine x_pick (lv' := [(1, _), (0, _)]) [0, 1] rfl ?_
  exact lp_canBe2 hk hI hO hP hL hL7 hb 0 (fun t h => absurd h (Nat.not_lt_zero t)) (Nat.zero_le _)

