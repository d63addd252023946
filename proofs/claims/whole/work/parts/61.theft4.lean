/-! ===== theft, thefts: the reference ===== -/

set_option maxHeartbeats 400000 in
set_option maxRecDepth 100000 in
theorem c_X11_steals {S : St} {I : Isl} (hI : IsM I S) (hO : IOK I) {w : Nat → Nat} (hw : WOK I w) (hw0 : MW I w S) {L : Nat} (hL : S.1 83 17 = nI L) (hL7 : L ≤ 6) {p s : Nat} (hpp : p < iP I) (hs : s < 7 * iM I)  : C 4 120 yX11_steals mX11_steals [.ref 83, .int (nI p), .int (nI s)] S (qi (fun r S' => FrG S S' ∧ ((r = nI 1 ∧ thB I L p w s ∧ MW I (thW I L p w s) S') ∨ (r = nI 0 ∧ ¬ thB I L p w s)))) := by
  have hO1 := hO.1
  have hO2 := hO.2.1
  have hO3 := hO.2.2.1
  have hO4 := hO.2.2.2.1
  have hw7 := hw.w7 hO
  have ht : s / 7 < iM I := by omega
  have hwt7 := hw7 (s / 7) ht
  have hk5 := hO.2.2.2.2.1 (s / 7) ht
  have tt : (nI (s % 7)).toInt = ((s % 7 : Nat) : Int) := tiN (by omega)
  refine C.ofX (by decide) rfl (Nat.le_of_ble_eq_true rfl) ?_
  show X 4 120 mX11_steals (qi (fun r S' => FrG S S' ∧ ((r = nI 1 ∧ thB I L p w s ∧ MW I (thW I L p w s) S') ∨ (r = nI 0 ∧ ¬ thB I L p w s)))) 0 [(0, .ref 83), (1, .int (nI p)), (2, .int (nI s))] [] S
  refine x_iload_n 2 dX11_steals_0 rfl rfl ?_
  refine x_bipush (v := nI 7) dX11_steals_1 (by decide) ?_
  refine y_idiv dX11_steals_3 (by omega) (by omega) (by omega) ?_
  refine x_istore_n (lv' := [(3, _), (0, _), (1, _), (2, _)]) dX11_steals_4 rfl (by decide) rfl ?_
  refine x_iload_n 3 dX11_steals_5 rfl rfl ?_
  refine x_bipush (v := nI 7) dX11_steals_6 (by decide) ?_
  refine y_irem dX11_steals_8 (by omega) (by omega) (by omega) ?_
  refine x_istore (lv' := [(4, _), (3, _), (0, _), (1, _), (2, _)]) dX11_steals_9 (by decide) rfl ?_
  refine x_aload_n 2 dX11_steals_11 rfl rfl ?_
  refine x_iload 0 dX11_steals_12 rfl ?_
  refine x_callVb (as := [_]) (rest := []) vX11_196 (c_X11_isOne (w := w) hI hO) dX11_steals_14 l83 rfl rfl rfl (Nat.le_of_ble_eq_true rfl) (Nat.le_of_ble_eq_true rfl) (Nat.le_of_ble_eq_true rfl) (fun c_14 => ?_) (fun c_14 => ?_)
  · refine u_if_eq 35 dX11_steals_17 (by decide) (by decide) ?_
    refine x_iload 0 dX11_steals_20 rfl ?_
    refine x_iload_n 3 dX11_steals_22 rfl rfl ?_
    refine y_ic_eq 35 dX11_steals_23 (by decide) (by omega) (by omega) (fun c_23 => ?_) (fun c_23 => ?_)
    · refine x_iload 0 dX11_steals_35 rfl ?_
      refine x_iload_n 3 dX11_steals_37 rfl rfl ?_
      refine y_ic_ne 68 dX11_steals_38 (by decide) (by omega) (by omega) (fun c_38 => ?_) (fun c_38 => ?_)
      · refine x_iload 0 dX11_steals_68 rfl ?_
        refine x_iconst (v := nI 4) dX11_steals_70 (by decide) ?_
        refine y_ic_ne 100 dX11_steals_71 (by decide) (by omega) (by omega) (fun c_71 => ?_) (fun c_71 => ?_)
        · refine x_iconst (v := nI 0) dX11_steals_100 (by decide) ?_
          refine x_istore (lv' := [(5, _), (4, _), (3, _), (0, _), (1, _), (2, _)]) dX11_steals_101 (by decide) rfl ?_
          refine x_aload_n 3 dX11_steals_103 rfl rfl ?_
          refine x_getR fX11_50 dX11_steals_104 l83 rfl ?_
          refine x_iload_n 2 dX11_steals_107 rfl rfl ?_
          refine x_iload 0 dX11_steals_108 rfl ?_
          refine y_if_eq 118 dX11_steals_110 (by decide) (by omega) (fun c_110 => ?_) (fun c_110 => ?_)
          · refine x_aload_n 3 dX11_steals_118 rfl rfl ?_
            refine x_getR fX11_50 dX11_steals_119 l83 rfl ?_
            refine x_iload_n 2 dX11_steals_122 rfl rfl ?_
            refine y_iald dX11_steals_123 l97 (by omega) (by decide) (hw0 _ ht) ?_
            refine y_iast dX11_steals_124 l97 (by omega) (by decide) ?_
            refine x_iload 0 dX11_steals_125 rfl ?_
            refine x_zret rfl dX11_steals_127 (by decide) (by
              first
              | (exfalso; omega)
              | (refine ⟨_, rfl, ⟨rfl, fun a b h1 _ => rdI_k h1⟩, Or.inr ⟨rfl, fun k => ?_⟩⟩
                 unfold thB at k
                 rcases k with k | k | k
                 · first | exact c_14 (by omega) | omega
                 · first | exact c_54 k.2.2 | omega
                 · first | exact k.2.2 c_90 | omega))
          · refine x_iload 1 dX11_steals_113 rfl ?_
            refine x_goto 124 dX11_steals_115 (by decide) ?_
            refine y_iast dX11_steals_124 l97 (by omega) (by decide) ?_
            refine x_iload 0 dX11_steals_125 rfl ?_
            refine x_zret rfl dX11_steals_127 (by decide) (by
              first
              | (exfalso; omega)
              | (refine ⟨_, rfl, ⟨rfl, fun a b h1 _ => rdI_k h1⟩, Or.inr ⟨rfl, fun k => ?_⟩⟩
                 unfold thB at k
                 rcases k with k | k | k
                 · first | exact c_14 (by omega) | omega
                 · first | exact c_54 k.2.2 | omega
                 · first | exact k.2.2 c_90 | omega))
        · refine x_aload_n 2 dX11_steals_74 rfl rfl ?_
          refine x_getR fX11_50 dX11_steals_75 l83 rfl ?_
          refine x_iload_n 1 dX11_steals_78 rfl rfl ?_
          refine y_iald dX11_steals_79 l97 (by omega) (by decide) (hw0 _ ht) ?_
          refine x_iload_n 3 dX11_steals_80 rfl rfl ?_
          refine y_ic_ne 100 dX11_steals_81 (by decide) (by omega) (by omega) (fun c_81 => ?_) (fun c_81 => ?_)
          · refine x_iconst (v := nI 0) dX11_steals_100 (by decide) ?_
            refine x_istore (lv' := [(5, _), (4, _), (3, _), (0, _), (1, _), (2, _)]) dX11_steals_101 (by decide) rfl ?_
            refine x_aload_n 3 dX11_steals_103 rfl rfl ?_
            refine x_getR fX11_50 dX11_steals_104 l83 rfl ?_
            refine x_iload_n 2 dX11_steals_107 rfl rfl ?_
            refine x_iload 0 dX11_steals_108 rfl ?_
            refine y_if_eq 118 dX11_steals_110 (by decide) (by omega) (fun c_110 => ?_) (fun c_110 => ?_)
            · refine x_aload_n 3 dX11_steals_118 rfl rfl ?_
              refine x_getR fX11_50 dX11_steals_119 l83 rfl ?_
              refine x_iload_n 2 dX11_steals_122 rfl rfl ?_
              refine y_iald dX11_steals_123 l97 (by omega) (by decide) (hw0 _ ht) ?_
              refine y_iast dX11_steals_124 l97 (by omega) (by decide) ?_
              refine x_iload 0 dX11_steals_125 rfl ?_
              refine x_zret rfl dX11_steals_127 (by decide) (by
                first
                | (exfalso; omega)
                | (refine ⟨_, rfl, ⟨rfl, fun a b h1 _ => rdI_k h1⟩, Or.inr ⟨rfl, fun k => ?_⟩⟩
                   unfold thB at k
                   rcases k with k | k | k
                   · first | exact c_14 (by omega) | omega
                   · first | exact c_54 k.2.2 | omega
                   · first | exact k.2.2 c_90 | omega))
            · refine x_iload 1 dX11_steals_113 rfl ?_
              refine x_goto 124 dX11_steals_115 (by decide) ?_
              refine y_iast dX11_steals_124 l97 (by omega) (by decide) ?_
              refine x_iload 0 dX11_steals_125 rfl ?_
              refine x_zret rfl dX11_steals_127 (by decide) (by
                first
                | (exfalso; omega)
                | (refine ⟨_, rfl, ⟨rfl, fun a b h1 _ => rdI_k h1⟩, Or.inr ⟨rfl, fun k => ?_⟩⟩
                   unfold thB at k
                   rcases k with k | k | k
                   · first | exact c_14 (by omega) | omega
                   · first | exact c_54 k.2.2 | omega
                   · first | exact k.2.2 c_90 | omega))
          · refine x_aload_n 2 dX11_steals_84 rfl rfl ?_
            refine x_getR fX11_29 dX11_steals_85 l83 rfl ?_
            refine x_iload_n 1 dX11_steals_88 rfl rfl ?_
            refine y_iald dX11_steals_89 l90 (by omega) (by decide) (hI.2.2.2.2.1 _ ht) ?_
            refine x_callSb (as := [_]) (rest := []) sX11_156 (c_X11_isLivingKind hk5) dX11_steals_90 rfl rfl (Nat.le_of_ble_eq_true rfl) (Nat.le_of_ble_eq_true rfl) (Nat.le_of_ble_eq_true rfl) (fun c_90 => ?_) (fun c_90 => ?_)
            · refine t_if_ne 100 dX11_steals_93 (by decide) (by decide) ?_
              refine x_iconst (v := nI 0) dX11_steals_100 (by decide) ?_
              refine x_istore (lv' := [(5, _), (4, _), (3, _), (0, _), (1, _), (2, _)]) dX11_steals_101 (by decide) rfl ?_
              refine x_aload_n 3 dX11_steals_103 rfl rfl ?_
              refine x_getR fX11_50 dX11_steals_104 l83 rfl ?_
              refine x_iload_n 2 dX11_steals_107 rfl rfl ?_
              refine x_iload 0 dX11_steals_108 rfl ?_
              refine y_if_eq 118 dX11_steals_110 (by decide) (by omega) (fun c_110 => ?_) (fun c_110 => ?_)
              · refine x_aload_n 3 dX11_steals_118 rfl rfl ?_
                refine x_getR fX11_50 dX11_steals_119 l83 rfl ?_
                refine x_iload_n 2 dX11_steals_122 rfl rfl ?_
                refine y_iald dX11_steals_123 l97 (by omega) (by decide) (hw0 _ ht) ?_
                refine y_iast dX11_steals_124 l97 (by omega) (by decide) ?_
                refine x_iload 0 dX11_steals_125 rfl ?_
                refine x_zret rfl dX11_steals_127 (by decide) (by
                  first
                  | (exfalso; omega)
                  | (refine ⟨_, rfl, ⟨rfl, fun a b h1 _ => rdI_k h1⟩, Or.inr ⟨rfl, fun k => ?_⟩⟩
                     unfold thB at k
                     rcases k with k | k | k
                     · first | exact c_14 (by omega) | omega
                     · first | exact c_54 k.2.2 | omega
                     · first | exact k.2.2 c_90 | omega))
              · refine x_iload 1 dX11_steals_113 rfl ?_
                refine x_goto 124 dX11_steals_115 (by decide) ?_
                refine y_iast dX11_steals_124 l97 (by omega) (by decide) ?_
                refine x_iload 0 dX11_steals_125 rfl ?_
                refine x_zret rfl dX11_steals_127 (by decide) (by
                  first
                  | (exfalso; omega)
                  | (refine ⟨_, rfl, ⟨rfl, fun a b h1 _ => rdI_k h1⟩, Or.inr ⟨rfl, fun k => ?_⟩⟩
                     unfold thB at k
                     rcases k with k | k | k
                     · first | exact c_14 (by omega) | omega
                     · first | exact c_54 k.2.2 | omega
                     · first | exact k.2.2 c_90 | omega))
            · refine u_if_ne 100 dX11_steals_93 (by decide) (by decide) ?_
              refine x_iconst (v := nI 1) dX11_steals_96 (by decide) ?_
              refine x_goto 101 dX11_steals_97 (by decide) ?_
              refine x_istore (lv' := [(5, _), (4, _), (3, _), (0, _), (1, _), (2, _)]) dX11_steals_101 (by decide) rfl ?_
              refine x_aload_n 3 dX11_steals_103 rfl rfl ?_
              refine x_getR fX11_50 dX11_steals_104 l83 rfl ?_
              refine x_iload_n 2 dX11_steals_107 rfl rfl ?_
              refine x_iload 0 dX11_steals_108 rfl ?_
              refine y_if_eq 118 dX11_steals_110 (by decide) (by omega) (fun c_110 => ?_) (fun c_110 => ?_)
              · refine x_aload_n 3 dX11_steals_118 rfl rfl ?_
                refine x_getR fX11_50 dX11_steals_119 l83 rfl ?_
                refine x_iload_n 2 dX11_steals_122 rfl rfl ?_
                refine y_iald dX11_steals_123 l97 (by omega) (by decide) (hw0 _ ht) ?_
                refine y_iast dX11_steals_124 l97 (by omega) (by decide) ?_
                refine x_iload 0 dX11_steals_125 rfl ?_
                refine x_zret rfl dX11_steals_127 (by decide) (by
                  first
                  | (exfalso; omega)
                  | (have hne : ¬ (s % 7 < iP I ∧ ¬ s % 7 = p) := fun q => by first | exact c_14 (by omega) | omega
                     refine ⟨_, rfl, ⟨rfl, fun a b h1 _ => rdI_k h1⟩, Or.inl ⟨rfl, ?_, fun t ht => ?_⟩⟩
                     · unfold thB
                       first
                       | exact Or.inr (Or.inl ⟨by omega, by omega, by rw [show p = s % 7 by omega]; rw [show s % 7 = p by omega] at *; exact c_54⟩)
                       | exact Or.inr (Or.inr ⟨by omega, by omega, c_90⟩)
                     · unfold thW
                       rw [e2_1 hne]
                       by_cases q : t = s / 7
                       · rw [q, upW_eq, rdI_eq]
                       · rw [upW_ne q, rdI_j q]; exact hw0 t ht))
              · refine x_iload 1 dX11_steals_113 rfl ?_
                refine x_goto 124 dX11_steals_115 (by decide) ?_
                refine y_iast dX11_steals_124 l97 (by omega) (by decide) ?_
                refine x_iload 0 dX11_steals_125 rfl ?_
                refine x_zret rfl dX11_steals_127 (by decide) (by
                  first
                  | (exfalso; omega)
                  | (have hne : ¬ (s % 7 < iP I ∧ ¬ s % 7 = p) := fun q => by first | exact c_14 (by omega) | omega
                     refine ⟨_, rfl, ⟨rfl, fun a b h1 _ => rdI_k h1⟩, Or.inl ⟨rfl, ?_, fun t ht => ?_⟩⟩
                     · unfold thB
                       first
                       | exact Or.inr (Or.inl ⟨by omega, by omega, by rw [show p = s % 7 by omega]; rw [show s % 7 = p by omega] at *; exact c_54⟩)
                       | exact Or.inr (Or.inr ⟨by omega, by omega, c_90⟩)
                     · unfold thW
                       rw [e2_1 hne]
                       by_cases q : t = s / 7
                       · rw [q, upW_eq, rdI_eq]
                       · rw [upW_ne q, rdI_j q]; exact hw0 t ht))
      · refine x_aload_n 2 dX11_steals_41 rfl rfl ?_
        refine x_getR fX11_50 dX11_steals_42 l83 rfl ?_
        refine x_iload_n 1 dX11_steals_45 rfl rfl ?_
        refine y_iald dX11_steals_46 l97 (by omega) (by decide) (hw0 _ ht) ?_
        refine x_iconst (v := nI 4) dX11_steals_47 (by decide) ?_
        refine y_ic_ne 64 dX11_steals_48 (by decide) (by omega) (by omega) (fun c_48 => ?_) (fun c_48 => ?_)
        · refine x_iconst (v := nI 0) dX11_steals_64 (by decide) ?_
          refine x_goto 101 dX11_steals_65 (by decide) ?_
          refine x_istore (lv' := [(5, _), (4, _), (3, _), (0, _), (1, _), (2, _)]) dX11_steals_101 (by decide) rfl ?_
          refine x_aload_n 3 dX11_steals_103 rfl rfl ?_
          refine x_getR fX11_50 dX11_steals_104 l83 rfl ?_
          refine x_iload_n 2 dX11_steals_107 rfl rfl ?_
          refine x_iload 0 dX11_steals_108 rfl ?_
          refine y_if_eq 118 dX11_steals_110 (by decide) (by omega) (fun c_110 => ?_) (fun c_110 => ?_)
          · refine x_aload_n 3 dX11_steals_118 rfl rfl ?_
            refine x_getR fX11_50 dX11_steals_119 l83 rfl ?_
            refine x_iload_n 2 dX11_steals_122 rfl rfl ?_
            refine y_iald dX11_steals_123 l97 (by omega) (by decide) (hw0 _ ht) ?_
            refine y_iast dX11_steals_124 l97 (by omega) (by decide) ?_
            refine x_iload 0 dX11_steals_125 rfl ?_
            refine x_zret rfl dX11_steals_127 (by decide) (by
              first
              | (exfalso; omega)
              | (refine ⟨_, rfl, ⟨rfl, fun a b h1 _ => rdI_k h1⟩, Or.inr ⟨rfl, fun k => ?_⟩⟩
                 unfold thB at k
                 rcases k with k | k | k
                 · first | exact c_14 (by omega) | omega
                 · first | exact c_54 k.2.2 | omega
                 · first | exact k.2.2 c_90 | omega))
          · refine x_iload 1 dX11_steals_113 rfl ?_
            refine x_goto 124 dX11_steals_115 (by decide) ?_
            refine y_iast dX11_steals_124 l97 (by omega) (by decide) ?_
            refine x_iload 0 dX11_steals_125 rfl ?_
            refine x_zret rfl dX11_steals_127 (by decide) (by
              first
              | (exfalso; omega)
              | (refine ⟨_, rfl, ⟨rfl, fun a b h1 _ => rdI_k h1⟩, Or.inr ⟨rfl, fun k => ?_⟩⟩
                 unfold thB at k
                 rcases k with k | k | k
                 · first | exact c_14 (by omega) | omega
                 · first | exact c_54 k.2.2 | omega
                 · first | exact k.2.2 c_90 | omega))
        · refine x_aload_n 2 dX11_steals_51 rfl rfl ?_
          refine x_iload_n 1 dX11_steals_52 rfl rfl ?_
          refine x_iload_n 3 dX11_steals_53 rfl rfl ?_
          refine x_callVb (as := [_, _]) (rest := []) vX11_211 (c_X11_isWithin (t := s / 7) (to := p) hI hO hw0 hw7 hL (by omega) ht (by omega)) dX11_steals_54 l83 rfl rfl rfl (Nat.le_of_ble_eq_true rfl) (Nat.le_of_ble_eq_true rfl) (Nat.le_of_ble_eq_true rfl) (fun c_54 => ?_) (fun c_54 => ?_)
          · refine u_if_eq 64 dX11_steals_57 (by decide) (by decide) ?_
            refine x_iconst (v := nI 1) dX11_steals_60 (by decide) ?_
            refine x_goto 101 dX11_steals_61 (by decide) ?_
            refine x_istore (lv' := [(5, _), (4, _), (3, _), (0, _), (1, _), (2, _)]) dX11_steals_101 (by decide) rfl ?_
            refine x_aload_n 3 dX11_steals_103 rfl rfl ?_
            refine x_getR fX11_50 dX11_steals_104 l83 rfl ?_
            refine x_iload_n 2 dX11_steals_107 rfl rfl ?_
            refine x_iload 0 dX11_steals_108 rfl ?_
            refine y_if_eq 118 dX11_steals_110 (by decide) (by omega) (fun c_110 => ?_) (fun c_110 => ?_)
            · refine x_aload_n 3 dX11_steals_118 rfl rfl ?_
              refine x_getR fX11_50 dX11_steals_119 l83 rfl ?_
              refine x_iload_n 2 dX11_steals_122 rfl rfl ?_
              refine y_iald dX11_steals_123 l97 (by omega) (by decide) (hw0 _ ht) ?_
              refine y_iast dX11_steals_124 l97 (by omega) (by decide) ?_
              refine x_iload 0 dX11_steals_125 rfl ?_
              refine x_zret rfl dX11_steals_127 (by decide) (by
                first
                | (exfalso; omega)
                | (have hne : ¬ (s % 7 < iP I ∧ ¬ s % 7 = p) := fun q => by first | exact c_14 (by omega) | omega
                   refine ⟨_, rfl, ⟨rfl, fun a b h1 _ => rdI_k h1⟩, Or.inl ⟨rfl, ?_, fun t ht => ?_⟩⟩
                   · unfold thB
                     first
                     | exact Or.inr (Or.inl ⟨by omega, by omega, by rw [show p = s % 7 by omega]; rw [show s % 7 = p by omega] at *; exact c_54⟩)
                     | exact Or.inr (Or.inr ⟨by omega, by omega, c_90⟩)
                   · unfold thW
                     rw [e2_1 hne]
                     by_cases q : t = s / 7
                     · rw [q, upW_eq, rdI_eq]
                     · rw [upW_ne q, rdI_j q]; exact hw0 t ht))
            · refine x_iload 1 dX11_steals_113 rfl ?_
              refine x_goto 124 dX11_steals_115 (by decide) ?_
              refine y_iast dX11_steals_124 l97 (by omega) (by decide) ?_
              refine x_iload 0 dX11_steals_125 rfl ?_
              refine x_zret rfl dX11_steals_127 (by decide) (by
                first
                | (exfalso; omega)
                | (have hne : ¬ (s % 7 < iP I ∧ ¬ s % 7 = p) := fun q => by first | exact c_14 (by omega) | omega
                   refine ⟨_, rfl, ⟨rfl, fun a b h1 _ => rdI_k h1⟩, Or.inl ⟨rfl, ?_, fun t ht => ?_⟩⟩
                   · unfold thB
                     first
                     | exact Or.inr (Or.inl ⟨by omega, by omega, by rw [show p = s % 7 by omega]; rw [show s % 7 = p by omega] at *; exact c_54⟩)
                     | exact Or.inr (Or.inr ⟨by omega, by omega, c_90⟩)
                   · unfold thW
                     rw [e2_1 hne]
                     by_cases q : t = s / 7
                     · rw [q, upW_eq, rdI_eq]
                     · rw [upW_ne q, rdI_j q]; exact hw0 t ht))
          · refine t_if_eq 64 dX11_steals_57 (by decide) (by decide) ?_
            refine x_iconst (v := nI 0) dX11_steals_64 (by decide) ?_
            refine x_goto 101 dX11_steals_65 (by decide) ?_
            refine x_istore (lv' := [(5, _), (4, _), (3, _), (0, _), (1, _), (2, _)]) dX11_steals_101 (by decide) rfl ?_
            refine x_aload_n 3 dX11_steals_103 rfl rfl ?_
            refine x_getR fX11_50 dX11_steals_104 l83 rfl ?_
            refine x_iload_n 2 dX11_steals_107 rfl rfl ?_
            refine x_iload 0 dX11_steals_108 rfl ?_
            refine y_if_eq 118 dX11_steals_110 (by decide) (by omega) (fun c_110 => ?_) (fun c_110 => ?_)
            · refine x_aload_n 3 dX11_steals_118 rfl rfl ?_
              refine x_getR fX11_50 dX11_steals_119 l83 rfl ?_
              refine x_iload_n 2 dX11_steals_122 rfl rfl ?_
              refine y_iald dX11_steals_123 l97 (by omega) (by decide) (hw0 _ ht) ?_
              refine y_iast dX11_steals_124 l97 (by omega) (by decide) ?_
              refine x_iload 0 dX11_steals_125 rfl ?_
              refine x_zret rfl dX11_steals_127 (by decide) (by
                first
                | (exfalso; omega)
                | (refine ⟨_, rfl, ⟨rfl, fun a b h1 _ => rdI_k h1⟩, Or.inr ⟨rfl, fun k => ?_⟩⟩
                   unfold thB at k
                   rcases k with k | k | k
                   · first | exact c_14 (by omega) | omega
                   · first | exact c_54 k.2.2 | omega
                   · first | exact k.2.2 c_90 | omega))
            · refine x_iload 1 dX11_steals_113 rfl ?_
              refine x_goto 124 dX11_steals_115 (by decide) ?_
              refine y_iast dX11_steals_124 l97 (by omega) (by decide) ?_
              refine x_iload 0 dX11_steals_125 rfl ?_
              refine x_zret rfl dX11_steals_127 (by decide) (by
                first
                | (exfalso; omega)
                | (refine ⟨_, rfl, ⟨rfl, fun a b h1 _ => rdI_k h1⟩, Or.inr ⟨rfl, fun k => ?_⟩⟩
                   unfold thB at k
                   rcases k with k | k | k
                   · first | exact c_14 (by omega) | omega
                   · first | exact c_54 k.2.2 | omega
                   · first | exact k.2.2 c_90 | omega))
    · refine x_aload_n 2 dX11_steals_26 rfl rfl ?_
      refine x_iload_n 3 dX11_steals_27 rfl rfl ?_
      refine x_iload_n 1 dX11_steals_28 rfl rfl ?_
      refine x_iload 0 dX11_steals_29 rfl ?_
      refine x_callVqi (as := [_, _, _]) (rest := []) vX11_314 (c_X11_gives (p := p) (t := s / 7) (q := s % 7) hI hO hw hL hL7 hpp ht (by omega) hw0) dX11_steals_31 l83 rfl rfl rfl (Nat.le_of_ble_eq_true rfl) (Nat.le_of_ble_eq_true rfl) (Nat.le_of_ble_eq_true rfl) (fun r_31 S_31 q_31 => ?_)
      refine x_zret rfl dX11_steals_34 (q_31.2.elim (fun h => Or.inr h.1) (fun h => Or.inl h.1)) (by
        have hpe : s % 7 < iP I ∧ ¬ s % 7 = p := ⟨by omega, by omega⟩
        refine ⟨_, rfl, q_31.1, ?_⟩
        rcases q_31.2 with ⟨g1, g2, g3, g4, _, g6⟩ | ⟨g1, g2⟩
        · exact Or.inl ⟨g1, Or.inl ⟨hpe.1, hpe.2, g2, g4⟩, by unfold thW; rw [e2_0 hpe]; exact g6⟩
        · refine Or.inr ⟨g1, fun k => ?_⟩
          unfold thB at k
          rcases k with k | k | k
          · exact g2 ⟨k.2.2.1, fun e => k.2.1 e.symm, k.2.2.2⟩
          · omega
          · omega)
  · refine t_if_eq 35 dX11_steals_17 (by decide) (by decide) ?_
    refine x_iload 0 dX11_steals_35 rfl ?_
    refine x_iload_n 3 dX11_steals_37 rfl rfl ?_
    refine y_ic_ne 68 dX11_steals_38 (by decide) (by omega) (by omega) (fun c_38 => ?_) (fun c_38 => ?_)
    · refine x_iload 0 dX11_steals_68 rfl ?_
      refine x_iconst (v := nI 4) dX11_steals_70 (by decide) ?_
      refine y_ic_ne 100 dX11_steals_71 (by decide) (by omega) (by omega) (fun c_71 => ?_) (fun c_71 => ?_)
      · refine x_iconst (v := nI 0) dX11_steals_100 (by decide) ?_
        refine x_istore (lv' := [(5, _), (4, _), (3, _), (0, _), (1, _), (2, _)]) dX11_steals_101 (by decide) rfl ?_
        refine x_aload_n 3 dX11_steals_103 rfl rfl ?_
        refine x_getR fX11_50 dX11_steals_104 l83 rfl ?_
        refine x_iload_n 2 dX11_steals_107 rfl rfl ?_
        refine x_iload 0 dX11_steals_108 rfl ?_
        refine y_if_eq 118 dX11_steals_110 (by decide) (by omega) (fun c_110 => ?_) (fun c_110 => ?_)
        · refine x_aload_n 3 dX11_steals_118 rfl rfl ?_
          refine x_getR fX11_50 dX11_steals_119 l83 rfl ?_
          refine x_iload_n 2 dX11_steals_122 rfl rfl ?_
          refine y_iald dX11_steals_123 l97 (by omega) (by decide) (hw0 _ ht) ?_
          refine y_iast dX11_steals_124 l97 (by omega) (by decide) ?_
          refine x_iload 0 dX11_steals_125 rfl ?_
          refine x_zret rfl dX11_steals_127 (by decide) (by
            first
            | (exfalso; omega)
            | (refine ⟨_, rfl, ⟨rfl, fun a b h1 _ => rdI_k h1⟩, Or.inr ⟨rfl, fun k => ?_⟩⟩
               unfold thB at k
               rcases k with k | k | k
               · first | exact c_14 (by omega) | omega
               · first | exact c_54 k.2.2 | omega
               · first | exact k.2.2 c_90 | omega))
        · refine x_iload 1 dX11_steals_113 rfl ?_
          refine x_goto 124 dX11_steals_115 (by decide) ?_
          refine y_iast dX11_steals_124 l97 (by omega) (by decide) ?_
          refine x_iload 0 dX11_steals_125 rfl ?_
          refine x_zret rfl dX11_steals_127 (by decide) (by
            first
            | (exfalso; omega)
            | (refine ⟨_, rfl, ⟨rfl, fun a b h1 _ => rdI_k h1⟩, Or.inr ⟨rfl, fun k => ?_⟩⟩
               unfold thB at k
               rcases k with k | k | k
               · first | exact c_14 (by omega) | omega
               · first | exact c_54 k.2.2 | omega
               · first | exact k.2.2 c_90 | omega))
      · refine x_aload_n 2 dX11_steals_74 rfl rfl ?_
        refine x_getR fX11_50 dX11_steals_75 l83 rfl ?_
        refine x_iload_n 1 dX11_steals_78 rfl rfl ?_
        refine y_iald dX11_steals_79 l97 (by omega) (by decide) (hw0 _ ht) ?_
        refine x_iload_n 3 dX11_steals_80 rfl rfl ?_
        refine y_ic_ne 100 dX11_steals_81 (by decide) (by omega) (by omega) (fun c_81 => ?_) (fun c_81 => ?_)
        · refine x_iconst (v := nI 0) dX11_steals_100 (by decide) ?_
          refine x_istore (lv' := [(5, _), (4, _), (3, _), (0, _), (1, _), (2, _)]) dX11_steals_101 (by decide) rfl ?_
          refine x_aload_n 3 dX11_steals_103 rfl rfl ?_
          refine x_getR fX11_50 dX11_steals_104 l83 rfl ?_
          refine x_iload_n 2 dX11_steals_107 rfl rfl ?_
          refine x_iload 0 dX11_steals_108 rfl ?_
          refine y_if_eq 118 dX11_steals_110 (by decide) (by omega) (fun c_110 => ?_) (fun c_110 => ?_)
          · refine x_aload_n 3 dX11_steals_118 rfl rfl ?_
            refine x_getR fX11_50 dX11_steals_119 l83 rfl ?_
            refine x_iload_n 2 dX11_steals_122 rfl rfl ?_
            refine y_iald dX11_steals_123 l97 (by omega) (by decide) (hw0 _ ht) ?_
            refine y_iast dX11_steals_124 l97 (by omega) (by decide) ?_
            refine x_iload 0 dX11_steals_125 rfl ?_
            refine x_zret rfl dX11_steals_127 (by decide) (by
              first
              | (exfalso; omega)
              | (refine ⟨_, rfl, ⟨rfl, fun a b h1 _ => rdI_k h1⟩, Or.inr ⟨rfl, fun k => ?_⟩⟩
                 unfold thB at k
                 rcases k with k | k | k
                 · first | exact c_14 (by omega) | omega
                 · first | exact c_54 k.2.2 | omega
                 · first | exact k.2.2 c_90 | omega))
          · refine x_iload 1 dX11_steals_113 rfl ?_
            refine x_goto 124 dX11_steals_115 (by decide) ?_
            refine y_iast dX11_steals_124 l97 (by omega) (by decide) ?_
            refine x_iload 0 dX11_steals_125 rfl ?_
            refine x_zret rfl dX11_steals_127 (by decide) (by
              first
              | (exfalso; omega)
              | (refine ⟨_, rfl, ⟨rfl, fun a b h1 _ => rdI_k h1⟩, Or.inr ⟨rfl, fun k => ?_⟩⟩
                 unfold thB at k
                 rcases k with k | k | k
                 · first | exact c_14 (by omega) | omega
                 · first | exact c_54 k.2.2 | omega
                 · first | exact k.2.2 c_90 | omega))
        · refine x_aload_n 2 dX11_steals_84 rfl rfl ?_
          refine x_getR fX11_29 dX11_steals_85 l83 rfl ?_
          refine x_iload_n 1 dX11_steals_88 rfl rfl ?_
          refine y_iald dX11_steals_89 l90 (by omega) (by decide) (hI.2.2.2.2.1 _ ht) ?_
          refine x_callSb (as := [_]) (rest := []) sX11_156 (c_X11_isLivingKind hk5) dX11_steals_90 rfl rfl (Nat.le_of_ble_eq_true rfl) (Nat.le_of_ble_eq_true rfl) (Nat.le_of_ble_eq_true rfl) (fun c_90 => ?_) (fun c_90 => ?_)
          · refine t_if_ne 100 dX11_steals_93 (by decide) (by decide) ?_
            refine x_iconst (v := nI 0) dX11_steals_100 (by decide) ?_
            refine x_istore (lv' := [(5, _), (4, _), (3, _), (0, _), (1, _), (2, _)]) dX11_steals_101 (by decide) rfl ?_
            refine x_aload_n 3 dX11_steals_103 rfl rfl ?_
            refine x_getR fX11_50 dX11_steals_104 l83 rfl ?_
            refine x_iload_n 2 dX11_steals_107 rfl rfl ?_
            refine x_iload 0 dX11_steals_108 rfl ?_
            refine y_if_eq 118 dX11_steals_110 (by decide) (by omega) (fun c_110 => ?_) (fun c_110 => ?_)
            · refine x_aload_n 3 dX11_steals_118 rfl rfl ?_
              refine x_getR fX11_50 dX11_steals_119 l83 rfl ?_
              refine x_iload_n 2 dX11_steals_122 rfl rfl ?_
              refine y_iald dX11_steals_123 l97 (by omega) (by decide) (hw0 _ ht) ?_
              refine y_iast dX11_steals_124 l97 (by omega) (by decide) ?_
              refine x_iload 0 dX11_steals_125 rfl ?_
              refine x_zret rfl dX11_steals_127 (by decide) (by
                first
                | (exfalso; omega)
                | (refine ⟨_, rfl, ⟨rfl, fun a b h1 _ => rdI_k h1⟩, Or.inr ⟨rfl, fun k => ?_⟩⟩
                   unfold thB at k
                   rcases k with k | k | k
                   · first | exact c_14 (by omega) | omega
                   · first | exact c_54 k.2.2 | omega
                   · first | exact k.2.2 c_90 | omega))
            · refine x_iload 1 dX11_steals_113 rfl ?_
              refine x_goto 124 dX11_steals_115 (by decide) ?_
              refine y_iast dX11_steals_124 l97 (by omega) (by decide) ?_
              refine x_iload 0 dX11_steals_125 rfl ?_
              refine x_zret rfl dX11_steals_127 (by decide) (by
                first
                | (exfalso; omega)
                | (refine ⟨_, rfl, ⟨rfl, fun a b h1 _ => rdI_k h1⟩, Or.inr ⟨rfl, fun k => ?_⟩⟩
                   unfold thB at k
                   rcases k with k | k | k
                   · first | exact c_14 (by omega) | omega
                   · first | exact c_54 k.2.2 | omega
                   · first | exact k.2.2 c_90 | omega))
          · refine u_if_ne 100 dX11_steals_93 (by decide) (by decide) ?_
            refine x_iconst (v := nI 1) dX11_steals_96 (by decide) ?_
            refine x_goto 101 dX11_steals_97 (by decide) ?_
            refine x_istore (lv' := [(5, _), (4, _), (3, _), (0, _), (1, _), (2, _)]) dX11_steals_101 (by decide) rfl ?_
            refine x_aload_n 3 dX11_steals_103 rfl rfl ?_
            refine x_getR fX11_50 dX11_steals_104 l83 rfl ?_
            refine x_iload_n 2 dX11_steals_107 rfl rfl ?_
            refine x_iload 0 dX11_steals_108 rfl ?_
            refine y_if_eq 118 dX11_steals_110 (by decide) (by omega) (fun c_110 => ?_) (fun c_110 => ?_)
            · refine x_aload_n 3 dX11_steals_118 rfl rfl ?_
              refine x_getR fX11_50 dX11_steals_119 l83 rfl ?_
              refine x_iload_n 2 dX11_steals_122 rfl rfl ?_
              refine y_iald dX11_steals_123 l97 (by omega) (by decide) (hw0 _ ht) ?_
              refine y_iast dX11_steals_124 l97 (by omega) (by decide) ?_
              refine x_iload 0 dX11_steals_125 rfl ?_
              refine x_zret rfl dX11_steals_127 (by decide) (by
                first
                | (exfalso; omega)
                | (have hne : ¬ (s % 7 < iP I ∧ ¬ s % 7 = p) := fun q => by first | exact c_14 (by omega) | omega
                   refine ⟨_, rfl, ⟨rfl, fun a b h1 _ => rdI_k h1⟩, Or.inl ⟨rfl, ?_, fun t ht => ?_⟩⟩
                   · unfold thB
                     first
                     | exact Or.inr (Or.inl ⟨by omega, by omega, by rw [show p = s % 7 by omega]; rw [show s % 7 = p by omega] at *; exact c_54⟩)
                     | exact Or.inr (Or.inr ⟨by omega, by omega, c_90⟩)
                   · unfold thW
                     rw [e2_1 hne]
                     by_cases q : t = s / 7
                     · rw [q, upW_eq, rdI_eq]
                     · rw [upW_ne q, rdI_j q]; exact hw0 t ht))
            · refine x_iload 1 dX11_steals_113 rfl ?_
              refine x_goto 124 dX11_steals_115 (by decide) ?_
              refine y_iast dX11_steals_124 l97 (by omega) (by decide) ?_
              refine x_iload 0 dX11_steals_125 rfl ?_
              refine x_zret rfl dX11_steals_127 (by decide) (by
                first
                | (exfalso; omega)
                | (have hne : ¬ (s % 7 < iP I ∧ ¬ s % 7 = p) := fun q => by first | exact c_14 (by omega) | omega
                   refine ⟨_, rfl, ⟨rfl, fun a b h1 _ => rdI_k h1⟩, Or.inl ⟨rfl, ?_, fun t ht => ?_⟩⟩
                   · unfold thB
                     first
                     | exact Or.inr (Or.inl ⟨by omega, by omega, by rw [show p = s % 7 by omega]; rw [show s % 7 = p by omega] at *; exact c_54⟩)
                     | exact Or.inr (Or.inr ⟨by omega, by omega, c_90⟩)
                   · unfold thW
                     rw [e2_1 hne]
                     by_cases q : t = s / 7
                     · rw [q, upW_eq, rdI_eq]
                     · rw [upW_ne q, rdI_j q]; exact hw0 t ht))
    · refine x_aload_n 2 dX11_steals_41 rfl rfl ?_
      refine x_getR fX11_50 dX11_steals_42 l83 rfl ?_
      refine x_iload_n 1 dX11_steals_45 rfl rfl ?_
      refine y_iald dX11_steals_46 l97 (by omega) (by decide) (hw0 _ ht) ?_
      refine x_iconst (v := nI 4) dX11_steals_47 (by decide) ?_
      refine y_ic_ne 64 dX11_steals_48 (by decide) (by omega) (by omega) (fun c_48 => ?_) (fun c_48 => ?_)
      · refine x_iconst (v := nI 0) dX11_steals_64 (by decide) ?_
        refine x_goto 101 dX11_steals_65 (by decide) ?_
        refine x_istore (lv' := [(5, _), (4, _), (3, _), (0, _), (1, _), (2, _)]) dX11_steals_101 (by decide) rfl ?_
        refine x_aload_n 3 dX11_steals_103 rfl rfl ?_
        refine x_getR fX11_50 dX11_steals_104 l83 rfl ?_
        refine x_iload_n 2 dX11_steals_107 rfl rfl ?_
        refine x_iload 0 dX11_steals_108 rfl ?_
        refine y_if_eq 118 dX11_steals_110 (by decide) (by omega) (fun c_110 => ?_) (fun c_110 => ?_)
        · refine x_aload_n 3 dX11_steals_118 rfl rfl ?_
          refine x_getR fX11_50 dX11_steals_119 l83 rfl ?_
          refine x_iload_n 2 dX11_steals_122 rfl rfl ?_
          refine y_iald dX11_steals_123 l97 (by omega) (by decide) (hw0 _ ht) ?_
          refine y_iast dX11_steals_124 l97 (by omega) (by decide) ?_
          refine x_iload 0 dX11_steals_125 rfl ?_
          refine x_zret rfl dX11_steals_127 (by decide) (by
            first
            | (exfalso; omega)
            | (refine ⟨_, rfl, ⟨rfl, fun a b h1 _ => rdI_k h1⟩, Or.inr ⟨rfl, fun k => ?_⟩⟩
               unfold thB at k
               rcases k with k | k | k
               · first | exact c_14 (by omega) | omega
               · first | exact c_54 k.2.2 | omega
               · first | exact k.2.2 c_90 | omega))
        · refine x_iload 1 dX11_steals_113 rfl ?_
          refine x_goto 124 dX11_steals_115 (by decide) ?_
          refine y_iast dX11_steals_124 l97 (by omega) (by decide) ?_
          refine x_iload 0 dX11_steals_125 rfl ?_
          refine x_zret rfl dX11_steals_127 (by decide) (by
            first
            | (exfalso; omega)
            | (refine ⟨_, rfl, ⟨rfl, fun a b h1 _ => rdI_k h1⟩, Or.inr ⟨rfl, fun k => ?_⟩⟩
               unfold thB at k
               rcases k with k | k | k
               · first | exact c_14 (by omega) | omega
               · first | exact c_54 k.2.2 | omega
               · first | exact k.2.2 c_90 | omega))
      · refine x_aload_n 2 dX11_steals_51 rfl rfl ?_
        refine x_iload_n 1 dX11_steals_52 rfl rfl ?_
        refine x_iload_n 3 dX11_steals_53 rfl rfl ?_
        refine x_callVb (as := [_, _]) (rest := []) vX11_211 (c_X11_isWithin (t := s / 7) (to := p) hI hO hw0 hw7 hL (by omega) ht (by omega)) dX11_steals_54 l83 rfl rfl rfl (Nat.le_of_ble_eq_true rfl) (Nat.le_of_ble_eq_true rfl) (Nat.le_of_ble_eq_true rfl) (fun c_54 => ?_) (fun c_54 => ?_)
        · refine u_if_eq 64 dX11_steals_57 (by decide) (by decide) ?_
          refine x_iconst (v := nI 1) dX11_steals_60 (by decide) ?_
          refine x_goto 101 dX11_steals_61 (by decide) ?_
          refine x_istore (lv' := [(5, _), (4, _), (3, _), (0, _), (1, _), (2, _)]) dX11_steals_101 (by decide) rfl ?_
          refine x_aload_n 3 dX11_steals_103 rfl rfl ?_
          refine x_getR fX11_50 dX11_steals_104 l83 rfl ?_
          refine x_iload_n 2 dX11_steals_107 rfl rfl ?_
          refine x_iload 0 dX11_steals_108 rfl ?_
          refine y_if_eq 118 dX11_steals_110 (by decide) (by omega) (fun c_110 => ?_) (fun c_110 => ?_)
          · refine x_aload_n 3 dX11_steals_118 rfl rfl ?_
            refine x_getR fX11_50 dX11_steals_119 l83 rfl ?_
            refine x_iload_n 2 dX11_steals_122 rfl rfl ?_
            refine y_iald dX11_steals_123 l97 (by omega) (by decide) (hw0 _ ht) ?_
            refine y_iast dX11_steals_124 l97 (by omega) (by decide) ?_
            refine x_iload 0 dX11_steals_125 rfl ?_
            refine x_zret rfl dX11_steals_127 (by decide) (by
              first
              | (exfalso; omega)
              | (have hne : ¬ (s % 7 < iP I ∧ ¬ s % 7 = p) := fun q => by first | exact c_14 (by omega) | omega
                 refine ⟨_, rfl, ⟨rfl, fun a b h1 _ => rdI_k h1⟩, Or.inl ⟨rfl, ?_, fun t ht => ?_⟩⟩
                 · unfold thB
                   first
                   | exact Or.inr (Or.inl ⟨by omega, by omega, by rw [show p = s % 7 by omega]; rw [show s % 7 = p by omega] at *; exact c_54⟩)
                   | exact Or.inr (Or.inr ⟨by omega, by omega, c_90⟩)
                 · unfold thW
                   rw [e2_1 hne]
                   by_cases q : t = s / 7
                   · rw [q, upW_eq, rdI_eq]
                   · rw [upW_ne q, rdI_j q]; exact hw0 t ht))
          · refine x_iload 1 dX11_steals_113 rfl ?_
            refine x_goto 124 dX11_steals_115 (by decide) ?_
            refine y_iast dX11_steals_124 l97 (by omega) (by decide) ?_
            refine x_iload 0 dX11_steals_125 rfl ?_
            refine x_zret rfl dX11_steals_127 (by decide) (by
              first
              | (exfalso; omega)
              | (have hne : ¬ (s % 7 < iP I ∧ ¬ s % 7 = p) := fun q => by first | exact c_14 (by omega) | omega
                 refine ⟨_, rfl, ⟨rfl, fun a b h1 _ => rdI_k h1⟩, Or.inl ⟨rfl, ?_, fun t ht => ?_⟩⟩
                 · unfold thB
                   first
                   | exact Or.inr (Or.inl ⟨by omega, by omega, by rw [show p = s % 7 by omega]; rw [show s % 7 = p by omega] at *; exact c_54⟩)
                   | exact Or.inr (Or.inr ⟨by omega, by omega, c_90⟩)
                 · unfold thW
                   rw [e2_1 hne]
                   by_cases q : t = s / 7
                   · rw [q, upW_eq, rdI_eq]
                   · rw [upW_ne q, rdI_j q]; exact hw0 t ht))
        · refine t_if_eq 64 dX11_steals_57 (by decide) (by decide) ?_
          refine x_iconst (v := nI 0) dX11_steals_64 (by decide) ?_
          refine x_goto 101 dX11_steals_65 (by decide) ?_
          refine x_istore (lv' := [(5, _), (4, _), (3, _), (0, _), (1, _), (2, _)]) dX11_steals_101 (by decide) rfl ?_
          refine x_aload_n 3 dX11_steals_103 rfl rfl ?_
          refine x_getR fX11_50 dX11_steals_104 l83 rfl ?_
          refine x_iload_n 2 dX11_steals_107 rfl rfl ?_
          refine x_iload 0 dX11_steals_108 rfl ?_
          refine y_if_eq 118 dX11_steals_110 (by decide) (by omega) (fun c_110 => ?_) (fun c_110 => ?_)
          · refine x_aload_n 3 dX11_steals_118 rfl rfl ?_
            refine x_getR fX11_50 dX11_steals_119 l83 rfl ?_
            refine x_iload_n 2 dX11_steals_122 rfl rfl ?_
            refine y_iald dX11_steals_123 l97 (by omega) (by decide) (hw0 _ ht) ?_
            refine y_iast dX11_steals_124 l97 (by omega) (by decide) ?_
            refine x_iload 0 dX11_steals_125 rfl ?_
            refine x_zret rfl dX11_steals_127 (by decide) (by
              first
              | (exfalso; omega)
              | (refine ⟨_, rfl, ⟨rfl, fun a b h1 _ => rdI_k h1⟩, Or.inr ⟨rfl, fun k => ?_⟩⟩
                 unfold thB at k
                 rcases k with k | k | k
                 · first | exact c_14 (by omega) | omega
                 · first | exact c_54 k.2.2 | omega
                 · first | exact k.2.2 c_90 | omega))
          · refine x_iload 1 dX11_steals_113 rfl ?_
            refine x_goto 124 dX11_steals_115 (by decide) ?_
            refine y_iast dX11_steals_124 l97 (by omega) (by decide) ?_
            refine x_iload 0 dX11_steals_125 rfl ?_
            refine x_zret rfl dX11_steals_127 (by decide) (by
              first
              | (exfalso; omega)
              | (refine ⟨_, rfl, ⟨rfl, fun a b h1 _ => rdI_k h1⟩, Or.inr ⟨rfl, fun k => ?_⟩⟩
                 unfold thB at k
                 rcases k with k | k | k
                 · first | exact c_14 (by omega) | omega
                 · first | exact c_54 k.2.2 | omega
                 · first | exact k.2.2 c_90 | omega))

/-- but for what a theft's search of the reference writes -/
def FrT (S S' : St) : Prop := S'.2 = S.2 ∧ ∀ a b, ¬ (a = 97 ∨ a = 102 ∨ a = 103) → ¬ (a = 83 ∧ (b = 36 ∨ b = 41)) → S'.1 a b = S.1 a b
theorem FrT.trans {S S1 S2 : St} (h : FrT S S1) (h' : FrT S1 S2) : FrT S S2 := ⟨h'.1.trans h.1, fun a b h1 h2 => (h'.2 a b h1 h2).trans (h.2 a b h1 h2)⟩
theorem FrT.of {S S1 : St} (h : FrL S S1) : FrT S S1 := ⟨h.1, fun a b h1 h2 => h.2 a b h1 (fun q => h2 ⟨q.1, Or.inl q.2⟩)⟩
theorem FrT.g {S S1 : St} (h : FrG S S1) : FrT S S1 := ⟨h.1, fun a b h1 h2 => h.2 a b (fun q => h1 (Or.inl q)) (fun q => h2 ⟨q.1, Or.inr q.2⟩)⟩
theorem IsM.ft {I : Isl} {S S' : St} (h : IsM I S) (hf : FrT S S') : IsM I S' := h.keep (fun j hj => hf.2 83 j (by decide) (by intro q; rcases q.2 with e | e <;> rw [e] at hj <;> revert hj <;> decide)) (fun a ha b => hf.2 a b (by intro e; rcases e with rfl | rfl | rfl <;> revert ha <;> decide) (by intro e; rw [e.1] at ha; revert ha; decide))
theorem QuX.fg {I : Isl} {R : Rs} {S S' : St} (h : QuX I R S) (f : FrG S S') : QuX I R S' := h.keep (fun b => ⟨f.2 102 b (by decide) (by omega), f.2 103 b (by decide) (by omega)⟩) (f.2 83 36 (by decide) (by decide))
theorem c_codeTh {S : St} {I : Isl} (hI : IsM I S) (hO : IOK I) {L p c s : Nat} (hw0 : MW I (thW I L p (digF c) s) S) : C 0 0 yX11_code mX11_code [.ref 83] S (pu (.int (nI (thX I L p c s))) S) := c_X11_code hI hO hw0

set_option maxHeartbeats 400000 in
set_option maxRecDepth 100000 in
theorem lp_lt1 {S : St} {I : Isl} (hI : IsM I S) (hO : IOK I) {L c0 p M : Nat} (hL : S.1 83 17 = nI L) (hL7 : L ≤ 6) (h0 : OKc I L c0) (hpp : p < iP I) (hM : M ≤ 4) {i : Nat} (hir : i < rC (tfs I L p M c0 i)) (hdM : rD (tfs I L p M c0 i) i < M) {Q : Option Value → St → Prop} (kk : ∀ S2, FrT S S2 → QuX I (tfs I L p M c0 (i + 1)) S2 → X 5 150 mX11_layTheft Q 58 [(3, .int (nI (i + 1))), (0, .ref 83), (1, .int (nI p)), (2, .int (nI M))] [] S2)  : ∀ (s : Nat) (S1 : St), (s ≤ 7 * iM I) → (FrT S S1) → (QuX I (txS I L p i (tfs I L p M c0 i) s) S1) → X 5 150 mX11_layTheft (Q) 84 [(4, .int (nI s)), (3, .int (nI i)), (0, .ref 83), (1, .int (nI p)), (2, .int (nI M))] [] S1 := by
  intro s S1
  induction hm : 7 * iM I - s using Nat.strongRecOn generalizing s S1 with
  | _ mm ih =>
    intro hs x1 x3
    have hO1 := hO.1
    have hO2 := hO.2.1
    have hO3 := hO.2.2.1
    have hO4 := hO.2.2.2.1
    have h7 := p7le hO
    have hti := tfs_inv (M := M) hO hpp h0 i
    have hok := hti.2.2.1 i hir
    have hcc := hok.lt hO
    have hwk := hok.2.ok hO
    have hI1 := hI.ft x1
    have hpr := Pre.tx I L p i (tfs I L p M c0 i) s
    have hin := Nat.lt_of_lt_of_le hir hpr.1
    have hinv := fun h => TInv.tx (p := p) hO hpp hti hir s h
    have hqi := x3.2.2.1 i hin
    have hrx := x3.2.1
    have hpi := (hpr.2 i hir).1
    have hL1 : (loS S1 (rK (tfs I L p M c0 i) i) (iM I)).1 83 17 = nI L := (loS_k (by decide)).trans ((x1.2 83 17 (by decide) (by decide)).trans hL)
    refine x_iload 0 dX11_layTheft_84 rfl ?_
    refine x_bipush (v := nI 7) dX11_layTheft_86 (by decide) ?_
    refine x_aload_n 2 dX11_layTheft_88 rfl rfl ?_
    refine y_getI fX11_181 dX11_layTheft_89 l83 rfl hI1.2.1 ?_
    refine y_imul dX11_layTheft_92 ?_
    refine y_ic_ge 182 dX11_layTheft_93 (by decide) (by omega) (by omega) (fun c_93 => ?_) (fun c_93 => ?_)
    · refine y_iinc (lv' := [(3, _), (4, _), (0, _), (1, _), (2, _)]) 1 dX11_layTheft_182 rfl (by decide) rfl ?_
      refine x_goto 58 dX11_layTheft_185 (by decide) ?_
      refine x_pick (lv' := [(3, _), (0, _), (1, _), (2, _)]) [0, 2, 3, 4] rfl ?_
      obtain rfl : s = 7 * iM I := (by omega)
      exact kk S1 x1 (by rw [tfs_t hir hdM]; exact x3)
    · refine x_aload_n 2 dX11_layTheft_96 rfl rfl ?_
      refine x_aload_n 2 dX11_layTheft_97 rfl rfl ?_
      refine x_getR fX11_68 dX11_layTheft_98 l83 rfl ?_
      refine x_iload_n 1 dX11_layTheft_101 rfl rfl ?_
      refine y_iald dX11_layTheft_102 l103 (by omega) (by decide) (by rw [hqi.1, hpi]) ?_
      refine x_callVv (as := [_]) (rest := []) vX11_255 (c_X11_look hI1 hO hcc) dX11_layTheft_103 l83 rfl rfl rfl (Nat.le_of_ble_eq_true rfl) (Nat.le_of_ble_eq_true rfl) (Nat.le_of_ble_eq_true rfl) ?_
      refine x_aload_n 2 dX11_layTheft_106 rfl rfl ?_
      refine x_iload_n 3 dX11_layTheft_107 rfl rfl ?_
      refine x_iload 0 dX11_layTheft_108 rfl ?_
      refine x_callVqi (as := [_, _]) (rest := []) vX11_317 (c_X11_steals (hI1.lo _ _) hO hwk (fun t ht => if_pos ⟨rfl, ht⟩) hL1 hL7 hpp (by omega)) dX11_layTheft_110 l83 rfl rfl rfl (Nat.le_of_ble_eq_true rfl) (Nat.le_of_ble_eq_true rfl) (Nat.le_of_ble_eq_true rfl) (fun r_110 S_110 q_110 => ?_)
      have hq2 : QuX I (txS I L p i (tfs I L p M c0 i) s) S_110 := (x3.f97 (loS_f _ _ _)).fg q_110.1
      have hf2 : FrT S S_110 := (x1.trans (FrT.of (FrL.of (loS_f _ _ _)))).trans (FrT.g q_110.1)
      refine x_if_eq 176 dX11_layTheft_113 (by decide) (fun c_113 => ?_) (fun c_113 => ?_)
      · refine y_iinc (lv' := [(4, _), (3, _), (0, _), (1, _), (2, _)]) 0 dX11_layTheft_176 rfl (by decide) rfl ?_
        refine x_goto 84 dX11_layTheft_179 (by decide) ?_
        refine x_pick (lv' := [(4, _), (3, _), (0, _), (1, _), (2, _)]) [0, 1, 2, 3, 4] rfl ?_
        first
        | (have hyin : rIn (txS I L p i (tfs I L p M c0 i) s) (thX I L p (rK (tfs I L p M c0 i) i) s) := Classical.byContradiction fun q => c_132 (hq2.2.2.2 _ hnx.1 q)
           have ex := txS_t hb
           unfold rch at ex
           rw [e2_0 hyin] at ex
           exact ih (7 * iM I - (s + 1)) (by omega) (s + 1) _ rfl (by omega) hf2 (by rw [ex]; exact hq2))
        | (have hnb := (q_110.2.resolve_left (fun k => absurd (k.1.symm.trans c_113) (by decide))).2
           exact ih (7 * iM I - (s + 1)) (by omega) (s + 1) _ rfl (by omega) hf2 (by rw [txS_f hnb]; exact hq2))
      · obtain ⟨_, hb, g2⟩ := q_110.2.resolve_right (fun k => c_113 k.1)
        have hnx : OKc I L (thX I L p (rK (tfs I L p M c0 i) i) s) := OKc.code hO (th_VS hO hok.2 hpp (by omega) hb)
        have hnl := hnx.lt hO
        have hiv2 := hinv (by omega)
        have hdle := hiv2.dle i hin
        have hcnt := hiv2.cnt
        refine x_aload_n 2 dX11_layTheft_116 rfl rfl ?_
        refine x_callVu (as := []) (rest := []) vX11_251 (c_codeTh (hI.ft hf2) hO g2) dX11_layTheft_117 l83 rfl rfl rfl (Nat.le_of_ble_eq_true rfl) (Nat.le_of_ble_eq_true rfl) (Nat.le_of_ble_eq_true rfl) ?_
        refine x_istore (lv' := [(5, _), (4, _), (3, _), (0, _), (1, _), (2, _)]) dX11_layTheft_120 (by decide) rfl ?_
        refine x_aload_n 3 dX11_layTheft_122 rfl rfl ?_
        refine x_getR fX11_65 dX11_layTheft_123 l83 rfl ?_
        refine x_iload 0 dX11_layTheft_126 rfl ?_
        refine y_iald dX11_layTheft_128 l102 (by omega) (by decide) rfl ?_
        refine x_ldcw kX11_268 dX11_layTheft_129 ?_
        rw [show (99999 : Int32) = nI 99999 from rfl]
        refine x_ic_ne 176 dX11_layTheft_132 (by decide) (fun c_132 => ?_) (fun c_132 => ?_)
        · refine y_iinc (lv' := [(4, _), (5, _), (3, _), (0, _), (1, _), (2, _)]) 1 dX11_layTheft_176 rfl (by decide) rfl ?_
          refine x_goto 84 dX11_layTheft_179 (by decide) ?_
          refine x_pick (lv' := [(4, _), (3, _), (0, _), (1, _), (2, _)]) [0, 2, 3, 4, 5] rfl ?_
          first
          | (have hyin : rIn (txS I L p i (tfs I L p M c0 i) s) (thX I L p (rK (tfs I L p M c0 i) i) s) := Classical.byContradiction fun q => c_132 (hq2.2.2.2 _ hnx.1 q)
             have ex := txS_t hb
             unfold rch at ex
             rw [e2_0 hyin] at ex
             exact ih (7 * iM I - (s + 1)) (by omega) (s + 1) _ rfl (by omega) hf2 (by rw [ex]; exact hq2))
          | (have hnb := (q_110.2.resolve_left (fun k => absurd (k.1.symm.trans c_113) (by decide))).2
             exact ih (7 * iM I - (s + 1)) (by omega) (s + 1) _ rfl (by omega) hf2 (by rw [txS_f hnb]; exact hq2))
        · have hnin := (hq2.far hnx.1).mp c_132
          have ex := txS_t hb
          unfold rch at ex
          rw [e2_1 hnin] at ex
          have hlt : rC (txS I L p i (tfs I L p M c0 i) s) < 16807 := by
            have h1 := TInv.tx (p := p) hO hpp hti hir (s + 1) (by omega)
            have h2 := h1.cnt
            have h3 := cb_le (b := fun c => dec (OKc I L c)) (7 ^ iM I)
            rw [ex] at h2
            have h4 : rC (txS I L p i (tfs I L p M c0 i) s) + 1 ≤ cb (fun c => dec (OKc I L c)) (7 ^ iM I) := h2
            omega
          refine x_aload_n 3 dX11_layTheft_135 rfl rfl ?_
          refine x_getR fX11_65 dX11_layTheft_136 l83 rfl ?_
          refine x_iload 0 dX11_layTheft_139 rfl ?_
          refine x_aload_n 3 dX11_layTheft_141 rfl rfl ?_
          refine x_getR fX11_65 dX11_layTheft_142 l83 rfl ?_
          refine x_aload_n 3 dX11_layTheft_145 rfl rfl ?_
          refine x_getR fX11_68 dX11_layTheft_146 l83 rfl ?_
          refine x_iload_n 2 dX11_layTheft_149 rfl rfl ?_
          refine y_iald dX11_layTheft_150 l103 (by omega) (by decide) ((q_110.1.2 103 i (by decide) (by omega)).trans ((loS_k (by decide)).trans hqi.1)) ?_
          refine y_iald dX11_layTheft_151 l102 (Nat.lt_of_lt_of_le hqi.2.1 h7) (by decide) ((q_110.1.2 102 _ (by decide) (by omega)).trans ((loS_k (by decide)).trans hqi.2.2.1)) ?_
          refine x_iconst (v := nI 1) dX11_layTheft_152 (by decide) ?_
          refine y_iadd dX11_layTheft_153 ?_
          refine y_iast dX11_layTheft_154 l102 (by omega) (by decide) ?_
          refine x_aload_n 3 dX11_layTheft_155 rfl rfl ?_
          refine x_getR fX11_68 dX11_layTheft_156 l83 rfl ?_
          refine x_aload_n 3 dX11_layTheft_159 rfl rfl ?_
          refine y_getI fX11_269 dX11_layTheft_160 l83 rfl (((rdI_k (by decide))).trans hq2.1) ?_
          refine x_iload 0 dX11_layTheft_163 rfl ?_
          refine y_iast dX11_layTheft_165 l103 (by omega) (by decide) ?_
          refine x_aload_n 3 dX11_layTheft_166 rfl rfl ?_
          refine x_dup dX11_layTheft_167 rfl ?_
          refine y_getI fX11_269 dX11_layTheft_168 l83 rfl ((((rdI_k (by decide))).trans (rdI_k (by decide))).trans hq2.1) ?_
          refine x_iconst (v := nI 1) dX11_layTheft_171 (by decide) ?_
          refine y_iadd dX11_layTheft_172 ?_
          refine x_putI pX11_269 dX11_layTheft_173 l83 rfl ?_
          refine y_iinc (lv' := [(4, _), (5, _), (3, _), (0, _), (1, _), (2, _)]) 1 dX11_layTheft_176 rfl (by decide) rfl ?_
          refine x_goto 84 dX11_layTheft_179 (by decide) ?_
          refine x_pick (lv' := [(4, _), (3, _), (0, _), (1, _), (2, _)]) [0, 2, 3, 4, 5] rfl ?_
          have hdd := (hpr.2 i hir).2.2.2
          rw [hdd]
          have hadd := hq2.add (b := i) (y := 0) (d := rD (tfs I L p M c0 i) i + 1) hnx.1 hnin (by omega) hlt
          rw [← ex] at hadd
          exact ih (7 * iM I - (s + 1)) (by omega) (s + 1) _ rfl (by omega) (hf2.trans (FrT.of (((FrL.refl.set (Or.inl (Or.inr (Or.inl rfl)))).set (Or.inl (Or.inr (Or.inr rfl)))).set (Or.inr ⟨rfl, rfl⟩)))) hadd

set_option maxHeartbeats 400000 in
set_option maxRecDepth 100000 in
theorem lp_lt2 {S : St} {I : Isl} (hI : IsM I S) (hO : IOK I) {L c0 p M : Nat} (hL : S.1 83 17 = nI L) (hL7 : L ≤ 6) (h0 : OKc I L c0) (hpp : p < iP I) (hM : M ≤ 4)  : ∀ (i : Nat) (S1 : St), (i ≤ 16807) → (FrT S S1) → (QuX I (tfs I L p M c0 i) S1) → X 5 150 mX11_layTheft (qv (fun S' => FrT S S' ∧ QuX I (tfE I L p M c0) S')) 58 [(3, .int (nI i)), (0, .ref 83), (1, .int (nI p)), (2, .int (nI M))] [] S1 := by
  intro i S1
  induction hm : 16808 - i using Nat.strongRecOn generalizing i S1 with
  | _ mm ih =>
    intro hi hf hq
    have hO1 := hO.1
    have hO2 := hO.2.1
    have hO3 := hO.2.2.1
    have hO4 := hO.2.2.2.1
    have h7 := p7le hO
    have hrc := hq.2.1
    have hti := tfs_inv (M := M) hO hpp h0 i
    have hqi := hq.2.2.1 i
    refine x_iload_n 0 dX11_layTheft_58 rfl rfl ?_
    refine x_aload_n 1 dX11_layTheft_59 rfl rfl ?_
    refine y_getI fX11_269 dX11_layTheft_60 l83 rfl hq.1 ?_
    refine y_ic_ge 188 dX11_layTheft_63 (by decide) (by omega) (by omega) (fun c_63 => ?_) (fun c_63 => ?_)
    · refine x_vret rfl dX11_layTheft_188 (by
        have hst : tfE I L p M c0 = tfs I L p M c0 i := tfE_stop hi (fun j h1 h2 => by
          first
          | omega
          | (have := hti.mono j h2 i h1; omega))
        rw [hst]
        exact ⟨rfl, hf, hq⟩)
    · refine x_aload_n 1 dX11_layTheft_66 rfl rfl ?_
      refine x_getR fX11_65 dX11_layTheft_67 l83 rfl ?_
      refine x_aload_n 1 dX11_layTheft_70 rfl rfl ?_
      refine x_getR fX11_68 dX11_layTheft_71 l83 rfl ?_
      refine x_iload_n 0 dX11_layTheft_74 rfl rfl ?_
      refine y_iald dX11_layTheft_75 l103 (by omega) (by decide) (hqi (by omega)).1 ?_
      refine y_iald dX11_layTheft_76 l102 (Nat.lt_of_lt_of_le (hqi (by omega)).2.1 h7) (by decide) (hqi (by omega)).2.2.1 ?_
      have hdl := hti.dle i (by omega)
      refine x_iload_n 3 dX11_layTheft_77 rfl rfl ?_
      refine y_ic_ge 188 dX11_layTheft_78 (by decide) (by omega) (by omega) (fun c_78 => ?_) (fun c_78 => ?_)
      · refine x_vret rfl dX11_layTheft_188 (by
          have hst : tfE I L p M c0 = tfs I L p M c0 i := tfE_stop hi (fun j h1 h2 => by
            first
            | omega
            | (have := hti.mono j h2 i h1; omega))
          rw [hst]
          exact ⟨rfl, hf, hq⟩)
      · refine x_iconst (v := nI 0) dX11_layTheft_81 (by decide) ?_
        refine x_istore (lv' := [(4, _), (3, _), (0, _), (1, _), (2, _)]) dX11_layTheft_82 (by decide) rfl ?_
        refine x_pick (lv' := [(4, _), (3, _), (0, _), (1, _), (2, _)]) [0, 1, 2, 3, 4] rfl ?_
        exact lp_lt1 hI hO hL hL7 h0 hpp hM (by omega) (by omega) (fun S2 f2 q2 => ih (16808 - (i + 1)) (by omega) (i + 1) S2 rfl (by omega) f2 q2) 0 S1 (Nat.zero_le _) hf hq

set_option maxHeartbeats 400000 in
set_option maxRecDepth 100000 in
theorem lp_lt3 {S : St} {I : Isl} (hI : IsM I S) (hO : IOK I) {w : Nat → Nat} (hw0 : ∀ t, t < iM I → S.1 93 t = nI (w t)) {L : Nat} (hL : S.1 83 17 = nI L) (hL7 : L ≤ 6) (hv : VS I w L) {c0 p M : Nat} (hc0 : c0 = codeF I w) (hpp : p < iP I) (hM : M ≤ 4)  : ∀ (k : Nat), (k ≤ 7 ^ iM I) → X 5 150 mX11_layTheft (qv (fun S' => FrT S S' ∧ QuX I (tfE I L p M c0) S')) 2 [(3, .int (nI k)), (0, .ref 83), (1, .int (nI p)), (2, .int (nI M))] [] (rwS S 102 0 k (fun _ => nI 99999)) := by
  intro k
  induction hm : 7 ^ iM I - k using Nat.strongRecOn generalizing k with
  | _ mm ih =>
    intro hk
    have hO1 := hO.1
    have hO2 := hO.2.1
    have hO3 := hO.2.2.1
    have hO4 := hO.2.2.2.1
    have hw := hv.ok hO
    have hw7 := hw.w7 hO
    have h7 := p7le hO
    have h0 : OKc I L c0 := by rw [hc0]; exact hv.okc hO
    have hlt := h0.lt hO
    have hfk : FrL S (rwS S 102 0 k (fun _ => nI 99999)) := ⟨rfl, fun a b h1 h2 => rwS_k (by omega)⟩
    have hI1 := hI.fl hfk
    have hw1 : ∀ t, t < iM I → ((rwS S 102 0 k (fun _ => nI 99999))).1 93 t = nI (w t) := fun t ht => (rwS_k (by decide)).trans (hw0 t ht)
    have hcw : codeF I w < 16807 := by rw [← hc0]; exact hlt
    refine x_iload_n 0 dX11_layTheft_2 rfl rfl ?_
    refine x_aload_n 1 dX11_layTheft_3 rfl rfl ?_
    refine x_callVu (as := []) (rest := [_]) vX11_265 (c_X11_stateMany hI1 hO) dX11_layTheft_4 l83 rfl rfl rfl (Nat.le_of_ble_eq_true rfl) (Nat.le_of_ble_eq_true rfl) (Nat.le_of_ble_eq_true rfl) ?_
    refine y_ic_ge 25 dX11_layTheft_7 (by decide) (by omega) (by omega) (fun c_7 => ?_) (fun c_7 => ?_)
    · refine x_aload_n 1 dX11_layTheft_25 rfl rfl ?_
      refine x_callVv (as := []) (rest := []) vX11_217 (c_X11_lookNow hI1 hO) dX11_layTheft_26 l83 rfl rfl rfl (Nat.le_of_ble_eq_true rfl) (Nat.le_of_ble_eq_true rfl) (Nat.le_of_ble_eq_true rfl) ?_
      refine x_aload_n 1 dX11_layTheft_29 rfl rfl ?_
      refine x_getR fX11_68 dX11_layTheft_30 l83 rfl ?_
      refine x_iconst (v := nI 0) dX11_layTheft_33 (by decide) ?_
      refine x_aload_n 1 dX11_layTheft_34 rfl rfl ?_
      refine x_callVu (as := []) (rest := [_, _]) vX11_251 (c_X11_code (hI1.lk _) hO (lkS_W hw1)) dX11_layTheft_35 l83 rfl rfl rfl (Nat.le_of_ble_eq_true rfl) (Nat.le_of_ble_eq_true rfl) (Nat.le_of_ble_eq_true rfl) ?_
      refine y_iast dX11_layTheft_38 l103 (by omega) (by decide) ?_
      refine x_aload_n 1 dX11_layTheft_39 rfl rfl ?_
      refine x_getR fX11_65 dX11_layTheft_40 l83 rfl ?_
      refine x_aload_n 1 dX11_layTheft_43 rfl rfl ?_
      refine x_getR fX11_68 dX11_layTheft_44 l83 rfl ?_
      refine x_iconst (v := nI 0) dX11_layTheft_47 (by decide) ?_
      refine y_iald dX11_layTheft_48 l103 (by omega) (by decide) rdI_eq ?_
      refine x_iconst (v := nI 0) dX11_layTheft_49 (by decide) ?_
      refine y_iast dX11_layTheft_50 l102 (by omega) (by decide) ?_
      refine x_aload_n 1 dX11_layTheft_51 rfl rfl ?_
      refine x_iconst (v := nI 1) dX11_layTheft_52 (by decide) ?_
      refine x_putI pX11_269 dX11_layTheft_53 l83 rfl ?_
      refine x_iconst (v := nI 0) dX11_layTheft_56 (by decide) ?_
      refine x_istore_n (lv' := [(3, _), (0, _), (1, _), (2, _)]) dX11_layTheft_57 rfl (by decide) rfl ?_
      refine x_pick (lv' := [(3, _), (0, _), (1, _), (2, _)]) [0, 1, 2, 3] rfl ?_
      obtain rfl : k = 7 ^ iM I := (by omega)
      subst hc0
      refine lp_lt2 hI hO hL hL7 h0 hpp hM 0 _ (by omega) (FrT.of ((((hfk.trans (FrL.of (lkS_f _ _))).set (Or.inl (Or.inr (Or.inr rfl)))).set (Or.inl (Or.inr (Or.inl rfl)))).set (Or.inr ⟨rfl, rfl⟩))) (QuX.start h0.1 rdI_eq ?_ ?_ (fun c hc hne => ?_))
      · rw [rdI_k (by decide), rdI_k (by decide), rdI_eq]
      · rw [rdI_k (by decide), rdI_eq]
      · rw [rdI_k (by decide), rdI_j hne, rdI_k (by decide), lkS_k (by decide), rwS_at0 hc]
    · refine x_aload_n 1 dX11_layTheft_10 rfl rfl ?_
      refine x_getR fX11_65 dX11_layTheft_11 l83 rfl ?_
      refine x_iload_n 0 dX11_layTheft_14 rfl rfl ?_
      refine x_ldcw kX11_268 dX11_layTheft_15 ?_
      rw [show (99999 : Int32) = nI 99999 from rfl]
      refine y_iast dX11_layTheft_18 l102 (by omega) (by decide) ?_
      refine y_iinc (lv' := [(3, _), (0, _), (1, _), (2, _)]) 0 dX11_layTheft_19 rfl (by decide) rfl ?_
      refine x_goto 2 dX11_layTheft_22 (by decide) ?_
      refine x_pick (lv' := [(3, _), (0, _), (1, _), (2, _)]) [0, 1, 2, 3] rfl ?_
      refine x_cast (rwS_s0 S 102 k (fun _ => nI 99999)) ?_
      exact ih (7 ^ iM I - (k + 1)) (by omega) (k + 1) rfl (by omega)

set_option maxHeartbeats 400000 in
set_option maxRecDepth 100000 in
theorem c_X11_layTheft {S : St} {I : Isl} (hI : IsM I S) (hO : IOK I) {w : Nat → Nat} (hw0 : ∀ t, t < iM I → S.1 93 t = nI (w t)) {L : Nat} (hL : S.1 83 17 = nI L) (hL7 : L ≤ 6) (hv : VS I w L) {p M : Nat} (hpp : p < iP I) (hM : M ≤ 4)  : C 5 150 yX11_layTheft mX11_layTheft [.ref 83, .int (nI p), .int (nI M)] S (qv (fun S' => FrT S S' ∧ QuX I (tfE I L p M (codeF I w)) S')) := by
  refine C.ofX (by decide) rfl (Nat.le_of_ble_eq_true rfl) ?_
  show X 5 150 mX11_layTheft (qv (fun S' => FrT S S' ∧ QuX I (tfE I L p M (codeF I w)) S')) 0 [(0, .ref 83), (1, .int (nI p)), (2, .int (nI M))] [] S
  refine x_iconst (v := nI 0) dX11_layTheft_0 (by decide) ?_
  refine x_istore_n (lv' := [(3, _), (0, _), (1, _), (2, _)]) dX11_layTheft_1 rfl (by decide) rfl ?_
  refine x_pick (lv' := [(3, _), (0, _), (1, _), (2, _)]) [0, 1, 2, 3] rfl ?_
  have hh := lp_lt3 hI hO hw0 hL hL7 hv rfl hpp hM 0 (Nat.zero_le _)
  rw [rwS_0] at hh
  exact hh
