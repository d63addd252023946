/-! ===== theft, thefts: the reference ===== -/

set_option maxHeartbeats 4000000 in
set_option maxRecDepth 100000 in
theorem c_X11_steals {S : St} {I : Isl} (hI : IsM I S) (hO : IOK I) {w : Nat → Nat} (hw : WOK I w) (hw0 : MW I w S) {L : Nat} (hL : S.1 83 17 = nI L) (hL7 : L ≤ 6) {p s : Nat} (hpp : p < iP I) (hs : s < 7 * iM I)  : C 4 120 yX11_steals mX11_steals [.ref 83, .int (nI p), .int (nI s)] S (qi (fun r S' => FrG S S' ∧ ((r = nI 1 ∧ thB I L p w s ∧ MW I (thW I L p w s) S') ∨ (r = nI 0 ∧ ¬ thB I L p w s)))) := by
  have hO1 := hO.1
  have hO2 := hO.2.1
  have hO3 := hO.2.2.1
  have hO4 := hO.2.2.2.1
  have hw7 := hw.w7 hO
  have ht : s / 7 < iM I := by omega
  have hwt7 := hw7 (s / 7) ht
  have hk5 := hO.2.2.2.2.1 (s / 7) ht
  have tt : (nI (s % 7)).toInt = ((s % 7 : Nat) : Int) := tiN (by omega)
  refine C.ofX (by decide) rfl (Nat.le_of_ble_eq_true rfl) ?_
  show X 4 120 mX11_steals (qi (fun r S' => FrG S S' ∧ ((r = nI 1 ∧ thB I L p w s ∧ MW I (thW I L p w s) S') ∨ (r = nI 0 ∧ ¬ thB I L p w s)))) 0 [(0, .ref 83), (1, .int (nI p)), (2, .int (nI s))] [] S
  refine x_iload_n 2 dX11_steals_0 rfl rfl ?_
  refine x_bipush (v := nI 7) dX11_steals_1 (by decide) ?_
  refine y_idiv dX11_steals_3 (by omega) (by omega) (by omega) ?_
  refine x_istore_n (lv' := [(3, _), (0, _), (1, _), (2, _)]) dX11_steals_4 rfl (by decide) rfl ?_
  refine x_iload_n 3 dX11_steals_5 rfl rfl ?_
  refine x_bipush (v := nI 7) dX11_steals_6 (by decide) ?_
  refine y_irem dX11_steals_8 (by omega) (by omega) (by omega) ?_
  refine x_istore (lv' := [(4, _), (3, _), (0, _), (1, _), (2, _)]) dX11_steals_9 (by decide) rfl ?_
  refine x_aload_n 2 dX11_steals_11 rfl rfl ?_
  refine x_iload 0 dX11_steals_12 rfl ?_
  refine x_callVb (as := [_]) (rest := []) vX11_196 (c_X11_isOne (w := w) hI hO) dX11_steals_14 l83 rfl rfl rfl (Nat.le_of_ble_eq_true rfl) (Nat.le_of_ble_eq_true rfl) (Nat.le_of_ble_eq_true rfl) (fun c_14 => ?_) (fun c_14 => ?_)
  · refine u_if_eq 35 dX11_steals_17 (by decide) (by decide) ?_
    refine x_iload 0 dX11_steals_20 rfl ?_
    refine x_iload_n 3 dX11_steals_22 rfl rfl ?_
    refine y_ic_eq 35 dX11_steals_23 (by decide) (by omega) (by omega) (fun c_23 => ?_) (fun c_23 => ?_)
    · refine x_iload 0 dX11_steals_35 rfl ?_
      refine x_iload_n 3 dX11_steals_37 rfl rfl ?_
      refine y_ic_ne 68 dX11_steals_38 (by decide) (by omega) (by omega) (fun c_38 => ?_) (fun c_38 => ?_)
      · refine x_iload 0 dX11_steals_68 rfl ?_
        refine x_iconst (v := nI 4) dX11_steals_70 (by decide) ?_
        refine y_ic_ne 100 dX11_steals_71 (by decide) (by omega) (by omega) (fun c_71 => ?_) (fun c_71 => ?_)
        · refine x_iconst (v := nI 0) dX11_steals_100 (by decide) ?_
          refine x_istore (lv' := [(5, _), (4, _), (3, _), (0, _), (1, _), (2, _)]) dX11_steals_101 (by decide) rfl ?_
          refine x_aload_n 3 dX11_steals_103 rfl rfl ?_
          refine x_getR fX11_50 dX11_steals_104 l83 rfl ?_
          refine x_iload_n 2 dX11_steals_107 rfl rfl ?_
          refine x_iload 0 dX11_steals_108 rfl ?_
          refine y_if_eq 118 dX11_steals_110 (by decide) (by omega) (fun c_110 => ?_) (fun c_110 => ?_)
          · refine x_aload_n 3 dX11_steals_118 rfl rfl ?_
            refine x_getR fX11_50 dX11_steals_119 l83 rfl ?_
            refine x_iload_n 2 dX11_steals_122 rfl rfl ?_
            refine y_iald dX11_steals_123 l97 (by omega) (by decide) (hw0 _ ht) ?_
            refine y_iast dX11_steals_124 l97 (by omega) (by decide) ?_
            refine x_iload 0 dX11_steals_125 rfl ?_
            refine x_zret rfl dX11_steals_127 (by decide) (by
              first
              | (exfalso; omega)
              | (refine ⟨_, rfl, ⟨rfl, fun a b h1 _ => rdI_k h1⟩, Or.inr ⟨rfl, fun k => ?_⟩⟩
                 unfold thB at k
                 rcases k with k | k | k
                 · first | exact c_14 (by omega) | omega
                 · first | exact c_54 k.2.2 | omega
                 · first | exact k.2.2 c_90 | omega))
          · refine x_iload 1 dX11_steals_113 rfl ?_
            refine x_goto 124 dX11_steals_115 (by decide) ?_
            refine y_iast dX11_steals_124 l97 (by omega) (by decide) ?_
            refine x_iload 0 dX11_steals_125 rfl ?_
            refine x_zret rfl dX11_steals_127 (by decide) (by
              first
              | (exfalso; omega)
              | (refine ⟨_, rfl, ⟨rfl, fun a b h1 _ => rdI_k h1⟩, Or.inr ⟨rfl, fun k => ?_⟩⟩
                 unfold thB at k
                 rcases k with k | k | k
                 · first | exact c_14 (by omega) | omega
                 · first | exact c_54 k.2.2 | omega
                 · first | exact k.2.2 c_90 | omega))
        · refine x_aload_n 2 dX11_steals_74 rfl rfl ?_
          refine x_getR fX11_50 dX11_steals_75 l83 rfl ?_
          refine x_iload_n 1 dX11_steals_78 rfl rfl ?_
          refine y_iald dX11_steals_79 l97 (by omega) (by decide) (hw0 _ ht) ?_
          refine x_iload_n 3 dX11_steals_80 rfl rfl ?_
          refine y_ic_ne 100 dX11_steals_81 (by decide) (by omega) (by omega) (fun c_81 => ?_) (fun c_81 => ?_)
          · refine x_iconst (v := nI 0) dX11_steals_100 (by decide) ?_
            refine x_istore (lv' := [(5, _), (4, _), (3, _), (0, _), (1, _), (2, _)]) dX11_steals_101 (by decide) rfl ?_
            refine x_aload_n 3 dX11_steals_103 rfl rfl ?_
            refine x_getR fX11_50 dX11_steals_104 l83 rfl ?_
            refine x_iload_n 2 dX11_steals_107 rfl rfl ?_
            refine x_iload 0 dX11_steals_108 rfl ?_
            refine y_if_eq 118 dX11_steals_110 (by decide) (by omega) (fun c_110 => ?_) (fun c_110 => ?_)
            · refine x_aload_n 3 dX11_steals_118 rfl rfl ?_
              refine x_getR fX11_50 dX11_steals_119 l83 rfl ?_
              refine x_iload_n 2 dX11_steals_122 rfl rfl ?_
              refine y_iald dX11_steals_123 l97 (by omega) (by decide) (hw0 _ ht) ?_
              refine y_iast dX11_steals_124 l97 (by omega) (by decide) ?_
              refine x_iload 0 dX11_steals_125 rfl ?_
              refine x_zret rfl dX11_steals_127 (by decide) (by
                first
                | (exfalso; omega)
                | (refine ⟨_, rfl, ⟨rfl, fun a b h1 _ => rdI_k h1⟩, Or.inr ⟨rfl, fun k => ?_⟩⟩
                   unfold thB at k
                   rcases k with k | k | k
                   · first | exact c_14 (by omega) | omega
                   · first | exact c_54 k.2.2 | omega
                   · first | exact k.2.2 c_90 | omega))
            · refine x_iload 1 dX11_steals_113 rfl ?_
              refine x_goto 124 dX11_steals_115 (by decide) ?_
              refine y_iast dX11_steals_124 l97 (by omega) (by decide) ?_
              refine x_iload 0 dX11_steals_125 rfl ?_
              refine x_zret rfl dX11_steals_127 (by decide) (by
                first
                | (exfalso; omega)
                | (refine ⟨_, rfl, ⟨rfl, fun a b h1 _ => rdI_k h1⟩, Or.inr ⟨rfl, fun k => ?_⟩⟩
                   unfold thB at k
                   rcases k with k | k | k
                   · first | exact c_14 (by omega) | omega
                   · first | exact c_54 k.2.2 | omega
                   · first | exact k.2.2 c_90 | omega))
          · refine x_aload_n 2 dX11_steals_84 rfl rfl ?_
            refine x_getR fX11_29 dX11_steals_85 l83 rfl ?_
            refine x_iload_n 1 dX11_steals_88 rfl rfl ?_
            refine y_iald dX11_steals_89 l90 (by omega) (by decide) (hI.2.2.2.2.1 _ ht) ?_
            refine x_callSb (as := [_]) (rest := []) sX11_156 (c_X11_isLivingKind hk5) dX11_steals_90 rfl rfl (Nat.le_of_ble_eq_true rfl) (Nat.le_of_ble_eq_true rfl) (Nat.le_of_ble_eq_true rfl) (fun c_90 => ?_) (fun c_90 => ?_)
            · refine t_if_ne 100 dX11_steals_93 (by decide) (by decide) ?_
              refine x_iconst (v := nI 0) dX11_steals_100 (by decide) ?_
              refine x_istore (lv' := [(5, _), (4, _), (3, _), (0, _), (1, _), (2, _)]) dX11_steals_101 (by decide) rfl ?_
              refine x_aload_n 3 dX11_steals_103 rfl rfl ?_
              refine x_getR fX11_50 dX11_steals_104 l83 rfl ?_
              refine x_iload_n 2 dX11_steals_107 rfl rfl ?_
              refine x_iload 0 dX11_steals_108 rfl ?_
              refine y_if_eq 118 dX11_steals_110 (by decide) (by omega) (fun c_110 => ?_) (fun c_110 => ?_)
              · refine x_aload_n 3 dX11_steals_118 rfl rfl ?_
                refine x_getR fX11_50 dX11_steals_119 l83 rfl ?_
                refine x_iload_n 2 dX11_steals_122 rfl rfl ?_
                refine y_iald dX11_steals_123 l97 (by omega) (by decide) (hw0 _ ht) ?_
                refine y_iast dX11_steals_124 l97 (by omega) (by decide) ?_
                refine x_iload 0 dX11_steals_125 rfl ?_
                refine x_zret rfl dX11_steals_127 (by decide) (by
                  first
                  | (exfalso; omega)
                  | (refine ⟨_, rfl, ⟨rfl, fun a b h1 _ => rdI_k h1⟩, Or.inr ⟨rfl, fun k => ?_⟩⟩
                     unfold thB at k
                     rcases k with k | k | k
                     · first | exact c_14 (by omega) | omega
                     · first | exact c_54 k.2.2 | omega
                     · first | exact k.2.2 c_90 | omega))
              · refine x_iload 1 dX11_steals_113 rfl ?_
                refine x_goto 124 dX11_steals_115 (by decide) ?_
                refine y_iast dX11_steals_124 l97 (by omega) (by decide) ?_
                refine x_iload 0 dX11_steals_125 rfl ?_
                refine x_zret rfl dX11_steals_127 (by decide) (by
                  first
                  | (exfalso; omega)
                  | (refine ⟨_, rfl, ⟨rfl, fun a b h1 _ => rdI_k h1⟩, Or.inr ⟨rfl, fun k => ?_⟩⟩
                     unfold thB at k
                     rcases k with k | k | k
                     · first | exact c_14 (by omega) | omega
                     · first | exact c_54 k.2.2 | omega
                     · first | exact k.2.2 c_90 | omega))
            · refine u_if_ne 100 dX11_steals_93 (by decide) (by decide) ?_
              refine x_iconst (v := nI 1) dX11_steals_96 (by decide) ?_
              refine x_goto 101 dX11_steals_97 (by decide) ?_
              refine x_istore (lv' := [(5, _), (4, _), (3, _), (0, _), (1, _), (2, _)]) dX11_steals_101 (by decide) rfl ?_
              refine x_aload_n 3 dX11_steals_103 rfl rfl ?_
              refine x_getR fX11_50 dX11_steals_104 l83 rfl ?_
              refine x_iload_n 2 dX11_steals_107 rfl rfl ?_
              refine x_iload 0 dX11_steals_108 rfl ?_
              refine y_if_eq 118 dX11_steals_110 (by decide) (by omega) (fun c_110 => ?_) (fun c_110 => ?_)
              · refine x_aload_n 3 dX11_steals_118 rfl rfl ?_
                refine x_getR fX11_50 dX11_steals_119 l83 rfl ?_
                refine x_iload_n 2 dX11_steals_122 rfl rfl ?_
                refine y_iald dX11_steals_123 l97 (by omega) (by decide) (hw0 _ ht) ?_
                refine y_iast dX11_steals_124 l97 (by omega) (by decide) ?_
                refine x_iload 0 dX11_steals_125 rfl ?_
                refine x_zret rfl dX11_steals_127 (by decide) (by
                  first
                  | (exfalso; omega)
                  | (have hne : ¬ (s % 7 < iP I ∧ ¬ s % 7 = p) := fun q => by first | exact c_14 (by omega) | omega
                     refine ⟨_, rfl, ⟨rfl, fun a b h1 _ => rdI_k h1⟩, Or.inl ⟨rfl, ?_, fun t ht => ?_⟩⟩
                     · unfold thB
                       first
                       | exact Or.inr (Or.inl ⟨by omega, by omega, by rw [show p = s % 7 by omega]; rw [show s % 7 = p by omega] at *; exact c_54⟩)
                       | exact Or.inr (Or.inr ⟨by omega, by omega, c_90⟩)
                     · unfold thW
                       rw [e2_1 hne]
                       by_cases q : t = s / 7
                       · rw [q, upW_eq, rdI_eq]
                       · rw [upW_ne q, rdI_j q]; exact hw0 t ht))
              · refine x_iload 1 dX11_steals_113 rfl ?_
                refine x_goto 124 dX11_steals_115 (by decide) ?_
                refine y_iast dX11_steals_124 l97 (by omega) (by decide) ?_
                refine x_iload 0 dX11_steals_125 rfl ?_
                refine x_zret rfl dX11_steals_127 (by decide) (by
                  first
                  | (exfalso; omega)
                  | (have hne : ¬ (s % 7 < iP I ∧ ¬ s % 7 = p) := fun q => by first | exact c_14 (by omega) | omega
                     refine ⟨_, rfl, ⟨rfl, fun a b h1 _ => rdI_k h1⟩, Or.inl ⟨rfl, ?_, fun t ht => ?_⟩⟩
                     · unfold thB
                       first
                       | exact Or.inr (Or.inl ⟨by omega, by omega, by rw [show p = s % 7 by omega]; rw [show s % 7 = p by omega] at *; exact c_54⟩)
                       | exact Or.inr (Or.inr ⟨by omega, by omega, c_90⟩)
                     · unfold thW
                       rw [e2_1 hne]
                       by_cases q : t = s / 7
                       · rw [q, upW_eq, rdI_eq]
                       · rw [upW_ne q, rdI_j q]; exact hw0 t ht))
      · refine x_aload_n 2 dX11_steals_41 rfl rfl ?_
        refine x_getR fX11_50 dX11_steals_42 l83 rfl ?_
        refine x_iload_n 1 dX11_steals_45 rfl rfl ?_
        refine y_iald dX11_steals_46 l97 (by omega) (by decide) (hw0 _ ht) ?_
        refine x_iconst (v := nI 4) dX11_steals_47 (by decide) ?_
        refine y_ic_ne 64 dX11_steals_48 (by decide) (by omega) (by omega) (fun c_48 => ?_) (fun c_48 => ?_)
        · refine x_iconst (v := nI 0) dX11_steals_64 (by decide) ?_
          refine x_goto 101 dX11_steals_65 (by decide) ?_
          refine x_istore (lv' := [(5, _), (4, _), (3, _), (0, _), (1, _), (2, _)]) dX11_steals_101 (by decide) rfl ?_
          refine x_aload_n 3 dX11_steals_103 rfl rfl ?_
          refine x_getR fX11_50 dX11_steals_104 l83 rfl ?_
          refine x_iload_n 2 dX11_steals_107 rfl rfl ?_
          refine x_iload 0 dX11_steals_108 rfl ?_
          refine y_if_eq 118 dX11_steals_110 (by decide) (by omega) (fun c_110 => ?_) (fun c_110 => ?_)
          · refine x_aload_n 3 dX11_steals_118 rfl rfl ?_
            refine x_getR fX11_50 dX11_steals_119 l83 rfl ?_
            refine x_iload_n 2 dX11_steals_122 rfl rfl ?_
            refine y_iald dX11_steals_123 l97 (by omega) (by decide) (hw0 _ ht) ?_
            refine y_iast dX11_steals_124 l97 (by omega) (by decide) ?_
            refine x_iload 0 dX11_steals_125 rfl ?_
            refine x_zret rfl dX11_steals_127 (by decide) (by
              first
              | (exfalso; omega)
              | (refine ⟨_, rfl, ⟨rfl, fun a b h1 _ => rdI_k h1⟩, Or.inr ⟨rfl, fun k => ?_⟩⟩
                 unfold thB at k
                 rcases k with k | k | k
                 · first | exact c_14 (by omega) | omega
                 · first | exact c_54 k.2.2 | omega
                 · first | exact k.2.2 c_90 | omega))
          · refine x_iload 1 dX11_steals_113 rfl ?_
            refine x_goto 124 dX11_steals_115 (by decide) ?_
            refine y_iast dX11_steals_124 l97 (by omega) (by decide) ?_
            refine x_iload 0 dX11_steals_125 rfl ?_
            refine x_zret rfl dX11_steals_127 (by decide) (by
              first
              | (exfalso; omega)
              | (refine ⟨_, rfl, ⟨rfl, fun a b h1 _ => rdI_k h1⟩, Or.inr ⟨rfl, fun k => ?_⟩⟩
                 unfold thB at k
                 rcases k with k | k | k
                 · first | exact c_14 (by omega) | omega
                 · first | exact c_54 k.2.2 | omega
                 · first | exact k.2.2 c_90 | omega))
        · refine x_aload_n 2 dX11_steals_51 rfl rfl ?_
          refine x_iload_n 1 dX11_steals_52 rfl rfl ?_
          refine x_iload_n 3 dX11_steals_53 rfl rfl ?_
          refine x_callVb (as := [_, _]) (rest := []) vX11_211 (c_X11_isWithin (t := s / 7) (to := p) hI hO hw0 hw7 hL (by omega) ht (by omega)) dX11_steals_54 l83 rfl rfl rfl (Nat.le_of_ble_eq_true rfl) (Nat.le_of_ble_eq_true rfl) (Nat.le_of_ble_eq_true rfl) (fun c_54 => ?_) (fun c_54 => ?_)
          · refine u_if_eq 64 dX11_steals_57 (by decide) (by decide) ?_
            refine x_iconst (v := nI 1) dX11_steals_60 (by decide) ?_
            refine x_goto 101 dX11_steals_61 (by decide) ?_
            refine x_istore (lv' := [(5, _), (4, _), (3, _), (0, _), (1, _), (2, _)]) dX11_steals_101 (by decide) rfl ?_
            refine x_aload_n 3 dX11_steals_103 rfl rfl ?_
            refine x_getR fX11_50 dX11_steals_104 l83 rfl ?_
            refine x_iload_n 2 dX11_steals_107 rfl rfl ?_
            refine x_iload 0 dX11_steals_108 rfl ?_
            refine y_if_eq 118 dX11_steals_110 (by decide) (by omega) (fun c_110 => ?_) (fun c_110 => ?_)
            · refine x_aload_n 3 dX11_steals_118 rfl rfl ?_
              refine x_getR fX11_50 dX11_steals_119 l83 rfl ?_
              refine x_iload_n 2 dX11_steals_122 rfl rfl ?_
              refine y_iald dX11_steals_123 l97 (by omega) (by decide) (hw0 _ ht) ?_
              refine y_iast dX11_steals_124 l97 (by omega) (by decide) ?_
              refine x_iload 0 dX11_steals_125 rfl ?_
              refine x_zret rfl dX11_steals_127 (by decide) (by
                first
                | (exfalso; omega)
                | (have hne : ¬ (s % 7 < iP I ∧ ¬ s % 7 = p) := fun q => by first | exact c_14 (by omega) | omega
                   refine ⟨_, rfl, ⟨rfl, fun a b h1 _ => rdI_k h1⟩, Or.inl ⟨rfl, ?_, fun t ht => ?_⟩⟩
                   · unfold thB
                     first
                     | exact Or.inr (Or.inl ⟨by omega, by omega, by rw [show p = s % 7 by omega]; rw [show s % 7 = p by omega] at *; exact c_54⟩)
                     | exact Or.inr (Or.inr ⟨by omega, by omega, c_90⟩)
                   · unfold thW
                     rw [e2_1 hne]
                     by_cases q : t = s / 7
                     · rw [q, upW_eq, rdI_eq]
                     · rw [upW_ne q, rdI_j q]; exact hw0 t ht))
            · refine x_iload 1 dX11_steals_113 rfl ?_
              refine x_goto 124 dX11_steals_115 (by decide) ?_
              refine y_iast dX11_steals_124 l97 (by omega) (by decide) ?_
              refine x_iload 0 dX11_steals_125 rfl ?_
              refine x_zret rfl dX11_steals_127 (by decide) (by
                first
                | (exfalso; omega)
                | (have hne : ¬ (s % 7 < iP I ∧ ¬ s % 7 = p) := fun q => by first | exact c_14 (by omega) | omega
                   refine ⟨_, rfl, ⟨rfl, fun a b h1 _ => rdI_k h1⟩, Or.inl ⟨rfl, ?_, fun t ht => ?_⟩⟩
                   · unfold thB
                     first
                     | exact Or.inr (Or.inl ⟨by omega, by omega, by rw [show p = s % 7 by omega]; rw [show s % 7 = p by omega] at *; exact c_54⟩)
                     | exact Or.inr (Or.inr ⟨by omega, by omega, c_90⟩)
                   · unfold thW
                     rw [e2_1 hne]
                     by_cases q : t = s / 7
                     · rw [q, upW_eq, rdI_eq]
                     · rw [upW_ne q, rdI_j q]; exact hw0 t ht))
          · refine t_if_eq 64 dX11_steals_57 (by decide) (by decide) ?_
            refine x_iconst (v := nI 0) dX11_steals_64 (by decide) ?_
            refine x_goto 101 dX11_steals_65 (by decide) ?_
            refine x_istore (lv' := [(5, _), (4, _), (3, _), (0, _), (1, _), (2, _)]) dX11_steals_101 (by decide) rfl ?_
            refine x_aload_n 3 dX11_steals_103 rfl rfl ?_
            refine x_getR fX11_50 dX11_steals_104 l83 rfl ?_
            refine x_iload_n 2 dX11_steals_107 rfl rfl ?_
            refine x_iload 0 dX11_steals_108 rfl ?_
            refine y_if_eq 118 dX11_steals_110 (by decide) (by omega) (fun c_110 => ?_) (fun c_110 => ?_)
            · refine x_aload_n 3 dX11_steals_118 rfl rfl ?_
              refine x_getR fX11_50 dX11_steals_119 l83 rfl ?_
              refine x_iload_n 2 dX11_steals_122 rfl rfl ?_
              refine y_iald dX11_steals_123 l97 (by omega) (by decide) (hw0 _ ht) ?_
              refine y_iast dX11_steals_124 l97 (by omega) (by decide) ?_
              refine x_iload 0 dX11_steals_125 rfl ?_
              refine x_zret rfl dX11_steals_127 (by decide) (by
                first
                | (exfalso; omega)
                | (refine ⟨_, rfl, ⟨rfl, fun a b h1 _ => rdI_k h1⟩, Or.inr ⟨rfl, fun k => ?_⟩⟩
                   unfold thB at k
                   rcases k with k | k | k
                   · first | exact c_14 (by omega) | omega
                   · first | exact c_54 k.2.2 | omega
                   · first | exact k.2.2 c_90 | omega))
            · refine x_iload 1 dX11_steals_113 rfl ?_
              refine x_goto 124 dX11_steals_115 (by decide) ?_
              refine y_iast dX11_steals_124 l97 (by omega) (by decide) ?_
              refine x_iload 0 dX11_steals_125 rfl ?_
              refine x_zret rfl dX11_steals_127 (by decide) (by
                first
                | (exfalso; omega)
                | (refine ⟨_, rfl, ⟨rfl, fun a b h1 _ => rdI_k h1⟩, Or.inr ⟨rfl, fun k => ?_⟩⟩
                   unfold thB at k
                   rcases k with k | k | k
                   · first | exact c_14 (by omega) | omega
                   · first | exact c_54 k.2.2 | omega
                   · first | exact k.2.2 c_90 | omega))
    · refine x_aload_n 2 dX11_steals_26 rfl rfl ?_
      refine x_iload_n 3 dX11_steals_27 rfl rfl ?_
      refine x_iload_n 1 dX11_steals_28 rfl rfl ?_
      refine x_iload 0 dX11_steals_29 rfl ?_
      refine x_callVqi (as := [_, _, _]) (rest := []) vX11_314 (c_X11_gives (p := p) (t := s / 7) (q := s % 7) hI hO hw hL hL7 hpp ht (by omega) hw0) dX11_steals_31 l83 rfl rfl rfl (Nat.le_of_ble_eq_true rfl) (Nat.le_of_ble_eq_true rfl) (Nat.le_of_ble_eq_true rfl) (fun r_31 S_31 q_31 => ?_)
      refine x_zret rfl dX11_steals_34 (q_31.2.elim (fun h => Or.inr h.1) (fun h => Or.inl h.1)) (by
        have hpe : s % 7 < iP I ∧ ¬ s % 7 = p := ⟨by omega, by omega⟩
        refine ⟨_, rfl, q_31.1, ?_⟩
        rcases q_31.2 with ⟨g1, g2, g3, g4, _, g6⟩ | ⟨g1, g2⟩
        · exact Or.inl ⟨g1, Or.inl ⟨hpe.1, hpe.2, g2, g4⟩, by unfold thW; rw [e2_0 hpe]; exact g6⟩
        · refine Or.inr ⟨g1, fun k => ?_⟩
          unfold thB at k
          rcases k with k | k | k
          · exact g2 ⟨k.2.2.1, fun e => k.2.1 e.symm, k.2.2.2⟩
          · omega
          · omega)
  · refine t_if_eq 35 dX11_steals_17 (by decide) (by decide) ?_
    refine x_iload 0 dX11_steals_35 rfl ?_
    refine x_iload_n 3 dX11_steals_37 rfl rfl ?_
    refine y_ic_ne 68 dX11_steals_38 (by decide) (by omega) (by omega) (fun c_38 => ?_) (fun c_38 => ?_)
    · refine x_iload 0 dX11_steals_68 rfl ?_
      refine x_iconst (v := nI 4) dX11_steals_70 (by decide) ?_
      refine y_ic_ne 100 dX11_steals_71 (by decide) (by omega) (by omega) (fun c_71 => ?_) (fun c_71 => ?_)
      · refine x_iconst (v := nI 0) dX11_steals_100 (by decide) ?_
        refine x_istore (lv' := [(5, _), (4, _), (3, _), (0, _), (1, _), (2, _)]) dX11_steals_101 (by decide) rfl ?_
        refine x_aload_n 3 dX11_steals_103 rfl rfl ?_
        refine x_getR fX11_50 dX11_steals_104 l83 rfl ?_
        refine x_iload_n 2 dX11_steals_107 rfl rfl ?_
        refine x_iload 0 dX11_steals_108 rfl ?_
        refine y_if_eq 118 dX11_steals_110 (by decide) (by omega) (fun c_110 => ?_) (fun c_110 => ?_)
        · refine x_aload_n 3 dX11_steals_118 rfl rfl ?_
          refine x_getR fX11_50 dX11_steals_119 l83 rfl ?_
          refine x_iload_n 2 dX11_steals_122 rfl rfl ?_
          refine y_iald dX11_steals_123 l97 (by omega) (by decide) (hw0 _ ht) ?_
          refine y_iast dX11_steals_124 l97 (by omega) (by decide) ?_
          refine x_iload 0 dX11_steals_125 rfl ?_
          refine x_zret rfl dX11_steals_127 (by decide) (by
            first
            | (exfalso; omega)
            | (refine ⟨_, rfl, ⟨rfl, fun a b h1 _ => rdI_k h1⟩, Or.inr ⟨rfl, fun k => ?_⟩⟩
               unfold thB at k
               rcases k with k | k | k
               · first | exact c_14 (by omega) | omega
               · first | exact c_54 k.2.2 | omega
               · first | exact k.2.2 c_90 | omega))
        · refine x_iload 1 dX11_steals_113 rfl ?_
          refine x_goto 124 dX11_steals_115 (by decide) ?_
          refine y_iast dX11_steals_124 l97 (by omega) (by decide) ?_
          refine x_iload 0 dX11_steals_125 rfl ?_
          refine x_zret rfl dX11_steals_127 (by decide) (by
            first
            | (exfalso; omega)
            | (refine ⟨_, rfl, ⟨rfl, fun a b h1 _ => rdI_k h1⟩, Or.inr ⟨rfl, fun k => ?_⟩⟩
               unfold thB at k
               rcases k with k | k | k
               · first | exact c_14 (by omega) | omega
               · first | exact c_54 k.2.2 | omega
               · first | exact k.2.2 c_90 | omega))
      · refine x_aload_n 2 dX11_steals_74 rfl rfl ?_
        refine x_getR fX11_50 dX11_steals_75 l83 rfl ?_
        refine x_iload_n 1 dX11_steals_78 rfl rfl ?_
        refine y_iald dX11_steals_79 l97 (by omega) (by decide) (hw0 _ ht) ?_
        refine x_iload_n 3 dX11_steals_80 rfl rfl ?_
        refine y_ic_ne 100 dX11_steals_81 (by decide) (by omega) (by omega) (fun c_81 => ?_) (fun c_81 => ?_)
        · refine x_iconst (v := nI 0) dX11_steals_100 (by decide) ?_
          refine x_istore (lv' := [(5, _), (4, _), (3, _), (0, _), (1, _), (2, _)]) dX11_steals_101 (by decide) rfl ?_
          refine x_aload_n 3 dX11_steals_103 rfl rfl ?_
          refine x_getR fX11_50 dX11_steals_104 l83 rfl ?_
          refine x_iload_n 2 dX11_steals_107 rfl rfl ?_
          refine x_iload 0 dX11_steals_108 rfl ?_
          refine y_if_eq 118 dX11_steals_110 (by decide) (by omega) (fun c_110 => ?_) (fun c_110 => ?_)
          · refine x_aload_n 3 dX11_steals_118 rfl rfl ?_
            refine x_getR fX11_50 dX11_steals_119 l83 rfl ?_
            refine x_iload_n 2 dX11_steals_122 rfl rfl ?_
            refine y_iald dX11_steals_123 l97 (by omega) (by decide) (hw0 _ ht) ?_
            refine y_iast dX11_steals_124 l97 (by omega) (by decide) ?_
            refine x_iload 0 dX11_steals_125 rfl ?_
            refine x_zret rfl dX11_steals_127 (by decide) (by
              first
              | (exfalso; omega)
              | (refine ⟨_, rfl, ⟨rfl, fun a b h1 _ => rdI_k h1⟩, Or.inr ⟨rfl, fun k => ?_⟩⟩
                 unfold thB at k
                 rcases k with k | k | k
                 · first | exact c_14 (by omega) | omega
                 · first | exact c_54 k.2.2 | omega
                 · first | exact k.2.2 c_90 | omega))
          · refine x_iload 1 dX11_steals_113 rfl ?_
            refine x_goto 124 dX11_steals_115 (by decide) ?_
            refine y_iast dX11_steals_124 l97 (by omega) (by decide) ?_
            refine x_iload 0 dX11_steals_125 rfl ?_
            refine x_zret rfl dX11_steals_127 (by decide) (by
              first
              | (exfalso; omega)
              | (refine ⟨_, rfl, ⟨rfl, fun a b h1 _ => rdI_k h1⟩, Or.inr ⟨rfl, fun k => ?_⟩⟩
                 unfold thB at k
                 rcases k with k | k | k
                 · first | exact c_14 (by omega) | omega
                 · first | exact c_54 k.2.2 | omega
                 · first | exact k.2.2 c_90 | omega))
        · refine x_aload_n 2 dX11_steals_84 rfl rfl ?_
          refine x_getR fX11_29 dX11_steals_85 l83 rfl ?_
          refine x_iload_n 1 dX11_steals_88 rfl rfl ?_
          refine y_iald dX11_steals_89 l90 (by omega) (by decide) (hI.2.2.2.2.1 _ ht) ?_
          refine x_callSb (as := [_]) (rest := []) sX11_156 (c_X11_isLivingKind hk5) dX11_steals_90 rfl rfl (Nat.le_of_ble_eq_true rfl) (Nat.le_of_ble_eq_true rfl) (Nat.le_of_ble_eq_true rfl) (fun c_90 => ?_) (fun c_90 => ?_)
          · refine t_if_ne 100 dX11_steals_93 (by decide) (by decide) ?_
            refine x_iconst (v := nI 0) dX11_steals_100 (by decide) ?_
            refine x_istore (lv' := [(5, _), (4, _), (3, _), (0, _), (1, _), (2, _)]) dX11_steals_101 (by decide) rfl ?_
            refine x_aload_n 3 dX11_steals_103 rfl rfl ?_
            refine x_getR fX11_50 dX11_steals_104 l83 rfl ?_
            refine x_iload_n 2 dX11_steals_107 rfl rfl ?_
            refine x_iload 0 dX11_steals_108 rfl ?_
            refine y_if_eq 118 dX11_steals_110 (by decide) (by omega) (fun c_110 => ?_) (fun c_110 => ?_)
            · refine x_aload_n 3 dX11_steals_118 rfl rfl ?_
              refine x_getR fX11_50 dX11_steals_119 l83 rfl ?_
              refine x_iload_n 2 dX11_steals_122 rfl rfl ?_
              refine y_iald dX11_steals_123 l97 (by omega) (by decide) (hw0 _ ht) ?_
              refine y_iast dX11_steals_124 l97 (by omega) (by decide) ?_
              refine x_iload 0 dX11_steals_125 rfl ?_
              refine x_zret rfl dX11_steals_127 (by decide) (by
                first
                | (exfalso; omega)
                | (refine ⟨_, rfl, ⟨rfl, fun a b h1 _ => rdI_k h1⟩, Or.inr ⟨rfl, fun k => ?_⟩⟩
                   unfold thB at k
                   rcases k with k | k | k
                   · first | exact c_14 (by omega) | omega
                   · first | exact c_54 k.2.2 | omega
                   · first | exact k.2.2 c_90 | omega))
            · refine x_iload 1 dX11_steals_113 rfl ?_
              refine x_goto 124 dX11_steals_115 (by decide) ?_
              refine y_iast dX11_steals_124 l97 (by omega) (by decide) ?_
              refine x_iload 0 dX11_steals_125 rfl ?_
              refine x_zret rfl dX11_steals_127 (by decide) (by
                first
                | (exfalso; omega)
                | (refine ⟨_, rfl, ⟨rfl, fun a b h1 _ => rdI_k h1⟩, Or.inr ⟨rfl, fun k => ?_⟩⟩
                   unfold thB at k
                   rcases k with k | k | k
                   · first | exact c_14 (by omega) | omega
                   · first | exact c_54 k.2.2 | omega
                   · first | exact k.2.2 c_90 | omega))
          · refine u_if_ne 100 dX11_steals_93 (by decide) (by decide) ?_
            refine x_iconst (v := nI 1) dX11_steals_96 (by decide) ?_
            refine x_goto 101 dX11_steals_97 (by decide) ?_
            refine x_istore (lv' := [(5, _), (4, _), (3, _), (0, _), (1, _), (2, _)]) dX11_steals_101 (by decide) rfl ?_
            refine x_aload_n 3 dX11_steals_103 rfl rfl ?_
            refine x_getR fX11_50 dX11_steals_104 l83 rfl ?_
            refine x_iload_n 2 dX11_steals_107 rfl rfl ?_
            refine x_iload 0 dX11_steals_108 rfl ?_
            refine y_if_eq 118 dX11_steals_110 (by decide) (by omega) (fun c_110 => ?_) (fun c_110 => ?_)
            · refine x_aload_n 3 dX11_steals_118 rfl rfl ?_
              refine x_getR fX11_50 dX11_steals_119 l83 rfl ?_
              refine x_iload_n 2 dX11_steals_122 rfl rfl ?_
              refine y_iald dX11_steals_123 l97 (by omega) (by decide) (hw0 _ ht) ?_
              refine y_iast dX11_steals_124 l97 (by omega) (by decide) ?_
              refine x_iload 0 dX11_steals_125 rfl ?_
              refine x_zret rfl dX11_steals_127 (by decide) (by
                first
                | (exfalso; omega)
                | (have hne : ¬ (s % 7 < iP I ∧ ¬ s % 7 = p) := fun q => by first | exact c_14 (by omega) | omega
                   refine ⟨_, rfl, ⟨rfl, fun a b h1 _ => rdI_k h1⟩, Or.inl ⟨rfl, ?_, fun t ht => ?_⟩⟩
                   · unfold thB
                     first
                     | exact Or.inr (Or.inl ⟨by omega, by omega, by rw [show p = s % 7 by omega]; rw [show s % 7 = p by omega] at *; exact c_54⟩)
                     | exact Or.inr (Or.inr ⟨by omega, by omega, c_90⟩)
                   · unfold thW
                     rw [e2_1 hne]
                     by_cases q : t = s / 7
                     · rw [q, upW_eq, rdI_eq]
                     · rw [upW_ne q, rdI_j q]; exact hw0 t ht))
            · refine x_iload 1 dX11_steals_113 rfl ?_
              refine x_goto 124 dX11_steals_115 (by decide) ?_
              refine y_iast dX11_steals_124 l97 (by omega) (by decide) ?_
              refine x_iload 0 dX11_steals_125 rfl ?_
              refine x_zret rfl dX11_steals_127 (by decide) (by
                first
                | (exfalso; omega)
                | (have hne : ¬ (s % 7 < iP I ∧ ¬ s % 7 = p) := fun q => by first | exact c_14 (by omega) | omega
                   refine ⟨_, rfl, ⟨rfl, fun a b h1 _ => rdI_k h1⟩, Or.inl ⟨rfl, ?_, fun t ht => ?_⟩⟩
                   · unfold thB
                     first
                     | exact Or.inr (Or.inl ⟨by omega, by omega, by rw [show p = s % 7 by omega]; rw [show s % 7 = p by omega] at *; exact c_54⟩)
                     | exact Or.inr (Or.inr ⟨by omega, by omega, c_90⟩)
                   · unfold thW
                     rw [e2_1 hne]
                     by_cases q : t = s / 7
                     · rw [q, upW_eq, rdI_eq]
                     · rw [upW_ne q, rdI_j q]; exact hw0 t ht))
    · refine x_aload_n 2 dX11_steals_41 rfl rfl ?_
      refine x_getR fX11_50 dX11_steals_42 l83 rfl ?_
      refine x_iload_n 1 dX11_steals_45 rfl rfl ?_
      refine y_iald dX11_steals_46 l97 (by omega) (by decide) (hw0 _ ht) ?_
      refine x_iconst (v := nI 4) dX11_steals_47 (by decide) ?_
      refine y_ic_ne 64 dX11_steals_48 (by decide) (by omega) (by omega) (fun c_48 => ?_) (fun c_48 => ?_)
      · refine x_iconst (v := nI 0) dX11_steals_64 (by decide) ?_
        refine x_goto 101 dX11_steals_65 (by decide) ?_
        refine x_istore (lv' := [(5, _), (4, _), (3, _), (0, _), (1, _), (2, _)]) dX11_steals_101 (by decide) rfl ?_
        refine x_aload_n 3 dX11_steals_103 rfl rfl ?_
        refine x_getR fX11_50 dX11_steals_104 l83 rfl ?_
        refine x_iload_n 2 dX11_steals_107 rfl rfl ?_
        refine x_iload 0 dX11_steals_108 rfl ?_
        refine y_if_eq 118 dX11_steals_110 (by decide) (by omega) (fun c_110 => ?_) (fun c_110 => ?_)
        · refine x_aload_n 3 dX11_steals_118 rfl rfl ?_
          refine x_getR fX11_50 dX11_steals_119 l83 rfl ?_
          refine x_iload_n 2 dX11_steals_122 rfl rfl ?_
          refine y_iald dX11_steals_123 l97 (by omega) (by decide) (hw0 _ ht) ?_
          refine y_iast dX11_steals_124 l97 (by omega) (by decide) ?_
          refine x_iload 0 dX11_steals_125 rfl ?_
          refine x_zret rfl dX11_steals_127 (by decide) (by
            first
            | (exfalso; omega)
            | (refine ⟨_, rfl, ⟨rfl, fun a b h1 _ => rdI_k h1⟩, Or.inr ⟨rfl, fun k => ?_⟩⟩
               unfold thB at k
               rcases k with k | k | k
               · first | exact c_14 (by omega) | omega
               · first | exact c_54 k.2.2 | omega
               · first | exact k.2.2 c_90 | omega))
        · refine x_iload 1 dX11_steals_113 rfl ?_
          refine x_goto 124 dX11_steals_115 (by decide) ?_
          refine y_iast dX11_steals_124 l97 (by omega) (by decide) ?_
          refine x_iload 0 dX11_steals_125 rfl ?_
          refine x_zret rfl dX11_steals_127 (by decide) (by
            first
            | (exfalso; omega)
            | (refine ⟨_, rfl, ⟨rfl, fun a b h1 _ => rdI_k h1⟩, Or.inr ⟨rfl, fun k => ?_⟩⟩
               unfold thB at k
               rcases k with k | k | k
               · first | exact c_14 (by omega) | omega
               · first | exact c_54 k.2.2 | omega
               · first | exact k.2.2 c_90 | omega))
      · refine x_aload_n 2 dX11_steals_51 rfl rfl ?_
        refine x_iload_n 1 dX11_steals_52 rfl rfl ?_
        refine x_iload_n 3 dX11_steals_53 rfl rfl ?_
        refine x_callVb (as := [_, _]) (rest := []) vX11_211 (c_X11_isWithin (t := s / 7) (to := p) hI hO hw0 hw7 hL (by omega) ht (by omega)) dX11_steals_54 l83 rfl rfl rfl (Nat.le_of_ble_eq_true rfl) (Nat.le_of_ble_eq_true rfl) (Nat.le_of_ble_eq_true rfl) (fun c_54 => ?_) (fun c_54 => ?_)
        · refine u_if_eq 64 dX11_steals_57 (by decide) (by decide) ?_
          refine x_iconst (v := nI 1) dX11_steals_60 (by decide) ?_
          refine x_goto 101 dX11_steals_61 (by decide) ?_
          refine x_istore (lv' := [(5, _), (4, _), (3, _), (0, _), (1, _), (2, _)]) dX11_steals_101 (by decide) rfl ?_
          refine x_aload_n 3 dX11_steals_103 rfl rfl ?_
          refine x_getR fX11_50 dX11_steals_104 l83 rfl ?_
          refine x_iload_n 2 dX11_steals_107 rfl rfl ?_
          refine x_iload 0 dX11_steals_108 rfl ?_
          refine y_if_eq 118 dX11_steals_110 (by decide) (by omega) (fun c_110 => ?_) (fun c_110 => ?_)
          · refine x_aload_n 3 dX11_steals_118 rfl rfl ?_
            refine x_getR fX11_50 dX11_steals_119 l83 rfl ?_
            refine x_iload_n 2 dX11_steals_122 rfl rfl ?_
            refine y_iald dX11_steals_123 l97 (by omega) (by decide) (hw0 _ ht) ?_
            refine y_iast dX11_steals_124 l97 (by omega) (by decide) ?_
            refine x_iload 0 dX11_steals_125 rfl ?_
            refine x_zret rfl dX11_steals_127 (by decide) (by
              first
              | (exfalso; omega)
              | (have hne : ¬ (s % 7 < iP I ∧ ¬ s % 7 = p) := fun q => by first | exact c_14 (by omega) | omega
                 refine ⟨_, rfl, ⟨rfl, fun a b h1 _ => rdI_k h1⟩, Or.inl ⟨rfl, ?_, fun t ht => ?_⟩⟩
                 · unfold thB
                   first
                   | exact Or.inr (Or.inl ⟨by omega, by omega, by rw [show p = s % 7 by omega]; rw [show s % 7 = p by omega] at *; exact c_54⟩)
                   | exact Or.inr (Or.inr ⟨by omega, by omega, c_90⟩)
                 · unfold thW
                   rw [e2_1 hne]
                   by_cases q : t = s / 7
                   · rw [q, upW_eq, rdI_eq]
                   · rw [upW_ne q, rdI_j q]; exact hw0 t ht))
          · refine x_iload 1 dX11_steals_113 rfl ?_
            refine x_goto 124 dX11_steals_115 (by decide) ?_
            refine y_iast dX11_steals_124 l97 (by omega) (by decide) ?_
            refine x_iload 0 dX11_steals_125 rfl ?_
            refine x_zret rfl dX11_steals_127 (by decide) (by
              first
              | (exfalso; omega)
              | (have hne : ¬ (s % 7 < iP I ∧ ¬ s % 7 = p) := fun q => by first | exact c_14 (by omega) | omega
                 refine ⟨_, rfl, ⟨rfl, fun a b h1 _ => rdI_k h1⟩, Or.inl ⟨rfl, ?_, fun t ht => ?_⟩⟩
                 · unfold thB
                   first
                   | exact Or.inr (Or.inl ⟨by omega, by omega, by rw [show p = s % 7 by omega]; rw [show s % 7 = p by omega] at *; exact c_54⟩)
                   | exact Or.inr (Or.inr ⟨by omega, by omega, c_90⟩)
                 · unfold thW
                   rw [e2_1 hne]
                   by_cases q : t = s / 7
                   · rw [q, upW_eq, rdI_eq]
                   · rw [upW_ne q, rdI_j q]; exact hw0 t ht))
        · refine t_if_eq 64 dX11_steals_57 (by decide) (by decide) ?_
          refine x_iconst (v := nI 0) dX11_steals_64 (by decide) ?_
          refine x_goto 101 dX11_steals_65 (by decide) ?_
          refine x_istore (lv' := [(5, _), (4, _), (3, _), (0, _), (1, _), (2, _)]) dX11_steals_101 (by decide) rfl ?_
          refine x_aload_n 3 dX11_steals_103 rfl rfl ?_
          refine x_getR fX11_50 dX11_steals_104 l83 rfl ?_
          refine x_iload_n 2 dX11_steals_107 rfl rfl ?_
          refine x_iload 0 dX11_steals_108 rfl ?_
          refine y_if_eq 118 dX11_steals_110 (by decide) (by omega) (fun c_110 => ?_) (fun c_110 => ?_)
          · refine x_aload_n 3 dX11_steals_118 rfl rfl ?_
            refine x_getR fX11_50 dX11_steals_119 l83 rfl ?_
            refine x_iload_n 2 dX11_steals_122 rfl rfl ?_
            refine y_iald dX11_steals_123 l97 (by omega) (by decide) (hw0 _ ht) ?_
            refine y_iast dX11_steals_124 l97 (by omega) (by decide) ?_
            refine x_iload 0 dX11_steals_125 rfl ?_
            refine x_zret rfl dX11_steals_127 (by decide) (by
              first
              | (exfalso; omega)
              | (refine ⟨_, rfl, ⟨rfl, fun a b h1 _ => rdI_k h1⟩, Or.inr ⟨rfl, fun k => ?_⟩⟩
                 unfold thB at k
                 rcases k with k | k | k
                 · first | exact c_14 (by omega) | omega
                 · first | exact c_54 k.2.2 | omega
                 · first | exact k.2.2 c_90 | omega))
          · refine x_iload 1 dX11_steals_113 rfl ?_
            refine x_goto 124 dX11_steals_115 (by decide) ?_
            refine y_iast dX11_steals_124 l97 (by omega) (by decide) ?_
            refine x_iload 0 dX11_steals_125 rfl ?_
            refine x_zret rfl dX11_steals_127 (by decide) (by
              first
              | (exfalso; omega)
              | (refine ⟨_, rfl, ⟨rfl, fun a b h1 _ => rdI_k h1⟩, Or.inr ⟨rfl, fun k => ?_⟩⟩
                 unfold thB at k
                 rcases k with k | k | k
                 · first | exact c_14 (by omega) | omega
                 · first | exact c_54 k.2.2 | omega
                 · first | exact k.2.2 c_90 | omega))

/-- but for what a theft's search of the reference writes -/
def FrT (S S' : St) : Prop := S'.2 = S.2 ∧ ∀ a b, ¬ (a = 97 ∨ a = 102 ∨ a = 103) → ¬ (a = 83 ∧ (b = 36 ∨ b = 41)) → S'.1 a b = S.1 a b
theorem FrT.trans {S S1 S2 : St} (h : FrT S S1) (h' : FrT S1 S2) : FrT S S2 := ⟨h'.1.trans h.1, fun a b h1 h2 => (h'.2 a b h1 h2).trans (h.2 a b h1 h2)⟩
theorem FrT.of {S S1 : St} (h : FrL S S1) : FrT S S1 := ⟨h.1, fun a b h1 h2 => h.2 a b h1 (fun q => h2 ⟨q.1, Or.inl q.2⟩)⟩
theorem FrT.g {S S1 : St} (h : FrG S S1) : FrT S S1 := ⟨h.1, fun a b h1 h2 => h.2 a b (fun q => h1 (Or.inl q)) (fun q => h2 ⟨q.1, Or.inr q.2⟩)⟩
theorem IsM.ft {I : Isl} {S S' : St} (h : IsM I S) (hf : FrT S S') : IsM I S' := h.keep (fun j hj => hf.2 83 j (by decide) (by intro q; rcases q.2 with e | e <;> rw [e] at hj <;> revert hj <;> decide)) (fun a ha b => hf.2 a b (by intro e; rcases e with rfl | rfl | rfl <;> revert ha <;> decide) (by intro e; rw [e.1] at ha; revert ha; decide))
theorem QuX.fg {I : Isl} {R : Rs} {S S' : St} (h : QuX I R S) (f : FrG S S') : QuX I R S' := h.keep (fun b => ⟨f.2 102 b (by decide) (by omega), f.2 103 b (by decide) (by omega)⟩) (f.2 83 36 (by decide) (by decide))
theorem c_codeTh {S : St} {I : Isl} (hI : IsM I S) (hO : IOK I) {L p c s : Nat} (hw0 : MW I (thW I L p (digF c) s) S) : C 0 0 yX11_code mX11_code [.ref 83] S (pu (.int (nI (thX I L p c s))) S) := c_X11_code hI hO hw0

set_option maxHeartbeats 4000000 in
set_option maxRecDepth 100000 in
theorem lp_lt1 {S : St} {I : Isl} (hI : IsM I S) (hO : IOK I) {L c0 p M : Nat} (hL : S.1 83 17 = nI L) (hL7 : L ≤ 6) (h0 : OKc I L c0) (hpp : p < iP I) (hM : M ≤ 4) {i : Nat} (hir : i < rC (tfs I L p M c0 i)) (hdM : rD (tfs I L p M c0 i) i < M) {Q : Option Value → St → Prop} (kk : ∀ S2, FrT S S2 → QuX I (tfs I L p M c0 (i + 1)) S2 → X 5 150 mX11_layTheft Q 58 [(3, .int (nI (i + 1))), (0, .ref 83), (1, .int (nI p)), (2, .int (nI M))] [] S2)  : ∀ (s : Nat) (S1 : St), (s ≤ 7 * iM I) → (FrT S S1) → (QuX I (txS I L p i (tfs I L p M c0 i) s) S1) → X 5 150 mX11_layTheft (Q) 84 [(4, .int (nI s)), (3, .int (nI i)), (0, .ref 83), (1, .int (nI p)), (2, .int (nI M))] [] S1 := by
  intro s S1
  induction hm : 7 * iM I - s using Nat.strongRecOn generalizing s S1 with
  | _ mm ih =>
    intro hs x1 x3
    have hO1 := hO.1
    have hO2 := hO.2.1
    have hO3 := hO.2.2.1
    have hO4 := hO.2.2.2.1
    have h7 := p7le hO
    have hti := tfs_inv (M := M) hO hpp h0 i
    have hok := hti.2.2.1 i hir
    have hcc := hok.lt hO
    have hwk := hok.2.ok hO
    have hI1 := hI.ft x1
    have hpr := Pre.tx I L p i (tfs I L p M c0 i) s
    have hin := Nat.lt_of_lt_of_le hir hpr.1
    have hinv := fun h => TInv.tx (p := p) hO hpp hti hir s h
    have hqi := x3.2.2.1 i hin
    have hrx := x3.2.1
    have hpi := (hpr.2 i hir).1
    have hL1 : (loS S1 (rK (tfs I L p M c0 i) i) (iM I)).1 83 17 = nI L := (loS_k (by decide)).trans ((x1.2 83 17 (by decide) (by decide)).trans hL)
    refine x_iload 0 dX11_layTheft_84 rfl ?_
    refine x_bipush (v := nI 7) dX11_layTheft_86 (by decide) ?_
    refine x_aload_n 2 dX11_layTheft_88 rfl rfl ?_
    refine y_getI fX11_181 dX11_layTheft_89 l83 rfl hI1.2.1 ?_
    refine y_imul dX11_layTheft_92 ?_
    refine y_ic_ge 182 dX11_layTheft_93 (by decide) (by omega) (by omega) (fun c_93 => ?_) (fun c_93 => ?_)
    · refine y_iinc (lv' := [(3, _), (4, _), (0, _), (1, _), (2, _)]) 1 dX11_layTheft_182 rfl (by decide) rfl ?_
      refine x_goto 58 dX11_layTheft_185 (by decide) ?_
      refine x_pick (lv' := [(3, _), (0, _), (1, _), (2, _)]) [0, 2, 3, 4] rfl ?_
      obtain rfl : s = 7 * iM I := (by omega)
      exact kk S1 x1 (by rw [tfs_t hir hdM]; exact x3)
    · refine x_aload_n 2 dX11_layTheft_96 rfl rfl ?_
      refine x_aload_n 2 dX11_layTheft_97 rfl rfl ?_
      refine x_getR fX11_68 dX11_layTheft_98 l83 rfl ?_
      refine x_iload_n 1 dX11_layTheft_101 rfl rfl ?_
      refine y_iald dX11_layTheft_102 l103 (by omega) (by decide) (by rw [hqi.1, hpi]) ?_
      refine x_callVv (as := [_]) (rest := []) vX11_255 (c_X11_look hI1 hO hcc) dX11_layTheft_103 l83 rfl rfl rfl (Nat.le_of_ble_eq_true rfl) (Nat.le_of_ble_eq_true rfl) (Nat.le_of_ble_eq_true rfl) ?_
      refine x_aload_n 2 dX11_layTheft_106 rfl rfl ?_
      refine x_iload_n 3 dX11_layTheft_107 rfl rfl ?_
      refine x_iload 0 dX11_layTheft_108 rfl ?_
      refine x_callVqi (as := [_, _]) (rest := []) vX11_317 (c_X11_steals (hI1.lo _ _) hO hwk (fun t ht => if_pos ⟨rfl, ht⟩) hL1 hL7 hpp (by omega)) dX11_layTheft_110 l83 rfl rfl rfl (Nat.le_of_ble_eq_true rfl) (Nat.le_of_ble_eq_true rfl) (Nat.le_of_ble_eq_true rfl) (fun r_110 S_110 q_110 => ?_)
      have hq2 : QuX I (txS I L p i (tfs I L p M c0 i) s) S_110 := (x3.f97 (loS_f _ _ _)).fg q_110.1
      have hf2 : FrT S S_110 := (x1.trans (FrT.of (FrL.of (loS_f _ _ _)))).trans (FrT.g q_110.1)
      refine x_if_eq 176 dX11_layTheft_113 (by decide) (fun c_113 => ?_) (fun c_113 => ?_)
      · refine y_iinc (lv' := [(4, _), (3, _), (0, _), (1, _), (2, _)]) 0 dX11_layTheft_176 rfl (by decide) rfl ?_
        refine x_goto 84 dX11_layTheft_179 (by decide) ?_
        refine x_pick (lv' := [(4, _), (3, _), (0, _), (1, _), (2, _)]) [0, 1, 2, 3, 4] rfl ?_
        first
        | (have hyin : rIn (txS I L p i (tfs I L p M c0 i) s) (thX I L p (rK (tfs I L p M c0 i) i) s) := Classical.byContradiction fun q => c_132 (hq2.2.2.2 _ hnx.1 q)
           have ex := txS_t hb
           unfold rch at ex
           rw [e2_0 hyin] at ex
           exact ih (7 * iM I - (s + 1)) (by omega) (s + 1) _ rfl (by omega) hf2 (by rw [ex]; exact hq2))
        | (have hnb := (q_110.2.resolve_left (fun k => absurd (k.1.symm.trans c_113) (by decide))).2
           exact ih (7 * iM I - (s + 1)) (by omega) (s + 1) _ rfl (by omega) hf2 (by rw [txS_f hnb]; exact hq2))
      · obtain ⟨_, hb, g2⟩ := q_110.2.resolve_right (fun k => c_113 k.1)
        have hnx : OKc I L (thX I L p (rK (tfs I L p M c0 i) i) s) := OKc.code hO (th_VS hO hok.2 hpp (by omega) hb)
        have hnl := hnx.lt hO
        have hiv2 := hinv (by omega)
        have hdle := hiv2.dle i hin
        have hcnt := hiv2.cnt
        refine x_aload_n 2 dX11_layTheft_116 rfl rfl ?_
        refine x_callVu (as := []) (rest := []) vX11_251 (c_codeTh (hI.ft hf2) hO g2) dX11_layTheft_117 l83 rfl rfl rfl (Nat.le_of_ble_eq_true rfl) (Nat.le_of_ble_eq_true rfl) (Nat.le_of_ble_eq_true rfl) ?_
        refine x_istore (lv' := [(5, _), (4, _), (3, _), (0, _), (1, _), (2, _)]) dX11_layTheft_120 (by decide) rfl ?_
        refine x_aload_n 3 dX11_layTheft_122 rfl rfl ?_
        refine x_getR fX11_65 dX11_layTheft_123 l83 rfl ?_
        refine x_iload 0 dX11_layTheft_126 rfl ?_
        refine y_iald dX11_layTheft_128 l102 (by omega) (by decide) rfl ?_
        refine x_ldcw kX11_268 dX11_layTheft_129 ?_
        rw [show (99999 : Int32) = nI 99999 from rfl]
        refine x_ic_ne 176 dX11_layTheft_132 (by decide) (fun c_132 => ?_) (fun c_132 => ?_)
        · refine y_iinc (lv' := [(4, _), (5, _), (3, _), (0, _), (1, _), (2, _)]) 1 dX11_layTheft_176 rfl (by decide) rfl ?_
          refine x_goto 84 dX11_layTheft_179 (by decide) ?_
          refine x_pick (lv' := [(4, _), (3, _), (0, _), (1, _), (2, _)]) [0, 2, 3, 4, 5] rfl ?_
          first
          | (have hyin : rIn (txS I L p i (tfs I L p M c0 i) s) (thX I L p (rK (tfs I L p M c0 i) i) s) := Classical.byContradiction fun q => c_132 (hq2.2.2.2 _ hnx.1 q)
             have ex := txS_t hb
             unfold rch at ex
             rw [e2_0 hyin] at ex
             exact ih (7 * iM I - (s + 1)) (by omega) (s + 1) _ rfl (by omega) hf2 (by rw [ex]; exact hq2))
          | (have hnb := (q_110.2.resolve_left (fun k => absurd (k.1.symm.trans c_113) (by decide))).2
             exact ih (7 * iM I - (s + 1)) (by omega) (s + 1) _ rfl (by omega) hf2 (by rw [txS_f hnb]; exact hq2))
        · have hnin := (hq2.far hnx.1).mp c_132
          have ex := txS_t hb
          unfold rch at ex
          rw [e2_1 hnin] at ex
          have hlt : rC (txS I L p i (tfs I L p M c0 i) s) < 16807 := by
            have h1 := TInv.tx (p := p) hO hpp hti hir (s + 1) (by omega)
            have h2 := h1.cnt
            have h3 := cb_le (b := fun c => dec (OKc I L c)) (7 ^ iM I)
            rw [ex] at h2
            have h4 : rC (txS I L p i (tfs I L p M c0 i) s) + 1 ≤ cb (fun c => dec (OKc I L c)) (7 ^ iM I) := h2
            omega
          refine x_aload_n 3 dX11_layTheft_135 rfl rfl ?_
          refine x_getR fX11_65 dX11_layTheft_136 l83 rfl ?_
          refine x_iload 0 dX11_layTheft_139 rfl ?_
          refine x_aload_n 3 dX11_layTheft_141 rfl rfl ?_
          refine x_getR fX11_65 dX11_layTheft_142 l83 rfl ?_
          refine x_aload_n 3 dX11_layTheft_145 rfl rfl ?_
          refine x_getR fX11_68 dX11_layTheft_146 l83 rfl ?_
          refine x_iload_n 2 dX11_layTheft_149 rfl rfl ?_
          refine y_iald dX11_layTheft_150 l103 (by omega) (by decide) ((q_110.1.2 103 i (by decide) (by omega)).trans ((loS_k (by decide)).trans hqi.1)) ?_
          refine y_iald dX11_layTheft_151 l102 (Nat.lt_of_lt_of_le hqi.2.1 h7) (by decide) ((q_110.1.2 102 _ (by decide) (by omega)).trans ((loS_k (by decide)).trans hqi.2.2.1)) ?_
          refine x_iconst (v := nI 1) dX11_layTheft_152 (by decide) ?_
          refine y_iadd dX11_layTheft_153 ?_
          refine y_iast dX11_layTheft_154 l102 (by omega) (by decide) ?_
          refine x_aload_n 3 dX11_layTheft_155 rfl rfl ?_
          refine x_getR fX11_68 dX11_layTheft_156 l83 rfl ?_
          refine x_aload_n 3 dX11_layTheft_159 rfl rfl ?_
          refine y_getI fX11_269 dX11_layTheft_160 l83 rfl (((rdI_k (by decide))).trans hq2.1) ?_
          refine x_iload 0 dX11_layTheft_163 rfl ?_
          refine y_iast dX11_layTheft_165 l103 (by omega) (by decide) ?_
          refine x_aload_n 3 dX11_layTheft_166 rfl rfl ?_
          refine x_dup dX11_layTheft_167 rfl ?_
          refine y_getI fX11_269 dX11_layTheft_168 l83 rfl ((((rdI_k (by decide))).trans (rdI_k (by decide))).trans hq2.1) ?_
          refine x_iconst (v := nI 1) dX11_layTheft_171 (by decide) ?_
          refine y_iadd dX11_layTheft_172 ?_
          refine x_putI pX11_269 dX11_layTheft_173 l83 rfl ?_
          refine y_iinc (lv' := [(4, _), (5, _), (3, _), (0, _), (1, _), (2, _)]) 1 dX11_layTheft_176 rfl (by decide) rfl ?_
          refine x_goto 84 dX11_layTheft_179 (by decide) ?_
          refine x_pick (lv' := [(4, _), (3, _), (0, _), (1, _), (2, _)]) [0, 2, 3, 4, 5] rfl ?_
          have hdd := (hpr.2 i hir).2.2.2
          rw [hdd]
          have hadd := hq2.add (b := i) (y := 0) (d := rD (tfs I L p M c0 i) i + 1) hnx.1 hnin (by omega) hlt
          rw [← ex] at hadd
          exact ih (7 * iM I - (s + 1)) (by omega) (s + 1) _ rfl (by omega) (hf2.trans (FrT.of (((FrL.refl.set (Or.inl (Or.inr (Or.inl rfl)))).set (Or.inl (Or.inr (Or.inr rfl)))).set (Or.inr ⟨rfl, rfl⟩)))) hadd

set_option maxHeartbeats 4000000 in
set_option maxRecDepth 100000 in
theorem lp_lt2 {S : St} {I : Isl} (hI : IsM I S) (hO : IOK I) {L c0 p M : Nat} (hL : S.1 83 17 = nI L) (hL7 : L ≤ 6) (h0 : OKc I L c0) (hpp : p < iP I) (hM : M ≤ 4)  : ∀ (i : Nat) (S1 : St), (i ≤ 16807) → (FrT S S1) → (QuX I (tfs I L p M c0 i) S1) → X 5 150 mX11_layTheft (qv (fun S' => FrT S S' ∧ QuX I (tfE I L p M c0) S')) 58 [(3, .int (nI i)), (0, .ref 83), (1, .int (nI p)), (2, .int (nI M))] [] S1 := by
  intro i S1
  induction hm : 16808 - i using Nat.strongRecOn generalizing i S1 with
  | _ mm ih =>
    intro hi hf hq
    have hO1 := hO.1
    have hO2 := hO.2.1
    have hO3 := hO.2.2.1
    have hO4 := hO.2.2.2.1
    have h7 := p7le hO
    have hrc := hq.2.1
    have hti := tfs_inv (M := M) hO hpp h0 i
    have hqi := hq.2.2.1 i
    refine x_iload_n 0 dX11_layTheft_58 rfl rfl ?_
    refine x_aload_n 1 dX11_layTheft_59 rfl rfl ?_
    refine y_getI fX11_269 dX11_layTheft_60 l83 rfl hq.1 ?_
    refine y_ic_ge 188 dX11_layTheft_63 (by decide) (by omega) (by omega) (fun c_63 => ?_) (fun c_63 => ?_)
    · refine x_vret rfl dX11_layTheft_188 (by
        have hst : tfE I L p M c0 = tfs I L p M c0 i := tfE_stop hi (fun j h1 h2 => by
          first
          | omega
          | (have := hti.mono j h2 i h1; omega))
        rw [hst]
        exact ⟨rfl, hf, hq⟩)
    · refine x_aload_n 1 dX11_layTheft_66 rfl rfl ?_
      refine x_getR fX11_65 dX11_layTheft_67 l83 rfl ?_
      refine x_aload_n 1 dX11_layTheft_70 rfl rfl ?_
      refine x_getR fX11_68 dX11_layTheft_71 l83 rfl ?_
      refine x_iload_n 0 dX11_layTheft_74 rfl rfl ?_
      refine y_iald dX11_layTheft_75 l103 (by omega) (by decide) (hqi (by omega)).1 ?_
      refine y_iald dX11_layTheft_76 l102 (Nat.lt_of_lt_of_le (hqi (by omega)).2.1 h7) (by decide) (hqi (by omega)).2.2.1 ?_
      have hdl := hti.dle i (by omega)
      refine x_iload_n 3 dX11_layTheft_77 rfl rfl ?_
      refine y_ic_ge 188 dX11_layTheft_78 (by decide) (by omega) (by omega) (fun c_78 => ?_) (fun c_78 => ?_)
      · refine x_vret rfl dX11_layTheft_188 (by
          have hst : tfE I L p M c0 = tfs I L p M c0 i := tfE_stop hi (fun j h1 h2 => by
            first
            | omega
            | (have := hti.mono j h2 i h1; omega))
          rw [hst]
          exact ⟨rfl, hf, hq⟩)
      · refine x_iconst (v := nI 0) dX11_layTheft_81 (by decide) ?_
        refine x_istore (lv' := [(4, _), (3, _), (0, _), (1, _), (2, _)]) dX11_layTheft_82 (by decide) rfl ?_
        refine x_pick (lv' := [(4, _), (3, _), (0, _), (1, _), (2, _)]) [0, 1, 2, 3, 4] rfl ?_
        exact lp_lt1 hI hO hL hL7 h0 hpp hM (by omega) (by omega) (fun S2 f2 q2 => ih (16808 - (i + 1)) (by omega) (i + 1) S2 rfl (by omega) f2 q2) 0 S1 (Nat.zero_le _) hf hq

set_option maxHeartbeats 4000000 in
set_option maxRecDepth 100000 in
theorem lp_lt3 {S : St} {I : Isl} (hI : IsM I S) (hO : IOK I) {w : Nat → Nat} (hw0 : ∀ t, t < iM I → S.1 93 t = nI (w t)) {L : Nat} (hL : S.1 83 17 = nI L) (hL7 : L ≤ 6) (hv : VS I w L) {c0 p M : Nat} (hc0 : c0 = codeF I w) (hpp : p < iP I) (hM : M ≤ 4)  : ∀ (k : Nat), (k ≤ 7 ^ iM I) → X 5 150 mX11_layTheft (qv (fun S' => FrT S S' ∧ QuX I (tfE I L p M c0) S')) 2 [(3, .int (nI k)), (0, .ref 83), (1, .int (nI p)), (2, .int (nI M))] [] (rwS S 102 0 k (fun _ => nI 99999)) := by
  intro k
  induction hm : 7 ^ iM I - k using Nat.strongRecOn generalizing k with
  | _ mm ih =>
    intro hk
    have hO1 := hO.1
    have hO2 := hO.2.1
    have hO3 := hO.2.2.1
    have hO4 := hO.2.2.2.1
    have hw := hv.ok hO
    have hw7 := hw.w7 hO
    have h7 := p7le hO
    have h0 : OKc I L c0 := by rw [hc0]; exact hv.okc hO
    have hlt := h0.lt hO
    have hfk : FrL S (rwS S 102 0 k (fun _ => nI 99999)) := ⟨rfl, fun a b h1 h2 => rwS_k (by omega)⟩
    have hI1 := hI.fl hfk
    have hw1 : ∀ t, t < iM I → ((rwS S 102 0 k (fun _ => nI 99999))).1 93 t = nI (w t) := fun t ht => (rwS_k (by decide)).trans (hw0 t ht)
    have hcw : codeF I w < 16807 := by rw [← hc0]; exact hlt
    refine x_iload_n 0 dX11_layTheft_2 rfl rfl ?_
    refine x_aload_n 1 dX11_layTheft_3 rfl rfl ?_
    refine x_callVu (as := []) (rest := [_]) vX11_265 (c_X11_stateMany hI1 hO) dX11_layTheft_4 l83 rfl rfl rfl (Nat.le_of_ble_eq_true rfl) (Nat.le_of_ble_eq_true rfl) (Nat.le_of_ble_eq_true rfl) ?_
    refine y_ic_ge 25 dX11_layTheft_7 (by decide) (by omega) (by omega) (fun c_7 => ?_) (fun c_7 => ?_)
    · refine x_aload_n 1 dX11_layTheft_25 rfl rfl ?_
      refine x_callVv (as := []) (rest := []) vX11_217 (c_X11_lookNow hI1 hO) dX11_layTheft_26 l83 rfl rfl rfl (Nat.le_of_ble_eq_true rfl) (Nat.le_of_ble_eq_true rfl) (Nat.le_of_ble_eq_true rfl) ?_
      refine x_aload_n 1 dX11_layTheft_29 rfl rfl ?_
      refine x_getR fX11_68 dX11_layTheft_30 l83 rfl ?_
      refine x_iconst (v := nI 0) dX11_layTheft_33 (by decide) ?_
      refine x_aload_n 1 dX11_layTheft_34 rfl rfl ?_
      refine x_callVu (as := []) (rest := [_, _]) vX11_251 (c_X11_code (hI1.lk _) hO (lkS_W hw1)) dX11_layTheft_35 l83 rfl rfl rfl (Nat.le_of_ble_eq_true rfl) (Nat.le_of_ble_eq_true rfl) (Nat.le_of_ble_eq_true rfl) ?_
      refine y_iast dX11_layTheft_38 l103 (by omega) (by decide) ?_
      refine x_aload_n 1 dX11_layTheft_39 rfl rfl ?_
      refine x_getR fX11_65 dX11_layTheft_40 l83 rfl ?_
      refine x_aload_n 1 dX11_layTheft_43 rfl rfl ?_
      refine x_getR fX11_68 dX11_layTheft_44 l83 rfl ?_
      refine x_iconst (v := nI 0) dX11_layTheft_47 (by decide) ?_
      refine y_iald dX11_layTheft_48 l103 (by omega) (by decide) rdI_eq ?_
      refine x_iconst (v := nI 0) dX11_layTheft_49 (by decide) ?_
      refine y_iast dX11_layTheft_50 l102 (by omega) (by decide) ?_
      refine x_aload_n 1 dX11_layTheft_51 rfl rfl ?_
      refine x_iconst (v := nI 1) dX11_layTheft_52 (by decide) ?_
      refine x_putI pX11_269 dX11_layTheft_53 l83 rfl ?_
      refine x_iconst (v := nI 0) dX11_layTheft_56 (by decide) ?_
      refine x_istore_n (lv' := [(3, _), (0, _), (1, _), (2, _)]) dX11_layTheft_57 rfl (by decide) rfl ?_
      refine x_pick (lv' := [(3, _), (0, _), (1, _), (2, _)]) [0, 1, 2, 3] rfl ?_
      obtain rfl : k = 7 ^ iM I := (by omega)
      subst hc0
      refine lp_lt2 hI hO hL hL7 h0 hpp hM 0 _ (by omega) (FrT.of ((((hfk.trans (FrL.of (lkS_f _ _))).set (Or.inl (Or.inr (Or.inr rfl)))).set (Or.inl (Or.inr (Or.inl rfl)))).set (Or.inr ⟨rfl, rfl⟩))) (QuX.start h0.1 rdI_eq ?_ ?_ (fun c hc hne => ?_))
      · rw [rdI_k (by decide), rdI_k (by decide), rdI_eq]
      · rw [rdI_k (by decide), rdI_eq]
      · rw [rdI_k (by decide), rdI_j hne, rdI_k (by decide), lkS_k (by decide), rwS_at0 hc]
    · refine x_aload_n 1 dX11_layTheft_10 rfl rfl ?_
      refine x_getR fX11_65 dX11_layTheft_11 l83 rfl ?_
      refine x_iload_n 0 dX11_layTheft_14 rfl rfl ?_
      refine x_ldcw kX11_268 dX11_layTheft_15 ?_
      rw [show (99999 : Int32) = nI 99999 from rfl]
      refine y_iast dX11_layTheft_18 l102 (by omega) (by decide) ?_
      refine y_iinc (lv' := [(3, _), (0, _), (1, _), (2, _)]) 0 dX11_layTheft_19 rfl (by decide) rfl ?_
      refine x_goto 2 dX11_layTheft_22 (by decide) ?_
      refine x_pick (lv' := [(3, _), (0, _), (1, _), (2, _)]) [0, 1, 2, 3] rfl ?_
      refine x_cast (rwS_s0 S 102 k (fun _ => nI 99999)) ?_
      exact ih (7 ^ iM I - (k + 1)) (by omega) (k + 1) rfl (by omega)

set_option maxHeartbeats 4000000 in
set_option maxRecDepth 100000 in
theorem c_X11_layTheft {S : St} {I : Isl} (hI : IsM I S) (hO : IOK I) {w : Nat → Nat} (hw0 : ∀ t, t < iM I → S.1 93 t = nI (w t)) {L : Nat} (hL : S.1 83 17 = nI L) (hL7 : L ≤ 6) (hv : VS I w L) {p M : Nat} (hpp : p < iP I) (hM : M ≤ 4)  : C 5 150 yX11_layTheft mX11_layTheft [.ref 83, .int (nI p), .int (nI M)] S (qv (fun S' => FrT S S' ∧ QuX I (tfE I L p M (codeF I w)) S')) := by
  refine C.ofX (by decide) rfl (Nat.le_of_ble_eq_true rfl) ?_
  show X 5 150 mX11_layTheft (qv (fun S' => FrT S S' ∧ QuX I (tfE I L p M (codeF I w)) S')) 0 [(0, .ref 83), (1, .int (nI p)), (2, .int (nI M))] [] S
  refine x_iconst (v := nI 0) dX11_layTheft_0 (by decide) ?_
  refine x_istore_n (lv' := [(3, _), (0, _), (1, _), (2, _)]) dX11_layTheft_1 rfl (by decide) rfl ?_
  refine x_pick (lv' := [(3, _), (0, _), (1, _), (2, _)]) [0, 1, 2, 3] rfl ?_
  have hh := lp_lt3 hI hO hw0 hL hL7 hv rfl hpp hM 0 (Nat.zero_le _)
  rw [rwS_0] at hh
  exact hh

set_option maxHeartbeats 4000000 in
set_option maxRecDepth 100000 in
theorem lp_thM {S : St} {I : Isl} (hI : IsM I S) (hO : IOK I) {w : Nat → Nat} (hw0 : ∀ t, t < iM I → S.1 93 t = nI (w t)) {L : Nat} (hL : S.1 83 17 = nI L) (hL7 : L ≤ 6) (hv : VS I w L) {p t : Nat} (hpp : p < iP I) (ht : t < iM I)  : ∀ (i : Nat) (S1 : St), (i ≤ rC (tfE I L p 4 (codeF I w))) → (FrT S S1) → (QuX I (tfE I L p 4 (codeF I w)) S1) → (∀ j, j < i → ¬ whomF I (digF (rK (tfE I L p 4 (codeF I w)) j)) t = p) → X 6 180 mX11_theft (qi (fun r S' => ((∃ i, i < rC (tfE I L p 4 (codeF I w)) ∧ whomF I (digF (rK (tfE I L p 4 (codeF I w)) i)) t = p ∧ (∀ j, j < i → ¬ whomF I (digF (rK (tfE I L p 4 (codeF I w)) j)) t = p) ∧ r = nI (rD (tfE I L p 4 (codeF I w)) i)) ∨ (r = -9 ∧ ∀ j, j < rC (tfE I L p 4 (codeF I w)) → ¬ whomF I (digF (rK (tfE I L p 4 (codeF I w)) j)) t = p)) ∧ FrT S S')) 26 [(3, .int (nI i)), (0, .ref 83), (1, .int (nI p)), (2, .int (nI t))] [] S1 := by
  intro i S1
  induction hm : rC (tfE I L p 4 (codeF I w)) - i using Nat.strongRecOn generalizing i S1 with
  | _ mm ih =>
    intro hi hf hq hn
    have hO1 := hO.1
    have hO2 := hO.2.1
    have hO3 := hO.2.2.1
    have hO4 := hO.2.2.2.1
    have hw := hv.ok hO
    have hw7 := hw.w7 hO
    have h7 := p7le hO
    have h0 := hv.okc hO
    have hle := hq.2.1
    have hI1 := hI.ft hf
    have hqi := hq.2.2.1 i
    have hti : TInv I L (codeF I w) (tfE I L p 4 (codeF I w)) 16807 := tfs_inv hO hpp h0 16807
    have hoki := hti.2.2.1 i
    refine x_iload_n 0 dX11_theft_26 rfl rfl ?_
    refine x_aload_n 1 dX11_theft_27 rfl rfl ?_
    refine y_getI fX11_269 dX11_theft_28 l83 rfl hq.1 ?_
    refine y_ic_ge 71 dX11_theft_31 (by decide) (by omega) (by omega) (fun c_31 => ?_) (fun c_31 => ?_)
    · refine x_bipush (v := -9) dX11_theft_71 (by decide) ?_
      refine x_iret rfl dX11_theft_73 ⟨_, rfl, Or.inr ⟨rfl, fun j hj => hn j (by omega)⟩, hf⟩
    · refine x_aload_n 1 dX11_theft_34 rfl rfl ?_
      refine x_aload_n 1 dX11_theft_35 rfl rfl ?_
      refine x_getR fX11_68 dX11_theft_36 l83 rfl ?_
      refine x_iload_n 0 dX11_theft_39 rfl rfl ?_
      refine y_iald dX11_theft_40 l103 (by omega) (by decide) (hqi (by omega)).1 ?_
      refine x_callVv (as := [_]) (rest := []) vX11_255 (c_X11_look hI1 hO (Nat.lt_of_lt_of_le (hqi (by omega)).2.1 h7)) dX11_theft_41 l83 rfl rfl rfl (Nat.le_of_ble_eq_true rfl) (Nat.le_of_ble_eq_true rfl) (Nat.le_of_ble_eq_true rfl) ?_
      refine x_aload_n 1 dX11_theft_44 rfl rfl ?_
      refine x_iload_n 3 dX11_theft_45 rfl rfl ?_
      refine x_callVu (as := [_]) (rest := []) vX11_199 (c_X11_with (hI1.lo _ _) hO (w := digF (rK (tfE I L p 4 (codeF I w)) i)) (fun t ht => if_pos ⟨rfl, ht⟩) ((hoki (by omega)).2.ok hO) ht) dX11_theft_46 l83 rfl rfl rfl (Nat.le_of_ble_eq_true rfl) (Nat.le_of_ble_eq_true rfl) (Nat.le_of_ble_eq_true rfl) ?_
      have hwh := whomF_le ((hoki (by omega)).2.ok hO) ht
      refine x_iload_n 2 dX11_theft_49 rfl rfl ?_
      refine y_ic_ne 65 dX11_theft_50 (by decide) (by omega) (by omega) (fun c_50 => ?_) (fun c_50 => ?_)
      · refine y_iinc (lv' := [(3, _), (0, _), (1, _), (2, _)]) 0 dX11_theft_65 rfl (by decide) rfl ?_
        refine x_goto 26 dX11_theft_68 (by decide) ?_
        refine x_pick (lv' := [(3, _), (0, _), (1, _), (2, _)]) [0, 1, 2, 3] rfl ?_
        exact ih (rC (tfE I L p 4 (codeF I w)) - (i + 1)) (by omega) (i + 1) _ rfl (by omega) (hf.trans (FrT.of (FrL.of (loS_f _ _ _)))) (hq.f97 (loS_f _ _ _)) (fun j hj => by rcases Nat.lt_succ_iff_lt_or_eq.mp hj with h | h; exact hn j h; subst h; exact c_50)
      · refine x_aload_n 1 dX11_theft_53 rfl rfl ?_
        refine x_getR fX11_65 dX11_theft_54 l83 rfl ?_
        refine x_aload_n 1 dX11_theft_57 rfl rfl ?_
        refine x_getR fX11_68 dX11_theft_58 l83 rfl ?_
        refine x_iload_n 0 dX11_theft_61 rfl rfl ?_
        refine y_iald dX11_theft_62 l103 (by omega) (by decide) ((loS_k (by decide)).trans (hqi (by omega)).1) ?_
        refine y_iald dX11_theft_63 l102 (Nat.lt_of_lt_of_le (hqi (by omega)).2.1 h7) (by decide) ((loS_k (by decide)).trans (hqi (by omega)).2.2.1) ?_
        refine x_iret rfl dX11_theft_64 ⟨_, rfl, Or.inl ⟨i, by omega, c_50, hn, rfl⟩, hf.trans (FrT.of (FrL.of (loS_f _ _ _)))⟩

set_option maxHeartbeats 4000000 in
set_option maxRecDepth 100000 in
theorem c_X11_theft {S : St} {I : Isl} (hI : IsM I S) (hO : IOK I) {w : Nat → Nat} (hw0 : ∀ t, t < iM I → S.1 93 t = nI (w t)) {L : Nat} (hL : S.1 83 17 = nI L) (hL7 : L ≤ 6) (hv : VS I w L) {x y : Int32} : C 6 180 yX11_theft mX11_theft [.ref 83, .int x, .int y] S (qi (i2 (¬ ((0 ≤ x.toInt ∧ x.toInt < (iP I : Int)) ∧ 0 ≤ y.toInt ∧ y.toInt < (iM I : Int))) (an (-1) S) (fun r S' => ((∃ i, i < rC (tfE I L (tn x) 4 (codeF I w)) ∧ whomF I (digF (rK (tfE I L (tn x) 4 (codeF I w)) i)) (tn y) = (tn x) ∧ (∀ j, j < i → ¬ whomF I (digF (rK (tfE I L (tn x) 4 (codeF I w)) j)) (tn y) = (tn x)) ∧ r = nI (rD (tfE I L (tn x) 4 (codeF I w)) i)) ∨ (r = -9 ∧ ∀ j, j < rC (tfE I L (tn x) 4 (codeF I w)) → ¬ whomF I (digF (rK (tfE I L (tn x) 4 (codeF I w)) j)) (tn y) = (tn x))) ∧ FrT S S'))) := by
  have n0 : (nI 0).toInt = 0 := rfl
  have n1 : (nI 1).toInt = 1 := rfl
  have n3 : (nI 3).toInt = 3 := rfl
  have n5 : (nI 5).toInt = 5 := rfl
  have n7 : (nI 7).toInt = 7 := rfl
  have n2 : (nI 2).toInt = 2 := rfl
  have n6 : (nI 6).toInt = 6 := rfl
  have hO1 := hO.1
  have hO2 := hO.2.1
  have hO3 := hO.2.2.1
  have hO4 := hO.2.2.2.1
  refine C.ofX (by decide) rfl (Nat.le_of_ble_eq_true rfl) ?_
  show X 6 180 mX11_theft (qi (i2 (¬ ((0 ≤ x.toInt ∧ x.toInt < (iP I : Int)) ∧ 0 ≤ y.toInt ∧ y.toInt < (iM I : Int))) (an (-1) S) (fun r S' => ((∃ i, i < rC (tfE I L (tn x) 4 (codeF I w)) ∧ whomF I (digF (rK (tfE I L (tn x) 4 (codeF I w)) i)) (tn y) = (tn x) ∧ (∀ j, j < i → ¬ whomF I (digF (rK (tfE I L (tn x) 4 (codeF I w)) j)) (tn y) = (tn x)) ∧ r = nI (rD (tfE I L (tn x) 4 (codeF I w)) i)) ∨ (r = -9 ∧ ∀ j, j < rC (tfE I L (tn x) 4 (codeF I w)) → ¬ whomF I (digF (rK (tfE I L (tn x) 4 (codeF I w)) j)) (tn y) = (tn x))) ∧ FrT S S'))) 0 [(0, .ref 83), (1, .int x), (2, .int y)] [] S
  refine x_aload_n 0 dX11_theft_0 rfl rfl ?_
  refine x_iload_n 1 dX11_theft_1 rfl rfl ?_
  refine x_callVb (as := [_]) (rest := []) vX11_196 (c_X11_isOne (w := w) hI hO) dX11_theft_2 l83 rfl rfl rfl (Nat.le_of_ble_eq_true rfl) (Nat.le_of_ble_eq_true rfl) (Nat.le_of_ble_eq_true rfl) (fun c_2 => ?_) (fun c_2 => ?_)
  · refine u_if_eq 16 dX11_theft_5 (by decide) (by decide) ?_
    refine x_aload_n 0 dX11_theft_8 rfl rfl ?_
    refine x_iload_n 2 dX11_theft_9 rfl rfl ?_
    refine x_callVb (as := [_]) (rest := []) vX11_220 (c_X11_isThing (w := w) hI hO) dX11_theft_10 l83 rfl rfl rfl (Nat.le_of_ble_eq_true rfl) (Nat.le_of_ble_eq_true rfl) (Nat.le_of_ble_eq_true rfl) (fun c_10 => ?_) (fun c_10 => ?_)
    · refine t_if_ne 18 dX11_theft_13 (by decide) (by decide) ?_
      obtain ⟨a, ha, rfl⟩ := nI_ex (x := x) (n := iP I) (by omega) (by omega)
      have ea : (nI a).toInt = (a : Int) := tiN (by omega)
      have ta : tn (nI a) = a := tnN (by omega)
      obtain ⟨b, hb, rfl⟩ := nI_ex (x := y) (n := iM I) (by omega) (by omega)
      have eb : (nI b).toInt = (b : Int) := tiN (by omega)
      have tb : tn (nI b) = b := tnN (by omega)
      refine x_aload_n 0 dX11_theft_18 rfl rfl ?_
      refine x_iload_n 1 dX11_theft_19 rfl rfl ?_
      refine x_iconst (v := nI 4) dX11_theft_20 (by decide) ?_
      refine x_callVqv (as := [_, _]) (rest := []) vX11_320 (c_X11_layTheft hI hO hw0 hL hL7 hv ha (by decide)) dX11_theft_21 l83 rfl rfl rfl (Nat.le_of_ble_eq_true rfl) (Nat.le_of_ble_eq_true rfl) (Nat.le_of_ble_eq_true rfl) (fun S_21 q_21 => ?_)
      refine x_iconst (v := nI 0) dX11_theft_24 (by decide) ?_
      refine x_istore_n (lv' := [(3, _), (0, _), (1, _), (2, _)]) dX11_theft_25 rfl (by decide) rfl ?_
      refine x_pick (lv' := [(3, _), (0, _), (1, _), (2, _)]) [0, 1, 2, 3] rfl ?_
      refine (lp_thM hI hO hw0 hL hL7 hv ha hb 0 S_21 (Nat.zero_le _) q_21.1 q_21.2 (fun j hj => absurd hj (Nat.not_lt_zero j))).mono (fun v S' hq => ?_)
      obtain ⟨r, rfl, hr⟩ := hq
      simp only [ta, tb]
      exact q2_1 (fun h => h ⟨by omega, by omega⟩) hr
    · refine u_if_ne 18 dX11_theft_13 (by decide) (by decide) ?_
      refine x_iconst (v := -1) dX11_theft_16 (by decide) ?_
      refine x_iret rfl dX11_theft_17 (q2_0 (fun h => by first | exact c_2 h.1 | exact c_10 h.2) ⟨rfl, rfl⟩)
  · refine t_if_eq 16 dX11_theft_5 (by decide) (by decide) ?_
    refine x_iconst (v := -1) dX11_theft_16 (by decide) ?_
    refine x_iret rfl dX11_theft_17 (q2_0 (fun h => by first | exact c_2 h.1 | exact c_10 h.2) ⟨rfl, rfl⟩)

theorem oo_held {I : Isl} (hO : IOK I) {R : Rs} {p : Nat} : ∀ n, oo (fun j => heldF I (digF (rK R j)) p) n < 32
  | 0 => (by decide : (0 : Nat) < 32)
  | n + 1 => or_lt (e := 5) (oo_held hO n) (heldF_lt I hO _ p)

set_option maxHeartbeats 4000000 in
set_option maxRecDepth 100000 in
theorem lp_thsM {S : St} {I : Isl} (hI : IsM I S) (hO : IOK I) {w : Nat → Nat} (hw0 : ∀ t, t < iM I → S.1 93 t = nI (w t)) {L : Nat} (hL : S.1 83 17 = nI L) (hL7 : L ≤ 6) (hv : VS I w L) {p M : Nat} (hpp : p < iP I) (hM : M ≤ 4)  : ∀ (i : Nat) (S1 : St), (i ≤ rC (tfE I L p M (codeF I w))) → (FrT S S1) → (QuX I (tfE I L p M (codeF I w)) S1) → X 6 180 mX11_thefts (qi (fun r S' => r = nI (oo (fun j => heldF I (digF (rK (tfE I L p M (codeF I w)) j)) p) (rC (tfE I L p M (codeF I w)))) ∧ FrT S S')) 30 [(4, .int (nI i)), (3, .int (nI ((oo (fun j => heldF I (digF (rK (tfE I L p M (codeF I w)) j)) p) i)))), (0, .ref 83), (1, .int (nI p)), (2, .int (nI M))] [] S1 := by
  intro i S1
  induction hm : rC (tfE I L p M (codeF I w)) - i using Nat.strongRecOn generalizing i S1 with
  | _ mm ih =>
    intro hi hf hq
    have hO1 := hO.1
    have hO2 := hO.2.1
    have hO3 := hO.2.2.1
    have hO4 := hO.2.2.2.1
    have hw := hv.ok hO
    have hw7 := hw.w7 hO
    have h7 := p7le hO
    have h0 := hv.okc hO
    have hle := hq.2.1
    have hI1 := hI.ft hf
    have hqi := hq.2.2.1 i
    have hti : TInv I L (codeF I w) (tfE I L p M (codeF I w)) 16807 := tfs_inv hO hpp h0 16807
    have hoki := hti.2.2.1 i
    refine x_iload 0 dX11_thefts_30 rfl ?_
    refine x_aload_n 2 dX11_thefts_32 rfl rfl ?_
    refine y_getI fX11_269 dX11_thefts_33 l83 rfl hq.1 ?_
    refine y_ic_ge 64 dX11_thefts_36 (by decide) (by omega) (by omega) (fun c_36 => ?_) (fun c_36 => ?_)
    · refine x_iload_n 1 dX11_thefts_64 rfl rfl ?_
      refine x_iret rfl dX11_thefts_65 (by obtain rfl : i = rC (tfE I L p M (codeF I w)) := (by omega); exact ⟨_, rfl, rfl, hf⟩)
    · refine x_aload_n 2 dX11_thefts_39 rfl rfl ?_
      refine x_aload_n 2 dX11_thefts_40 rfl rfl ?_
      refine x_getR fX11_68 dX11_thefts_41 l83 rfl ?_
      refine x_iload 0 dX11_thefts_44 rfl ?_
      refine y_iald dX11_thefts_46 l103 (by omega) (by decide) (hqi (by omega)).1 ?_
      refine x_callVv (as := [_]) (rest := []) vX11_255 (c_X11_look hI1 hO (Nat.lt_of_lt_of_le (hqi (by omega)).2.1 h7)) dX11_thefts_47 l83 rfl rfl rfl (Nat.le_of_ble_eq_true rfl) (Nat.le_of_ble_eq_true rfl) (Nat.le_of_ble_eq_true rfl) ?_
      refine x_iload_n 1 dX11_thefts_50 rfl rfl ?_
      refine x_aload_n 2 dX11_thefts_51 rfl rfl ?_
      refine x_iload_n 3 dX11_thefts_52 rfl rfl ?_
      refine x_callVu (as := [_]) (rest := [_]) vX11_229 (c_X11_ownedBy (hI1.lo _ _) hO (w := digF (rK (tfE I L p M (codeF I w)) i)) (fun t ht => if_pos ⟨rfl, ht⟩) ((hoki (by omega)).2.ok hO) (by omega)) dX11_thefts_53 l83 rfl rfl rfl (Nat.le_of_ble_eq_true rfl) (Nat.le_of_ble_eq_true rfl) (Nat.le_of_ble_eq_true rfl) ?_
      refine y_ior dX11_thefts_56 ?_
      refine x_istore_n (lv' := [(3, _), (4, _), (0, _), (1, _), (2, _)]) dX11_thefts_57 rfl (by decide) rfl ?_
      rw [show ((3, Value.int (nI (((oo (fun j => heldF I (digF (rK (tfE I L p M (codeF I w)) j)) p) i) ||| (heldF I (digF (rK (tfE I L p M (codeF I w)) i)) p))))) : Nat × Value) = (3, Value.int (nI (oo (fun j => heldF I (digF (rK (tfE I L p M (codeF I w)) j)) p) (i + 1)))) from by rw [oo_s]]
      refine y_iinc (lv' := [(4, _), (3, _), (0, _), (1, _), (2, _)]) 1 dX11_thefts_58 rfl (by decide) rfl ?_
      refine x_goto 30 dX11_thefts_61 (by decide) ?_
      refine x_pick (lv' := [(4, _), (3, _), (0, _), (1, _), (2, _)]) [0, 1, 2, 3, 4] rfl ?_
      exact ih (rC (tfE I L p M (codeF I w)) - (i + 1)) (by omega) (i + 1) _ rfl (by omega) (hf.trans (FrT.of (FrL.of (loS_f _ _ _)))) (hq.f97 (loS_f _ _ _))

set_option maxHeartbeats 4000000 in
set_option maxRecDepth 100000 in
theorem c_X11_thefts {S : St} {I : Isl} (hI : IsM I S) (hO : IOK I) {w : Nat → Nat} (hw0 : ∀ t, t < iM I → S.1 93 t = nI (w t)) {L : Nat} (hL : S.1 83 17 = nI L) (hL7 : L ≤ 6) (hv : VS I w L) {x y : Int32} : C 6 180 yX11_thefts mX11_thefts [.ref 83, .int x, .int y] S (qi (i2 (¬ ((0 ≤ x.toInt ∧ x.toInt < (iP I : Int)) ∧ 0 ≤ y.toInt ∧ y.toInt ≤ 3)) (an (-1) S) (fun r S' => r = nI (oo (fun j => heldF I (digF (rK (tfE I L (tn x) (tn y) (codeF I w)) j)) (tn x)) (rC (tfE I L (tn x) (tn y) (codeF I w)))) ∧ FrT S S'))) := by
  have n0 : (nI 0).toInt = 0 := rfl
  have n1 : (nI 1).toInt = 1 := rfl
  have n3 : (nI 3).toInt = 3 := rfl
  have n5 : (nI 5).toInt = 5 := rfl
  have n7 : (nI 7).toInt = 7 := rfl
  have n2 : (nI 2).toInt = 2 := rfl
  have n6 : (nI 6).toInt = 6 := rfl
  have hO1 := hO.1
  have hO2 := hO.2.1
  have hO3 := hO.2.2.1
  have hO4 := hO.2.2.2.1
  refine C.ofX (by decide) rfl (Nat.le_of_ble_eq_true rfl) ?_
  show X 6 180 mX11_thefts (qi (i2 (¬ ((0 ≤ x.toInt ∧ x.toInt < (iP I : Int)) ∧ 0 ≤ y.toInt ∧ y.toInt ≤ 3)) (an (-1) S) (fun r S' => r = nI (oo (fun j => heldF I (digF (rK (tfE I L (tn x) (tn y) (codeF I w)) j)) (tn x)) (rC (tfE I L (tn x) (tn y) (codeF I w)))) ∧ FrT S S'))) 0 [(0, .ref 83), (1, .int x), (2, .int y)] [] S
  refine x_aload_n 0 dX11_thefts_0 rfl rfl ?_
  refine x_iload_n 1 dX11_thefts_1 rfl rfl ?_
  refine x_callVb (as := [_]) (rest := []) vX11_196 (c_X11_isOne (w := w) hI hO) dX11_thefts_2 l83 rfl rfl rfl (Nat.le_of_ble_eq_true rfl) (Nat.le_of_ble_eq_true rfl) (Nat.le_of_ble_eq_true rfl) (fun c_2 => ?_) (fun c_2 => ?_)
  · refine u_if_eq 17 dX11_thefts_5 (by decide) (by decide) ?_
    refine x_iload_n 2 dX11_thefts_8 rfl rfl ?_
    refine x_iconst (v := nI 0) dX11_thefts_9 (by decide) ?_
    refine x_iconst (v := nI 3) dX11_thefts_10 (by decide) ?_
    refine x_callSb (as := [_, _, _]) (rest := []) sX11_98 c_X11_in dX11_thefts_11 rfl rfl (Nat.le_of_ble_eq_true rfl) (Nat.le_of_ble_eq_true rfl) (Nat.le_of_ble_eq_true rfl) (fun c_11 => ?_) (fun c_11 => ?_)
    · refine t_if_ne 19 dX11_thefts_14 (by decide) (by decide) ?_
      obtain ⟨a, ha, rfl⟩ := nI_ex (x := x) (n := iP I) (by omega) (by omega)
      have ea : (nI a).toInt = (a : Int) := tiN (by omega)
      have ta : tn (nI a) = a := tnN (by omega)
      obtain ⟨b, hb, rfl⟩ := nI_ex (x := y) (n := 4) (by omega) (by omega)
      have eb : (nI b).toInt = (b : Int) := tiN (by omega)
      have tb : tn (nI b) = b := tnN (by omega)
      refine x_aload_n 0 dX11_thefts_19 rfl rfl ?_
      refine x_iload_n 1 dX11_thefts_20 rfl rfl ?_
      refine x_iload_n 2 dX11_thefts_21 rfl rfl ?_
      refine x_callVqv (as := [_, _]) (rest := []) vX11_320 (c_X11_layTheft hI hO hw0 hL hL7 hv ha (by omega)) dX11_thefts_22 l83 rfl rfl rfl (Nat.le_of_ble_eq_true rfl) (Nat.le_of_ble_eq_true rfl) (Nat.le_of_ble_eq_true rfl) (fun S_22 q_22 => ?_)
      refine x_iconst (v := nI 0) dX11_thefts_25 (by decide) ?_
      refine x_istore_n (lv' := [(3, _), (0, _), (1, _), (2, _)]) dX11_thefts_26 rfl (by decide) rfl ?_
      refine x_iconst (v := nI 0) dX11_thefts_27 (by decide) ?_
      refine x_istore (lv' := [(4, _), (3, _), (0, _), (1, _), (2, _)]) dX11_thefts_28 (by decide) rfl ?_
      refine x_pick (lv' := [(4, _), (3, _), (0, _), (1, _), (2, _)]) [0, 1, 2, 3, 4] rfl ?_
      refine (lp_thsM hI hO hw0 hL hL7 hv ha (M := b) (by omega) 0 S_22 (Nat.zero_le _) q_22.1 q_22.2).mono (fun v S' hq => ?_)
      obtain ⟨r, rfl, hr⟩ := hq
      simp only [ta, tb]
      exact q2_1 (fun h => h ⟨by omega, by omega, by omega⟩) hr
    · refine u_if_ne 19 dX11_thefts_14 (by decide) (by decide) ?_
      refine x_iconst (v := -1) dX11_thefts_17 (by decide) ?_
      refine x_iret rfl dX11_thefts_18 (q2_0 (fun h => by first | exact c_2 h.1 | omega) ⟨rfl, rfl⟩)
  · refine t_if_eq 17 dX11_thefts_5 (by decide) (by decide) ?_
    refine x_iconst (v := -1) dX11_thefts_17 (by decide) ?_
    refine x_iret rfl dX11_thefts_18 (q2_0 (fun h => by first | exact c_2 h.1 | omega) ⟨rfl, rfl⟩)
