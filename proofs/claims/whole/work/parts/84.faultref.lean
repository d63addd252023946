/-! ===== the reference: fault, island ===== -/
set_option maxHeartbeats 4000000 in
set_option maxRecDepth 100000 in
theorem lp_fm {S : St} {t n : Nat} {β : Nat → Int32} (hx : TxM t n β S)  : ∀ (f : Nat) (pos : Nat) (I : Isl) (S1 : St), (FrJ S S1 ∧ RdM pos I S1) → (PI I ∧ (iP I = 0 → I = isl0)) → (pos ≤ n ∧ n + 1 ≤ pos + f ∧ prs (chF n β) n f pos I = txF n β) → X 3 90 mX11_faultOf (qi (fun r S' => r = ftF n β ∧ FrJ S S' ∧ ((txF n β).1 = 0 → ∃ p, RdM p (txF n β).2 S'))) 25 [(0, .ref 83), (1, .int (nI t))] [] S1 := by
  intro f pos I S1
  induction hm : f + 0 using Nat.strongRecOn generalizing f pos I S1 with
  | _ mm ih =>
    intro hE hPI hf
    have hx1 := hx.1
    have hx2 := hx.2.1
    obtain ⟨hp, hr1, hr2, hr3, hr4, hr5, hr6⟩ := id hE.2
    have hxa := hx.fr hE.1
    have hP4 := hPI.1.1.1
    have hsg := sg_M (i := pos) hx.2.2.1
    have h32 := hsg.eq (k := 32) (by decide) (by decide)
    have h119 := hsg.eq (k := 119) (by decide) (by decide)
    have hfs : f = (f - 1) + 1 := by omega
    refine x_aload_n 0 dX11_faultOf_25 rfl rfl ?_
    refine y_getI fX11_126 dX11_faultOf_26 l83 rfl hp ?_
    refine x_aload_n 0 dX11_faultOf_29 rfl rfl ?_
    refine x_getR fX11_22 dX11_faultOf_30 l83 rfl ?_
    refine x_iload_n 1 dX11_faultOf_33 rfl rfl ?_
    refine y_iald dX11_faultOf_34 l88 (by omega) (by decide) hxa.2.2.2.1 ?_
    refine y_ic_ge 118 dX11_faultOf_35 (by decide) (by omega) (by omega) (fun c_35 => ?_) (fun c_35 => ?_)
    · refine x_aload_n 0 dX11_faultOf_118 rfl rfl ?_
      refine y_getI fX11_138 dX11_faultOf_119 l83 rfl hr1 ?_
      refine y_if_ne 134 dX11_faultOf_122 (by decide) (by omega) (fun c_122 => ?_) (fun c_122 => ?_)
      · refine x_bipush (v := -9) dX11_faultOf_134 (by decide) ?_
        refine x_iret rfl dX11_faultOf_136 (by
          first
          | (have e : txF n β = (0, I) := by rw [← hf.2.2, hfs, prs_end c_35 c_122]
             exact ⟨_, rfl, (ft_0 (by rw [e])).symm, hE.1, fun _ => by rw [e]; exact ⟨pos, hE.2⟩⟩)
          | (have e : txF n β = (n + 1, I) := by rw [← hf.2.2, hfs, prs_end0 c_35 c_122]
             exact ⟨_, rfl, (ft_1 (by rw [e])).symm, hE.1, fun h => by rw [e] at h; exact absurd h (Nat.succ_ne_zero _)⟩))
      · refine x_aload_n 0 dX11_faultOf_125 rfl rfl ?_
        refine x_getR fX11_22 dX11_faultOf_126 l83 rfl ?_
        refine x_iload_n 1 dX11_faultOf_129 rfl rfl ?_
        refine y_iald dX11_faultOf_130 l88 (by omega) (by decide) hxa.2.2.2.1 ?_
        refine x_goto 136 dX11_faultOf_131 (by decide) ?_
        refine x_iret rfl dX11_faultOf_136 (by
          first
          | (have e : txF n β = (0, I) := by rw [← hf.2.2, hfs, prs_end c_35 c_122]
             exact ⟨_, rfl, (ft_0 (by rw [e])).symm, hE.1, fun _ => by rw [e]; exact ⟨pos, hE.2⟩⟩)
          | (have e : txF n β = (n + 1, I) := by rw [← hf.2.2, hfs, prs_end0 c_35 c_122]
             exact ⟨_, rfl, (ft_1 (by rw [e])).symm, hE.1, fun h => by rw [e] at h; exact absurd h (Nat.succ_ne_zero _)⟩))
    · have hnp : ¬ n ≤ pos := by omega
      refine x_aload_n 0 dX11_faultOf_38 rfl rfl ?_
      refine x_iload_n 1 dX11_faultOf_39 rfl rfl ?_
      refine x_aload_n 0 dX11_faultOf_40 rfl rfl ?_
      refine y_getI fX11_126 dX11_faultOf_41 l83 rfl hp ?_
      refine x_callVu (as := [_, _]) (rest := []) vX11_129 (c_byteM hxa (by omega)) dX11_faultOf_44 l83 rfl rfl rfl (Nat.le_of_ble_eq_true rfl) (Nat.le_of_ble_eq_true rfl) (Nat.le_of_ble_eq_true rfl) ?_
      refine x_istore_n (lv' := [(2, _), (0, _), (1, _)]) dX11_faultOf_47 rfl (by decide) rfl ?_
      refine x_iload_n 0 dX11_faultOf_48 rfl rfl ?_
      refine x_bipush (v := nI 32) dX11_faultOf_49 (by decide) ?_
      refine x_ic_ne 67 dX11_faultOf_51 (by decide) (fun c_51 => ?_) (fun c_51 => ?_)
      · have h32n : ¬ chF n β pos = 32 := fun e => c_51 (h32.mpr e)
        refine x_aload_n 1 dX11_faultOf_67 rfl rfl ?_
        refine y_getI fX11_138 dX11_faultOf_68 l83 rfl hr1 ?_
        refine y_if_ne 85 dX11_faultOf_71 (by decide) (by omega) (fun c_71 => ?_) (fun c_71 => ?_)
        · refine x_iload_n 0 dX11_faultOf_85 rfl rfl ?_
          refine x_bipush (v := nI 119) dX11_faultOf_86 (by decide) ?_
          refine x_ic_ne 102 dX11_faultOf_88 (by decide) (fun c_88 => ?_) (fun c_88 => ?_)
          · refine x_aload_n 1 dX11_faultOf_102 rfl rfl ?_
            refine x_iload_n 2 dX11_faultOf_103 rfl rfl ?_
            refine x_callVqi (as := [_]) (rest := []) vX11_172 (c_X11_readsThing hxa hE.2 (by omega) hPI.1) dX11_faultOf_104 l83 rfl rfl rfl (Nat.le_of_ble_eq_true rfl) (Nat.le_of_ble_eq_true rfl) (Nat.le_of_ble_eq_true rfl) (fun r_104 S_104 q_104 => ?_)
            have hok9 := True.intro
            refine x_if_ne 115 dX11_faultOf_107 (by decide) (fun c_107 => ?_) (fun c_107 => ?_)
            · refine x_goto 25 dX11_faultOf_115 (by decide) ?_
              refine x_pick (lv' := [(0, _), (1, _)]) [1, 2] rfl ?_
              have hit := item_T (ch := (chF n β)) (pos := pos) (I := I) c_71 (fun e => c_88 (h119.mpr e))
              rcases q_104 with ⟨fq, ⟨b1, b2, b3⟩ | ⟨b1, b2, b3⟩⟩
              · rw [← hit] at b1 b3
                have hi := item_ok hPI.1 hPI.2 b1
                have h9 := hf.2.2
                rw [hfs, prs_t hnp h32n b1] at h9
                exact ih (f - 1 + 0) (by omega) (f - 1) _ _ S_104 rfl ⟨hE.1.trans fq, b3⟩ ⟨hi.2.2.1, fun e => absurd e hi.2.2.2⟩ ⟨hi.2.1, by omega, h9⟩
              · rw [b2] at c_107
                exact absurd rfl c_107
            · have hit := item_T (ch := (chF n β)) (pos := pos) (I := I) c_71 (fun e => c_88 (h119.mpr e))
              have hz : (item (chF n β) pos I).2.2 = false ∧ S_104.1 83 19 = nI (item (chF n β) pos I).1 := by
                rw [hit]
                rcases q_104.2 with ⟨b1, b2, b3⟩ | ⟨b1, b2, b3⟩
                · rw [b2] at c_107; exact absurd c_107 (by decide)
                · exact ⟨b1, b3⟩
              have hfq := q_104.1
              refine x_aload_n 1 dX11_faultOf_110 rfl rfl ?_
              refine y_getI fX11_126 dX11_faultOf_111 l83 rfl hz.2 ?_
              refine x_iret rfl dX11_faultOf_114 (by
                have e : txF n β = ((item (chF n β) pos I).1 + 1, I) := by rw [← hf.2.2, hfs, prs_f hnp h32n (by rw [hz.1]; decide)]
                exact ⟨_, rfl, (ft_1 (by rw [e])).symm, hE.1.trans hfq, fun h => by rw [e] at h; exact absurd h (Nat.succ_ne_zero _)⟩)
          · refine x_aload_n 1 dX11_faultOf_91 rfl rfl ?_
            refine x_iload_n 2 dX11_faultOf_92 rfl rfl ?_
            refine x_callVqi (as := [_]) (rest := []) vX11_169 (c_X11_readsWork hxa hE.2 (by omega) hPI.1 (by omega)) dX11_faultOf_93 l83 rfl rfl rfl (Nat.le_of_ble_eq_true rfl) (Nat.le_of_ble_eq_true rfl) (Nat.le_of_ble_eq_true rfl) (fun r_93 S_93 q_93 => ?_)
            have hok9 := True.intro
            refine x_if_eq 110 dX11_faultOf_96 (by decide) (fun c_96 => ?_) (fun c_96 => ?_)
            · have hit := item_W (ch := (chF n β)) (pos := pos) (I := I) c_71 (h119.mp c_88)
              have hz : (item (chF n β) pos I).2.2 = false ∧ S_93.1 83 19 = nI (item (chF n β) pos I).1 := by
                rw [hit]
                rcases q_93.2 with ⟨b1, b2, b3⟩ | ⟨b1, b2, b3⟩
                · rw [b2] at c_96; exact absurd c_96 (by decide)
                · exact ⟨b1, b3⟩
              have hfq := q_93.1
              refine x_aload_n 1 dX11_faultOf_110 rfl rfl ?_
              refine y_getI fX11_126 dX11_faultOf_111 l83 rfl hz.2 ?_
              refine x_iret rfl dX11_faultOf_114 (by
                have e : txF n β = ((item (chF n β) pos I).1 + 1, I) := by rw [← hf.2.2, hfs, prs_f hnp h32n (by rw [hz.1]; decide)]
                exact ⟨_, rfl, (ft_1 (by rw [e])).symm, hE.1.trans hfq, fun h => by rw [e] at h; exact absurd h (Nat.succ_ne_zero _)⟩)
            · refine x_goto 115 dX11_faultOf_99 (by decide) ?_
              refine x_goto 25 dX11_faultOf_115 (by decide) ?_
              refine x_pick (lv' := [(0, _), (1, _)]) [1, 2] rfl ?_
              have hit := item_W (ch := (chF n β)) (pos := pos) (I := I) c_71 (h119.mp c_88)
              rcases q_93 with ⟨fq, ⟨b1, b2, b3⟩ | ⟨b1, b2, b3⟩⟩
              · rw [← hit] at b1 b3
                have hi := item_ok hPI.1 hPI.2 b1
                have h9 := hf.2.2
                rw [hfs, prs_t hnp h32n b1] at h9
                exact ih (f - 1 + 0) (by omega) (f - 1) _ _ S_93 rfl ⟨hE.1.trans fq, b3⟩ ⟨hi.2.2.1, fun e => absurd e hi.2.2.2⟩ ⟨hi.2.1, by omega, h9⟩
              · rw [b2] at c_96
                exact absurd rfl c_96
        · refine x_aload_n 1 dX11_faultOf_74 rfl rfl ?_
          refine x_iload_n 2 dX11_faultOf_75 rfl rfl ?_
          refine x_callVqi (as := [_]) (rest := []) vX11_166 (c_X11_readsPeople hxa hE.2 (by omega) (hPI.2 c_71)) dX11_faultOf_76 l83 rfl rfl rfl (Nat.le_of_ble_eq_true rfl) (Nat.le_of_ble_eq_true rfl) (Nat.le_of_ble_eq_true rfl) (fun r_76 S_76 q_76 => ?_)
          have hok9 := True.intro
          refine x_if_eq 110 dX11_faultOf_79 (by decide) (fun c_79 => ?_) (fun c_79 => ?_)
          · have hit := item_P (ch := (chF n β)) (pos := pos) (I := I) c_71
            have hz : (item (chF n β) pos I).2.2 = false ∧ S_76.1 83 19 = nI (item (chF n β) pos I).1 := by
              rw [hit]
              rcases q_76.2 with ⟨b1, b2, b3⟩ | ⟨b1, b2, b3⟩
              · rw [b2] at c_79; exact absurd c_79 (by decide)
              · exact ⟨b1, b3⟩
            have hfq := q_76.1
            refine x_aload_n 1 dX11_faultOf_110 rfl rfl ?_
            refine y_getI fX11_126 dX11_faultOf_111 l83 rfl hz.2 ?_
            refine x_iret rfl dX11_faultOf_114 (by
              have e : txF n β = ((item (chF n β) pos I).1 + 1, I) := by rw [← hf.2.2, hfs, prs_f hnp h32n (by rw [hz.1]; decide)]
              exact ⟨_, rfl, (ft_1 (by rw [e])).symm, hE.1.trans hfq, fun h => by rw [e] at h; exact absurd h (Nat.succ_ne_zero _)⟩)
          · refine x_goto 115 dX11_faultOf_82 (by decide) ?_
            refine x_goto 25 dX11_faultOf_115 (by decide) ?_
            refine x_pick (lv' := [(0, _), (1, _)]) [1, 2] rfl ?_
            have hit := item_P (ch := (chF n β)) (pos := pos) (I := I) c_71
            rcases q_76 with ⟨fq, ⟨b1, b2, b3⟩ | ⟨b1, b2, b3⟩⟩
            · rw [← hit] at b1 b3
              have hi := item_ok hPI.1 hPI.2 b1
              have h9 := hf.2.2
              rw [hfs, prs_t hnp h32n b1] at h9
              exact ih (f - 1 + 0) (by omega) (f - 1) _ _ S_76 rfl ⟨hE.1.trans fq, b3⟩ ⟨hi.2.2.1, fun e => absurd e hi.2.2.2⟩ ⟨hi.2.1, by omega, h9⟩
            · rw [b2] at c_79
              exact absurd rfl c_79
      · refine x_aload_n 1 dX11_faultOf_54 rfl rfl ?_
        refine x_dup dX11_faultOf_55 rfl ?_
        refine y_getI fX11_126 dX11_faultOf_56 l83 rfl hp ?_
        refine x_iconst (v := nI 1) dX11_faultOf_59 (by decide) ?_
        refine y_iadd dX11_faultOf_60 ?_
        refine x_putI pX11_126 dX11_faultOf_61 l83 rfl ?_
        refine x_goto 115 dX11_faultOf_64 (by decide) ?_
        refine x_goto 25 dX11_faultOf_115 (by decide) ?_
        refine x_pick (lv' := [(0, _), (1, _)]) [1, 2] rfl ?_
        have h9 := hf.2.2
        rw [hfs, prs_bl hnp (h32.mp c_51)] at h9
        exact ih (f - 1 + 0) (by omega) (f - 1) (pos + 1) I _ rfl ⟨hE.1.set (Or.inl (by decide)), hE.2.keep rdI_eq (fun b h1 h2 => rdI_j (by omega)) (fun a b h1 h2 => rdI_k (by omega))⟩ hPI ⟨by omega, by omega, h9⟩

set_option maxHeartbeats 4000000 in
set_option maxRecDepth 100000 in
theorem c_X11_faultOf {S : St} {t n : Nat} {β : Nat → Int32} (hx : TxM t n β S) : C 3 90 yX11_faultOf mX11_faultOf [.ref 83, .int (nI t)] S (qi (fun r S' => r = ftF n β ∧ FrJ S S' ∧ ((txF n β).1 = 0 → ∃ p, RdM p (txF n β).2 S'))) := by
  refine C.ofX (by decide) rfl (Nat.le_of_ble_eq_true rfl) ?_
  show X 3 90 mX11_faultOf (qi (fun r S' => r = ftF n β ∧ FrJ S S' ∧ ((txF n β).1 = 0 → ∃ p, RdM p (txF n β).2 S'))) 0 [(0, .ref 83), (1, .int (nI t))] [] S
  refine x_aload_n 0 dX11_faultOf_0 rfl rfl ?_
  refine x_iconst (v := nI 0) dX11_faultOf_1 (by decide) ?_
  refine x_putI pX11_126 dX11_faultOf_2 l83 rfl ?_
  refine x_aload_n 0 dX11_faultOf_5 rfl rfl ?_
  refine x_iconst (v := nI 0) dX11_faultOf_6 (by decide) ?_
  refine x_putI pX11_138 dX11_faultOf_7 l83 rfl ?_
  refine x_aload_n 0 dX11_faultOf_10 rfl rfl ?_
  refine x_iconst (v := nI 0) dX11_faultOf_11 (by decide) ?_
  refine x_putI pX11_144 dX11_faultOf_12 l83 rfl ?_
  refine x_aload_n 0 dX11_faultOf_15 rfl rfl ?_
  refine x_iconst (v := nI 0) dX11_faultOf_16 (by decide) ?_
  refine x_putI pX11_153 dX11_faultOf_17 l83 rfl ?_
  refine x_aload_n 0 dX11_faultOf_20 rfl rfl ?_
  refine x_iconst (v := nI 0) dX11_faultOf_21 (by decide) ?_
  refine x_putI pX11_147 dX11_faultOf_22 l83 rfl ?_
  refine x_pick (lv' := [(0, _), (1, _)]) [0, 1] rfl ?_
  have f0 : FrJ S (setI (setI (setI (setI (setI S 83 19 (nI 0)) 83 21 (nI 0)) 83 22 (nI 0)) 83 23 (nI 0)) 83 24 (nI 0)) := ((((FrJ.refl.set (Or.inl (by decide))).set (Or.inl (by decide))).set (Or.inl (by decide))).set (Or.inl (by decide))).set (Or.inl (by decide))
  have hm : iM isl0 = 0 := rfl
  have hw : iW isl0 = 0 := rfl
  exact lp_fm hx (n + 1) 0 isl0 _ ⟨f0, by rw [rdI_j (by decide), rdI_j (by decide), rdI_j (by decide), rdI_j (by decide), rdI_eq], by rw [rdI_j (by decide), rdI_j (by decide), rdI_j (by decide), rdI_eq]; rfl, by rw [rdI_j (by decide), rdI_j (by decide), rdI_eq]; rfl, by rw [rdI_j (by decide), rdI_eq]; rfl, by rw [rdI_eq]; rfl, fun t ht => by omega, fun v hv => by omega⟩ ⟨PI_0, fun _ => rfl⟩ ⟨Nat.zero_le n, by omega, rfl⟩

def ByM (S : St) : Prop := ∀ j, j < 400 → -128 ≤ (S.1 89 j).toInt ∧ (S.1 89 j).toInt ≤ 127
def tnM (S : St) (x : Int32) : Nat := tn (S.1 88 (tn x))
def tbM (S : St) (x : Int32) : Nat → Int32 := fun i => S.1 89 (100 * tn x + i)
theorem txM {S : St} (hT : RwM S) (hB : ByM S) {t : Nat} (ht : t < 4) (hm : ¬ (S.1 88 t).toInt < 0) : TxM t (tnM S (nI t)) (tbM S (nI t)) S := by
  have e : tn (nI t) = t := tnN (by omega)
  rcases hT.2 t ht with k | ⟨z, hz, k⟩
  · rw [k] at hm; exact absurd (by decide) hm
  · have e2 : tnM S (nI t) = z := by unfold tnM; rw [e, k]; exact tnN (by omega)
    rw [e2]
    unfold tbM
    rw [e]
    exact ⟨ht, hz, fun i hi => hB _ (by omega), k, fun i hi => rfl⟩

set_option maxHeartbeats 4000000 in
set_option maxRecDepth 100000 in
theorem c_X11_fault {S : St} (hT : RwM S) (hB : ByM S) {x : Int32} : C 4 120 yX11_fault mX11_fault [.ref 83, .int x] S (qi (i3 (¬ (0 ≤ x.toInt ∧ x.toInt < 4)) ((S.1 88 (tn x)).toInt < 0) (an (-1) S) (an (-3) (fndM S 1)) (fun r S' => r = (ftF (tnM S x) (tbM S x)) ∧ FrJ S S'))) := by
  have n0 : (nI 0).toInt = 0 := rfl
  have n1 : (nI 1).toInt = 1 := rfl
  have n3 : (nI 3).toInt = 3 := rfl
  have n5 : (nI 5).toInt = 5 := rfl
  have n7 : (nI 7).toInt = 7 := rfl
  have n2 : (nI 2).toInt = 2 := rfl
  have n6 : (nI 6).toInt = 6 := rfl
  refine C.ofX (by decide) rfl (Nat.le_of_ble_eq_true rfl) ?_
  show X 4 120 mX11_fault (qi (i3 (¬ (0 ≤ x.toInt ∧ x.toInt < 4)) ((S.1 88 (tn x)).toInt < 0) (an (-1) S) (an (-3) (fndM S 1)) (fun r S' => r = (ftF (tnM S x) (tbM S x)) ∧ FrJ S S'))) 0 [(0, .ref 83), (1, .int x)] [] S
  refine x_iload_n 1 dX11_fault_0 rfl rfl ?_
  refine x_callSb (as := [_]) (rest := []) sX11_123 c_X11_isText dX11_fault_1 rfl rfl (Nat.le_of_ble_eq_true rfl) (Nat.le_of_ble_eq_true rfl) (Nat.le_of_ble_eq_true rfl) (fun c_1 => ?_) (fun c_1 => ?_)
  · refine t_if_ne 9 dX11_fault_4 (by decide) (by decide) ?_
    obtain ⟨a, ha, rfl⟩ := nI_ex (x := x) (n := 4) (by omega) (by omega)
    have ea : (nI a).toInt = (a : Int) := tiN (by omega)
    have ta : tn (nI a) = a := tnN (by omega)
    refine x_aload_n 0 dX11_fault_9 rfl rfl ?_
    refine x_getR fX11_22 dX11_fault_10 l83 rfl ?_
    refine x_iload_n 1 dX11_fault_13 rfl rfl ?_
    refine y_iald dX11_fault_14 l88 (by omega) (by decide) rfl ?_
    refine x_if_ge 26 dX11_fault_15 (by decide) (fun c_15 => ?_) (fun c_15 => ?_)
    · refine x_aload_n 0 dX11_fault_26 rfl rfl ?_
      refine x_iload_n 1 dX11_fault_27 rfl rfl ?_
      refine x_callVqi (as := [_]) (rest := []) vX11_175 (c_X11_faultOf (txM hT hB ha (by omega))) dX11_fault_28 l83 rfl rfl rfl (Nat.le_of_ble_eq_true rfl) (Nat.le_of_ble_eq_true rfl) (Nat.le_of_ble_eq_true rfl) (fun r_28 S_28 q_28 => ?_)
      refine x_iret rfl dX11_fault_31 (by
        first
        | exact q3_1 (by omega) (by rw [ta]; exact c_15) ⟨rfl, rfl⟩
        | exact q3_2 (by omega) (by rw [ta]; omega) ⟨q_28.1, q_28.2.1⟩)
    · refine x_aload_n 0 dX11_fault_18 rfl rfl ?_
      refine x_iconst (v := nI 1) dX11_fault_19 (by decide) ?_
      refine x_callVu (as := [_]) (rest := []) vX11_112 (c_X11_meets (by decide)) dX11_fault_20 l83 rfl rfl rfl (Nat.le_of_ble_eq_true rfl) (Nat.le_of_ble_eq_true rfl) (Nat.le_of_ble_eq_true rfl) ?_
      refine x_goto 31 dX11_fault_23 (by decide) ?_
      refine x_iret rfl dX11_fault_31 (by
        first
        | exact q3_1 (by omega) (by rw [ta]; exact c_15) ⟨rfl, rfl⟩
        | exact q3_2 (by omega) (by rw [ta]; omega) ⟨q_28.1, q_28.2.1⟩)
  · refine u_if_ne 9 dX11_fault_4 (by decide) (by decide) ?_
    refine x_iconst (v := -1) dX11_fault_7 (by decide) ?_
    refine x_iret rfl dX11_fault_8 (q3_0 (by omega) ⟨rfl, rfl⟩)

/-- the first k things have come over, j bags -/
def E1 (I : Isl) (k j : Nat) (S S1 : St) : Prop := S1.2 = S.2 ∧ (∀ a b, ¬ (a = 83 ∧ b = 13) → ¬ (a = 90 ∨ a = 91 ∨ a = 93) → S1.1 a b = S.1 a b) ∧ S1.1 83 13 = nI j ∧ (∀ u, u < k → S1.1 90 u = nI (iK I u) ∧ S1.1 93 u = nI (iS I u)) ∧ (∀ b, b < j → S1.1 91 b = nI (iG I b)) ∧ j ≤ iB I ∧ (∀ b, b < j → iG I b < k) ∧ ∀ b, j ≤ b → b < iB I → k ≤ iG I b
theorem E1_nb {I : Isl} {k j : Nat} {S S1 : St} (hO : IOK I) (hE : E1 I k j S S1) (hk : k < iM I) (hb : ¬ bagK (iK I k)) : E1 I (k + 1) j S (setI (setI S1 90 k (nI (iK I k))) 93 k (nI (iS I k))) := by
  obtain ⟨e1, e2, e3, e4, e5, e6, e7, e8⟩ := hE
  refine ⟨e1, fun a b h1 h2 => ?_, ?_, fun u hu => ?_, fun b hb' => ?_, e6, fun b hb' => Nat.lt_succ_of_lt (e7 b hb'), fun b h1 h2 => ?_⟩
  · rw [rdI_k (by omega), rdI_k (by omega)]; exact e2 a b h1 h2
  · rw [rdI_k (by decide), rdI_k (by decide)]; exact e3
  · by_cases q : u = k
    · rw [q]; exact ⟨(rdI_k (by decide)).trans rdI_eq, rdI_eq⟩
    · have := e4 u (by omega)
      exact ⟨(rdI_k (by decide)).trans ((rdI_j q).trans this.1), (rdI_j q).trans ((rdI_k (by decide)).trans this.2)⟩
  · rw [rdI_k (by decide), rdI_k (by decide)]; exact e5 b hb'
  · have a := e8 b h1 h2
    have : ¬ iG I b = k := fun e => hb (by rw [← e]; exact (hO.2.2.2.2.2.1 b h2).2)
    omega
theorem E1_bg {I : Isl} {k j : Nat} {S S1 : St} (hO : IOK I) (hE : E1 I k j S S1) (hk : k < iM I) (hb : bagK (iK I k)) : j < iB I ∧ E1 I (k + 1) (j + 1) S (setI (setI (setI (setI S1 90 k (nI (iK I k))) 93 k (nI (iS I k))) 91 j (nI k)) 83 13 (nI (j + 1))) := by
  obtain ⟨e1, e2, e3, e4, e5, e6, e7, e8⟩ := hE
  obtain ⟨c, hc, hck⟩ := hO.2.2.2.2.2.2.2.1 k hk hb
  have hjc : j ≤ c := Classical.byContradiction fun q => by
    have := e7 c (by omega)
    omega
  have hj : j = c := Classical.byContradiction fun q => by
    have h2 : iB I ≤ 2 := hO.2.2.2.1
    have hc1 : c = 1 := by omega
    have hj0 : j = 0 := by omega
    have := hO.2.2.2.2.2.2.1 (by omega)
    have := e8 0 (by omega) (by omega)
    rw [hc1] at hck
    omega
  subst hj
  refine ⟨hc, e1, fun a b h1 h2 => ?_, rdI_eq, fun u hu => ?_, fun b hb' => ?_, by omega, fun b hb' => ?_, fun b h1 h2 => ?_⟩
  · have h0 : (setI (setI (setI (setI S1 90 k (nI (iK I k))) 93 k (nI (iS I k))) 91 j (nI k)) 83 13 (nI (j + 1))).1 a b = (setI (setI (setI S1 90 k (nI (iK I k))) 93 k (nI (iS I k))) 91 j (nI k)).1 a b := by
      by_cases q : a = 83
      · subst q; exact rdI_j (fun z => h1 ⟨rfl, z⟩)
      · exact rdI_k q
    rw [h0, rdI_k (by omega), rdI_k (by omega), rdI_k (by omega)]; exact e2 a b h1 h2
  · by_cases q : u = k
    · rw [q]; exact ⟨(rdI_k (by decide)).trans ((rdI_k (by decide)).trans ((rdI_k (by decide)).trans rdI_eq)), (rdI_k (by decide)).trans ((rdI_k (by decide)).trans rdI_eq)⟩
    · have := e4 u (by omega)
      exact ⟨(rdI_k (by decide)).trans ((rdI_k (by decide)).trans ((rdI_k (by decide)).trans ((rdI_j q).trans this.1))), (rdI_k (by decide)).trans ((rdI_k (by decide)).trans ((rdI_j q).trans ((rdI_k (by decide)).trans this.2)))⟩
  · by_cases q : b = j
    · rw [q, hck]; exact (rdI_k (by decide)).trans rdI_eq
    · exact (rdI_k (by decide)).trans ((rdI_j q).trans ((rdI_k (by decide)).trans ((rdI_k (by decide)).trans (e5 b (by omega)))))
  · by_cases q : b = j
    · rw [q, hck]; exact Nat.lt_succ_self k
    · exact Nat.lt_succ_of_lt (e7 b (by omega))
  · have a := e8 b (by omega) h2
    have : ¬ iG I b = k := fun e => by have := hO.inj hc h2 (hck.trans e.symm); omega
    omega
def E2 (I : Isl) (i : Nat) (S S1 : St) : Prop := S1.2 = S.2 ∧ (∀ a b, ¬ a = 92 → S1.1 a b = S.1 a b) ∧ ∀ u, u < i → S1.1 92 u = S.1 96 u
theorem E2_s {I : Isl} {i : Nat} {S S1 : St} (h : E2 I i S S1) : E2 I (i + 1) S (setI S1 92 i (S.1 96 i)) :=
  ⟨h.1, fun a b ha => (rdI_k ha).trans (h.2.1 a b ha), fun u hu => by
    by_cases q : u = i
    · rw [q]; exact rdI_eq
    · exact (rdI_j q).trans (h.2.2 u (by omega))⟩
def E3 (k : Nat) (S S1 : St) : Prop := S1.2 = S.2 ∧ (∀ a b, ¬ a = 100 → S1.1 a b = S.1 a b) ∧ ∀ u, u < k → S1.1 100 u = -1
theorem E3_s {i : Nat} {S S1 : St} (h : E3 i S S1) : E3 (i + 1) S (setI S1 100 i (-1)) :=
  ⟨h.1, fun a b ha => (rdI_k ha).trans (h.2.1 a b ha), fun u hu => by
    by_cases q : u = i
    · rw [q]; exact rdI_eq
    · exact (rdI_j q).trans (h.2.2 u (by omega))⟩

set_option maxHeartbeats 4000000 in
set_option maxRecDepth 100000 in
theorem lp_is1 {S : St} {I : Isl} {t : Nat} (hO : IOK I) (h11 : S.1 83 11 = nI (iM I)) (h94 : ∀ t, t < iM I → S.1 94 t = nI (iK I t) ∧ S.1 95 t = nI (iS I t)) {Q : Option Value → St → Prop} (kk : ∀ S2, E1 I (iM I) (iB I) S S2 → X 4 120 mX11_island Q 140 [(2, .int (nI 0)), (0, .ref 83), (1, .int (nI t))] [] S2)  : ∀ (k : Nat) (j : Nat) (S1 : St), (k ≤ iM I) → (E1 I k j S S1) → X 4 120 mX11_island (Q) 68 [(2, .int (nI k)), (0, .ref 83), (1, .int (nI t))] [] S1 := by
  intro k j S1
  induction hm : iM I - k using Nat.strongRecOn generalizing k j S1 with
  | _ mm ih =>
    intro hk hE
    have hO1 := hO.1
    have hO2 := hO.2.1
    have hO3 := hO.2.2.1
    have hO4 := hO.2.2.2.1
    have hm1 : S1.1 83 11 = nI (iM I) := (hE.2.1 83 11 (by decide) (by decide)).trans h11
    have hj3 := hE.2.2.1
    have hjB := hE.2.2.2.2.2.1
    have h5 := hO.2.2.2.2.1 k
    refine x_iload_n 0 dX11_island_68 rfl rfl ?_
    refine x_aload_n 1 dX11_island_69 rfl rfl ?_
    refine y_getI fX11_181 dX11_island_70 l83 rfl hm1 ?_
    refine y_ic_ge 138 dX11_island_73 (by decide) (by omega) (by omega) (fun c_73 => ?_) (fun c_73 => ?_)
    · refine x_iconst (v := nI 0) dX11_island_138 (by decide) ?_
      refine x_istore_n (lv' := [(2, _), (0, _), (1, _)]) dX11_island_139 rfl (by decide) rfl ?_
      refine x_pick (lv' := [(2, _), (0, _), (1, _)]) [0, 1, 2] rfl ?_
      obtain rfl : k = iM I := (by omega)
      obtain rfl : j = iB I := Classical.byContradiction fun q => by
        have a := hE.2.2.2.2.2.2.2 j (Nat.le_refl j) (by omega)
        have b := (hO.2.2.2.2.2.1 j (by omega)).1
        omega
      exact kk S1 hE
    · refine x_aload_n 1 dX11_island_76 rfl rfl ?_
      refine x_getR fX11_29 dX11_island_77 l83 rfl ?_
      refine x_iload_n 0 dX11_island_80 rfl rfl ?_
      refine x_aload_n 1 dX11_island_81 rfl rfl ?_
      refine x_getR fX11_41 dX11_island_82 l83 rfl ?_
      refine x_iload_n 0 dX11_island_85 rfl rfl ?_
      refine y_iald dX11_island_86 l94 (by omega) (by decide) ((hE.2.1 94 k (by omega) (by omega)).trans (h94 k (by omega)).1) ?_
      refine y_iast dX11_island_87 l90 (by omega) (by decide) ?_
      refine x_aload_n 1 dX11_island_88 rfl rfl ?_
      refine x_getR fX11_38 dX11_island_89 l83 rfl ?_
      refine x_iload_n 0 dX11_island_92 rfl rfl ?_
      refine x_aload_n 1 dX11_island_93 rfl rfl ?_
      refine x_getR fX11_44 dX11_island_94 l83 rfl ?_
      refine x_iload_n 0 dX11_island_97 rfl rfl ?_
      refine y_iald dX11_island_98 l95 (by omega) (by decide) (((rdI_k (by decide))).trans ((hE.2.1 95 k (by omega) (by omega)).trans (h94 k (by omega)).2)) ?_
      refine y_iast dX11_island_99 l93 (by omega) (by decide) ?_
      refine x_aload_n 1 dX11_island_100 rfl rfl ?_
      refine x_getR fX11_29 dX11_island_101 l83 rfl ?_
      refine x_iload_n 0 dX11_island_104 rfl rfl ?_
      refine y_iald dX11_island_105 l90 (by omega) (by decide) (((rdI_k (by decide))).trans rdI_eq) ?_
      refine x_callSb (as := [_]) (rest := []) sX11_150 (c_X11_isBagKind (h5 (by omega))) dX11_island_106 rfl rfl (Nat.le_of_ble_eq_true rfl) (Nat.le_of_ble_eq_true rfl) (Nat.le_of_ble_eq_true rfl) (fun c_106 => ?_) (fun c_106 => ?_)
      · refine u_if_eq 132 dX11_island_109 (by decide) (by decide) ?_
        have hbg := E1_bg hO hE (by omega) c_106
        have hjl := hbg.1
        refine x_aload_n 1 dX11_island_112 rfl rfl ?_
        refine x_getR fX11_32 dX11_island_113 l83 rfl ?_
        refine x_aload_n 1 dX11_island_116 rfl rfl ?_
        refine y_getI fX11_187 dX11_island_117 l83 rfl ((((rdI_k (by decide))).trans (rdI_k (by decide))).trans hj3) ?_
        refine x_iload_n 0 dX11_island_120 rfl rfl ?_
        refine y_iast dX11_island_121 l91 (by omega) (by decide) ?_
        refine x_aload_n 1 dX11_island_122 rfl rfl ?_
        refine x_dup dX11_island_123 rfl ?_
        refine y_getI fX11_187 dX11_island_124 l83 rfl (((((rdI_k (by decide))).trans (rdI_k (by decide))).trans (rdI_k (by decide))).trans hj3) ?_
        refine x_iconst (v := nI 1) dX11_island_127 (by decide) ?_
        refine y_iadd dX11_island_128 ?_
        refine x_putI pX11_187 dX11_island_129 l83 rfl ?_
        refine y_iinc (lv' := [(2, _), (0, _), (1, _)]) 0 dX11_island_132 rfl (by decide) rfl ?_
        refine x_goto 68 dX11_island_135 (by decide) ?_
        refine x_pick (lv' := [(2, _), (0, _), (1, _)]) [0, 1, 2] rfl ?_
        first
        | exact ih (iM I - (k + 1)) (by omega) (k + 1) (j + 1) _ rfl (by omega) hbg.2
        | exact ih (iM I - (k + 1)) (by omega) (k + 1) j _ rfl (by omega) (E1_nb hO hE (by omega) c_106)
      · refine t_if_eq 132 dX11_island_109 (by decide) (by decide) ?_
        refine y_iinc (lv' := [(2, _), (0, _), (1, _)]) 0 dX11_island_132 rfl (by decide) rfl ?_
        refine x_goto 68 dX11_island_135 (by decide) ?_
        refine x_pick (lv' := [(2, _), (0, _), (1, _)]) [0, 1, 2] rfl ?_
        first
        | exact ih (iM I - (k + 1)) (by omega) (k + 1) (j + 1) _ rfl (by omega) hbg.2
        | exact ih (iM I - (k + 1)) (by omega) (k + 1) j _ rfl (by omega) (E1_nb hO hE (by omega) c_106)

set_option maxHeartbeats 4000000 in
set_option maxRecDepth 100000 in
theorem lp_is2 {S : St} {I : Isl} {t : Nat} (hO : IOK I) (h15 : S.1 83 15 = nI (iW I)) {Q : Option Value → St → Prop} (kk : ∀ S2, E2 I (4 * iW I) S S2 → X 4 120 mX11_island Q 185 [(2, .int (nI 0)), (0, .ref 83), (1, .int (nI t))] [] (setI (setI (setI S2 83 17 (nI 3)) 83 29 (nI 0)) 83 42 (nI 0)))  : ∀ (i : Nat) (S1 : St), (i ≤ 4 * iW I) → (E2 I i S S1) → X 4 120 mX11_island (Q) 140 [(2, .int (nI i)), (0, .ref 83), (1, .int (nI t))] [] S1 := by
  intro i S1
  induction hm : 4 * iW I - i using Nat.strongRecOn generalizing i S1 with
  | _ mm ih =>
    intro hi hE
    have hO1 := hO.1
    have hO2 := hO.2.1
    have hO3 := hO.2.2.1
    have hO4 := hO.2.2.2.1
    have hw1 : S1.1 83 15 = nI (iW I) := (hE.2.1 83 15 (by decide)).trans h15
    refine x_iload_n 0 dX11_island_140 rfl rfl ?_
    refine x_iconst (v := nI 4) dX11_island_141 (by decide) ?_
    refine x_aload_n 1 dX11_island_142 rfl rfl ?_
    refine y_getI fX11_184 dX11_island_143 l83 rfl hw1 ?_
    refine y_imul dX11_island_146 ?_
    refine y_ic_ge 168 dX11_island_147 (by decide) (by omega) (by omega) (fun c_147 => ?_) (fun c_147 => ?_)
    · refine x_aload_n 1 dX11_island_168 rfl rfl ?_
      refine x_iconst (v := nI 3) dX11_island_169 (by decide) ?_
      refine x_putI pX11_91 dX11_island_170 l83 rfl ?_
      refine x_aload_n 1 dX11_island_173 rfl rfl ?_
      refine x_iconst (v := nI 0) dX11_island_174 (by decide) ?_
      refine x_putI pX11_190 dX11_island_175 l83 rfl ?_
      refine x_aload_n 1 dX11_island_178 rfl rfl ?_
      refine x_iconst (v := nI 0) dX11_island_179 (by decide) ?_
      refine x_putI pX11_193 dX11_island_180 l83 rfl ?_
      refine x_iconst (v := nI 0) dX11_island_183 (by decide) ?_
      refine x_istore_n (lv' := [(2, _), (0, _), (1, _)]) dX11_island_184 rfl (by decide) rfl ?_
      refine x_pick (lv' := [(2, _), (0, _), (1, _)]) [0, 1, 2] rfl ?_
      obtain rfl : i = 4 * iW I := (by omega)
      exact kk S1 hE
    · refine x_aload_n 1 dX11_island_150 rfl rfl ?_
      refine x_getR fX11_35 dX11_island_151 l83 rfl ?_
      refine x_iload_n 0 dX11_island_154 rfl rfl ?_
      refine x_aload_n 1 dX11_island_155 rfl rfl ?_
      refine x_getR fX11_47 dX11_island_156 l83 rfl ?_
      refine x_iload_n 0 dX11_island_159 rfl rfl ?_
      refine y_iald dX11_island_160 l96 (by omega) (by decide) (hE.2.1 96 i (by decide)) ?_
      refine y_iast dX11_island_161 l92 (by omega) (by decide) ?_
      refine y_iinc (lv' := [(2, _), (0, _), (1, _)]) 0 dX11_island_162 rfl (by decide) rfl ?_
      refine x_goto 140 dX11_island_165 (by decide) ?_
      refine x_pick (lv' := [(2, _), (0, _), (1, _)]) [0, 1, 2] rfl ?_
      exact ih (4 * iW I - (i + 1)) (by omega) (i + 1) _ rfl (by omega) (E2_s hE)

set_option maxHeartbeats 4000000 in
set_option maxRecDepth 100000 in
theorem lp_is3 {S : St} {I : Isl} {t : Nat} (h11 : S.1 83 11 = nI (iM I)) {Q : Option Value → St → Prop} (kk : ∀ S2, E3 3 S S2 → Q (some (.int (nI (iM I)))) S2)  : ∀ (k : Nat) (S1 : St), (k ≤ 3) → (E3 k S S1) → X 4 120 mX11_island (Q) 185 [(2, .int (nI k)), (0, .ref 83), (1, .int (nI t))] [] S1 := by
  intro k S1
  induction hm : 3 - k using Nat.strongRecOn generalizing k S1 with
  | _ mm ih =>
    intro hk hE
    refine x_iload_n 0 dX11_island_185 rfl rfl ?_
    refine x_iconst (v := nI 3) dX11_island_186 (by decide) ?_
    refine y_ic_ge 203 dX11_island_187 (by decide) (by omega) (by omega) (fun c_187 => ?_) (fun c_187 => ?_)
    · refine x_aload_n 1 dX11_island_203 rfl rfl ?_
      refine y_getI fX11_181 dX11_island_204 l83 rfl ((hE.2.1 83 11 (by decide)).trans h11) ?_
      refine x_iret rfl dX11_island_207 (by obtain rfl : k = 3 := (by omega); exact kk S1 hE)
    · refine x_aload_n 1 dX11_island_190 rfl rfl ?_
      refine x_getR fX11_59 dX11_island_191 l83 rfl ?_
      refine x_iload_n 0 dX11_island_194 rfl rfl ?_
      refine x_iconst (v := -1) dX11_island_195 (by decide) ?_
      refine y_iast dX11_island_196 l100 (by omega) (by decide) ?_
      refine y_iinc (lv' := [(2, _), (0, _), (1, _)]) 0 dX11_island_197 rfl (by decide) rfl ?_
      refine x_goto 185 dX11_island_200 (by decide) ?_
      refine x_pick (lv' := [(2, _), (0, _), (1, _)]) [0, 1, 2] rfl ?_
      exact ih (3 - (k + 1)) (by omega) (k + 1) _ rfl (by omega) (E3_s hE)

def FIm (a b : Nat) : Prop := (a = 83 ∧ (b = 10 ∨ b = 11 ∨ b = 13 ∨ b = 15 ∨ b = 17 ∨ (19 ≤ b ∧ b ≤ 24) ∨ b = 29 ∨ b = 42)) ∨ (90 ≤ a ∧ a ≤ 96) ∨ a = 100
set_option maxHeartbeats 4000000 in
set_option maxRecDepth 100000 in
theorem c_X11_island {S : St} (hT : RwM S) (hB : ByM S) {x : Int32} : C 4 120 yX11_island mX11_island [.ref 83, .int x] S (qi (i4 (¬ (0 ≤ x.toInt ∧ x.toInt < 4)) ((S.1 88 (tn x)).toInt < 0) (¬ (txF (tnM S x) (tbM S x)).1 = 0) (an (-1) S) (an (-3) (fndM S 1)) (fun r S' => r = -4 ∧ FrJ S S') (fun r S' => r = nI (iM (txF (tnM S x) (tbM S x)).2) ∧ S'.2 = S.2 ∧ (∀ a b, ¬ FIm a b → S'.1 a b = S.1 a b) ∧ IsM (txF (tnM S x) (tbM S x)).2 S' ∧ (∀ t, t < iM (txF (tnM S x) (tbM S x)).2 → S'.1 93 t = nI (iS (txF (tnM S x) (tbM S x)).2 t)) ∧ S'.1 83 17 = nI 3 ∧ S'.1 83 29 = nI 0 ∧ S'.1 83 42 = nI 0 ∧ ∀ k, k < 3 → S'.1 100 k = -1))) := by
  have n0 : (nI 0).toInt = 0 := rfl
  have n1 : (nI 1).toInt = 1 := rfl
  have n3 : (nI 3).toInt = 3 := rfl
  have n5 : (nI 5).toInt = 5 := rfl
  have n7 : (nI 7).toInt = 7 := rfl
  have n2 : (nI 2).toInt = 2 := rfl
  have n6 : (nI 6).toInt = 6 := rfl
  refine C.ofX (by decide) rfl (Nat.le_of_ble_eq_true rfl) ?_
  show X 4 120 mX11_island (qi (i4 (¬ (0 ≤ x.toInt ∧ x.toInt < 4)) ((S.1 88 (tn x)).toInt < 0) (¬ (txF (tnM S x) (tbM S x)).1 = 0) (an (-1) S) (an (-3) (fndM S 1)) (fun r S' => r = -4 ∧ FrJ S S') (fun r S' => r = nI (iM (txF (tnM S x) (tbM S x)).2) ∧ S'.2 = S.2 ∧ (∀ a b, ¬ FIm a b → S'.1 a b = S.1 a b) ∧ IsM (txF (tnM S x) (tbM S x)).2 S' ∧ (∀ t, t < iM (txF (tnM S x) (tbM S x)).2 → S'.1 93 t = nI (iS (txF (tnM S x) (tbM S x)).2 t)) ∧ S'.1 83 17 = nI 3 ∧ S'.1 83 29 = nI 0 ∧ S'.1 83 42 = nI 0 ∧ ∀ k, k < 3 → S'.1 100 k = -1))) 0 [(0, .ref 83), (1, .int x)] [] S
  refine x_iload_n 1 dX11_island_0 rfl rfl ?_
  refine x_callSb (as := [_]) (rest := []) sX11_123 c_X11_isText dX11_island_1 rfl rfl (Nat.le_of_ble_eq_true rfl) (Nat.le_of_ble_eq_true rfl) (Nat.le_of_ble_eq_true rfl) (fun c_1 => ?_) (fun c_1 => ?_)
  · refine t_if_ne 9 dX11_island_4 (by decide) (by decide) ?_
    obtain ⟨a, ha, rfl⟩ := nI_ex (x := x) (n := 4) (by omega) (by omega)
    have ea : (nI a).toInt = (a : Int) := tiN (by omega)
    have ta : tn (nI a) = a := tnN (by omega)
    refine x_aload_n 0 dX11_island_9 rfl rfl ?_
    refine x_getR fX11_22 dX11_island_10 l83 rfl ?_
    refine x_iload_n 1 dX11_island_13 rfl rfl ?_
    refine y_iald dX11_island_14 l88 (by omega) (by decide) rfl ?_
    refine x_if_ge 24 dX11_island_15 (by decide) (fun c_15 => ?_) (fun c_15 => ?_)
    · refine x_aload_n 0 dX11_island_24 rfl rfl ?_
      refine x_iload_n 1 dX11_island_25 rfl rfl ?_
      refine x_callVqi (as := [_]) (rest := []) vX11_175 (c_X11_faultOf (txM hT hB ha (by omega))) dX11_island_26 l83 rfl rfl rfl (Nat.le_of_ble_eq_true rfl) (Nat.le_of_ble_eq_true rfl) (Nat.le_of_ble_eq_true rfl) (fun r_26 S_26 q_26 => ?_)
      refine x_bipush (v := -9) dX11_island_29 (by decide) ?_
      refine x_ic_eq 37 dX11_island_31 (by decide) (fun c_31 => ?_) (fun c_31 => ?_)
      · have h9 : (txF (tnM S (nI a)) (tbM S (nI a))).1 = 0 := (ft_9 (txM hT hB ha (by omega)).2.1).mp (q_26.1.symm.trans c_31)
        obtain ⟨pE, hRE⟩ := q_26.2.2 h9
        obtain ⟨hp, hr1, hr2, hr3, hr4, hr5, hr6⟩ := id hRE
        have hPI := (tx_PI h9).1
        have hO := hPI.1
        refine x_aload_n 0 dX11_island_37 rfl rfl ?_
        refine x_aload_n 0 dX11_island_38 rfl rfl ?_
        refine y_getI fX11_138 dX11_island_39 l83 rfl hr1 ?_
        refine x_putI pX11_178 dX11_island_42 l83 rfl ?_
        refine x_aload_n 0 dX11_island_45 rfl rfl ?_
        refine x_aload_n 0 dX11_island_46 rfl rfl ?_
        refine y_getI fX11_144 dX11_island_47 l83 rfl (((rdI_j (by decide))).trans hr2) ?_
        refine x_putI pX11_181 dX11_island_50 l83 rfl ?_
        refine x_aload_n 0 dX11_island_53 rfl rfl ?_
        refine x_aload_n 0 dX11_island_54 rfl rfl ?_
        refine y_getI fX11_147 dX11_island_55 l83 rfl ((((rdI_j (by decide))).trans (rdI_j (by decide))).trans hr4) ?_
        refine x_putI pX11_184 dX11_island_58 l83 rfl ?_
        refine x_aload_n 0 dX11_island_61 rfl rfl ?_
        refine x_iconst (v := nI 0) dX11_island_62 (by decide) ?_
        refine x_putI pX11_187 dX11_island_63 l83 rfl ?_
        refine x_iconst (v := nI 0) dX11_island_66 (by decide) ?_
        refine x_istore_n (lv' := [(2, _), (0, _), (1, _)]) dX11_island_67 rfl (by decide) rfl ?_
        refine x_pick (lv' := [(2, _), (0, _), (1, _)]) [0, 1, 2] rfl ?_
        have k2 : ∀ c d, ¬ (c = 83 ∧ (d = 10 ∨ d = 11 ∨ d = 13 ∨ d = 15)) → (setI (setI (setI (setI S_26 83 10 (nI (iP (txF (tnM S (nI a)) (tbM S (nI a))).2))) 83 11 (nI (iM (txF (tnM S (nI a)) (tbM S (nI a))).2))) 83 15 (nI (iW (txF (tnM S (nI a)) (tbM S (nI a))).2))) 83 13 (nI 0)).1 c d = S_26.1 c d := fun c d h => by
          by_cases q : c = 83
          · subst q
            rw [rdI_j (by omega), rdI_j (by omega), rdI_j (by omega), rdI_j (by omega)]
          · rw [rdI_k q, rdI_k q, rdI_k q, rdI_k q]
        refine lp_is1 (S := (setI (setI (setI (setI S_26 83 10 (nI (iP (txF (tnM S (nI a)) (tbM S (nI a))).2))) 83 11 (nI (iM (txF (tnM S (nI a)) (tbM S (nI a))).2))) 83 15 (nI (iW (txF (tnM S (nI a)) (tbM S (nI a))).2))) 83 13 (nI 0))) (I := (txF (tnM S (nI a)) (tbM S (nI a))).2) hO (by rw [rdI_j (by decide), rdI_j (by decide), rdI_eq]) (fun t ht => ⟨(k2 94 t (by omega)).trans (hr5 t ht).1, (k2 95 t (by omega)).trans (hr5 t ht).2⟩) (fun S3 h3 => ?_) 0 0 (setI (setI (setI (setI S_26 83 10 (nI (iP (txF (tnM S (nI a)) (tbM S (nI a))).2))) 83 11 (nI (iM (txF (tnM S (nI a)) (tbM S (nI a))).2))) 83 15 (nI (iW (txF (tnM S (nI a)) (tbM S (nI a))).2))) 83 13 (nI 0)) (Nat.zero_le _) ⟨rfl, fun a b _ _ => rfl, rdI_eq, fun u hu => absurd hu (Nat.not_lt_zero u), fun b hb => absurd hb (Nat.not_lt_zero b), Nat.zero_le _, fun b hb => absurd hb (Nat.not_lt_zero b), fun b _ _ => Nat.zero_le _⟩
        obtain ⟨f1, f2, f3, f4, f5, -, -, -⟩ := h3
        refine lp_is2 (S := S3) (I := (txF (tnM S (nI a)) (tbM S (nI a))).2) hO ((f2 83 15 (by decide) (by decide)).trans (by rw [rdI_j (by decide), rdI_eq])) (fun S4 h4 => ?_) 0 S3 (Nat.zero_le _) ⟨rfl, fun a b _ => rfl, fun u hu => absurd hu (Nat.not_lt_zero u)⟩
        obtain ⟨g1, g2, g3⟩ := h4
        have k5 : ∀ c d, ¬ (c = 83 ∧ (d = 17 ∨ d = 29 ∨ d = 42)) → (setI (setI (setI S4 83 17 (nI 3)) 83 29 (nI 0)) 83 42 (nI 0)).1 c d = S4.1 c d := fun c d h => by
          by_cases q : c = 83
          · subst q
            rw [rdI_j (by omega), rdI_j (by omega), rdI_j (by omega)]
          · rw [rdI_k q, rdI_k q, rdI_k q]
        refine lp_is3 (S := (setI (setI (setI S4 83 17 (nI 3)) 83 29 (nI 0)) 83 42 (nI 0))) (I := (txF (tnM S (nI a)) (tbM S (nI a))).2) ((k5 83 11 (by decide)).trans ((g2 83 11 (by decide)).trans ((f2 83 11 (by decide) (by decide)).trans (by rw [rdI_j (by decide), rdI_j (by decide), rdI_eq])))) (fun S6 h6 => ?_) 0 (setI (setI (setI S4 83 17 (nI 3)) 83 29 (nI 0)) 83 42 (nI 0)) (Nat.zero_le _) ⟨rfl, fun a b _ => rfl, fun u hu => absurd hu (Nat.not_lt_zero u)⟩
        obtain ⟨j1, j2, j3⟩ := h6
        have m34 : ∀ c d, ¬ c = 100 → ¬ (c = 83 ∧ (d = 17 ∨ d = 29 ∨ d = 42)) → ¬ c = 92 → S6.1 c d = S3.1 c d := fun c d h1 h2 h3 => (j2 c d h1).trans ((k5 c d h2).trans (g2 c d h3))
        refine q4_3 (by omega) (by rw [ta]; omega) (fun h => h h9) ⟨rfl, j1.trans (g1.trans (f1.trans q_26.2.1.1)), fun c d h => ?_, ⟨?_, ?_, ?_, ?_, fun t ht => ?_, fun b hb => ?_, fun v hv j hj => ?_⟩, fun t ht => ?_, ?_, ?_, ?_, j3⟩
        · unfold FIm at h
          exact (m34 c d (by omega) (by omega) (by omega)).trans ((f2 c d (by omega) (by omega)).trans ((k2 c d (by omega)).trans (q_26.2.1.2 c d (by omega) (by omega))))
        · exact (m34 83 10 (by decide) (by decide) (by decide)).trans ((f2 83 10 (by decide) (by decide)).trans (by rw [rdI_j (by decide), rdI_j (by decide), rdI_j (by decide), rdI_eq]))
        · exact (m34 83 11 (by decide) (by decide) (by decide)).trans ((f2 83 11 (by decide) (by decide)).trans (by rw [rdI_j (by decide), rdI_j (by decide), rdI_eq]))
        · exact (m34 83 13 (by decide) (by decide) (by decide)).trans f3
        · exact (m34 83 15 (by decide) (by decide) (by decide)).trans ((f2 83 15 (by decide) (by decide)).trans (by rw [rdI_j (by decide), rdI_eq]))
        · exact (m34 90 t (by decide) (by omega) (by decide)).trans (f4 t ht).1
        · exact (m34 91 b (by decide) (by omega) (by decide)).trans (f5 b hb)
        · exact (j2 92 _ (by decide)).trans ((k5 92 _ (by omega)).trans ((g3 _ (by omega)).trans ((f2 96 _ (by omega) (by omega)).trans ((k2 96 _ (by omega)).trans (hr6 v hv j hj)))))
        · exact (m34 93 t (by decide) (by omega) (by decide)).trans (f4 t ht).2
        · exact (j2 83 17 (by decide)).trans (by rw [rdI_j (by decide), rdI_j (by decide), rdI_eq])
        · exact (j2 83 29 (by decide)).trans (by rw [rdI_j (by decide), rdI_eq])
        · exact (j2 83 42 (by decide)).trans rdI_eq
      · refine x_bipush (v := -4) dX11_island_34 (by decide) ?_
        refine x_iret rfl dX11_island_36 (q4_2 (by omega) (by rw [ta]; omega) (fun h => c_31 (q_26.1.trans (ft_0 h))) ⟨rfl, q_26.2.1⟩)
    · refine x_aload_n 0 dX11_island_18 rfl rfl ?_
      refine x_iconst (v := nI 1) dX11_island_19 (by decide) ?_
      refine x_callVu (as := [_]) (rest := []) vX11_112 (c_X11_meets (by decide)) dX11_island_20 l83 rfl rfl rfl (Nat.le_of_ble_eq_true rfl) (Nat.le_of_ble_eq_true rfl) (Nat.le_of_ble_eq_true rfl) ?_
      refine x_iret rfl dX11_island_23 (q4_1 (by omega) (by rw [ta]; exact c_15) ⟨rfl, rfl⟩)
  · refine u_if_ne 9 dX11_island_4 (by decide) (by decide) ?_
    refine x_iconst (v := -1) dX11_island_7 (by decide) ?_
    refine x_iret rfl dX11_island_8 (q4_0 (by omega) ⟨rfl, rfl⟩)
