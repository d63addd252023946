/-! ===== the reader: the first fault ===== -/
theorem ft_0 {n : Nat} {β : Nat → Int32} (h : (txF n β).1 = 0) : ftF n β = -9 := by unfold ftF; rw [if_pos h]
theorem ft_1 {n p : Nat} {β : Nat → Int32} (h : (txF n β).1 = p + 1) : ftF n β = nI p := by unfold ftF; rw [if_neg (by omega), h]; rfl

set_option maxHeartbeats 4000000 in
set_option maxRecDepth 100000 in
theorem lp_ff0 {S : St} {p t : Nat} (h4 : S.1 9 4 = nI p)  : ∀ (k : Nat), (k < 1000) → X 5 150 mX4_firstFault (pu (.int (nI p)) S) 36 [(3, .int (nI k)), (2, .int (nI 0)), (0, .ref 9), (1, .int (nI t))] [] S := by
  intro k
  induction hm : 0 * k using Nat.strongRecOn generalizing k with
  | _ mm ih =>
    intro hk
    refine x_iload_n 0 dX4_firstFault_36 rfl rfl ?_
    refine x_bipush (v := nI 100) dX4_firstFault_37 (by decide) ?_
    refine y_ic_ge 90 dX4_firstFault_39 (by decide) (by omega) (by omega) (fun c_39 => ?_) (fun c_39 => ?_)
    · refine x_aload_n 2 dX4_firstFault_90 rfl rfl ?_
      refine y_getI fX4_30 dX4_firstFault_91 l9 rfl h4 ?_
      refine x_iret rfl dX4_firstFault_94 (by first | exact ⟨rfl, rfl⟩ | (exfalso; omega))
    · refine x_iload_n 1 dX4_firstFault_42 rfl rfl ?_
      refine y_if_eq 90 dX4_firstFault_43 (by decide) (by omega) (fun c_43 => ?_) (fun c_43 => ?_)
      · refine x_aload_n 2 dX4_firstFault_90 rfl rfl ?_
        refine y_getI fX4_30 dX4_firstFault_91 l9 rfl h4 ?_
        refine x_iret rfl dX4_firstFault_94 (by first | exact ⟨rfl, rfl⟩ | (exfalso; omega))
      · refine x_aload_n 2 dX4_firstFault_46 rfl rfl ?_
        exact absurd rfl c_43

set_option maxHeartbeats 4000000 in
set_option maxRecDepth 100000 in
theorem lp_fF1 {S : St} {t n : Nat} {β : Nat → Int32} (hx : TxX t n β S)  : ∀ (k : Nat) (f : Nat) (pos : Nat) (I : Isl) (S1 : St), (2 * k + 2 ≤ pos ∧ pos ≤ n) → (Fr FRe S S1 ∧ RdX t pos I S1) → (PI I ∧ ¬ iP I = 0) → (n + 1 ≤ pos + f ∧ prs (chF n β) n f pos I = txF n β) → X 5 150 mX4_firstFault (qi (fun r S' => r = ftF n β ∧ Fr FRe S S' ∧ ((txF n β).1 = 0 → IsX 23 (txF n β).2 S'))) 36 [(3, .int (nI k)), (2, .int (nI 1)), (0, .ref 9), (1, .int (nI t))] [] S1 := by
  intro k f pos I S1
  induction hm : 101 - k using Nat.strongRecOn generalizing k f pos I S1 with
  | _ mm ih =>
    intro hk hE hPI hf
    have hx1 := hx.1
    have hx2 := hx.2.1
    obtain ⟨ht, hp, hI, hl⟩ := id hE.2
    have hxa := hx.fr hE.1
    refine x_iload_n 0 dX4_firstFault_36 rfl rfl ?_
    refine x_bipush (v := nI 100) dX4_firstFault_37 (by decide) ?_
    refine y_ic_ge 90 dX4_firstFault_39 (by decide) (by omega) (by omega) (fun c_39 => ?_) (fun c_39 => ?_)
    · refine x_aload_n 2 dX4_firstFault_90 rfl rfl ?_
      refine y_getI fX4_30 dX4_firstFault_91 l9 rfl rfl ?_
      refine x_iret rfl dX4_firstFault_94 (by exfalso; omega)
    · refine x_iload_n 1 dX4_firstFault_42 rfl rfl ?_
      refine y_if_eq 90 dX4_firstFault_43 (by decide) (by omega) (fun c_43 => ?_) (fun c_43 => ?_)
      · refine x_aload_n 2 dX4_firstFault_90 rfl rfl ?_
        refine y_getI fX4_30 dX4_firstFault_91 l9 rfl rfl ?_
        refine x_iret rfl dX4_firstFault_94 (by exfalso; omega)
      · refine x_aload_n 2 dX4_firstFault_46 rfl rfl ?_
        refine x_callVqv (as := []) (rest := []) vX4_42 (c_X4_skipBlanks hxa ht hp hk.2) dX4_firstFault_47 l9 rfl rfl rfl (Nat.le_of_ble_eq_true rfl) (Nat.le_of_ble_eq_true rfl) (Nat.le_of_ble_eq_true rfl) (fun S_47 q_47 => ?_)
        obtain ⟨j, j1, j2, j3, rfl⟩ := q_47
        have hxb : TxX t n β (setI S1 9 4 (nI (pos + j))) := hxa.keep (fun a b e => rdI_k (by omega))
        have htb : (setI S1 9 4 (nI (pos + j))).1 9 3 = nI t := (rdI_j (by decide)).trans ht
        have hIb : IsX 23 I (setI S1 9 4 (nI (pos + j))) := hI.rd (fun a b h1 h2 => rdI_k (by omega))
        have hRb : RdX t (pos + j) I (setI S1 9 4 (nI (pos + j))) := ⟨htb, rdI_eq, hIb, fun p hp => (rdI_k (by decide)).trans (hl p hp)⟩
        have hpr := (prs_sk (ch := (chF n β)) (n := n) (f := f) (pos := pos) (I := I) j j1 hf.1 j2).symm.trans hf.2
        have hfs : f - j = (f - j - 1) + 1 := by omega
        have hse := sg_end (i := pos + j) hx.2.2.1
        have hsg := (sg_C (i := pos + j) hx.2.2.1).eq (k := 119) (by decide) (by decide)
        refine x_aload_n 2 dX4_firstFault_50 rfl rfl ?_
        refine x_callVu (as := []) (rest := []) vX4_49 (c_X4_sign hxb htb rdI_eq (by omega)) dX4_firstFault_51 l9 rfl rfl rfl (Nat.le_of_ble_eq_true rfl) (Nat.le_of_ble_eq_true rfl) (Nat.le_of_ble_eq_true rfl) ?_
        refine x_sipush (v := nI 256) dX4_firstFault_54 (by decide +kernel) ?_
        refine x_ic_ne 63 dX4_firstFault_57 (by decide) (fun c_57 => ?_) (fun c_57 => ?_)
        · have hnp : ¬ n ≤ pos + j := fun e => c_57 (hse.mpr e)
          refine x_aload_n 2 dX4_firstFault_63 rfl rfl ?_
          refine x_callVu (as := []) (rest := []) vX4_49 (c_X4_sign hxb htb rdI_eq (by omega)) dX4_firstFault_64 l9 rfl rfl rfl (Nat.le_of_ble_eq_true rfl) (Nat.le_of_ble_eq_true rfl) (Nat.le_of_ble_eq_true rfl) ?_
          refine x_bipush (v := nI 119) dX4_firstFault_67 (by decide) ?_
          refine x_ic_ne 79 dX4_firstFault_69 (by decide) (fun c_69 => ?_) (fun c_69 => ?_)
          · refine x_aload_n 2 dX4_firstFault_79 rfl rfl ?_
            refine x_callVqi (as := []) (rest := []) vX4_56 (c_X4_readThing hxb hRb j1 hPI.1) dX4_firstFault_80 l9 rfl rfl rfl (Nat.le_of_ble_eq_true rfl) (Nat.le_of_ble_eq_true rfl) (Nat.le_of_ble_eq_true rfl) (fun r_80 S_80 q_80 => ?_)
            refine x_istore_n (lv' := [(2, _), (3, _), (0, _), (1, _)]) dX4_firstFault_83 rfl (by decide) rfl ?_
            refine y_iinc (lv' := [(3, _), (2, _), (0, _), (1, _)]) 1 dX4_firstFault_84 rfl (by decide) rfl ?_
            refine x_goto 36 dX4_firstFault_87 (by decide) ?_
            refine x_pick (lv' := [(3, _), (2, _), (0, _), (1, _)]) [0, 1, 2, 3] rfl ?_
            have hit := item_T (ch := (chF n β)) (pos := pos + j) hPI.2 (fun e => c_69 (hsg.mpr e))
            rcases q_80 with ⟨fq, ⟨b1, b2, b3⟩ | ⟨b1, b2, b3⟩⟩
            · rw [← hit] at b1 b3
              have hi := item_ok hPI.1 (fun e => absurd e hPI.2) b1
              rw [b2]
              exact ih (101 - (k + 1)) (by omega) (k + 1) (f - j - 1) _ _ S_80 rfl ⟨by omega, hi.2.1⟩ ⟨(FRset hE.1 (Or.inl rfl)).trans fq, b3⟩ ⟨hi.2.2.1, hi.2.2.2⟩ ⟨by omega, by have h9 := hpr; rw [hfs, prs_t hnp j3 b1] at h9; exact h9⟩
            · rw [← hit] at b1 b3
              rw [b2]
              refine (lp_ff0 b3 (k + 1) (by omega)).mono (fun v S' hq => ?_)
              obtain ⟨rfl, rfl⟩ := hq
              have e : txF n β = ((item (chF n β) (pos + j) I).1 + 1, I) := by rw [← hpr, hfs, prs_f hnp j3 (by rw [b1]; decide)]
              exact ⟨_, rfl, (ft_1 (by rw [e])).symm, (FRset hE.1 (Or.inl rfl)).trans fq, fun h => by rw [e] at h; exact absurd h (Nat.succ_ne_zero _)⟩
          · refine x_aload_n 2 dX4_firstFault_72 rfl rfl ?_
            refine x_callVqi (as := []) (rest := []) vX4_53 (c_X4_readWork hxb hRb j1 hPI.1 (by have := hPI.2; omega)) dX4_firstFault_73 l9 rfl rfl rfl (Nat.le_of_ble_eq_true rfl) (Nat.le_of_ble_eq_true rfl) (Nat.le_of_ble_eq_true rfl) (fun r_73 S_73 q_73 => ?_)
            refine x_goto 83 dX4_firstFault_76 (by decide) ?_
            refine x_istore_n (lv' := [(2, _), (3, _), (0, _), (1, _)]) dX4_firstFault_83 rfl (by decide) rfl ?_
            refine y_iinc (lv' := [(3, _), (2, _), (0, _), (1, _)]) 1 dX4_firstFault_84 rfl (by decide) rfl ?_
            refine x_goto 36 dX4_firstFault_87 (by decide) ?_
            refine x_pick (lv' := [(3, _), (2, _), (0, _), (1, _)]) [0, 1, 2, 3] rfl ?_
            have hit := item_W (ch := (chF n β)) (pos := pos + j) hPI.2 (hsg.mp c_69)
            rcases q_73 with ⟨fq, ⟨b1, b2, b3⟩ | ⟨b1, b2, b3⟩⟩
            · rw [← hit] at b1 b3
              have hi := item_ok hPI.1 (fun e => absurd e hPI.2) b1
              rw [b2]
              exact ih (101 - (k + 1)) (by omega) (k + 1) (f - j - 1) _ _ S_73 rfl ⟨by omega, hi.2.1⟩ ⟨(FRset hE.1 (Or.inl rfl)).trans fq, b3⟩ ⟨hi.2.2.1, hi.2.2.2⟩ ⟨by omega, by have h9 := hpr; rw [hfs, prs_t hnp j3 b1] at h9; exact h9⟩
            · rw [← hit] at b1 b3
              rw [b2]
              refine (lp_ff0 b3 (k + 1) (by omega)).mono (fun v S' hq => ?_)
              obtain ⟨rfl, rfl⟩ := hq
              have e : txF n β = ((item (chF n β) (pos + j) I).1 + 1, I) := by rw [← hpr, hfs, prs_f hnp j3 (by rw [b1]; decide)]
              exact ⟨_, rfl, (ft_1 (by rw [e])).symm, (FRset hE.1 (Or.inl rfl)).trans fq, fun h => by rw [e] at h; exact absurd h (Nat.succ_ne_zero _)⟩
        · refine x_bipush (v := -9) dX4_firstFault_60 (by decide) ?_
          refine x_iret rfl dX4_firstFault_62 (by
            have e : txF n β = (0, I) := by rw [← hpr, hfs, prs_end (hse.mp c_57) hPI.2]
            exact ⟨_, rfl, (ft_0 (by rw [e])).symm, FRset hE.1 (Or.inl rfl), fun _ => by rw [e]; exact hIb⟩)

set_option maxHeartbeats 4000000 in
set_option maxRecDepth 100000 in
theorem c_X4_firstFault {S : St} {t n : Nat} {β : Nat → Int32} (hx : TxX t n β S) : C 5 150 yX4_firstFault mX4_firstFault [.ref 9, .int (nI t)] S (qi (fun r S' => r = ftF n β ∧ Fr FRe S S' ∧ ((txF n β).1 = 0 → IsX 23 (txF n β).2 S'))) := by
  have hx1 := hx.1
  have hx2 := hx.2.1
  refine C.ofX (by decide) rfl (Nat.le_of_ble_eq_true rfl) ?_
  show X 5 150 mX4_firstFault (qi (fun r S' => r = ftF n β ∧ Fr FRe S S' ∧ ((txF n β).1 = 0 → IsX 23 (txF n β).2 S'))) 0 [(0, .ref 9), (1, .int (nI t))] [] S
  refine x_aload_n 0 dX4_firstFault_0 rfl rfl ?_
  refine x_iload_n 1 dX4_firstFault_1 rfl rfl ?_
  refine x_putI pX4_26 dX4_firstFault_2 l9 rfl ?_
  refine x_aload_n 0 dX4_firstFault_5 rfl rfl ?_
  refine x_iconst (v := nI 0) dX4_firstFault_6 (by decide) ?_
  refine x_putI pX4_30 dX4_firstFault_7 l9 rfl ?_
  refine x_aload_n 0 dX4_firstFault_10 rfl rfl ?_
  refine x_getR fX4_12 dX4_firstFault_11 l9 rfl ?_
  refine x_callVv (as := []) (rest := []) vX4_33 (c_X1_clear (Or.inr rfl)) dX4_firstFault_14 l23 rfl rfl rfl (Nat.le_of_ble_eq_true rfl) (Nat.le_of_ble_eq_true rfl) (Nat.le_of_ble_eq_true rfl) ?_
  refine x_aload_n 0 dX4_firstFault_17 rfl rfl ?_
  refine x_getR fX4_18 dX4_firstFault_18 l9 rfl ?_
  refine x_iconst (v := nI 0) dX4_firstFault_21 (by decide) ?_
  refine x_callSv (as := [_, _]) (rest := []) sX4_36 (c_J7_fill_53178 l10 (by decide)) dX4_firstFault_22 rfl rfl (Nat.le_of_ble_eq_true rfl) (Nat.le_of_ble_eq_true rfl) (Nat.le_of_ble_eq_true rfl) ?_
  have hk0 : ∀ a b, ¬ a = 9 → ¬ a = 10 → ¬ a = 23 → (fillA (setI (setI (setI (setI (setI (setI S 9 3 (nI t)) 9 4 (nI 0)) 23 0 (nI 0)) 23 1 (nI 0)) 23 2 (nI 0)) 23 3 (nI 0)) 10 0 4 (nI 0)).1 a b = S.1 a b := fun a b h1 h2 h3 => by
    rw [fillA_k (by omega), rdI_k h3, rdI_k h3, rdI_k h3, rdI_k h3, rdI_k h1, rdI_k h1]
  have f0 : Fr FRe S (fillA (setI (setI (setI (setI (setI (setI S 9 3 (nI t)) 9 4 (nI 0)) 23 0 (nI 0)) 23 1 (nI 0)) 23 2 (nI 0)) 23 3 (nI 0)) 10 0 4 (nI 0)) := ⟨rfl, fun a ha b => hk0 a b (fun q => ha (by unfold FRe; omega)) (fun q => ha (by unfold FRe; omega)) (fun q => ha (by unfold FRe; omega))⟩
  have hxa : TxX t n β (fillA (setI (setI (setI (setI (setI (setI S 9 3 (nI t)) 9 4 (nI 0)) 23 0 (nI 0)) 23 1 (nI 0)) 23 2 (nI 0)) 23 3 (nI 0)) 10 0 4 (nI 0)) := hx.fr f0
  have ht : (fillA (setI (setI (setI (setI (setI (setI S 9 3 (nI t)) 9 4 (nI 0)) 23 0 (nI 0)) 23 1 (nI 0)) 23 2 (nI 0)) 23 3 (nI 0)) 10 0 4 (nI 0)).1 9 3 = nI t := by rw [fillA_k (by decide)]; rfl
  have hm : iM isl0 = 0 := rfl
  have hw : iW isl0 = 0 := rfl
  have hb : iB isl0 = 0 := rfl
  have hI0 : IsX 23 isl0 (fillA (setI (setI (setI (setI (setI (setI S 9 3 (nI t)) 9 4 (nI 0)) 23 0 (nI 0)) 23 1 (nI 0)) 23 2 (nI 0)) 23 3 (nI 0)) 10 0 4 (nI 0)) := ⟨by rw [fillA_k (by decide)]; rfl, by rw [fillA_k (by decide)]; rfl, by rw [fillA_k (by decide)]; rfl, by rw [fillA_k (by decide)]; rfl, fun t ht => by omega, fun b hb => by omega, fun w hw => by omega⟩
  have hl : ∀ p, p < 4 → (fillA (setI (setI (setI (setI (setI (setI S 9 3 (nI t)) 9 4 (nI 0)) 23 0 (nI 0)) 23 1 (nI 0)) 23 2 (nI 0)) 23 3 (nI 0)) 10 0 4 (nI 0)).1 10 p = nI (loadF isl0 (iS isl0) p) := fun p hp => by
    rw [show loadF isl0 (iS isl0) p = 0 from rfl]
    exact fillA_in (Nat.zero_le p) hp
  refine x_aload_n 0 dX4_firstFault_25 rfl rfl ?_
  refine x_callVqv (as := []) (rest := []) vX4_42 (c_X4_skipBlanks hxa ht rfl (Nat.zero_le n)) dX4_firstFault_26 l9 rfl rfl rfl (Nat.le_of_ble_eq_true rfl) (Nat.le_of_ble_eq_true rfl) (Nat.le_of_ble_eq_true rfl) (fun S_26 q_26 => ?_)
  obtain ⟨j, j1, j2, j3, rfl⟩ := q_26
  have hxb : TxX t n β (setI (fillA (setI (setI (setI (setI (setI (setI S 9 3 (nI t)) 9 4 (nI 0)) 23 0 (nI 0)) 23 1 (nI 0)) 23 2 (nI 0)) 23 3 (nI 0)) 10 0 4 (nI 0)) 9 4 (nI (0 + j))) := hxa.keep (fun a b e => rdI_k (by omega))
  have htb : (setI (fillA (setI (setI (setI (setI (setI (setI S 9 3 (nI t)) 9 4 (nI 0)) 23 0 (nI 0)) 23 1 (nI 0)) 23 2 (nI 0)) 23 3 (nI 0)) 10 0 4 (nI 0)) 9 4 (nI (0 + j))).1 9 3 = nI t := (rdI_j (by decide)).trans ht
  have hIb : IsX 23 isl0 (setI (fillA (setI (setI (setI (setI (setI (setI S 9 3 (nI t)) 9 4 (nI 0)) 23 0 (nI 0)) 23 1 (nI 0)) 23 2 (nI 0)) 23 3 (nI 0)) 10 0 4 (nI 0)) 9 4 (nI (0 + j))) := hI0.rd (fun a b h1 h2 => rdI_k (by omega))
  have hRb : RdX t (0 + j) isl0 (setI (fillA (setI (setI (setI (setI (setI (setI S 9 3 (nI t)) 9 4 (nI 0)) 23 0 (nI 0)) 23 1 (nI 0)) 23 2 (nI 0)) 23 3 (nI 0)) 10 0 4 (nI 0)) 9 4 (nI (0 + j))) := ⟨htb, rdI_eq, hIb, fun p hp => (rdI_k (by decide)).trans (hl p hp)⟩
  have hpr := (prs_sk (ch := (chF n β)) (n := n) (f := n + 1) (pos := 0) (I := isl0) j j1 (by omega) j2).symm
  have hfs : n + 1 - j = (n - j) + 1 := by omega
  have e0 : prs (chF n β) n (n + 1) 0 isl0 = txF n β := rfl
  rw [e0] at hpr
  refine x_aload_n 0 dX4_firstFault_29 rfl rfl ?_
  refine x_callVqi (as := []) (rest := []) vX4_45 (c_X4_readPeople hxb hRb j1 rfl) dX4_firstFault_30 l9 rfl rfl rfl (Nat.le_of_ble_eq_true rfl) (Nat.le_of_ble_eq_true rfl) (Nat.le_of_ble_eq_true rfl) (fun r_30 S_30 q_30 => ?_)
  refine x_istore_n (lv' := [(2, _), (0, _), (1, _)]) dX4_firstFault_33 rfl (by decide) rfl ?_
  refine x_iconst (v := nI 0) dX4_firstFault_34 (by decide) ?_
  refine x_istore_n (lv' := [(3, _), (2, _), (0, _), (1, _)]) dX4_firstFault_35 rfl (by decide) rfl ?_
  refine x_pick (lv' := [(3, _), (2, _), (0, _), (1, _)]) [0, 1, 2, 3] rfl ?_
  have hit := item_P (ch := (chF n β)) (pos := 0 + j) (I := isl0) rfl
  rcases q_30 with ⟨fq, ⟨b1, b2, b3⟩ | ⟨b1, b2, b3⟩⟩
  · rw [← hit] at b1 b3
    have hi := item_ok PI_0 (fun _ => rfl) b1
    have hnp : ¬ n ≤ 0 + j := fun q => by omega
    rw [b2]
    exact lp_fF1 hx 0 (n - j) _ _ S_30 ⟨by omega, hi.2.1⟩ ⟨(FRset f0 (Or.inl rfl)).trans fq, b3⟩ ⟨hi.2.2.1, hi.2.2.2⟩ ⟨by omega, by have h9 := hpr; rw [hfs, prs_t hnp j3 b1] at h9; exact h9⟩
  · rw [b2]
    refine (lp_ff0 b3 0 (by decide)).mono (fun v S' hq => ?_)
    obtain ⟨rfl, rfl⟩ := hq
    have e : txF n β = ((rdP (chF n β) (0 + j) isl0).1 + 1, isl0) := by
      by_cases hnp : n ≤ 0 + j
      · have hz : ¬ (chF n β) (0 + j) = 112 := fun q => by have := ch_lt (n := n) (β := β) (i := 0 + j) (by rw [q]; decide); omega
        rw [← hpr, hfs, prs_end0 hnp rfl, rdP_0 hz]
        show (n + 1, isl0) = (0 + j + 1, isl0)
        rw [show 0 + j = n by omega]
      · rw [← hpr, hfs, prs_f hnp j3 (by rw [hit, b1]; decide), hit]
    exact ⟨_, rfl, (ft_1 (by rw [e])).symm, (FRset f0 (Or.inl rfl)).trans fq, fun h => by rw [e] at h; exact absurd h (Nat.succ_ne_zero _)⟩

