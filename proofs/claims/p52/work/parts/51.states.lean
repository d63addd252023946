/-! ===== the states a search has come to ===== -/
def StX (R : Rs) (S : St) : Prop := S.1 68 0 = nI (rC R) ∧ rC R ≤ 8525 ∧ (∀ j, j < rC R → S.1 69 j = nI (rK R j) ∧ S.1 70 j = nI (rB R j) ∧ S.1 71 j = nI (rY R j) ∧ S.1 72 j = nI (rD R j) ∧ rK R j < 16807 ∧ S.1 73 (rK R j) = nI (j + 1)) ∧ ∀ c, c < 16807 → ¬ rIn R c → S.1 73 c = nI 0
theorem StX.inj {R : Rs} {S : St} (h : StX R S) {j k : Nat} (hj : j < rC R) (hk : k < rC R) (e : rK R j = rK R k) : j = k := by
  have a := (h.2.2.1 j hj).2.2.2.2.2
  have b := (h.2.2.1 k hk).2.2.2.2.2
  rw [e, b] at a
  have := h.2.1
  have := nI_inj (by omega) (by omega) a
  omega
theorem StX.fr {R : Rs} {S S' : St} (h : StX R S) (e : ∀ a, 68 ≤ a → a ≤ 73 → ∀ b, S'.1 a b = S.1 a b) : StX R S' := by
  obtain ⟨h1, h2, h3, h4⟩ := h
  refine ⟨(e 68 (by decide) (by decide) 0).trans h1, h2, fun j hj => ?_, fun c hc hn => (e 73 (by decide) (by decide) c).trans (h4 c hc hn)⟩
  obtain ⟨a, b, c, d, f, g⟩ := h3 j hj
  exact ⟨(e 69 (by decide) (by decide) j).trans a, (e 70 (by decide) (by decide) j).trans b, (e 71 (by decide) (by decide) j).trans c, (e 72 (by decide) (by decide) j).trans d, f, (e 73 (by decide) (by decide) _).trans g⟩
/-- the place of a number in the order -/
noncomputable def ixR (R : Rs) (c : Nat) : Nat := @dite Nat (rIn R c) (Classical.propDecidable _) (fun h => Classical.choose h) (fun _ => 0)
theorem ixR_ok {R : Rs} {c : Nat} (h : rIn R c) : ixR R c < rC R ∧ rK R (ixR R c) = c := by
  unfold ixR
  rw [dif_pos h]
  exact Classical.choose_spec h
theorem ixR_of {R : Rs} {S : St} (h : StX R S) {j : Nat} (hj : j < rC R) : ixR R (rK R j) = j := by
  have a := ixR_ok (R := R) ⟨j, hj, rfl⟩
  exact h.inj a.1 hj a.2
theorem rIn_add {R : Rs} {c b y d x : Nat} : rIn (rAdd R c b y d) x ↔ rIn R x ∨ x = c := by
  constructor
  · rintro ⟨j, hj, e⟩
    have hj2 : j < rC R + 1 := hj
    by_cases q : j < rC R
    · exact Or.inl ⟨j, q, ((Pre.add R c b y d).2 j q).1.symm.trans e⟩
    · obtain rfl : j = rC R := by omega
      refine Or.inr (e.symm.trans ?_)
      exact upW_eq _ _ _
  · rintro (⟨j, hj, e⟩ | rfl)
    · exact ⟨j, Nat.lt_succ_of_lt hj, ((Pre.add R c b y d).2 j hj).1.trans e⟩
    · exact ⟨rC R, Nat.lt_succ_self _, upW_eq _ _ _⟩
theorem rIn_ch {R : Rs} {c b y d : Nat} : rIn (rch R c b y d) c := by
  unfold rch
  by_cases h : rIn R c
  · rw [e2_0 h]; exact h
  · rw [e2_1 h]; exact rIn_add.mpr (Or.inr rfl)
def adS (S : St) (n c b y d : Nat) : St := setI (setI (setI (setI (setI (setI S 69 n (nI c)) 70 n (nI b)) 71 n (nI y)) 72 n (nI d)) 73 c (nI (n + 1))) 68 0 (nI (n + 1))
theorem adS_k {S : St} {n c b y d i j : Nat} (h : ¬ (68 ≤ i ∧ i ≤ 73)) : (adS S n c b y d).1 i j = S.1 i j := by
  unfold adS
  rw [rdI_k (by omega), rdI_k (by omega), rdI_k (by omega), rdI_k (by omega), rdI_k (by omega), rdI_k (by omega)]
theorem StX.add {R : Rs} {S : St} (h : StX R S) {c b y d : Nat} (hc : c < 16807) (hr : rC R < 8525) (hn : ¬ rIn R c) : StX (rAdd R c b y d) (adS S (rC R) c b y d) := by
  have hp := (Pre.add R c b y d).2
  have eC : rC (rAdd R c b y d) = rC R + 1 := rfl
  have eK : rK (rAdd R c b y d) (rC R) = c := upW_eq _ _ _
  have eB : rB (rAdd R c b y d) (rC R) = b := upW_eq _ _ _
  have eY : rY (rAdd R c b y d) (rC R) = y := upW_eq _ _ _
  have eD : rD (rAdd R c b y d) (rC R) = d := upW_eq _ _ _
  have hin : ∀ x, rIn (rAdd R c b y d) x ↔ rIn R x ∨ x = c := fun x => rIn_add
  generalize rAdd R c b y d = R' at hp eC eK eB eY eD hin ⊢
  unfold adS
  refine ⟨by rw [rdI_eq, eC], by omega, fun j hj => ?_, fun x hx hnx => ?_⟩
  · by_cases q : j < rC R
    · obtain ⟨a1, a2, a3, a4, a5, a6⟩ := h.2.2.1 j q
      obtain ⟨p1, p2, p3, p4⟩ := hp j q
      have hne : ¬ rK R j = c := fun e => hn ⟨j, q, e⟩
      rw [p1, p2, p3, p4]
      refine ⟨?_, ?_, ?_, ?_, a5, ?_⟩
      · rw [rdI_k (by decide), rdI_k (by decide), rdI_k (by decide), rdI_k (by decide), rdI_k (by decide), rdI_j (by omega)]; exact a1
      · rw [rdI_k (by decide), rdI_k (by decide), rdI_k (by decide), rdI_k (by decide), rdI_j (by omega), rdI_k (by decide)]; exact a2
      · rw [rdI_k (by decide), rdI_k (by decide), rdI_k (by decide), rdI_j (by omega), rdI_k (by decide), rdI_k (by decide)]; exact a3
      · rw [rdI_k (by decide), rdI_k (by decide), rdI_j (by omega), rdI_k (by decide), rdI_k (by decide), rdI_k (by decide)]; exact a4
      · rw [rdI_k (by decide), rdI_j hne, rdI_k (by decide), rdI_k (by decide), rdI_k (by decide), rdI_k (by decide)]; exact a6
    · obtain rfl : j = rC R := by omega
      rw [eK, eB, eY, eD]
      refine ⟨?_, ?_, ?_, ?_, hc, ?_⟩
      · rw [rdI_k (by decide), rdI_k (by decide), rdI_k (by decide), rdI_k (by decide), rdI_k (by decide), rdI_eq]
      · rw [rdI_k (by decide), rdI_k (by decide), rdI_k (by decide), rdI_k (by decide), rdI_eq]
      · rw [rdI_k (by decide), rdI_k (by decide), rdI_k (by decide), rdI_eq]
      · rw [rdI_k (by decide), rdI_k (by decide), rdI_eq]
      · rw [rdI_k (by decide), rdI_eq]
  · have h1 := mt (hin x).mpr hnx
    rw [rdI_k (by decide), rdI_j (fun e => h1 (Or.inr e)), rdI_k (by decide), rdI_k (by decide), rdI_k (by decide), rdI_k (by decide)]
    exact h.2.2.2 x hx (fun q => h1 (Or.inl q))

set_option maxHeartbeats 4000000 in
set_option maxRecDepth 100000 in
theorem c_reach_in {R : Rs} {S : St} (h : StX R S) {c b y d : Nat} (hc : c < 16807) (hin : rIn R c) : C 0 0 yX7_reach mX7_reach [.ref 68, .int (nI c), .int (nI b), .int (nI y), .int (nI d)] S (pu (.int (nI (ixR R c))) S) := by
  obtain ⟨x1, x2⟩ := ixR_ok hin
  have x3 := (h.2.2.1 _ x1).2.2.2.2.2
  rw [x2] at x3
  have x4 := h.2.1
  refine C.ofX (by decide) rfl (Nat.le_of_ble_eq_true rfl) ?_
  show X 0 0 mX7_reach (pu (.int (nI (ixR R c))) S) 0 [(0, .ref 68), (1, .int (nI c)), (2, .int (nI b)), (3, .int (nI y)), (4, .int (nI d))] [] S
  refine x_iload_n 1 dX7_reach_0 rfl rfl ?_
  refine y_if_lt 11 dX7_reach_1 (by decide) (by omega) (fun c_1 => ?_) (fun c_1 => ?_)
  · exact (show False by omega).elim
  · refine x_iload_n 1 dX7_reach_4 rfl rfl ?_
    refine x_sipush (v := nI 16807) dX7_reach_5 (by decide +kernel) ?_
    refine y_ic_lt 13 dX7_reach_8 (by decide) (by omega) (by omega) (fun c_8 => ?_) (fun c_8 => ?_)
    · refine x_aload_n 0 dX7_reach_13 rfl rfl ?_
      refine x_getR fX7_24 dX7_reach_14 l68 rfl ?_
      refine x_iload_n 1 dX7_reach_17 rfl rfl ?_
      refine y_iald dX7_reach_18 l73 (by omega) (by decide) x3 ?_
      refine y_if_le 31 dX7_reach_19 (by decide) (by omega) (fun c_19 => ?_) (fun c_19 => ?_)
      · refine x_aload_n 0 dX7_reach_31 rfl rfl ?_
        refine y_getI fX7_27 dX7_reach_32 l68 rfl h.1 ?_
        refine x_sipush (v := nI 8525) dX7_reach_35 (by decide +kernel) ?_
        refine y_ic_lt 43 dX7_reach_38 (by decide) (by omega) (by omega) (fun c_38 => ?_) (fun c_38 => ?_)
        · refine x_aload_n 0 dX7_reach_43 rfl rfl ?_
          refine x_getR fX7_9 dX7_reach_44 l68 rfl ?_
          refine x_aload_n 0 dX7_reach_47 rfl rfl ?_
          refine y_getI fX7_27 dX7_reach_48 l68 rfl h.1 ?_
          refine x_iload_n 1 dX7_reach_51 rfl rfl ?_
          refine y_iast dX7_reach_52 l69 (by omega) (by decide) ?_
          refine x_aload_n 0 dX7_reach_53 rfl rfl ?_
          refine x_getR fX7_15 dX7_reach_54 l68 rfl ?_
          refine x_aload_n 0 dX7_reach_57 rfl rfl ?_
          refine y_getI fX7_27 dX7_reach_58 l68 rfl (((rdI_k (by decide))).trans h.1) ?_
          refine x_iload_n 2 dX7_reach_61 rfl rfl ?_
          refine y_iast dX7_reach_62 l70 (by omega) (by decide) ?_
          refine x_aload_n 0 dX7_reach_63 rfl rfl ?_
          refine x_getR fX7_18 dX7_reach_64 l68 rfl ?_
          refine x_aload_n 0 dX7_reach_67 rfl rfl ?_
          refine y_getI fX7_27 dX7_reach_68 l68 rfl ((((rdI_k (by decide))).trans (rdI_k (by decide))).trans h.1) ?_
          refine x_iload_n 3 dX7_reach_71 rfl rfl ?_
          refine y_iast dX7_reach_72 l71 (by omega) (by decide) ?_
          refine x_aload_n 0 dX7_reach_73 rfl rfl ?_
          refine x_getR fX7_21 dX7_reach_74 l68 rfl ?_
          refine x_aload_n 0 dX7_reach_77 rfl rfl ?_
          refine y_getI fX7_27 dX7_reach_78 l68 rfl (((((rdI_k (by decide))).trans (rdI_k (by decide))).trans (rdI_k (by decide))).trans h.1) ?_
          refine x_iload 4 dX7_reach_81 rfl ?_
          refine y_iast dX7_reach_83 l72 (by omega) (by decide) ?_
          refine x_aload_n 0 dX7_reach_84 rfl rfl ?_
          refine x_getR fX7_24 dX7_reach_85 l68 rfl ?_
          refine x_iload_n 1 dX7_reach_88 rfl rfl ?_
          refine x_aload_n 0 dX7_reach_89 rfl rfl ?_
          refine y_getI fX7_27 dX7_reach_90 l68 rfl ((((((rdI_k (by decide))).trans (rdI_k (by decide))).trans (rdI_k (by decide))).trans (rdI_k (by decide))).trans h.1) ?_
          refine x_iconst (v := nI 1) dX7_reach_93 (by decide) ?_
          refine y_iadd dX7_reach_94 ?_
          refine y_iast dX7_reach_95 l73 (by omega) (by decide) ?_
          refine x_aload_n 0 dX7_reach_96 rfl rfl ?_
          refine x_dup dX7_reach_97 rfl ?_
          refine y_getI fX7_27 dX7_reach_98 l68 rfl (((((((rdI_k (by decide))).trans (rdI_k (by decide))).trans (rdI_k (by decide))).trans (rdI_k (by decide))).trans (rdI_k (by decide))).trans h.1) ?_
          refine x_dup_x1 dX7_reach_101 rfl rfl ?_
          refine x_iconst (v := nI 1) dX7_reach_102 (by decide) ?_
          refine y_iadd dX7_reach_103 ?_
          refine x_putI pX7_27 dX7_reach_104 l68 rfl ?_
          refine x_iret rfl dX7_reach_107 (by exfalso; omega)
        · refine x_iconst (v := nI 0) dX7_reach_41 (by decide) ?_
          refine x_iret rfl dX7_reach_42 (by exfalso; omega)
      · refine x_aload_n 0 dX7_reach_22 rfl rfl ?_
        refine x_getR fX7_24 dX7_reach_23 l68 rfl ?_
        refine x_iload_n 1 dX7_reach_26 rfl rfl ?_
        refine y_iald dX7_reach_27 l73 (by omega) (by decide) x3 ?_
        refine x_iconst (v := nI 1) dX7_reach_28 (by decide) ?_
        refine y_isub dX7_reach_29 (by omega) ?_
        rw [show ((ixR R c + 1) - 1) = (ixR R c) from by omega]
        refine x_iret rfl dX7_reach_30 ⟨rfl, rfl⟩
    · exact (show False by omega).elim

set_option maxHeartbeats 4000000 in
set_option maxRecDepth 100000 in
theorem c_reach_new {R : Rs} {S : St} (h : StX R S) {c b y d : Nat} (hc : c < 16807) (hr : rC R < 8525) (hn : ¬ rIn R c) : C 0 0 yX7_reach mX7_reach [.ref 68, .int (nI c), .int (nI b), .int (nI y), .int (nI d)] S (pu (.int (nI (rC R))) (adS S (rC R) c b y d)) := by
  have x3 := h.2.2.2 c hc hn
  refine C.ofX (by decide) rfl (Nat.le_of_ble_eq_true rfl) ?_
  show X 0 0 mX7_reach (pu (.int (nI (rC R))) (adS S (rC R) c b y d)) 0 [(0, .ref 68), (1, .int (nI c)), (2, .int (nI b)), (3, .int (nI y)), (4, .int (nI d))] [] S
  refine x_iload_n 1 dX7_reach_0 rfl rfl ?_
  refine y_if_lt 11 dX7_reach_1 (by decide) (by omega) (fun c_1 => ?_) (fun c_1 => ?_)
  · exact (show False by omega).elim
  · refine x_iload_n 1 dX7_reach_4 rfl rfl ?_
    refine x_sipush (v := nI 16807) dX7_reach_5 (by decide +kernel) ?_
    refine y_ic_lt 13 dX7_reach_8 (by decide) (by omega) (by omega) (fun c_8 => ?_) (fun c_8 => ?_)
    · refine x_aload_n 0 dX7_reach_13 rfl rfl ?_
      refine x_getR fX7_24 dX7_reach_14 l68 rfl ?_
      refine x_iload_n 1 dX7_reach_17 rfl rfl ?_
      refine y_iald dX7_reach_18 l73 (by omega) (by decide) x3 ?_
      refine y_if_le 31 dX7_reach_19 (by decide) (by omega) (fun c_19 => ?_) (fun c_19 => ?_)
      · refine x_aload_n 0 dX7_reach_31 rfl rfl ?_
        refine y_getI fX7_27 dX7_reach_32 l68 rfl h.1 ?_
        refine x_sipush (v := nI 8525) dX7_reach_35 (by decide +kernel) ?_
        refine y_ic_lt 43 dX7_reach_38 (by decide) (by omega) (by omega) (fun c_38 => ?_) (fun c_38 => ?_)
        · refine x_aload_n 0 dX7_reach_43 rfl rfl ?_
          refine x_getR fX7_9 dX7_reach_44 l68 rfl ?_
          refine x_aload_n 0 dX7_reach_47 rfl rfl ?_
          refine y_getI fX7_27 dX7_reach_48 l68 rfl h.1 ?_
          refine x_iload_n 1 dX7_reach_51 rfl rfl ?_
          refine y_iast dX7_reach_52 l69 (by omega) (by decide) ?_
          refine x_aload_n 0 dX7_reach_53 rfl rfl ?_
          refine x_getR fX7_15 dX7_reach_54 l68 rfl ?_
          refine x_aload_n 0 dX7_reach_57 rfl rfl ?_
          refine y_getI fX7_27 dX7_reach_58 l68 rfl (((rdI_k (by decide))).trans h.1) ?_
          refine x_iload_n 2 dX7_reach_61 rfl rfl ?_
          refine y_iast dX7_reach_62 l70 (by omega) (by decide) ?_
          refine x_aload_n 0 dX7_reach_63 rfl rfl ?_
          refine x_getR fX7_18 dX7_reach_64 l68 rfl ?_
          refine x_aload_n 0 dX7_reach_67 rfl rfl ?_
          refine y_getI fX7_27 dX7_reach_68 l68 rfl ((((rdI_k (by decide))).trans (rdI_k (by decide))).trans h.1) ?_
          refine x_iload_n 3 dX7_reach_71 rfl rfl ?_
          refine y_iast dX7_reach_72 l71 (by omega) (by decide) ?_
          refine x_aload_n 0 dX7_reach_73 rfl rfl ?_
          refine x_getR fX7_21 dX7_reach_74 l68 rfl ?_
          refine x_aload_n 0 dX7_reach_77 rfl rfl ?_
          refine y_getI fX7_27 dX7_reach_78 l68 rfl (((((rdI_k (by decide))).trans (rdI_k (by decide))).trans (rdI_k (by decide))).trans h.1) ?_
          refine x_iload 4 dX7_reach_81 rfl ?_
          refine y_iast dX7_reach_83 l72 (by omega) (by decide) ?_
          refine x_aload_n 0 dX7_reach_84 rfl rfl ?_
          refine x_getR fX7_24 dX7_reach_85 l68 rfl ?_
          refine x_iload_n 1 dX7_reach_88 rfl rfl ?_
          refine x_aload_n 0 dX7_reach_89 rfl rfl ?_
          refine y_getI fX7_27 dX7_reach_90 l68 rfl ((((((rdI_k (by decide))).trans (rdI_k (by decide))).trans (rdI_k (by decide))).trans (rdI_k (by decide))).trans h.1) ?_
          refine x_iconst (v := nI 1) dX7_reach_93 (by decide) ?_
          refine y_iadd dX7_reach_94 ?_
          refine y_iast dX7_reach_95 l73 (by omega) (by decide) ?_
          refine x_aload_n 0 dX7_reach_96 rfl rfl ?_
          refine x_dup dX7_reach_97 rfl ?_
          refine y_getI fX7_27 dX7_reach_98 l68 rfl (((((((rdI_k (by decide))).trans (rdI_k (by decide))).trans (rdI_k (by decide))).trans (rdI_k (by decide))).trans (rdI_k (by decide))).trans h.1) ?_
          refine x_dup_x1 dX7_reach_101 rfl rfl ?_
          refine x_iconst (v := nI 1) dX7_reach_102 (by decide) ?_
          refine y_iadd dX7_reach_103 ?_
          refine x_putI pX7_27 dX7_reach_104 l68 rfl ?_
          refine x_iret rfl dX7_reach_107 ⟨rfl, rfl⟩
        · refine x_iconst (v := nI 0) dX7_reach_41 (by decide) ?_
          refine x_iret rfl dX7_reach_42 (by exfalso; omega)
      · refine x_aload_n 0 dX7_reach_22 rfl rfl ?_
        refine x_getR fX7_24 dX7_reach_23 l68 rfl ?_
        refine x_iload_n 1 dX7_reach_26 rfl rfl ?_
        refine y_iald dX7_reach_27 l73 (by omega) (by decide) x3 ?_
        refine x_iconst (v := nI 1) dX7_reach_28 (by decide) ?_
        refine x_isub dX7_reach_29 ?_
        refine x_iret rfl dX7_reach_30 (by exfalso; omega)
    · exact (show False by omega).elim

/-- what reach comes to -/
def RchP (S : St) (R' : Rs) (c : Nat) : Int32 → St → Prop := fun r S' => Fr (fun a => 68 ≤ a ∧ a ≤ 73) S S' ∧ StX R' S' ∧ r = nI (ixR R' c)
theorem c_X7_reach {R : Rs} {S : St} (h : StX R S) {c b y d : Nat} (hc : c < 16807) (hr : rIn R c ∨ rC R < 8525) : C 0 0 yX7_reach mX7_reach [.ref 68, .int (nI c), .int (nI b), .int (nI y), .int (nI d)] S (qi (RchP S (rch R c b y d) c)) := by
  unfold rch
  by_cases hin : rIn R c
  · rw [e2_0 hin]
    refine (c_reach_in h hc hin).mono (fun v S' hq => ?_)
    obtain ⟨rfl, rfl⟩ := hq
    exact ⟨_, rfl, Fr.refl, h, rfl⟩
  · rw [e2_1 hin]
    have hr2 : rC R < 8525 := hr.resolve_left hin
    have hx := h.add (b := b) (y := y) (d := d) hc hr2 hin
    refine (c_reach_new h hc hr2 hin).mono (fun v S' hq => ?_)
    obtain ⟨rfl, rfl⟩ := hq
    refine ⟨_, rfl, ⟨rfl, fun a ha j => adS_k ha⟩, hx, ?_⟩
    have e := ixR_of hx (j := rC R) (Nat.lt_succ_self _)
    rw [show rK (rAdd R c b y d) (rC R) = c from upW_eq _ _ _] at e
    rw [e]
/-- the order of the first i is taken back -/
noncomputable def zoS (S : St) (R : Rs) (i : Nat) : St := (fun a b => @ite Int32 (a = 73 ∧ ∃ j, j < i ∧ rK R j = b) (Classical.propDecidable _) (nI 0) (S.1 a b), S.2)
theorem zoS_d {S : St} {R : Rs} {i a b : Nat} : (zoS S R i).1 a b = @ite Int32 (a = 73 ∧ ∃ j, j < i ∧ rK R j = b) (Classical.propDecidable _) (nI 0) (S.1 a b) := rfl
theorem zoS_k {S : St} {R : Rs} {i a b : Nat} (h : ¬ a = 73) : (zoS S R i).1 a b = S.1 a b := by rw [zoS_d, if_neg (fun q => h q.1)]
theorem zoS_0 {S : St} {R : Rs} : zoS S R 0 = S := st_ext rfl fun a b => by rw [zoS_d, if_neg (fun q => by obtain ⟨_, j, hj, _⟩ := q; omega)]
theorem zoS_s {S : St} {R : Rs} {i : Nat} : setI (zoS S R i) 73 (rK R i) (nI 0) = zoS S R (i + 1) := by
  refine st_ext rfl fun a b => ?_
  by_cases ha : a = 73
  · subst ha
    by_cases hb : b = rK R i
    · subst hb
      rw [rdI_eq, zoS_d, if_pos ⟨rfl, i, Nat.lt_succ_self i, rfl⟩]
    · rw [rdI_j hb, zoS_d, zoS_d]
      by_cases q : ∃ j, j < i ∧ rK R j = b
      · obtain ⟨j, hj, e⟩ := q
        rw [if_pos ⟨rfl, j, hj, e⟩, if_pos ⟨rfl, j, by omega, e⟩]
      · rw [if_neg (fun k => q k.2), if_neg (fun k => by
          obtain ⟨_, j, hj, e⟩ := k
          by_cases hji : j = i
          · rw [hji] at e; exact hb e.symm
          · exact q ⟨j, by omega, e⟩)]
  · rw [rdI_k ha, zoS_k ha, zoS_k ha]
theorem StX.none {R : Rs} {S : St} (h : StX R S) : StX (0, rK R, rB R, rY R, rD R) (setI (zoS S R (rC R)) 68 0 (nI 0)) := by
  refine ⟨rdI_eq, Nat.zero_le _, fun j hj => absurd hj (Nat.not_lt_zero j), fun c hc _ => ?_⟩
  rw [rdI_k (by decide), zoS_d]
  by_cases q : ∃ j, j < rC R ∧ rK R j = c
  · rw [if_pos ⟨rfl, q⟩]
  · rw [if_neg (fun k => q k.2)]; exact h.2.2.2 c hc q
theorem StX.congr {R R' : Rs} {S : St} (h : StX R S) (hc : rC R' = rC R) (hp : ∀ j, j < rC R → rK R' j = rK R j ∧ rB R' j = rB R j ∧ rY R' j = rY R j ∧ rD R' j = rD R j) : StX R' S := by
  refine ⟨by rw [hc]; exact h.1, by rw [hc]; exact h.2.1, fun j hj => ?_, fun c hcc hn => h.2.2.2 c hcc (fun ⟨j, hj, e⟩ => hn ⟨j, by rw [hc]; exact hj, (hp j hj).1.trans e⟩)⟩
  rw [hc] at hj
  obtain ⟨p1, p2, p3, p4⟩ := hp j hj
  rw [p1, p2, p3, p4]
  exact h.2.2.1 j hj
theorem StX.start {R : Rs} {S : St} {c : Nat} (h : StX (rch (0, rK R, rB R, rY R, rD R) c 0 0 0) S) : StX (r0 c) S := by
  have hn : ¬ rIn (0, rK R, rB R, rY R, rD R) c := fun ⟨j, hj, _⟩ => absurd hj (Nat.not_lt_zero j)
  have e : rch (0, rK R, rB R, rY R, rD R) c 0 0 0 = rAdd (0, rK R, rB R, rY R, rD R) c 0 0 0 := e2_1 hn
  rw [e] at h
  refine h.congr rfl (fun j hj => ?_)
  have h0 : j = 0 := by have : j < 1 := hj; omega
  subst h0
  exact ⟨(upW_eq (rK R) 0 c).symm, (upW_eq (rB R) 0 0).symm, (upW_eq (rY R) 0 0).symm, (upW_eq (rD R) 0 0).symm⟩

set_option maxHeartbeats 4000000 in
set_option maxRecDepth 100000 in
theorem lp_stb {R : Rs} {S : St} (h : StX R S) {c : Nat} (hc : c < 16807)  : ∀ (i : Nat), (i ≤ rC R) → X 1 30 mX7_begin (qv (fun S' => Fr (fun a => 68 ≤ a ∧ a ≤ 73) S S' ∧ StX (r0 c) S')) 2 [(2, .int (nI i)), (0, .ref 68), (1, .int (nI c))] [] (zoS S R i) := by
  intro i
  induction hm : rC R - i using Nat.strongRecOn generalizing i with
  | _ mm ih =>
    intro hi
    have x4 := h.2.1
    have x5 := h.2.2.1 i
    refine x_iload_n 0 dX7_begin_2 rfl rfl ?_
    refine x_aload_n 1 dX7_begin_3 rfl rfl ?_
    refine y_getI fX7_27 dX7_begin_4 l68 rfl ((zoS_k (by decide)).trans h.1) ?_
    refine y_ic_ge 28 dX7_begin_7 (by decide) (by omega) (by omega) (fun c_7 => ?_) (fun c_7 => ?_)
    · obtain rfl : i = rC R := (by omega)
      refine x_aload_n 1 dX7_begin_28 rfl rfl ?_
      refine x_iconst (v := nI 0) dX7_begin_29 (by decide) ?_
      refine x_putI pX7_27 dX7_begin_30 l68 rfl ?_
      refine x_aload_n 1 dX7_begin_33 rfl rfl ?_
      refine x_iload_n 2 dX7_begin_34 rfl rfl ?_
      refine x_iconst (v := nI 0) dX7_begin_35 (by decide) ?_
      refine x_iconst (v := nI 0) dX7_begin_36 (by decide) ?_
      refine x_iconst (v := nI 0) dX7_begin_37 (by decide) ?_
      refine x_callVqi (as := [_, _, _, _]) (rest := []) vX7_31 (c_X7_reach h.none hc (Or.inr (show (0 : Nat) < 8525 by decide))) dX7_begin_38 l68 rfl rfl rfl (Nat.le_of_ble_eq_true rfl) (Nat.le_of_ble_eq_true rfl) (Nat.le_of_ble_eq_true rfl) (fun r_38 S_38 q_38 => ?_)
      obtain ⟨f1, f2, rfl⟩ := q_38
      refine x_pop dX7_begin_41 rfl ?_
      refine x_vret rfl dX7_begin_42 ⟨rfl, ⟨f1.1, fun a ha b => (f1.2 a ha b).trans ((rdI_k (by omega)).trans (zoS_k (by omega)))⟩, f2.start⟩
    · refine x_aload_n 1 dX7_begin_10 rfl rfl ?_
      refine x_getR fX7_24 dX7_begin_11 l68 rfl ?_
      refine x_aload_n 1 dX7_begin_14 rfl rfl ?_
      refine x_getR fX7_9 dX7_begin_15 l68 rfl ?_
      refine x_iload_n 0 dX7_begin_18 rfl rfl ?_
      refine y_iald dX7_begin_19 l69 (by omega) (by decide) ((zoS_k (by decide)).trans (x5 (by omega)).1) ?_
      refine x_iconst (v := nI 0) dX7_begin_20 (by decide) ?_
      refine y_iast dX7_begin_21 l73 ((x5 (by omega)).2.2.2.2.1) (by decide) ?_
      refine y_iinc (lv' := [(2, _), (0, _), (1, _)]) 0 dX7_begin_22 rfl (by decide) rfl ?_
      refine x_goto 2 dX7_begin_25 (by decide) ?_
      refine x_pick (lv' := [(2, _), (0, _), (1, _)]) [0, 1, 2] rfl ?_
      rw [zoS_s]
      exact ih (rC R - (i + 1)) (by omega) (i + 1) rfl (by omega)

set_option maxHeartbeats 4000000 in
set_option maxRecDepth 100000 in
theorem c_X7_begin {R : Rs} {S : St} (h : StX R S) {c : Nat} (hc : c < 16807)  : C 1 30 yX7_begin mX7_begin [.ref 68, .int (nI c)] S (qv (fun S' => Fr (fun a => 68 ≤ a ∧ a ≤ 73) S S' ∧ StX (r0 c) S')) := by
  refine C.ofX (by decide) rfl (Nat.le_of_ble_eq_true rfl) ?_
  show X 1 30 mX7_begin (qv (fun S' => Fr (fun a => 68 ≤ a ∧ a ≤ 73) S S' ∧ StX (r0 c) S')) 0 [(0, .ref 68), (1, .int (nI c))] [] S
  refine x_iconst (v := nI 0) dX7_begin_0 (by decide) ?_
  refine x_istore_n (lv' := [(2, _), (0, _), (1, _)]) dX7_begin_1 rfl (by decide) rfl ?_
  refine x_pick (lv' := [(2, _), (0, _), (1, _)]) [0, 1, 2] rfl ?_
  have hh := lp_stb h hc 0 (Nat.zero_le _)
  rw [zoS_0] at hh
  exact hh

