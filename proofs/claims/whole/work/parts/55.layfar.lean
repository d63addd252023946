/-! ===== the reference's search ===== -/
/-- the queue and what is far -/
def QuX (I : Isl) (R : Rs) (S : St) : Prop := S.1 83 36 = nI (rC R) ∧ rC R ≤ 16807 ∧ (∀ j, j < rC R → S.1 103 j = nI (rK R j) ∧ rK R j < 7 ^ iM I ∧ S.1 102 (rK R j) = nI (rD R j) ∧ rD R j < 99999) ∧ ∀ c, c < 7 ^ iM I → ¬ rIn R c → S.1 102 c = nI 99999
/-- but for what a search of the reference writes -/
def FrL (S S' : St) : Prop := S'.2 = S.2 ∧ ∀ a b, ¬ (a = 97 ∨ a = 102 ∨ a = 103) → ¬ (a = 83 ∧ b = 36) → S'.1 a b = S.1 a b
theorem FrL.refl {S : St} : FrL S S := ⟨rfl, fun _ _ _ _ => rfl⟩
theorem FrL.trans {S S1 S2 : St} (h : FrL S S1) (h' : FrL S1 S2) : FrL S S2 := ⟨h'.1.trans h.1, fun a b h1 h2 => (h'.2 a b h1 h2).trans (h.2 a b h1 h2)⟩
theorem FrL.of {S S1 : St} (h : F97 S S1) : FrL S S1 := ⟨h.1, fun a b h1 _ => h.2 a (fun q => h1 (Or.inl q)) b⟩
theorem FrL.set {S S1 : St} {k j : Nat} {v : Int32} (h : FrL S S1) (hk : (k = 97 ∨ k = 102 ∨ k = 103) ∨ (k = 83 ∧ j = 36)) : FrL S (setI S1 k j v) := ⟨h.1, fun a b h1 h2 => by
  refine Eq.trans ?_ (h.2 a b h1 h2)
  by_cases q : a = k
  · exact rdI_j (by omega)
  · exact rdI_k q⟩
theorem IsM.fl {I : Isl} {S S' : St} (h : IsM I S) (hf : FrL S S') : IsM I S' := h.keep (fun j hj => hf.2 83 j (by decide) (by intro q; rw [q.2] at hj; revert hj; decide)) (fun a ha b => hf.2 a b (by intro e; rcases e with rfl | rfl | rfl <;> revert ha <;> decide) (by intro e; rw [e.1] at ha; revert ha; decide))
theorem QuX.keep {I : Isl} {R : Rs} {S S' : St} (h : QuX I R S) (k : ∀ b, S'.1 102 b = S.1 102 b ∧ S'.1 103 b = S.1 103 b) (k2 : S'.1 83 36 = S.1 83 36) : QuX I R S' :=
  ⟨k2.trans h.1, h.2.1, fun j hj => ⟨(k j).2.trans (h.2.2.1 j hj).1, (h.2.2.1 j hj).2.1, (k _).1.trans (h.2.2.1 j hj).2.2.1, (h.2.2.1 j hj).2.2.2⟩, fun c hc hn => (k c).1.trans (h.2.2.2 c hc hn)⟩
theorem QuX.f97 {I : Isl} {R : Rs} {S S' : St} (h : QuX I R S) (f : F97 S S') : QuX I R S' := h.keep (fun b => ⟨f.2 102 (by decide) b, f.2 103 (by decide) b⟩) (f.2 83 (by decide) 36)
theorem QuX.far {I : Isl} {R : Rs} {S : St} (h : QuX I R S) {c : Nat} (hc : c < 7 ^ iM I) : S.1 102 c = nI 99999 ↔ ¬ rIn R c := by
  constructor
  · rintro e ⟨j, hj, rfl⟩
    have a := h.2.2.1 j hj
    rw [a.2.2.1] at e
    have := nI_inj (by omega) (by decide) e
    omega
  · exact h.2.2.2 c hc
theorem QuX.at {I : Isl} {R : Rs} {S : St} (h : QuX I R S) {c : Nat} (hc : rIn R c) : S.1 102 c = nI (rD R (ixR R c)) := by
  have a := ixR_ok hc
  have b := (h.2.2.1 _ a.1).2.2.1
  rw [a.2] at b
  exact b
theorem QuX.add {I : Isl} {R : Rs} {S : St} (h : QuX I R S) {c b y d : Nat} (hc : c < 7 ^ iM I) (hn : ¬ rIn R c) (hd : d < 99999) (hr : rC R < 16807) : QuX I (rAdd R c b y d) (setI (setI (setI S 102 c (nI d)) 103 (rC R) (nI c)) 83 36 (nI (rC R + 1))) := by
  have hp := (Pre.add R c b y d).2
  have eC : rC (rAdd R c b y d) = rC R + 1 := rfl
  have eK : rK (rAdd R c b y d) (rC R) = c := upW_eq _ _ _
  have eD : rD (rAdd R c b y d) (rC R) = d := upW_eq _ _ _
  have hin : ∀ x, rIn (rAdd R c b y d) x ↔ rIn R x ∨ x = c := fun x => rIn_add
  generalize rAdd R c b y d = R' at hp eC eK eD hin ⊢
  refine ⟨by rw [rdI_eq, eC], by omega, fun j hj => ?_, fun x hx hnx => ?_⟩
  · by_cases q : j < rC R
    · obtain ⟨a1, a2, a3, a4⟩ := h.2.2.1 j q
      obtain ⟨p1, _, _, p4⟩ := hp j q
      have hne : ¬ rK R j = c := fun e => hn ⟨j, q, e⟩
      rw [p1, p4]
      exact ⟨by rw [rdI_k (by decide), rdI_j (by omega), rdI_k (by decide)]; exact a1, a2, by rw [rdI_k (by decide), rdI_k (by decide), rdI_j hne]; exact a3, a4⟩
    · obtain rfl : j = rC R := by omega
      rw [eK, eD]
      exact ⟨by rw [rdI_k (by decide), rdI_eq], hc, by rw [rdI_k (by decide), rdI_k (by decide), rdI_eq], hd⟩
  · have h1 := mt (hin x).mpr hnx
    rw [rdI_k (by decide), rdI_k (by decide), rdI_j (fun e => h1 (Or.inr e))]
    exact h.2.2.2 x hx (fun q => h1 (Or.inl q))
theorem QuX.start {I : Isl} {S : St} {c0 : Nat} (hc : c0 < 7 ^ iM I) (h1 : S.1 83 36 = nI 1) (h2 : S.1 103 0 = nI c0) (h3 : S.1 102 c0 = nI 0) (h4 : ∀ c, c < 7 ^ iM I → ¬ c = c0 → S.1 102 c = nI 99999) : QuX I (r0 c0) S := by
  refine ⟨h1, (by decide : (1 : Nat) ≤ 16807), fun j hj => ?_, fun c hcc hn => h4 c hcc (fun e => hn ⟨0, Nat.one_pos, e.symm⟩)⟩
  obtain rfl : j = 0 := by have : j < 1 := hj; omega
  exact ⟨h2, hc, h3, (by decide : (0 : Nat) < 99999)⟩
theorem c_codeNx {S : St} {I : Isl} (hI : IsM I S) (hO : IOK I) {c s : Nat} (hw0 : MW I (upW (digF c) (s / 7) (s % 7)) S) : C 0 0 yX11_code mX11_code [.ref 83] S (pu (.int (nI (nx I c s))) S) := c_X11_code hI hO hw0
theorem p7le {I : Isl} (hO : IOK I) : 7 ^ iM I ≤ 16807 := pow7_le hO.2.1

set_option maxHeartbeats 4000000 in
set_option maxRecDepth 100000 in
theorem lp_many {S : St} {I : Isl} (hI : IsM I S) (hO : IOK I)  : ∀ (i : Nat), (i ≤ iM I) → X 0 0 mX11_stateMany (pu (.int (nI (7 ^ iM I))) S) 4 [(2, .int (nI i)), (1, .int (nI ((7 ^ i)))), (0, .ref 83)] [] S := by
  intro i
  induction hm : iM I - i using Nat.strongRecOn generalizing i with
  | _ mm ih =>
    intro hi
    have hO1 := hO.1
    have hO2 := hO.2.1
    have hO3 := hO.2.2.1
    have hO4 := hO.2.2.2.1
    refine x_iload_n 0 dX11_stateMany_4 rfl rfl ?_
    refine x_aload_n 2 dX11_stateMany_5 rfl rfl ?_
    refine y_getI fX11_181 dX11_stateMany_6 l83 rfl hI.2.1 ?_
    refine y_ic_ge 23 dX11_stateMany_9 (by decide) (by omega) (by omega) (fun c_9 => ?_) (fun c_9 => ?_)
    · refine x_iload_n 1 dX11_stateMany_23 rfl rfl ?_
      refine x_iret rfl dX11_stateMany_24 (by obtain rfl : i = iM I := (by omega); exact ⟨rfl, rfl⟩)
    · refine x_iload_n 1 dX11_stateMany_12 rfl rfl ?_
      refine x_bipush (v := nI 7) dX11_stateMany_13 (by decide) ?_
      refine y_imul dX11_stateMany_15 ?_
      refine x_istore_n (lv' := [(1, _), (2, _), (0, _)]) dX11_stateMany_16 rfl (by decide) rfl ?_
      rw [show ((1, Value.int (nI (((7 ^ i) * 7)))) : Nat × Value) = (1, Value.int (nI (7 ^ (i + 1)))) from by rw [Nat.pow_succ]]
      refine y_iinc (lv' := [(2, _), (1, _), (0, _)]) 1 dX11_stateMany_17 rfl (by decide) rfl ?_
      refine x_goto 4 dX11_stateMany_20 (by decide) ?_
      refine x_pick (lv' := [(2, _), (1, _), (0, _)]) [0, 1, 2] rfl ?_
      exact ih (iM I - (i + 1)) (by omega) (i + 1) rfl (by omega)

set_option maxHeartbeats 4000000 in
set_option maxRecDepth 100000 in
theorem c_X11_stateMany {S : St} {I : Isl} (hI : IsM I S) (hO : IOK I)  : C 0 0 yX11_stateMany mX11_stateMany [.ref 83] S (pu (.int (nI (7 ^ iM I))) S) := by
  refine C.ofX (by decide) rfl (Nat.le_of_ble_eq_true rfl) ?_
  show X 0 0 mX11_stateMany (pu (.int (nI (7 ^ iM I))) S) 0 [(0, .ref 83)] [] S
  refine x_iconst (v := nI 1) dX11_stateMany_0 (by decide) ?_
  refine x_istore_n (lv' := [(1, _), (0, _)]) dX11_stateMany_1 rfl (by decide) rfl ?_
  refine x_iconst (v := nI 0) dX11_stateMany_2 (by decide) ?_
  refine x_istore_n (lv' := [(2, _), (1, _), (0, _)]) dX11_stateMany_3 rfl (by decide) rfl ?_
  refine x_pick (lv' := [(2, _), (1, _), (0, _)]) [0, 1, 2] rfl ?_
  exact lp_many hI hO 0 (Nat.zero_le _)

set_option maxHeartbeats 4000000 in
set_option maxRecDepth 100000 in
theorem lp_lay1 {S : St} {I : Isl} (hI : IsM I S) (hO : IOK I) {L c0 : Nat} (hL : S.1 83 17 = nI L) (hL7 : L ≤ 6) (h0 : OKc I L c0) {i : Nat} (ha : alive I L c0 i) (hir : i < rC (bfs I L c0 i)) {Q : Option Value → St → Prop} (kk : ∀ S2, FrL S S2 → QuX I (bfs I L c0 (i + 1)) S2 → X 4 120 mX11_layFar Q 58 [(1, .int (nI (i + 1))), (0, .ref 83)] [] S2)  : ∀ (s : Nat) (S1 : St), (s ≤ 7 * iM I) → (FrL S S1 ∧ MW I (digF (rK (bfs I L c0 i) i)) S1 ∧ QuX I (xpS I L i (bfs I L c0 i) s) S1) → X 4 120 mX11_layFar (Q) 78 [(2, .int (nI s)), (1, .int (nI i)), (0, .ref 83)] [] S1 := by
  intro s S1
  induction hm : 7 * iM I - s using Nat.strongRecOn generalizing s S1 with
  | _ mm ih =>
    intro hs hE
    have hO1 := hO.1
    have hO2 := hO.2.1
    have hO3 := hO.2.2.1
    have hO4 := hO.2.2.2.1
    have h7 := p7le hO
    have hiv := bfs_inv hO h0 i ha
    have hok := hiv.2.2.1 i hir
    have hcc := hok.lt hO
    have hwk := hok.2.ok hO
    have hw7 := hwk.w7 hO
    obtain ⟨x1, x2, x3⟩ := id hE
    have hI1 := hI.fl x1
    have hpr := Pre.xs I L i (bfs I L c0 i) s
    have hin := Nat.lt_of_lt_of_le hir hpr.1
    have hinv := fun h => Inv.xs hO hiv hir s h
    have hmb : mb I L (rK (bfs I L c0 i) i) s = true ↔ mayF I (digF (rK (bfs I L c0 i) i)) L (s / 7) (s % 7) := mb_iff
    refine x_iload_n 0 dX11_layFar_78 rfl rfl ?_
    refine x_bipush (v := nI 7) dX11_layFar_79 (by decide) ?_
    refine x_aload_n 2 dX11_layFar_81 rfl rfl ?_
    refine y_getI fX11_181 dX11_layFar_82 l83 rfl hI1.2.1 ?_
    refine y_imul dX11_layFar_85 ?_
    refine y_ic_ge 203 dX11_layFar_86 (by decide) (by omega) (by omega) (fun c_86 => ?_) (fun c_86 => ?_)
    · refine y_iinc (lv' := [(1, _), (2, _), (0, _)]) 1 dX11_layFar_203 rfl (by decide) rfl ?_
      refine x_goto 58 dX11_layFar_206 (by decide) ?_
      refine x_pick (lv' := [(1, _), (0, _)]) [0, 2] rfl ?_
      obtain rfl : s = 7 * iM I := (by omega)
      exact kk S1 x1 (by rw [bfs_s hir]; exact x3)
    · refine x_aload_n 2 dX11_layFar_89 rfl rfl ?_
      refine x_iload_n 0 dX11_layFar_90 rfl rfl ?_
      refine x_bipush (v := nI 7) dX11_layFar_91 (by decide) ?_
      refine y_idiv dX11_layFar_93 (by omega) (by omega) (by omega) ?_
      refine x_iload_n 0 dX11_layFar_94 rfl rfl ?_
      refine x_bipush (v := nI 7) dX11_layFar_95 (by decide) ?_
      refine y_irem dX11_layFar_97 (by omega) (by omega) (by omega) ?_
      refine x_callVb (as := [_, _]) (rest := []) vX11_241 (c_X11_mayStep hI1 hO x2 hwk ((x1.2 83 17 (by decide) (by decide)).trans hL) (by omega) (by omega) (Nat.mod_lt _ (by decide))) dX11_layFar_98 l83 rfl rfl rfl (Nat.le_of_ble_eq_true rfl) (Nat.le_of_ble_eq_true rfl) (Nat.le_of_ble_eq_true rfl) (fun c_98 => ?_) (fun c_98 => ?_)
      · refine u_if_eq 197 dX11_layFar_101 (by decide) (by decide) ?_
        have hm := hmb.mpr c_98
        have hiv2 := hinv (by omega)
        have hnx := nx_ok hO hok (by omega) hm
        have hnl := hnx.lt hO
        have hcnt := hiv2.cnt
        have hdle := hiv2.dle i hin
        refine x_aload_n 2 dX11_layFar_104 rfl rfl ?_
        refine x_getR fX11_50 dX11_layFar_105 l83 rfl ?_
        refine x_iload_n 0 dX11_layFar_108 rfl rfl ?_
        refine x_bipush (v := nI 7) dX11_layFar_109 (by decide) ?_
        refine y_idiv dX11_layFar_111 (by omega) (by omega) (by omega) ?_
        refine y_iald dX11_layFar_112 l97 (by omega) (by decide) (x2 (s / 7) (by omega)) ?_
        refine x_istore_n (lv' := [(3, _), (2, _), (1, _), (0, _)]) dX11_layFar_113 rfl (by decide) rfl ?_
        refine x_aload_n 3 dX11_layFar_114 rfl rfl ?_
        refine x_getR fX11_50 dX11_layFar_115 l83 rfl ?_
        refine x_iload_n 1 dX11_layFar_118 rfl rfl ?_
        refine x_bipush (v := nI 7) dX11_layFar_119 (by decide) ?_
        refine y_idiv dX11_layFar_121 (by omega) (by omega) (by omega) ?_
        refine x_iload_n 1 dX11_layFar_122 rfl rfl ?_
        refine x_bipush (v := nI 7) dX11_layFar_123 (by decide) ?_
        refine y_irem dX11_layFar_125 (by omega) (by omega) (by omega) ?_
        refine y_iast dX11_layFar_126 l97 (by omega) (by decide) ?_
        refine x_aload_n 3 dX11_layFar_127 rfl rfl ?_
        refine x_callVu (as := []) (rest := []) vX11_251 (c_codeNx (hI1.fl (FrL.refl.set (Or.inl (Or.inl rfl)))) hO (c := (rK (bfs I L c0 i) i)) (fun t ht => by by_cases q : t = s / 7; rw [q, upW_eq, rdI_eq]; rw [upW_ne q, rdI_j q]; exact x2 t ht)) dX11_layFar_128 l83 rfl rfl rfl (Nat.le_of_ble_eq_true rfl) (Nat.le_of_ble_eq_true rfl) (Nat.le_of_ble_eq_true rfl) ?_
        refine x_istore (lv' := [(4, _), (3, _), (2, _), (1, _), (0, _)]) dX11_layFar_131 (by decide) rfl ?_
        refine x_aload_n 4 dX11_layFar_133 rfl rfl ?_
        refine x_getR fX11_50 dX11_layFar_134 l83 rfl ?_
        refine x_iload_n 2 dX11_layFar_137 rfl rfl ?_
        refine x_bipush (v := nI 7) dX11_layFar_138 (by decide) ?_
        refine y_idiv dX11_layFar_140 (by omega) (by omega) (by omega) ?_
        refine x_iload_n 1 dX11_layFar_141 rfl rfl ?_
        refine y_iast dX11_layFar_142 l97 (by omega) (by decide) ?_
        have hback : ∀ a b, ¬ a = 97 → (setI (setI S1 97 (s / 7) (nI (s % 7))) 97 (s / 7) (nI (digF (rK (bfs I L c0 i) i) (s / 7)))).1 a b = S1.1 a b := fun a b q => (rdI_k q).trans (rdI_k q)
        have hf2 : FrL S (setI (setI S1 97 (s / 7) (nI (s % 7))) 97 (s / 7) (nI (digF (rK (bfs I L c0 i) i) (s / 7)))) := (x1.set (Or.inl (Or.inl rfl))).set (Or.inl (Or.inl rfl))
        have hm2 : MW I (digF (rK (bfs I L c0 i) i)) (setI (setI S1 97 (s / 7) (nI (s % 7))) 97 (s / 7) (nI (digF (rK (bfs I L c0 i) i) (s / 7)))) := fun t ht => by
          by_cases q : t = s / 7
          · rw [q, rdI_eq]
          · rw [rdI_j q, rdI_j q]; exact x2 t ht
        have hq2 : QuX I (xpS I L i (bfs I L c0 i) s) (setI (setI S1 97 (s / 7) (nI (s % 7))) 97 (s / 7) (nI (digF (rK (bfs I L c0 i) i) (s / 7)))) := x3.keep (fun b => ⟨hback 102 b (by decide), hback 103 b (by decide)⟩) (hback 83 36 (by decide))
        refine x_aload_n 4 dX11_layFar_143 rfl rfl ?_
        refine x_getR fX11_65 dX11_layFar_144 l83 rfl ?_
        refine x_iload 0 dX11_layFar_147 rfl ?_
        refine y_iald dX11_layFar_149 l102 (by omega) (by decide) ((((rdI_k (by decide))).trans (rdI_k (by decide))).trans rfl) ?_
        refine x_ldcw kX11_268 dX11_layFar_150 ?_
        rw [show (99999 : Int32) = nI 99999 from rfl]
        refine x_ic_ne 197 dX11_layFar_153 (by decide) (fun c_153 => ?_) (fun c_153 => ?_)
        · refine y_iinc (lv' := [(2, _), (4, _), (3, _), (1, _), (0, _)]) 2 dX11_layFar_197 rfl (by decide) rfl ?_
          refine x_goto 78 dX11_layFar_200 (by decide) ?_
          refine x_pick (lv' := [(2, _), (1, _), (0, _)]) [0, 3, 4] rfl ?_
          have hyin : rIn (xpS I L i (bfs I L c0 i) s) (nx I (rK (bfs I L c0 i) i) s) := Classical.byContradiction fun q => c_153 (x3.2.2.2 _ hnx.1 q)
          have ex := xpS_t hm
          unfold rch at ex
          rw [e2_0 hyin] at ex
          exact ih (7 * iM I - (s + 1)) (by omega) (s + 1) _ rfl (by omega) ⟨hf2, hm2, by rw [ex]; exact hq2⟩
        · have hnin := (x3.far hnx.1).mp c_153
          have ex := xpS_t hm
          unfold rch at ex
          rw [e2_1 hnin] at ex
          have hlt : rC (xpS I L i (bfs I L c0 i) s) < 16807 := by
            have h1 := Inv.xs hO hiv hir (s + 1) (by omega)
            have h2 := h1.cnt
            have h3 := cb_le (b := fun c => dec (OKc I L c)) (7 ^ iM I)
            rw [ex] at h2
            have h4 : rC (xpS I L i (bfs I L c0 i) s) + 1 ≤ cb (fun c => dec (OKc I L c)) (7 ^ iM I) := h2
            omega
          refine x_aload_n 4 dX11_layFar_156 rfl rfl ?_
          refine x_getR fX11_65 dX11_layFar_157 l83 rfl ?_
          refine x_iload 0 dX11_layFar_160 rfl ?_
          refine x_aload_n 4 dX11_layFar_162 rfl rfl ?_
          refine x_getR fX11_65 dX11_layFar_163 l83 rfl ?_
          refine x_aload_n 4 dX11_layFar_166 rfl rfl ?_
          refine x_getR fX11_68 dX11_layFar_167 l83 rfl ?_
          refine x_iload_n 3 dX11_layFar_170 rfl rfl ?_
          refine y_iald dX11_layFar_171 l103 (by omega) (by decide) ((((rdI_k (by decide))).trans (rdI_k (by decide))).trans (x3.2.2.1 i hin).1) ?_
          refine y_iald dX11_layFar_172 l102 (Nat.lt_of_lt_of_le (x3.2.2.1 i hin).2.1 h7) (by decide) ((((rdI_k (by decide))).trans (rdI_k (by decide))).trans (x3.2.2.1 i hin).2.2.1) ?_
          refine x_iconst (v := nI 1) dX11_layFar_173 (by decide) ?_
          refine y_iadd dX11_layFar_174 ?_
          refine y_iast dX11_layFar_175 l102 (by omega) (by decide) ?_
          refine x_aload_n 4 dX11_layFar_176 rfl rfl ?_
          refine x_getR fX11_68 dX11_layFar_177 l83 rfl ?_
          refine x_aload_n 4 dX11_layFar_180 rfl rfl ?_
          refine y_getI fX11_269 dX11_layFar_181 l83 rfl (((((rdI_k (by decide))).trans (rdI_k (by decide))).trans (rdI_k (by decide))).trans x3.1) ?_
          refine x_iload 0 dX11_layFar_184 rfl ?_
          refine y_iast dX11_layFar_186 l103 (by omega) (by decide) ?_
          refine x_aload_n 4 dX11_layFar_187 rfl rfl ?_
          refine x_dup dX11_layFar_188 rfl ?_
          refine y_getI fX11_269 dX11_layFar_189 l83 rfl ((((((rdI_k (by decide))).trans (rdI_k (by decide))).trans (rdI_k (by decide))).trans (rdI_k (by decide))).trans x3.1) ?_
          refine x_iconst (v := nI 1) dX11_layFar_192 (by decide) ?_
          refine y_iadd dX11_layFar_193 ?_
          refine x_putI pX11_269 dX11_layFar_194 l83 rfl ?_
          refine y_iinc (lv' := [(2, _), (4, _), (3, _), (1, _), (0, _)]) 2 dX11_layFar_197 rfl (by decide) rfl ?_
          refine x_goto 78 dX11_layFar_200 (by decide) ?_
          refine x_pick (lv' := [(2, _), (1, _), (0, _)]) [0, 3, 4] rfl ?_
          have hdd := (hpr.2 i hir).2.2.2
          rw [hdd]
          have hadd := hq2.add (b := i) (y := s) (d := rD (bfs I L c0 i) i + 1) hnx.1 hnin (by omega) hlt
          rw [← ex] at hadd
          refine ih (7 * iM I - (s + 1)) (by omega) (s + 1) _ rfl (by omega) ⟨((hf2.set (Or.inl (Or.inr (Or.inl rfl)))).set (Or.inl (Or.inr (Or.inr rfl)))).set (Or.inr ⟨rfl, rfl⟩), fun t ht => ?_, hadd⟩
          rw [rdI_k (by decide), rdI_k (by decide), rdI_k (by decide)]
          exact hm2 t ht
      · refine t_if_eq 197 dX11_layFar_101 (by decide) (by decide) ?_
        refine y_iinc (lv' := [(2, _), (1, _), (0, _)]) 0 dX11_layFar_197 rfl (by decide) rfl ?_
        refine x_goto 78 dX11_layFar_200 (by decide) ?_
        refine x_pick (lv' := [(2, _), (1, _), (0, _)]) [0, 1, 2] rfl ?_
        have ex := xpS_f (I := I) (L := L) (i := i) (R := (bfs I L c0 i)) (s := s) (fun q => c_98 (hmb.mp q))
        exact ih (7 * iM I - (s + 1)) (by omega) (s + 1) S1 rfl (by omega) ⟨x1, x2, by rw [ex]; exact x3⟩

set_option maxHeartbeats 4000000 in
set_option maxRecDepth 100000 in
theorem lp_lay2 {S : St} {I : Isl} (hI : IsM I S) (hO : IOK I) {L c0 : Nat} (hL : S.1 83 17 = nI L) (hL7 : L ≤ 6) (h0 : OKc I L c0)  : ∀ (i : Nat) (S1 : St), (alive I L c0 i) → (FrL S S1) → (QuX I (bfs I L c0 i) S1) → X 4 120 mX11_layFar (qv (fun S' => FrL S S' ∧ QuX I (fR I L c0) S')) 58 [(1, .int (nI i)), (0, .ref 83)] [] S1 := by
  intro i S1
  induction hm : 16808 - i using Nat.strongRecOn generalizing i S1 with
  | _ mm ih =>
    intro ha hf hq
    have hO1 := hO.1
    have hO2 := hO.2.1
    have hO3 := hO.2.2.1
    have hO4 := hO.2.2.2.1
    have h7 := p7le hO
    have hal := alive_le ha
    have hrc := hq.2.1
    have hI1 := hI.fl hf
    refine x_iload_n 0 dX11_layFar_58 rfl rfl ?_
    refine x_aload_n 1 dX11_layFar_59 rfl rfl ?_
    refine y_getI fX11_269 dX11_layFar_60 l83 rfl hq.1 ?_
    refine y_ic_ge 209 dX11_layFar_63 (by decide) (by omega) (by omega) (fun c_63 => ?_) (fun c_63 => ?_)
    · refine x_vret rfl dX11_layFar_209 (by
        have e : rC (bfs I L c0 i) = i := by omega
        have e2 := fR_full hO h0 ha e
        have e3 : i = bN I L c0 := by have := (bN_ok hO h0).2; omega
        exact ⟨rfl, hf, by rw [e3] at hq; exact hq⟩)
    · refine x_aload_n 1 dX11_layFar_66 rfl rfl ?_
      refine x_aload_n 1 dX11_layFar_67 rfl rfl ?_
      refine x_getR fX11_68 dX11_layFar_68 l83 rfl ?_
      refine x_iload_n 0 dX11_layFar_71 rfl rfl ?_
      refine y_iald dX11_layFar_72 l103 (by omega) (by decide) (hq.2.2.1 i (by omega)).1 ?_
      refine x_callVv (as := [_]) (rest := []) vX11_255 (c_X11_look hI1 hO (Nat.lt_of_lt_of_le (hq.2.2.1 i (by omega)).2.1 h7)) dX11_layFar_73 l83 rfl rfl rfl (Nat.le_of_ble_eq_true rfl) (Nat.le_of_ble_eq_true rfl) (Nat.le_of_ble_eq_true rfl) ?_
      refine x_iconst (v := nI 0) dX11_layFar_76 (by decide) ?_
      refine x_istore_n (lv' := [(2, _), (1, _), (0, _)]) dX11_layFar_77 rfl (by decide) rfl ?_
      refine x_pick (lv' := [(2, _), (1, _), (0, _)]) [0, 1, 2] rfl ?_
      exact lp_lay1 hI hO hL hL7 h0 ha (by omega) (fun S2 f2 q2 => ih (16808 - (i + 1)) (by omega) (i + 1) S2 rfl (alive_s ha (by omega)) f2 q2) 0 (loS S1 (rK (bfs I L c0 i) i) (iM I)) (Nat.zero_le _) ⟨hf.trans (FrL.of (loS_f _ _ _)), fun t ht => if_pos ⟨rfl, ht⟩, hq.f97 (loS_f _ _ _)⟩

set_option maxHeartbeats 4000000 in
set_option maxRecDepth 100000 in
theorem lp_lay3 {S : St} {I : Isl} (hI : IsM I S) (hO : IOK I) {w : Nat → Nat} (hw0 : ∀ t, t < iM I → S.1 93 t = nI (w t)) {L : Nat} (hL : S.1 83 17 = nI L) (hL7 : L ≤ 6) (hv : VS I w L) {c0 : Nat} (hc0 : c0 = codeF I w)  : ∀ (k : Nat), (k ≤ 7 ^ iM I) → X 4 120 mX11_layFar (qv (fun S' => FrL S S' ∧ QuX I (fR I L c0) S')) 2 [(1, .int (nI k)), (0, .ref 83)] [] (rwS S 102 0 k (fun _ => nI 99999)) := by
  intro k
  induction hm : 7 ^ iM I - k using Nat.strongRecOn generalizing k with
  | _ mm ih =>
    intro hk
    have hO1 := hO.1
    have hO2 := hO.2.1
    have hO3 := hO.2.2.1
    have hO4 := hO.2.2.2.1
    have hw := hv.ok hO
    have hw7 := hw.w7 hO
    have h7 := p7le hO
    have h0 : OKc I L c0 := by rw [hc0]; exact hv.okc hO
    have hlt := h0.lt hO
    have hfk : FrL S (rwS S 102 0 k (fun _ => nI 99999)) := ⟨rfl, fun a b h1 h2 => rwS_k (by omega)⟩
    have hI1 := hI.fl hfk
    have hw1 : ∀ t, t < iM I → ((rwS S 102 0 k (fun _ => nI 99999))).1 93 t = nI (w t) := fun t ht => (rwS_k (by decide)).trans (hw0 t ht)
    have hcw : codeF I w < 16807 := by rw [← hc0]; exact hlt
    refine x_iload_n 0 dX11_layFar_2 rfl rfl ?_
    refine x_aload_n 1 dX11_layFar_3 rfl rfl ?_
    refine x_callVu (as := []) (rest := [_]) vX11_265 (c_X11_stateMany hI1 hO) dX11_layFar_4 l83 rfl rfl rfl (Nat.le_of_ble_eq_true rfl) (Nat.le_of_ble_eq_true rfl) (Nat.le_of_ble_eq_true rfl) ?_
    refine y_ic_ge 25 dX11_layFar_7 (by decide) (by omega) (by omega) (fun c_7 => ?_) (fun c_7 => ?_)
    · refine x_aload_n 1 dX11_layFar_25 rfl rfl ?_
      refine x_callVv (as := []) (rest := []) vX11_217 (c_X11_lookNow hI1 hO) dX11_layFar_26 l83 rfl rfl rfl (Nat.le_of_ble_eq_true rfl) (Nat.le_of_ble_eq_true rfl) (Nat.le_of_ble_eq_true rfl) ?_
      refine x_aload_n 1 dX11_layFar_29 rfl rfl ?_
      refine x_getR fX11_68 dX11_layFar_30 l83 rfl ?_
      refine x_iconst (v := nI 0) dX11_layFar_33 (by decide) ?_
      refine x_aload_n 1 dX11_layFar_34 rfl rfl ?_
      refine x_callVu (as := []) (rest := [_, _]) vX11_251 (c_X11_code (hI1.lk _) hO (lkS_W hw1)) dX11_layFar_35 l83 rfl rfl rfl (Nat.le_of_ble_eq_true rfl) (Nat.le_of_ble_eq_true rfl) (Nat.le_of_ble_eq_true rfl) ?_
      refine y_iast dX11_layFar_38 l103 (by omega) (by decide) ?_
      refine x_aload_n 1 dX11_layFar_39 rfl rfl ?_
      refine x_getR fX11_65 dX11_layFar_40 l83 rfl ?_
      refine x_aload_n 1 dX11_layFar_43 rfl rfl ?_
      refine x_getR fX11_68 dX11_layFar_44 l83 rfl ?_
      refine x_iconst (v := nI 0) dX11_layFar_47 (by decide) ?_
      refine y_iald dX11_layFar_48 l103 (by omega) (by decide) rdI_eq ?_
      refine x_iconst (v := nI 0) dX11_layFar_49 (by decide) ?_
      refine y_iast dX11_layFar_50 l102 (by omega) (by decide) ?_
      refine x_aload_n 1 dX11_layFar_51 rfl rfl ?_
      refine x_iconst (v := nI 1) dX11_layFar_52 (by decide) ?_
      refine x_putI pX11_269 dX11_layFar_53 l83 rfl ?_
      refine x_iconst (v := nI 0) dX11_layFar_56 (by decide) ?_
      refine x_istore_n (lv' := [(1, _), (0, _)]) dX11_layFar_57 rfl (by decide) rfl ?_
      refine x_pick (lv' := [(1, _), (0, _)]) [0, 1] rfl ?_
      obtain rfl : k = 7 ^ iM I := (by omega)
      subst hc0
      refine lp_lay2 hI hO hL hL7 h0 0 _ (fun e' h => absurd h (Nat.not_lt_zero e')) ((((hfk.trans (FrL.of (lkS_f _ _))).set (Or.inl (Or.inr (Or.inr rfl)))).set (Or.inl (Or.inr (Or.inl rfl)))).set (Or.inr ⟨rfl, rfl⟩)) (QuX.start h0.1 rdI_eq ?_ ?_ (fun c hc hne => ?_))
      · rw [rdI_k (by decide), rdI_k (by decide), rdI_eq]
      · rw [rdI_k (by decide), rdI_eq]
      · rw [rdI_k (by decide), rdI_j hne, rdI_k (by decide), lkS_k (by decide), rwS_at0 hc]
    · refine x_aload_n 1 dX11_layFar_10 rfl rfl ?_
      refine x_getR fX11_65 dX11_layFar_11 l83 rfl ?_
      refine x_iload_n 0 dX11_layFar_14 rfl rfl ?_
      refine x_ldcw kX11_268 dX11_layFar_15 ?_
      rw [show (99999 : Int32) = nI 99999 from rfl]
      refine y_iast dX11_layFar_18 l102 (by omega) (by decide) ?_
      refine y_iinc (lv' := [(1, _), (0, _)]) 0 dX11_layFar_19 rfl (by decide) rfl ?_
      refine x_goto 2 dX11_layFar_22 (by decide) ?_
      refine x_pick (lv' := [(1, _), (0, _)]) [0, 1] rfl ?_
      refine x_cast (rwS_s0 S 102 k (fun _ => nI 99999)) ?_
      exact ih (7 ^ iM I - (k + 1)) (by omega) (k + 1) rfl (by omega)

set_option maxHeartbeats 4000000 in
set_option maxRecDepth 100000 in
theorem c_X11_layFar {S : St} {I : Isl} (hI : IsM I S) (hO : IOK I) {w : Nat → Nat} (hw0 : ∀ t, t < iM I → S.1 93 t = nI (w t)) {L : Nat} (hL : S.1 83 17 = nI L) (hL7 : L ≤ 6) (hv : VS I w L) : C 4 120 yX11_layFar mX11_layFar [.ref 83] S (qv (fun S' => FrL S S' ∧ QuX I (fR I L (codeF I w)) S')) := by
  refine C.ofX (by decide) rfl (Nat.le_of_ble_eq_true rfl) ?_
  show X 4 120 mX11_layFar (qv (fun S' => FrL S S' ∧ QuX I (fR I L (codeF I w)) S')) 0 [(0, .ref 83)] [] S
  refine x_iconst (v := nI 0) dX11_layFar_0 (by decide) ?_
  refine x_istore_n (lv' := [(1, _), (0, _)]) dX11_layFar_1 rfl (by decide) rfl ?_
  refine x_pick (lv' := [(1, _), (0, _)]) [0, 1] rfl ?_
  have hh := lp_lay3 hI hO hw0 hL hL7 hv rfl 0 (Nat.zero_le _)
  rw [rwS_0] at hh
  exact hh
