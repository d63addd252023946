/-! ===== the search, the class ===== -/
abbrev Nr : Type := Nat × (Nat → Nat)
def nrM (N : Nr) (j i : Nat) : Nr := if j < i then (N.1 + 1, upW N.2 N.1 j) else N
noncomputable def neS (I : Isl) (L i : Nat) (R : Rs) (N : Nr) : Nat → Nr
  | 0 => N
  | s + 1 => i2 (mb I L (rK R i) s = true) (nrM (neS I L i R N s) (ixR (xpS I L i R (s + 1)) (nx I (rK R i) s)) i) (neS I L i R N s)
noncomputable def nrB (I : Isl) (L c0 : Nat) : Nat → Nr
  | 0 => (0, fun _ => 0)
  | e + 1 => i2 (e < rC (bfs I L c0 e)) (neS I L e (bfs I L c0 e) (nrB I L c0 e) (7 * iM I)) (nrB I L c0 e)
theorem nrM_le (N : Nr) (j i : Nat) : N.1 ≤ (nrM N j i).1 := by
  unfold nrM
  by_cases h : j < i
  · rw [if_pos h]; exact Nat.le_succ _
  · rw [if_neg h]; exact Nat.le_refl _
theorem neS_le (I : Isl) (L i : Nat) (R : Rs) (N : Nr) (s : Nat) : ∀ d, (neS I L i R N s).1 ≤ (neS I L i R N (s + d)).1
  | 0 => Nat.le_refl _
  | d + 1 => by
    refine Nat.le_trans (neS_le I L i R N s d) ?_
    rw [← Nat.add_assoc, neS]
    by_cases h : mb I L (rK R i) (s + d) = true
    · rw [e2_0 h]; exact nrM_le _ _ _
    · rw [e2_1 h]; exact Nat.le_refl _
theorem xpS_le (I : Isl) (L i : Nat) (R : Rs) (s : Nat) : ∀ d, Pre (xpS I L i R s) (xpS I L i R (s + d))
  | 0 => Pre.refl _
  | d + 1 => (xpS_le I L i R s d).trans (Pre.xs1 I L i R (s + d))
def NrX (N : Nr) (S : St) : Prop := S.1 74 6 = nI N.1 ∧ ∀ k, k < N.1 → S.1 76 k = nI (N.2 k)
/-- the class has searched from c0, by the limit L, so far that e are expanded -/
def SeX (I : Isl) (L c0 e : Nat) (S : St) : Prop := StX (bfs I L c0 e) S ∧ NrX (nrB I L c0 e) S ∧ (∀ i, i < e → S.1 77 i = nI (nrB I L c0 (i + 1)).1) ∧ S.1 74 7 = nI e ∧ S.1 45 5 = nI L ∧ S.1 74 8 = nI c0 ∧ S.1 74 9 = nI L ∧ alive I L c0 e
/-- there is room for all -/
def Roomy (I : Isl) (L c0 : Nat) : Prop := (∀ e, alive I L c0 e → rC (bfs I L c0 e) ≤ 8525) ∧ ∀ e, alive I L c0 e → (nrB I L c0 e).1 ≤ 80000
def FS (a : Nat) : Prop := (45 ≤ a ∧ a ≤ 49) ∨ (68 ≤ a ∧ a ≤ 74) ∨ a = 76 ∨ a = 77
theorem code_dig : ∀ {m c : Nat}, c < 7 ^ m → codeN m (digF c) = c
  | 0, c, h => by have : c = 0 := by simpa using h
                  rw [this]; rfl
  | m + 1, c, h => by
    rw [codeN_h]
    have e : (fun t => digF c (t + 1)) = digF (c / 7) := by
      funext t
      unfold digF
      rw [Nat.pow_succ, Nat.mul_comm, ← Nat.div_div_eq_div_mul]
    have h2 : c / 7 < 7 ^ m := by rw [Nat.pow_succ] at h; omega
    rw [e, code_dig h2]
    unfold digF
    rw [Nat.pow_zero, Nat.div_one]
    omega
theorem code_up {m t : Nat} {w : Nat → Nat} (ht : t < m) (to : Nat) : codeN m (upW w t to) + w t * 7 ^ t = codeN m w + to * 7 ^ t := by
  have h := sm_up (f := fun i => upW w t to i * 7 ^ i) (g := fun i => w i * 7 ^ i) (t := t) (fun i hi => by rw [upW_ne hi]) ht
  rw [upW_eq] at h
  exact h
theorem nx_arith {I : Isl} {L c t k : Nat} (hO : IOK I) (h : OKc I L c) (ht : t < iM I) (hk : k < 7) : nI c + (nI k - nI (digF c t)) * nI (7 ^ t) = nI (nx I c (7 * t + k)) := by
  have e : nx I c (7 * t + k) + digF c t * 7 ^ t = c + k * 7 ^ t := by
    unfold nx codeF
    rw [show (7 * t + k) / 7 = t by omega, show (7 * t + k) % 7 = k by omega, code_up ht, code_dig h.1]
  rw [Int32.sub_mul, pk_mul, pk_mul, Int32.sub_eq_add_neg, ← Int32.add_assoc, ← Int32.sub_eq_add_neg, nI_add, ← e, ← nI_add, Int32.add_sub_cancel]

set_option maxHeartbeats 4000000 in
set_option maxRecDepth 100000 in
theorem c_X6_meet {R : Rs} {N : Nr} {S : St} (h : StX R S) (hn : NrX N S) {i s c : Nat} (hi : i < rC R) (hc : c < 16807) (hr : rIn R c ∨ rC R < 8525) (hN : (nrM N (ixR (rch R c i s (rD R i + 1)) c) i).1 ≤ 80000) : C 1 30 yX6_meet mX6_meet [.ref 74, .int (nI i), .int (nI s), .int (nI c)] S (qv (fun S' => Fr (fun a => (68 ≤ a ∧ a ≤ 74) ∨ a = 76) S S' ∧ (∀ b, ¬ b = 6 → S'.1 74 b = S.1 74 b) ∧ StX (rch R c i s (rD R i + 1)) S' ∧ NrX (nrM N (ixR (rch R c i s (rD R i + 1)) c) i) S')) := by
  have x2 := h.2.1
  have x3 := h.2.2.1 i hi
  have x4 := ixR_ok (rIn_ch (R := R) (c := c) (b := i) (y := s) (d := rD R i + 1))
  have x5 := nrM_le N (ixR (rch R c i s (rD R i + 1)) c) i
  refine C.ofX (by decide) rfl (Nat.le_of_ble_eq_true rfl) ?_
  show X 1 30 mX6_meet (qv (fun S' => Fr (fun a => (68 ≤ a ∧ a ≤ 74) ∨ a = 76) S S' ∧ (∀ b, ¬ b = 6 → S'.1 74 b = S.1 74 b) ∧ StX (rch R c i s (rD R i + 1)) S' ∧ NrX (nrM N (ixR (rch R c i s (rD R i + 1)) c) i) S')) 0 [(0, .ref 74), (1, .int (nI i)), (2, .int (nI s)), (3, .int (nI c))] [] S
  refine x_aload_n 0 dX6_meet_0 rfl rfl ?_
  refine x_getR fX6_26 dX6_meet_1 l74 rfl ?_
  refine x_iload_n 3 dX6_meet_4 rfl rfl ?_
  refine x_iload_n 1 dX6_meet_5 rfl rfl ?_
  refine x_iload_n 2 dX6_meet_6 rfl rfl ?_
  refine x_aload_n 0 dX6_meet_7 rfl rfl ?_
  refine x_getR fX6_26 dX6_meet_8 l74 rfl ?_
  refine x_getR fX6_64 dX6_meet_11 l68 rfl ?_
  refine x_iload_n 1 dX6_meet_14 rfl rfl ?_
  refine y_iald dX6_meet_15 l72 (by omega) (by decide) x3.2.2.2.1 ?_
  refine x_iconst (v := nI 1) dX6_meet_16 (by decide) ?_
  refine y_iadd dX6_meet_17 ?_
  refine x_callVqi (as := [_, _, _, _]) (rest := []) vX6_95 (c_X7_reach h hc hr) dX6_meet_18 l68 rfl rfl rfl (Nat.le_of_ble_eq_true rfl) (Nat.le_of_ble_eq_true rfl) (Nat.le_of_ble_eq_true rfl) (fun r_18 S_18 q_18 => ?_)
  obtain ⟨f1, f2, rfl⟩ := q_18
  have x6 := f2.2.1
  have hn1 : NrX N S_18 := ⟨(f1.2 74 (by omega) 6).trans hn.1, fun k hk => (f1.2 76 (by omega) k).trans (hn.2 k hk)⟩
  refine x_istore (lv' := [(4, _), (0, _), (1, _), (2, _), (3, _)]) dX6_meet_21 (by decide) rfl ?_
  refine x_iload 0 dX6_meet_23 rfl ?_
  refine x_iload_n 2 dX6_meet_25 rfl rfl ?_
  refine y_ic_ge 56 dX6_meet_26 (by decide) (by omega) (by omega) (fun c_26 => ?_) (fun c_26 => ?_)
  · refine x_vret rfl dX6_meet_56 (by
      first
      | (have en : nrM N (ixR (rch R c i s (rD R i + 1)) c) i = N := if_neg (by omega)
         rw [en]
         exact ⟨rfl, f1.wider (fun a ha => by omega), fun b hb => f1.2 74 (by omega) b, f2, hn1⟩)
      | (exfalso; unfold nrM at hN; rw [if_pos (by omega)] at hN; have : N.1 + 1 ≤ 80000 := hN; omega)
      | (have en : nrM N (ixR (rch R c i s (rD R i + 1)) c) i = (N.1 + 1, upW N.2 N.1 (ixR (rch R c i s (rD R i + 1)) c)) := if_pos (by omega)
         rw [en]
         refine ⟨rfl, ⟨f1.1, fun a ha b => (rdI_k (by omega)).trans ((rdI_k (by omega)).trans (f1.2 a (by omega) b))⟩, fun b hb => (rdI_k (by decide)).trans ((rdI_j hb).trans (f1.2 74 (by omega) b)), f2.fr (fun a h1 h2 b => (rdI_k (by omega)).trans (rdI_k (by omega))), (rdI_k (by decide)).trans rdI_eq, fun k hk => ?_⟩
         by_cases q : k = N.1
         · rw [q]; exact rdI_eq.trans (congrArg nI (upW_eq _ _ _).symm)
         · have hk2 : k < N.1 := by have : k < N.1 + 1 := hk
                                    omega
           exact (rdI_j q).trans ((rdI_k (by decide)).trans ((hn1.2 k hk2).trans (congrArg nI (upW_ne q).symm)))))
  · refine x_aload_n 1 dX6_meet_29 rfl rfl ?_
    refine y_getI fX6_49 dX6_meet_30 l74 rfl ((f1.2 74 (by omega) 6).trans hn.1) ?_
    refine x_ldc kX6_15 dX6_meet_33 ?_
    rw [show (80000 : Int32) = nI 80000 from rfl]
    refine y_ic_ge 56 dX6_meet_35 (by decide) (by omega) (by omega) (fun c_35 => ?_) (fun c_35 => ?_)
    · refine x_vret rfl dX6_meet_56 (by
        first
        | (have en : nrM N (ixR (rch R c i s (rD R i + 1)) c) i = N := if_neg (by omega)
           rw [en]
           exact ⟨rfl, f1.wider (fun a ha => by omega), fun b hb => f1.2 74 (by omega) b, f2, hn1⟩)
        | (exfalso; unfold nrM at hN; rw [if_pos (by omega)] at hN; have : N.1 + 1 ≤ 80000 := hN; omega)
        | (have en : nrM N (ixR (rch R c i s (rD R i + 1)) c) i = (N.1 + 1, upW N.2 N.1 (ixR (rch R c i s (rD R i + 1)) c)) := if_pos (by omega)
           rw [en]
           refine ⟨rfl, ⟨f1.1, fun a ha b => (rdI_k (by omega)).trans ((rdI_k (by omega)).trans (f1.2 a (by omega) b))⟩, fun b hb => (rdI_k (by decide)).trans ((rdI_j hb).trans (f1.2 74 (by omega) b)), f2.fr (fun a h1 h2 b => (rdI_k (by omega)).trans (rdI_k (by omega))), (rdI_k (by decide)).trans rdI_eq, fun k hk => ?_⟩
           by_cases q : k = N.1
           · rw [q]; exact rdI_eq.trans (congrArg nI (upW_eq _ _ _).symm)
           · have hk2 : k < N.1 := by have : k < N.1 + 1 := hk
                                      omega
             exact (rdI_j q).trans ((rdI_k (by decide)).trans ((hn1.2 k hk2).trans (congrArg nI (upW_ne q).symm)))))
    · refine x_aload_n 1 dX6_meet_38 rfl rfl ?_
      refine x_getR fX6_16 dX6_meet_39 l74 rfl ?_
      refine x_aload_n 1 dX6_meet_42 rfl rfl ?_
      refine x_dup dX6_meet_43 rfl ?_
      refine y_getI fX6_49 dX6_meet_44 l74 rfl ((f1.2 74 (by omega) 6).trans hn.1) ?_
      refine x_dup_x1 dX6_meet_47 rfl rfl ?_
      refine x_iconst (v := nI 1) dX6_meet_48 (by decide) ?_
      refine y_iadd dX6_meet_49 ?_
      refine x_putI pX6_49 dX6_meet_50 l74 rfl ?_
      refine x_iload 0 dX6_meet_53 rfl ?_
      refine y_iast dX6_meet_55 l76 (by unfold nrM at hN; rw [if_pos c_26] at hN; have : N.1 + 1 ≤ 80000 := hN; omega) (by decide) ?_
      refine x_vret rfl dX6_meet_56 (by
        first
        | (have en : nrM N (ixR (rch R c i s (rD R i + 1)) c) i = N := if_neg (by omega)
           rw [en]
           exact ⟨rfl, f1.wider (fun a ha => by omega), fun b hb => f1.2 74 (by omega) b, f2, hn1⟩)
        | (exfalso; unfold nrM at hN; rw [if_pos (by omega)] at hN; have : N.1 + 1 ≤ 80000 := hN; omega)
        | (have en : nrM N (ixR (rch R c i s (rD R i + 1)) c) i = (N.1 + 1, upW N.2 N.1 (ixR (rch R c i s (rD R i + 1)) c)) := if_pos (by omega)
           rw [en]
           refine ⟨rfl, ⟨f1.1, fun a ha b => (rdI_k (by omega)).trans ((rdI_k (by omega)).trans (f1.2 a (by omega) b))⟩, fun b hb => (rdI_k (by decide)).trans ((rdI_j hb).trans (f1.2 74 (by omega) b)), f2.fr (fun a h1 h2 b => (rdI_k (by omega)).trans (rdI_k (by omega))), (rdI_k (by decide)).trans rdI_eq, fun k hk => ?_⟩
           by_cases q : k = N.1
           · rw [q]; exact rdI_eq.trans (congrArg nI (upW_eq _ _ _).symm)
           · have hk2 : k < N.1 := by have : k < N.1 + 1 := hk
                                      omega
             exact (rdI_j q).trans ((rdI_k (by decide)).trans ((hn1.2 k hk2).trans (congrArg nI (upW_ne q).symm)))))

theorem tg_mb {I : Isl} {L c t k : Nat} (hO : IOK I) (hk : k < 7) : (tgF I (digF c) L t).testBit k = mb I L c (7 * t + k) := (mayB_t hO hk).symm
theorem xpS_t {I : Isl} {L i s : Nat} {R : Rs} (h : mb I L (rK R i) s = true) : xpS I L i R (s + 1) = rch (xpS I L i R s) (nx I (rK R i) s) i s (rD R i + 1) := by rw [xpS, e2_0 h]
theorem xpS_f {I : Isl} {L i s : Nat} {R : Rs} (h : ¬ mb I L (rK R i) s = true) : xpS I L i R (s + 1) = xpS I L i R s := by rw [xpS, e2_1 h]
theorem neS_t {I : Isl} {L i s : Nat} {R : Rs} {N : Nr} (h : mb I L (rK R i) s = true) : neS I L i R N (s + 1) = nrM (neS I L i R N s) (ixR (xpS I L i R (s + 1)) (nx I (rK R i) s)) i := by rw [neS, e2_0 h]
theorem neS_f {I : Isl} {L i s : Nat} {R : Rs} {N : Nr} (h : ¬ mb I L (rK R i) s = true) : neS I L i R N (s + 1) = neS I L i R N s := by rw [neS, e2_1 h]
theorem nrB_s {I : Isl} {L c0 e : Nat} (h : e < rC (bfs I L c0 e)) : nrB I L c0 (e + 1) = neS I L e (bfs I L c0 e) (nrB I L c0 e) (7 * iM I) := by rw [nrB, e2_0 h]
theorem alive_s {I : Isl} {L c0 e : Nat} (h : alive I L c0 e) (h1 : e < rC (bfs I L c0 e)) : alive I L c0 (e + 1) := fun e' h' => by
  by_cases q : e' = e
  · rw [q]; exact h1
  · exact h e' (by omega)

set_option maxHeartbeats 4000000 in
set_option maxRecDepth 100000 in
theorem lp_exp1 {S : St} {I : Isl} (hI : IsX 11 I S) (hO : IOK I) {L c0 e : Nat} (hL7 : L ≤ 6) (h0 : OKc I L c0) (hR : Roomy I L c0) (hx : SeX I L c0 e S) (he : e < rC (bfs I L c0 e)) {t : Nat} (ht : t < iM I) {Q : Option Value → St → Prop} (kk : ∀ S2, (Fr (fun a => (46 ≤ a ∧ a ≤ 49) ∨ (68 ≤ a ∧ a ≤ 74) ∨ a = 76) S S2 ∧ (∀ b, ¬ b = 6 → S2.1 74 b = S.1 74 b) ∧ PlT 45 I (digF (rK (bfs I L c0 e) e)) S2 ∧ StX (xpS I L e (bfs I L c0 e) (7 * t + 7)) S2 ∧ NrX (neS I L e (bfs I L c0 e) (nrB I L c0 e) (7 * t + 7)) S2) → X 3 90 mX6_expand Q 20 [(3, .int (nI (t + 1))), (0, .ref 74), (1, .int (nI e)), (2, .int (nI (rK (bfs I L c0 e) e)))] [] S2)  : ∀ (k : Nat) (S1 : St), (k ≤ 7) → (Fr (fun a => (46 ≤ a ∧ a ≤ 49) ∨ (68 ≤ a ∧ a ≤ 74) ∨ a = 76) S S1 ∧ (∀ b, ¬ b = 6 → S1.1 74 b = S.1 74 b) ∧ PlT 45 I (digF (rK (bfs I L c0 e) e)) S1 ∧ StX (xpS I L e (bfs I L c0 e) (7 * t + k)) S1 ∧ NrX (neS I L e (bfs I L c0 e) (nrB I L c0 e) (7 * t + k)) S1) → X 3 90 mX6_expand (Q) 44 [(5, .int (nI k)), (4, .int (nI ((tgF I (digF (rK (bfs I L c0 e) e)) L t)))), (3, .int (nI t)), (0, .ref 74), (1, .int (nI e)), (2, .int (nI ((rK (bfs I L c0 e) e))))] [] S1 := by
  intro k S1
  induction hm : 7 - k using Nat.strongRecOn generalizing k S1 with
  | _ mm ih =>
    intro hk hE
    have hO1 := hO.1
    have hO2 := hO.2.1
    have hO3 := hO.2.2.1
    have hO4 := hO.2.2.2.1
    have ha := hx.2.2.2.2.2.2.2
    have hiv := bfs_inv hO h0 e ha
    have hok := hiv.2.2.1 e he
    have hc16 := hok.lt hO
    have ha1 := alive_s ha he
    have hr1 := hR.1 (e + 1) ha1
    have hr2 := hR.2 (e + 1) ha1
    rw [bfs_s he] at hr1
    rw [nrB_s he] at hr2
    have he2 : e < 8525 := Nat.lt_of_lt_of_le he hx.1.2.1
    obtain ⟨x1, x2, x3, x4, x5⟩ := id hE
    have htl := tgF_lt I (digF (rK (bfs I L c0 e) e)) L t
    have hle := (xpS_le I L e (bfs I L c0 e) (7 * t + (k + 1)) (7 * iM I - (7 * t + (k + 1)))).1
    have hne := neS_le I L e (bfs I L c0 e) (nrB I L c0 e) (7 * t + (k + 1)) (7 * iM I - (7 * t + (k + 1)))
    have hpr := Pre.xs I L e (bfs I L c0 e) (7 * t + k)
    refine x_iload 0 dX6_expand_44 rfl ?_
    refine x_bipush (v := nI 7) dX6_expand_46 (by decide) ?_
    refine y_ic_ge 99 dX6_expand_48 (by decide) (by omega) (by omega) (fun c_48 => ?_) (fun c_48 => ?_)
    · refine y_iinc (lv' := [(3, _), (5, _), (4, _), (0, _), (1, _), (2, _)]) 2 dX6_expand_99 rfl (by decide) rfl ?_
      refine x_goto 20 dX6_expand_102 (by decide) ?_
      refine x_pick (lv' := [(3, _), (0, _), (1, _), (2, _)]) [0, 3, 4, 5] rfl ?_
      obtain rfl : k = 7 := (by omega)
      exact kk S1 hE
    · refine x_iload 1 dX6_expand_51 rfl ?_
      refine x_iload 0 dX6_expand_53 rfl ?_
      refine y_ishr dX6_expand_55 (by omega) (by omega) ?_
      refine x_iconst (v := nI 1) dX6_expand_56 (by decide) ?_
      refine y_iand dX6_expand_57 ?_
      rw [show (((tgF I (digF (rK (bfs I L c0 e) e)) L t) / 2 ^ k) &&& 1) = (tgF I (digF (rK (bfs I L c0 e) e)) L t / 2 ^ k % 2) from by rw [Nat.and_one_is_mod]]
      refine y_if_eq 93 dX6_expand_58 (by decide) (by omega) (fun c_58 => ?_) (fun c_58 => ?_)
      · refine y_iinc (lv' := [(5, _), (4, _), (3, _), (0, _), (1, _), (2, _)]) 0 dX6_expand_93 rfl (by decide) rfl ?_
        refine x_goto 44 dX6_expand_96 (by decide) ?_
        refine x_pick (lv' := [(5, _), (4, _), (3, _), (0, _), (1, _), (2, _)]) [0, 1, 2, 3, 4, 5] rfl ?_
        have hm : ¬ mb I L (rK (bfs I L c0 e) e) (7 * t + k) = true := fun q => by have q2 := has_iff.mpr ((tg_mb hO (by omega)).trans q); omega
        have ex := xpS_f hm
        have en := neS_f (N := (nrB I L c0 e)) hm
        exact ih (7 - (k + 1)) (by omega) (k + 1) S1 rfl (by omega) ⟨x1, x2, x3, by rw [← Nat.add_assoc, ex]; exact x4, by rw [← Nat.add_assoc, en]; exact x5⟩
      · have hm : mb I L (rK (bfs I L c0 e) e) (7 * t + k) = true := (tg_mb hO (by omega)).symm.trans (has_iff.mp (by omega))
        have ex := xpS_t hm
        have en := neS_t (N := (nrB I L c0 e)) hm
        rw [← Nat.add_assoc, show 7 * t + k + 1 + (7 * iM I - (7 * t + k + 1)) = 7 * iM I by omega] at hle hne
        have hnx := (nx_ok hO hok (s := 7 * t + k) (by omega) hm).lt hO
        refine x_aload_n 3 dX6_expand_61 rfl rfl ?_
        refine x_iload_n 4 dX6_expand_62 rfl rfl ?_
        refine x_bipush (v := nI 7) dX6_expand_63 (by decide) ?_
        refine x_iload_n 2 dX6_expand_65 rfl rfl ?_
        refine y_imul dX6_expand_66 ?_
        refine x_iload 0 dX6_expand_67 rfl ?_
        refine y_iadd dX6_expand_69 ?_
        refine x_iload_n 5 dX6_expand_70 rfl rfl ?_
        refine x_iload 0 dX6_expand_71 rfl ?_
        refine x_aload_n 3 dX6_expand_73 rfl rfl ?_
        refine x_getR fX6_35 dX6_expand_74 l74 rfl ?_
        refine x_getR fX6_85 dX6_expand_77 l45 rfl ?_
        refine x_iload_n 2 dX6_expand_80 rfl rfl ?_
        refine y_iald dX6_expand_81 l46 (by omega) (by decide) (x3.1 t ht) ?_
        refine x_isub dX6_expand_82 ?_
        refine x_getsS rfl dX6_expand_83 ?_
        refine x_iload_n 2 dX6_expand_86 rfl rfl ?_
        refine y_ti dX6_expand_87 (by omega) ?_
        rw [sev_n t (by omega)]
        refine x_imul dX6_expand_88 ?_
        refine x_iadd dX6_expand_89 ?_
        rw [nx_arith hO hok ht (by omega)]
        refine x_callVqv (as := [_, _, _]) (rest := []) vX6_91 (c_X6_meet (R := xpS I L e (bfs I L c0 e) (7 * t + k)) (i := e) (s := 7 * t + k) x4 x5 (Nat.lt_of_lt_of_le he hpr.1) hnx (by
            by_cases q : rIn (xpS I L e (bfs I L c0 e) (7 * t + k)) (nx I (rK (bfs I L c0 e) e) (7 * t + k))
            · exact Or.inl q
            · refine Or.inr ?_
              have e1 : rC (xpS I L e (bfs I L c0 e) (7 * t + k + 1)) = rC (xpS I L e (bfs I L c0 e) (7 * t + k)) + 1 := by
                rw [ex]
                unfold rch
                rw [e2_1 q]
                rfl
              omega) (by
            rw [(hpr.2 e he).2.2.2, ← ex, ← en]
            omega)) dX6_expand_90 l74 rfl rfl rfl (Nat.le_of_ble_eq_true rfl) (Nat.le_of_ble_eq_true rfl) (Nat.le_of_ble_eq_true rfl) (fun S_90 q_90 => ?_)
        obtain ⟨m1, m2, m3, m4⟩ := q_90
        rw [(hpr.2 e he).2.2.2, ← ex] at m3 m4
        rw [← en] at m4
        refine y_iinc (lv' := [(5, _), (4, _), (3, _), (0, _), (1, _), (2, _)]) 0 dX6_expand_93 rfl (by decide) rfl ?_
        refine x_goto 44 dX6_expand_96 (by decide) ?_
        refine x_pick (lv' := [(5, _), (4, _), (3, _), (0, _), (1, _), (2, _)]) [0, 1, 2, 3, 4, 5] rfl ?_
        exact ih (7 - (k + 1)) (by omega) (k + 1) S_90 rfl (by omega) ⟨x1.trans (m1.wider (fun a h => by omega)), fun b hb => (m2 b hb).trans (x2 b hb), x3.keep (fun a h1 h2 b => m1.2 a (by omega) b), m3, m4⟩

set_option maxHeartbeats 4000000 in
set_option maxRecDepth 100000 in
theorem lp_exp2 {S : St} {I : Isl} (hI : IsX 11 I S) (hO : IOK I) {L c0 e : Nat} (hL7 : L ≤ 6) (h0 : OKc I L c0) (hR : Roomy I L c0) (hx : SeX I L c0 e S) (he : e < rC (bfs I L c0 e))  : ∀ (t : Nat) (S1 : St), (t ≤ iM I) → (Fr (fun a => (46 ≤ a ∧ a ≤ 49) ∨ (68 ≤ a ∧ a ≤ 74) ∨ a = 76) S S1 ∧ (∀ b, ¬ b = 6 → S1.1 74 b = S.1 74 b) ∧ PlT 45 I (digF (rK (bfs I L c0 e) e)) S1 ∧ StX (xpS I L e (bfs I L c0 e) (7 * t)) S1 ∧ NrX (neS I L e (bfs I L c0 e) (nrB I L c0 e) (7 * t)) S1) → X 3 90 mX6_expand (qv (fun S' => Fr FS S S' ∧ SeX I L c0 (e + 1) S')) 20 [(3, .int (nI t)), (0, .ref 74), (1, .int (nI e)), (2, .int (nI ((rK (bfs I L c0 e) e))))] [] S1 := by
  intro t S1
  induction hm : iM I - t using Nat.strongRecOn generalizing t S1 with
  | _ mm ih =>
    intro ht hE
    have hO1 := hO.1
    have hO2 := hO.2.1
    have hO3 := hO.2.2.1
    have hO4 := hO.2.2.2.1
    have ha := hx.2.2.2.2.2.2.2
    have hiv := bfs_inv hO h0 e ha
    have hok := hiv.2.2.1 e he
    have hc16 := hok.lt hO
    have ha1 := alive_s ha he
    have hr1 := hR.1 (e + 1) ha1
    have hr2 := hR.2 (e + 1) ha1
    rw [bfs_s he] at hr1
    rw [nrB_s he] at hr2
    have he2 : e < 8525 := Nat.lt_of_lt_of_le he hx.1.2.1
    obtain ⟨x1, x2, x3, x4, x5⟩ := id hE
    have hI1 : IsX 11 I S1 := hI.keep (fun a h1 h2 b => x1.2 a (by omega) b)
    refine x_iload_n 0 dX6_expand_20 rfl rfl ?_
    refine x_aload_n 1 dX6_expand_21 rfl rfl ?_
    refine x_getR fX6_22 dX6_expand_22 l74 rfl ?_
    refine y_getI fX6_76 dX6_expand_25 l11 rfl hI1.2.1 ?_
    refine y_ic_ge 105 dX6_expand_28 (by decide) (by omega) (by omega) (fun c_28 => ?_) (fun c_28 => ?_)
    · obtain rfl : t = iM I := (by omega)
      refine x_aload_n 1 dX6_expand_105 rfl rfl ?_
      refine x_getR fX6_19 dX6_expand_106 l74 rfl ?_
      refine x_iload_n 2 dX6_expand_109 rfl rfl ?_
      refine x_aload_n 1 dX6_expand_110 rfl rfl ?_
      refine y_getI fX6_49 dX6_expand_111 l74 rfl x5.1 ?_
      refine y_iast dX6_expand_114 l77 (by omega) (by decide) ?_
      refine x_aload_n 1 dX6_expand_115 rfl rfl ?_
      refine x_iload_n 2 dX6_expand_116 rfl rfl ?_
      refine x_iconst (v := nI 1) dX6_expand_117 (by decide) ?_
      refine y_iadd dX6_expand_118 ?_
      refine x_putI pX6_46 dX6_expand_119 l74 rfl ?_
      refine x_vret rfl dX6_expand_122 (by
        rw [← bfs_s he] at x4
        rw [← nrB_s he] at x5
        obtain ⟨s1, s2, s3, s4, s5, s6, s7, s8⟩ := id hx
        rw [← nrB_s he]
        have k77 : ∀ b, ¬ b = e → (setI (setI S1 77 e (nI (nrB I L c0 (e + 1)).1)) 74 7 (nI (e + 1))).1 77 b = S.1 77 b := fun b hb => (rdI_k (by decide)).trans ((rdI_j hb).trans (x1.2 77 (by omega) b))
        refine ⟨rfl, ⟨x1.1, fun a ha b => (rdI_k (by unfold FS at ha; omega)).trans ((rdI_k (by unfold FS at ha; omega)).trans (x1.2 a (by unfold FS at ha; omega) b))⟩, x4.fr (fun a h1 h2 b => (rdI_k (by omega)).trans (rdI_k (by omega))), ⟨(rdI_j (by decide)).trans ((rdI_k (by decide)).trans x5.1), fun k hk => (rdI_k (by decide)).trans ((rdI_k (by decide)).trans (x5.2 k hk))⟩, fun i hi => ?_, rdI_eq, (rdI_k (by decide)).trans ((rdI_k (by decide)).trans ((x1.2 45 (by omega) 5).trans s5)), (rdI_j (by decide)).trans ((rdI_k (by decide)).trans ((x2 8 (by decide)).trans s6)), (rdI_j (by decide)).trans ((rdI_k (by decide)).trans ((x2 9 (by decide)).trans s7)), ha1⟩
        by_cases q : i = e
        · rw [q]; exact (rdI_k (by decide)).trans rdI_eq
        · exact (k77 i q).trans (s3 i (by omega)))
    · refine x_aload_n 1 dX6_expand_31 rfl rfl ?_
      refine x_getR fX6_35 dX6_expand_32 l74 rfl ?_
      refine x_iload_n 0 dX6_expand_35 rfl rfl ?_
      refine x_callVu (as := [_]) (rest := []) vX6_81 (c_X3_targets (Or.inr (Or.inr (Or.inl rfl))) hI1 hO x3 ((x1.2 45 (by omega) 5).trans hx.2.2.2.2.1) (by omega) (hok.2.ok hO) (hok.2.whom hO) (by omega)) dX6_expand_36 l45 rfl rfl rfl (Nat.le_of_ble_eq_true rfl) (Nat.le_of_ble_eq_true rfl) (Nat.le_of_ble_eq_true rfl) ?_
      refine x_istore (lv' := [(4, _), (3, _), (0, _), (1, _), (2, _)]) dX6_expand_39 (by decide) rfl ?_
      refine x_iconst (v := nI 0) dX6_expand_41 (by decide) ?_
      refine x_istore (lv' := [(5, _), (4, _), (3, _), (0, _), (1, _), (2, _)]) dX6_expand_42 (by decide) rfl ?_
      refine x_pick (lv' := [(5, _), (4, _), (3, _), (0, _), (1, _), (2, _)]) [0, 1, 2, 3, 4, 5] rfl ?_
      exact lp_exp1 hI hO hL7 h0 hR hx he (by omega) (fun S2 h2 => ih (iM I - (t + 1)) (by omega) (t + 1) S2 rfl (by omega) h2) 0 S1 (Nat.zero_le _) hE

set_option maxHeartbeats 4000000 in
set_option maxRecDepth 100000 in
theorem c_X6_expand {S : St} {I : Isl} (hI : IsX 11 I S) (hO : IOK I) {L c0 e : Nat} (hL7 : L ≤ 6) (h0 : OKc I L c0) (hR : Roomy I L c0) (hx : SeX I L c0 e S) (he : e < rC (bfs I L c0 e))  : C 3 90 yX6_expand mX6_expand [.ref 74, .int (nI e)] S (qv (fun S' => Fr FS S S' ∧ SeX I L c0 (e + 1) S')) := by
  have hO1 := hO.1
  have hO2 := hO.2.1
  have hO3 := hO.2.2.1
  have hO4 := hO.2.2.2.1
  have ha := hx.2.2.2.2.2.2.2
  have hiv := bfs_inv hO h0 e ha
  have hok := hiv.2.2.1 e he
  have hc16 := hok.lt hO
  have ha1 := alive_s ha he
  have hr1 := hR.1 (e + 1) ha1
  have hr2 := hR.2 (e + 1) ha1
  rw [bfs_s he] at hr1
  rw [nrB_s he] at hr2
  have he2 : e < 8525 := Nat.lt_of_lt_of_le he hx.1.2.1
  refine C.ofX (by decide) rfl (Nat.le_of_ble_eq_true rfl) ?_
  show X 3 90 mX6_expand (qv (fun S' => Fr FS S S' ∧ SeX I L c0 (e + 1) S')) 0 [(0, .ref 74), (1, .int (nI e))] [] S
  refine x_aload_n 0 dX6_expand_0 rfl rfl ?_
  refine x_getR fX6_26 dX6_expand_1 l74 rfl ?_
  refine x_getR fX6_70 dX6_expand_4 l68 rfl ?_
  refine x_iload_n 1 dX6_expand_7 rfl rfl ?_
  refine y_iald dX6_expand_8 l69 (by omega) (by decide) (hx.1.2.2.1 e he).1 ?_
  refine x_istore_n (lv' := [(2, _), (0, _), (1, _)]) dX6_expand_9 rfl (by decide) rfl ?_
  refine x_aload_n 1 dX6_expand_10 rfl rfl ?_
  refine x_getR fX6_35 dX6_expand_11 l74 rfl ?_
  refine x_iload_n 0 dX6_expand_14 rfl rfl ?_
  refine x_callVqv (as := [_]) (rest := []) vX6_73 (c_X3_decode (Or.inr (Or.inr (Or.inl rfl))) hI hO hc16 (hok.2.ok hO)) dX6_expand_15 l45 rfl rfl rfl (Nat.le_of_ble_eq_true rfl) (Nat.le_of_ble_eq_true rfl) (Nat.le_of_ble_eq_true rfl) (fun S_15 q_15 => ?_)
  refine x_iconst (v := nI 0) dX6_expand_18 (by decide) ?_
  refine x_istore_n (lv' := [(3, _), (2, _), (0, _), (1, _)]) dX6_expand_19 rfl (by decide) rfl ?_
  refine x_pick (lv' := [(3, _), (0, _), (1, _), (2, _)]) [0, 2, 3, 1] rfl ?_
  have f1 := q_15.1
  exact lp_exp2 hI hO hL7 h0 hR hx he 0 S_15 (Nat.zero_le _) ⟨f1.wider (fun a h => by omega), fun b hb => f1.2 74 (by omega) b, q_15.2, hx.1.fr (fun a h1 h2 b => f1.2 a (by omega) b), (f1.2 74 (by omega) 6).trans hx.2.1.1, fun k hk => (f1.2 76 (by omega) k).trans (hx.2.1.2 k hk)⟩

set_option maxHeartbeats 4000000 in
set_option maxRecDepth 100000 in
theorem lp_expTo {S : St} {I : Isl} (hI : IsX 11 I S) (hO : IOK I) {L c0 e0 : Nat} (hL7 : L ≤ 6) (h0 : OKc I L c0) (hR : Roomy I L c0) {k : Nat} (hk : k < 2000000) (hD : ∀ e j, alive I L c0 e → j < rC (bfs I L c0 e) → rD (bfs I L c0 e) j < 16807)  : ∀ (e : Nat) (S1 : St), (Fr FS S S1 ∧ SeX I L c0 e S1) → (e0 ≤ e) → X 4 120 mX6_expandTo (qv (fun S' => ∃ e, Fr FS S S' ∧ SeX I L c0 e S' ∧ e0 ≤ e ∧ (rC (bfs I L c0 e) = e ∨ (e < rC (bfs I L c0 e) ∧ k < rD (bfs I L c0 e) e)))) 5 [(2, .int (nI e)), (0, .ref 74), (1, .int (nI k))] [] S1 := by
  intro e S1
  induction hm : 8525 - e using Nat.strongRecOn generalizing e S1 with
  | _ mm ih =>
    intro hE he0
    have hO1 := hO.1
    have hO2 := hO.2.1
    have hO3 := hO.2.2.1
    have hO4 := hO.2.2.2.1
    obtain ⟨f1, f2⟩ := id hE
    have ha := f2.2.2.2.2.2.2.2
    have hrc := hR.1 e ha
    have hI1 : IsX 11 I S1 := hI.keep (fun a h1 h2 b => f1.2 a (by unfold FS; omega) b)
    have hdd := fun h => (f2.1.2.2.1 e h).2.2.2.1
    have hal := alive_le ha
    have hdk := hD e e ha
    refine x_iload_n 0 dX6_expandTo_5 rfl rfl ?_
    refine x_sipush (v := nI 8525) dX6_expandTo_6 (by decide +kernel) ?_
    refine y_ic_ge 47 dX6_expandTo_9 (by decide) (by omega) (by omega) (fun c_9 => ?_) (fun c_9 => ?_)
    · refine x_vret rfl dX6_expandTo_47 ⟨rfl, e, f1, f2, he0, by omega⟩
    · refine x_iload_n 0 dX6_expandTo_12 rfl rfl ?_
      refine x_aload_n 1 dX6_expandTo_13 rfl rfl ?_
      refine x_getR fX6_26 dX6_expandTo_14 l74 rfl ?_
      refine y_getI fX6_61 dX6_expandTo_17 l68 rfl f2.1.1 ?_
      refine y_ic_ge 47 dX6_expandTo_20 (by decide) (by omega) (by omega) (fun c_20 => ?_) (fun c_20 => ?_)
      · refine x_vret rfl dX6_expandTo_47 ⟨rfl, e, f1, f2, he0, by omega⟩
      · refine x_aload_n 1 dX6_expandTo_23 rfl rfl ?_
        refine x_getR fX6_26 dX6_expandTo_24 l74 rfl ?_
        refine x_getR fX6_64 dX6_expandTo_27 l68 rfl ?_
        refine x_iload_n 0 dX6_expandTo_30 rfl rfl ?_
        refine y_iald dX6_expandTo_31 l72 (by omega) (by decide) (hdd (by omega)) ?_
        refine x_iload_n 2 dX6_expandTo_32 rfl rfl ?_
        have hdk2 := hdk (by omega)
        refine y_ic_gt 47 dX6_expandTo_33 (by decide) (by omega) (by omega) (fun c_33 => ?_) (fun c_33 => ?_)
        · refine x_vret rfl dX6_expandTo_47 ⟨rfl, e, f1, f2, he0, by omega⟩
        · refine x_aload_n 1 dX6_expandTo_36 rfl rfl ?_
          refine x_iload_n 0 dX6_expandTo_37 rfl rfl ?_
          refine x_callVqv (as := [_]) (rest := []) vX6_67 (c_X6_expand hI1 hO hL7 h0 hR f2 (by omega)) dX6_expandTo_38 l74 rfl rfl rfl (Nat.le_of_ble_eq_true rfl) (Nat.le_of_ble_eq_true rfl) (Nat.le_of_ble_eq_true rfl) (fun S_38 q_38 => ?_)
          refine y_iinc (lv' := [(2, _), (0, _), (1, _)]) 0 dX6_expandTo_41 rfl (by decide) rfl ?_
          refine x_goto 5 dX6_expandTo_44 (by decide) ?_
          refine x_pick (lv' := [(2, _), (0, _), (1, _)]) [0, 1, 2] rfl ?_
          exact ih (8525 - (e + 1)) (by omega) (e + 1) S_38 rfl ⟨f1.trans q_38.1, q_38.2⟩ (by omega)

set_option maxHeartbeats 4000000 in
set_option maxRecDepth 100000 in
theorem c_X6_expandTo {S : St} {I : Isl} (hI : IsX 11 I S) (hO : IOK I) {L c0 e0 : Nat} (hL7 : L ≤ 6) (h0 : OKc I L c0) (hR : Roomy I L c0) (hx : SeX I L c0 e0 S) {k : Nat} (hk : k < 2000000) (hD : ∀ e j, alive I L c0 e → j < rC (bfs I L c0 e) → rD (bfs I L c0 e) j < 16807)  : C 4 120 yX6_expandTo mX6_expandTo [.ref 74, .int (nI k)] S (qv (fun S' => ∃ e, Fr FS S S' ∧ SeX I L c0 e S' ∧ e0 ≤ e ∧ (rC (bfs I L c0 e) = e ∨ (e < rC (bfs I L c0 e) ∧ k < rD (bfs I L c0 e) e)))) := by
  have hal0 := alive_le hx.2.2.2.2.2.2.2
  have hrc0 := hx.1.2.1
  refine C.ofX (by decide) rfl (Nat.le_of_ble_eq_true rfl) ?_
  show X 4 120 mX6_expandTo (qv (fun S' => ∃ e, Fr FS S S' ∧ SeX I L c0 e S' ∧ e0 ≤ e ∧ (rC (bfs I L c0 e) = e ∨ (e < rC (bfs I L c0 e) ∧ k < rD (bfs I L c0 e) e)))) 0 [(0, .ref 74), (1, .int (nI k))] [] S
  refine x_aload_n 0 dX6_expandTo_0 rfl rfl ?_
  refine y_getI fX6_46 dX6_expandTo_1 l74 rfl hx.2.2.2.1 ?_
  refine x_istore_n (lv' := [(2, _), (0, _), (1, _)]) dX6_expandTo_4 rfl (by decide) rfl ?_
  refine x_pick (lv' := [(2, _), (0, _), (1, _)]) [0, 1, 2] rfl ?_
  exact lp_expTo hI hO hL7 h0 hR hk hD e0 S ⟨Fr.refl, hx⟩ (Nat.le_refl _)

set_option maxHeartbeats 4000000 in
set_option maxRecDepth 100000 in
theorem lp_has {S : St} {I : Isl} (hI : IsX 11 I S) (hO : IOK I) {L c0 e0 : Nat} (hL7 : L ≤ 6) (h0 : OKc I L c0) (hR : Roomy I L c0) {i : Nat} (hi : i < 8525)  : ∀ (e : Nat) (S1 : St), (Fr FS S S1 ∧ SeX I L c0 e S1) → (e0 ≤ e) → X 4 120 mX6_has (qi (fun r S' => ∃ e, Fr FS S S' ∧ SeX I L c0 e S' ∧ e0 ≤ e ∧ ((r = nI 1 ∧ i < rC (bfs I L c0 e)) ∨ (r = nI 0 ∧ rC (bfs I L c0 e) ≤ i ∧ rC (bfs I L c0 e) = e)))) 5 [(2, .int (nI e)), (0, .ref 74), (1, .int (nI i))] [] S1 := by
  intro e S1
  induction hm : 8525 - e using Nat.strongRecOn generalizing e S1 with
  | _ mm ih =>
    intro hE he0
    have hO1 := hO.1
    have hO2 := hO.2.1
    have hO3 := hO.2.2.1
    have hO4 := hO.2.2.2.1
    obtain ⟨f1, f2⟩ := id hE
    have ha := f2.2.2.2.2.2.2.2
    have hrc := hR.1 e ha
    have hI1 : IsX 11 I S1 := hI.keep (fun a h1 h2 b => f1.2 a (by unfold FS; omega) b)
    have hdd := fun h => (f2.1.2.2.1 e h).2.2.2.1
    have hal := alive_le ha
    refine x_iload_n 0 dX6_has_5 rfl rfl ?_
    refine x_sipush (v := nI 8525) dX6_has_6 (by decide +kernel) ?_
    refine y_ic_ge 45 dX6_has_9 (by decide) (by omega) (by omega) (fun c_9 => ?_) (fun c_9 => ?_)
    · refine x_iload_n 2 dX6_has_45 rfl rfl ?_
      refine x_aload_n 1 dX6_has_46 rfl rfl ?_
      refine x_getR fX6_26 dX6_has_47 l74 rfl ?_
      refine y_getI fX6_61 dX6_has_50 l68 rfl f2.1.1 ?_
      refine y_ic_ge 60 dX6_has_53 (by decide) (by omega) (by omega) (fun c_53 => ?_) (fun c_53 => ?_)
      · refine x_iconst (v := nI 0) dX6_has_60 (by decide) ?_
        refine x_zret rfl dX6_has_61 (by decide) (by first | exact ⟨_, rfl, e, f1, f2, he0, Or.inl ⟨rfl, by omega⟩⟩ | exact ⟨_, rfl, e, f1, f2, he0, Or.inr ⟨rfl, by omega, by omega⟩⟩)
      · refine x_iconst (v := nI 1) dX6_has_56 (by decide) ?_
        refine x_goto 61 dX6_has_57 (by decide) ?_
        refine x_zret rfl dX6_has_61 (by decide) (by first | exact ⟨_, rfl, e, f1, f2, he0, Or.inl ⟨rfl, by omega⟩⟩ | exact ⟨_, rfl, e, f1, f2, he0, Or.inr ⟨rfl, by omega, by omega⟩⟩)
    · refine x_iload_n 0 dX6_has_12 rfl rfl ?_
      refine x_aload_n 1 dX6_has_13 rfl rfl ?_
      refine x_getR fX6_26 dX6_has_14 l74 rfl ?_
      refine y_getI fX6_61 dX6_has_17 l68 rfl f2.1.1 ?_
      refine y_ic_ge 45 dX6_has_20 (by decide) (by omega) (by omega) (fun c_20 => ?_) (fun c_20 => ?_)
      · refine x_iload_n 2 dX6_has_45 rfl rfl ?_
        refine x_aload_n 1 dX6_has_46 rfl rfl ?_
        refine x_getR fX6_26 dX6_has_47 l74 rfl ?_
        refine y_getI fX6_61 dX6_has_50 l68 rfl f2.1.1 ?_
        refine y_ic_ge 60 dX6_has_53 (by decide) (by omega) (by omega) (fun c_53 => ?_) (fun c_53 => ?_)
        · refine x_iconst (v := nI 0) dX6_has_60 (by decide) ?_
          refine x_zret rfl dX6_has_61 (by decide) (by first | exact ⟨_, rfl, e, f1, f2, he0, Or.inl ⟨rfl, by omega⟩⟩ | exact ⟨_, rfl, e, f1, f2, he0, Or.inr ⟨rfl, by omega, by omega⟩⟩)
        · refine x_iconst (v := nI 1) dX6_has_56 (by decide) ?_
          refine x_goto 61 dX6_has_57 (by decide) ?_
          refine x_zret rfl dX6_has_61 (by decide) (by first | exact ⟨_, rfl, e, f1, f2, he0, Or.inl ⟨rfl, by omega⟩⟩ | exact ⟨_, rfl, e, f1, f2, he0, Or.inr ⟨rfl, by omega, by omega⟩⟩)
      · refine x_iload_n 2 dX6_has_23 rfl rfl ?_
        refine x_aload_n 1 dX6_has_24 rfl rfl ?_
        refine x_getR fX6_26 dX6_has_25 l74 rfl ?_
        refine y_getI fX6_61 dX6_has_28 l68 rfl f2.1.1 ?_
        refine y_ic_lt 45 dX6_has_31 (by decide) (by omega) (by omega) (fun c_31 => ?_) (fun c_31 => ?_)
        · refine x_iload_n 2 dX6_has_45 rfl rfl ?_
          refine x_aload_n 1 dX6_has_46 rfl rfl ?_
          refine x_getR fX6_26 dX6_has_47 l74 rfl ?_
          refine y_getI fX6_61 dX6_has_50 l68 rfl f2.1.1 ?_
          refine y_ic_ge 60 dX6_has_53 (by decide) (by omega) (by omega) (fun c_53 => ?_) (fun c_53 => ?_)
          · refine x_iconst (v := nI 0) dX6_has_60 (by decide) ?_
            refine x_zret rfl dX6_has_61 (by decide) (by first | exact ⟨_, rfl, e, f1, f2, he0, Or.inl ⟨rfl, by omega⟩⟩ | exact ⟨_, rfl, e, f1, f2, he0, Or.inr ⟨rfl, by omega, by omega⟩⟩)
          · refine x_iconst (v := nI 1) dX6_has_56 (by decide) ?_
            refine x_goto 61 dX6_has_57 (by decide) ?_
            refine x_zret rfl dX6_has_61 (by decide) (by first | exact ⟨_, rfl, e, f1, f2, he0, Or.inl ⟨rfl, by omega⟩⟩ | exact ⟨_, rfl, e, f1, f2, he0, Or.inr ⟨rfl, by omega, by omega⟩⟩)
        · refine x_aload_n 1 dX6_has_34 rfl rfl ?_
          refine x_iload_n 0 dX6_has_35 rfl rfl ?_
          refine x_callVqv (as := [_]) (rest := []) vX6_67 (c_X6_expand hI1 hO hL7 h0 hR f2 (by omega)) dX6_has_36 l74 rfl rfl rfl (Nat.le_of_ble_eq_true rfl) (Nat.le_of_ble_eq_true rfl) (Nat.le_of_ble_eq_true rfl) (fun S_36 q_36 => ?_)
          refine y_iinc (lv' := [(2, _), (0, _), (1, _)]) 0 dX6_has_39 rfl (by decide) rfl ?_
          refine x_goto 5 dX6_has_42 (by decide) ?_
          refine x_pick (lv' := [(2, _), (0, _), (1, _)]) [0, 1, 2] rfl ?_
          exact ih (8525 - (e + 1)) (by omega) (e + 1) S_36 rfl ⟨f1.trans q_36.1, q_36.2⟩ (by omega)

set_option maxHeartbeats 4000000 in
set_option maxRecDepth 100000 in
theorem c_X6_has {S : St} {I : Isl} (hI : IsX 11 I S) (hO : IOK I) {L c0 e0 : Nat} (hL7 : L ≤ 6) (h0 : OKc I L c0) (hR : Roomy I L c0) (hx : SeX I L c0 e0 S) {i : Nat} (hi : i < 8525)  : C 4 120 yX6_has mX6_has [.ref 74, .int (nI i)] S (qi (fun r S' => ∃ e, Fr FS S S' ∧ SeX I L c0 e S' ∧ e0 ≤ e ∧ ((r = nI 1 ∧ i < rC (bfs I L c0 e)) ∨ (r = nI 0 ∧ rC (bfs I L c0 e) ≤ i ∧ rC (bfs I L c0 e) = e)))) := by
  have hal0 := alive_le hx.2.2.2.2.2.2.2
  have hrc0 := hx.1.2.1
  refine C.ofX (by decide) rfl (Nat.le_of_ble_eq_true rfl) ?_
  show X 4 120 mX6_has (qi (fun r S' => ∃ e, Fr FS S S' ∧ SeX I L c0 e S' ∧ e0 ≤ e ∧ ((r = nI 1 ∧ i < rC (bfs I L c0 e)) ∨ (r = nI 0 ∧ rC (bfs I L c0 e) ≤ i ∧ rC (bfs I L c0 e) = e)))) 0 [(0, .ref 74), (1, .int (nI i))] [] S
  refine x_aload_n 0 dX6_has_0 rfl rfl ?_
  refine y_getI fX6_46 dX6_has_1 l74 rfl hx.2.2.2.1 ?_
  refine x_istore_n (lv' := [(2, _), (0, _), (1, _)]) dX6_has_4 rfl (by decide) rfl ?_
  refine x_pick (lv' := [(2, _), (0, _), (1, _)]) [0, 1, 2] rfl ?_
  exact lp_has hI hO hL7 h0 hR hi e0 S ⟨Fr.refl, hx⟩ (Nat.le_refl _)

/-- the search as it may stand between calls: nothing yet, spoilt, or so far from somewhere -/
def SrX (I : Isl) (S : St) : Prop := (∃ R, StX R S) ∧ (S.1 74 9 = nI 0 ∨ ∃ L c0 e, (1 ≤ L ∧ L ≤ 6) ∧ OKc I L c0 ∧ SeX I L c0 e S)
theorem SeX.start {I : Isl} {L c0 : Nat} {S : St} (h1 : StX (r0 c0) S) (h2 : S.1 74 6 = nI 0) (h3 : S.1 74 7 = nI 0) (h4 : S.1 45 5 = nI L) (h5 : S.1 74 8 = nI c0) (h6 : S.1 74 9 = nI L) : SeX I L c0 0 S :=
  ⟨h1, ⟨h2, fun k hk => absurd hk (Nat.not_lt_zero k)⟩, fun i hi => absurd hi (Nat.not_lt_zero i), h3, h4, h5, h6, fun e' h => absurd h (Nat.not_lt_zero e')⟩

set_option maxHeartbeats 4000000 in
set_option maxRecDepth 100000 in
theorem c_begin_1 {S : St} {I : Isl} (hI : IsX 11 I S) (hO : IOK I) {L c : Nat} (hL1 : 1 ≤ L) (hL7 : L ≤ 6) (h0 : OKc I L c) {R : Rs} (hR : StX R S) {sl sc : Nat} (hsl : S.1 74 9 = nI sl) (hsl6 : sl ≤ 6) (hsc : ¬ sl = 0 → S.1 74 8 = nI sc ∧ sc < 16807 ∧ ∃ e, SeX I sl sc e S) : C 2 60 yX6_begin mX6_begin [.ref 74, .int (nI c), .int (nI L)] S (qv (fun S' => Fr FS S S' ∧ ∃ e, SeX I L c e S')) := by
  have hc16 := h0.lt hO
  refine C.ofX (by decide) rfl (Nat.le_of_ble_eq_true rfl) ?_
  show X 2 60 mX6_begin (qv (fun S' => Fr FS S S' ∧ ∃ e, SeX I L c e S')) 0 [(0, .ref 74), (1, .int (nI c)), (2, .int (nI L))] [] S
  refine x_aload_n 0 dX6_begin_0 rfl rfl ?_
  refine y_getI fX6_39 dX6_begin_1 l74 rfl hsl ?_
  refine x_iload_n 2 dX6_begin_4 rfl rfl ?_
  refine y_ic_ne 17 dX6_begin_5 (by decide) (by omega) (by omega) (fun c_5 => ?_) (fun c_5 => ?_)
  · refine x_aload_n 0 dX6_begin_17 rfl rfl ?_
    refine x_iload_n 1 dX6_begin_18 rfl rfl ?_
    refine x_putI pX6_43 dX6_begin_19 l74 rfl ?_
    refine x_aload_n 0 dX6_begin_22 rfl rfl ?_
    refine x_iload_n 2 dX6_begin_23 rfl rfl ?_
    refine x_putI pX6_39 dX6_begin_24 l74 rfl ?_
    refine x_aload_n 0 dX6_begin_27 rfl rfl ?_
    refine x_iconst (v := nI 0) dX6_begin_28 (by decide) ?_
    refine x_putI pX6_46 dX6_begin_29 l74 rfl ?_
    refine x_aload_n 0 dX6_begin_32 rfl rfl ?_
    refine x_iconst (v := nI 0) dX6_begin_33 (by decide) ?_
    refine x_putI pX6_49 dX6_begin_34 l74 rfl ?_
    refine x_aload_n 0 dX6_begin_37 rfl rfl ?_
    refine x_getR fX6_35 dX6_begin_38 l74 rfl ?_
    refine x_iload_n 2 dX6_begin_41 rfl rfl ?_
    refine x_putI pX6_52 dX6_begin_42 l45 rfl ?_
    refine x_aload_n 0 dX6_begin_45 rfl rfl ?_
    refine x_getR fX6_26 dX6_begin_46 l74 rfl ?_
    refine x_iload_n 1 dX6_begin_49 rfl rfl ?_
    refine x_callVqv (as := [_]) (rest := []) vX6_55 (c_X7_begin (hR.fr (fun a h1 h2 b => (rdI_k (by omega)).trans ((rdI_k (by omega)).trans ((rdI_k (by omega)).trans ((rdI_k (by omega)).trans (rdI_k (by omega))))))) hc16) dX6_begin_50 l68 rfl rfl rfl (Nat.le_of_ble_eq_true rfl) (Nat.le_of_ble_eq_true rfl) (Nat.le_of_ble_eq_true rfl) (fun S_50 q_50 => ?_)
    obtain ⟨f1, f2⟩ := q_50
    refine x_vret rfl dX6_begin_53 (by
      refine ⟨rfl, ⟨f1.1, fun a ha b => ?_⟩, 0, SeX.start f2 ?_ ?_ ?_ ?_ ?_⟩
      · unfold FS at ha
        rw [f1.2 a (by omega) b, rdI_k (by omega), rdI_k (by omega), rdI_k (by omega), rdI_k (by omega), rdI_k (by omega)]
      · rw [f1.2 74 (by omega) 6, rdI_k (by decide), rdI_eq]
      · rw [f1.2 74 (by omega) 7, rdI_k (by decide), rdI_j (by decide), rdI_eq]
      · rw [f1.2 45 (by omega) 5, rdI_eq]
      · rw [f1.2 74 (by omega) 8, rdI_k (by decide), rdI_j (by decide), rdI_j (by decide), rdI_j (by decide), rdI_eq]
      · rw [f1.2 74 (by omega) 9, rdI_k (by decide), rdI_j (by decide), rdI_j (by decide), rdI_eq])
  · refine x_aload_n 0 dX6_begin_8 rfl rfl ?_
    refine y_getI fX6_43 dX6_begin_9 l74 rfl (hsc (by omega)).1 ?_
    have hsc2 := (hsc (by omega)).2.1
    refine x_iload_n 1 dX6_begin_12 rfl rfl ?_
    refine y_ic_ne 17 dX6_begin_13 (by decide) (by omega) (by omega) (fun c_13 => ?_) (fun c_13 => ?_)
    · refine x_aload_n 0 dX6_begin_17 rfl rfl ?_
      refine x_iload_n 1 dX6_begin_18 rfl rfl ?_
      refine x_putI pX6_43 dX6_begin_19 l74 rfl ?_
      refine x_aload_n 0 dX6_begin_22 rfl rfl ?_
      refine x_iload_n 2 dX6_begin_23 rfl rfl ?_
      refine x_putI pX6_39 dX6_begin_24 l74 rfl ?_
      refine x_aload_n 0 dX6_begin_27 rfl rfl ?_
      refine x_iconst (v := nI 0) dX6_begin_28 (by decide) ?_
      refine x_putI pX6_46 dX6_begin_29 l74 rfl ?_
      refine x_aload_n 0 dX6_begin_32 rfl rfl ?_
      refine x_iconst (v := nI 0) dX6_begin_33 (by decide) ?_
      refine x_putI pX6_49 dX6_begin_34 l74 rfl ?_
      refine x_aload_n 0 dX6_begin_37 rfl rfl ?_
      refine x_getR fX6_35 dX6_begin_38 l74 rfl ?_
      refine x_iload_n 2 dX6_begin_41 rfl rfl ?_
      refine x_putI pX6_52 dX6_begin_42 l45 rfl ?_
      refine x_aload_n 0 dX6_begin_45 rfl rfl ?_
      refine x_getR fX6_26 dX6_begin_46 l74 rfl ?_
      refine x_iload_n 1 dX6_begin_49 rfl rfl ?_
      refine x_callVqv (as := [_]) (rest := []) vX6_55 (c_X7_begin (hR.fr (fun a h1 h2 b => (rdI_k (by omega)).trans ((rdI_k (by omega)).trans ((rdI_k (by omega)).trans ((rdI_k (by omega)).trans (rdI_k (by omega))))))) hc16) dX6_begin_50 l68 rfl rfl rfl (Nat.le_of_ble_eq_true rfl) (Nat.le_of_ble_eq_true rfl) (Nat.le_of_ble_eq_true rfl) (fun S_50 q_50 => ?_)
      obtain ⟨f1, f2⟩ := q_50
      refine x_vret rfl dX6_begin_53 (by
        refine ⟨rfl, ⟨f1.1, fun a ha b => ?_⟩, 0, SeX.start f2 ?_ ?_ ?_ ?_ ?_⟩
        · unfold FS at ha
          rw [f1.2 a (by omega) b, rdI_k (by omega), rdI_k (by omega), rdI_k (by omega), rdI_k (by omega), rdI_k (by omega)]
        · rw [f1.2 74 (by omega) 6, rdI_k (by decide), rdI_eq]
        · rw [f1.2 74 (by omega) 7, rdI_k (by decide), rdI_j (by decide), rdI_eq]
        · rw [f1.2 45 (by omega) 5, rdI_eq]
        · rw [f1.2 74 (by omega) 8, rdI_k (by decide), rdI_j (by decide), rdI_j (by decide), rdI_j (by decide), rdI_eq]
        · rw [f1.2 74 (by omega) 9, rdI_k (by decide), rdI_j (by decide), rdI_j (by decide), rdI_eq])
    · refine x_vret rfl dX6_begin_16 ⟨rfl, Fr.refl, by obtain ⟨_, _, e, he⟩ := hsc (by omega); rw [← c_5, ← c_13]; exact ⟨e, he⟩⟩

theorem c_X6_begin {S : St} {I : Isl} (hI : IsX 11 I S) (hO : IOK I) {L c : Nat} (hL1 : 1 ≤ L) (hL7 : L ≤ 6) (h0 : OKc I L c) (hs : SrX I S) : C 2 60 yX6_begin mX6_begin [.ref 74, .int (nI c), .int (nI L)] S (qv (fun S' => Fr FS S S' ∧ ∃ e, SeX I L c e S')) := by
  obtain ⟨⟨R, hR⟩, h | ⟨L1, c1, e, hL, ho, hx⟩⟩ := hs
  · exact c_begin_1 hI hO hL1 hL7 h0 hR (sl := 0) (sc := 0) h (by decide) (fun q => absurd rfl q)
  · exact c_begin_1 hI hO hL1 hL7 h0 hR (sl := L1) (sc := c1) hx.2.2.2.2.2.2.1 hL.2 (fun _ => ⟨hx.2.2.2.2.2.1, ho.lt hO, e, hx⟩)

