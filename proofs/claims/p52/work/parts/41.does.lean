/-! ===== a step keeps what can be ===== -/
theorem sm_up {f g : Nat → Nat} {t : Nat} (h : ∀ i, ¬ i = t → f i = g i) : ∀ {n : Nat}, t < n → sm f n + g t = sm g n + f t
  | 0, ht => absurd ht (Nat.not_lt_zero t)
  | n + 1, ht => by
    rw [sm_s, sm_s]
    by_cases hn : t = n
    · subst hn
      have e : sm f t = sm g t := sm_congr fun i hi => h i (by omega)
      omega
    · have ih := sm_up h (n := n) (by omega)
      have e := h n (fun q => hn q.symm)
      omega
theorem upW_eq (w : Nat → Nat) (t to : Nat) : upW w t to t = to := if_pos rfl
theorem upW_ne {w : Nat → Nat} {t to i : Nat} (h : ¬ i = t) : upW w t to i = w i := if_neg h
theorem load_up {I : Isl} {w : Nat → Nat} {t to : Nat} (ht : t < iM I) (p : Nat) : loadF I (upW w t to) p + (if w t = p then wt (iK I t) else 0) = loadF I w p + (if to = p then wt (iK I t) else 0) := by
  have h := sm_up (f := fun i => if upW w t to i = p then wt (iK I i) else 0) (g := fun i => if w i = p then wt (iK I i) else 0) (t := t) (fun i hi => by rw [upW_ne hi]) ht

  rw [upW_eq] at h
  exact h
theorem ins_up {I : Isl} {w : Nat → Nat} {t to : Nat} (ht : t < iM I) (b : Nat) : insF I (upW w t to) b + (if w t = 5 + b then 1 else 0) = insF I w b + (if to = 5 + b then 1 else 0) := by
  have h := sm_up (f := fun i => if upW w t to i = 5 + b then 1 else 0) (g := fun i => if w i = 5 + b then 1 else 0) (t := t) (fun i hi => by rw [upW_ne hi]) ht

  rw [upW_eq] at h
  exact h
theorem VS_step {I : Isl} {w : Nat → Nat} {L t to : Nat} (hO : IOK I) (hv : VS I w L) (ht : t < iM I) (hm : mayF I w L t to) : VS I (upW w t to) L := by
  obtain ⟨hp, hne, hc⟩ := hm
  have hwt := hv.1 t ht
  have hwh := whomF_le (hv.ok hO) ht
  have hP := hO.1
  have hto : 5 ≤ to → w t < 5 ∧ ¬ bagK (iK I t) ∧ ¬ livK (iK I t) ∧ insF I w (to - 5) < rm (iK I (iG I (to - 5))) := by
    intro h
    by_cases h5 : 5 ≤ w t
    · rw [if_pos h5] at hc; omega
    · rw [if_neg h5, if_pos h] at hc
      exact ⟨by omega, hc.1, hc.2.1, hc.2.2.2⟩
  have hliv : livK (iK I t) → to < 4 := by
    intro hl
    have := hwt.2.1 hl
    rw [if_neg (by omega)] at hc
    by_cases h5 : 5 ≤ to
    · exact absurd hl (hto h5).2.2.1
    · rw [if_neg h5] at hc
      by_cases h4 : to = 4
      · rw [if_pos h4] at hc; exact absurd hl hc
      · omega
  have hfit : to < 4 → loadF I w to + wt (iK I t) ≤ L := by
    intro h
    by_cases h5 : 5 ≤ w t
    · rw [if_pos h5] at hc
      have := hc.2
      unfold fitF at this
      omega
    · rw [if_neg h5, if_neg (by omega), if_neg (by omega)] at hc
      unfold fitF at hc
      omega
  refine ⟨fun u hu => ?_, fun b hb => ?_, fun p hpp => ?_⟩
  · by_cases hut : u = t
    · subst hut
      rw [upW_eq]
      refine ⟨hp, hliv, fun hb => ?_⟩
      by_cases h5 : 5 ≤ to
      · exact absurd hb (hto h5).2.1
      · omega
    · rw [upW_ne hut]
      exact hv.1 u hu
  · have h := ins_up (I := I) (w := w) (to := to) ht b
    have hb2 := hv.2.1 b hb
    by_cases hb5 : to = 5 + b
    · have h6 := (hto (by omega)).2.2.2
      rw [show to - 5 = b by omega] at h6
      rw [if_pos hb5] at h
      by_cases q : w t = 5 + b
      · omega
      · rw [if_neg q] at h; omega
    · rw [if_neg hb5] at h
      omega
  · have h := load_up (I := I) (w := w) (to := to) ht p
    have h2 := hv.2.2 p hpp
    by_cases hpt : to = p
    · rw [if_pos hpt] at h
      have := hfit (by omega)
      rw [hpt] at this
      omega
    · rw [if_neg hpt] at h
      omega
/-! ===== does ===== -/
def numOK (I : Isl) (x : Int32) : Prop := 0 ≤ x.toInt ∧ x.toInt.toNat / 7 < iM I ∧ plcF I (x.toInt.toNat % 7)
/-- the states that a row's steps lead to -/
def stD (w : Nat → Nat) (v : Nat → Nat) : Nat → Nat → Nat
  | 0 => w
  | k + 1 => upW (stD w v k) (v k / 7) (v k % 7)
def goesD (I : Isl) (L : Nat) (w v : Nat → Nat) (k : Nat) : Prop := ∀ j, j < k → mayF I (stD w v j) L (v j / 7) (v j % 7)
/-- how many of a row's n steps go -/
def howD (I : Isl) (L : Nat) (w v : Nat → Nat) (n k : Nat) : Prop := k ≤ n ∧ goesD I L w v k ∧ (k = n ∨ ¬ mayF I (stD w v k) L (v k / 7) (v k % 7))
theorem howD_one {I : Isl} {L : Nat} {w v : Nat → Nat} {n k k' : Nat} (h : howD I L w v n k) (h' : howD I L w v n k') : k = k' := by
  rcases Nat.lt_trichotomy k k' with q | q | q
  · rcases h.2.2 with e | e
    · have := h'.1; omega
    · exact absurd (h'.2.1 k q) e
  · exact q
  · rcases h'.2.2 with e | e
    · have := h.1; omega
    · exact absurd (h.2.1 k' q) e
theorem stD_VS {I : Isl} {L : Nat} {w v : Nat → Nat} (hO : IOK I) (hv : VS I w L) : ∀ {k : Nat}, goesD I L w v k → (∀ j, j < k → v j / 7 < iM I) → VS I (stD w v k) L
  | 0, _, _ => hv
  | k + 1, hg, hm => VS_step hO (stD_VS hO hv (fun j hj => hg j (by omega)) (fun j hj => hm j (by omega))) (hm k (by omega)) (hg k (by omega))
/-- the class behind k of them, d having been done before -/
def DoX (I : Isl) (S S' : St) (d k : Nat) (w v : Nat → Nat) : Prop := Fr (fun a => (36 ≤ a ∧ a ≤ 39) ∨ (60 ≤ a ∧ a ≤ 62)) S S' ∧ PlT 35 I (stD w v k) S' ∧ S'.1 60 0 = nI (d + k) ∧
  (∀ i, i < d → S'.1 61 i = S.1 61 i ∧ S'.1 62 i = S.1 62 i) ∧ ∀ j, j < k → S'.1 61 (d + j) = nI (v j / 7) ∧ S'.1 62 (d + j) = nI (stD w v j (v j / 7))
theorem DoX.step {I : Isl} {S S1 S2 : St} {d k : Nat} {w v : Nat → Nat} (h : DoX I S S1 d k w v) (h2 : pvT (dnS S1 (v k / 7) (stD w v k (v k / 7)) (d + k)) 35 I (upW (stD w v k) (v k / 7) (v k % 7)) none S2) : DoX I S S2 d (k + 1) w v := by
  obtain ⟨h1, h3, h4, h5, h6⟩ := h
  obtain ⟨_, hf, hp⟩ := h2
  have e60 : S2.1 60 0 = nI (d + k + 1) := (hf.2 60 (by omega) 0).trans rdI_eq
  have e61 : ∀ i, ¬ i = d + k → S2.1 61 i = S1.1 61 i := fun i hi => (hf.2 61 (by omega) i).trans ((rdI_k (by decide)).trans ((rdI_k (by decide)).trans (rdI_j hi)))
  have e62 : ∀ i, ¬ i = d + k → S2.1 62 i = S1.1 62 i := fun i hi => (hf.2 62 (by omega) i).trans ((rdI_k (by decide)).trans ((rdI_j hi).trans (rdI_k (by decide))))
  refine ⟨h1.trans ⟨hf.1, fun a ha b => (hf.2 a (by omega) b).trans (dnS_k (by omega))⟩, hp, e60, fun i hi => ⟨(e61 i (by omega)).trans (h5 i hi).1, (e62 i (by omega)).trans (h5 i hi).2⟩, fun j hj => ?_⟩
  rcases Nat.lt_succ_iff_lt_or_eq.mp hj with q | q
  · exact ⟨(e61 _ (by omega)).trans (h6 j q).1, (e62 _ (by omega)).trans (h6 j q).2⟩
  · subst q
    exact ⟨(hf.2 61 (by omega) _).trans ((rdI_k (by decide)).trans ((rdI_k (by decide)).trans rdI_eq)), (hf.2 62 (by omega) _).trans ((rdI_k (by decide)).trans rdI_eq)⟩
theorem DoX.zero {I : Isl} {S : St} {d : Nat} {w v : Nat → Nat} (hP : PlT 35 I w S) (h0 : S.1 60 0 = nI d) : DoX I S S d 0 w v := ⟨Fr.refl, hP, h0, fun i _ => ⟨rfl, rfl⟩, fun j hj => absurd hj (Nat.not_lt_zero j)⟩
theorem numOK_n {I : Isl} (hO : IOK I) {x : Int32} (h : numOK I x) : x = nI (tn x) ∧ tn x / 7 < iM I ∧ tn x % 7 < 7 ∧ tn x < 100 := by
  obtain ⟨h0, h1, h2⟩ := h
  have := hO.2.1
  exact ⟨nI_of_int (by unfold tn; omega), h1, Nat.mod_lt _ (by decide), by unfold tn; omega⟩

set_option maxHeartbeats 4000000 in
set_option maxRecDepth 100000 in
theorem lp_doesX {S : St} {I : Isl} (hI : IsX 11 I S) (hO : IOK I) {w : Nat → Nat} {L : Nat} (hL : S.1 35 5 = nI L) (hL7 : L ≤ 6) (hv : VS I w L) (hS : RwS 3 6 60 S) {d z : Nat} (hd : d + z ≤ 40) {a : Nat} (ha : a < 6) (ez : S.1 4 a = nI z) (hn : ∀ j, j < z → numOK I (S.1 5 (a * 60 + j)))  : ∀ (k : Nat) (S1 : St), (k ≤ z) → (goesD I L w (fun j => tn (S.1 5 (a * 60 + j))) k) → (DoX I S S1 d k w (fun j => tn (S.1 5 (a * 60 + j)))) → X 5 150 mX10_does (qi (fun r S' => ∃ k, r = nI k ∧ howD I L w (fun j => tn (S.1 5 (a * 60 + j))) z k ∧ DoX I S S' d k w (fun j => tn (S.1 5 (a * 60 + j))))) 102 [(3, .int (nI k)), (2, .int (nI z)), (0, .ref 0), (1, .int (nI a))] [] S1 := by
  intro k S1
  induction hm : z - k using Nat.strongRecOn generalizing k S1 with
  | _ mm ih =>
    intro hk hg hD
    have hO1 := hO.1
    have hO2 := hO.2.1
    have hO3 := hO.2.2.1
    have hO4 := hO.2.2.2.1
    obtain ⟨d1, d2, d3, d4, d5⟩ := id hD
    have hI1 : IsX 11 I S1 := hI.keep (fun c h1 h2 b => d1.2 c (by omega) b)
    have hvk := stD_VS hO hv hg (fun j hj => (numOK_n hO (hn j (by omega))).2.1)
    have hwk := hvk.ok hO
    have hnk := fun h => numOK_n hO (hn k h)
    refine x_iload_n 0 dX10_does_102 rfl rfl ?_
    refine x_iload_n 1 dX10_does_103 rfl rfl ?_
    refine y_ic_ge 160 dX10_does_104 (by decide) (by omega) (by omega) (fun c_104 => ?_) (fun c_104 => ?_)
    · refine x_iload_n 1 dX10_does_160 rfl rfl ?_
      refine x_iret rfl dX10_does_161 (by obtain rfl : k = z := (by omega); exact ⟨_, rfl, k, rfl, ⟨hk, hg, Or.inl rfl⟩, hD⟩)
    · obtain ⟨n1, n2, n3, n4⟩ := hnk (by omega)
      refine x_aload_n 2 dX10_does_107 rfl rfl ?_
      refine x_getR fX10_21 dX10_does_108 l0 rfl ?_
      refine x_iload_n 3 dX10_does_111 rfl rfl ?_
      refine x_iload_n 0 dX10_does_112 rfl rfl ?_
      refine x_callVu (as := [_, _]) (rest := []) vX10_124 (c_getR ((d1.2 3 (by omega) 0).trans hS.1) ha ((d1.2 4 (by omega) a).trans ez) (by omega) (by omega) ((d1.2 5 (by omega) _).trans n1)) dX10_does_113 l3 rfl rfl rfl (Nat.le_of_ble_eq_true rfl) (Nat.le_of_ble_eq_true rfl) (Nat.le_of_ble_eq_true rfl) ?_
      refine x_istore (lv' := [(4, _), (3, _), (2, _), (0, _), (1, _)]) dX10_does_116 (by decide) rfl ?_
      refine x_aload_n 3 dX10_does_118 rfl rfl ?_
      refine x_getR fX10_49 dX10_does_119 l0 rfl ?_
      refine x_iload 0 dX10_does_122 rfl ?_
      refine x_bipush (v := nI 7) dX10_does_124 (by decide) ?_
      refine y_idiv dX10_does_126 (by omega) (by omega) (by omega) ?_
      refine x_iload 0 dX10_does_127 rfl ?_
      refine x_bipush (v := nI 7) dX10_does_129 (by decide) ?_
      refine y_irem dX10_does_131 (by omega) (by omega) (by omega) ?_
      refine x_callVb (as := [_, _]) (rest := []) vX10_237 (c_X3_allows (Or.inl rfl) hI1 hO d2 ((d1.2 35 (by omega) 5).trans hL) (by omega) hwk (hvk.whom hO) n2 n3) dX10_does_132 l35 rfl rfl rfl (Nat.le_of_ble_eq_true rfl) (Nat.le_of_ble_eq_true rfl) (Nat.le_of_ble_eq_true rfl) (fun c_132 => ?_) (fun c_132 => ?_)
      · refine t_if_ne 140 dX10_does_135 (by decide) (by decide) ?_
        refine x_aload_n 3 dX10_does_140 rfl rfl ?_
        refine x_iload 0 dX10_does_141 rfl ?_
        refine x_bipush (v := nI 7) dX10_does_143 (by decide) ?_
        refine y_idiv dX10_does_145 (by omega) (by omega) (by omega) ?_
        refine x_iload 0 dX10_does_146 rfl ?_
        refine x_bipush (v := nI 7) dX10_does_148 (by decide) ?_
        refine y_irem dX10_does_150 (by omega) (by omega) (by omega) ?_
        refine x_callVqv (as := [_, _]) (rest := []) vX10_244 (c_X10_doStep hI1 hO d2 d3 (by omega) n2 c_132.1 ((VS_step hO hvk n2 c_132).ok hO)) dX10_does_151 l0 rfl rfl rfl (Nat.le_of_ble_eq_true rfl) (Nat.le_of_ble_eq_true rfl) (Nat.le_of_ble_eq_true rfl) (fun S_151 q_151 => ?_)
        refine y_iinc (lv' := [(3, _), (4, _), (2, _), (0, _), (1, _)]) 1 dX10_does_154 rfl (by decide) rfl ?_
        refine x_goto 102 dX10_does_157 (by decide) ?_
        refine x_pick (lv' := [(3, _), (2, _), (0, _), (1, _)]) [0, 2, 3, 4] rfl ?_
        exact ih (z - (k + 1)) (by omega) (k + 1) S_151 rfl (by omega) (fun j hj => by rcases Nat.lt_succ_iff_lt_or_eq.mp hj with h | h; exact hg j h; subst h; exact c_132) (hD.step ⟨rfl, q_151⟩)
      · refine u_if_ne 140 dX10_does_135 (by decide) (by decide) ?_
        refine x_iload_n 1 dX10_does_138 rfl rfl ?_
        refine x_iret rfl dX10_does_139 ⟨_, rfl, k, rfl, ⟨hk, hg, Or.inr c_132⟩, hD⟩

set_option maxHeartbeats 4000000 in
set_option maxRecDepth 100000 in
theorem lp_doesX0 {S : St} {I : Isl} (hI : IsX 11 I S) (hO : IOK I) {w : Nat → Nat} (hP : PlT 35 I w S) {L : Nat} (hL : S.1 35 5 = nI L) (hL7 : L ≤ 6) (hv : VS I w L) (hS : RwS 3 6 60 S) {d : Nat} (h0 : S.1 60 0 = nI d) (hd : d ≤ 40) {a z : Nat} (ha : a < 6) (ez : S.1 4 a = nI z) (hz : z ≤ 60)  : ∀ (k : Nat), (k ≤ z) → (∀ j, j < k → numOK I (S.1 5 (a * 60 + j))) → X 5 150 mX10_does (qi (i2 (¬ ∀ j, j < z → numOK I (S.1 5 (a * 60 + j))) (an (-3) (fndS S 3)) (i2 (40 < d + z) (an (-2) S) (fun r S' => ∃ k, r = nI k ∧ howD I L w (fun j => tn (S.1 5 (a * 60 + j))) z k ∧ DoX I S S' d k w (fun j => tn (S.1 5 (a * 60 + j))))))) 44 [(3, .int (nI k)), (2, .int (nI z)), (0, .ref 0), (1, .int (nI a))] [] S := by
  intro k
  induction hm : z - k using Nat.strongRecOn generalizing k with
  | _ mm ih =>
    intro hk hx
    have hO1 := hO.1
    have hO2 := hO.2.1
    have hO3 := hO.2.2.1
    have hO4 := hO.2.2.2.1
    have hw := hv.ok hO
    have hw7 := hw.w7 hO
    refine x_iload_n 0 dX10_does_44 rfl rfl ?_
    refine x_iload_n 1 dX10_does_45 rfl rfl ?_
    refine y_ic_ge 83 dX10_does_46 (by decide) (by omega) (by omega) (fun c_46 => ?_) (fun c_46 => ?_)
    · have hall : ∀ j, j < z → numOK I (S.1 5 (a * 60 + j)) := fun j hj => hx j (by omega)
      refine x_aload_n 2 dX10_does_83 rfl rfl ?_
      refine x_getR fX10_61 dX10_does_84 l0 rfl ?_
      refine y_getI fX10_163 dX10_does_87 l60 rfl h0 ?_
      refine x_iload_n 1 dX10_does_90 rfl rfl ?_
      refine y_iadd dX10_does_91 ?_
      refine x_bipush (v := nI 40) dX10_does_92 (by decide) ?_
      refine y_ic_le 100 dX10_does_94 (by decide) (by omega) (by omega) (fun c_94 => ?_) (fun c_94 => ?_)
      · refine x_iconst (v := nI 0) dX10_does_100 (by decide) ?_
        refine x_istore_n (lv' := [(3, _), (2, _), (0, _), (1, _)]) dX10_does_101 rfl (by decide) rfl ?_
        refine x_pick (lv' := [(3, _), (2, _), (0, _), (1, _)]) [0, 1, 2, 3] rfl ?_
        refine (lp_doesX hI hO hL hL7 hv hS (d := d) (z := z) (by omega) ha ez hall 0 S (Nat.zero_le _) (fun j hj => absurd hj (Nat.not_lt_zero j)) (DoX.zero hP h0)).mono (fun v S' hq => ?_)
        obtain ⟨r, rfl, hr⟩ := hq
        exact q2_1 (fun h => h hall) (by rw [e2_1 (by omega)]; exact hr)
      · refine x_bipush (v := -2) dX10_does_97 (by decide) ?_
        refine x_iret rfl dX10_does_99 (q2_1 (fun h => h hall) (by rw [e2_0 (by omega)]; exact ⟨rfl, rfl⟩))
    · refine x_aload_n 2 dX10_does_49 rfl rfl ?_
      refine x_getR fX10_40 dX10_does_50 l0 rfl ?_
      refine x_aload_n 2 dX10_does_53 rfl rfl ?_
      refine x_getR fX10_21 dX10_does_54 l0 rfl ?_
      refine x_iload_n 3 dX10_does_57 rfl rfl ?_
      refine x_iload_n 0 dX10_does_58 rfl rfl ?_
      refine x_callVu (as := [_, _]) (rest := [_]) vX10_124 (c_getR hS.1 ha ez hz (by omega) rfl) dX10_does_59 l3 rfl rfl rfl (Nat.le_of_ble_eq_true rfl) (Nat.le_of_ble_eq_true rfl) (Nat.le_of_ble_eq_true rfl) ?_
      refine x_callVb (as := [_]) (rest := []) vX10_265 (c_X1_isNumber hI hO) dX10_does_62 l11 rfl rfl rfl (Nat.le_of_ble_eq_true rfl) (Nat.le_of_ble_eq_true rfl) (Nat.le_of_ble_eq_true rfl) (fun c_62 => ?_) (fun c_62 => ?_)
      · refine t_if_ne 77 dX10_does_65 (by decide) (by decide) ?_
        refine y_iinc (lv' := [(3, _), (2, _), (0, _), (1, _)]) 0 dX10_does_77 rfl (by decide) rfl ?_
        refine x_goto 44 dX10_does_80 (by decide) ?_
        refine x_pick (lv' := [(3, _), (2, _), (0, _), (1, _)]) [0, 1, 2, 3] rfl ?_
        exact ih (z - (k + 1)) (by omega) (k + 1) rfl (by omega) (fun j hj => by rcases Nat.lt_succ_iff_lt_or_eq.mp hj with h | h; exact hx j h; subst h; exact c_62)
      · refine u_if_ne 77 dX10_does_65 (by decide) (by decide) ?_
        refine x_aload_n 2 dX10_does_68 rfl rfl ?_
        refine x_getR fX10_10 dX10_does_69 l0 rfl ?_
        refine x_iconst (v := nI 3) dX10_does_72 (by decide) ?_
        refine x_callVu (as := [_]) (rest := []) vX10_109 (c_X9_find (by decide) (by decide)) dX10_does_73 l1 rfl rfl rfl (Nat.le_of_ble_eq_true rfl) (Nat.le_of_ble_eq_true rfl) (Nat.le_of_ble_eq_true rfl) ?_
        refine x_iret rfl dX10_does_76 (q2_0 (fun h => c_62 (h k (by omega))) ⟨rfl, rfl⟩)

set_option maxHeartbeats 4000000 in
set_option maxRecDepth 100000 in
theorem c_X10_does {S : St} {I : Isl} (hI : IsX 11 I S) (hO : IOK I) {w : Nat → Nat} (hP : PlT 35 I w S) {L : Nat} (hL : S.1 35 5 = nI L) (hL7 : L ≤ 6) (hv : VS I w L) (hS : RwS 3 6 60 S) {d : Nat} (h0 : S.1 60 0 = nI d) (hd : d ≤ 40) {x : Int32} : C 5 150 yX10_does mX10_does [.ref 0, .int x] S (qi (i5 (¬ (0 ≤ x.toInt ∧ x.toInt < 6)) ((S.1 4 (tn x)).toInt < 0) (¬ ∀ j, j < tn (S.1 4 (tn x)) → numOK I (S.1 5 (tn x * 60 + j))) (40 < d + tn (S.1 4 (tn x))) (an (-1) S) (an (-3) (fndS S 1)) (an (-3) (fndS S 3)) (an (-2) S) (fun r S' => ∃ k, r = nI k ∧ howD I L w (fun j => tn (S.1 5 (tn x * 60 + j))) (tn (S.1 4 (tn x))) k ∧ DoX I S S' d k w (fun j => tn (S.1 5 (tn x * 60 + j)))))) := by
  have hO1 := hO.1
  have hO2 := hO.2.1
  have hO3 := hO.2.2.1
  have hO4 := hO.2.2.2.1
  refine C.ofX (by decide) rfl (Nat.le_of_ble_eq_true rfl) ?_
  show X 5 150 mX10_does (qi (i5 (¬ (0 ≤ x.toInt ∧ x.toInt < 6)) ((S.1 4 (tn x)).toInt < 0) (¬ ∀ j, j < tn (S.1 4 (tn x)) → numOK I (S.1 5 (tn x * 60 + j))) (40 < d + tn (S.1 4 (tn x))) (an (-1) S) (an (-3) (fndS S 1)) (an (-3) (fndS S 3)) (an (-2) S) (fun r S' => ∃ k, r = nI k ∧ howD I L w (fun j => tn (S.1 5 (tn x * 60 + j))) (tn (S.1 4 (tn x))) k ∧ DoX I S S' d k w (fun j => tn (S.1 5 (tn x * 60 + j)))))) 0 [(0, .ref 0), (1, .int x)] [] S
  refine x_aload_n 0 dX10_does_0 rfl rfl ?_
  refine x_getR fX10_21 dX10_does_1 l0 rfl ?_
  refine x_iload_n 1 dX10_does_4 rfl rfl ?_
  refine x_callVb (as := [_]) (rest := []) vX10_105 (c_X5_isOne isR) dX10_does_5 l3 rfl rfl rfl (Nat.le_of_ble_eq_true rfl) (Nat.le_of_ble_eq_true rfl) (Nat.le_of_ble_eq_true rfl) (fun c_5 => ?_) (fun c_5 => ?_)
  · refine t_if_ne 13 dX10_does_8 (by decide) (by decide) ?_
    obtain ⟨a, ha, rfl⟩ := nI_ex (x := x) (n := 6) (by omega) (by omega)
    have ea : (nI a).toInt = (a : Int) := tiN (by omega)
    have ta : tn (nI a) = a := tnN (by omega)
    refine x_aload_n 0 dX10_does_13 rfl rfl ?_
    refine x_getR fX10_21 dX10_does_14 l0 rfl ?_
    refine x_iload_n 1 dX10_does_17 rfl rfl ?_
    refine x_callVb (as := [_]) (rest := []) vX10_117 (c_miss ha) dX10_does_18 l3 rfl rfl rfl (Nat.le_of_ble_eq_true rfl) (Nat.le_of_ble_eq_true rfl) (Nat.le_of_ble_eq_true rfl) (fun c_18 => ?_) (fun c_18 => ?_)
    · refine u_if_eq 33 dX10_does_21 (by decide) (by decide) ?_
      refine x_aload_n 0 dX10_does_24 rfl rfl ?_
      refine x_getR fX10_10 dX10_does_25 l0 rfl ?_
      refine x_iconst (v := nI 1) dX10_does_28 (by decide) ?_
      refine x_callVu (as := [_]) (rest := []) vX10_109 (c_X9_find (by decide) (by decide)) dX10_does_29 l1 rfl rfl rfl (Nat.le_of_ble_eq_true rfl) (Nat.le_of_ble_eq_true rfl) (Nat.le_of_ble_eq_true rfl) ?_
      refine x_iret rfl dX10_does_32 (by simp only [ta]; exact q5_1 (by omega) (by omega) ⟨rfl, rfl⟩)
    · refine t_if_eq 33 dX10_does_21 (by decide) (by decide) ?_
      obtain ⟨z, hz, ez⟩ := hS.nn ha c_18
      have ezi : (nI z).toInt = (z : Int) := tiN (by omega)
      have tz : tn (nI z) = z := tnN (by omega)
      refine x_aload_n 0 dX10_does_33 rfl rfl ?_
      refine x_getR fX10_21 dX10_does_34 l0 rfl ?_
      refine x_iload_n 1 dX10_does_37 rfl rfl ?_
      refine x_callVu (as := [_]) (rest := []) vX10_141 (c_sizeOf isR ha ez) dX10_does_38 l3 rfl rfl rfl (Nat.le_of_ble_eq_true rfl) (Nat.le_of_ble_eq_true rfl) (Nat.le_of_ble_eq_true rfl) ?_
      refine x_istore_n (lv' := [(2, _), (0, _), (1, _)]) dX10_does_41 rfl (by decide) rfl ?_
      refine x_iconst (v := nI 0) dX10_does_42 (by decide) ?_
      refine x_istore_n (lv' := [(3, _), (2, _), (0, _), (1, _)]) dX10_does_43 rfl (by decide) rfl ?_
      refine x_pick (lv' := [(3, _), (2, _), (0, _), (1, _)]) [0, 1, 2, 3] rfl ?_
      refine (lp_doesX0 hI hO hP hL hL7 hv hS h0 hd ha ez hz 0 (Nat.zero_le _) (fun j hj => absurd hj (Nat.not_lt_zero j))).mono (fun v S' hq => ?_)
      obtain ⟨r, rfl, hr⟩ := hq
      simp only [ta, ez, tz]
      by_cases hg : ∀ j, j < z → numOK I (S.1 5 (a * 60 + j))
      · rw [e2_1 (fun q => q hg)] at hr
        by_cases h4 : 40 < d + z
        · rw [e2_0 h4] at hr
          exact q5_3 (by omega) (by omega) (fun q => q hg) h4 hr
        · rw [e2_1 h4] at hr
          exact q5_4 (by omega) (by omega) (fun q => q hg) h4 hr
      · rw [e2_0 hg] at hr
        exact q5_2 (by omega) (by omega) hg hr
  · refine u_if_ne 13 dX10_does_8 (by decide) (by decide) ?_
    refine x_iconst (v := -1) dX10_does_11 (by decide) ?_
    refine x_iret rfl dX10_does_12 (q5_0 c_5 ⟨rfl, rfl⟩)

/-- the reference behind k of them -/
def DoM (I : Isl) (S S' : St) (d k : Nat) (w v : Nat → Nat) : Prop := S'.2 = S.2 ∧ (∀ a, ¬ (a = 93 ∨ a = 97 ∨ a = 98 ∨ a = 99) → ∀ b, ¬ (a = 83 ∧ b = 29) → S'.1 a b = S.1 a b) ∧ (∀ t, t < iM I → S'.1 93 t = nI (stD w v k t)) ∧ S'.1 83 29 = nI (d + k) ∧
  (∀ i, i < d → S'.1 98 i = S.1 98 i ∧ S'.1 99 i = S.1 99 i) ∧ ∀ j, j < k → S'.1 98 (d + j) = nI (v j / 7) ∧ S'.1 99 (d + j) = nI (stD w v j (v j / 7))
theorem DoM.zero {I : Isl} {S : St} {d : Nat} {w v : Nat → Nat} (hw : ∀ t, t < iM I → S.1 93 t = nI (w t)) (h0 : S.1 83 29 = nI d) : DoM I S S d 0 w v := ⟨rfl, fun _ _ _ _ => rfl, hw, h0, fun i _ => ⟨rfl, rfl⟩, fun j hj => absurd hj (Nat.not_lt_zero j)⟩
theorem DoM.lk {I : Isl} {S S1 : St} {d k n : Nat} {w v : Nat → Nat} (h : DoM I S S1 d k w v) : DoM I S (lkS S1 n) d k w v := by
  obtain ⟨h0, h1, h2, h3, h4, h5⟩ := h
  exact ⟨h0, fun a ha b hb => (lkS_k (by omega)).trans (h1 a ha b hb), fun t ht => (lkS_k (by decide)).trans (h2 t ht), (lkS_k (by decide)).trans h3, fun i hi => ⟨(lkS_k (by decide)).trans (h4 i hi).1, (lkS_k (by decide)).trans (h4 i hi).2⟩, fun j hj => ⟨(lkS_k (by decide)).trans (h5 j hj).1, (lkS_k (by decide)).trans (h5 j hj).2⟩⟩
theorem DoM.step {I : Isl} {S S1 : St} {d k : Nat} {w v : Nat → Nat} (h : DoM I S S1 d k w v) : DoM I S (mvS S1 (v k / 7) (stD w v k (v k / 7)) (v k % 7) (d + k)) d (k + 1) w v := by
  obtain ⟨h0, h1, h2, h3, h4, h5⟩ := h
  have m98 : ∀ i, ¬ i = d + k → (mvS S1 (v k / 7) (stD w v k (v k / 7)) (v k % 7) (d + k)).1 98 i = S1.1 98 i := fun i hi => (rdI_k (by decide)).trans ((rdI_k (by decide)).trans ((rdI_k (by decide)).trans (rdI_j hi)))
  have m99 : ∀ i, ¬ i = d + k → (mvS S1 (v k / 7) (stD w v k (v k / 7)) (v k % 7) (d + k)).1 99 i = S1.1 99 i := fun i hi => (rdI_k (by decide)).trans ((rdI_k (by decide)).trans ((rdI_j hi).trans (rdI_k (by decide))))
  refine ⟨h0, fun a ha b hb => ?_, fun t ht => ?_, (rdI_k (by decide)).trans rdI_eq, fun i hi => ⟨(m98 i (by omega)).trans (h4 i hi).1, (m99 i (by omega)).trans (h4 i hi).2⟩, fun j hj => ?_⟩
  · refine Eq.trans ?_ (h1 a ha b hb)
    unfold mvS
    rw [rdI_k (show ¬ a = 93 by omega)]
    by_cases q : a = 83
    · rw [rdI_j (show ¬ b = 29 by omega), rdI_k (show ¬ a = 99 by omega), rdI_k (show ¬ a = 98 by omega)]
    · rw [rdI_k q, rdI_k (show ¬ a = 99 by omega), rdI_k (show ¬ a = 98 by omega)]
  · show (mvS S1 (v k / 7) (stD w v k (v k / 7)) (v k % 7) (d + k)).1 93 t = nI (upW (stD w v k) (v k / 7) (v k % 7) t)
    by_cases q : t = v k / 7
    · rw [q, upW_eq]; exact rdI_eq
    · rw [upW_ne q]
      exact (rdI_j q).trans ((rdI_k (by decide)).trans ((rdI_k (by decide)).trans ((rdI_k (by decide)).trans (h2 t ht))))
  · rcases Nat.lt_succ_iff_lt_or_eq.mp hj with q | q
    · exact ⟨(m98 _ (by omega)).trans (h5 j q).1, (m99 _ (by omega)).trans (h5 j q).2⟩
    · subst q
      exact ⟨(rdI_k (by decide)).trans ((rdI_k (by decide)).trans ((rdI_k (by decide)).trans rdI_eq)), (rdI_k (by decide)).trans ((rdI_k (by decide)).trans rdI_eq)⟩

