/-! ===== near pairs are few: there is room for all ===== -/
theorem nx_dig {I : Isl} {L c s : Nat} (hO : IOK I) (h : OKc I L c) (hs : s < 7 * iM I) (hm : mb I L c s = true) : ∀ t, t < iM I → digF (nx I c s) t = upW (digF c) (s / 7) (s % 7) t := fun t ht =>
  dig_code (((VS_step hO h.2 (show s / 7 < iM I by omega) (mb_iff.mp hm)).ok hO).w7 hO) t ht
theorem nx_inj {I : Isl} {L c s s' : Nat} (hO : IOK I) (h : OKc I L c) (hs : s < 7 * iM I) (hs' : s' < 7 * iM I) (hm : mb I L c s = true) (hm' : mb I L c s' = true) (e : nx I c s = nx I c s') : s = s' := by
  have a := nx_dig hO h hs hm (s / 7) (by omega)
  rw [e, nx_dig hO h hs' hm' (s / 7) (by omega), upW_eq] at a
  by_cases q : s / 7 = s' / 7
  · rw [q, upW_eq] at a; omega
  · rw [upW_ne q] at a
    exact absurd a.symm (mb_iff.mp hm).2.1
theorem neS_dis {I : Isl} {L c0 i : Nat} (hO : IOK I) (h0 : OKc I L c0) (ha : alive I L c0 i) (hi : i < rC (bfs I L c0 i)) (N : Nr) : ∀ s, s ≤ 7 * iM I →
    (∀ k, N.1 ≤ k → k < (neS I L i (bfs I L c0 i) N s).1 → ∃ s', s' < s ∧ mb I L (rK (fR I L c0) i) s' = true ∧ nx I (rK (fR I L c0) i) s' = rK (fR I L c0) ((neS I L i (bfs I L c0 i) N s).2 k)) ∧
    ∀ k k', N.1 ≤ k → k < k' → k' < (neS I L i (bfs I L c0 i) N s).1 → ¬ (neS I L i (bfs I L c0 i) N s).2 k = (neS I L i (bfs I L c0 i) N s).2 k'
  | 0, _ => ⟨fun k h1 h2 => by have : k < N.1 := h2; omega, fun k k' h1 h2 h3 => by have : k' < N.1 := h3; omega⟩
  | s + 1, hs => by
    obtain ⟨h1, h2⟩ := neS_dis hO h0 ha hi N s (by omega)
    have hpf := fR_pre hO h0 ha
    have hki := (hpf.2 i hi).1
    have ha1 := alive_s ha hi
    have hpf1 := fR_pre hO h0 ha1
    have hxs := xpS_le I L i (bfs I L c0 i) (s + 1) (7 * iM I - (s + 1))
    rw [show s + 1 + (7 * iM I - (s + 1)) = 7 * iM I by omega, ← bfs_s hi] at hxs
    have hpp := hxs.trans hpf1
    have hil : i < rC (fR I L c0) := Nat.lt_of_lt_of_le hi hpf.1
    have hok := (fR_inv hO h0).2.2.1 i hil
    by_cases hm : mb I L (rK (bfs I L c0 i) i) s = true
    · have hin : rIn (xpS I L i (bfs I L c0 i) (s + 1)) (nx I (rK (bfs I L c0 i) i) s) := by rw [xpS_t hm]; exact rIn_ch
      have hx := ixR_ok hin
      have hxk : rK (fR I L c0) (ixR (xpS I L i (bfs I L c0 i) (s + 1)) (nx I (rK (bfs I L c0 i) i) s)) = nx I (rK (fR I L c0) i) s := by rw [(hpp.2 _ hx.1).1, hx.2, hki]
      rw [neS_t hm]
      rw [← hki] at hm
      generalize ixR (xpS I L i (bfs I L c0 i) (s + 1)) (nx I (rK (bfs I L c0 i) i) s) = x at hxk
      generalize neS I L i (bfs I L c0 i) N s = A at h1 h2 ⊢
      unfold nrM
      by_cases hxi : x < i
      · rw [if_pos hxi]
        have eA : ∀ k, k < A.1 → upW A.2 A.1 x k = A.2 k := fun k hk => upW_ne (by omega)
        refine ⟨fun k k1 k2 => ?_, fun k k' k1 k2 k3 => ?_⟩
        · show ∃ s', s' < s + 1 ∧ mb I L (rK (fR I L c0) i) s' = true ∧ nx I (rK (fR I L c0) i) s' = rK (fR I L c0) (upW A.2 A.1 x k)
          have k2' : k < A.1 + 1 := k2
          by_cases q : k = A.1
          · rw [q, upW_eq]
            exact ⟨s, Nat.lt_succ_self s, hm, hxk.symm⟩
          · rw [eA k (by omega)]
            obtain ⟨s', a, b, c⟩ := h1 k k1 (by omega)
            exact ⟨s', by omega, b, c⟩
        · show ¬ upW A.2 A.1 x k = upW A.2 A.1 x k'
          have k3' : k' < A.1 + 1 := k3
          rw [eA k (by omega)]
          by_cases q : k' = A.1
          · rw [q, upW_eq]
            intro e
            obtain ⟨s', a, b, c⟩ := h1 k k1 (by omega)
            rw [e, hxk] at c
            have := nx_inj hO hok (by omega) (by omega) b hm c
            omega
          · rw [eA k' (by omega)]
            exact h2 k k' k1 k2 (by omega)
      · rw [if_neg hxi]
        refine ⟨fun k k1 k2 => ?_, h2⟩
        obtain ⟨s', a, b, c⟩ := h1 k k1 k2
        exact ⟨s', by omega, b, c⟩
    · rw [neS_f hm]
      refine ⟨fun k k1 k2 => ?_, h2⟩
      obtain ⟨s', a, b, c⟩ := h1 k k1 k2
      exact ⟨s', by omega, b, c⟩
theorem nrB_stg {I : Isl} {L c0 k : Nat} : ∀ e, alive I L c0 e → k < (nrB I L c0 e).1 → ∃ i, i < e ∧ (nrB I L c0 i).1 ≤ k ∧ k < (nrB I L c0 (i + 1)).1
  | 0, _, h => absurd h (Nat.not_lt_zero k)
  | e + 1, ha, h => by
    by_cases q : k < (nrB I L c0 e).1
    · obtain ⟨i, a, b⟩ := nrB_stg e (fun e' h => ha e' (by omega)) q
      exact ⟨i, by omega, b⟩
    · exact ⟨e, Nat.lt_succ_self e, by omega, h⟩
/-- a step upward -/
def UpP (I : Isl) (L c s d : Nat) : Prop := OKc I L c ∧ s < 7 * iM I ∧ mb I L c s = true ∧ digF c (s / 7) < s % 7 ∧ nx I c s = d
theorem up_or {I : Isl} {L c s d : Nat} (hO : IOK I) (h : OKc I L c) (hs : s < 7 * iM I) (hm : mb I L c s = true) (e : nx I c s = d) : ∃ s', UpP I L c s' d ∨ UpP I L d s' c := by
  by_cases q : digF c (s / 7) < s % 7
  · exact ⟨s, Or.inl ⟨h, hs, hm, q, e⟩⟩
  · have hb := mb_back hO h hs hm
    have hne := (mb_iff.mp hm).2.1
    have hd := nx_dig hO h hs hm (s / 7) (by omega)
    have h7 := digF_lt c (s / 7)
    rw [upW_eq] at hd
    rw [e] at hb hd
    refine ⟨_, Or.inr ⟨by rw [← e]; exact nx_ok hO h hs hm, hb.1, hb.2.1, ?_, hb.2.2⟩⟩
    rw [show (7 * (s / 7) + digF c (s / 7)) / 7 = s / 7 by omega, show (7 * (s / 7) + digF c (s / 7)) % 7 = digF c (s / 7) by omega, hd]
    omega
def loU (I : Isl) (c s : Nat) : Nat := if s % 7 ≤ 4 then c else codeF I (upW (digF c) (s / 7) 0)
theorem loU_w7 {c t : Nat} : ∀ u, upW (digF c) t 0 u < 7 := fun u => by
  by_cases q : u = t
  · rw [q, upW_eq]; decide
  · rw [upW_ne q]; exact digF_lt c u
theorem loU_lt {I : Isl} {L c s d : Nat} (h : UpP I L c s d) : loU I c s < 7 ^ iM I := by
  unfold loU
  by_cases q : s % 7 ≤ 4
  · rw [if_pos q]; exact h.1.1
  · rw [if_neg q]; exact codeN_lt (fun t _ => loU_w7 t)
theorem up_bag {I : Isl} {L c s d : Nat} (hO : IOK I) (h : UpP I L c s d) (q : ¬ s % 7 ≤ 4) : s % 7 - 5 < iB I ∧ ¬ bagK (iK I (s / 7)) ∧ ¬ livK (iK I (s / 7)) ∧ digF c (iG I (s % 7 - 5)) = digF c (s / 7) := by
  obtain ⟨h1, h2, h3⟩ := mb_iff.mp h.2.2.1
  have hP := hO.1
  have hB := hO.2.2.2.1
  have ht : s / 7 < iM I := by have := h.2.1; omega
  have h5 : ¬ 5 ≤ digF c (s / 7) := fun k => by
    rw [if_pos k] at h3
    have := whomF_le (h.1.2.ok hO) ht
    omega
  rw [if_neg h5, if_pos (by omega)] at h3
  unfold plcF at h1
  exact ⟨by omega, h3.1, h3.2.1, h3.2.2.1⟩
theorem enc_inj {I : Isl} {L c s d c' s' d' : Nat} (hO : IOK I) (h : UpP I L c s d) (h' : UpP I L c' s' d') (e : s * 7 ^ iM I + loU I c s = s' * 7 ^ iM I + loU I c' s') : c = c' ∧ d = d' := by
  have l1 := loU_lt h
  have l2 := loU_lt h'
  have hM : 0 < 7 ^ iM I := Nat.pow_pos (by decide)
  have es : s = s' := by
    have k := congrArg (fun x => x / 7 ^ iM I) e
    have k2 : (s * 7 ^ iM I + loU I c s) / 7 ^ iM I = (s' * 7 ^ iM I + loU I c' s') / 7 ^ iM I := k
    rw [Nat.add_comm, Nat.add_mul_div_right _ _ hM, Nat.div_eq_of_lt l1, Nat.add_comm (s' * 7 ^ iM I), Nat.add_mul_div_right _ _ hM, Nat.div_eq_of_lt l2] at k2
    omega
  subst es
  have el := Nat.add_left_cancel e
  have ec : c = c' := by
    unfold loU at el
    by_cases q : s % 7 ≤ 4
    · rw [if_pos q, if_pos q] at el; exact el
    · rw [if_neg q, if_neg q] at el
      have hu : ∀ u, u < iM I → upW (digF c) (s / 7) 0 u = upW (digF c') (s / 7) 0 u := fun u hu => by
        have a := dig_code (m := iM I) (w := upW (digF c) (s / 7) 0) (fun t _ => loU_w7 t) u hu
        have b := dig_code (m := iM I) (w := upW (digF c') (s / 7) 0) (fun t _ => loU_w7 t) u hu
        have el2 : codeN (iM I) (upW (digF c) (s / 7) 0) = codeN (iM I) (upW (digF c') (s / 7) 0) := el
        rw [el2] at a
        exact a.symm.trans b
      have b1 := up_bag hO h q
      have b2 := up_bag hO h' q
      have hg := hO.2.2.2.2.2.1 _ b1.1
      have hgt : ¬ iG I (s % 7 - 5) = s / 7 := fun k => b1.2.1 (by rw [← k]; exact hg.2)
      have hd : ∀ u, u < iM I → digF c u = digF c' u := fun u hu' => by
        by_cases z : u = s / 7
        · rw [z, ← b1.2.2.2, ← b2.2.2.2]
          have := hu _ hg.1
          rw [upW_ne hgt, upW_ne hgt] at this
          exact this
        · have := hu u hu'
          rw [upW_ne z, upW_ne z] at this
          exact this
      rw [← code_dig h.1.1, ← code_dig h'.1.1]
      exact sm_congr fun u hu' => by rw [hd u hu']
  subst ec
  exact ⟨rfl, h.2.2.2.2.symm.trans h'.2.2.2.2⟩
def bdF (B k t s : Nat) : Nat := if t = s / 7 then (if s % 7 ≤ 4 then (if k = 1 ∧ s % 7 = 4 then 0 else s % 7) else (if k = 2 ∧ s % 7 < 5 + B then 1 else 0)) else nnF B k
theorem bd_le {B k t s : Nat} (hB : B ≤ 2) : bdF B k t s ≤ 7 := by
  unfold bdF
  by_cases h : t = s / 7
  · rw [if_pos h]
    by_cases q : s % 7 ≤ 4
    · rw [if_pos q]
      by_cases r : k = 1 ∧ s % 7 = 4
      · rw [if_pos r]; decide
      · rw [if_neg r]; omega
    · rw [if_neg q]
      by_cases r : k = 2 ∧ s % 7 < 5 + B
      · rw [if_pos r]; decide
      · rw [if_neg r]; decide
  · rw [if_neg h]; exact nn_le hB
theorem up_bd {I : Isl} {L c s d : Nat} (hO : IOK I) (h : UpP I L c s d) : ∀ t, t < iM I → digF (loU I c s) t < bdF (iB I) (kc (iK I t)) t s := fun t ht => by
  unfold bdF loU
  by_cases q : s % 7 ≤ 4
  · rw [if_pos q]
    by_cases z : t = s / 7
    · rw [if_pos z, if_pos q]
      have hnl : ¬ (kc (iK I t) = 1 ∧ s % 7 = 4) := fun k => by
        obtain ⟨h1, h2, h3⟩ := mb_iff.mp h.2.2.1
        have hl := kc_1.mp k.1
        have := (h.1.2.1 t ht).2.1 hl
        rw [z] at this hl
        rw [if_neg (by omega), if_neg (by omega), if_pos k.2] at h3
        exact h3 hl
      rw [if_neg hnl, z]
      exact h.2.2.2.1
    · rw [if_neg z]
      exact h.1.2.dig hO ht
  · rw [if_neg q]
    have b1 := up_bag hO h q
    rw [show digF (codeF I (upW (digF c) (s / 7) 0)) t = upW (digF c) (s / 7) 0 t from dig_code (fun t _ => loU_w7 t) t ht]
    by_cases z : t = s / 7
    · rw [if_pos z, if_neg q]
      have hk : kc (iK I t) = 2 := by
        have a := kc_lt (iK I t)
        rw [z] at a ⊢
        have b : ¬ kc (iK I (s / 7)) = 0 := fun k => b1.2.1 (kc_0.mp k)
        have c : ¬ kc (iK I (s / 7)) = 1 := fun k => b1.2.2.1 (kc_1.mp k)
        omega
      rw [if_pos ⟨hk, by omega⟩, z, upW_eq]
      decide
    · rw [if_neg z, upW_ne z]
      exact h.1.2.dig hO ht
def T2 (B a b c d e : Nat) : Bool := Nat.blt (z0 a + z0 b + z0 c + z0 d + z0 e) B || Nat.ble (sm (fun s => bdF B a 0 s * bdF B b 1 s * bdF B c 2 s * bdF B d 3 s * bdF B e 4 s) 35) 80000
set_option maxRecDepth 100000 in
set_option maxHeartbeats 4000000 in
theorem num4 : ∀ q, q < 729 → T2 (q / 243) (q % 3) (q / 3 % 3) (q / 9 % 3) (q / 27 % 3) (q / 81 % 3) = true := by decide +kernel
theorem num5 (B : Nat) (hB : B < 3) (a : Nat) (ha : a < 3) (b : Nat) (hb : b < 3) (c : Nat) (hc : c < 3) (d : Nat) (hd : d < 3) (e : Nat) (he : e < 3) (h : B ≤ z0 a + z0 b + z0 c + z0 d + z0 e) :
    sm (fun s => bdF B a 0 s * bdF B b 1 s * bdF B c 2 s * bdF B d 3 s * bdF B e 4 s) 35 ≤ 80000 := by
  have k := num4 (a + 3 * b + 9 * c + 27 * d + 81 * e + 243 * B) (by omega)
  rw [show (a + 3 * b + 9 * c + 27 * d + 81 * e + 243 * B) / 243 = B by omega, show (a + 3 * b + 9 * c + 27 * d + 81 * e + 243 * B) % 3 = a by omega, show (a + 3 * b + 9 * c + 27 * d + 81 * e + 243 * B) / 3 % 3 = b by omega, show (a + 3 * b + 9 * c + 27 * d + 81 * e + 243 * B) / 9 % 3 = c by omega, show (a + 3 * b + 9 * c + 27 * d + 81 * e + 243 * B) / 27 % 3 = d by omega, show (a + 3 * b + 9 * c + 27 * d + 81 * e + 243 * B) / 81 % 3 = e by omega] at k
  unfold T2 at k
  rw [Bool.or_eq_true] at k
  rcases k with k | k
  · have := Nat.blt_eq.mp k
    omega
  · exact Nat.le_of_ble_eq_true k
def Pp (I : Isl) (x : Nat) : Prop := ∀ t, t < iM I → 0 ≤ digF (x % 7 ^ iM I) t ∧ digF (x % 7 ^ iM I) t < 0 + bdF (iB I) (kc (iK I t)) t (x / 7 ^ iM I)
theorem cnt_pp {I : Isl} (hO : IOK I) : cb (fun x => dec (Pp I x)) (7 * iM I * 7 ^ iM I) ≤ 80000 := by
  have hB := hO.2.2.2.1
  have hm5 := hO.2.1
  have hM : 0 < 7 ^ iM I := Nat.pow_pos (by decide)
  have e : cb (fun x => dec (Pp I x)) (7 * iM I * 7 ^ iM I) = sm (fun s => pdF (fun t => bdF (iB I) (kc (iK I t)) t s) (iM I)) (7 * iM I) := by
    rw [cb_i2, sm_blk]
    refine sm_congr fun s _ => ?_
    rw [← cnt_pd (l := fun _ => 0) (n := fun t => bdF (iB I) (kc (iK I t)) t s) (iM I) (fun t _ => by rw [Nat.zero_add]; exact bd_le hB)]
    refine sm_congr fun i hi => ?_
    unfold Pp
    rw [show (s * 7 ^ iM I + i) / 7 ^ iM I = s by rw [Nat.add_comm, Nat.add_mul_div_right _ _ hM, Nat.div_eq_of_lt hi, Nat.zero_add], show (s * 7 ^ iM I + i) % 7 ^ iM I = i by rw [Nat.add_comm, Nat.add_mul_mod_self_right, Nat.mod_eq_of_lt hi]]
  rw [e]
  by_cases hm : iM I = 5
  · have hb := bags_le hO
    rw [hm, sm5] at hb
    rw [hm]
    refine Nat.le_trans (Nat.le_of_eq (sm_congr fun s _ => pd5 _)) (num5 (iB I) (by omega) _ (kc_lt (iK I 0)) _ (kc_lt (iK I 1)) _ (kc_lt (iK I 2)) _ (kc_lt (iK I 3)) _ (kc_lt (iK I 4)) hb)
  · have h1 : sm (fun s => pdF (fun t => bdF (iB I) (kc (iK I t)) t s) (iM I)) (7 * iM I) ≤ 7 ^ iM I * (7 * iM I) := sm_le (fun s _ => pd_le (iM I) (fun t _ => bd_le hB))
    have h4 : 7 ^ iM I ≤ 7 ^ 4 := Nat.pow_le_pow_right (by decide) (by omega)
    have h2 : 7 ^ iM I * (7 * iM I) ≤ 7 ^ 4 * 28 := Nat.mul_le_mul h4 (by omega)
    have h3 : (7 : Nat) ^ 4 * 28 = 67228 := by decide
    omega
theorem near_le {I : Isl} {L c0 e : Nat} (hO : IOK I) (h0 : OKc I L c0) (ha : alive I L c0 e) : (nrB I L c0 e).1 ≤ 80000 := by
  refine Nat.le_trans ?_ (cnt_pp hO)
  have hM : 0 < 7 ^ iM I := Nat.pow_pos (by decide)
  have hinv := fR_inv hO h0
  have hel : e ≤ rC (fR I L c0) := by rw [(bN_ok hO h0).2]; exact alive_bN hO h0 ha
  have ex : ∀ k, ∃ x, k < (nrB I L c0 e).1 → (x < 7 * iM I * 7 ^ iM I ∧ Pp I x) ∧ ∃ i c s d, i < e ∧ ((nrB I L c0 i).1 ≤ k ∧ k < (nrB I L c0 (i + 1)).1) ∧ (nrB I L c0 (i + 1)).2 k < i ∧ UpP I L c s d ∧ x = s * 7 ^ iM I + loU I c s ∧ ((c = rK (fR I L c0) i ∧ d = rK (fR I L c0) ((nrB I L c0 (i + 1)).2 k)) ∨ (c = rK (fR I L c0) ((nrB I L c0 (i + 1)).2 k) ∧ d = rK (fR I L c0) i)) := fun k => by
    by_cases hk : k < (nrB I L c0 e).1
    · obtain ⟨i, hi, hki⟩ := nrB_stg e ha hk
      obtain ⟨-, hs2, -⟩ := nrB_set hO h0 ha hi
      obtain ⟨hj, s, s1, s2, s3⟩ := hs2 k hki.1 hki.2
      obtain ⟨s', hup⟩ := up_or hO (hinv.2.2.1 i (by omega)) s1 s2 s3
      have fin : ∀ {c d}, UpP I L c s' d → (s' * 7 ^ iM I + loU I c s' < 7 * iM I * 7 ^ iM I ∧ Pp I (s' * 7 ^ iM I + loU I c s')) := fun {c d} hu => by
        have l1 := loU_lt hu
        refine ⟨?_, fun t ht => ⟨Nat.zero_le _, ?_⟩⟩
        · have : (s' + 1) * 7 ^ iM I ≤ 7 * iM I * 7 ^ iM I := Nat.mul_le_mul_right _ hu.2.1
          rw [Nat.succ_mul] at this
          omega
        · rw [show (s' * 7 ^ iM I + loU I c s') / 7 ^ iM I = s' by rw [Nat.add_comm, Nat.add_mul_div_right _ _ hM, Nat.div_eq_of_lt l1, Nat.zero_add], show (s' * 7 ^ iM I + loU I c s') % 7 ^ iM I = loU I c s' by rw [Nat.add_comm, Nat.add_mul_mod_self_right, Nat.mod_eq_of_lt l1], Nat.zero_add]
          exact up_bd hO hu t ht
      rcases hup with hu | hu
      · exact ⟨_, fun _ => ⟨fin hu, i, _, s', _, hi, hki, hj, hu, rfl, Or.inl ⟨rfl, rfl⟩⟩⟩
      · exact ⟨_, fun _ => ⟨fin hu, i, _, s', _, hi, hki, hj, hu, rfl, Or.inr ⟨rfl, rfl⟩⟩⟩
    · exact ⟨0, fun q => absurd q hk⟩
  have hf := fun k => Classical.choose_spec (ex k)
  refine inj_le (f := fun k => Classical.choose (ex k)) (fun k hk => ⟨(hf k hk).1.1, dec_t (hf k hk).1.2⟩) (fun k k' hk hk' heq => ?_)
  obtain ⟨-, i, c, s, d, hi, hki, hj, hu, hx, hcd⟩ := hf k hk
  obtain ⟨-, i', c', s', d', hi', hki', hj', hu', hx', hcd'⟩ := hf k' hk'
  have heq2 : Classical.choose (ex k) = Classical.choose (ex k') := heq
  rw [heq2, hx'] at hx
  obtain ⟨rfl, rfl⟩ := enc_inj hO hu' hu hx
  have hinj := hinv.2.1
  have same : i = i' ∧ (nrB I L c0 (i + 1)).2 k = (nrB I L c0 (i' + 1)).2 k' := by
    rcases hcd with ⟨a, b⟩ | ⟨a, b⟩
    · rcases hcd' with ⟨a', b'⟩ | ⟨a', b'⟩
      · exact ⟨hinj _ _ (by omega) (by omega) (a.symm.trans a'), hinj _ _ (by omega) (by omega) (b.symm.trans b')⟩
      · have u1 := hinj i _ (by omega) (by omega) (a.symm.trans a')
        have u2 := hinj _ i' (by omega) (by omega) (b.symm.trans b')
        omega
    · rcases hcd' with ⟨a', b'⟩ | ⟨a', b'⟩
      · have u1 := hinj _ i' (by omega) (by omega) (a.symm.trans a')
        have u2 := hinj i _ (by omega) (by omega) (b.symm.trans b')
        omega
      · exact ⟨hinj _ _ (by omega) (by omega) (b.symm.trans b'), hinj _ _ (by omega) (by omega) (a.symm.trans a')⟩
  obtain ⟨rfl, h2⟩ := same
  have hai : alive I L c0 i := fun e' h => ha e' (by omega)
  have hdis := (neS_dis hO h0 hai (ha i hi) (nrB I L c0 i) (7 * iM I) (Nat.le_refl _)).2
  rw [← nrB_s (ha i hi)] at hdis
  by_cases q : k < k'
  · exact absurd h2 (hdis k k' hki.1 q hki'.2)
  · by_cases r : k' < k
    · exact absurd h2.symm (hdis k' k hki'.1 r hki.2)
    · omega
theorem roomy {I : Isl} {L c0 : Nat} (hO : IOK I) (h0 : OKc I L c0) : Roomy I L c0 :=
  ⟨fun e ha => Nat.le_trans (bfs_inv hO h0 e ha).cnt (cnt_ok hO), fun e ha => near_le hO h0 ha⟩

