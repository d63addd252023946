/-! ===== steps are taken back; who is one step away ===== -/
theorem may_back {I : Isl} {w : Nat → Nat} {L t to : Nat} (hO : IOK I) (hv : VS I w L) (ht : t < iM I) (hm : mayF I w L t to) : mayF I (upW w t to) L t (w t) := by
  have hv2 := VS_step hO hv ht hm
  obtain ⟨hp, hne, hc⟩ := hm
  have hwt := hv.1 t ht
  have hw := hv.ok hO
  have hwh := whomF_le hw ht
  have hP := hO.1
  have hfit : w t ≤ 4 → to ≠ w t → fitF I (upW w t to) L t (w t) := by
    intro h4 hn
    unfold fitF
    by_cases h : w t = 4
    · exact Or.inl h
    · refine Or.inr ?_
      have k := load_up (I := I) (w := w) (to := to) ht (w t)
      rw [if_pos rfl, if_neg hn] at k
      have hpl := hwt.1
      unfold plcF at hpl
      have := hv.2.2 (w t) (by omega)
      omega
  refine ⟨hwt.1, by rw [upW_eq]; exact fun e => hne e.symm, ?_⟩
  rw [upW_eq]
  by_cases h5 : 5 ≤ to
  · rw [if_pos h5]
    have h5w : ¬ 5 ≤ w t := fun q => by rw [if_pos q] at hc; omega
    rw [if_neg h5w, if_pos h5] at hc
    have hb : to - 5 < iB I := by unfold plcF at hp; omega
    have hg := hO.2.2.2.2.2.1 (to - 5) hb
    have hgt : ¬ iG I (to - 5) = t := fun e => hc.1 (by rw [← e]; exact hg.2)
    refine ⟨?_, hfit (by omega) hne⟩
    unfold whomF
    rw [upW_eq, if_neg (by omega), upW_ne hgt]
    exact hc.2.2.1.symm
  · rw [if_neg h5]
    by_cases h5w : 5 ≤ w t
    · rw [if_pos h5w]
      rw [if_pos h5w] at hc
      have hb : w t - 5 < iB I := by have := hw.1 t ht; omega
      have hg := hO.2.2.2.2.2.1 (w t - 5) hb
      have hnb : ¬ bagK (iK I t) := fun q => by have := hwt.2.2 q; omega
      have hgt : ¬ iG I (w t - 5) = t := fun e => hnb (by rw [← e]; exact hg.2)
      refine ⟨hnb, fun q => by have := hwt.2.1 q; omega, ?_, ?_⟩
      · rw [upW_ne hgt]
        have e := hc.1
        unfold whomF at e
        rw [if_neg (by omega)] at e
        exact e.symm
      · have k := ins_up (I := I) (w := w) (to := to) ht (w t - 5)
        rw [if_pos (show w t = 5 + (w t - 5) by omega), if_neg (show ¬ to = 5 + (w t - 5) by omega)] at k
        have := hv.2.1 (w t - 5) hb
        omega
    · rw [if_neg h5w]
      by_cases h4 : w t = 4
      · rw [if_pos h4]
        exact fun q => by have := hwt.2.1 q; omega
      · rw [if_neg h4]
        exact hfit (by omega) hne
theorem digF_lt (c t : Nat) : digF c t < 7 := Nat.mod_lt _ (by decide)
theorem mayF_congr {I : Isl} (hO : IOK I) {w w' : Nat → Nat} {L t to : Nat} (h : ∀ u, u < iM I → w' u = w u) (ht : t < iM I) (hw : WOK I w) : mayF I w' L t to ↔ mayF I w L t to := by
  have el : ∀ p, loadF I w' p = loadF I w p := fun p => sm_congr fun i hi => by rw [h i hi]
  have ei : ∀ b, insF I w' b = insF I w b := fun b => sm_congr fun i hi => by rw [h i hi]
  unfold mayF fitF whomF
  rw [h t ht]
  by_cases hp : plcF I to
  · by_cases h5 : 5 ≤ w t
    · have hb : w t - 5 < iB I := by have := hw.1 t ht; omega
      rw [if_pos h5, if_pos h5, el, h _ (hO.2.2.2.2.2.1 _ hb).1]
    · rw [if_neg h5, if_neg h5]
      by_cases h6 : 5 ≤ to
      · have hb : to - 5 < iB I := by have := hO.1; unfold plcF at hp; omega
        rw [if_pos h6, if_pos h6, ei, h _ (hO.2.2.2.2.2.1 _ hb).1]
      · rw [if_neg h6, if_neg h6, el]
  · exact ⟨fun q => absurd q.1 hp, fun q => absurd q.1 hp⟩
/-- the step back, as a number -/
theorem mb_back {I : Isl} {L c s : Nat} (hO : IOK I) (h : OKc I L c) (hs : s < 7 * iM I) (hm : mb I L c s = true) : 7 * (s / 7) + digF c (s / 7) < 7 * iM I ∧ mb I L (nx I c s) (7 * (s / 7) + digF c (s / 7)) = true ∧ nx I (nx I c s) (7 * (s / 7) + digF c (s / 7)) = c := by
  have ht : s / 7 < iM I := by omega
  have hd := digF_lt c (s / 7)
  have hm2 := mb_iff.mp hm
  have hv2 := VS_step hO h.2 ht hm2
  have hw7 := (hv2.ok hO).w7 hO
  have hdig : ∀ u, u < iM I → digF (nx I c s) u = upW (digF c) (s / 7) (s % 7) u := fun u hu => dig_code hw7 u hu
  refine ⟨by omega, mb_iff.mpr ?_, ?_⟩
  · rw [show (7 * (s / 7) + digF c (s / 7)) / 7 = s / 7 by omega, show (7 * (s / 7) + digF c (s / 7)) % 7 = digF c (s / 7) by omega]
    exact (mayF_congr hO hdig ht (hv2.ok hO)).mpr (may_back hO h.2 ht hm2)
  · have e : codeN (iM I) (upW (digF (nx I c s)) (s / 7) (digF c (s / 7))) = codeN (iM I) (digF c) := by
      refine sm_congr fun u hu => ?_
      by_cases q : u = s / 7
      · rw [q, upW_eq]
      · rw [upW_ne q, hdig u hu, upW_ne q]
    show codeF I (upW (digF (nx I c s)) ((7 * (s / 7) + digF c (s / 7)) / 7) ((7 * (s / 7) + digF c (s / 7)) % 7)) = c
    rw [show (7 * (s / 7) + digF c (s / 7)) / 7 = s / 7 by omega, show (7 * (s / 7) + digF c (s / 7)) % 7 = digF c (s / 7) by omega]
    exact e.trans (code_dig h.1)
/-- one step leads from the i-th to the j-th -/
def adjR (I : Isl) (L : Nat) (R : Rs) (i j : Nat) : Prop := ∃ s, s < 7 * iM I ∧ mb I L (rK R i) s = true ∧ nx I (rK R i) s = rK R j
theorem adjR_sym {I : Isl} {L c0 i j : Nat} (hO : IOK I) (h0 : OKc I L c0) (hi : i < rC (fR I L c0)) (h : adjR I L (fR I L c0) i j) : adjR I L (fR I L c0) j i := by
  obtain ⟨s, s1, s2, s3⟩ := h
  have hb := mb_back hO ((fR_inv hO h0).2.2.1 i hi) s1 s2
  rw [s3] at hb
  exact ⟨_, hb.1, hb.2.1, hb.2.2⟩
theorem adjR_ne {I : Isl} {L c0 i : Nat} (hO : IOK I) (h0 : OKc I L c0) (hi : i < rC (fR I L c0)) : ¬ adjR I L (fR I L c0) i i := by
  rintro ⟨s, s1, s2, s3⟩
  have hok := (fR_inv hO h0).2.2.1 i hi
  have hv2 := VS_step hO hok.2 (t := s / 7) (to := s % 7) (by omega) (mb_iff.mp s2)
  have e := dig_code ((hv2.ok hO).w7 hO) (s / 7) (by omega)
  have e2 : digF (nx I (rK (fR I L c0) i) s) (s / 7) = s % 7 := e.trans (upW_eq _ _ _)
  rw [s3] at e2
  exact (mb_iff.mp s2).2.1 e2.symm
theorem adj_depth {I : Isl} {L c0 i j : Nat} (hO : IOK I) (h0 : OKc I L c0) (hi : i < rC (fR I L c0)) (hj : j < rC (fR I L c0)) (h : adjR I L (fR I L c0) i j) : rD (fR I L c0) j ≤ rD (fR I L c0) i + 1 := by
  obtain ⟨s, s1, s2, s3⟩ := h
  have hv := fR_inv hO h0
  obtain ⟨k, k1, k2, k3⟩ := hv.2.2.2.2.1 i s hi (Or.inl (by have := (bN_ok hO h0).2; omega)) s1 s2
  have e : k = j := hv.2.1 k j k1 hj (k2.trans s3)
  subst e
  by_cases k0 : k = 0
  · rw [k0, hv.1.2.2]; omega
  · have h4 := hv.2.2.2.1 k (by omega) k1
    have := hv.mono i hi (rB (fR I L c0) k) (by omega)
    omega
/-! the near pairs -/
theorem Pre.inj {R R' : Rs} (h : Pre R R') {c j : Nat} (hin : rIn R c) (hinj : ∀ j k, j < rC R' → k < rC R' → rK R' j = rK R' k → j = k) : ixR R c = ixR R' c := by
  have a := ixR_ok hin
  have b := ixR_ok (R := R') (c := c) ⟨ixR R c, Nat.lt_of_lt_of_le a.1 h.1, (h.2 _ a.1).1.trans a.2⟩
  exact hinj _ _ (Nat.lt_of_lt_of_le a.1 h.1) b.1 (((h.2 _ a.1).1.trans a.2).trans b.2.symm)
/-- what lies between two ends -/
theorem neS_set {I : Isl} {L c0 i : Nat} (hO : IOK I) (h0 : OKc I L c0) (ha : alive I L c0 i) (hi : i < rC (bfs I L c0 i)) (N : Nr) : ∀ s, s ≤ 7 * iM I →
    (∀ k, k < N.1 → (neS I L i (bfs I L c0 i) N s).2 k = N.2 k) ∧ N.1 ≤ (neS I L i (bfs I L c0 i) N s).1 ∧
    (∀ k, N.1 ≤ k → k < (neS I L i (bfs I L c0 i) N s).1 → (neS I L i (bfs I L c0 i) N s).2 k < i ∧ adjR I L (fR I L c0) i ((neS I L i (bfs I L c0 i) N s).2 k)) ∧
    ∀ s', s' < s → mb I L (rK (fR I L c0) i) s' = true → ∀ j, j < i → rK (fR I L c0) j = nx I (rK (fR I L c0) i) s' → ∃ k, N.1 ≤ k ∧ k < (neS I L i (bfs I L c0 i) N s).1 ∧ (neS I L i (bfs I L c0 i) N s).2 k = j
  | 0, _ => ⟨fun k hk => rfl, Nat.le_refl _, fun k h1 h2 => by have : k < N.1 := h2; omega, fun s' h => absurd h (Nat.not_lt_zero s')⟩
  | s + 1, hs => by
    obtain ⟨h1, h2, h3, h4⟩ := neS_set hO h0 ha hi N s (by omega)
    have hpf := fR_pre hO h0 ha
    have hki := (hpf.2 i hi).1
    have ha1 := alive_s ha hi
    have hpf1 := fR_pre hO h0 ha1
    have hxs := xpS_le I L i (bfs I L c0 i) (s + 1) (7 * iM I - (s + 1))
    rw [show s + 1 + (7 * iM I - (s + 1)) = 7 * iM I by omega, ← bfs_s hi] at hxs
    have hpp := hxs.trans hpf1
    have hinj := (fR_inv hO h0).2.1
    by_cases hm : mb I L (rK (bfs I L c0 i) i) s = true
    · have hin : rIn (xpS I L i (bfs I L c0 i) (s + 1)) (nx I (rK (bfs I L c0 i) i) s) := by rw [xpS_t hm]; exact rIn_ch
      have hx := ixR_ok hin
      have hxl := Nat.lt_of_lt_of_le hx.1 hpp.1
      have hxk : rK (fR I L c0) (ixR (xpS I L i (bfs I L c0 i) (s + 1)) (nx I (rK (bfs I L c0 i) i) s)) = nx I (rK (fR I L c0) i) s := by rw [(hpp.2 _ hx.1).1, hx.2, hki]
      rw [neS_t hm]
      generalize ixR (xpS I L i (bfs I L c0 i) (s + 1)) (nx I (rK (bfs I L c0 i) i) s) = x at hxl hxk
      generalize neS I L i (bfs I L c0 i) N s = A at h1 h2 h3 h4 ⊢
      unfold nrM
      by_cases hxi : x < i
      · rw [if_pos hxi]
        have eA : ∀ k, k < A.1 → upW A.2 A.1 x k = A.2 k := fun k hk => upW_ne (by omega)
        refine ⟨fun k hk => ?_, by show N.1 ≤ A.1 + 1; omega, fun k k1 k2 => ?_, fun s' hs' hm' j hj he => ?_⟩
        · show upW A.2 A.1 x k = N.2 k
          rw [eA k (by omega)]; exact h1 k hk
        · show upW A.2 A.1 x k < i ∧ adjR I L (fR I L c0) i (upW A.2 A.1 x k)
          have k2' : k < A.1 + 1 := k2
          by_cases q : k = A.1
          · rw [q, upW_eq]
            exact ⟨hxi, s, by omega, by rw [hki]; exact hm, hxk.symm⟩
          · rw [eA k (by omega)]; exact h3 k k1 (by omega)
        · by_cases q : s' = s
          · subst q
            refine ⟨A.1, by omega, Nat.lt_succ_self _, ?_⟩
            show upW A.2 A.1 x A.1 = j
            rw [upW_eq]
            exact hinj x j hxl (by have := hpf.1; omega) (hxk.trans he.symm)
          · obtain ⟨k, k1, k2, k3⟩ := h4 s' (by omega) hm' j hj he
            exact ⟨k, k1, Nat.lt_succ_of_lt k2, (eA k k2).trans k3⟩
      · rw [if_neg hxi]
        refine ⟨h1, h2, h3, fun s' hs' hm' j hj he => ?_⟩
        by_cases q : s' = s
        · subst q
          have := hinj x j hxl (by have := hpf.1; omega) (hxk.trans he.symm)
          omega
        · exact h4 s' (by omega) hm' j hj he
    · rw [neS_f hm]
      refine ⟨h1, h2, h3, fun s' hs' hm' j hj he => ?_⟩
      by_cases q : s' = s
      · rw [q, hki] at hm'; exact absurd hm' hm
      · exact h4 s' (by omega) hm' j hj he
/-- the near pairs of the i-th: those before it one step away -/
theorem nrB_set {I : Isl} {L c0 i e : Nat} (hO : IOK I) (h0 : OKc I L c0) (ha : alive I L c0 e) (hie : i < e) :
    (nrB I L c0 i).1 ≤ (nrB I L c0 (i + 1)).1 ∧ (∀ k, (nrB I L c0 i).1 ≤ k → k < (nrB I L c0 (i + 1)).1 → (nrB I L c0 (i + 1)).2 k < i ∧ adjR I L (fR I L c0) i ((nrB I L c0 (i + 1)).2 k)) ∧
    ∀ j, j < i → adjR I L (fR I L c0) i j → ∃ k, (nrB I L c0 i).1 ≤ k ∧ k < (nrB I L c0 (i + 1)).1 ∧ (nrB I L c0 (i + 1)).2 k = j := by
  have hai : alive I L c0 i := fun e' h => ha e' (by omega)
  have h := neS_set hO h0 hai (ha i hie) (nrB I L c0 i) (7 * iM I) (Nat.le_refl _)
  rw [← nrB_s (ha i hie)] at h
  exact ⟨h.2.1, h.2.2.1, fun j hj ⟨s, s1, s2, s3⟩ => h.2.2.2 s s1 s2 j hj s3.symm⟩
theorem nrB_keep {I : Isl} {L c0 i : Nat} (hO : IOK I) (h0 : OKc I L c0) : ∀ d, alive I L c0 (i + d) → (nrB I L c0 i).1 ≤ (nrB I L c0 (i + d)).1 ∧ ∀ k, k < (nrB I L c0 i).1 → (nrB I L c0 (i + d)).2 k = (nrB I L c0 i).2 k
  | 0, _ => ⟨Nat.le_refl _, fun _ _ => rfl⟩
  | d + 1, ha => by
    have ih := nrB_keep (i := i) hO h0 d (fun e' h => ha e' (by omega))
    have hal : alive I L c0 (i + d) := fun e' h => ha e' (by omega)
    have hlt := ha (i + d) (by omega)
    have h := neS_set hO h0 hal hlt (nrB I L c0 (i + d)) (7 * iM I) (Nat.le_refl _)
    rw [← nrB_s hlt] at h
    exact ⟨Nat.le_trans ih.1 h.2.1, fun k hk => (h.1 k (by omega)).trans (ih.2 k hk)⟩

