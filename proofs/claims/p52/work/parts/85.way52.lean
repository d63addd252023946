/-! ===== pure: how far a state can be with four things; distances along the first row of the fewest ===== -/
theorem mis_cnt {I : Isl} {k : Nat} {x y : Nat → Nat} : mis I k x y ≤ sm (fun t => if iK I t = k then 1 else 0) (iM I) := dq_mono fun t _ => by
  by_cases q : iK I t = k
  · rw [if_pos q]; split <;> decide
  · rw [if_neg q, if_neg (fun r => q r.1)]; exact Nat.le_refl _
theorem cnt52 {I : Isl} : sm (fun t => if iK I t = 5 then 1 else 0) (iM I) + sm (fun t => if iK I t = 2 then 1 else 0) (iM I) ≤ iM I := by
  rw [← dq_plus]
  have : sm (fun t => (if iK I t = 5 then 1 else 0) + (if iK I t = 2 then 1 else 0)) (iM I) ≤ 1 * iM I := sm_le fun t _ => by
    by_cases q : iK I t = 5
    · rw [if_pos q, if_neg (by omega)]; exact Nat.le_refl _
    · rw [if_neg q]; split <;> decide
  omega
theorem cnt52n {I : Isl} {u : Nat} (hu : u < iM I) (hl : ¬ livK (iK I u)) : sm (fun t => if iK I t = 5 then 1 else 0) (iM I) + sm (fun t => if iK I t = 2 then 1 else 0) (iM I) + 1 ≤ iM I := by
  rw [← dq_plus]
  have h1 : sm (fun _ => 1) (iM I) ≤ 1 * iM I := sm_le fun t _ => Nat.le_refl _
  have h2 := dq_lt (f := fun t => (if iK I t = 5 then 1 else 0) + (if iK I t = 2 then 1 else 0)) (g := fun _ => 1) (u := u) (d := 1) (n := iM I) (fun t _ => by
    by_cases q : iK I t = 5
    · rw [if_pos q, if_neg (by omega)]; exact Nat.le_refl _
    · rw [if_neg q]; split <;> decide) hu (by
    rw [if_neg (fun q => hl (Or.inr q)), if_neg (fun q => hl (Or.inl q))]; exact Nat.le_refl _)
  omega
theorem to_beach8 {I : Isl} {L : Nat} (hO : IOK I) {w : Nat → Nat} (hv : VS I w L) : ∃ x, dst I L (iM I + iM I) w x ∧ BS I L x ∧ ∀ t, livK (iK I t) → x t = w t := by
  obtain ⟨v, a1, a2, _, a4, a5⟩ := sweep hO (P := fun t => bagK (iK I t)) (G := fun _ => True) (fun v hv _ t ht hp h4 => may_beach hO hv ht (bag_nliv hp) (fun b hb e => by have := (hv.1 t ht).2.2 hp; omega) h4) (fun _ _ _ _ => trivial) hv trivial (iM I) (Nat.le_refl _)
  obtain ⟨x, b1, b2, _, b4, b5⟩ := sweep hO (P := fun t => ¬ bagK (iK I t) ∧ ¬ livK (iK I t)) (G := fun v => ∀ t, t < iM I → bagK (iK I t) → v t = 4) (fun v hv hg t ht hp h4 => may_beach hO hv ht hp.2 (fun b hb e => hg _ (hO.2.2.2.2.2.1 b hb).1 (hO.2.2.2.2.2.1 b hb).2) h4) (fun v t hg hp u hu hb => by
    by_cases e : u = t
    · rw [e, upW_eq]
    · rw [upW_ne e]; exact hg u hu hb) a2 (fun t ht hb => a5 t ht hb) (iM I) (Nat.le_refl _)
  refine ⟨x, a1.trans hO hv b1, ⟨b2, fun t ht hl => ?_⟩, fun t hl => ?_⟩
  · by_cases q : bagK (iK I t)
    · rw [b4 t (fun r => r.2.1 q)]; exact a5 t ht q
    · exact b5 t ht ⟨q, hl⟩
  · rw [b4 t (fun r => r.2.2 hl), a4 t (fun r => bag_nliv r.2 hl)]
theorem key34 {I : Isl} {L n : Nat} (hO : IOK I) {w w' x y : Nat → Nat} (hv : VS I w L) (h : pth I L n w w') (a2 : BS I L x) (a3 : ∀ t, livK (iK I t) → x t = w t) (b2 : BS I L y) (b3 : ∀ t, livK (iK I t) → y t = w' t) :
    dst I L (6 * sm (fun t => if iK I t = 5 then 1 else 0) (iM I) + 2 * sm (fun t => if iK I t = 2 then 1 else 0) (iM I)) x y := by
  by_cases q : WL I + 2 ≤ L * iP I ∧ JL I + 1 ≤ L / 2 * iP I
  · obtain ⟨x1, c1, c2, c3⟩ := beasts_go hO q.1 q.2 b2 _ x a2 mis_cnt
    exact c1.trans hO a2.1 (lights_go hO (by omega) b2 _ x1 c2 c3 mis_cnt)
  · have h5 : ∀ t, t < iM I → iK I t = 5 → w' t = w t := stay hO (P := fun t => iK I t = 5) (fun t k => lv5 k) (fun t ht k v p hv hm => q (by
      have := room_of hO hv ht (lv5 k) hm
      rw [wt5 k] at this
      exact ⟨this.1, this.2 k⟩)) n w hv h
    have h5' : mis I 5 x y = 0 := sm_zero fun t ht => if_neg fun r => r.2 (by rw [a3 t (lv5 r.1), b3 t (lv5 r.1), h5 t ht r.1])
    by_cases r : WL I + 1 ≤ L * iP I
    · exact (lights_go hO r b2 _ x a2 h5' mis_cnt).le (by omega)
    · have h2 : ∀ t, t < iM I → livK (iK I t) → w' t = w t := stay hO (P := fun t => livK (iK I t)) (fun t k => k) (fun t ht k v p hv hm => r (by
        have := (room_of hO hv ht k hm).1
        have := wt_pos (iK I t)
        omega)) n w hv h
      exact dst.zero (fun t ht => by
        by_cases z : livK (iK I t)
        · rw [a3 t z, b3 t z, h2 t ht z]
        · rw [a2.2 t ht z, b2.2 t ht z])
theorem geo34 {I : Isl} {L n : Nat} (hO : IOK I) (h4 : iM I ≤ 4) {w w' : Nat → Nat} (hv : VS I w L) (h : pth I L n w w') : dst I L 34 w w' := by
  have hv' := h.vs hO hv
  by_cases q : ∃ u, u < iM I ∧ ¬ livK (iK I u)
  · obtain ⟨u, hu, hl⟩ := q
    obtain ⟨x, a1, a2, a3⟩ := to_beach8 hO hv
    obtain ⟨y, b1, b2, b3⟩ := to_beach8 hO hv'
    have key := key34 hO hv h a2 a3 b2 b3
    have hc := cnt52n hu hl
    exact (a1.trans hO hv (key.trans hO a2.1 (b1.back hO hv'))).le (by omega)
  · have hall : ∀ t, t < iM I → livK (iK I t) := fun t ht => Classical.byContradiction fun r => q ⟨t, ht, r⟩
    have key := key34 hO hv h (x := w) (y := w') ⟨hv, fun t ht r => absurd (hall t ht) r⟩ (fun _ _ => rfl) ⟨hv', fun t ht r => absurd (hall t ht) r⟩ (fun _ _ => rfl)
    have hc := cnt52 (I := I)
    exact key.le (by omega)
theorem code_ext {I : Isl} {L c c' : Nat} (h : OKc I L c) (h' : OKc I L c') (e : ∀ t, t < iM I → digF c t = digF c' t) : c = c' := by
  have hc1 := code_dig h.1
  have hc2 := code_dig h'.1
  rw [← hc1, ← hc2]
  exact sm_congr fun t ht => by rw [e t ht]
theorem depth34 {I : Isl} {L c0 : Nat} (hO : IOK I) (h4 : iM I ≤ 4) (h0 : OKc I L c0) : ∀ j, j < rC (fR I L c0) → rD (fR I L c0) j ≤ 34 := fun j hj => by
  have hinv := fR_inv hO h0
  obtain ⟨n, hn⟩ := R_pth hO h0 j hj
  obtain ⟨k, k1, k2⟩ := geo34 hO h4 h0.2 hn
  obtain ⟨j', a, b, c⟩ := pth_R hO h0 k (digF c0) 0 hinv.1.1 (fun t ht => by rw [hinv.1.2.1]) k2
  have e := code_ext (hinv.2.2.1 j hj) (hinv.2.2.1 j' a) b
  have : j = j' := hinv.2.1 j j' hj a e
  rw [hinv.1.2.2] at c
  rw [this]
  omega
/-- the row of steps to the j-th is as long as its depth -/
theorem R_pthD {I : Isl} {L c0 : Nat} (hO : IOK I) (h0 : OKc I L c0) : ∀ j, j < rC (fR I L c0) → pth I L (rD (fR I L c0) j) (digF c0) (digF (rK (fR I L c0) j)) := by
  intro j
  induction j using Nat.strongRecOn with
  | _ j ih =>
    intro hj
    have hinv := fR_inv hO h0
    by_cases q : j = 0
    · rw [q, hinv.1.2.1, hinv.1.2.2]
      exact fun _ _ => rfl
    · obtain ⟨a, b, c, d, e, -⟩ := hinv.2.2.2.1 j (by omega) hj
      have hn := ih _ a (by omega)
      have hok := hinv.2.2.1 (rB (fR I L c0) j) (by omega)
      have hm := mb_iff.mp c
      have ht : rY (fR I L c0) j / 7 < iM I := by omega
      have hv2 := VS_step hO hok.2 ht hm
      rw [e]
      refine hn.trans hO h0.2 ⟨_, _, ht, hm, fun u hu => ?_⟩
      rw [← d]
      exact dig_code ((hv2.ok hO).w7 hO) u hu
theorem rD_0 {I : Isl} {L c0 : Nat} (hO : IOK I) (h0 : OKc I L c0) {j : Nat} (hj : j < rC (fR I L c0)) (h : rD (fR I L c0) j = 0) : j = 0 := Classical.byContradiction fun q => by
  have := ((fR_inv hO h0).2.2.2.1 j (by omega) hj).2.2.2.2.1
  omega
/-- one step of the way -/
theorem way_step {I : Isl} {L c0 i k : Nat} (hO : IOK I) (h0 : OKc I L c0) (hi : i < rC (fR I L c0)) (hk : k < rD (fR I L c0) i) :
    rY (fR I L c0) (upR (fR I L c0) i k) < 7 * iM I ∧ mb I L (rK (fR I L c0) (upR (fR I L c0) i (k + 1))) (rY (fR I L c0) (upR (fR I L c0) i k)) = true ∧ nx I (rK (fR I L c0) (upR (fR I L c0) i (k + 1))) (rY (fR I L c0) (upR (fR I L c0) i k)) = rK (fR I L c0) (upR (fR I L c0) i k) := by
  have hu := upR_d hO h0 hi k (by omega)
  have hv := fR_inv hO h0
  have hne : ¬ upR (fR I L c0) i k = 0 := fun q => by rw [q, hv.1.2.2] at hu; omega
  obtain ⟨a, b, c, d, -, -⟩ := hv.2.2.2.1 (upR (fR I L c0) i k) (by omega) (by omega)
  exact ⟨b, c, d⟩
theorem nx_pth {I : Isl} {L c s n : Nat} {w' : Nat → Nat} (hO : IOK I) (h : OKc I L c) (hs : s < 7 * iM I) (hm : mb I L c s = true) (hp : pth I L n (digF (nx I c s)) w') : pth I L (n + 1) (digF c) w' := by
  have hm2 := mb_iff.mp hm
  have hv2 := VS_step hO h.2 (by omega) hm2
  exact ⟨s / 7, s % 7, by omega, hm2, pth.congr hO (nx_ok hO h hs hm).2 (fun u hu => (nx_dig hO h hs hm u hu).symm) hp⟩
theorem way_pth {I : Isl} {L c0 i : Nat} (hO : IOK I) (h0 : OKc I L c0) (hi : i < rC (fR I L c0)) : ∀ k, k ≤ rD (fR I L c0) i → pth I L k (digF (rK (fR I L c0) (upR (fR I L c0) i k))) (digF (rK (fR I L c0) i))
  | 0, _ => fun _ _ => rfl
  | k + 1, hk => by
    have ih := way_pth hO h0 hi k (by omega)
    obtain ⟨a, b, c⟩ := way_step hO h0 hi (show k < _ by omega)
    have hu := upR_d hO h0 hi (k + 1) hk
    refine nx_pth hO ((fR_inv hO h0).2.2.1 _ (by omega)) a b ?_
    rw [c]
    exact ih
/-- the first of the search's states that W holds of -/
def fstW (I : Isl) (L c0 : Nat) (W : Nat → Prop) (i : Nat) : Prop := i < rC (fR I L c0) ∧ W (rK (fR I L c0) i) ∧ ∀ j, j < i → ¬ W (rK (fR I L c0) j)
theorem fst_ex {P : Nat → Prop} : ∀ n : Nat, P n → ∃ i, i ≤ n ∧ P i ∧ ∀ j, j < i → ¬ P j := by
  intro n
  induction n using Nat.strongRecOn with
  | _ n ih =>
    intro h
    by_cases q : ∃ j, j < n ∧ P j
    · obtain ⟨j, hj, hp⟩ := q
      obtain ⟨i, a, b⟩ := ih j hj hp
      exact ⟨i, by omega, b⟩
    · exact ⟨n, Nat.le_refl _, h, fun j hj hp => q ⟨j, hj, hp⟩⟩
theorem fstW.one {I : Isl} {L c0 : Nat} {W : Nat → Prop} {i j : Nat} (h : fstW I L c0 W i) (h' : fstW I L c0 W j) : i = j := by
  rcases Nat.lt_trichotomy i j with q | q | q
  · exact absurd h.2.1 (h'.2.2 i q)
  · exact q
  · exact absurd h'.2.1 (h.2.2 j q)
theorem way_dist {I : Isl} {L c0 : Nat} {W : Nat → Prop} {i : Nat} (hO : IOK I) (h0 : OKc I L c0) (h : fstW I L c0 W i) {k : Nat} (hk : k ≤ rD (fR I L c0) i) :
    ∃ i', fstW I L (rK (fR I L c0) (upR (fR I L c0) i k)) W i' ∧ rD (fR I L (rK (fR I L c0) (upR (fR I L c0) i k))) i' = k := by
  obtain ⟨hi, hW, hf⟩ := h
  have hv := fR_inv hO h0
  have hu := upR_d hO h0 hi k hk
  have hul : upR (fR I L c0) i k < rC (fR I L c0) := by omega
  have hp := way_pth hO h0 hi k hk
  have hq := R_pthD hO h0 _ hul
  have hc := hv.2.2.1 _ hul
  have hud := hu.2
  generalize upR (fR I L c0) i k = a at hul hp hq hc hud ⊢
  generalize rK (fR I L c0) a = c at hp hq hc ⊢
  have hv2 := fR_inv hO hc
  obtain ⟨j, j1, j2, j3⟩ := pth_R hO hc k (digF c) 0 hv2.1.1 (fun t ht => by rw [hv2.1.2.1]) hp
  rw [hv2.1.2.2] at j3
  have ej := code_ext (hv.2.2.1 i hi) (hv2.2.2.1 j j1) j2
  obtain ⟨i', b1, b2, b3⟩ := fst_ex (P := fun x => W (rK (fR I L c) x)) j (by rw [← ej]; exact hW)
  have b0 : i' < rC (fR I L c) := by omega
  refine ⟨i', ⟨b0, b2, b3⟩, ?_⟩
  have m1 := hv2.mono j j1 i' b1
  have hr := R_pthD hO hc i' b0
  obtain ⟨j', k1, k2, k3⟩ := pth_R hO h0 _ (digF c0) 0 hv.1.1 (fun t ht => by rw [hv.1.2.1]) (hq.trans hO h0.2 hr)
  rw [hv.1.2.2] at k3
  have ej' := code_ext (hv2.2.2.1 i' b0) (hv.2.2.1 j' k1) k2
  have hle : i ≤ j' := Nat.not_lt.mp fun q => hf j' q (by rw [← ej']; exact b2)
  have m2 := hv.mono j' k1 i hle
  omega
