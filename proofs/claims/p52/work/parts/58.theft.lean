/-! ===== theft ===== -/
/-- whether one alone can do it, and what comes of it -/
def thB (I : Isl) (L p : Nat) (w : Nat → Nat) (s : Nat) : Prop := (s % 7 < iP I ∧ ¬ s % 7 = p ∧ w (s / 7) = p ∧ ¬ dfF I w L (s / 7) (s % 7) = -9) ∨ (s % 7 = p ∧ w (s / 7) = 4 ∧ fitF I w L (s / 7) p) ∨ (s % 7 = 4 ∧ w (s / 7) = p ∧ ¬ livK (iK I (s / 7)))
noncomputable def thW (I : Isl) (L p : Nat) (w : Nat → Nat) (s : Nat) : Nat → Nat := i2 (s % 7 < iP I ∧ ¬ s % 7 = p) (upW (dpW I w L (s / 7) (s % 7) (iM I)) (s / 7) (s % 7)) (upW w (s / 7) (s % 7))
noncomputable def thX (I : Isl) (L p c s : Nat) : Nat := codeF I (thW I L p (digF c) s)
theorem drF_in {I : Isl} {w : Nat → Nat} {q : Nat} {o0 : Int} : ∀ {i u : Nat}, (drF I w q o0 i).2.testBit u = true → u < i ∧ w u = q ∧ ¬ livK (iK I u)
  | 0, u, h => by rw [drF, Nat.zero_testBit] at h; cases h
  | i + 1, u, h => by
    by_cases c : 0 < (drF I w q o0 i).1 ∧ w i = q ∧ ¬ livK (iK I i)
    · rw [drF_t c.1 c.2.1 c.2.2] at h
      have h' : ((drF I w q o0 i).2 ||| 1 * 2 ^ i).testBit u = true := h
      rw [Nat.testBit_or, Bool.or_eq_true, Nat.one_mul] at h'
      rcases h' with k | k
      · have := drF_in k
        exact ⟨by omega, this.2⟩
      · have e : u = i := by
          rcases Nat.lt_trichotomy u i with z | z | z
          · rw [Nat.testBit_two_pow_of_ne (by omega)] at k; cases k
          · exact z
          · rw [Nat.testBit_two_pow_of_ne (by omega)] at k; cases k
        subst e
        exact ⟨by omega, c.2⟩
    · rw [drF_f c] at h
      have := drF_in h
      exact ⟨by omega, this.2⟩
theorem dpW_VS {I : Isl} {w : Nat → Nat} {L t q : Nat} (hO : IOK I) (hv : VS I w L) : ∀ {i : Nat}, i ≤ iM I → VS I (dpW I w L t q i) L := by
  intro i
  induction i with
  | zero => intro _; rw [dpW_0]; exact hv
  | succ i ih =>
    intro hi
    have h1 := ih (by omega)
    by_cases c : 0 < (drF I w q (ovF I w L t q) i).1 ∧ w i = q ∧ ¬ livK (iK I i)
    · have e : dpW I w L t q (i + 1) = upW (dpW I w L t q i) i 4 := by
        funext j
        unfold dpW upW
        rw [drF_t c.1 c.2.1 c.2.2]
        show (if ((drF I w q (ovF I w L t q) i).2 ||| 1 * 2 ^ i).testBit j = true then 4 else w j) = _
        rw [Nat.testBit_or, Nat.one_mul]
        by_cases hj : j = i
        · subst hj
          rw [Nat.testBit_two_pow_self, Bool.or_true, if_pos rfl, if_pos rfl]
        · rw [Nat.testBit_two_pow_of_ne (fun k => hj k.symm), Bool.or_false, if_neg hj]
      rw [e]
      have hP := hO.1
      have hwi := h1.1 i (by omega)
      refine ⟨fun u hu => ?_, fun b hb => ?_, fun p hp => ?_⟩
      · by_cases hui : u = i
        · subst hui
          rw [upW_eq]
          exact ⟨Or.inr ⟨Nat.le_refl 4, by omega⟩, fun k => absurd k c.2.2, fun _ => Nat.le_refl 4⟩
        · rw [upW_ne hui]; exact h1.1 u hu
      · have h := ins_up (I := I) (w := dpW I w L t q i) (to := 4) (show i < iM I by omega) b
        rw [if_neg (show ¬ 4 = 5 + b by omega)] at h
        have := h1.2.1 b hb
        omega
      · have h := load_up (I := I) (w := dpW I w L t q i) (to := 4) (show i < iM I by omega) p
        rw [if_neg (show ¬ 4 = p by omega)] at h
        have := h1.2.2 p hp
        omega
    · have e : dpW I w L t q (i + 1) = dpW I w L t q i := by unfold dpW; rw [drF_f c]
      rw [e]
      exact h1
theorem GInv_all {I : Isl} (hO : IOK I) {w : Nat → Nat} {L t q : Nat} (hq : q < 4) : ∀ {i : Nat}, i ≤ iM I → (loadF I (dpW I w L t q i) q : Int) + (wt (iK I t) : Int) - (L : Int) = (drF I w q (ovF I w L t q) i).1 := by
  intro i
  induction i with
  | zero => intro _; rw [dpW_0]; rfl
  | succ i ih =>
    intro hi
    have h1 := ih (by omega)
    by_cases c : 0 < (drF I w q (ovF I w L t q) i).1 ∧ w i = q ∧ ¬ livK (iK I i)
    · have e : dpW I w L t q (i + 1) = upW (dpW I w L t q i) i 4 := by
        funext j
        unfold dpW upW
        rw [drF_t c.1 c.2.1 c.2.2]
        show (if ((drF I w q (ovF I w L t q) i).2 ||| 1 * 2 ^ i).testBit j = true then 4 else w j) = _
        rw [Nat.testBit_or, Nat.one_mul]
        by_cases hj : j = i
        · subst hj
          rw [Nat.testBit_two_pow_self, Bool.or_true, if_pos rfl, if_pos rfl]
        · rw [Nat.testBit_two_pow_of_ne (fun k => hj k.symm), Bool.or_false, if_neg hj]
      have h := load_up (I := I) (w := dpW I w L t q i) (to := 4) (show i < iM I by omega) q
      rw [dpW_ge hO (Nat.le_refl i), if_pos c.2.1, if_neg (show ¬ 4 = q by omega)] at h
      rw [e, drF_t c.1 c.2.1 c.2.2]
      show _ = (drF I w q (ovF I w L t q) i).1 - (wt (iK I i) : Int)
      omega
    · have e : dpW I w L t q (i + 1) = dpW I w L t q i := by unfold dpW; rw [drF_f c]
      rw [e, drF_f c]
      exact h1
theorem dpW_own {I : Isl} {w : Nat → Nat} {L t q i u : Nat} (h : ¬ w u = q) : dpW I w L t q i u = w u := by
  unfold dpW
  rw [if_neg (fun k => h (drF_in k).2.1)]
theorem th_VS {I : Isl} {L p : Nat} {w : Nat → Nat} {s : Nat} (hO : IOK I) (hv : VS I w L) (hp : p < iP I) (hs : s < 7 * iM I) (h : thB I L p w s) : VS I (thW I L p w s) L := by
  have ht : s / 7 < iM I := by omega
  have hP := hO.1
  -- a thing comes to a place below 5, with room there
  have gen : ∀ (v : Nat → Nat) (to : Nat), VS I v L → v (s / 7) ≤ 4 → plcF I to → to ≤ 4 → (livK (iK I (s / 7)) → to < 4) → (to < 4 → loadF I v to + wt (iK I (s / 7)) ≤ L ∨ v (s / 7) = to) → VS I (upW v (s / 7) to) L := by
    intro v to g1 g2 g3 g4 g5 g6
    refine ⟨fun u hu => ?_, fun b hb => ?_, fun p' hp' => ?_⟩
    · by_cases hut : u = s / 7
      · rw [hut, upW_eq]; exact ⟨g3, g5, fun _ => g4⟩
      · rw [upW_ne hut]; exact g1.1 u hu
    · have k := ins_up (I := I) (w := v) (to := to) ht b
      rw [if_neg (show ¬ to = 5 + b by omega)] at k
      have := g1.2.1 b hb
      omega
    · have k := load_up (I := I) (w := v) (to := to) ht p'
      have k2 := g1.2.2 p' hp'
      by_cases hpt : to = p'
      · rw [if_pos hpt] at k
        have k3 := g6 (by omega)
        rcases k3 with k3 | k3
        · rw [hpt] at k3; omega
        · rw [if_pos (k3.trans hpt)] at k; omega
      · rw [if_neg hpt] at k; omega
  unfold thW
  rcases h with ⟨h1, h2, h3, h4⟩ | ⟨h1, h2, h3⟩ | ⟨h1, h2, h3⟩
  · rw [e2_0 ⟨h1, h2⟩]
    have hd := dpW_VS (t := s / 7) (q := s % 7) hO hv (Nat.le_refl (iM I))
    have ho : dpW I w L (s / 7) (s % 7) (iM I) (s / 7) = p := by rw [dpW_own (by omega)]; exact h3
    refine gen _ _ hd (by omega) (Or.inl h1) (by omega) (fun _ => by omega) (fun _ => Or.inl ?_)
    have g := GInv_all (w := w) (L := L) (t := s / 7) hO (show s % 7 < 4 by omega) (Nat.le_refl (iM I))
    have := (dfF_nz hO).mp h4
    omega
  · rw [e2_1 (fun q => q.2 h1)]
    refine gen w _ hv (by omega) (Or.inl (by omega)) (by omega) (fun hl => by have := (hv.1 _ ht).2.1 hl; omega) (fun _ => ?_)
    unfold fitF at h3
    rw [h1]
    rcases h3 with h3 | h3
    · omega
    · exact Or.inl h3
  · rw [e2_1 (fun q => by omega)]
    exact gen w _ hv (by omega) (Or.inr ⟨by omega, by omega⟩) (by omega) (fun hl => absurd hl h3) (fun _ => by omega)
/-! thefts, one behind the other -/
noncomputable def txS (I : Isl) (L p i : Nat) (R : Rs) : Nat → Rs
  | 0 => R
  | s + 1 => i2 (thB I L p (digF (rK R i)) s) (rch (txS I L p i R s) (thX I L p (rK R i) s) i 0 (rD R i + 1)) (txS I L p i R s)
noncomputable def tfs (I : Isl) (L p M c0 : Nat) : Nat → Rs
  | 0 => r0 c0
  | i + 1 => i2 (i < rC (tfs I L p M c0 i) ∧ rD (tfs I L p M c0 i) i < M) (txS I L p i (tfs I L p M c0 i) (7 * iM I)) (tfs I L p M c0 i)
theorem Pre.tx1 (I : Isl) (L p i : Nat) (R : Rs) (s : Nat) : Pre (txS I L p i R s) (txS I L p i R (s + 1)) := by
  rw [txS]
  by_cases h : thB I L p (digF (rK R i)) s
  · rw [e2_0 h]; exact Pre.ch _ _ _ _ _
  · rw [e2_1 h]; exact Pre.refl _
theorem Pre.tx (I : Isl) (L p i : Nat) (R : Rs) : ∀ s, Pre R (txS I L p i R s)
  | 0 => Pre.refl R
  | s + 1 => (Pre.tx I L p i R s).trans (Pre.tx1 I L p i R s)
theorem Pre.txd (I : Isl) (L p i : Nat) (R : Rs) (s : Nat) : ∀ d, Pre (txS I L p i R s) (txS I L p i R (s + d))
  | 0 => Pre.refl _
  | d + 1 => (Pre.txd I L p i R s d).trans (Pre.tx1 I L p i R (s + d))
theorem Pre.tf1 (I : Isl) (L p M c0 i : Nat) : Pre (tfs I L p M c0 i) (tfs I L p M c0 (i + 1)) := by
  rw [tfs]
  by_cases h : i < rC (tfs I L p M c0 i) ∧ rD (tfs I L p M c0 i) i < M
  · rw [e2_0 h]; exact Pre.tx I L p i _ _
  · rw [e2_1 h]; exact Pre.refl _
theorem Pre.tf (I : Isl) (L p M c0 e : Nat) : ∀ d, Pre (tfs I L p M c0 e) (tfs I L p M c0 (e + d))
  | 0 => Pre.refl _
  | d + 1 => (Pre.tf I L p M c0 e d).trans (Pre.tf1 I L p M c0 (e + d))
/-- all so far can be, no two the same, depths rise -/
def TInv (I : Isl) (L c0 : Nat) (R : Rs) (i : Nat) : Prop :=
  (0 < rC R ∧ rK R 0 = c0 ∧ rD R 0 = 0) ∧ (∀ j k, j < rC R → k < rC R → rK R j = rK R k → j = k) ∧ (∀ j, j < rC R → OKc I L (rK R j)) ∧
  (∀ j, 0 < j → j < rC R → rB R j < j ∧ rB R j ≤ i ∧ rD R j = rD R (rB R j) + 1) ∧ ∀ j k, 0 < j → j ≤ k → k < rC R → rB R j ≤ rB R k
theorem TInv.start {I : Isl} {L c0 : Nat} (h : OKc I L c0) : TInv I L c0 (r0 c0) 0 := by
  have hc : rC (r0 c0) = 1 := rfl
  exact ⟨⟨by rw [hc]; decide, rfl, rfl⟩, fun j k hj hk _ => by rw [hc] at hj hk; omega, fun j hj => h, fun j h0 hj => by rw [hc] at hj; omega, fun j k h0 hjk hk => by rw [hc] at hk; omega⟩
theorem TInv.up {I : Isl} {L c0 i : Nat} {R : Rs} (h : TInv I L c0 R i) : TInv I L c0 R (i + 1) := ⟨h.1, h.2.1, h.2.2.1, fun j h0 hj => by have := h.2.2.2.1 j h0 hj; omega, h.2.2.2.2⟩
theorem TInv.ch {I : Isl} {L c0 i c : Nat} {R : Rs} (h : TInv I L c0 R i) (hi : i < rC R) (hc : OKc I L c) : TInv I L c0 (rch R c i 0 (rD R i + 1)) i := by
  unfold rch
  by_cases hn : rIn R c
  · rw [e2_0 hn]; exact h
  · rw [e2_1 hn]
    obtain ⟨h1, h2, h3, h4, h6⟩ := h
    have hp := (Pre.add R c i 0 (rD R i + 1)).2
    have hcc : rC (rAdd R c i 0 (rD R i + 1)) = rC R + 1 := rfl
    have eK : rK (rAdd R c i 0 (rD R i + 1)) (rC R) = c := upW_eq _ _ _
    have eB : rB (rAdd R c i 0 (rD R i + 1)) (rC R) = i := upW_eq _ _ _
    have eD : rD (rAdd R c i 0 (rD R i + 1)) (rC R) = rD R i + 1 := upW_eq _ _ _
    generalize rAdd R c i 0 (rD R i + 1) = R' at hp hcc eK eB eD ⊢
    refine ⟨⟨by omega, (hp 0 h1.1).1.trans h1.2.1, (hp 0 h1.1).2.2.2.trans h1.2.2⟩, fun j k hj hk e => ?_, fun j hj => ?_, fun j h0 hj => ?_, fun j k h0 hjk hk => ?_⟩
    · by_cases qj : j < rC R
      · by_cases qk : k < rC R
        · rw [(hp j qj).1, (hp k qk).1] at e
          exact h2 j k qj qk e
        · obtain rfl : k = rC R := by omega
          rw [(hp j qj).1, eK] at e
          exact absurd ⟨j, qj, e⟩ hn
      · obtain rfl : j = rC R := by omega
        by_cases qk : k < rC R
        · rw [(hp k qk).1, eK] at e
          exact absurd ⟨k, qk, e.symm⟩ hn
        · omega
    · by_cases qj : j < rC R
      · rw [(hp j qj).1]; exact h3 j qj
      · obtain rfl : j = rC R := by omega
        rw [eK]; exact hc
    · by_cases qj : j < rC R
      · obtain ⟨a, b, d⟩ := h4 j h0 qj
        rw [(hp j qj).2.1, (hp j qj).2.2.2, (hp _ (show rB R j < rC R by omega)).2.2.2]
        exact ⟨a, b, d⟩
      · obtain rfl : j = rC R := by omega
        rw [eB, eD, (hp i hi).2.2.2]
        exact ⟨hi, Nat.le_refl i, rfl⟩
    · by_cases qk : k < rC R
      · rw [(hp k qk).2.1, (hp j (by omega)).2.1]
        exact h6 j k h0 hjk qk
      · obtain rfl : k = rC R := by omega
        by_cases qj : j < rC R
        · rw [eB, (hp j qj).2.1]
          exact (h4 j h0 qj).2.1
        · obtain rfl : j = rC R := by omega
          exact Nat.le_refl _
theorem TInv.tx {I : Isl} {L c0 p i : Nat} {R : Rs} (hO : IOK I) (hp : p < iP I) (h : TInv I L c0 R i) (hi : i < rC R) : ∀ s, s ≤ 7 * iM I → TInv I L c0 (txS I L p i R s) i
  | 0, _ => h
  | s + 1, hs => by
    have ih := TInv.tx hO hp h hi s (by omega)
    have hpr := Pre.tx I L p i R s
    rw [txS]
    by_cases hm : thB I L p (digF (rK R i)) s
    · rw [e2_0 hm, ← (hpr.2 i hi).2.2.2]
      have hok := h.2.2.1 i hi
      exact ih.ch (Nat.lt_of_lt_of_le hi hpr.1) (OKc.code hO (th_VS hO hok.2 hp (by omega) hm))
    · rw [e2_1 hm]; exact ih
theorem tfs_inv {I : Isl} {L p M c0 : Nat} (hO : IOK I) (hp : p < iP I) (h0 : OKc I L c0) : ∀ e, TInv I L c0 (tfs I L p M c0 e) e
  | 0 => TInv.start h0
  | e + 1 => by
    have ih := tfs_inv (M := M) hO hp h0 e
    rw [tfs]
    by_cases h : e < rC (tfs I L p M c0 e) ∧ rD (tfs I L p M c0 e) e < M
    · rw [e2_0 h]; exact (TInv.tx hO hp ih h.1 _ (Nat.le_refl _)).up
    · rw [e2_1 h]; exact ih.up
theorem TInv.mono {I : Isl} {L c0 i : Nat} {R : Rs} (h : TInv I L c0 R i) : ∀ k, k < rC R → ∀ j, j ≤ k → rD R j ≤ rD R k := by
  intro k
  induction k using Nat.strongRecOn with
  | _ k ih =>
    intro hk j hj
    by_cases h0 : j = 0
    · rw [h0, h.1.2.2]; exact Nat.zero_le _
    · have a := h.2.2.2.1 k (by omega) hk
      have b := h.2.2.2.1 j (by omega) (by omega)
      have c := h.2.2.2.2 j k (by omega) hj hk
      have d := ih (rB R k) a.1 (by omega) (rB R j) c
      omega
theorem TInv.cnt {I : Isl} {L c0 i : Nat} {R : Rs} (h : TInv I L c0 R i) : rC R ≤ cb (fun c => dec (OKc I L c)) (7 ^ iM I) :=
  inj_le (f := rK R) (fun j hj => ⟨(h.2.2.1 j hj).1, dec_t (h.2.2.1 j hj)⟩) h.2.1
theorem TInv.dle {I : Isl} {L c0 i : Nat} {R : Rs} (h : TInv I L c0 R i) : ∀ j, j < rC R → rD R j ≤ j := by
  intro j
  induction j using Nat.strongRecOn with
  | _ j ih =>
    intro hj
    by_cases h0 : j = 0
    · rw [h0, h.1.2.2]; exact Nat.le_refl _
    · have a := h.2.2.2.1 j (by omega) hj
      have b := ih (rB R j) a.1 (by omega)
      omega

