/-! ===== the reference: fewest, way ===== -/

/-! what leads on -/
noncomputable def ixT (I : Isl) (R : Rs) (i s : Nat) : Nat := ixR R (nx I (rK R i) s)
def leadK (I : Isl) (L : Nat) (R : Rs) (W : Nat → Prop) : Nat → Nat → Prop
  | 0, i => W i
  | k + 1, i => ∃ s, s < 7 * iM I ∧ mb I L (rK R i) s = true ∧ rD R (ixT I R i s) = rD R i + 1 ∧ leadK I L R W k (ixT I R i s)
def leadN (I : Isl) (L : Nat) (R : Rs) (W : Nat → Prop) (n i : Nat) : Prop := rD R i ≤ n ∧ leadK I L R W (n - rD R i) i
theorem ixT_ok {I : Isl} {L c0 i s : Nat} (hO : IOK I) (h0 : OKc I L c0) (hi : i < rC (fR I L c0)) (hs : s < 7 * iM I) (hm : mb I L (rK (fR I L c0) i) s = true) :
    ixT I (fR I L c0) i s < rC (fR I L c0) ∧ rK (fR I L c0) (ixT I (fR I L c0) i s) = nx I (rK (fR I L c0) i) s ∧ (ixT I (fR I L c0) i s = 0 ∨ rB (fR I L c0) (ixT I (fR I L c0) i s) < i ∨ (rB (fR I L c0) (ixT I (fR I L c0) i s) = i ∧ rY (fR I L c0) (ixT I (fR I L c0) i s) ≤ s)) := by
  have hv := fR_inv hO h0
  have hN := (bN_ok hO h0).2
  obtain ⟨k, k1, k2, k3⟩ := hv.2.2.2.2.1 i s hi (Or.inl (by omega)) hs hm
  have hok := ixR_ok (R := fR I L c0) (c := nx I (rK (fR I L c0) i) s) ⟨k, k1, k2⟩
  have e : ixR (fR I L c0) (nx I (rK (fR I L c0) i) s) = k := hv.2.1 _ _ hok.1 k1 (hok.2.trans k2.symm)
  unfold ixT
  rw [e]
  exact ⟨k1, k2, k3⟩
theorem ixT_by {I : Isl} {L c0 j : Nat} (hO : IOK I) (h0 : OKc I L c0) (hj0 : 0 < j) (hj : j < rC (fR I L c0)) : ixT I (fR I L c0) (rB (fR I L c0) j) (rY (fR I L c0) j) = j := by
  have hv := fR_inv hO h0
  obtain ⟨a, b, c, d, e, f⟩ := hv.2.2.2.1 j hj0 hj
  have h1 := ixT_ok hO h0 (i := rB (fR I L c0) j) (by omega) b c
  exact hv.2.1 _ _ h1.1 hj (h1.2.1.trans d)
theorem lead_min {I : Isl} {L c0 f : Nat} {W : Nat → Prop} (hO : IOK I) (h0 : OKc I L c0) (hf : f < rC (fR I L c0)) (hW : W f) (hn : ∀ j, j < f → ¬ W j) : ∀ k, k ≤ rD (fR I L c0) f →
    leadK I L (fR I L c0) W k (upR (fR I L c0) f k) ∧ ∀ j, j < rC (fR I L c0) → rD (fR I L c0) j + k = rD (fR I L c0) f → leadK I L (fR I L c0) W k j → upR (fR I L c0) f k ≤ j
  | 0, _ => ⟨hW, fun j _ _ hl => by
      rcases Nat.lt_or_ge j f with q | q
      · exact absurd hl (hn j q)
      · exact q⟩
  | k + 1, hk => by
    obtain ⟨ih1, ih2⟩ := lead_min hO h0 hf hW hn k (by omega)
    have hu := upR_d hO h0 hf k (by omega)
    have hv := fR_inv hO h0
    have hne : 0 < upR (fR I L c0) f k := by
      rcases Nat.eq_zero_or_pos (upR (fR I L c0) f k) with q | q
      · rw [q, hv.1.2.2] at hu; omega
      · exact q
    have hlt : upR (fR I L c0) f k < rC (fR I L c0) := by omega
    obtain ⟨a, b, c, d, e, _⟩ := hv.2.2.2.1 _ hne hlt
    have hix := ixT_by hO h0 hne hlt
    refine ⟨⟨rY (fR I L c0) (upR (fR I L c0) f k), b, c, by show rD (fR I L c0) (ixT I (fR I L c0) (rB (fR I L c0) (upR (fR I L c0) f k)) _) = rD (fR I L c0) (rB (fR I L c0) (upR (fR I L c0) f k)) + 1; rw [hix]; exact e, by show leadK I L (fR I L c0) W k (ixT I (fR I L c0) (rB (fR I L c0) (upR (fR I L c0) f k)) _); rw [hix]; exact ih1⟩, fun j hj hd hl => ?_⟩
    obtain ⟨s, s1, s2, s3, s4⟩ := hl
    have ht := ixT_ok hO h0 hj s1 s2
    have hm := ih2 _ ht.1 (by omega) s4
    have hr0 : ¬ ixT I (fR I L c0) j s = 0 := fun q => by rw [q, hv.1.2.2] at s3; omega
    show rB (fR I L c0) (upR (fR I L c0) f k) ≤ j
    by_cases q : upR (fR I L c0) f k = ixT I (fR I L c0) j s
    · rw [q]; omega
    · have h6 := hv.2.2.2.2.2 (upR (fR I L c0) f k) (ixT I (fR I L c0) j s) hne (by omega) ht.1
      omega
/-- from the k + 1-th before f the least step that leads on is the tree's -/
theorem lead_step {I : Isl} {L c0 f k : Nat} {W : Nat → Prop} (hO : IOK I) (h0 : OKc I L c0) (hf : f < rC (fR I L c0)) (hW : W f) (hn : ∀ j, j < f → ¬ W j) (hk : k + 1 ≤ rD (fR I L c0) f) :
    (rY (fR I L c0) (upR (fR I L c0) f k) < 7 * iM I ∧ mb I L (rK (fR I L c0) (upR (fR I L c0) f (k + 1))) (rY (fR I L c0) (upR (fR I L c0) f k)) = true ∧ ixT I (fR I L c0) (upR (fR I L c0) f (k + 1)) (rY (fR I L c0) (upR (fR I L c0) f k)) = upR (fR I L c0) f k ∧ leadN I L (fR I L c0) W (rD (fR I L c0) f) (upR (fR I L c0) f k)) ∧
    ∀ s, s < rY (fR I L c0) (upR (fR I L c0) f k) → ¬ (mb I L (rK (fR I L c0) (upR (fR I L c0) f (k + 1))) s = true ∧ rD (fR I L c0) (ixT I (fR I L c0) (upR (fR I L c0) f (k + 1)) s) = rD (fR I L c0) (upR (fR I L c0) f (k + 1)) + 1 ∧ leadN I L (fR I L c0) W (rD (fR I L c0) f) (ixT I (fR I L c0) (upR (fR I L c0) f (k + 1)) s)) := by
  have hu := upR_d hO h0 hf k (by omega)
  have hu1 := upR_d hO h0 hf (k + 1) hk
  have hv := fR_inv hO h0
  have hm := lead_min hO h0 hf hW hn k (by omega)
  have hne : 0 < upR (fR I L c0) f k := by
    rcases Nat.eq_zero_or_pos (upR (fR I L c0) f k) with q | q
    · rw [q, hv.1.2.2] at hu; omega
    · exact q
  have hlt : upR (fR I L c0) f k < rC (fR I L c0) := by omega
  obtain ⟨a, b, c, d, e, _⟩ := hv.2.2.2.1 _ hne hlt
  have hix := ixT_by hO h0 hne hlt
  have eu : upR (fR I L c0) f (k + 1) = rB (fR I L c0) (upR (fR I L c0) f k) := rfl
  rw [eu] at hu1 ⊢
  refine ⟨⟨b, c, hix, by omega, by rw [show rD (fR I L c0) f - rD (fR I L c0) (upR (fR I L c0) f k) = k by omega]; exact hm.1⟩, fun s hs hq => ?_⟩
  obtain ⟨q1, q2, q3, q4⟩ := hq
  have ht := ixT_ok hO h0 (i := rB (fR I L c0) (upR (fR I L c0) f k)) (by omega) (s := s) (by omega) q1
  have hd2 : rD (fR I L c0) (ixT I (fR I L c0) (rB (fR I L c0) (upR (fR I L c0) f k)) s) + k = rD (fR I L c0) f := by omega
  rw [show rD (fR I L c0) f - rD (fR I L c0) (ixT I (fR I L c0) (rB (fR I L c0) (upR (fR I L c0) f k)) s) = k by omega] at q4
  have hmin := hm.2 _ ht.1 hd2 q4
  have hr0 : ¬ ixT I (fR I L c0) (rB (fR I L c0) (upR (fR I L c0) f k)) s = 0 := fun q => by rw [q, hv.1.2.2] at q2; omega
  by_cases q : upR (fR I L c0) f k = ixT I (fR I L c0) (rB (fR I L c0) (upR (fR I L c0) f k)) s
  · rw [← q] at ht; omega
  · have h6 := hv.2.2.2.2.2 (upR (fR I L c0) f k) (ixT I (fR I L c0) (rB (fR I L c0) (upR (fR I L c0) f k)) s) hne (by omega) ht.1
    omega

/-- leads, as numbers of states -/
def LdX (I : Isl) (lc : Nat → Int32) (S : St) : Prop := ∀ c, c < 7 ^ iM I → S.1 104 c = lc c
def LSp (I : Isl) (L c0 : Nat) (lc : Nat → Int32) (i s : Nat) : Prop := mb I L (rK (fR I L c0) i) s = true ∧ rD (fR I L c0) (ixT I (fR I L c0) i s) = rD (fR I L c0) i + 1 ∧ ¬ lc (rK (fR I L c0) (ixT I (fR I L c0) i s)) = 0

theorem nar_b0 : vp_nar .boolean (nI 0) = 0 := by decide +kernel
theorem nar_b1 : vp_nar .boolean (nI 1) = 1 := by decide +kernel
theorem nar_c0 : vp_nar .boolean 0 = 0 := by decide +kernel
theorem nar_c1 : vp_nar .boolean 1 = 1 := by decide +kernel
/-- which lead, of the places from i on -/
noncomputable def LC (I : Isl) (L c0 : Nat) (W : Nat → Prop) (n i c : Nat) : Int32 := @ite Int32 (∃ j, i ≤ j ∧ j < rC (fR I L c0) ∧ rK (fR I L c0) j = c ∧ leadN I L (fR I L c0) W n j) (Classical.propDecidable _) 1 0
theorem LC_t {I : Isl} {L c0 n i c j : Nat} {W : Nat → Prop} (h : i ≤ j ∧ j < rC (fR I L c0) ∧ rK (fR I L c0) j = c ∧ leadN I L (fR I L c0) W n j) : LC I L c0 W n i c = 1 := if_pos ⟨j, h⟩
theorem LC_f {I : Isl} {L c0 n i c : Nat} {W : Nat → Prop} (h : ¬ ∃ j, i ≤ j ∧ j < rC (fR I L c0) ∧ rK (fR I L c0) j = c ∧ leadN I L (fR I L c0) W n j) : LC I L c0 W n i c = 0 := if_neg h
theorem LC_end {I : Isl} {L c0 n c : Nat} {W : Nat → Prop} : LC I L c0 W n (rC (fR I L c0)) c = 0 := LC_f fun ⟨j, h1, h2, _⟩ => by omega
theorem LC_at {I : Isl} {L c0 n i j : Nat} {W : Nat → Prop} (hO : IOK I) (h0 : OKc I L c0) (hij : i ≤ j) (hj : j < rC (fR I L c0)) : ¬ LC I L c0 W n i (rK (fR I L c0) j) = 0 ↔ leadN I L (fR I L c0) W n j := by
  constructor
  · intro h
    refine Classical.byContradiction fun q => h (LC_f fun ⟨k, h1, h2, h3, h4⟩ => ?_)
    rw [(fR_inv hO h0).2.1 k j h2 hj h3] at h4
    exact q h4
  · intro h e
    rw [LC_t ⟨hij, hj, rfl, h⟩] at e
    exact absurd e (by decide)
theorem LC_s {I : Isl} {L c0 n i c : Nat} {W : Nat → Prop} (hc : ¬ rK (fR I L c0) i = c) : LC I L c0 W n i c = LC I L c0 W n (i + 1) c := by
  by_cases h : ∃ j, i ≤ j ∧ j < rC (fR I L c0) ∧ rK (fR I L c0) j = c ∧ leadN I L (fR I L c0) W n j
  · obtain ⟨j, h1, h2, h3, h4⟩ := h
    have hji : ¬ j = i := fun e => by rw [e] at h3; exact hc h3
    rw [LC_t ⟨h1, h2, h3, h4⟩, LC_t ⟨by omega, h2, h3, h4⟩]
  · rw [LC_f h, LC_f (fun ⟨j, h1, h2, h3, h4⟩ => h ⟨j, by omega, h2, h3, h4⟩)]
theorem LC_i {I : Isl} {L c0 n i : Nat} {W : Nat → Prop} (hO : IOK I) (h0 : OKc I L c0) (hi : i < rC (fR I L c0)) : (leadN I L (fR I L c0) W n i → LC I L c0 W n i (rK (fR I L c0) i) = 1) ∧ (¬ leadN I L (fR I L c0) W n i → LC I L c0 W n i (rK (fR I L c0) i) = 0) :=
  ⟨fun h => LC_t ⟨Nat.le_refl _, hi, rfl, h⟩, fun h => Classical.byContradiction fun q => h ((LC_at hO h0 (Nat.le_refl _) hi).mp q)⟩
theorem LC_01 {I : Isl} {L c0 n i c : Nat} {W : Nat → Prop} : LC I L c0 W n i c = 0 ∨ LC I L c0 W n i c = 1 := by
  unfold LC
  split
  · exact Or.inr rfl
  · exact Or.inl rfl
/-- but for looking and for what leads -/
def FrQ (S S' : St) : Prop := Fr (fun a => a = 97 ∨ a = 104) S S'
theorem QuX.fq {I : Isl} {R : Rs} {S S' : St} (h : QuX I R S) (f : FrQ S S') : QuX I R S' := h.keep (fun b => ⟨f.2 102 (by decide) b, f.2 103 (by decide) b⟩) (f.2 83 (by decide) 36)
theorem IsM.fq {I : Isl} {S S' : St} (h : IsM I S) (f : FrQ S S') : IsM I S' := h.keep (fun j _ => f.2 83 (by decide) j) (fun a ha b => f.2 a (by intro e; rcases e with rfl | rfl <;> revert ha <;> decide) b)
theorem FrQ.of {S S' : St} (f : F97 S S') : FrQ S S' := Fr.wider f (fun a h => Or.inl h)

/-- a way is laid in row b -/
def WayM (S S' : St) (b n : Nat) (R : Rs) (f : Nat) : Prop := S'.2 = S.2 ∧ S'.1 85 b = nI n ∧ (∀ r, ¬ r = b → S'.1 85 r = S.1 85 r) ∧ (∀ k, k < n → S'.1 86 (60 * b + k) = wayF R f n k) ∧ (∀ j, ¬ (60 * b ≤ j ∧ j < 60 * b + 60) → S'.1 86 j = S.1 86 j) ∧ ∀ c j, ¬ (c = 85 ∨ c = 86 ∨ c = 97 ∨ c = 102 ∨ c = 103 ∨ c = 104) → ¬ (c = 83 ∧ (j = 36 ∨ j = 37)) → S'.1 c j = S.1 c j

theorem LC_lo {I : Isl} {L c0 n i j : Nat} {W : Nat → Prop} (hO : IOK I) (h0 : OKc I L c0) (hj : j < rC (fR I L c0)) (hij : j < i) : LC I L c0 W n i (rK (fR I L c0) j) = 0 := LC_f fun ⟨k, h1, h2, h3, _⟩ => by
  have := (fR_inv hO h0).2.1 k j h2 hj h3
  omega
theorem ld_skip {I : Isl} {L c0 n i : Nat} {W : Nat → Prop} {S : St} (hO : IOK I) (h0 : OKc I L c0) (hi : 0 < i) (hir : i - 1 < rC (fR I L c0)) (h : LdX I (fun c => LC I L c0 W n i c) S) (hn : ¬ leadN I L (fR I L c0) W n (i - 1)) : LdX I (fun c => LC I L c0 W n (i - 1) c) S := fun c hc => by
  rw [h c hc]
  show LC I L c0 W n i c = LC I L c0 W n (i - 1) c
  by_cases q : rK (fR I L c0) (i - 1) = c
  · rw [← q, LC_lo hO h0 hir (by omega), (LC_i hO h0 hir).2 hn]
  · rw [LC_s q, show i - 1 + 1 = i by omega]
theorem ld_step {I : Isl} {L c0 n i : Nat} {W : Nat → Prop} {S S1 : St} {v : Int32} (hi : 0 < i) (h : LdX I (fun c => LC I L c0 W n i c) S) (f : F97 S S1) (hv : v = LC I L c0 W n (i - 1) (rK (fR I L c0) (i - 1))) : LdX I (fun c => LC I L c0 W n (i - 1) c) (setI S1 104 (rK (fR I L c0) (i - 1)) v) := fun c hc => by
  show _ = LC I L c0 W n (i - 1) c
  by_cases q : rK (fR I L c0) (i - 1) = c
  · rw [← q, rdI_eq, hv]
  · rw [rdI_j (fun e => q e.symm), f.2 104 (by decide) c, h c hc, LC_s q, show i - 1 + 1 = i by omega]
theorem lead_iff {I : Isl} {L c0 n i : Nat} {W : Nat → Prop} (hO : IOK I) (h0 : OKc I L c0) (hi : 0 < i) (hir : i - 1 < rC (fR I L c0)) (hd : rD (fR I L c0) (i - 1) < n) : leadN I L (fR I L c0) W n (i - 1) ↔ ∃ s, s < 7 * iM I ∧ LSp I L c0 (fun c => LC I L c0 W n i c) (i - 1) s := by
  have hv := fR_inv hO h0
  have key : ∀ s, s < 7 * iM I → mb I L (rK (fR I L c0) (i - 1)) s = true → rD (fR I L c0) (ixT I (fR I L c0) (i - 1) s) = rD (fR I L c0) (i - 1) + 1 → (¬ LC I L c0 W n i (rK (fR I L c0) (ixT I (fR I L c0) (i - 1) s)) = 0 ↔ leadK I L (fR I L c0) W (n - (rD (fR I L c0) (i - 1) + 1)) (ixT I (fR I L c0) (i - 1) s)) := by
    intro s hs hm he
    have ht := ixT_ok hO h0 hir hs hm
    have hge : i ≤ ixT I (fR I L c0) (i - 1) s := by
      rcases Nat.lt_or_ge (ixT I (fR I L c0) (i - 1) s) i with q | q
      · have := hv.mono (i - 1) hir (ixT I (fR I L c0) (i - 1) s) (by omega)
        omega
      · exact q
    rw [LC_at hO h0 hge ht.1]
    unfold leadN
    rw [he]
    exact ⟨fun h => h.2, fun h => ⟨by omega, h⟩⟩
  unfold leadN
  constructor
  · rintro ⟨_, h⟩
    rw [show n - rD (fR I L c0) (i - 1) = (n - (rD (fR I L c0) (i - 1) + 1)) + 1 by omega] at h
    obtain ⟨s, s1, s2, s3, s4⟩ := h
    exact ⟨s, s1, s2, s3, (key s s1 s2 s3).mpr s4⟩
  · rintro ⟨s, s1, s2, s3, s4⟩
    refine ⟨by omega, ?_⟩
    rw [show n - rD (fR I L c0) (i - 1) = (n - (rD (fR I L c0) (i - 1) + 1)) + 1 by omega]
    exact ⟨s, s1, s2, s3, (key s s1 s2 s3).mp s4⟩
theorem upR_top {I : Isl} {L c0 f : Nat} (hO : IOK I) (h0 : OKc I L c0) (hf : f < rC (fR I L c0)) : upR (fR I L c0) f (rD (fR I L c0) f) = 0 := by
  have h := upR_d hO h0 hf (rD (fR I L c0) f) (Nat.le_refl _)
  rcases Nat.eq_zero_or_pos (upR (fR I L c0) f (rD (fR I L c0) f)) with q | q
  · exact q
  · have := (fR_inv hO h0).2.2.2.1 _ q (by omega)
    omega

theorem toI_dec {i : Nat} (h : i ≤ 16807) : (nI i - nI 1).toInt = (i : Int) - 1 := by
  rw [Int32.toInt_sub, tiN (by omega), tiN (by decide), Int.bmod_eq_of_le (by omega) (by omega)]
  rfl

