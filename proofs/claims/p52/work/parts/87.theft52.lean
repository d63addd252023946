/-! ===== pure: thefts in fewer steps are the first of those in more ===== -/
theorem tx_new {I : Isl} {L p i : Nat} {R : Rs} : ∀ s j, rC R ≤ j → j < rC (txS I L p i R s) → rD (txS I L p i R s) j = rD R i + 1
  | 0, j, h, h' => absurd h' (Nat.not_lt.mpr h)
  | s + 1, j, h, h' => by
    have ih := tx_new (I := I) (L := L) (p := p) (i := i) (R := R) s j h
    rw [txS] at h' ⊢
    by_cases hm : thB I L p (digF (rK R i)) s
    · rw [e2_0 hm] at h' ⊢
      unfold rch at h' ⊢
      by_cases hn : rIn (txS I L p i R s) (thX I L p (rK R i) s)
      · rw [e2_0 hn] at h' ⊢; exact ih h'
      · rw [e2_1 hn] at h' ⊢
        by_cases q : j < rC (txS I L p i R s)
        · rw [((Pre.add (txS I L p i R s) (thX I L p (rK R i) s) i 0 (rD R i + 1)).2 j q).2.2.2]; exact ih q
        · have h2 : j < rC (txS I L p i R s) + 1 := h'
          have e : j = rC (txS I L p i R s) := by omega
          rw [e]
          exact upW_eq _ _ _
    · rw [e2_1 hm] at h' ⊢; exact ih h'
def tP (k : Nat) (A B : Rs) (e : Nat) : Prop := Pre A B ∧ (∀ j, j < rC A → rD A j ≤ k) ∧ (∀ j, rC A ≤ j → j < rC B → k < rD B j) ∧ (A = B ∨ ∀ j, e ≤ j → j < rC B → k ≤ rD B j)
theorem tP_all {I : Isl} {L p c0 k M : Nat} (hO : IOK I) (hp : p < iP I) (h0 : OKc I L c0) (hk : k ≤ M) : ∀ e, tP k (tfs I L p k c0 e) (tfs I L p M c0 e) e
  | 0 => ⟨Pre.refl _, fun j hj => by
      have : rD (tfs I L p k c0 0) j = 0 := rfl
      rw [this]; exact Nat.zero_le _, fun j h h' => absurd h' (Nat.not_lt.mpr h), Or.inl rfl⟩
  | e + 1 => by
    obtain ⟨a, b, c, d⟩ := tP_all (M := M) hO hp h0 hk e
    have hA := tfs_inv (M := k) hO hp h0 e
    have hB := tfs_inv (M := M) hO hp h0 e
    have hB1 := tfs_inv (M := M) hO hp h0 (e + 1)
    by_cases q : e < rC (tfs I L p k c0 e) ∧ rD (tfs I L p k c0 e) e < k
    · have hAB : tfs I L p k c0 e = tfs I L p M c0 e := d.resolve_right (fun z => by
        have := z e (Nat.le_refl _) (Nat.lt_of_lt_of_le q.1 a.1)
        rw [(a.2 e q.1).2.2.2] at this
        omega)
      have e1 : tfs I L p k c0 (e + 1) = tfs I L p M c0 (e + 1) := by
        rw [tfs_t q.1 q.2, tfs_t (M := M) (by rw [← hAB]; exact q.1) (by rw [← hAB]; omega), hAB]
      have hT := TInv.tx hO hp hA q.1 _ (Nat.le_refl (7 * iM I))
      have hpr := Pre.tx I L p e (tfs I L p k c0 e) (7 * iM I)
      rw [← tfs_t q.1 q.2] at hT hpr
      refine ⟨by rw [e1]; exact Pre.refl _, fun j hj => ?_, fun j h h' => by rw [e1] at h; omega, Or.inl e1⟩
      by_cases z : j = 0
      · rw [z, hT.1.2.2]; exact Nat.zero_le _
      · obtain ⟨u1, u2, u3⟩ := hT.2.2.2.1 j (by omega) hj
        have he : e < rC (tfs I L p k c0 (e + 1)) := Nat.lt_of_lt_of_le q.1 hpr.1
        have um := hT.mono e he _ u2
        have ue := (hpr.2 e q.1).2.2.2
        omega
    · have eA : tfs I L p k c0 (e + 1) = tfs I L p k c0 e := tfs_f q
      rw [eA]
      by_cases r : e < rC (tfs I L p M c0 e) ∧ rD (tfs I L p M c0 e) e < M
      · have hke : k ≤ rD (tfs I L p M c0 e) e := by
          rcases d with z | z
          · rw [z] at q
            exact Nat.not_lt.mp fun y => q ⟨r.1, y⟩
          · exact z e (Nat.le_refl _) r.1
        have eB := tfs_t r.1 r.2
        have hpr := Pre.tx I L p e (tfs I L p M c0 e) (7 * iM I)
        rw [← eB] at hpr
        refine ⟨a.trans hpr, b, fun j h h' => ?_, Or.inr fun j h h' => ?_⟩
        · by_cases y : j < rC (tfs I L p M c0 e)
          · rw [(hpr.2 j y).2.2.2]; exact c j h y
          · have hn := tx_new (I := I) (L := L) (p := p) (i := e) (R := tfs I L p M c0 e) (7 * iM I) j (by omega)
            rw [← eB] at hn
            rw [hn h']
            omega
        · have um := hB1.mono j h' e (by omega)
          rw [(hpr.2 e r.1).2.2.2] at um
          omega
      · have eB : tfs I L p M c0 (e + 1) = tfs I L p M c0 e := tfs_f r
        rw [eB]
        exact ⟨a, b, c, d.imp id (fun z j h h' => z j (by omega) h')⟩
theorem tfE_le {I : Isl} {L p c0 k M : Nat} (hO : IOK I) (hp : p < iP I) (h0 : OKc I L c0) (hk : k ≤ M) : Pre (tfE I L p k c0) (tfE I L p M c0) ∧ (∀ j, j < rC (tfE I L p k c0) → rD (tfE I L p k c0) j ≤ k) ∧ ∀ j, rC (tfE I L p k c0) ≤ j → j < rC (tfE I L p M c0) → k < rD (tfE I L p M c0) j := by
  obtain ⟨a, b, c, -⟩ := tP_all (k := k) (M := M) hO hp h0 hk 16807
  exact ⟨a, b, c⟩
/-- the things that one can come to have in k steps -/
noncomputable def tsF (I : Isl) (L p k c0 : Nat) : Nat := oo (fun j => heldF I (digF (rK (tfE I L p k c0) j)) p) (rC (tfE I L p k c0))
theorem held_bit {I : Isl} {w : Nat → Nat} {p t : Nat} : (heldF I w p).testBit t = true ↔ t < iM I ∧ whomF I w t = p := by
  unfold heldF
  rw [mk_bit, Bool.and_eq_true, decide_eq_true_eq, beq_iff_eq]
theorem ts_bit {I : Isl} {L p k c0 t : Nat} : (tsF I L p k c0).testBit t = true ↔ t < iM I ∧ ∃ j, j < rC (tfE I L p k c0) ∧ whomF I (digF (rK (tfE I L p k c0) j)) t = p := by
  unfold tsF
  rw [oo_bit]
  constructor
  · rintro ⟨j, hj, h⟩
    have := held_bit.mp h
    exact ⟨this.1, j, hj, this.2⟩
  · rintro ⟨ht, j, hj, h⟩
    exact ⟨j, hj, held_bit.mpr ⟨ht, h⟩⟩
theorem ts_lt {I : Isl} (hO : IOK I) {L p k c0 : Nat} : tsF I L p k c0 < 32 := oo_held hO _
theorem ts_up {I : Isl} {L p c0 k M : Nat} (hO : IOK I) (hp : p < iP I) (h0 : OKc I L c0) (hk : k ≤ M) {t : Nat} (h : (tsF I L p k c0).testBit t = true) : (tsF I L p M c0).testBit t = true := by
  obtain ⟨a, j, b, c⟩ := ts_bit.mp h
  have hp := (tfE_le hO hp h0 hk).1
  exact ts_bit.mpr ⟨a, j, Nat.lt_of_lt_of_le b hp.1, by rw [(hp.2 j b).1]; exact c⟩
/-- theft's answer: how many steps, or none -/
def thfP (I : Isl) (L p c0 t : Nat) (r : Int32) : Prop := (∃ i, i < rC (tfE I L p 4 c0) ∧ whomF I (digF (rK (tfE I L p 4 c0) i)) t = p ∧ (∀ j, j < i → ¬ whomF I (digF (rK (tfE I L p 4 c0) j)) t = p) ∧ r = nI (rD (tfE I L p 4 c0) i)) ∨ (r = -9 ∧ ∀ j, j < rC (tfE I L p 4 c0) → ¬ whomF I (digF (rK (tfE I L p 4 c0) j)) t = p)
theorem thf_le {I : Isl} {L p c0 t k : Nat} {r : Int32} (hO : IOK I) (hp : p < iP I) (h0 : OKc I L c0) (hk : k ≤ 4) (ht : t < iM I) (h : thfP I L p c0 t r) : r.toInt ≤ 4 ∧ ((0 ≤ r.toInt ∧ r.toInt ≤ (k : Int)) ↔ (tsF I L p k c0).testBit t = true) := by
  obtain ⟨a, b, c⟩ := tfE_le hO hp h0 hk
  have d4 := (tfE_le (k := 4) (M := 4) hO hp h0 (Nat.le_refl _)).2.1
  rcases h with ⟨i, i1, i2, i3, rfl⟩ | ⟨rfl, hn⟩
  · have hd := d4 i i1
    have e : (nI (rD (tfE I L p 4 c0) i)).toInt = (rD (tfE I L p 4 c0) i : Int) := tiN (by omega)
    refine ⟨by omega, ?_⟩
    rw [e]
    constructor
    · rintro ⟨-, h⟩
      have hi : i < rC (tfE I L p k c0) := Nat.not_le.mp fun q => by have := c i q i1; omega
      exact ts_bit.mpr ⟨ht, i, hi, by rw [← (a.2 i hi).1]; exact i2⟩
    · intro h
      obtain ⟨-, j, j1, j2⟩ := ts_bit.mp h
      have hji : i ≤ j := Nat.not_lt.mp fun q => i3 j q (by rw [(a.2 j j1).1]; exact j2)
      have e2 := b j j1
      have hm := (tfs_inv (M := 4) hO hp h0 16807).mono j (Nat.lt_of_lt_of_le j1 a.1) i hji
      have e3 := (a.2 j j1).2.2.2
      have e4 : rD (tfs I L p 4 c0 16807) i = rD (tfE I L p 4 c0) i := rfl
      have e5 : rD (tfs I L p 4 c0 16807) j = rD (tfE I L p 4 c0) j := rfl
      omega
  · have e : (-9 : Int32).toInt = -9 := by decide
    refine ⟨by rw [e]; decide, ?_⟩
    rw [e]
    constructor
    · rintro ⟨h, -⟩; exact absurd h (by decide)
    · intro h
      obtain ⟨-, j, j1, j2⟩ := ts_bit.mp h
      exact absurd (by rw [(a.2 j j1).1]; exact j2) (hn j (Nat.lt_of_lt_of_le j1 a.1))
theorem ts_0 {I : Isl} {L p : Nat} {w : Nat → Nat} (hO : IOK I) (hv : VS I w L) : tsF I L p 0 (codeF I w) = heldF I w p := by
  have e : ∀ i, tfs I L p 0 (codeF I w) i = r0 (codeF I w) := fun i => by
    induction i with
    | zero => rfl
    | succ i ih => rw [tfs_f (fun q => by omega)]; exact ih
  have e2 : tfE I L p 0 (codeF I w) = r0 (codeF I w) := e 16807
  have hw7 := (hv.ok hO).w7 hO
  unfold tsF
  rw [e2]
  show 0 ||| heldF I (digF (codeF I w)) p = _
  rw [Nat.zero_or]
  unfold heldF
  refine mk_congr fun t ht => ?_
  have hd : ∀ u, u < iM I → digF (codeF I w) u = w u := fun u hu => dig_code hw7 u hu
  have : whomF I (digF (codeF I w)) t = whomF I w t := by
    unfold whomF
    rw [hd t ht]
    by_cases q : w t ≤ 4
    · rw [if_pos q, if_pos q]
    · have hb : w t - 5 < iB I := by have := (hv.ok hO).1 t ht; omega
      rw [if_neg q, if_neg q, hd _ (hO.2.2.2.2.2.1 _ hb).1]
  rw [this]
