/-! ===== pure: drops; what the drowned can have had ===== -/
theorem drP_ok {I : Isl} {w : Nat → Nat} {L p q : Nat} : ∀ t, (∀ u, (drP I w L p q t).1.testBit u = true → u < iM I ∧ w u = q) ∧ (((drP I w L p q t).1 = 0 ∧ (drP I w L p q t).2 = -9) ∨ (¬ (drP I w L p q t).1 = 0 ∧ ∃ g, g < t ∧ w g = p ∧ (drP I w L p q t).2 = nI g))
  | 0 => by
    refine ⟨fun u h => ?_, Or.inl ⟨rfl, rfl⟩⟩
    have h2 : (0 : Nat).testBit u = true := h
    rw [Nat.zero_testBit] at h2
    cases h2
  | t + 1 => by
    obtain ⟨a, b⟩ := drP_ok (I := I) (w := w) (L := L) (p := p) (q := q) t
    by_cases h : w t = p ∧ ¬ dfF I w L t q = -9 ∧ popF (drP I w L p q t).1 < popF (df2 I w L t q)
    · rw [drP_t h]
      refine ⟨fun u hu => ?_, Or.inr ⟨fun e => ?_, t, Nat.lt_succ_self t, h.1, rfl⟩⟩
      · have := drF_in (show (drF I w q (ovF I w L t q) (iM I)).2.testBit u = true from hu)
        exact ⟨this.1, this.2.1⟩
      · have h3 := h.2.2
        have e2 : df2 I w L t q = 0 := e
        rw [e2] at h3
        have : popF 0 = 0 := by decide
        omega
    · rw [drP_f h]
      refine ⟨a, b.imp id (fun k => ⟨k.1, ?_⟩)⟩
      obtain ⟨g, h1, h2⟩ := k.2
      exact ⟨g, by omega, h2⟩
theorem bs_sym {I : Isl} {w : Nat → Nat} {p q : Nat} : bsF I w p q = bsF I w q p := Nat.add_comm _ _
theorem cb_up {b b' : Nat → Bool} {n : Nat} (h : ∀ s, s < n → b' s = true → b s = true) : cb b' n ≤ cb b n := dq_mono fun s hs => by
  by_cases q : b' s = true
  · rw [if_pos q, if_pos (h s hs q)]; exact Nat.le_refl _
  · rw [if_neg q]; exact Nat.zero_le _
theorem cb_ge1 {b : Nat → Bool} {n s : Nat} (hs : s < n) (h : b s = true) : 1 ≤ cb b n := by
  have := dq_lt (f := fun _ => 0) (g := fun s => if b s then 1 else 0) (u := s) (d := 1) (n := n) (fun _ _ => Nat.zero_le _) hs (by rw [if_pos h]; omega)
  have e : sm (fun _ => 0) n = 0 := sm_zero fun _ _ => rfl
  unfold cb
  omega
theorem had_0 {I : Isl} {L : Nat} {sw si : Nat → Nat} : hadB I L 0 sw si 0 = true := hadB_t ⟨by
  rw [show wsF I 0 = 0 from sm_zero fun t _ => by rw [Nat.zero_div, Nat.zero_mod, Nat.zero_mul]]
  exact Nat.zero_le _, fun i hi => absurd hi (Nat.not_lt_zero i)⟩
theorem had_s {I : Isl} {L c : Nat} {sw si : Nat → Nat} {s : Nat} (h : hadB I L (c + 1) sw si s = true) : hadB I L c sw si s = true := by
  have h2 : hadP I L (c + 1) sw si s := dec_iff.mp h
  exact hadB_t ⟨h2.1, fun i hi => h2.2 i (by omega)⟩
theorem had_c {I : Isl} {L c : Nat} {sw si sw' si' : Nat → Nat} (h1 : ∀ i, i < c → sw' i = sw i ∧ si' i = si i) : hadB I L c sw' si' = hadB I L c sw si := by
  funext s
  have : hadP I L c sw' si' s ↔ hadP I L c sw si s := by
    unfold hadP
    refine and_congr Iff.rfl (forall_congr' fun i => ?_)
    constructor
    · intro h hi; rw [← (h1 i hi).1, ← (h1 i hi).2]; exact h hi
    · intro h hi; rw [(h1 i hi).1, (h1 i hi).2]; exact h hi
  unfold hadB
  rw [propext this]
theorem aA_bit {b : Nat → Bool} {z t : Nat} : ∀ n, (aA b z n).testBit t = true ↔ z.testBit t = true ∧ ∀ s, s < n → b s = true → s.testBit t = true
  | 0 => ⟨fun h => ⟨h, fun s hs => absurd hs (Nat.not_lt_zero s)⟩, fun h => h.1⟩
  | n + 1 => by
    have ih := aA_bit (b := b) (z := z) (t := t) n
    by_cases h : b n = true
    · rw [aA_t h, Nat.testBit_and, Bool.and_eq_true, ih]
      constructor
      · rintro ⟨⟨h1, h2⟩, h3⟩
        refine ⟨h1, fun s hs hb => ?_⟩
        rcases Nat.lt_succ_iff_lt_or_eq.mp hs with k | k
        · exact h2 s k hb
        · rw [k]; exact h3
      · rintro ⟨h1, h2⟩
        exact ⟨⟨h1, fun s hs hb => h2 s (by omega) hb⟩, h2 n (Nat.lt_succ_self n) h⟩
    · rw [aA_f h, ih]
      constructor
      · rintro ⟨h1, h2⟩
        refine ⟨h1, fun s hs hb => ?_⟩
        rcases Nat.lt_succ_iff_lt_or_eq.mp hs with k | k
        · exact h2 s k hb
        · rw [k] at hb; exact absurd hb h
      · rintro ⟨h1, h2⟩
        exact ⟨h1, fun s hs hb => h2 s (by omega) hb⟩
theorem wiA_eq {b : Nat → Bool} {t : Nat} : ∀ n, wiA b t n = cb b n ↔ ∀ s, s < n → b s = true → s.testBit t = true
  | 0 => ⟨fun _ s hs => absurd hs (Nat.not_lt_zero s), fun _ => rfl⟩
  | n + 1 => by
    have ih := wiA_eq (b := b) (t := t) n
    have hle := wiA_le (b := b) (t := t) n
    by_cases h : b n = true
    · rw [wiA_t h, cb_t h]
      have hb := has_iff (s := n) (k := t)
      have hm : n / 2 ^ t % 2 < 2 := Nat.mod_lt _ (by decide)
      constructor
      · intro e s hs hbs
        have e1 : wiA b t n = cb b n := by omega
        have e2 : n / 2 ^ t % 2 = 1 := by omega
        rcases Nat.lt_succ_iff_lt_or_eq.mp hs with k | k
        · exact ih.mp e1 s k hbs
        · rw [k]; exact hb.mp e2
      · intro k
        have e1 := ih.mpr (fun s hs hbs => k s (by omega) hbs)
        have e2 := hb.mpr (k n (Nat.lt_succ_self n) h)
        omega
    · rw [wiA_f h, cb_f h, ih]
      constructor
      · intro k s hs hbs
        rcases Nat.lt_succ_iff_lt_or_eq.mp hs with z | z
        · exact k s z hbs
        · rw [z] at hbs; exact absurd hbs h
      · intro k s hs hbs
        exact k s (by omega) hbs
theorem dw_bit {I : Isl} {L c t : Nat} {sw si : Nat → Nat} (ht : t < iM I) (hn : ¬ cb (hadB I L c sw si) (2 ^ iM I) = 0) : (dwT I L c sw si).testBit t = true ↔ wiA (hadB I L c sw si) t (2 ^ iM I) = cb (hadB I L c sw si) (2 ^ iM I) := by
  unfold dwT
  rw [if_neg hn, aA_bit, wiA_eq]
  refine ⟨fun h => h.2, fun h => ⟨?_, h⟩⟩
  rw [Nat.testBit_two_pow_sub_one]
  exact decide_eq_true ht
theorem dw_0 {I : Isl} {L : Nat} {sw si : Nat → Nat} : dwT I L 0 sw si = 0 := by
  unfold dwT
  split
  · rfl
  · refine Nat.eq_of_testBit_eq fun i => ?_
    rw [Nat.zero_testBit]
    cases h : (aA (hadB I L 0 sw si) (2 ^ iM I - 1) (2 ^ iM I)).testBit i with
    | false => rfl
    | true =>
      have := (aA_bit _).mp h
      have h2 := this.2 0 (Nat.two_pow_pos _) had_0
      rw [Nat.zero_testBit] at h2
      cases h2
theorem nL_mul : ∀ x, x < 33 → ∀ y, y < 33 → nL x * nL y = nL (x * y) := by decide +kernel
theorem gcd_x {a b : Nat} : a / Nat.gcd a b * b = a * (b / Nat.gcd a b) := by
  obtain ⟨x, hx⟩ := Nat.gcd_dvd_left a b
  obtain ⟨y, hy⟩ := Nat.gcd_dvd_right a b
  by_cases g : Nat.gcd a b = 0
  · rw [g, Nat.div_zero, Nat.div_zero]; omega
  · have g0 : 0 < Nat.gcd a b := by omega
    have e1 : a / Nat.gcd a b = x := by
      conv => lhs; lhs; rw [hx]
      exact Nat.mul_div_cancel_left x g0
    have e2 : b / Nat.gcd a b = y := by
      conv => lhs; lhs; rw [hy]
      exact Nat.mul_div_cancel_left y g0
    rw [e1, e2]
    calc x * b = x * (Nat.gcd a b * y) := by rw [← hy]
      _ = (Nat.gcd a b * x) * y := by rw [← Nat.mul_assoc, Nat.mul_comm x]
      _ = a * y := by rw [← hx]
theorem frac_ok {a b : Nat} (ha : a < 33) (hb : b < 33) : nL (a / Nat.gcd a b) * nL b = nL a * nL (b / Nat.gcd a b) := by
  have h1 : a / Nat.gcd a b < 33 := Nat.lt_of_le_of_lt (Nat.div_le_self _ _) ha
  have h2 : b / Nat.gcd a b < 33 := Nat.lt_of_le_of_lt (Nat.div_le_self _ _) hb
  rw [nL_mul _ h1 _ hb, nL_mul _ ha _ h2, gcd_x]
