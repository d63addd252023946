/-! ===== day ===== -/
def dayOK (I : Isl) (x : Int32) : Prop := x = -1 ∨ numOK I x
theorem dayOK_n {I : Isl} {x : Int32} (h : dayOK I x) (h0 : 0 ≤ x.toInt) : numOK I x := h.resolve_left (fun e => by rw [e] at h0; exact absurd h0 (by decide))
/-- the state behind j numbers of a day's row -/
noncomputable def dayS (I : Isl) (L : Nat) (w : Nat → Nat) (v : Nat → Int32) : Nat → Nat → Nat
  | 0 => w
  | j + 1 => i2 (0 ≤ (v j).toInt ∧ mayF I (dayS I L w v j) L (tn (v j) / 7) (tn (v j) % 7)) (upW (dayS I L w v j) (tn (v j) / 7) (tn (v j) % 7)) (dayS I L w v j)
theorem dayS_t {I : Isl} {L : Nat} {w : Nat → Nat} {v : Nat → Int32} {j : Nat} (h0 : 0 ≤ (v j).toInt) (h : mayF I (dayS I L w v j) L (tn (v j) / 7) (tn (v j) % 7)) : dayS I L w v (j + 1) = upW (dayS I L w v j) (tn (v j) / 7) (tn (v j) % 7) := e2_0 ⟨h0, h⟩
theorem dayS_f {I : Isl} {L : Nat} {w : Nat → Nat} {v : Nat → Int32} {j : Nat} (h : ¬ (0 ≤ (v j).toInt ∧ mayF I (dayS I L w v j) L (tn (v j) / 7) (tn (v j) % 7))) : dayS I L w v (j + 1) = dayS I L w v j := e2_1 h
theorem dayS_VS {I : Isl} {L : Nat} {w : Nat → Nat} {v : Nat → Int32} {n : Nat} (hO : IOK I) (hv : VS I w L) (hd : ∀ j, j < n → dayOK I (v j)) : ∀ j, j ≤ n → VS I (dayS I L w v j) L
  | 0, _ => hv
  | j + 1, hj => by
    have ih := dayS_VS hO hv hd j (by omega)
    by_cases h : 0 ≤ (v j).toInt ∧ mayF I (dayS I L w v j) L (tn (v j) / 7) (tn (v j) % 7)
    · rw [dayS_t h.1 h.2]
      exact VS_step hO ih (dayOK_n (hd j (by omega)) h.1).2.1 h.2
    · rw [dayS_f h]
      exact ih
/-- works done in the first h hours, e steps an hour -/
noncomputable def dayW (I : Isl) (L : Nat) (w : Nat → Nat) (v : Nat → Int32) (e : Nat) : Nat → Nat
  | 0 => 0
  | h + 1 => dayW I L w v e h ||| (dbF I (dayS I L w v ((h + 1) * e)) (iW I) &&& mk (fun u => iV I u 0 == h) (iW I))
theorem dayW_bit {I : Isl} {L : Nat} {w : Nat → Nat} {v : Nat → Int32} {e i : Nat} : ∀ {h : Nat}, (dayW I L w v e h).testBit i = true → i < iW I ∧ iV I i 0 < h
  | 0, q => by unfold dayW at q; rw [Nat.zero_testBit] at q; cases q
  | h + 1, q => by
    unfold dayW at q
    rw [Nat.testBit_or, Bool.or_eq_true] at q
    rcases q with q | q
    · have := dayW_bit q; omega
    · rw [Nat.testBit_and, Bool.and_eq_true, mk_bit, Bool.and_eq_true, decide_eq_true_eq, beq_iff_eq] at q
      omega
theorem dayW_lt {I : Isl} {L : Nat} {w : Nat → Nat} {v : Nat → Int32} {e : Nat} : ∀ {h : Nat}, dayW I L w v e h < 2 ^ iW I
  | 0 => Nat.two_pow_pos _
  | h + 1 => Nat.or_lt_two_pow dayW_lt (Nat.lt_of_le_of_lt Nat.and_le_right (mk_lt _ _))
/-- within an hour, behind i works -/
noncomputable def dayR (I : Isl) (L : Nat) (w : Nat → Nat) (v : Nat → Int32) (e h i : Nat) : Nat := dayW I L w v e h ||| mk (fun u => iV I u 0 == h && dec (canF I (dayS I L w v ((h + 1) * e)) u)) i
theorem dayR_0 {I : Isl} {L : Nat} {w : Nat → Nat} {v : Nat → Int32} {e h : Nat} : dayR I L w v e h 0 = dayW I L w v e h := Nat.or_zero _
theorem dayR_end {I : Isl} {L : Nat} {w : Nat → Nat} {v : Nat → Int32} {e h : Nat} : dayR I L w v e h (iW I) = dayW I L w v e (h + 1) := by
  unfold dayR
  rw [dayW]
  congr 1
  apply Nat.eq_of_testBit_eq
  intro i
  rw [mk_bit, Nat.testBit_and, mk_bit]
  by_cases hi : i < iW I
  · by_cases hc : canF I (dayS I L w v ((h + 1) * e)) i
    · rw [(dbF_bit (n := iW I)).mpr ⟨hi, hc⟩, dec_t hc, Bool.and_true, Bool.true_and]
    · have : (dbF I (dayS I L w v ((h + 1) * e)) (iW I)).testBit i = false := Bool.eq_false_iff.mpr (fun q => hc (dbF_bit.mp q).2)
      rw [this, dec_f hc, Bool.and_false, Bool.and_false, Bool.false_and]
  · rw [decide_eq_false hi, Bool.false_and, Bool.false_and, Bool.and_false]
theorem dayR_s {I : Isl} {L : Nat} {w : Nat → Nat} {v : Nat → Int32} {e h i : Nat} (h1 : iV I i 0 = h) (h2 : canF I (dayS I L w v ((h + 1) * e)) i) : dayR I L w v e h (i + 1) = dayR I L w v e h i ||| 2 ^ i := by
  unfold dayR
  rw [mk_s, h1, beq_self_eq_true, dec_t h2, Bool.and_self, if_pos rfl, Nat.or_assoc]
theorem dayR_n {I : Isl} {L : Nat} {w : Nat → Nat} {v : Nat → Int32} {e h i : Nat} (h1 : ¬ (iV I i 0 = h ∧ canF I (dayS I L w v ((h + 1) * e)) i)) : dayR I L w v e h (i + 1) = dayR I L w v e h i := by
  unfold dayR
  rw [mk_s, if_neg (fun q => by rw [Bool.and_eq_true, beq_iff_eq, dec_iff] at q; exact h1 q), Nat.or_zero]
theorem dayR_lt {I : Isl} {L : Nat} {w : Nat → Nat} {v : Nat → Int32} {e h i : Nat} (hi : i ≤ iW I) : dayR I L w v e h i < 2 ^ iW I :=
  Nat.or_lt_two_pow dayW_lt (Nat.lt_of_lt_of_le (mk_lt _ _) (Nat.pow_le_pow_right (by decide) hi))
theorem dayR_no {I : Isl} {L : Nat} {w : Nat → Nat} {v : Nat → Int32} {e h i : Nat} (h1 : iV I i 0 = h) : (dayR I L w v e h i).testBit i = false := by
  refine Bool.eq_false_iff.mpr (fun q => ?_)
  unfold dayR at q
  rw [Nat.testBit_or, Bool.or_eq_true] at q
  rcases q with q | q
  · have := dayW_bit q; omega
  · rw [mk_bit, Bool.and_eq_true, decide_eq_true_eq] at q
    omega
theorem wth_or {I : Isl} {s i : Nat} (hi : i < iW I) (hs : s.testBit i = false) : wthF I (s ||| 2 ^ i) = wthF I s + iV I i 3 := by
  unfold wthF
  have h := sm_up (f := fun v => (s ||| 2 ^ i) / 2 ^ v % 2 * iV I v 3) (g := fun v => s / 2 ^ v % 2 * iV I v 3) (t := i) (fun j hj => by
    rw [bit01, bit01, Nat.testBit_or, Nat.testBit_two_pow_of_ne (fun q => hj q.symm), Bool.or_false]) hi
  rw [bit01 s i, hs, bit01 (s ||| 2 ^ i) i, Nat.testBit_or, Nat.testBit_two_pow_self, Bool.or_true, if_pos rfl, if_neg (by decide), Nat.one_mul, Nat.zero_mul, Nat.add_zero] at h
  exact h
theorem dayW_0 {I : Isl} {L : Nat} {w : Nat → Nat} {v : Nat → Int32} {e : Nat} : dayW I L w v e 0 = 0 := by unfold dayW; rfl
theorem wth_0 {I : Isl} : wthF I 0 = 0 := sm_zero fun i _ => by rw [Nat.zero_div, Nat.zero_mod, Nat.zero_mul]
theorem wth_le {I : Isl} (hO : IOK I) (s : Nat) : wthF I s ≤ 72 := by
  have h : wthF I s ≤ 9 * iW I := sm_le fun v hv => by
    have h1 := (hO.v v hv).2.2.2
    rcases Nat.mod_two_eq_zero_or_one (s / 2 ^ v) with e | e
    · rw [e]; omega
    · rw [e]; omega
  have := hO.2.2.1
  omega

