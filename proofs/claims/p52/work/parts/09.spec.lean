/-! ===== bits of small naturals in ints; sums and masks; the pure island ===== -/
theorem nb_and (a b : Nat) : nI a &&& nI b = nI (a &&& b) := by
  apply Int32.toBitVec_inj.1
  show BitVec.ofNat 32 a &&& BitVec.ofNat 32 b = BitVec.ofNat 32 (a &&& b)
  apply BitVec.eq_of_getLsbD_eq
  intro i hi
  simp [hi]
theorem nb_or (a b : Nat) : nI a ||| nI b = nI (a ||| b) := by
  apply Int32.toBitVec_inj.1
  show BitVec.ofNat 32 a ||| BitVec.ofNat 32 b = BitVec.ofNat 32 (a ||| b)
  apply BitVec.eq_of_getLsbD_eq
  intro i hi
  simp [hi]
theorem nb_xor (a b : Nat) : nI a ^^^ nI b = nI (a ^^^ b) := by
  apply Int32.toBitVec_inj.1
  show BitVec.ofNat 32 a ^^^ BitVec.ofNat 32 b = BitVec.ofNat 32 (a ^^^ b)
  apply BitVec.eq_of_getLsbD_eq
  intro i hi
  simp [hi]
theorem nb_s : ∀ n, n < 32 → ((nI n &&& 31).toBitVec.smod 32).toNat = n := by decide +kernel
theorem nb_shl (a : Nat) {t : Nat} (ht : t < 32) : nI a <<< (nI t &&& 31) = nI (a * 2 ^ t) := by
  apply Int32.toBitVec_inj.1
  rw [Int32.toBitVec_shiftLeft]
  show (BitVec.ofNat 32 a) <<< ((nI t &&& 31).toBitVec.smod 32).toNat = BitVec.ofNat 32 (a * 2 ^ t)
  rw [nb_s t ht]
  apply BitVec.eq_of_toNat_eq
  rw [BitVec.toNat_shiftLeft, BitVec.toNat_ofNat, BitVec.toNat_ofNat, Nat.shiftLeft_eq, Nat.mul_mod, Nat.mod_mod, ← Nat.mul_mod]
theorem nb_shr {a t : Nat} (ha : a < 2147483648) (ht : t < 32) : nI a >>> (nI t &&& 31) = nI (a / 2 ^ t) := by
  have hd : a / 2 ^ t ≤ a := Nat.div_le_self _ _
  apply Int32.toInt_inj.mp
  have e : (nI a >>> (nI t &&& 31)).toInt = (nI a).toInt >>> t := by
    show ((nI a).toBitVec.sshiftRight ((nI t &&& 31).toBitVec.smod 32).toNat).toInt = _
    rw [nb_s t ht, BitVec.toInt_sshiftRight]
    rfl
  rw [e, Int.shiftRight_eq_div_pow, tiN ha, tiN (by omega)]
  rfl
theorem nb_m1 : (-1 : Int32) = nI 4294967295 := by decide
theorem nb_andn {a b : Nat} (ha : a < 2147483648) (hb : b < 2147483648) : nI a &&& (nI b ^^^ (-1)) = nI (a ^^^ (a &&& b)) := by
  rw [nb_m1, nb_xor, nb_and]
  congr 1
  apply Nat.eq_of_testBit_eq
  intro i
  rw [Nat.testBit_and, Nat.testBit_xor, Nat.testBit_xor, Nat.testBit_and]
  by_cases hi : i < 32
  · have : (4294967295 : Nat).testBit i = true := by
      have e : (4294967295 : Nat) = 2 ^ 32 - 1 := by decide
      rw [e, Nat.testBit_two_pow_sub_one]
      simp [hi]
    rw [this]
    cases a.testBit i <;> cases b.testBit i <;> rfl
  · have : a.testBit i = false := Nat.testBit_lt_two_pow (Nat.lt_of_lt_of_le ha (by
      have : 2 ^ 31 ≤ 2 ^ i := Nat.pow_le_pow_right (by decide) (by omega)
      omega))
    rw [this]
    rfl
section XB
variable {fr lo : Nat} {M : MD} {Q : Option Value → St → Prop} {pc : Nat} {lv : List (Nat × Value)} {st : List Value} {S : St}
theorem y_iand {a b : Nat} (hd : decode M.2.1 pc = .ok (.iand, 1)) (kk : X fr lo M Q (pc + 1) lv (.int (nI (a &&& b)) :: st) S) : X fr lo M Q pc lv (.int (nI b) :: .int (nI a) :: st) S := x_iand hd (by rw [nb_and]; exact kk)
theorem y_ior {a b : Nat} (hd : decode M.2.1 pc = .ok (.ior, 1)) (kk : X fr lo M Q (pc + 1) lv (.int (nI (a ||| b)) :: st) S) : X fr lo M Q pc lv (.int (nI b) :: .int (nI a) :: st) S := x_ior hd (by rw [nb_or]; exact kk)
theorem y_ishl {a b : Nat} (hd : decode M.2.1 pc = .ok (.ishl, 1)) (hb : b < 32) (kk : X fr lo M Q (pc + 1) lv (.int (nI (a * 2 ^ b)) :: st) S) : X fr lo M Q pc lv (.int (nI b) :: .int (nI a) :: st) S := x_ishl hd (by rw [nb_shl a hb]; exact kk)
theorem y_ishr {a b : Nat} (hd : decode M.2.1 pc = .ok (.ishr, 1)) (ha : a < 2147483648) (hb : b < 32) (kk : X fr lo M Q (pc + 1) lv (.int (nI (a / 2 ^ b)) :: st) S) : X fr lo M Q pc lv (.int (nI b) :: .int (nI a) :: st) S := x_ishr hd (by rw [nb_shr ha hb]; exact kk)
theorem y_acopy {idx k0 k n0 n1 sp dp n : Nat} (hm : Cond.methodLink M.1 idx arraycopyName ∈ TB) (hd : decode M.2.1 pc = .ok (.invokestatic idx, 3)) (hl0 : LAY[k0]? = some (.inr (0, n0))) (hl1 : LAY[k]? = some (.inr (0, n1))) (h4 : sp + n ≤ n0) (h5 : dp + n ≤ n1) (hn0 : n0 < 2147483648) (hn1 : n1 < 2147483648) (hr : (st.map fun v => v.category).sum ≤ 8) (hfr : 1 ≤ fr) (hlo : 8 + (nativeFrameWords "java/lang/System" "arraycopy" 5 + 11) ≤ lo) (kk : X fr lo M Q (pc + 3) lv st (cpA S k0 k sp dp n)) : X fr lo M Q pc lv (.int (nI n) :: .int (nI dp) :: .ref k :: .int (nI sp) :: .ref k0 :: st) S := by
  have a1 : sp < 2147483648 := by omega
  have a2 : dp < 2147483648 := by omega
  have a3 : n < 2147483648 := by omega
  refine x_acopy hm hd hl0 hl1 (by rw [tiN a1]; omega) (by rw [tiN a2]; omega) (by rw [tiN a3]; omega) ?_ ?_ hr hfr hlo ?_
  · rw [tcN a1, tcN a3]; exact h4
  · rw [tcN a2, tcN a3]; exact h5
  · rw [tcN a1, tcN a2, tcN a3]; exact kk
/-- a and not b -/
theorem y_andn {a b : Nat} (hd0 : decode M.2.1 pc = .ok (.iconst (-1), 1)) (hd1 : decode M.2.1 (pc + 1) = .ok (.ixor, 1)) (hd2 : decode M.2.1 (pc + 2) = .ok (.iand, 1)) (ha : a < 2147483648) (hb : b < 2147483648) (kk : X fr lo M Q (pc + 3) lv (.int (nI (a ^^^ (a &&& b))) :: st) S) : X fr lo M Q pc lv (.int (nI b) :: .int (nI a) :: st) S := x_iconst (v := -1) hd0 (by decide) (x_ixor hd1 (x_iand hd2 (by rw [nb_andn ha hb]; exact kk)))
end XB
/-- sums and masks over the first n naturals -/
def sm (f : Nat → Nat) : Nat → Nat
  | 0 => 0
  | n + 1 => sm f n + f n
def mk (f : Nat → Bool) : Nat → Nat
  | 0 => 0
  | n + 1 => mk f n ||| (if f n then 2 ^ n else 0)
theorem sm_s (f : Nat → Nat) (n : Nat) : sm f (n + 1) = sm f n + f n := rfl
theorem mk_s (f : Nat → Bool) (n : Nat) : mk f (n + 1) = mk f n ||| (if f n then 2 ^ n else 0) := rfl
theorem mk_bit (f : Nat → Bool) : ∀ (n i : Nat), (mk f n).testBit i = (decide (i < n) && f i)
  | 0, i => by simp [mk]
  | n + 1, i => by
    unfold mk
    rw [Nat.testBit_or, mk_bit f n i]
    by_cases hi : i = n
    · subst hi
      by_cases hf : f i <;> simp [hf, Nat.testBit_two_pow_self]
    · have h2 : (if f n then 2 ^ n else 0 : Nat).testBit i = false := by
        by_cases hf : f n
        · rw [if_pos hf, Nat.testBit_two_pow_of_ne (fun q => hi q.symm)]
        · rw [if_neg hf, Nat.zero_testBit]
      rw [h2, Bool.or_false]
      congr 1
      simp only [decide_eq_decide]
      omega
theorem mk_lt (f : Nat → Bool) : ∀ n : Nat, mk f n < 2 ^ n
  | 0 => Nat.one_pos
  | n + 1 => by
    unfold mk
    refine Nat.or_lt_two_pow (Nat.lt_trans (mk_lt f n) (Nat.pow_lt_pow_right (by decide) (Nat.lt_succ_self n))) ?_
    by_cases h : f n
    · rw [if_pos h]; exact Nat.pow_lt_pow_right (by decide) (Nat.lt_succ_self n)
    · rw [if_neg h]; exact Nat.two_pow_pos _
theorem mk_congr {f g : Nat → Bool} : ∀ {n : Nat}, (∀ i, i < n → f i = g i) → mk f n = mk g n
  | 0, _ => rfl
  | n + 1, h => by
    unfold mk
    rw [mk_congr (fun i hi => h i (Nat.lt_succ_of_lt hi)), h n (Nat.lt_succ_self n)]
theorem sm_congr {f g : Nat → Nat} : ∀ {n : Nat}, (∀ i, i < n → f i = g i) → sm f n = sm g n
  | 0, _ => rfl
  | n + 1, h => by
    unfold sm
    rw [sm_congr (fun i hi => h i (Nat.lt_succ_of_lt hi)), h n (Nat.lt_succ_self n)]
theorem sm_le {f : Nat → Nat} {b : Nat} : ∀ {n : Nat}, (∀ i, i < n → f i ≤ b) → sm f n ≤ b * n
  | 0, _ => Nat.zero_le _
  | n + 1, h => by
    unfold sm
    have h1 := sm_le (fun i hi => h i (Nat.lt_succ_of_lt hi))
    have h2 := h n (Nat.lt_succ_self n)
    rw [Nat.mul_succ]
    omega
theorem mk_true {f : Nat → Bool} {n i : Nat} (hi : i < n) (h : f i = true) : mk f n / 2 ^ i % 2 = 1 := by
  have := mk_bit f n i
  rw [Nat.testBit_eq_decide_div_mod_eq] at this
  simp [hi, h] at this
  exact this
/-! the pure island: people, things, works, bags; kinds, starts, bags' things, works' columns (hour, who, wants, worth) -/
abbrev Isl : Type := Nat × Nat × Nat × Nat × (Nat → Nat) × (Nat → Nat) × (Nat → Nat) × (Nat → Nat → Nat)
def iP (I : Isl) : Nat := I.1
def iM (I : Isl) : Nat := I.2.1
def iW (I : Isl) : Nat := I.2.2.1
def iB (I : Isl) : Nat := I.2.2.2.1
def iK (I : Isl) : Nat → Nat := I.2.2.2.2.1
def iS (I : Isl) : Nat → Nat := I.2.2.2.2.2.1
def iG (I : Isl) : Nat → Nat := I.2.2.2.2.2.2.1
def iV (I : Isl) : Nat → Nat → Nat := I.2.2.2.2.2.2.2
def wt (k : Nat) : Nat := if k = 3 ∨ k = 5 then 2 else 1
def rm (k : Nat) : Nat := if k = 4 then 2 else if k = 1 then 1 else 0
def bagK (k : Nat) : Prop := k = 1 ∨ k = 4
def livK (k : Nat) : Prop := k = 2 ∨ k = 5
theorem wt_le (k : Nat) : wt k ≤ 2 := by unfold wt; split <;> decide
theorem wt_pos (k : Nat) : 1 ≤ wt k := by unfold wt; split <;> decide
theorem rm_le (k : Nat) : rm k ≤ 2 := by unfold rm; split <;> (try decide); split <;> decide
theorem rm_pos (k : Nat) : 0 < rm k ↔ bagK k := by
  unfold rm bagK
  by_cases h4 : k = 4
  · simp [h4]
  · by_cases h1 : k = 1 <;> simp [h4, h1]
/-- an island as a text can tell it -/
def IOK (I : Isl) : Prop := iP I ≤ 4 ∧ iM I ≤ 5 ∧ iW I ≤ 8 ∧ iB I ≤ 2 ∧ (∀ t, t < iM I → iK I t ≤ 5) ∧
  (∀ b, b < iB I → iG I b < iM I ∧ bagK (iK I (iG I b))) ∧ (iB I = 2 → iG I 0 < iG I 1) ∧ (∀ t, t < iM I → bagK (iK I t) → ∃ b, b < iB I ∧ iG I b = t) ∧
  (∀ w, w < iW I → iV I w 0 < 6 ∧ iV I w 1 < iP I ∧ iV I w 2 < 2 ^ iM I ∧ 0 < iV I w 2 ∧ 1 ≤ iV I w 3 ∧ iV I w 3 ≤ 9)
def whomF (I : Isl) (w : Nat → Nat) (t : Nat) : Nat := if w t ≤ 4 then w t else w (iG I (w t - 5))
def loadF (I : Isl) (w : Nat → Nat) (p : Nat) : Nat := sm (fun t => if w t = p then wt (iK I t) else 0) (iM I)
def heldF (I : Isl) (w : Nat → Nat) (p : Nat) : Nat := mk (fun t => whomF I w t == p) (iM I)
def insF (I : Isl) (w : Nat → Nat) (b : Nat) : Nat := sm (fun t => if w t = 5 + b then 1 else 0) (iM I)
def plcF (I : Isl) (to : Nat) : Prop := to < iP I ∨ (4 ≤ to ∧ to < 5 + iB I)
def fitF (I : Isl) (w : Nat → Nat) (L t to : Nat) : Prop := to = 4 ∨ loadF I w to + wt (iK I t) ≤ L
/-- whether a step can be -/
def mayF (I : Isl) (w : Nat → Nat) (L t to : Nat) : Prop := plcF I to ∧ to ≠ w t ∧
  if 5 ≤ w t then to = whomF I w t ∧ fitF I w L t to
  else if 5 ≤ to then ¬ bagK (iK I t) ∧ ¬ livK (iK I t) ∧ w (iG I (to - 5)) = w t ∧ insF I w (to - 5) < rm (iK I (iG I (to - 5)))
  else if to = 4 then ¬ livK (iK I t) else fitF I w L t to
/-- places that can be, by a limit -/
def VS (I : Isl) (w : Nat → Nat) (L : Nat) : Prop := (∀ t, t < iM I → plcF I (w t) ∧ (livK (iK I t) → w t < 4) ∧ (bagK (iK I t) → w t ≤ 4)) ∧ (∀ b, b < iB I → insF I w b ≤ rm (iK I (iG I b))) ∧ ∀ p, p < iP I → loadF I w p ≤ L
theorem loadF_le (I : Isl) (h : IOK I) (w : Nat → Nat) (p : Nat) : loadF I w p ≤ 10 := by
  have : loadF I w p ≤ 2 * iM I := sm_le (fun i _ => by
    by_cases hp : w i = p
    · rw [if_pos hp]; exact wt_le _
    · rw [if_neg hp]; decide)
  have := h.2.1
  omega
theorem insF_le (I : Isl) (h : IOK I) (w : Nat → Nat) (b : Nat) : insF I w b ≤ 5 := by
  have : insF I w b ≤ 1 * iM I := sm_le (fun i _ => by split <;> decide)
  have := h.2.1
  omega
theorem heldF_lt (I : Isl) (h : IOK I) (w : Nat → Nat) (p : Nat) : heldF I w p < 32 := by
  have h1 : heldF I w p < 2 ^ iM I := mk_lt _ _
  have h2 : 2 ^ iM I ≤ 2 ^ 5 := Nat.pow_le_pow_right (by decide) h.2.1
  omega
/-- sums of longs; the digest's step over n numbers -/
def sl (f : Nat → Int64) : Nat → Int64
  | 0 => 0
  | n + 1 => sl f n + f n
def fl (f : Nat → Int64) (h : Int64) : Nat → Int64
  | 0 => h
  | n + 1 => 31 * fl f h n + f n
