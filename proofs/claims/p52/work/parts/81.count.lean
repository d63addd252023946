/-! ===== how many states there can be, and near pairs ===== -/
def pdF (n : Nat → Nat) : Nat → Nat
  | 0 => 1
  | m + 1 => pdF n m * n m
theorem sm_mulc (f : Nat → Nat) (c : Nat) : ∀ n : Nat, sm (fun i => c * f i) n = c * sm f n
  | 0 => rfl
  | n + 1 => by rw [sm_s, sm_s, sm_mulc f c n, Nat.mul_add]
theorem sm_blk (f : Nat → Nat) (M : Nat) : ∀ k : Nat, sm f (k * M) = sm (fun h => sm (fun i => f (h * M + i)) M) k
  | 0 => by rw [Nat.zero_mul]; rfl
  | k + 1 => by rw [Nat.succ_mul, sm_add, sm_blk f M k]; rfl
theorem sm_blt : ∀ l, l < 8 → ∀ n, n < 8 → l + n ≤ 7 → sm (fun d => if l ≤ d ∧ d < l + n then 1 else 0) 7 = n := by decide
theorem dig_lo {m t h i : Nat} (ht : t < m) : digF (h * 7 ^ m + i) t = digF i t := by
  unfold digF
  have e : 7 ^ m = 7 ^ t * (7 * 7 ^ (m - t - 1)) := by
    rw [← Nat.mul_assoc, ← Nat.pow_succ, ← Nat.pow_add]
    congr 1
    omega
  rw [e, show h * (7 ^ t * (7 * 7 ^ (m - t - 1))) + i = i + 7 ^ t * (7 * (h * 7 ^ (m - t - 1))) by rw [Nat.add_comm i]; congr 1; rw [Nat.mul_left_comm, Nat.mul_left_comm h], Nat.add_mul_div_left _ _ (Nat.pow_pos (by decide)), Nat.add_mul_mod_self_left]
theorem dig_hi {m h i : Nat} (hh : h < 7) (hi : i < 7 ^ m) : digF (h * 7 ^ m + i) m = h := by
  unfold digF
  rw [Nat.add_comm, Nat.add_mul_div_right _ _ (Nat.pow_pos (by decide)), Nat.div_eq_of_lt hi, Nat.zero_add, Nat.mod_eq_of_lt hh]
/-- how many have each figure between bounds -/
theorem cnt_pd {l n : Nat → Nat} : ∀ m : Nat, (∀ t, t < m → l t + n t ≤ 7) → sm (fun c => i2 (∀ t, t < m → l t ≤ digF c t ∧ digF c t < l t + n t) 1 0) (7 ^ m) = pdF n m
  | 0, _ => by
    show 0 + i2 _ 1 0 = 1
    rw [e2_0 (fun t ht => absurd ht (Nat.not_lt_zero t))]
  | m + 1, hn => by
    have ih := cnt_pd (l := l) (n := n) m (fun t ht => hn t (Nat.lt_succ_of_lt ht))
    have hm := hn m (Nat.lt_succ_self m)
    rw [Nat.pow_succ, Nat.mul_comm, sm_blk]
    rw [sm_congr (g := fun h => pdF n m * (if l m ≤ h ∧ h < l m + n m then 1 else 0)) (fun h hh => ?_), sm_mulc, sm_blt (l m) (by omega) (n m) (by omega) hm]
    · rfl
    · by_cases q : l m ≤ h ∧ h < l m + n m
      · rw [if_pos q, Nat.mul_one, ← ih]
        refine sm_congr fun i hi => ?_
        by_cases r : ∀ t, t < m → l t ≤ digF i t ∧ digF i t < l t + n t
        · rw [e2_0 r, e2_0 (fun t ht => ?_)]
          by_cases z : t = m
          · rw [z, dig_hi hh hi]; exact q
          · rw [dig_lo (by omega)]; exact r t (by omega)
        · rw [e2_1 r, e2_1 (fun k => r (fun t ht => by have := k t (by omega); rw [dig_lo ht] at this; exact this))]
      · rw [if_neg q, Nat.mul_zero]
        refine sm_zero fun i hi => e2_1 (fun k => q ?_)
        have := k m (Nat.lt_succ_self m)
        rw [dig_hi hh hi] at this
        exact this
theorem pd_le {n : Nat → Nat} : ∀ m : Nat, (∀ t, t < m → n t ≤ 7) → pdF n m ≤ 7 ^ m
  | 0, _ => Nat.le_refl _
  | m + 1, h => Nat.mul_le_mul (pd_le m (fun t ht => h t (Nat.lt_succ_of_lt ht))) (h m (Nat.lt_succ_self m))
theorem cb_i2 {P : Nat → Prop} {n : Nat} : cb (fun c => dec (P c)) n = sm (fun c => i2 (P c) 1 0) n := sm_congr fun c _ => by
  by_cases q : P c
  · rw [e2_0 q]; exact if_pos (dec_t q)
  · rw [e2_1 q]; exact if_neg (fun h => q (dec_iff.mp h))
/-- the class of a kind: 0 a bag, 1 a living one, 2 another -/
def kc (k : Nat) : Nat := if k = 1 ∨ k = 4 then 0 else if k = 2 ∨ k = 5 then 1 else 2
def nnF (B k : Nat) : Nat := if k = 0 then 5 else if k = 1 then 4 else 5 + B
theorem kc_lt (k : Nat) : kc k < 3 := by unfold kc; split <;> (try split) <;> decide
theorem kc_0 {k : Nat} : kc k = 0 ↔ bagK k := by
  unfold kc bagK
  by_cases h : k = 1 ∨ k = 4
  · rw [if_pos h]; exact ⟨fun _ => h, fun _ => rfl⟩
  · rw [if_neg h]
    by_cases h2 : k = 2 ∨ k = 5
    · rw [if_pos h2]; exact ⟨fun q => absurd q (by decide), fun q => absurd q h⟩
    · rw [if_neg h2]; exact ⟨fun q => absurd q (by decide), fun q => absurd q h⟩
theorem kc_1 {k : Nat} : kc k = 1 ↔ livK k := by
  unfold kc livK
  by_cases h : k = 1 ∨ k = 4
  · rw [if_pos h]; exact ⟨fun q => absurd q (by decide), fun q => by omega⟩
  · rw [if_neg h]
    by_cases h2 : k = 2 ∨ k = 5
    · rw [if_pos h2]; exact ⟨fun _ => h2, fun _ => rfl⟩
    · rw [if_neg h2]; exact ⟨fun q => absurd q (by decide), fun q => absurd q h2⟩
theorem nn_le {B k : Nat} (hB : B ≤ 2) : nnF B k ≤ 7 := by
  unfold nnF
  by_cases h : k = 0
  · rw [if_pos h]; decide
  · rw [if_neg h]
    by_cases h1 : k = 1
    · rw [if_pos h1]; decide
    · rw [if_neg h1]; omega
theorem VS.dig {I : Isl} {L t : Nat} {w : Nat → Nat} (hO : IOK I) (h : VS I w L) (ht : t < iM I) : w t < nnF (iB I) (kc (iK I t)) := by
  have h1 := h.1 t ht
  have h2 := (h.ok hO).1 t ht
  unfold nnF
  by_cases q : kc (iK I t) = 0
  · rw [if_pos q]; have := h1.2.2 (kc_0.mp q); omega
  · rw [if_neg q]
    by_cases r : kc (iK I t) = 1
    · rw [if_pos r]; exact h1.2.1 (kc_1.mp r)
    · rw [if_neg r]; exact h2
def z0 (k : Nat) : Nat := if k = 0 then 1 else 0
def z2 (k : Nat) : Nat := if k = 2 then 1 else 0
def pE (k : Nat) : Nat := if k = 0 then 5 else 1
def T1 (B a b c d e : Nat) : Bool := Nat.blt (z0 a + z0 b + z0 c + z0 d + z0 e) B || (Nat.ble (nnF B a * nnF B b * nnF B c * nnF B d * nnF B e) 8525 || (B == 2 && (nnF B a * nnF B b * nnF B c * nnF B d * nnF B e == 8575 && (pE a * pE b * pE c * pE d * pE e == 25 && (z2 a + z2 b + z2 c + z2 d + z2 e == 3 && (!(a == 1) && (!(b == 1) && (!(c == 1) && (!(d == 1) && !(e == 1))))))))))
set_option maxRecDepth 100000 in
set_option maxHeartbeats 4000000 in
theorem num0 : ∀ q, q < 729 → T1 (q / 243) (q % 3) (q / 3 % 3) (q / 9 % 3) (q / 27 % 3) (q / 81 % 3) = true := by decide +kernel
theorem num1 (B : Nat) (hB : B < 3) (a : Nat) (ha : a < 3) (b : Nat) (hb : b < 3) (c : Nat) (hc : c < 3) (d : Nat) (hd : d < 3) (e : Nat) (he : e < 3) (h : B ≤ z0 a + z0 b + z0 c + z0 d + z0 e) :
    nnF B a * nnF B b * nnF B c * nnF B d * nnF B e ≤ 8525 ∨ (B = 2 ∧ nnF B a * nnF B b * nnF B c * nnF B d * nnF B e = 8575 ∧ pE a * pE b * pE c * pE d * pE e = 25 ∧ z2 a + z2 b + z2 c + z2 d + z2 e = 3 ∧ ¬ a = 1 ∧ ¬ b = 1 ∧ ¬ c = 1 ∧ ¬ d = 1 ∧ ¬ e = 1) := by
  have k := num0 (a + 3 * b + 9 * c + 27 * d + 81 * e + 243 * B) (by omega)
  rw [show (a + 3 * b + 9 * c + 27 * d + 81 * e + 243 * B) / 243 = B by omega, show (a + 3 * b + 9 * c + 27 * d + 81 * e + 243 * B) % 3 = a by omega, show (a + 3 * b + 9 * c + 27 * d + 81 * e + 243 * B) / 3 % 3 = b by omega, show (a + 3 * b + 9 * c + 27 * d + 81 * e + 243 * B) / 9 % 3 = c by omega, show (a + 3 * b + 9 * c + 27 * d + 81 * e + 243 * B) / 27 % 3 = d by omega, show (a + 3 * b + 9 * c + 27 * d + 81 * e + 243 * B) / 81 % 3 = e by omega] at k
  unfold T1 at k
  simp only [Bool.or_eq_true, Bool.and_eq_true, beq_iff_eq, Bool.not_eq_true', beq_eq_false_iff_ne, Nat.ble_eq] at k
  rcases k with k | k | k
  · have := Nat.blt_eq.mp k
    omega
  · exact Or.inl k
  · exact Or.inr k
theorem pd5 (n : Nat → Nat) : pdF n 5 = n 0 * n 1 * n 2 * n 3 * n 4 := by
  show 1 * n 0 * n 1 * n 2 * n 3 * n 4 = _
  rw [Nat.one_mul]
theorem sm5 (n : Nat → Nat) : sm n 5 = n 0 + n 1 + n 2 + n 3 + n 4 := by
  show 0 + n 0 + n 1 + n 2 + n 3 + n 4 = _
  rw [Nat.zero_add]
theorem bags_le {I : Isl} (hO : IOK I) : iB I ≤ sm (fun t => z0 (kc (iK I t))) (iM I) := by
  have h := inj_le (P := fun t => kc (iK I t) == 0) (M := iM I) (n := iB I) (f := iG I) (fun b hb => ⟨(hO.2.2.2.2.2.1 b hb).1, beq_iff_eq.mpr (kc_0.mpr (hO.2.2.2.2.2.1 b hb).2)⟩) (fun b c hb hc e => hO.inj hb hc e)
  refine Nat.le_trans h (dq_mono fun t _ => ?_)
  unfold z0
  by_cases q : kc (iK I t) = 0
  · rw [if_pos (beq_iff_eq.mpr q), if_pos q]; exact Nat.le_refl _
  · rw [if_neg (fun r => q (beq_iff_eq.mp r))]; exact Nat.zero_le _
def loE (b k : Nat) : Nat := if k = 0 then 0 else 5 + b
theorem cnt_ok {I : Isl} {L : Nat} (hO : IOK I) : cb (fun c => dec (OKc I L c)) (7 ^ iM I) ≤ 8525 := by
  have hB := hO.2.2.2.1
  have hpd := cnt_pd (l := fun _ => 0) (n := fun t => nnF (iB I) (kc (iK I t))) (iM I) (fun t _ => by rw [Nat.zero_add]; exact nn_le hB)
  have hin : ∀ c, OKc I L c → ∀ t, t < iM I → 0 ≤ digF c t ∧ digF c t < 0 + nnF (iB I) (kc (iK I t)) := fun c hc t ht => ⟨Nat.zero_le _, by rw [Nat.zero_add]; exact hc.2.dig hO ht⟩
  have hle : cb (fun c => dec (OKc I L c)) (7 ^ iM I) ≤ pdF (fun t => nnF (iB I) (kc (iK I t))) (iM I) := by
    rw [cb_i2, ← hpd]
    refine dq_mono fun c _ => ?_
    by_cases q : OKc I L c
    · rw [e2_0 q, e2_0 (hin c q)]; exact Nat.le_refl _
    · rw [e2_1 q]; exact Nat.zero_le _
  by_cases hm : iM I = 5
  · have hb := bags_le hO
    rw [hm, sm5] at hb
    have hp5 : pdF (fun t => nnF (iB I) (kc (iK I t))) (iM I) = nnF (iB I) (kc (iK I 0)) * nnF (iB I) (kc (iK I 1)) * nnF (iB I) (kc (iK I 2)) * nnF (iB I) (kc (iK I 3)) * nnF (iB I) (kc (iK I 4)) := by rw [hm]; exact pd5 _
    rcases num1 (iB I) (by omega) _ (kc_lt (iK I 0)) _ (kc_lt (iK I 1)) _ (kc_lt (iK I 2)) _ (kc_lt (iK I 3)) _ (kc_lt (iK I 4)) hb with h | ⟨hB2, h1, h2, h3, n0, n1, n2, n3, n4⟩
    · rw [hp5] at hle
      exact Nat.le_trans hle h
    · have hz2 : sm (fun t => z2 (kc (iK I t))) (iM I) = 3 := by rw [hm, sm5]; exact h3
      have exc : ∀ b, b < 2 → sm (fun c => i2 (∀ t, t < iM I → loE b (kc (iK I t)) ≤ digF c t ∧ digF c t < loE b (kc (iK I t)) + pE (kc (iK I t))) 1 0) (7 ^ iM I) = 25 := fun b hb2 => by
        rw [cnt_pd (l := fun t => loE b (kc (iK I t))) (n := fun t => pE (kc (iK I t))) (iM I) (fun t _ => by
          unfold pE loE
          by_cases q : kc (iK I t) = 0
          · rw [if_pos q, if_pos q]; decide
          · rw [if_neg q, if_neg q]; omega), hm, pd5]
        exact h2
      have hdis : ∀ c, c < 7 ^ iM I → i2 (OKc I L c) 1 0 + (i2 (∀ t, t < iM I → loE 0 (kc (iK I t)) ≤ digF c t ∧ digF c t < loE 0 (kc (iK I t)) + pE (kc (iK I t))) 1 0 + i2 (∀ t, t < iM I → loE 1 (kc (iK I t)) ≤ digF c t ∧ digF c t < loE 1 (kc (iK I t)) + pE (kc (iK I t))) 1 0) ≤ i2 (∀ t, t < iM I → 0 ≤ digF c t ∧ digF c t < 0 + nnF (iB I) (kc (iK I t))) 1 0 := fun c _ => by
        obtain ⟨t0, ht0, hz0⟩ := dq_pos (f := fun t => z2 (kc (iK I t))) (n := iM I) (by rw [hz2]; decide)
        have hk2 : kc (iK I t0) = 2 := by
          unfold z2 at hz0
          by_cases q : kc (iK I t0) = 2
          · exact q
          · rw [if_neg q] at hz0; omega
        have two : ∀ b, b < 2 → (∀ t, t < iM I → loE b (kc (iK I t)) ≤ digF c t ∧ digF c t < loE b (kc (iK I t)) + pE (kc (iK I t))) → digF c t0 = 5 + b ∧ ¬ OKc I L c ∧ ∀ t, t < iM I → 0 ≤ digF c t ∧ digF c t < 0 + nnF (iB I) (kc (iK I t)) := fun b hb2 h => by
          have at2 : ∀ t, t < iM I → kc (iK I t) = 2 → digF c t = 5 + b := fun t ht k => by
            have := h t ht
            unfold loE pE at this
            rw [k, if_neg (by decide), if_neg (by decide)] at this
            omega
          refine ⟨at2 t0 ht0 hk2, fun ok => ?_, fun t ht => ⟨Nat.zero_le _, ?_⟩⟩
          · have h1 := ok.2.2.1 b (by omega)
            have h2 := rm_le (iK I (iG I b))
            have h3 : sm (fun t => z2 (kc (iK I t))) (iM I) ≤ insF I (digF c) b := dq_mono fun t ht => by
              unfold z2
              by_cases q : kc (iK I t) = 2
              · rw [if_pos q, if_pos (at2 t ht q)]; exact Nat.le_refl _
              · rw [if_neg q]; exact Nat.zero_le _
            omega
          · have := h t ht
            have hl := kc_lt (iK I t)
            unfold loE pE at this
            unfold nnF
            rw [Nat.zero_add]
            by_cases q : kc (iK I t) = 0
            · rw [if_pos q, if_pos q] at this
              rw [if_pos q]; omega
            · rw [if_neg q, if_neg q] at this
              rw [if_neg q]
              by_cases r : kc (iK I t) = 1
              · exfalso
                have e1 : ∀ t, t < 5 → kc (iK I t) = 1 → False := fun t ht e => by
                  have tt : t = 0 ∨ t = 1 ∨ t = 2 ∨ t = 3 ∨ t = 4 := by omega
                  rcases tt with rfl | rfl | rfl | rfl | rfl <;> omega
                exact e1 t (by omega) r
              · rw [if_neg r]; omega
        by_cases p0 : ∀ t, t < iM I → loE 0 (kc (iK I t)) ≤ digF c t ∧ digF c t < loE 0 (kc (iK I t)) + pE (kc (iK I t))
        · have a := two 0 (by decide) p0
          have np1 : ¬ ∀ t, t < iM I → loE 1 (kc (iK I t)) ≤ digF c t ∧ digF c t < loE 1 (kc (iK I t)) + pE (kc (iK I t)) := fun p1 => by
            have b := two 1 (by decide) p1
            omega
          rw [e2_1 a.2.1, e2_0 p0, e2_1 np1, e2_0 a.2.2]; decide
        · by_cases p1 : ∀ t, t < iM I → loE 1 (kc (iK I t)) ≤ digF c t ∧ digF c t < loE 1 (kc (iK I t)) + pE (kc (iK I t))
          · have a := two 1 (by decide) p1
            rw [e2_1 a.2.1, e2_1 p0, e2_0 p1, e2_0 a.2.2]; decide
          · rw [e2_1 p0, e2_1 p1]
            by_cases q : OKc I L c
            · rw [e2_0 q, e2_0 (hin c q)]; decide
            · rw [e2_1 q]; exact Nat.zero_le _
      have hsum := dq_mono (n := 7 ^ iM I) hdis
      rw [dq_plus, dq_plus, exc 0 (by decide), exc 1 (by decide), hpd, hp5, h1, ← cb_i2] at hsum
      omega
  · have := pd_le (n := fun t => nnF (iB I) (kc (iK I t))) (iM I) (fun t _ => nn_le hB)
    have h4 : 7 ^ iM I ≤ 7 ^ 4 := Nat.pow_le_pow_right (by decide) (by have := hO.2.1; omega)
    have : (7 : Nat) ^ 4 = 2401 := by decide
    omega

