/-! ===== a text is read, pure ===== -/
/-- the sign at i of a text of n: 256 behind its end, 300 for what is no sign -/
def chF (n : Nat) (β : Nat → Int32) (i : Nat) : Nat := if i < n then (if 0 ≤ (β i).toInt then (β i).toInt.toNat else 300) else 256
def sgC (n : Nat) (β : Nat → Int32) (i : Nat) : Int32 := if i < n then β i else nI 256
def sgM (n : Nat) (β : Nat → Int32) (i : Nat) : Int32 := if i < n then β i else nI 0
def byR (n : Nat) (β : Nat → Int32) : Prop := ∀ i, i < n → -128 ≤ (β i).toInt ∧ (β i).toInt ≤ 127
/-- the value x is the sign c -/
def SgG (x : Int32) (c : Nat) : Prop := (c < 128 ∧ x = nI c) ∨ (128 ≤ c ∧ (x = nI 256 ∨ (-128 ≤ x.toInt ∧ x.toInt ≤ 0)))
theorem sg_b {n i : Nat} {β : Nat → Int32} (hb : byR n β) (hi : i < n) : SgG (β i) (chF n β i) := by
  have h := hb i hi
  unfold chF
  rw [if_pos hi]
  by_cases q : 0 ≤ (β i).toInt
  · rw [if_pos q]
    exact Or.inl ⟨by omega, nI_of_int (by omega)⟩
  · rw [if_neg q]
    exact Or.inr ⟨by decide, Or.inr ⟨by omega, by omega⟩⟩
theorem sg_C {n i : Nat} {β : Nat → Int32} (hb : byR n β) : SgG (sgC n β i) (chF n β i) := by
  by_cases hi : i < n
  · unfold sgC; rw [if_pos hi]; exact sg_b hb hi
  · unfold sgC chF; rw [if_neg hi, if_neg hi]; exact Or.inr ⟨by decide, Or.inl rfl⟩
theorem sg_M {n i : Nat} {β : Nat → Int32} (hb : byR n β) : SgG (sgM n β i) (chF n β i) := by
  by_cases hi : i < n
  · unfold sgM; rw [if_pos hi]; exact sg_b hb hi
  · unfold sgM chF; rw [if_neg hi, if_neg hi]; exact Or.inr ⟨by decide, Or.inr ⟨by decide, by decide⟩⟩
theorem sg_end {n i : Nat} {β : Nat → Int32} (hb : byR n β) : sgC n β i = nI 256 ↔ n ≤ i := by
  unfold sgC
  by_cases hi : i < n
  · rw [if_pos hi]
    constructor
    · intro e
      have := hb i hi
      rw [e] at this
      exact absurd this.2 (by decide)
    · intro h; omega
  · rw [if_neg hi]; exact ⟨fun _ => by omega, fun _ => rfl⟩
theorem ch_lt {n i : Nat} {β : Nat → Int32} (h : chF n β i < 128) : i < n := by
  unfold chF at h
  by_cases q : i < n
  · exact q
  · rw [if_neg q] at h; omega
theorem SgG.eq {x : Int32} {c k : Nat} (h : SgG x c) (h1 : 1 ≤ k) (hk : k < 128) : x = nI k ↔ c = k := by
  rcases h with ⟨h2, rfl⟩ | ⟨h2, h3⟩
  · exact ⟨fun e => nI_inj (by omega) (by omega) e, fun e => by rw [e]⟩
  · constructor
    · intro e
      rcases h3 with h3 | ⟨h3, h4⟩
      · exact absurd (nI_inj (by omega) (by omega) (e.symm.trans h3)) (by omega)
      · rw [e, tiN (by omega)] at h4; omega
    · intro e; omega
/-- one less than 48 from it: its figure -/
theorem SgG.bd {x : Int32} {c : Nat} (h : SgG x c) : -128 ≤ x.toInt ∧ x.toInt ≤ 256 := by
  rcases h with ⟨h2, rfl⟩ | ⟨h2, h3 | ⟨h3, h4⟩⟩
  · rw [tiN (by omega)]; omega
  · rw [h3]; decide
  · omega
theorem SgG.sub {x : Int32} {c : Nat} (h : SgG x c) : (x - nI 48).toInt = x.toInt - 48 := by
  have := h.bd
  exact toI_sub (by omega) (by omega) (by decide) (by decide)
theorem SgG.fig {x : Int32} {c lo hi : Nat} (h : SgG x c) (hh : hi ≤ 9) : ((lo : Int) ≤ (x - nI 48).toInt ∧ (x - nI 48).toInt ≤ (hi : Int)) ↔ (48 + lo ≤ c ∧ c ≤ 48 + hi) := by
  rw [h.sub]
  rcases h with ⟨h2, rfl⟩ | ⟨h2, h3⟩
  · rw [tiN (by omega)]; omega
  · constructor
    · intro e
      rcases h3 with h3 | ⟨h3, h4⟩
      · rw [h3, tiN (by omega)] at e; omega
      · omega
    · intro e; omega
theorem SgG.val {x : Int32} {c : Nat} (h : SgG x c) (h1 : 48 ≤ c) (h2 : c ≤ 57) : x - nI 48 = nI (c - 48) := by
  rcases h with ⟨_, rfl⟩ | ⟨h3, _⟩
  · exact nI_subN h1
  · omega
/-! the kinds -/
def kdF (c : Nat) : Nat := if c = 116 then 0 else if c = 98 then 1 else if c = 108 then 2 else if c = 104 then 3 else if c = 115 then 4 else if c = 101 then 5 else 9
theorem kd_le (c : Nat) : kdF c = 9 ∨ kdF c ≤ 5 := by
  unfold kdF
  by_cases h1 : c = 116
  · rw [if_pos h1]; exact Or.inr (by decide)
  · rw [if_neg h1]
    by_cases h2 : c = 98
    · rw [if_pos h2]; exact Or.inr (by decide)
    · rw [if_neg h2]
      by_cases h3 : c = 108
      · rw [if_pos h3]; exact Or.inr (by decide)
      · rw [if_neg h3]
        by_cases h4 : c = 104
        · rw [if_pos h4]; exact Or.inr (by decide)
        · rw [if_neg h4]
          by_cases h5 : c = 115
          · rw [if_pos h5]; exact Or.inr (by decide)
          · rw [if_neg h5]
            by_cases h6 : c = 101
            · rw [if_pos h6]; exact Or.inr (by decide)
            · rw [if_neg h6]; exact Or.inl rfl
theorem kd_in {c : Nat} (h : ¬ kdF c = 9) : c < 128 ∧ kdF c ≤ 5 := by
  refine ⟨?_, (kd_le c).resolve_left h⟩
  rcases Nat.lt_or_ge c 128 with q | q
  · exact q
  · refine absurd ?_ h
    unfold kdF
    rw [if_neg (by omega), if_neg (by omega), if_neg (by omega), if_neg (by omega), if_neg (by omega), if_neg (by omega)]
/-! the island of what has been read -/
def isl0 : Isl := (0, 0, 0, 0, fun _ => 0, fun _ => 0, fun _ => 0, fun _ _ => 0)
def islP (I : Isl) (p : Nat) : Isl := (p, I.2)
def addT (I : Isl) (q pl : Nat) : Isl := (iP I, iM I + 1, iW I, (if 0 < rm q then iB I + 1 else iB I), upW (iK I) (iM I) q, upW (iS I) (iM I) pl, (if 0 < rm q then upW (iG I) (iB I) (iM I) else iG I), iV I)
def addV (I : Isl) (h p s z : Nat) : Isl := (iP I, iM I, iW I + 1, iB I, iK I, iS I, iG I, fun w j => if w = iW I then (if j = 0 then h else if j = 1 then p else if j = 2 then s else z) else iV I w j)
/-- what holds while a text is read -/
def PI (I : Isl) : Prop := IOK I ∧ (∀ t, t < iM I → iS I t < iP I ∨ (iS I t = 4 ∧ ¬ livK (iK I t))) ∧ ∀ p, p < iP I → loadF I (iS I) p ≤ 3
theorem PI.VS {I : Isl} (h : PI I) : VS I (iS I) 3 := by
  obtain ⟨hO, h2, h3⟩ := h
  have hP := hO.1
  refine ⟨fun t ht => ?_, fun b hb => ?_, h3⟩
  · have := h2 t ht
    refine ⟨by unfold plcF; omega, fun hl => ?_, fun _ => by omega⟩
    rcases this with k | k
    · omega
    · exact absurd hl k.2
  · have e : insF I (iS I) b = 0 := sm_zero fun t ht => if_neg (by have := h2 t ht; omega)
    rw [e]
    exact Nat.zero_le _
theorem PI_0 : PI isl0 := by
  have hm : iM isl0 = 0 := rfl
  have hp : iP isl0 = 0 := rfl
  have hw : iW isl0 = 0 := rfl
  have hb : iB isl0 = 0 := rfl
  refine ⟨⟨by omega, by omega, by omega, by omega, fun t ht => by omega, fun b hb => by omega, fun h => by omega, fun t ht => by omega, fun w hw => by omega⟩, fun t ht => by omega, fun p hp => by omega⟩
theorem PI_P {p : Nat} (h : p ≤ 4) : PI (islP isl0 p) := by
  have hm : iM (islP isl0 p) = 0 := rfl
  have hp : iP (islP isl0 p) = p := rfl
  have hw : iW (islP isl0 p) = 0 := rfl
  have hb : iB (islP isl0 p) = 0 := rfl
  refine ⟨⟨by omega, by omega, by omega, by omega, fun t ht => by omega, fun b hb => by omega, fun h => by omega, fun t ht => by omega, fun w hw => by omega⟩, fun t ht => by omega, fun q hq => ?_⟩
  unfold loadF
  rw [hm]
  exact Nat.zero_le _
theorem load_addT {I : Isl} {q pl p : Nat} : loadF (addT I q pl) (iS (addT I q pl)) p = loadF I (iS I) p + (if pl = p then wt q else 0) := by
  have e : loadF (addT I q pl) (iS (addT I q pl)) p = sm (fun t => if upW (iS I) (iM I) pl t = p then wt (upW (iK I) (iM I) q t) else 0) (iM I + 1) := rfl
  rw [e, sm_s, upW_eq, upW_eq]
  congr 1
  exact sm_congr fun t ht => by rw [upW_ne (by omega), upW_ne (by omega)]
theorem PI_T {I : Isl} {q pl : Nat} (h : PI I) (hm : iM I < 5) (hw : iW I = 0) (hq : q ≤ 5) (hb : bagK q → iB I < 2) (hpl : pl < iP I ∨ (pl = 4 ∧ ¬ livK q)) (hl : ¬ pl = 4 → loadF I (iS I) pl + wt q ≤ 3) : PI (addT I q pl) := by
  obtain ⟨⟨o1, o2, o3, o4, o5, o6, o7, o8, o9⟩, h2, h3⟩ := h
  have eP : iP (addT I q pl) = iP I := rfl
  have eM : iM (addT I q pl) = iM I + 1 := rfl
  have eW : iW (addT I q pl) = iW I := rfl
  have eB : iB (addT I q pl) = if 0 < rm q then iB I + 1 else iB I := rfl
  have eK : iK (addT I q pl) = upW (iK I) (iM I) q := rfl
  have eS : iS (addT I q pl) = upW (iS I) (iM I) pl := rfl
  have eG : iG (addT I q pl) = if 0 < rm q then upW (iG I) (iB I) (iM I) else iG I := rfl
  have hr := rm_pos q
  refine ⟨⟨by omega, by omega, by omega, ?_, fun t ht => ?_, fun b hb' => ?_, fun hB => ?_, fun t ht hk => ?_, fun w hw' => by omega⟩, fun t ht => ?_, fun p hp => ?_⟩
  · rw [eB]
    by_cases k : 0 < rm q
    · rw [if_pos k]; have := hb (hr.mp k); omega
    · rw [if_neg k]; exact o4
  · rw [eK]
    by_cases k : t = iM I
    · rw [k, upW_eq]; exact hq
    · rw [upW_ne k]; exact o5 t (by omega)
  · rw [eG, eK, eM]
    rw [eB] at hb'
    by_cases k : 0 < rm q
    · rw [if_pos k] at hb' ⊢
      by_cases k2 : b = iB I
      · rw [k2, upW_eq, upW_eq]
        exact ⟨by omega, hr.mp k⟩
      · have := o6 b (by omega)
        rw [upW_ne k2, upW_ne (by omega)]
        exact ⟨by omega, this.2⟩
    · rw [if_neg k] at hb' ⊢
      have := o6 b hb'
      rw [upW_ne (by omega)]
      exact ⟨by omega, this.2⟩
  · rw [eG]
    rw [eB] at hB
    by_cases k : 0 < rm q
    · rw [if_pos k] at hB ⊢
      have e1 : iB I = 1 := by omega
      rw [e1, upW_eq, upW_ne (by decide)]
      exact (o6 0 (by omega)).1
    · rw [if_neg k] at hB ⊢
      exact o7 hB
  · rw [eK] at hk
    rw [eG, eB]
    by_cases k : t = iM I
    · rw [k, upW_eq] at hk
      have k2 := hr.mpr hk
      rw [if_pos k2, if_pos k2]
      exact ⟨iB I, by omega, by rw [upW_eq]; exact k.symm⟩
    · rw [upW_ne k] at hk
      obtain ⟨b, hb1, hb2⟩ := o8 t (by omega) hk
      by_cases k2 : 0 < rm q
      · rw [if_pos k2, if_pos k2]
        exact ⟨b, by omega, by rw [upW_ne (by omega)]; exact hb2⟩
      · rw [if_neg k2, if_neg k2]
        exact ⟨b, hb1, hb2⟩
  · rw [eS, eK, eP]
    by_cases k : t = iM I
    · rw [k, upW_eq, upW_eq]; exact hpl
    · rw [upW_ne k, upW_ne k]; exact h2 t (by omega)
  · rw [load_addT]
    have := h3 p hp
    by_cases k : pl = p
    · rw [if_pos k]
      rw [← k]
      exact hl (by omega)
    · rw [if_neg k]; omega
theorem PI_V {I : Isl} {h p s z : Nat} (hi : PI I) (hw : iW I < 8) (h1 : h < 6) (h2 : p < iP I) (h3 : s < 2 ^ iM I) (h4 : 0 < s) (h5 : 1 ≤ z) (h6 : z ≤ 9) : PI (addV I h p s z) := by
  obtain ⟨⟨o1, o2, o3, o4, o5, o6, o7, o8, o9⟩, g2, g3⟩ := hi
  have eP : iP (addV I h p s z) = iP I := rfl
  have eM : iM (addV I h p s z) = iM I := rfl
  have eW : iW (addV I h p s z) = iW I + 1 := rfl
  have eV : ∀ w j, iV (addV I h p s z) w j = if w = iW I then (if j = 0 then h else if j = 1 then p else if j = 2 then s else z) else iV I w j := fun _ _ => rfl
  refine ⟨⟨o1, o2, by omega, o4, o5, o6, o7, o8, fun w hw' => ?_⟩, g2, g3⟩
  rw [eV, eV, eV, eV, eP, eM]
  by_cases k : w = iW I
  · rw [if_pos k, if_pos k, if_pos k, if_pos k]
    exact ⟨h1, h2, h3, h4, h5, h6⟩
  · rw [if_neg k, if_neg k, if_neg k, if_neg k]
    exact o9 w (by omega)
/-! wants -/
/-- the set of k figures from pos on -/
def wqF (ch : Nat → Nat) (pos : Nat) : Nat → Nat
  | 0 => 0
  | k + 1 => wqF ch pos k ||| 2 ^ (ch (pos + k) - 48)
def wgood (ch : Nat → Nat) (m pos k : Nat) : Prop := 48 ≤ ch (pos + k) ∧ ch (pos + k) < 48 + m ∧ (wqF ch pos k).testBit (ch (pos + k) - 48) = false
/-- how many there are, when k are known -/
noncomputable def wkF (ch : Nat → Nat) (m pos : Nat) : Nat → Nat → Nat
  | 0, k => k
  | f + 1, k => i2 (wgood ch m pos k) (wkF ch m pos f (k + 1)) k
noncomputable def wK (ch : Nat → Nat) (m pos : Nat) : Nat := wkF ch m pos 5 0
theorem wk_t {ch : Nat → Nat} {m pos k : Nat} (hk : k < 5) (h : wgood ch m pos k) : wkF ch m pos (5 - k) k = wkF ch m pos (5 - (k + 1)) (k + 1) := by
  rw [show 5 - k = (5 - (k + 1)) + 1 by omega, wkF, e2_0 h]
theorem wk_f {ch : Nat → Nat} {m pos k : Nat} (hk : k ≤ 5) (h : ¬ wgood ch m pos k) : wkF ch m pos (5 - k) k = k := by
  rcases hq : 5 - k with _ | f
  · rfl
  · rw [wkF, e2_1 h]
theorem wq_lt {ch : Nat → Nat} {m pos : Nat} : ∀ k, (∀ j, j < k → wgood ch m pos j) → wqF ch pos k < 2 ^ m
  | 0, _ => Nat.two_pow_pos m
  | k + 1, h => by
    have ih := wq_lt k (fun j hj => h j (by omega))
    have hk := h k (Nat.lt_succ_self k)
    rw [wqF]
    exact Nat.or_lt_two_pow ih (Nat.pow_lt_pow_right (by decide) (by have := hk.1; have := hk.2.1; omega))
/-- no more figures than things -/
theorem wq_many {ch : Nat → Nat} {m pos : Nat} : ∀ k, (∀ j, j < k → wgood ch m pos j) → k ≤ m := by
  intro k h
  let J : Isl := (0, 0, m, 0, fun _ => 0, fun _ => 0, fun _ => 0, fun _ _ => 1)
  have e : ∀ k, (∀ j, j < k → wgood ch m pos j) → wthF J (wqF ch pos k) = k := by
    intro k
    induction k with
    | zero => intro _; exact wth_0
    | succ k ih =>
      intro h
      have hk := h k (Nat.lt_succ_self k)
      rw [wqF]
      have := wth_or (I := J) (s := wqF ch pos k) (i := ch (pos + k) - 48) (by show _ < m; have := hk.1; have := hk.2.1; omega) hk.2.2
      rw [this, ih (fun j hj => h j (by omega))]
      rfl
  rw [← e k h]
  have hle : wthF J (wqF ch pos k) ≤ 1 * m := sm_le fun i _ => by
    show wqF ch pos k / 2 ^ i % 2 * 1 ≤ 1
    have := Nat.mod_lt (wqF ch pos k / 2 ^ i) (show 0 < 2 by decide)
    omega
  omega
theorem wk_good {ch : Nat → Nat} {m pos : Nat} : ∀ f k, (∀ j, j < k → wgood ch m pos j) → k ≤ wkF ch m pos f k ∧ wkF ch m pos f k ≤ k + f ∧ ∀ j, j < wkF ch m pos f k → wgood ch m pos j
  | 0, k, h => ⟨Nat.le_refl _, Nat.le_refl _, h⟩
  | f + 1, k, h => by
    rw [wkF]
    by_cases q : wgood ch m pos k
    · rw [e2_0 q]
      have := wk_good f (k + 1) (fun j hj => by
        rcases Nat.lt_succ_iff_lt_or_eq.mp hj with a | a
        · exact h j a
        · rw [a]; exact q)
      exact ⟨by omega, by omega, this.2.2⟩
    · rw [e2_1 q]
      exact ⟨Nat.le_refl _, by omega, h⟩
theorem wK_ok (ch : Nat → Nat) (m pos : Nat) : wK ch m pos ≤ 5 ∧ wqF ch pos (wK ch m pos) < 2 ^ m ∧ ∀ j, j < wK ch m pos → wgood ch m pos j := by
  have h := wk_good (ch := ch) (m := m) (pos := pos) 5 0 (fun j hj => absurd hj (Nat.not_lt_zero j))
  unfold wK
  exact ⟨by omega, wq_lt _ h.2.2, h.2.2⟩
theorem wq_0 {ch : Nat → Nat} {pos : Nat} : ∀ k, wqF ch pos k = 0 ↔ k = 0
  | 0 => ⟨fun _ => rfl, fun _ => rfl⟩
  | k + 1 => by
    constructor
    · intro h
      have h2 : (wqF ch pos (k + 1)).testBit (ch (pos + k) - 48) = true := by
        rw [wqF, Nat.testBit_or, Nat.testBit_two_pow_self, Bool.or_true]
      rw [h, Nat.zero_testBit] at h2
      exact absurd h2 (by decide)
    · intro h; omega
/-! items -/
noncomputable def rdP (ch : Nat → Nat) (pos : Nat) (I : Isl) : Nat × Isl × Bool :=
  i2 (¬ ch pos = 112) (pos, I, false) (i2 (49 ≤ ch (pos + 1) ∧ ch (pos + 1) ≤ 52) (pos + 2, islP I (ch (pos + 1) - 48), true) (pos + 1, I, false))
/-- whether a thing may begin here -/
def mayT (ch : Nat → Nat) (pos : Nat) (I : Isl) : Prop := ¬ kdF (ch pos) = 9 ∧ iW I = 0 ∧ ¬ iM I = 5 ∧ ¬ (bagK (kdF (ch pos)) ∧ iB I = 2)
/-- where it would lie -/
def plT (ch : Nat → Nat) (pos : Nat) : Nat := if ch (pos + 1) = 122 then 4 else ch (pos + 1) - 48
def fineT (ch : Nat → Nat) (pos : Nat) (I : Isl) : Prop :=
  (ch (pos + 1) = 122 ∧ ¬ livK (kdF (ch pos))) ∨ (48 ≤ ch (pos + 1) ∧ ch (pos + 1) < 48 + iP I ∧ loadF I (iS I) (ch (pos + 1) - 48) + wt (kdF (ch pos)) ≤ 3)
noncomputable def rdT (ch : Nat → Nat) (pos : Nat) (I : Isl) : Nat × Isl × Bool :=
  i2 (mayT ch pos I) (i2 (fineT ch pos I) (pos + 2, addT I (kdF (ch pos)) (plT ch pos), true) (pos + 1, I, false)) (pos, I, false)
noncomputable def p4W (ch : Nat → Nat) (pos : Nat) (I : Isl) : Nat := pos + 3 + wK ch (iM I) (pos + 3)
noncomputable def swW (ch : Nat → Nat) (pos : Nat) (I : Isl) : Nat := wqF ch (pos + 3) (wK ch (iM I) (pos + 3))
noncomputable def rdW (ch : Nat → Nat) (pos : Nat) (I : Isl) : Nat × Isl × Bool :=
  i2 (iW I = 8) (pos, I, false) (
  i2 (¬ (48 ≤ ch (pos + 1) ∧ ch (pos + 1) ≤ 53)) (pos + 1, I, false) (
  i2 (¬ (48 ≤ ch (pos + 2) ∧ ch (pos + 2) < 48 + iP I)) (pos + 2, I, false) (
  i2 (swW ch pos I = 0 ∨ ¬ ch (p4W ch pos I) = 58) (p4W ch pos I, I, false) (
  i2 (¬ (49 ≤ ch (p4W ch pos I + 1) ∧ ch (p4W ch pos I + 1) ≤ 57)) (p4W ch pos I + 1, I, false)
  (p4W ch pos I + 2, addV I (ch (pos + 1) - 48) (ch (pos + 2) - 48) (swW ch pos I) (ch (p4W ch pos I + 1) - 48), true)))))
noncomputable def item (ch : Nat → Nat) (pos : Nat) (I : Isl) : Nat × Isl × Bool := i2 (iP I = 0) (rdP ch pos I) (i2 (ch pos = 119) (rdW ch pos I) (rdT ch pos I))
/-- what is read: 0 and the island, or one more than the place of the fault -/
noncomputable def prs (ch : Nat → Nat) (n : Nat) : Nat → Nat → Isl → Nat × Isl
  | 0, _, I => (0, I)
  | f + 1, pos, I => i2 (n ≤ pos) (i2 (iP I = 0) (n + 1, I) (0, I)) (i2 (ch pos = 32) (prs ch n f (pos + 1) I)
      (i2 ((item ch pos I).2.2 = true) (prs ch n f (item ch pos I).1 (item ch pos I).2.1) ((item ch pos I).1 + 1, I)))
noncomputable def txF (n : Nat) (β : Nat → Int32) : Nat × Isl := prs (chF n β) n (n + 1) 0 isl0
/-- the place of the fault, or -9 -/
noncomputable def ftF (n : Nat) (β : Nat → Int32) : Int32 := if (txF n β).1 = 0 then -9 else nI ((txF n β).1 - 1)

