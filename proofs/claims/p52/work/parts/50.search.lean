/-! ===== the search, pure ===== -/
abbrev Rs : Type := Nat × (Nat → Nat) × (Nat → Nat) × (Nat → Nat) × (Nat → Nat)
def rC (R : Rs) : Nat := R.1
def rK (R : Rs) : Nat → Nat := R.2.1
def rB (R : Rs) : Nat → Nat := R.2.2.1
def rY (R : Rs) : Nat → Nat := R.2.2.2.1
def rD (R : Rs) : Nat → Nat := R.2.2.2.2
def rIn (R : Rs) (c : Nat) : Prop := ∃ j, j < rC R ∧ rK R j = c
def rAdd (R : Rs) (c b y d : Nat) : Rs := (rC R + 1, upW (rK R) (rC R) c, upW (rB R) (rC R) b, upW (rY R) (rC R) y, upW (rD R) (rC R) d)
noncomputable def rch (R : Rs) (c b y d : Nat) : Rs := i2 (rIn R c) R (rAdd R c b y d)
def nx (I : Isl) (c s : Nat) : Nat := codeF I (upW (digF c) (s / 7) (s % 7))
noncomputable def mb (I : Isl) (L c : Nat) : Nat → Bool := mayB I (digF c) L
noncomputable def xpS (I : Isl) (L i : Nat) (R : Rs) : Nat → Rs
  | 0 => R
  | s + 1 => i2 (mb I L (rK R i) s = true) (rch (xpS I L i R s) (nx I (rK R i) s) i s (rD R i + 1)) (xpS I L i R s)
def r0 (c0 : Nat) : Rs := (1, fun _ => c0, fun _ => 0, fun _ => 0, fun _ => 0)
noncomputable def bfs (I : Isl) (L c0 : Nat) : Nat → Rs
  | 0 => r0 c0
  | i + 1 => i2 (i < rC (bfs I L c0 i)) (xpS I L i (bfs I L c0 i) (7 * iM I)) (bfs I L c0 i)
/-- R's entries are the first of R' -/
def Pre (R R' : Rs) : Prop := rC R ≤ rC R' ∧ ∀ j, j < rC R → rK R' j = rK R j ∧ rB R' j = rB R j ∧ rY R' j = rY R j ∧ rD R' j = rD R j
theorem Pre.refl (R : Rs) : Pre R R := ⟨Nat.le_refl _, fun _ _ => ⟨rfl, rfl, rfl, rfl⟩⟩
theorem Pre.trans {R R1 R2 : Rs} (h : Pre R R1) (h' : Pre R1 R2) : Pre R R2 := ⟨Nat.le_trans h.1 h'.1, fun j hj => by
  have a := h.2 j hj
  have b := h'.2 j (Nat.lt_of_lt_of_le hj h.1)
  exact ⟨b.1.trans a.1, b.2.1.trans a.2.1, b.2.2.1.trans a.2.2.1, b.2.2.2.trans a.2.2.2⟩⟩
theorem Pre.add (R : Rs) (c b y d : Nat) : Pre R (rAdd R c b y d) := ⟨Nat.le_succ _, fun j hj => ⟨upW_ne (by omega), upW_ne (by omega), upW_ne (by omega), upW_ne (by omega)⟩⟩
theorem Pre.ch (R : Rs) (c b y d : Nat) : Pre R (rch R c b y d) := by
  unfold rch
  by_cases h : rIn R c
  · rw [e2_0 h]; exact Pre.refl R
  · rw [e2_1 h]; exact Pre.add R c b y d
theorem Pre.xs1 (I : Isl) (L i : Nat) (R : Rs) (s : Nat) : Pre (xpS I L i R s) (xpS I L i R (s + 1)) := by
  rw [xpS]
  by_cases h : mb I L (rK R i) s = true
  · rw [e2_0 h]; exact Pre.ch _ _ _ _ _
  · rw [e2_1 h]; exact Pre.refl _
theorem Pre.xs (I : Isl) (L i : Nat) (R : Rs) : ∀ s, Pre R (xpS I L i R s)
  | 0 => Pre.refl R
  | s + 1 => (Pre.xs I L i R s).trans (Pre.xs1 I L i R s)
theorem Pre.bf1 (I : Isl) (L c0 i : Nat) : Pre (bfs I L c0 i) (bfs I L c0 (i + 1)) := by
  rw [bfs]
  by_cases h : i < rC (bfs I L c0 i)
  · rw [e2_0 h]; exact Pre.xs I L i _ _
  · rw [e2_1 h]; exact Pre.refl _
theorem Pre.bf (I : Isl) (L c0 e : Nat) : ∀ d, Pre (bfs I L c0 e) (bfs I L c0 (e + d))
  | 0 => Pre.refl _
  | d + 1 => (Pre.bf I L c0 e d).trans (Pre.bf1 I L c0 (e + d))
theorem VS.congr {I : Isl} {L : Nat} (hO : IOK I) {w w' : Nat → Nat} (h : ∀ t, t < iM I → w' t = w t) (hv : VS I w L) : VS I w' L := by
  refine ⟨fun t ht => by rw [h t ht]; exact hv.1 t ht, fun b hb => ?_, fun p hp => ?_⟩
  · rw [show insF I w' b = insF I w b from sm_congr fun i hi => by rw [h i hi]]
    exact hv.2.1 b hb
  · rw [show loadF I w' p = loadF I w p from sm_congr fun i hi => by rw [h i hi]]
    exact hv.2.2 p hp
/-- a number of a state that can be -/
def OKc (I : Isl) (L c : Nat) : Prop := c < 7 ^ iM I ∧ VS I (digF c) L
theorem OKc.lt {I : Isl} {L c : Nat} (hO : IOK I) (h : OKc I L c) : c < 16807 := Nat.lt_of_lt_of_le h.1 (pow7_le hO.2.1)
theorem OKc.code {I : Isl} {L : Nat} {w : Nat → Nat} (hO : IOK I) (hv : VS I w L) : OKc I L (codeF I w) := by
  have hw7 := (hv.ok hO).w7 hO
  exact ⟨codeN_lt hw7, hv.congr hO (fun t ht => dig_code hw7 t ht)⟩
theorem mb_iff {I : Isl} {L c s : Nat} : mb I L c s = true ↔ mayF I (digF c) L (s / 7) (s % 7) := by
  unfold mb mayB
  rw [dec_iff]
theorem nx_ok {I : Isl} {L c s : Nat} (hO : IOK I) (h : OKc I L c) (hs : s < 7 * iM I) (hm : mb I L c s = true) : OKc I L (nx I c s) :=
  OKc.code hO (VS_step hO h.2 (by omega) (mb_iff.mp hm))
/-- places before i are expanded, and i by the steps before s -/
def Inv (I : Isl) (L c0 : Nat) (R : Rs) (i s : Nat) : Prop :=
  (0 < rC R ∧ rK R 0 = c0 ∧ rD R 0 = 0) ∧
  (∀ j k, j < rC R → k < rC R → rK R j = rK R k → j = k) ∧
  (∀ j, j < rC R → OKc I L (rK R j)) ∧
  (∀ j, 0 < j → j < rC R → rB R j < j ∧ rY R j < 7 * iM I ∧ mb I L (rK R (rB R j)) (rY R j) = true ∧ nx I (rK R (rB R j)) (rY R j) = rK R j ∧ rD R j = rD R (rB R j) + 1 ∧ (rB R j < i ∨ (rB R j = i ∧ rY R j < s))) ∧
  (∀ j s', j < rC R → (j < i ∨ (j = i ∧ s' < s)) → s' < 7 * iM I → mb I L (rK R j) s' = true → ∃ k, k < rC R ∧ rK R k = nx I (rK R j) s' ∧ (k = 0 ∨ rB R k < j ∨ (rB R k = j ∧ rY R k ≤ s'))) ∧
  (∀ j k, 0 < j → j < k → k < rC R → rB R j < rB R k ∨ (rB R j = rB R k ∧ rY R j < rY R k))
theorem Inv.start {I : Isl} {L c0 : Nat} (h : OKc I L c0) : Inv I L c0 (r0 c0) 0 0 := by
  have hc : rC (r0 c0) = 1 := rfl
  refine ⟨⟨by rw [hc]; decide, rfl, rfl⟩, fun j k hj hk _ => by rw [hc] at hj hk; omega, fun j hj => h, fun j h0 hj => by rw [hc] at hj; omega, fun j s' hj hh => by rw [hc] at hj; omega, fun j k h0 hjk hk => by rw [hc] at hk; omega⟩
theorem Inv.next {I : Isl} {L c0 i : Nat} {R : Rs} (h : Inv I L c0 R i (7 * iM I)) : Inv I L c0 R (i + 1) 0 := by
  obtain ⟨h1, h2, h3, h4, h5, h6⟩ := h
  refine ⟨h1, h2, h3, fun j h0 hj => ?_, fun j s' hj hh hs hm => ?_, h6⟩
  · obtain ⟨a, b, c, d, e, f⟩ := h4 j h0 hj
    exact ⟨a, b, c, d, e, by omega⟩
  · exact h5 j s' hj (by omega) hs hm
theorem Inv.keep {I : Isl} {L c0 i s : Nat} {R : Rs} (h : Inv I L c0 R i s) (hn : ∀ (_ : i < rC R), mb I L (rK R i) s = true → ∃ k, k < rC R ∧ rK R k = nx I (rK R i) s) : Inv I L c0 R i (s + 1) := by
  obtain ⟨h1, h2, h3, h4, h5, h6⟩ := h
  refine ⟨h1, h2, h3, fun j h0 hj => ?_, fun j s' hj hh hs hm => ?_, h6⟩
  · obtain ⟨a, b, c, d, e, f⟩ := h4 j h0 hj
    exact ⟨a, b, c, d, e, by omega⟩
  · by_cases q : j = i ∧ s' = s
    · obtain ⟨rfl, rfl⟩ := q
      obtain ⟨k, hk, e⟩ := hn hj hm
      refine ⟨k, hk, e, ?_⟩
      by_cases k0 : k = 0
      · exact Or.inl k0
      · have := (h4 k (by omega) hk).2.2.2.2.2
        omega
    · exact h5 j s' hj (by omega) hs hm
theorem Inv.add {I : Isl} {L c0 i s : Nat} {R : Rs} (hO : IOK I) (h : Inv I L c0 R i s) (hi : i < rC R) (hs : s < 7 * iM I) (hm : mb I L (rK R i) s = true) (hn : ¬ rIn R (nx I (rK R i) s)) : Inv I L c0 (rAdd R (nx I (rK R i) s) i s (rD R i + 1)) i (s + 1) := by
  obtain ⟨h1, h2, h3, h4, h5, h6⟩ := h
  have hp := (Pre.add R (nx I (rK R i) s) i s (rD R i + 1)).2
  have hc : rC (rAdd R (nx I (rK R i) s) i s (rD R i + 1)) = rC R + 1 := rfl
  have eK : rK (rAdd R (nx I (rK R i) s) i s (rD R i + 1)) (rC R) = nx I (rK R i) s := upW_eq _ _ _
  have eB : rB (rAdd R (nx I (rK R i) s) i s (rD R i + 1)) (rC R) = i := upW_eq _ _ _
  have eY : rY (rAdd R (nx I (rK R i) s) i s (rD R i + 1)) (rC R) = s := upW_eq _ _ _
  have eD : rD (rAdd R (nx I (rK R i) s) i s (rD R i + 1)) (rC R) = rD R i + 1 := upW_eq _ _ _
  generalize rAdd R (nx I (rK R i) s) i s (rD R i + 1) = R' at hp hc eK eB eY eD ⊢
  refine ⟨⟨by omega, (hp 0 h1.1).1.trans h1.2.1, (hp 0 h1.1).2.2.2.trans h1.2.2⟩, fun j k hj hk e => ?_, fun j hj => ?_, fun j h0 hj => ?_, fun j s' hj hh hs' hm' => ?_, fun j k h0 hjk hk => ?_⟩
  · rw [hc] at hj hk
    by_cases qj : j < rC R
    · by_cases qk : k < rC R
      · rw [(hp j qj).1, (hp k qk).1] at e
        exact h2 j k qj qk e
      · obtain rfl : k = rC R := by omega
        rw [(hp j qj).1, eK] at e
        exact absurd ⟨j, qj, e⟩ hn
    · obtain rfl : j = rC R := by omega
      by_cases qk : k < rC R
      · rw [(hp k qk).1, eK] at e
        exact absurd ⟨k, qk, e.symm⟩ hn
      · omega
  · rw [hc] at hj
    by_cases qj : j < rC R
    · rw [(hp j qj).1]; exact h3 j qj
    · obtain rfl : j = rC R := by omega
      rw [eK]; exact nx_ok hO (h3 i hi) hs hm
  · rw [hc] at hj
    by_cases qj : j < rC R
    · obtain ⟨a, b, c, d, e, f⟩ := h4 j h0 qj
      have hb : rB R j < rC R := by omega
      rw [(hp j qj).1, (hp j qj).2.1, (hp j qj).2.2.1, (hp j qj).2.2.2, (hp _ hb).1, (hp _ hb).2.2.2]
      exact ⟨a, b, c, d, e, by omega⟩
    · obtain rfl : j = rC R := by omega
      rw [eK, eB, eY, eD, (hp i hi).1, (hp i hi).2.2.2]
      exact ⟨hi, hs, hm, rfl, rfl, Or.inr ⟨rfl, Nat.lt_succ_self s⟩⟩
  · by_cases q : j = i ∧ s' = s
    · obtain ⟨rfl, rfl⟩ := q
      exact ⟨rC R, by omega, by rw [eK, (hp j hi).1], Or.inr (Or.inr ⟨eB, by rw [eY]; exact Nat.le_refl _⟩)⟩
    · have hj2 : j < rC R := by omega
      rw [(hp j hj2).1] at hm' ⊢
      obtain ⟨k, hk, e, hh2⟩ := h5 j s' hj2 (by omega) hs' hm'
      exact ⟨k, by omega, by rw [(hp k hk).1]; exact e, by rw [(hp k hk).2.1, (hp k hk).2.2.1]; exact hh2⟩
  · rw [hc] at hk
    by_cases qk : k < rC R
    · rw [(hp k qk).2.1, (hp k qk).2.2.1, (hp j (by omega)).2.1, (hp j (by omega)).2.2.1]
      exact h6 j k h0 hjk qk
    · obtain rfl : k = rC R := by omega
      rw [eB, eY, (hp j hjk).2.1, (hp j hjk).2.2.1]
      exact (h4 j h0 hjk).2.2.2.2.2
theorem Inv.xs {I : Isl} {L c0 i : Nat} {R : Rs} (hO : IOK I) (h : Inv I L c0 R i 0) (hi : i < rC R) : ∀ s, s ≤ 7 * iM I → Inv I L c0 (xpS I L i R s) i s
  | 0, _ => h
  | s + 1, hs => by
    have ih := Inv.xs hO h hi s (by omega)
    have hp := Pre.xs I L i R s
    have hi' : i < rC (xpS I L i R s) := Nat.lt_of_lt_of_le hi hp.1
    rw [xpS, ← (hp.2 i hi).1, ← (hp.2 i hi).2.2.2]
    generalize xpS I L i R s = R1 at ih hi' ⊢
    by_cases hm : mb I L (rK R1 i) s = true
    · rw [e2_0 hm]
      unfold rch
      by_cases hn : rIn R1 (nx I (rK R1 i) s)
      · rw [e2_0 hn]
        exact ih.keep (fun _ _ => hn)
      · rw [e2_1 hn]
        exact ih.add hO hi' (by omega) hm hn
    · rw [e2_1 hm]
      exact ih.keep (fun _ q => absurd q hm)
def alive (I : Isl) (L c0 e : Nat) : Prop := ∀ e', e' < e → e' < rC (bfs I L c0 e')
theorem bfs_s {I : Isl} {L c0 i : Nat} (h : i < rC (bfs I L c0 i)) : bfs I L c0 (i + 1) = xpS I L i (bfs I L c0 i) (7 * iM I) := by rw [bfs, e2_0 h]
theorem bfs_inv {I : Isl} {L c0 : Nat} (hO : IOK I) (h0 : OKc I L c0) : ∀ e, alive I L c0 e → Inv I L c0 (bfs I L c0 e) e 0
  | 0, _ => Inv.start h0
  | e + 1, ha => by
    have ih := bfs_inv hO h0 e (fun e' h => ha e' (by omega))
    rw [bfs_s (ha e (Nat.lt_succ_self e))]
    exact (Inv.xs hO ih (ha e (Nat.lt_succ_self e)) _ (Nat.le_refl _)).next
theorem alive_le {I : Isl} {L c0 : Nat} : ∀ {e : Nat}, alive I L c0 e → e ≤ rC (bfs I L c0 e)
  | 0, _ => Nat.zero_le _
  | e + 1, h => Nat.lt_of_lt_of_le (h e (Nat.lt_succ_self e)) (Pre.bf1 I L c0 e).1
/-- counting: as many different numbers below M with P as cb says, at most -/
theorem inj_le {P : Nat → Bool} {M : Nat} : ∀ {n : Nat} {f : Nat → Nat}, (∀ j, j < n → f j < M ∧ P (f j) = true) → (∀ j k, j < n → k < n → f j = f k → j = k) → n ≤ cb P M := by
  intro n
  induction n generalizing P with
  | zero => intro f _ _; exact Nat.zero_le _
  | succ n ih =>
    intro f h hi
    obtain ⟨hM, hP⟩ := h n (Nat.lt_succ_self n)
    have ih2 := ih (P := fun x => P x && !(x == f n)) (f := f) (fun j hj => ⟨(h j (by omega)).1, by
      rw [Bool.and_eq_true, (h j (by omega)).2]
      refine ⟨rfl, ?_⟩
      rw [Bool.not_eq_true', beq_eq_false_iff_ne]
      exact fun e => by have := hi j n (by omega) (by omega) e; omega⟩) (fun j k hj hk => hi j k (by omega) (by omega))
    have hs := sm_up (f := fun s => if P s then 1 else 0) (g := fun s => if (P s && !(s == f n)) then 1 else 0) (t := f n) (fun i hne => by
      rw [show (i == f n) = false from beq_eq_false_iff_ne.mpr hne, Bool.not_false, Bool.and_true]) hM
    rw [hP, beq_self_eq_true, Bool.not_true, Bool.and_false, if_pos rfl, if_neg (by decide)] at hs
    have ih3 : n ≤ sm (fun s => if (P s && !(s == f n)) then 1 else 0) M := ih2
    unfold cb
    omega
theorem Inv.cnt {I : Isl} {L c0 i s : Nat} {R : Rs} (h : Inv I L c0 R i s) : rC R ≤ cb (fun c => dec (OKc I L c)) (7 ^ iM I) :=
  inj_le (f := rK R) (fun j hj => ⟨(h.2.2.1 j hj).1, dec_t (h.2.2.1 j hj)⟩) h.2.1
theorem bfs_end {I : Isl} {L c0 : Nat} (hO : IOK I) (h0 : OKc I L c0) : ∃ N, alive I L c0 N ∧ rC (bfs I L c0 N) = N := by
  have key : ∀ d e, e + d = 16808 → alive I L c0 e → ∃ N, alive I L c0 N ∧ rC (bfs I L c0 N) = N := by
    intro d
    induction d with
    | zero =>
      intro e he ha
      have h1 := alive_le ha
      have h2 := (bfs_inv hO h0 e ha).cnt
      have h3 := cb_le (b := fun c => dec (OKc I L c)) (7 ^ iM I)
      have h4 : 7 ^ iM I ≤ 16807 := pow7_le hO.2.1
      omega
    | succ d ih =>
      intro e he ha
      by_cases q : e < rC (bfs I L c0 e)
      · refine ih (e + 1) (by omega) (fun e' h => ?_)
        by_cases k : e' = e
        · rw [k]; exact q
        · exact ha e' (by omega)
      · exact ⟨e, ha, by have := alive_le ha; omega⟩
  exact key 16808 0 rfl (fun e' h => absurd h (Nat.not_lt_zero e'))
/-! depths rise along the order -/
theorem Inv.mono {I : Isl} {L c0 i s : Nat} {R : Rs} (h : Inv I L c0 R i s) : ∀ k, k < rC R → ∀ j, j ≤ k → rD R j ≤ rD R k := by
  intro k
  induction k using Nat.strongRecOn with
  | _ k ih =>
    intro hk j hj
    by_cases h0 : j = 0
    · rw [h0, h.1.2.2]; exact Nat.zero_le _
    · by_cases hjk : j = k
      · rw [hjk]; exact Nat.le_refl _
      · have a := h.2.2.2.1 k (by omega) hk
        have b := h.2.2.2.1 j (by omega) (by omega)
        have c := h.2.2.2.2.2 j k (by omega) (by omega) hk
        have d := ih (rB R k) a.1 (by omega) (rB R j) (by omega)
        rw [a.2.2.2.2.1, b.2.2.2.2.1]
        omega

