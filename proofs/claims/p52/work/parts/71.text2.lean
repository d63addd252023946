/-! ===== items, pure ===== -/
theorem rdP_0 {ch : Nat → Nat} {pos : Nat} {I : Isl} (h : ¬ ch pos = 112) : rdP ch pos I = (pos, I, false) := by unfold rdP; rw [e2_0 h]
theorem rdP_1 {ch : Nat → Nat} {pos : Nat} {I : Isl} (h : ch pos = 112) (h2 : ¬ (49 ≤ ch (pos + 1) ∧ ch (pos + 1) ≤ 52)) : rdP ch pos I = (pos + 1, I, false) := by unfold rdP; rw [e2_1 (fun q => q h), e2_1 h2]
theorem rdP_2 {ch : Nat → Nat} {pos : Nat} {I : Isl} (h : ch pos = 112) (h2 : 49 ≤ ch (pos + 1) ∧ ch (pos + 1) ≤ 52) : rdP ch pos I = (pos + 2, islP I (ch (pos + 1) - 48), true) := by unfold rdP; rw [e2_1 (fun q => q h), e2_0 h2]
theorem rdT_0 {ch : Nat → Nat} {pos : Nat} {I : Isl} (h : ¬ mayT ch pos I) : rdT ch pos I = (pos, I, false) := by unfold rdT; rw [e2_1 h]
theorem rdT_1 {ch : Nat → Nat} {pos : Nat} {I : Isl} (h : mayT ch pos I) (h2 : ¬ fineT ch pos I) : rdT ch pos I = (pos + 1, I, false) := by unfold rdT; rw [e2_0 h, e2_1 h2]
theorem rdT_2 {ch : Nat → Nat} {pos : Nat} {I : Isl} (h : mayT ch pos I) (h2 : fineT ch pos I) : rdT ch pos I = (pos + 2, addT I (kdF (ch pos)) (plT ch pos), true) := by unfold rdT; rw [e2_0 h, e2_0 h2]
section
variable {ch : Nat → Nat} {pos : Nat} {I : Isl}
theorem rdW_0 (h : iW I = 8) : rdW ch pos I = (pos, I, false) := by unfold rdW; rw [e2_0 h]
theorem rdW_1 (h : ¬ iW I = 8) (h1 : ¬ (48 ≤ ch (pos + 1) ∧ ch (pos + 1) ≤ 53)) : rdW ch pos I = (pos + 1, I, false) := by unfold rdW; rw [e2_1 h, e2_0 h1]
theorem rdW_2 (h : ¬ iW I = 8) (h1 : 48 ≤ ch (pos + 1) ∧ ch (pos + 1) ≤ 53) (h2 : ¬ (48 ≤ ch (pos + 2) ∧ ch (pos + 2) < 48 + iP I)) : rdW ch pos I = (pos + 2, I, false) := by unfold rdW; rw [e2_1 h, e2_1 (fun q => q h1), e2_0 h2]
theorem rdW_3 (h : ¬ iW I = 8) (h1 : 48 ≤ ch (pos + 1) ∧ ch (pos + 1) ≤ 53) (h2 : 48 ≤ ch (pos + 2) ∧ ch (pos + 2) < 48 + iP I) (h3 : swW ch pos I = 0 ∨ ¬ ch (p4W ch pos I) = 58) : rdW ch pos I = (p4W ch pos I, I, false) := by unfold rdW; rw [e2_1 h, e2_1 (fun q => q h1), e2_1 (fun q => q h2), e2_0 h3]
theorem rdW_4 (h : ¬ iW I = 8) (h1 : 48 ≤ ch (pos + 1) ∧ ch (pos + 1) ≤ 53) (h2 : 48 ≤ ch (pos + 2) ∧ ch (pos + 2) < 48 + iP I) (h3 : ¬ (swW ch pos I = 0 ∨ ¬ ch (p4W ch pos I) = 58)) (h4 : ¬ (49 ≤ ch (p4W ch pos I + 1) ∧ ch (p4W ch pos I + 1) ≤ 57)) : rdW ch pos I = (p4W ch pos I + 1, I, false) := by unfold rdW; rw [e2_1 h, e2_1 (fun q => q h1), e2_1 (fun q => q h2), e2_1 h3, e2_0 h4]
theorem rdW_5 (h : ¬ iW I = 8) (h1 : 48 ≤ ch (pos + 1) ∧ ch (pos + 1) ≤ 53) (h2 : 48 ≤ ch (pos + 2) ∧ ch (pos + 2) < 48 + iP I) (h3 : ¬ (swW ch pos I = 0 ∨ ¬ ch (p4W ch pos I) = 58)) (h4 : 49 ≤ ch (p4W ch pos I + 1) ∧ ch (p4W ch pos I + 1) ≤ 57) : rdW ch pos I = (p4W ch pos I + 2, addV I (ch (pos + 1) - 48) (ch (pos + 2) - 48) (swW ch pos I) (ch (p4W ch pos I + 1) - 48), true) := by unfold rdW; rw [e2_1 h, e2_1 (fun q => q h1), e2_1 (fun q => q h2), e2_1 h3, e2_1 (fun q => q h4)]
theorem item_P (h : iP I = 0) : item ch pos I = rdP ch pos I := by unfold item; rw [e2_0 h]
theorem item_W (h : ¬ iP I = 0) (h2 : ch pos = 119) : item ch pos I = rdW ch pos I := by unfold item; rw [e2_1 h, e2_0 h2]
theorem item_T (h : ¬ iP I = 0) (h2 : ¬ ch pos = 119) : item ch pos I = rdT ch pos I := by unfold item; rw [e2_1 h, e2_1 h2]
end
/-- a thing's place -/
theorem plT_ok {ch : Nat → Nat} {pos : Nat} {I : Isl} (hP : iP I ≤ 4) (h : fineT ch pos I) : (plT ch pos < iP I ∨ (plT ch pos = 4 ∧ ¬ livK (kdF (ch pos)))) ∧ (¬ plT ch pos = 4 → loadF I (iS I) (plT ch pos) + wt (kdF (ch pos)) ≤ 3) := by
  unfold plT
  rcases h with ⟨h1, h2⟩ | ⟨h1, h2, h3⟩
  · rw [if_pos h1]; exact ⟨Or.inr ⟨rfl, h2⟩, fun q => absurd rfl q⟩
  · rw [if_neg (by omega)]; exact ⟨Or.inl (by omega), fun _ => h3⟩
/-- an item that is fine: where it ends, what has been read -/
theorem item_ok {n : Nat} {β : Nat → Int32} {pos : Nat} {I : Isl} (hI : PI I) (h0 : iP I = 0 → I = isl0) (h : (item (chF n β) pos I).2.2 = true) :
    pos + 2 ≤ (item (chF n β) pos I).1 ∧ (item (chF n β) pos I).1 ≤ n ∧ PI (item (chF n β) pos I).2.1 ∧ ¬ iP (item (chF n β) pos I).2.1 = 0 := by
  have hP := hI.1.1
  by_cases hp : iP I = 0
  · rw [item_P hp] at h ⊢
    by_cases h1 : chF n β pos = 112
    · by_cases h2 : 49 ≤ chF n β (pos + 1) ∧ chF n β (pos + 1) ≤ 52
      · rw [rdP_2 h1 h2]
        have := ch_lt (n := n) (β := β) (i := pos + 1) (by omega)
        refine ⟨Nat.le_refl _, by show pos + 2 ≤ n; omega, ?_, ?_⟩
        · show PI (islP I (chF n β (pos + 1) - 48))
          rw [h0 hp]; exact PI_P (by omega)
        · show ¬ chF n β (pos + 1) - 48 = 0
          omega
      · rw [rdP_1 h1 h2] at h; exact absurd h Bool.false_ne_true
    · rw [rdP_0 h1] at h; exact absurd h Bool.false_ne_true
  · by_cases hw : chF n β pos = 119
    · rw [item_W hp hw] at h ⊢
      by_cases w0 : iW I = 8
      · rw [rdW_0 w0] at h; exact absurd h Bool.false_ne_true
      · by_cases w1 : 48 ≤ chF n β (pos + 1) ∧ chF n β (pos + 1) ≤ 53
        · by_cases w2 : 48 ≤ chF n β (pos + 2) ∧ chF n β (pos + 2) < 48 + iP I
          · by_cases w3 : swW (chF n β) pos I = 0 ∨ ¬ chF n β (p4W (chF n β) pos I) = 58
            · rw [rdW_3 w0 w1 w2 w3] at h; exact absurd h Bool.false_ne_true
            · by_cases w4 : 49 ≤ chF n β (p4W (chF n β) pos I + 1) ∧ chF n β (p4W (chF n β) pos I + 1) ≤ 57
              · rw [rdW_5 w0 w1 w2 w3 w4]
                have h4 := ch_lt (n := n) (β := β) (i := p4W (chF n β) pos I + 1) (by omega)
                have hk := wK_ok (chF n β) (iM I) (pos + 3)
                have hw8 := hI.1.2.2.1
                refine ⟨?_, ?_, ?_, hp⟩
                · show pos + 2 ≤ p4W (chF n β) pos I + 2
                  unfold p4W; omega
                · show p4W (chF n β) pos I + 2 ≤ n
                  omega
                · exact PI_V hI (by omega) (by omega) (by omega) hk.2.1 (by have := Nat.pos_of_ne_zero (fun e => w3 (Or.inl e)); exact this) (by omega) (by omega)
              · rw [rdW_4 w0 w1 w2 w3 w4] at h; exact absurd h Bool.false_ne_true
          · rw [rdW_2 w0 w1 w2] at h; exact absurd h Bool.false_ne_true
        · rw [rdW_1 w0 w1] at h; exact absurd h Bool.false_ne_true
    · rw [item_T hp hw] at h ⊢
      by_cases t0 : mayT (chF n β) pos I
      · by_cases t1 : fineT (chF n β) pos I
        · rw [rdT_2 t0 t1]
          have hpl := plT_ok hP t1
          have h4 : chF n β (pos + 1) < 128 := by rcases t1 with ⟨a, _⟩ | ⟨_, a, _⟩ <;> omega
          have h5 := ch_lt h4
          have hm5 := hI.1.2.1
          have hb2 := hI.1.2.2.2.1
          exact ⟨Nat.le_refl _, by show pos + 2 ≤ n; omega, PI_T hI (by have := t0.2.2.1; omega) t0.2.1 (kd_in t0.1).2 (fun hb => by
            have := t0.2.2.2
            rcases Nat.lt_or_ge (iB I) 2 with q | q
            · exact q
            · exact absurd ⟨hb, by omega⟩ this) hpl.1 hpl.2, hp⟩
        · rw [rdT_1 t0 t1] at h; exact absurd h Bool.false_ne_true
      · rw [rdT_0 t0] at h; exact absurd h Bool.false_ne_true
theorem prs_end {ch : Nat → Nat} {n f pos : Nat} {I : Isl} (h : n ≤ pos) (hp : ¬ iP I = 0) : prs ch n (f + 1) pos I = (0, I) := by rw [prs, e2_0 h, e2_1 hp]
theorem prs_end0 {ch : Nat → Nat} {n f pos : Nat} {I : Isl} (h : n ≤ pos) (hp : iP I = 0) : prs ch n (f + 1) pos I = (n + 1, I) := by rw [prs, e2_0 h, e2_0 hp]
theorem prs_bl {ch : Nat → Nat} {n f pos : Nat} {I : Isl} (h : ¬ n ≤ pos) (h2 : ch pos = 32) : prs ch n (f + 1) pos I = prs ch n f (pos + 1) I := by rw [prs, e2_1 h, e2_0 h2]
theorem prs_t {ch : Nat → Nat} {n f pos : Nat} {I : Isl} (h : ¬ n ≤ pos) (h2 : ¬ ch pos = 32) (h3 : (item ch pos I).2.2 = true) : prs ch n (f + 1) pos I = prs ch n f (item ch pos I).1 (item ch pos I).2.1 := by rw [prs, e2_1 h, e2_1 h2, e2_0 h3]
theorem prs_f {ch : Nat → Nat} {n f pos : Nat} {I : Isl} (h : ¬ n ≤ pos) (h2 : ¬ ch pos = 32) (h3 : ¬ (item ch pos I).2.2 = true) : prs ch n (f + 1) pos I = ((item ch pos I).1 + 1, I) := by rw [prs, e2_1 h, e2_1 h2, e2_1 h3]
theorem prs_PI {n : Nat} {β : Nat → Int32} : ∀ f pos I, PI I → (iP I = 0 → I = isl0) → (prs (chF n β) n f pos I).1 = 0 → n + 1 ≤ pos + f → pos ≤ n → PI (prs (chF n β) n f pos I).2 ∧ ¬ iP (prs (chF n β) n f pos I).2 = 0
  | 0, pos, I, _, _, _, h5, h6 => by omega
  | f + 1, pos, I, hI, h0, h, h5, h6 => by
    by_cases q : n ≤ pos
    · by_cases hp : iP I = 0
      · rw [prs_end0 q hp] at h; exact absurd h (Nat.succ_ne_zero n)
      · rw [prs_end q hp]; exact ⟨hI, hp⟩
    · by_cases q2 : chF n β pos = 32
      · rw [prs_bl q q2] at h ⊢
        exact prs_PI f (pos + 1) I hI h0 h (by omega) (by omega)
      · by_cases q3 : (item (chF n β) pos I).2.2 = true
        · rw [prs_t q q2 q3] at h ⊢
          have hi := item_ok hI h0 q3
          exact prs_PI f _ _ hi.2.2.1 (fun e => absurd e hi.2.2.2) h (by omega) hi.2.1
        · rw [prs_f q q2 q3] at h; exact absurd h (Nat.succ_ne_zero _)
theorem tx_PI {n : Nat} {β : Nat → Int32} (h : (txF n β).1 = 0) : PI (txF n β).2 ∧ ¬ iP (txF n β).2 = 0 := prs_PI (n + 1) 0 isl0 PI_0 (fun _ => rfl) h (by omega) (Nat.zero_le _)
/-- blanks are passed over -/
theorem prs_sk {ch : Nat → Nat} {n f pos : Nat} {I : Isl} : ∀ k, pos + k ≤ n → n + 1 ≤ pos + f → (∀ j, j < k → ch (pos + j) = 32) → prs ch n f pos I = prs ch n (f - k) (pos + k) I
  | 0, _, _, _ => rfl
  | k + 1, h1, h2, h3 => by
    rw [prs_sk k (by omega) h2 (fun j hj => h3 j (by omega)), show f - k = (f - (k + 1)) + 1 by omega, prs_bl (by omega) (h3 k (Nat.lt_succ_self k))]
    rfl
/-! the stores -/
def TxX (t n : Nat) (β : Nat → Int32) (S : St) : Prop := t < 4 ∧ n ≤ 100 ∧ byR n β ∧ S.1 6 0 = nI 100 ∧ S.1 7 t = nI n ∧ ∀ i, i < n → S.1 8 (t * 100 + i) = β i
theorem TxX.keep {t n : Nat} {β : Nat → Int32} {S S' : St} (h : TxX t n β S) (e : ∀ a b, a = 6 ∨ a = 7 ∨ a = 8 → S'.1 a b = S.1 a b) : TxX t n β S' :=
  ⟨h.1, h.2.1, h.2.2.1, (e 6 0 (Or.inl rfl)).trans h.2.2.2.1, (e 7 t (Or.inr (Or.inl rfl))).trans h.2.2.2.2.1, fun i hi => (e 8 _ (Or.inr (Or.inr rfl))).trans (h.2.2.2.2.2 i hi)⟩
def FRe (a : Nat) : Prop := a = 9 ∨ a = 10 ∨ (23 ≤ a ∧ a ≤ 32)
theorem TxX.fr {t n : Nat} {β : Nat → Int32} {S S' : St} (h : TxX t n β S) (f : Fr FRe S S') : TxX t n β S' := h.keep (fun a b e => f.2 a (by unfold FRe; omega) b)
theorem FRset {S S1 : St} {k j : Nat} {v : Int32} (h : Fr FRe S S1) (hk : FRe k) : Fr FRe S (setI S1 k j v) := ⟨h.1, fun a ha b => (rdI_k (fun q => ha (by rw [q]; exact hk))).trans (h.2 a ha b)⟩
/-- the reader has read so far -/
def RdX (t pos : Nat) (I : Isl) (S : St) : Prop := S.1 9 3 = nI t ∧ S.1 9 4 = nI pos ∧ IsX 23 I S ∧ ∀ p, p < 4 → S.1 10 p = nI (loadF I (iS I) p)
/-- an item has been read -/
def ItX (t : Nat) (out : Nat × Isl × Bool) (S : St) (r : Int32) (S' : St) : Prop := Fr FRe S S' ∧ ((out.2.2 = true ∧ r = nI 1 ∧ RdX t out.1 out.2.1 S') ∨ (out.2.2 = false ∧ r = nI 0 ∧ S'.1 9 4 = nI out.1))
theorem ItX.f {t p : Nat} {J : Isl} {out : Nat × Isl × Bool} {S S' : St} (e : out = (p, J, false)) (h : Fr FRe S S') (h4 : S'.1 9 4 = nI p) : ItX t out S (nI 0) S' := by
  subst e
  exact ⟨h, Or.inr ⟨rfl, rfl, h4⟩⟩
theorem ItX.t {t p : Nat} {J : Isl} {out : Nat × Isl × Bool} {S S' : St} (e : out = (p, J, true)) (h : Fr FRe S S') (h4 : RdX t p J S') : ItX t out S (nI 1) S' := by
  subst e
  exact ⟨h, Or.inl ⟨rfl, rfl, h4⟩⟩
/-- a figure has been looked for -/
def FgX (C : Prop) (p v : Nat) (S : St) (r : Int32) (S' : St) : Prop := S'.2 = S.2 ∧ (∀ a b, ¬ (a = 9 ∧ b = 4) → S'.1 a b = S.1 a b) ∧ ((C ∧ r = nI v ∧ S'.1 9 4 = nI (p + 1)) ∨ (¬ C ∧ r = -1 ∧ S'.1 9 4 = nI p))
theorem FgX.pos {C : Prop} {p v : Nat} {S : St} {r : Int32} {S' : St} (h : FgX C p v S r S') (h0 : 0 ≤ r.toInt) : C ∧ r = nI v ∧ S'.1 9 4 = nI (p + 1) := by
  rcases h.2.2 with k | k
  · exact k
  · rw [k.2.1] at h0; exact absurd h0 (by decide)
theorem FgX.neg {C : Prop} {p v : Nat} {S : St} {r : Int32} {S' : St} (h : FgX C p v S r S') (hv : v < 1000) (h0 : ¬ 0 ≤ r.toInt) : ¬ C ∧ S'.1 9 4 = nI p := by
  rcases h.2.2 with k | k
  · rw [k.2.1, tiN (by omega)] at h0; exact absurd (by omega) h0
  · exact ⟨k.1, k.2.2⟩
theorem FgX.fr {C : Prop} {p v : Nat} {S0 S : St} {r : Int32} {S' : St} (h : FgX C p v S r S') (f : Fr FRe S0 S) : Fr FRe S0 S' := ⟨h.1.trans f.1, fun a ha b => (h.2.1 a b (fun q => ha (Or.inl q.1))).trans (f.2 a ha b)⟩
theorem IsX.rd {I : Isl} {S S' : St} (h : IsX 23 I S) (e : ∀ a b, 23 ≤ a → a ≤ 32 → S'.1 a b = S.1 a b) : IsX 23 I S' := by
  obtain ⟨h1, h2, h3, h4, h5, h6, h7⟩ := h
  refine ⟨(e _ _ (by decide) (by decide)).trans h1, (e _ _ (by decide) (by decide)).trans h2, (e _ _ (by decide) (by decide)).trans h3, (e _ _ (by decide) (by decide)).trans h4, fun t ht => ?_, fun b hb => (e _ _ (by decide) (by decide)).trans (h6 b hb), fun w hw => ?_⟩
  · have := h5 t ht
    exact ⟨(e _ _ (by decide) (by decide)).trans this.1, (e _ _ (by decide) (by decide)).trans this.2.1, (e _ _ (by decide) (by decide)).trans this.2.2.1, (e _ _ (by decide) (by decide)).trans this.2.2.2⟩
  · have := h7 w hw
    exact ⟨(e _ _ (by decide) (by decide)).trans this.1, (e _ _ (by decide) (by decide)).trans this.2.1, (e _ _ (by decide) (by decide)).trans this.2.2.1, (e _ _ (by decide) (by decide)).trans this.2.2.2⟩
/-- a work's place behind those that are there -/
theorem IsX.put {I : Isl} {S : St} {k : Nat} {v : Int32} (h : IsX 23 I S) (hk : 29 ≤ k ∧ k ≤ 32) : IsX 23 I (setI S k (iW I) v) := by
  obtain ⟨h1, h2, h3, h4, h5, h6, h7⟩ := h
  have e : ∀ a b, 23 ≤ a → a ≤ 28 → (setI S k (iW I) v).1 a b = S.1 a b := fun a b h1 h2 => rdI_k (by omega)
  have e2 : ∀ a b, b < iW I → (setI S k (iW I) v).1 a b = S.1 a b := fun a b hb => by
    by_cases q : a = k
    · rw [q]; exact rdI_j (by omega)
    · exact rdI_k q
  refine ⟨(e _ _ (by decide) (by decide)).trans h1, (e _ _ (by decide) (by decide)).trans h2, (e _ _ (by decide) (by decide)).trans h3, (e _ _ (by decide) (by decide)).trans h4, fun t ht => ?_, fun b hb => (e _ _ (by decide) (by decide)).trans (h6 b hb), fun w hw => ?_⟩
  · have := h5 t ht
    exact ⟨(e _ _ (by decide) (by decide)).trans this.1, (e _ _ (by decide) (by decide)).trans this.2.1, (e _ _ (by decide) (by decide)).trans this.2.2.1, (e _ _ (by decide) (by decide)).trans this.2.2.2⟩
  · have := h7 w hw
    exact ⟨(e2 _ _ hw).trans this.1, (e2 _ _ hw).trans this.2.1, (e2 _ _ hw).trans this.2.2.1, (e2 _ _ hw).trans this.2.2.2⟩
theorem IsX_addV {I : Isl} {S S' : St} {h p s z : Nat} (hI : IsX 23 I S) (e : ∀ a b, 23 ≤ a → a ≤ 32 → ¬ (a = 23 ∧ b = 2) → ¬ (29 ≤ a ∧ b = iW I) → S'.1 a b = S.1 a b) (e2 : S'.1 23 2 = nI (iW I + 1)) (v0 : S'.1 29 (iW I) = nI h) (v1 : S'.1 30 (iW I) = nI p) (v2 : S'.1 31 (iW I) = nI s) (v3 : S'.1 32 (iW I) = nI z) : IsX 23 (addV I h p s z) S' := by
  obtain ⟨h1, h2, h3, h4, h5, h6, h7⟩ := hI
  have eV : ∀ w j, iV (addV I h p s z) w j = if w = iW I then (if j = 0 then h else if j = 1 then p else if j = 2 then s else z) else iV I w j := fun _ _ => rfl
  refine ⟨(e _ _ (by decide) (by decide) (by decide) (by omega)).trans h1, (e _ _ (by decide) (by decide) (by decide) (by omega)).trans h2, e2, (e _ _ (by decide) (by decide) (by decide) (by omega)).trans h4, fun t ht => ?_, fun b hb => (e _ _ (by decide) (by decide) (by omega) (by omega)).trans (h6 b hb), fun w hw => ?_⟩
  · have := h5 t ht
    exact ⟨(e _ _ (by decide) (by decide) (by omega) (by omega)).trans this.1, (e _ _ (by decide) (by decide) (by omega) (by omega)).trans this.2.1, (e _ _ (by decide) (by decide) (by omega) (by omega)).trans this.2.2.1, (e _ _ (by decide) (by decide) (by omega) (by omega)).trans this.2.2.2⟩
  · rw [eV, eV, eV, eV]
    by_cases q : w = iW I
    · rw [q]
      refine ⟨v0.trans ?_, v1.trans ?_, v2.trans ?_, v3.trans ?_⟩ <;> rw [if_pos (Eq.refl (iW I))] <;> rfl
    · have hw' : w < iW I + 1 := hw
      have := h7 w (by omega)
      rw [if_neg q, if_neg q, if_neg q, if_neg q]
      exact ⟨(e _ _ (by decide) (by decide) (by omega) (by omega)).trans this.1, (e _ _ (by decide) (by decide) (by omega) (by omega)).trans this.2.1, (e _ _ (by decide) (by decide) (by omega) (by omega)).trans this.2.2.1, (e _ _ (by decide) (by decide) (by omega) (by omega)).trans this.2.2.2⟩
theorem addS_k {S : St} {m b q pl a c : Nat} (h : ¬ (23 ≤ a ∧ a ≤ 28)) : (addS S 23 m b q pl).1 a c = S.1 a c := by
  unfold addS
  by_cases k : 0 < rm q
  · simp only [if_pos k]
    rw [rdI_k (by omega), rdI_k (by omega), rdI_k (by omega), rdI_k (by omega), rdI_k (by omega), rdI_k (by omega), rdI_k (by omega)]
  · simp only [if_neg k]
    rw [rdI_k (by omega), rdI_k (by omega), rdI_k (by omega), rdI_k (by omega), rdI_k (by omega)]
theorem addS_2 {S : St} {m b q pl : Nat} : (addS S 23 m b q pl).2 = S.2 := by
  unfold addS
  by_cases k : 0 < rm q
  · simp only [if_pos k]; rfl
  · simp only [if_neg k]; rfl
theorem addS_I {S : St} {I : Isl} {q pl : Nat} (hI : IsX 23 I S) : IsX 23 (addT I q pl) (addS S 23 (iM I) (iB I) q pl) := by
  obtain ⟨h1, h2, h3, h4, h5, h6, h7⟩ := hI
  have eM : iM (addT I q pl) = iM I + 1 := rfl
  have eB : iB (addT I q pl) = if 0 < rm q then iB I + 1 else iB I := rfl
  have eK : iK (addT I q pl) = upW (iK I) (iM I) q := rfl
  have eS : iS (addT I q pl) = upW (iS I) (iM I) pl := rfl
  have eG : iG (addT I q pl) = if 0 < rm q then upW (iG I) (iB I) (iM I) else iG I := rfl
  have hr : ∀ c x, 24 ≤ c → c ≤ 27 → ¬ x = iM I → (addS S 23 (iM I) (iB I) q pl).1 c x = S.1 c x := fun c x a1 a2 hx => by
    unfold addS
    by_cases k : 0 < rm q
    · simp only [if_pos k]
      rw [rdI_k (by omega), rdI_k (by omega), rdI_k (by omega)]
      by_cases e4 : c = 27
      · subst e4; rw [rdI_j hx, rdI_k (by decide), rdI_k (by decide), rdI_k (by decide)]
      · rw [rdI_k e4]
        by_cases e3 : c = 26
        · subst e3; rw [rdI_j hx, rdI_k (by decide), rdI_k (by decide)]
        · rw [rdI_k e3]
          by_cases e2 : c = 25
          · subst e2; rw [rdI_j hx, rdI_k (by decide)]
          · obtain rfl : c = 24 := by omega
            rw [rdI_k e2, rdI_j hx]
    · simp only [if_neg k]
      rw [rdI_k (by omega)]
      by_cases e4 : c = 27
      · subst e4; rw [rdI_j hx, rdI_k (by decide), rdI_k (by decide), rdI_k (by decide)]
      · rw [rdI_k e4]
        by_cases e3 : c = 26
        · subst e3; rw [rdI_j hx, rdI_k (by decide), rdI_k (by decide)]
        · rw [rdI_k e3]
          by_cases e2 : c = 25
          · subst e2; rw [rdI_j hx, rdI_k (by decide)]
          · obtain rfl : c = 24 := by omega
            rw [rdI_k e2, rdI_j hx]
  have hn : (addS S 23 (iM I) (iB I) q pl).1 24 (iM I) = nI q ∧ (addS S 23 (iM I) (iB I) q pl).1 25 (iM I) = nI pl ∧ (addS S 23 (iM I) (iB I) q pl).1 26 (iM I) = nI (wt q) ∧ (addS S 23 (iM I) (iB I) q pl).1 27 (iM I) = nI (rm q) := by
    unfold addS
    by_cases k : 0 < rm q
    · simp only [if_pos k]
      refine ⟨?_, ?_, ?_, ?_⟩
      · rw [rdI_k (by decide), rdI_k (by decide), rdI_k (by decide), rdI_k (by decide), rdI_k (by decide), rdI_k (by decide), rdI_eq]
      · rw [rdI_k (by decide), rdI_k (by decide), rdI_k (by decide), rdI_k (by decide), rdI_k (by decide), rdI_eq]
      · rw [rdI_k (by decide), rdI_k (by decide), rdI_k (by decide), rdI_k (by decide), rdI_eq]
      · rw [rdI_k (by decide), rdI_k (by decide), rdI_k (by decide), rdI_eq]
    · simp only [if_neg k]
      refine ⟨?_, ?_, ?_, ?_⟩
      · rw [rdI_k (by decide), rdI_k (by decide), rdI_k (by decide), rdI_k (by decide), rdI_eq]
      · rw [rdI_k (by decide), rdI_k (by decide), rdI_k (by decide), rdI_eq]
      · rw [rdI_k (by decide), rdI_k (by decide), rdI_eq]
      · rw [rdI_k (by decide), rdI_eq]
  refine ⟨?_, ?_, ?_, ?_, fun t ht => ?_, fun b hb => ?_, fun w hw => ?_⟩
  · refine Eq.trans ?_ h1
    unfold addS
    by_cases k : 0 < rm q
    · simp only [if_pos k]
      rw [rdI_j (by decide), rdI_k (by decide), rdI_j (by decide), rdI_k (by decide), rdI_k (by decide), rdI_k (by decide), rdI_k (by decide)]
    · simp only [if_neg k]
      rw [rdI_j (by decide), rdI_k (by decide), rdI_k (by decide), rdI_k (by decide), rdI_k (by decide)]
  · unfold addS
    by_cases k : 0 < rm q
    · simp only [if_pos k]; rw [rdI_eq]; rfl
    · simp only [if_neg k]; rw [rdI_eq]; rfl
  · refine Eq.trans ?_ h3
    unfold addS
    by_cases k : 0 < rm q
    · simp only [if_pos k]
      rw [rdI_j (by decide), rdI_k (by decide), rdI_j (by decide), rdI_k (by decide), rdI_k (by decide), rdI_k (by decide), rdI_k (by decide)]
    · simp only [if_neg k]
      rw [rdI_j (by decide), rdI_k (by decide), rdI_k (by decide), rdI_k (by decide), rdI_k (by decide)]
  · rw [eB]
    unfold addS
    by_cases k : 0 < rm q
    · simp only [if_pos k]
      rw [rdI_j (by decide), rdI_k (by decide), rdI_eq]
    · simp only [if_neg k]
      rw [rdI_j (by decide), rdI_k (by decide), rdI_k (by decide), rdI_k (by decide), rdI_k (by decide)]
      exact h4
  · rw [eK, eS]
    by_cases q1 : t = iM I
    · rw [q1, upW_eq, upW_eq]; exact hn
    · have := h5 t (by omega)
      rw [upW_ne q1, upW_ne q1, hr _ _ (by decide) (by decide) q1, hr _ _ (by decide) (by decide) q1, hr _ _ (by decide) (by decide) q1, hr _ _ (by decide) (by decide) q1]
      exact this
  · rw [eG]
    rw [eB] at hb
    unfold addS
    by_cases k : 0 < rm q
    · simp only [if_pos k] at hb ⊢
      by_cases q1 : b = iB I
      · rw [q1, upW_eq, rdI_k (by decide), rdI_eq]
      · rw [upW_ne q1, rdI_k (by decide), rdI_j q1, rdI_k (by decide), rdI_k (by decide), rdI_k (by decide), rdI_k (by decide), rdI_k (by decide)]
        exact h6 b (by omega)
    · simp only [if_neg k] at hb ⊢
      rw [rdI_k (by decide), rdI_k (by decide), rdI_k (by decide), rdI_k (by decide), rdI_k (by decide)]
      exact h6 b hb
  · rw [addS_k (by decide), addS_k (by decide), addS_k (by decide), addS_k (by decide)]
    exact h7 w hw

