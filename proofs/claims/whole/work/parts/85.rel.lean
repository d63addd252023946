/-! ===== how the class stands to the reference ===== -/
def TdR (S : St) : Prop := S.1 83 2 = S.1 1 0 ∧ S.2 83 3 = S.2 1 1 ∧ S.2 83 4 = S.2 1 2 ∧ S.1 83 0 = S.1 1 3 ∧ ∀ f, f ≤ 5 → S.1 84 f = S.1 2 f
def RwR (S : St) : Prop := RwS 3 6 60 S ∧ (∀ r, r < 6 → S.1 85 r = S.1 4 r) ∧ ∀ r, r < 6 → ∀ i, i < tn (S.1 4 r) → S.1 86 (60 * r + i) = S.1 5 (r * 60 + i)
def TxR (S : St) : Prop := RwS 6 4 100 S ∧ (∀ r, r < 4 → S.1 88 r = S.1 7 r) ∧ (∀ r, r < 4 → ∀ i, i < tn (S.1 7 r) → S.1 89 (100 * r + i) = S.1 8 (r * 100 + i)) ∧ ByX S ∧ ByM S
def GI (I : Isl) (S : St) : Prop := IOK I ∧ IsX 11 I S ∧ IsT I S ∧ IsM I S
/-- the state, and the steps that are done -/
def GP (I : Isl) (L d : Nat) (ws : Nat → Nat → Nat) (T F : Nat → Nat) (S : St) : Prop :=
  ((1 ≤ L ∧ L ≤ 6) ∧ (∀ i, i ≤ d → VS I (ws i) L) ∧ d ≤ 40 ∧ UPath I ws T F d) ∧
  (PlT 35 I (ws d) S ∧ S.1 35 5 = nI L ∧ S.1 60 0 = nI d ∧ (∀ i, i < d → S.1 61 i = nI (T i)) ∧ ∀ i, i < d → S.1 62 i = nI (F i)) ∧
  ((∀ t, t < iM I → S.1 93 t = nI (ws d t)) ∧ S.1 83 17 = nI L ∧ S.1 83 29 = nI d ∧ (∀ i, i < d → S.1 98 i = nI (T i)) ∧ ∀ i, i < d → S.1 99 i = nI (F i))
def GN (I : Isl) (c : Nat) (sw si : Nat → Nat) (S : St) : Prop :=
  c ≤ 8 ∧ (S.1 63 0 = nI c ∧ ∀ i, i < c → S.1 64 i = nI (sw i) ∧ S.1 65 i = nI (si i) ∧ sw i < iW I ∧ si i ≤ 1) ∧ S.1 83 42 = nI c ∧ ∀ i, i < c → S.1 107 i = nI (sw i) ∧ S.1 108 i = nI (si i) ∧ sw i < iW I ∧ si i ≤ 1
def GK (I : Isl) (kc kl : Nat → Nat) (S : St) : Prop :=
  (∀ k, k < 3 → S.1 67 k = nI (kl k) ∧ kl k ≤ 6 ∧ (¬ kl k = 0 → S.1 66 k = nI (kc k) ∧ kc k < 16807 ∧ VS I (digF (kc k)) (kl k))) ∧ ∀ k, k < 3 → S.1 100 k = (if kl k = 0 then -1 else nI (kc k)) ∧ (¬ kl k = 0 → S.1 101 k = nI (kl k) ∧ kc k < 16807)
def RelP (I : Isl) (L d c : Nat) (ws : Nat → Nat → Nat) (T F sw si kc kl : Nat → Nat) (S : St) : Prop :=
  GI I S ∧ GP I L d ws T F S ∧ GN I c sw si S ∧ GK I kc kl S ∧ SrX I S ∧ TdR S ∧ RwR S ∧ TxR S
def Rel (S : St) : Prop := ∃ I L d c ws T F sw si kc kl, RelP I L d c ws T F sw si kc kl S
theorem RelP.rel {I : Isl} {L d c : Nat} {ws : Nat → Nat → Nat} {T F sw si kc kl : Nat → Nat} {S : St} (h : RelP I L d c ws T F sw si kc kl S) : Rel S := ⟨_, _, _, _, _, _, _, _, _, _, _, h⟩
/-! what each rests on -/
theorem TdR.keep {S S' : St} (h : TdR S) (e : ∀ a b, (a = 1 ∨ a = 2 ∨ (a = 83 ∧ (b = 0 ∨ b = 2)) ∨ a = 84) → S'.1 a b = S.1 a b) (el : ∀ b, b ≤ 4 → S'.2 1 b = S.2 1 b ∧ S'.2 83 b = S.2 83 b) : TdR S' := by
  obtain ⟨h1, h2, h3, h4, h5⟩ := h
  exact ⟨by rw [e 83 2 (by omega), e 1 0 (by omega)]; exact h1, by rw [(el 3 (by decide)).2, (el 1 (by decide)).1]; exact h2, by rw [(el 4 (by decide)).2, (el 2 (by decide)).1]; exact h3, by rw [e 83 0 (by omega), e 1 3 (by omega)]; exact h4, fun f hf => by rw [e 84 f (by omega), e 2 f (by omega)]; exact h5 f hf⟩
theorem RwS.keep {k c ρ : Nat} {S S' : St} (h : RwS k c ρ S) (e0 : S'.1 k 0 = S.1 k 0) (e : ∀ r, r < c → S'.1 (k + 1) r = S.1 (k + 1) r) : RwS k c ρ S' := ⟨e0.trans h.1, fun r hr => by rw [e r hr]; exact h.2 r hr⟩
theorem RwR.keep {S S' : St} (h : RwR S) (e : ∀ a b, ((3 ≤ a ∧ a ≤ 5) ∨ a = 85 ∨ a = 86) → S'.1 a b = S.1 a b) : RwR S' := by
  obtain ⟨h1, h2, h3⟩ := h
  refine ⟨h1.keep (e 3 0 (by omega)) (fun r _ => e 4 r (by omega)), fun r hr => ?_, fun r hr i hi => ?_⟩
  · rw [e 85 r (by omega), e 4 r (by omega)]; exact h2 r hr
  · rw [e 4 r (by omega)] at hi
    rw [e 86 _ (by omega), e 5 _ (by omega)]; exact h3 r hr i hi
theorem TxR.keep {S S' : St} (h : TxR S) (e : ∀ a b, ((6 ≤ a ∧ a ≤ 8) ∨ a = 88 ∨ a = 89) → S'.1 a b = S.1 a b) : TxR S' := by
  obtain ⟨h1, h2, h3, h4, h5⟩ := h
  refine ⟨h1.keep (e 6 0 (by omega)) (fun r _ => e 7 r (by omega)), fun r hr => ?_, fun r hr i hi => ?_, fun j hj => ?_, fun j hj => ?_⟩
  · rw [e 88 r (by omega), e 7 r (by omega)]; exact h2 r hr
  · rw [e 7 r (by omega)] at hi
    rw [e 89 _ (by omega), e 8 _ (by omega)]; exact h3 r hr i hi
  · rw [e 8 j (by omega)]; exact h4 j hj
  · rw [e 89 j (by omega)]; exact h5 j hj
theorem IsM.kp {I : Isl} {S S' : St} (h : IsM I S) (e : ∀ a b, ((a = 83 ∧ (b = 10 ∨ b = 11 ∨ b = 13 ∨ b = 15)) ∨ (90 ≤ a ∧ a ≤ 92)) → S'.1 a b = S.1 a b) : IsM I S' := by
  obtain ⟨h1, h2, h3, h4, h5, h6, h7⟩ := h
  exact ⟨(e 83 10 (by omega)).trans h1, (e 83 11 (by omega)).trans h2, (e 83 13 (by omega)).trans h3, (e 83 15 (by omega)).trans h4, fun t ht => (e 90 t (by omega)).trans (h5 t ht), fun b hb => (e 91 b (by omega)).trans (h6 b hb), fun v hv j hj => (e 92 _ (by omega)).trans (h7 v hv j hj)⟩
theorem GI.keep {I : Isl} {S S' : St} (h : GI I S) (e : ∀ a b, ((11 ≤ a ∧ a ≤ 22) ∨ (a = 83 ∧ (b = 10 ∨ b = 11 ∨ b = 13 ∨ b = 15)) ∨ (90 ≤ a ∧ a ≤ 92)) → S'.1 a b = S.1 a b) : GI I S' :=
  ⟨h.1, h.2.1.keep (fun a h1 h2 b => e a b (by omega)), h.2.2.1.keep (fun a b hab => e a b (by omega)), h.2.2.2.kp (fun a b hab => e a b (by omega))⟩
theorem GP.keep {I : Isl} {L d : Nat} {ws : Nat → Nat → Nat} {T F : Nat → Nat} {S S' : St} (h : GP I L d ws T F S) (e : ∀ a b, ((35 ≤ a ∧ a ≤ 39) ∨ (60 ≤ a ∧ a ≤ 62) ∨ (a = 83 ∧ (b = 17 ∨ b = 29)) ∨ a = 93 ∨ a = 98 ∨ a = 99) → S'.1 a b = S.1 a b) : GP I L d ws T F S' := by
  obtain ⟨h0, ⟨h1, h2, h3, h4, h5⟩, ⟨k1, k2, k3, k4, k5⟩⟩ := h
  exact ⟨h0, ⟨h1.keep (fun a a1 a2 b => e a b (by omega)), (e 35 5 (by omega)).trans h2, (e 60 0 (by omega)).trans h3, fun i hi => (e 61 i (by omega)).trans (h4 i hi), fun i hi => (e 62 i (by omega)).trans (h5 i hi)⟩,
    ⟨fun t ht => (e 93 t (by omega)).trans (k1 t ht), (e 83 17 (by omega)).trans k2, (e 83 29 (by omega)).trans k3, fun i hi => (e 98 i (by omega)).trans (k4 i hi), fun i hi => (e 99 i (by omega)).trans (k5 i hi)⟩⟩
theorem GN.keep {I : Isl} {c : Nat} {sw si : Nat → Nat} {S S' : St} (h : GN I c sw si S) (e : ∀ a b, ((63 ≤ a ∧ a ≤ 65) ∨ (a = 83 ∧ b = 42) ∨ a = 107 ∨ a = 108) → S'.1 a b = S.1 a b) : GN I c sw si S' := by
  obtain ⟨h0, ⟨h1, h2⟩, h3, h4⟩ := h
  refine ⟨h0, ⟨(e 63 0 (by omega)).trans h1, fun i hi => ?_⟩, (e 83 42 (by omega)).trans h3, fun i hi => ?_⟩
  · rw [e 64 i (by omega), e 65 i (by omega)]; exact h2 i hi
  · rw [e 107 i (by omega), e 108 i (by omega)]; exact h4 i hi
theorem GK.keep {I : Isl} {kc kl : Nat → Nat} {S S' : St} (h : GK I kc kl S) (e : ∀ a b, (a = 66 ∨ a = 67 ∨ a = 100 ∨ a = 101) → S'.1 a b = S.1 a b) : GK I kc kl S' := by
  refine ⟨fun k hk => ?_, fun k hk => ?_⟩
  · rw [e 67 k (by omega), e 66 k (by omega)]; exact h.1 k hk
  · rw [e 100 k (by omega), e 101 k (by omega)]; exact h.2 k hk
/-- cells that count for nothing from call to call -/
def Scr (a b : Nat) : Prop := a = 0 ∨ a = 9 ∨ a = 10 ∨ (23 ≤ a ∧ a ≤ 34) ∨ (40 ≤ a ∧ a ≤ 59) ∨ (68 ≤ a ∧ a ≤ 82) ∨ a = 87 ∨ (94 ≤ a ∧ a ≤ 97) ∨ (102 ≤ a ∧ a ≤ 106) ∨ (a = 83 ∧ ((19 ≤ b ∧ b ≤ 24) ∨ b = 36 ∨ b = 37 ∨ b = 41))
section RL
variable {I : Isl} {L d c : Nat} {ws : Nat → Nat → Nat} {T F sw si kc kl : Nat → Nat} {S S' : St}
/-- what is told alone has changed -/
theorem RelP.told (h : RelP I L d c ws T F sw si kc kl S) (hs : SrX I S') (e : ∀ a b, ¬ Scr a b → ¬ a = 1 → ¬ a = 2 → ¬ a = 84 → ¬ (a = 83 ∧ (b = 0 ∨ b = 2)) → S'.1 a b = S.1 a b) (ht : TdR S') : RelP I L d c ws T F sw si kc kl S' := by
  obtain ⟨h1, h2, h3, h4, _, _, h7, h8⟩ := h
  have e' : ∀ a b, (¬ Scr a b ∧ ¬ a = 1 ∧ ¬ a = 2 ∧ ¬ a = 84 ∧ ¬ (a = 83 ∧ (b = 0 ∨ b = 2))) → S'.1 a b = S.1 a b := fun a b k => e a b k.1 k.2.1 k.2.2.1 k.2.2.2.1 k.2.2.2.2
  unfold Scr at e'
  exact ⟨h1.keep (fun a b k => e' a b (by omega)), h2.keep (fun a b k => e' a b (by omega)), h3.keep (fun a b k => e' a b (by omega)), h4.keep (fun a b k => e' a b (by omega)), hs, ht, h7.keep (fun a b k => e' a b (by omega)), h8.keep (fun a b k => e' a b (by omega))⟩
theorem RelP.same (h : RelP I L d c ws T F sw si kc kl S) (hs : SrX I S') (e : ∀ a b, ¬ Scr a b → S'.1 a b = S.1 a b) (el : ∀ b, b ≤ 4 → S'.2 1 b = S.2 1 b ∧ S'.2 83 b = S.2 83 b) : RelP I L d c ws T F sw si kc kl S' :=
  h.told hs (fun a b k _ _ _ _ => e a b k) (h.2.2.2.2.2.1.keep (fun a b k => e a b (by unfold Scr; omega)) el)
theorem RelP.ask (h : RelP I L d c ws T F sw si kc kl S) {v : Int32} (hs : SrX I S') (e : ∀ a b, ¬ Scr a b → ¬ (a = 1 ∧ b = 0) → ¬ (a = 83 ∧ b = 2) → S'.1 a b = S.1 a b) (e1 : S'.1 1 0 = v) (e2 : S'.1 83 2 = v) (el : ∀ b, b ≤ 4 → S'.2 1 b = S.2 1 b ∧ S'.2 83 b = S.2 83 b) : RelP I L d c ws T F sw si kc kl S' := by
  have e' : ∀ a b, (¬ Scr a b ∧ ¬ (a = 1 ∧ b = 0) ∧ ¬ (a = 83 ∧ b = 2)) → S'.1 a b = S.1 a b := fun a b k => e a b k.1 k.2.1 k.2.2
  unfold Scr at e'
  have ht := h.2.2.2.2.2.1
  refine h.told hs (fun a b k k1 k2 k3 k4 => e a b k (by omega) (by omega)) ⟨e2.trans e1.symm, ?_, ?_, ?_, fun f hf => ?_⟩
  · rw [(el 3 (by decide)).2, (el 1 (by decide)).1]; exact ht.2.1
  · rw [(el 4 (by decide)).2, (el 2 (by decide)).1]; exact ht.2.2.1
  · rw [e' 83 0 (by omega), e' 1 3 (by omega)]; exact ht.2.2.2.1
  · rw [e' 84 f (by omega), e' 2 f (by omega)]; exact ht.2.2.2.2 f hf
theorem RelP.fnd (h : RelP I L d c ws T F sw si kc kl S) {f : Nat} (hf : f ≤ 5) (hs : SrX I S') (e : ∀ a b, ¬ Scr a b → ¬ (a = 1 ∧ b = 3) → ¬ (a = 83 ∧ b = 0) → ¬ (a = 2 ∧ b = f) → ¬ (a = 84 ∧ b = f) → S'.1 a b = S.1 a b) (e1 : S'.1 1 3 = nI f) (e2 : S'.1 83 0 = nI f) (e3 : S'.1 2 f = S.1 2 f + nI 1) (e4 : S'.1 84 f = S.1 84 f + nI 1) (el : ∀ b, b ≤ 4 → S'.2 1 b = S.2 1 b ∧ S'.2 83 b = S.2 83 b) : RelP I L d c ws T F sw si kc kl S' := by
  have e' : ∀ a b, (¬ Scr a b ∧ ¬ (a = 1 ∧ b = 3) ∧ ¬ (a = 83 ∧ b = 0) ∧ ¬ (a = 2 ∧ b = f) ∧ ¬ (a = 84 ∧ b = f)) → S'.1 a b = S.1 a b := fun a b k => e a b k.1 k.2.1 k.2.2.1 k.2.2.2.1 k.2.2.2.2
  unfold Scr at e'
  have ht := h.2.2.2.2.2.1
  refine h.told hs (fun a b k k1 k2 k3 k4 => e a b k (by omega) (by omega) (by omega) (by omega)) ⟨?_, ?_, ?_, e2.trans e1.symm, fun g hg => ?_⟩
  · rw [e' 83 2 (by omega), e' 1 0 (by omega)]; exact ht.1
  · rw [(el 3 (by decide)).2, (el 1 (by decide)).1]; exact ht.2.1
  · rw [(el 4 (by decide)).2, (el 2 (by decide)).1]; exact ht.2.2.1
  · by_cases q : g = f
    · rw [q, e3, e4, ht.2.2.2.2 f hf]
    · rw [e' 84 g (by omega), e' 2 g (by omega)]; exact ht.2.2.2.2 g hg
theorem SrX.kp (h : SrX I S) (e : ∀ a b, (a = 45 ∨ (68 ≤ a ∧ a ≤ 77)) → S'.1 a b = S.1 a b) : SrX I S' := h.keep (fun a b k => e a b (by omega)) (e 45 5 (by omega))
theorem fc_set {k j a b : Nat} {v : Int32} (h : ¬ (a = k ∧ b = j)) : (setI S k j v).1 a b = S.1 a b := if_neg h
theorem fndM_k {f a b : Nat} (h : ¬ (a = 83 ∧ b = 0)) (h2 : ¬ (a = 84 ∧ b = f)) : (fndM S f).1 a b = S.1 a b := (fc_set h2).trans (fc_set h)
theorem fndS_k {f a b : Nat} (h : ¬ (a = 1 ∧ b = 3)) (h2 : ¬ (a = 2 ∧ b = f)) : (fndS S f).1 a b = S.1 a b := (fc_set h2).trans (fc_set h)
theorem fndS_3 {f : Nat} : (fndS S f).1 1 3 = nI f := (rdI_k (by decide)).trans rdI_eq
theorem fndM_0 {f : Nat} : (fndM S f).1 83 0 = nI f := (rdI_k (by decide)).trans rdI_eq
theorem fndS_f {f : Nat} : (fndS S f).1 2 f = S.1 2 f + nI 1 := rdI_eq
theorem fndM_f {f : Nat} : (fndM S f).1 84 f = S.1 84 f + nI 1 := rdI_eq
/-- the leaves that come up again and again -/
theorem RelP.lk (h : RelP I L d c ws T F sw si kc kl S) (n : Nat) : RelP I L d c ws T F sw si kc kl (lkS S n) :=
  h.same (h.2.2.2.2.1.kp (fun a b k => lkS_k (by omega))) (fun a b k => lkS_k (by unfold Scr at k; omega)) (fun b _ => ⟨rfl, rfl⟩)
/-- a finding, with whatever else counts for nothing -/
theorem RelP.lf (h : RelP I L d c ws T F sw si kc kl S) {f : Nat} (hf : f ≤ 5) : RelP I L d c ws T F sw si kc kl (fndM (fndS S f) f) :=
  h.fnd hf (h.2.2.2.2.1.kp (fun a b k => (fndM_k (by omega) (by omega)).trans (fndS_k (by omega) (by omega)))) (fun a b k k1 k2 k3 k4 => (fndM_k k2 k4).trans (fndS_k k1 k3)) ((fndM_k (by omega) (by omega)).trans fndS_3) fndM_0 ((fndM_k (by omega) (by omega)).trans fndS_f) (fndM_f.trans (by rw [fndS_k (by omega) (by omega)])) (fun b _ => ⟨rfl, rfl⟩)
theorem RelP.la (h : RelP I L d c ws T F sw si kc kl S) {v : Int32} : RelP I L d c ws T F sw si kc kl (setI (setI S 1 0 v) 83 2 v) :=
  h.ask (h.2.2.2.2.1.kp (fun a b k => (rdI_k (by omega)).trans (rdI_k (by omega)))) (fun a b k k1 k2 => (fc_set k2).trans (fc_set k1)) ((rdI_k (by decide)).trans rdI_eq) rdI_eq (fun b _ => ⟨rfl, rfl⟩)
theorem RelP.lal (h : RelP I L d c ws T F sw si kc kl S) {v : Int32} {n : Nat} : RelP I L d c ws T F sw si kc kl (setI (lkS (setI S 1 0 v) n) 83 2 v) :=
  h.ask (h.2.2.2.2.1.kp (fun a b k => (rdI_k (by omega)).trans ((lkS_k (by omega)).trans (rdI_k (by omega))))) (fun a b k k1 k2 => (fc_set k2).trans ((lkS_k (by unfold Scr at k; omega)).trans (fc_set k1))) ((rdI_k (by decide)).trans ((lkS_k (by decide)).trans rdI_eq)) rdI_eq (fun b _ => ⟨rfl, rfl⟩)
/-- what the reference's methods want of the store, behind the class's call -/
def MdP (I : Isl) (L d c : Nat) (ws : Nat → Nat → Nat) (T F sw si kc kl : Nat → Nat) (S : St) : Prop :=
  IsM I S ∧ ((∀ t, t < iM I → S.1 93 t = nI (ws d t)) ∧ S.1 83 17 = nI L ∧ S.1 83 29 = nI d ∧ (∀ i, i < d → S.1 98 i = nI (T i)) ∧ ∀ i, i < d → S.1 99 i = nI (F i)) ∧ (S.1 83 42 = nI c ∧ ∀ i, i < c → S.1 107 i = nI (sw i) ∧ S.1 108 i = nI (si i) ∧ sw i < iW I ∧ si i ≤ 1) ∧
  (∀ k, k < 3 → S.1 100 k = (if kl k = 0 then -1 else nI (kc k)) ∧ (¬ kl k = 0 → S.1 101 k = nI (kl k) ∧ kc k < 16807)) ∧ RwM S ∧ ByM S
theorem RelP.rwM (h : RelP I L d c ws T F sw si kc kl S) : RwM S := by
  obtain ⟨_, _, _, _, _, _, h7, h8⟩ := h
  refine ⟨fun r hr => ?_, fun r hr => ?_⟩
  · rw [h7.2.1 r hr]; exact h7.1.2 r hr
  · rw [h8.2.1 r hr]; exact h8.1.2 r hr
theorem RwM.kp (h : RwM S) (e : ∀ a b, 83 ≤ a → S'.1 a b = S.1 a b) : RwM S' := ⟨fun r hr => by rw [e 85 r (by decide)]; exact h.1 r hr, fun r hr => by rw [e 88 r (by decide)]; exact h.2 r hr⟩
theorem RelP.mod (h : RelP I L d c ws T F sw si kc kl S) (e : ∀ a b, 83 ≤ a → S'.1 a b = S.1 a b) : MdP I L d c ws T F sw si kc kl S' := by
  have hw := h.rwM.kp e
  obtain ⟨h1, h2, h3, h4, _, _, h7, h8⟩ := h
  obtain ⟨k1, k2, k3, k4, k5⟩ := h2.2.2
  refine ⟨h1.2.2.2.kp (fun a b k => e a b (by omega)), ⟨fun t ht => (e 93 t (by decide)).trans (k1 t ht), (e 83 17 (by decide)).trans k2, (e 83 29 (by decide)).trans k3, fun i hi => (e 98 i (by decide)).trans (k4 i hi), fun i hi => (e 99 i (by decide)).trans (k5 i hi)⟩, ⟨(e 83 42 (by decide)).trans h3.2.2.1, fun i hi => ?_⟩, fun k hk => ?_, hw, fun j hj => ?_⟩
  · rw [e 107 i (by decide), e 108 i (by decide)]; exact h3.2.2.2 i hi
  · rw [e 100 k (by decide), e 101 k (by decide)]; exact h4.2 k hk
  · rw [e 89 j (by decide)]; exact h8.2.2.2.2 j hj
end RL
/-- the reference's call comes next, and answers so -/
def Nx (fr lo : Nat) (y : MethodName) (M : MD) (as : List Value) (r : Int32) (S1 : St) : Prop := C fr lo y M as S1 (qi (fun r' S2 => r' = r ∧ Rel S2))
def Ny (fr lo : Nat) (y : MethodName) (M : MD) (as : List Value) (r : Int64) (S1 : St) : Prop := C fr lo y M as S1 (ql (fun r' S2 => r' = r ∧ Rel S2))
section CS
variable {fr lo fr' lo' : Nat} {y y' : MethodName} {M M' : MD} {as as' : List Value} {S S1 : St} {r : Int32} {f : Int32 → St → Prop}
theorem cl1 {a : Int32} {s : St} (hc : C fr lo y M as S (pu (.int a) s)) (h0 : Nx fr' lo' y' M' as' a s) : C fr lo y M as S (qi (Nx fr' lo' y' M' as')) := hc.mono (fun v S' hq => by obtain ⟨rfl, rfl⟩ := hq; exact ⟨_, rfl, h0⟩)
theorem md1 {a : Int32} {s : St} (hc : C fr' lo' y' M' as' S1 (pu (.int a) s)) (h : a = r ∧ Rel s) : Nx fr' lo' y' M' as' r S1 := hc.mono (fun v S' hq => by obtain ⟨rfl, rfl⟩ := hq; exact ⟨_, rfl, h⟩)
theorem cq1 (hc : C fr lo y M as S (qi f)) (h0 : ∀ r S1, f r S1 → Nx fr' lo' y' M' as' r S1) : C fr lo y M as S (qi (Nx fr' lo' y' M' as')) := hc.mono (fun v S' hq => by obtain ⟨r, rfl, hf⟩ := hq; exact ⟨_, rfl, h0 r S' hf⟩)
theorem mq1 (hc : C fr' lo' y' M' as' S1 (qi f)) (h : ∀ r' S2, f r' S2 → r' = r ∧ Rel S2) : Nx fr' lo' y' M' as' r S1 := hc.mono (fun v S' hq => by obtain ⟨r', rfl, hf⟩ := hq; exact ⟨_, rfl, h r' S' hf⟩)
theorem u2 {p : Prop} {a0 a1 : Int32} {s0 s1 : St} (hc : C fr lo y M as S (pu (.int (i2 p a0 a1)) (i2 p s0 s1))) : C fr lo y M as S (qi (i2 p (an a0 s0) (an a1 s1))) := hc.mono (fun v S' hq => by
  obtain ⟨rfl, rfl⟩ := hq
  refine ⟨_, rfl, ?_⟩
  by_cases h0 : p
  · rw [e2_0 h0, e2_0 h0, e2_0 h0]; exact ⟨rfl, rfl⟩
  · rw [e2_1 h0, e2_1 h0, e2_1 h0]; exact ⟨rfl, rfl⟩)
theorem cl2 {p : Prop} {f0 f1 : Int32 → St → Prop} (hc : C fr lo y M as S (qi (i2 p f0 f1))) (k0 : p → ∀ r S1, f0 r S1 → Nx fr' lo' y' M' as' r S1) (k1 : ¬ p → ∀ r S1, f1 r S1 → Nx fr' lo' y' M' as' r S1) : C fr lo y M as S (qi (Nx fr' lo' y' M' as')) := cq1 hc (fun r S1 hf => by
  by_cases h0 : p
  · rw [e2_0 h0] at hf; exact k0 h0 r S1 hf
  · rw [e2_1 h0] at hf; exact k1 h0 r S1 hf)
theorem md2_0 {p : Prop} {f0 f1 : Int32 → St → Prop} (hc : C fr' lo' y' M' as' S1 (qi (i2 p f0 f1))) (h0 : p) (h : ∀ r' S2, f0 r' S2 → r' = r ∧ Rel S2) : Nx fr' lo' y' M' as' r S1 := mq1 hc (fun r' S2 hf => by rw [e2_0 h0] at hf; exact h r' S2 hf)
theorem md2_1 {p : Prop} {f0 f1 : Int32 → St → Prop} (hc : C fr' lo' y' M' as' S1 (qi (i2 p f0 f1))) (h0 : ¬ p) (h : ∀ r' S2, f1 r' S2 → r' = r ∧ Rel S2) : Nx fr' lo' y' M' as' r S1 := mq1 hc (fun r' S2 hf => by rw [e2_1 h0] at hf; exact h r' S2 hf)
theorem u3 {p q : Prop} {a0 a1 a2 : Int32} {s0 s1 s2 : St} (hc : C fr lo y M as S (pu (.int (i3 p q a0 a1 a2)) (i3 p q s0 s1 s2))) : C fr lo y M as S (qi (i3 p q (an a0 s0) (an a1 s1) (an a2 s2))) := hc.mono (fun v S' hq => by
  obtain ⟨rfl, rfl⟩ := hq
  refine ⟨_, rfl, ?_⟩
  by_cases h0 : p
  · rw [e3_0 h0, e3_0 h0, e3_0 h0]; exact ⟨rfl, rfl⟩
  ·
    by_cases h1 : q
    · rw [e3_1 h0 h1, e3_1 h0 h1, e3_1 h0 h1]; exact ⟨rfl, rfl⟩
    · rw [e3_2 h0 h1, e3_2 h0 h1, e3_2 h0 h1]; exact ⟨rfl, rfl⟩)
theorem cl3 {p q : Prop} {f0 f1 f2 : Int32 → St → Prop} (hc : C fr lo y M as S (qi (i3 p q f0 f1 f2))) (k0 : p → ∀ r S1, f0 r S1 → Nx fr' lo' y' M' as' r S1) (k1 : ¬ p → q → ∀ r S1, f1 r S1 → Nx fr' lo' y' M' as' r S1) (k2 : ¬ p → ¬ q → ∀ r S1, f2 r S1 → Nx fr' lo' y' M' as' r S1) : C fr lo y M as S (qi (Nx fr' lo' y' M' as')) := cq1 hc (fun r S1 hf => by
  by_cases h0 : p
  · rw [e3_0 h0] at hf; exact k0 h0 r S1 hf
  ·
    by_cases h1 : q
    · rw [e3_1 h0 h1] at hf; exact k1 h0 h1 r S1 hf
    · rw [e3_2 h0 h1] at hf; exact k2 h0 h1 r S1 hf)
theorem md3_0 {p q : Prop} {f0 f1 f2 : Int32 → St → Prop} (hc : C fr' lo' y' M' as' S1 (qi (i3 p q f0 f1 f2))) (h0 : p) (h : ∀ r' S2, f0 r' S2 → r' = r ∧ Rel S2) : Nx fr' lo' y' M' as' r S1 := mq1 hc (fun r' S2 hf => by rw [e3_0 h0] at hf; exact h r' S2 hf)
theorem md3_1 {p q : Prop} {f0 f1 f2 : Int32 → St → Prop} (hc : C fr' lo' y' M' as' S1 (qi (i3 p q f0 f1 f2))) (h0 : ¬ p) (h1 : q) (h : ∀ r' S2, f1 r' S2 → r' = r ∧ Rel S2) : Nx fr' lo' y' M' as' r S1 := mq1 hc (fun r' S2 hf => by rw [e3_1 h0 h1] at hf; exact h r' S2 hf)
theorem md3_2 {p q : Prop} {f0 f1 f2 : Int32 → St → Prop} (hc : C fr' lo' y' M' as' S1 (qi (i3 p q f0 f1 f2))) (h0 : ¬ p) (h1 : ¬ q) (h : ∀ r' S2, f2 r' S2 → r' = r ∧ Rel S2) : Nx fr' lo' y' M' as' r S1 := mq1 hc (fun r' S2 hf => by rw [e3_2 h0 h1] at hf; exact h r' S2 hf)
theorem u4 {p q t : Prop} {a0 a1 a2 a3 : Int32} {s0 s1 s2 s3 : St} (hc : C fr lo y M as S (pu (.int (i4 p q t a0 a1 a2 a3)) (i4 p q t s0 s1 s2 s3))) : C fr lo y M as S (qi (i4 p q t (an a0 s0) (an a1 s1) (an a2 s2) (an a3 s3))) := hc.mono (fun v S' hq => by
  obtain ⟨rfl, rfl⟩ := hq
  refine ⟨_, rfl, ?_⟩
  by_cases h0 : p
  · rw [e4_0 h0, e4_0 h0, e4_0 h0]; exact ⟨rfl, rfl⟩
  ·
    by_cases h1 : q
    · rw [e4_1 h0 h1, e4_1 h0 h1, e4_1 h0 h1]; exact ⟨rfl, rfl⟩
    ·
      by_cases h2 : t
      · rw [e4_2 h0 h1 h2, e4_2 h0 h1 h2, e4_2 h0 h1 h2]; exact ⟨rfl, rfl⟩
      · rw [e4_3 h0 h1 h2, e4_3 h0 h1 h2, e4_3 h0 h1 h2]; exact ⟨rfl, rfl⟩)
theorem cl4 {p q t : Prop} {f0 f1 f2 f3 : Int32 → St → Prop} (hc : C fr lo y M as S (qi (i4 p q t f0 f1 f2 f3))) (k0 : p → ∀ r S1, f0 r S1 → Nx fr' lo' y' M' as' r S1) (k1 : ¬ p → q → ∀ r S1, f1 r S1 → Nx fr' lo' y' M' as' r S1) (k2 : ¬ p → ¬ q → t → ∀ r S1, f2 r S1 → Nx fr' lo' y' M' as' r S1) (k3 : ¬ p → ¬ q → ¬ t → ∀ r S1, f3 r S1 → Nx fr' lo' y' M' as' r S1) : C fr lo y M as S (qi (Nx fr' lo' y' M' as')) := cq1 hc (fun r S1 hf => by
  by_cases h0 : p
  · rw [e4_0 h0] at hf; exact k0 h0 r S1 hf
  ·
    by_cases h1 : q
    · rw [e4_1 h0 h1] at hf; exact k1 h0 h1 r S1 hf
    ·
      by_cases h2 : t
      · rw [e4_2 h0 h1 h2] at hf; exact k2 h0 h1 h2 r S1 hf
      · rw [e4_3 h0 h1 h2] at hf; exact k3 h0 h1 h2 r S1 hf)
theorem md4_0 {p q t : Prop} {f0 f1 f2 f3 : Int32 → St → Prop} (hc : C fr' lo' y' M' as' S1 (qi (i4 p q t f0 f1 f2 f3))) (h0 : p) (h : ∀ r' S2, f0 r' S2 → r' = r ∧ Rel S2) : Nx fr' lo' y' M' as' r S1 := mq1 hc (fun r' S2 hf => by rw [e4_0 h0] at hf; exact h r' S2 hf)
theorem md4_1 {p q t : Prop} {f0 f1 f2 f3 : Int32 → St → Prop} (hc : C fr' lo' y' M' as' S1 (qi (i4 p q t f0 f1 f2 f3))) (h0 : ¬ p) (h1 : q) (h : ∀ r' S2, f1 r' S2 → r' = r ∧ Rel S2) : Nx fr' lo' y' M' as' r S1 := mq1 hc (fun r' S2 hf => by rw [e4_1 h0 h1] at hf; exact h r' S2 hf)
theorem md4_2 {p q t : Prop} {f0 f1 f2 f3 : Int32 → St → Prop} (hc : C fr' lo' y' M' as' S1 (qi (i4 p q t f0 f1 f2 f3))) (h0 : ¬ p) (h1 : ¬ q) (h2 : t) (h : ∀ r' S2, f2 r' S2 → r' = r ∧ Rel S2) : Nx fr' lo' y' M' as' r S1 := mq1 hc (fun r' S2 hf => by rw [e4_2 h0 h1 h2] at hf; exact h r' S2 hf)
theorem md4_3 {p q t : Prop} {f0 f1 f2 f3 : Int32 → St → Prop} (hc : C fr' lo' y' M' as' S1 (qi (i4 p q t f0 f1 f2 f3))) (h0 : ¬ p) (h1 : ¬ q) (h2 : ¬ t) (h : ∀ r' S2, f3 r' S2 → r' = r ∧ Rel S2) : Nx fr' lo' y' M' as' r S1 := mq1 hc (fun r' S2 hf => by rw [e4_3 h0 h1 h2] at hf; exact h r' S2 hf)
theorem u5 {p q t u : Prop} {a0 a1 a2 a3 a4 : Int32} {s0 s1 s2 s3 s4 : St} (hc : C fr lo y M as S (pu (.int (i5 p q t u a0 a1 a2 a3 a4)) (i5 p q t u s0 s1 s2 s3 s4))) : C fr lo y M as S (qi (i5 p q t u (an a0 s0) (an a1 s1) (an a2 s2) (an a3 s3) (an a4 s4))) := hc.mono (fun v S' hq => by
  obtain ⟨rfl, rfl⟩ := hq
  refine ⟨_, rfl, ?_⟩
  by_cases h0 : p
  · rw [e5_0 h0, e5_0 h0, e5_0 h0]; exact ⟨rfl, rfl⟩
  ·
    by_cases h1 : q
    · rw [e5_1 h0 h1, e5_1 h0 h1, e5_1 h0 h1]; exact ⟨rfl, rfl⟩
    ·
      by_cases h2 : t
      · rw [e5_2 h0 h1 h2, e5_2 h0 h1 h2, e5_2 h0 h1 h2]; exact ⟨rfl, rfl⟩
      ·
        by_cases h3 : u
        · rw [e5_3 h0 h1 h2 h3, e5_3 h0 h1 h2 h3, e5_3 h0 h1 h2 h3]; exact ⟨rfl, rfl⟩
        · rw [e5_4 h0 h1 h2 h3, e5_4 h0 h1 h2 h3, e5_4 h0 h1 h2 h3]; exact ⟨rfl, rfl⟩)
theorem cl5 {p q t u : Prop} {f0 f1 f2 f3 f4 : Int32 → St → Prop} (hc : C fr lo y M as S (qi (i5 p q t u f0 f1 f2 f3 f4))) (k0 : p → ∀ r S1, f0 r S1 → Nx fr' lo' y' M' as' r S1) (k1 : ¬ p → q → ∀ r S1, f1 r S1 → Nx fr' lo' y' M' as' r S1) (k2 : ¬ p → ¬ q → t → ∀ r S1, f2 r S1 → Nx fr' lo' y' M' as' r S1) (k3 : ¬ p → ¬ q → ¬ t → u → ∀ r S1, f3 r S1 → Nx fr' lo' y' M' as' r S1) (k4 : ¬ p → ¬ q → ¬ t → ¬ u → ∀ r S1, f4 r S1 → Nx fr' lo' y' M' as' r S1) : C fr lo y M as S (qi (Nx fr' lo' y' M' as')) := cq1 hc (fun r S1 hf => by
  by_cases h0 : p
  · rw [e5_0 h0] at hf; exact k0 h0 r S1 hf
  ·
    by_cases h1 : q
    · rw [e5_1 h0 h1] at hf; exact k1 h0 h1 r S1 hf
    ·
      by_cases h2 : t
      · rw [e5_2 h0 h1 h2] at hf; exact k2 h0 h1 h2 r S1 hf
      ·
        by_cases h3 : u
        · rw [e5_3 h0 h1 h2 h3] at hf; exact k3 h0 h1 h2 h3 r S1 hf
        · rw [e5_4 h0 h1 h2 h3] at hf; exact k4 h0 h1 h2 h3 r S1 hf)
theorem md5_0 {p q t u : Prop} {f0 f1 f2 f3 f4 : Int32 → St → Prop} (hc : C fr' lo' y' M' as' S1 (qi (i5 p q t u f0 f1 f2 f3 f4))) (h0 : p) (h : ∀ r' S2, f0 r' S2 → r' = r ∧ Rel S2) : Nx fr' lo' y' M' as' r S1 := mq1 hc (fun r' S2 hf => by rw [e5_0 h0] at hf; exact h r' S2 hf)
theorem md5_1 {p q t u : Prop} {f0 f1 f2 f3 f4 : Int32 → St → Prop} (hc : C fr' lo' y' M' as' S1 (qi (i5 p q t u f0 f1 f2 f3 f4))) (h0 : ¬ p) (h1 : q) (h : ∀ r' S2, f1 r' S2 → r' = r ∧ Rel S2) : Nx fr' lo' y' M' as' r S1 := mq1 hc (fun r' S2 hf => by rw [e5_1 h0 h1] at hf; exact h r' S2 hf)
theorem md5_2 {p q t u : Prop} {f0 f1 f2 f3 f4 : Int32 → St → Prop} (hc : C fr' lo' y' M' as' S1 (qi (i5 p q t u f0 f1 f2 f3 f4))) (h0 : ¬ p) (h1 : ¬ q) (h2 : t) (h : ∀ r' S2, f2 r' S2 → r' = r ∧ Rel S2) : Nx fr' lo' y' M' as' r S1 := mq1 hc (fun r' S2 hf => by rw [e5_2 h0 h1 h2] at hf; exact h r' S2 hf)
theorem md5_3 {p q t u : Prop} {f0 f1 f2 f3 f4 : Int32 → St → Prop} (hc : C fr' lo' y' M' as' S1 (qi (i5 p q t u f0 f1 f2 f3 f4))) (h0 : ¬ p) (h1 : ¬ q) (h2 : ¬ t) (h3 : u) (h : ∀ r' S2, f3 r' S2 → r' = r ∧ Rel S2) : Nx fr' lo' y' M' as' r S1 := mq1 hc (fun r' S2 hf => by rw [e5_3 h0 h1 h2 h3] at hf; exact h r' S2 hf)
theorem md5_4 {p q t u : Prop} {f0 f1 f2 f3 f4 : Int32 → St → Prop} (hc : C fr' lo' y' M' as' S1 (qi (i5 p q t u f0 f1 f2 f3 f4))) (h0 : ¬ p) (h1 : ¬ q) (h2 : ¬ t) (h3 : ¬ u) (h : ∀ r' S2, f4 r' S2 → r' = r ∧ Rel S2) : Nx fr' lo' y' M' as' r S1 := mq1 hc (fun r' S2 hf => by rw [e5_4 h0 h1 h2 h3] at hf; exact h r' S2 hf)
end CS
