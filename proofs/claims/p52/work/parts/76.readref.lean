/-! ===== the reference reads a text ===== -/
def TxM (t n : Nat) (β : Nat → Int32) (S : St) : Prop := t < 4 ∧ n ≤ 100 ∧ byR n β ∧ S.1 88 t = nI n ∧ ∀ i, i < n → S.1 89 (100 * t + i) = β i
def FrJ (S S' : St) : Prop := S'.2 = S.2 ∧ ∀ a b, ¬ (a = 83 ∧ 19 ≤ b ∧ b ≤ 24) → ¬ (94 ≤ a ∧ a ≤ 96) → S'.1 a b = S.1 a b
theorem FrJ.refl {S : St} : FrJ S S := ⟨rfl, fun _ _ _ _ => rfl⟩
theorem FrJ.trans {S S1 S2 : St} (h : FrJ S S1) (h' : FrJ S1 S2) : FrJ S S2 := ⟨h'.1.trans h.1, fun a b h1 h2 => (h'.2 a b h1 h2).trans (h.2 a b h1 h2)⟩
theorem FrJ.set {S S1 : St} {k j : Nat} {v : Int32} (h : FrJ S S1) (hk : (k = 83 ∧ 19 ≤ j ∧ j ≤ 24) ∨ (94 ≤ k ∧ k ≤ 96)) : FrJ S (setI S1 k j v) := ⟨h.1, fun a b h1 h2 => by
  refine Eq.trans ?_ (h.2 a b h1 h2)
  by_cases q : a = k
  · subst q; exact rdI_j (by omega)
  · exact rdI_k q⟩
theorem TxM.fr {t n : Nat} {β : Nat → Int32} {S S' : St} (h : TxM t n β S) (f : FrJ S S') : TxM t n β S' :=
  ⟨h.1, h.2.1, h.2.2.1, (f.2 88 t (by omega) (by omega)).trans h.2.2.2.1, fun i hi => (f.2 89 _ (by omega) (by omega)).trans (h.2.2.2.2 i hi)⟩
def RdM (pos : Nat) (I : Isl) (S : St) : Prop := S.1 83 19 = nI pos ∧ S.1 83 21 = nI (iP I) ∧ S.1 83 22 = nI (iM I) ∧ S.1 83 23 = nI (iB I) ∧ S.1 83 24 = nI (iW I) ∧
  (∀ t, t < iM I → S.1 94 t = nI (iK I t) ∧ S.1 95 t = nI (iS I t)) ∧ ∀ v, v < iW I → ∀ j, j < 4 → S.1 96 (4 * v + j) = nI (iV I v j)
theorem RdM.keep {pos pos' : Nat} {I : Isl} {S S' : St} (h : RdM pos I S) (h0 : S'.1 83 19 = nI pos') (e : ∀ b, 21 ≤ b → b ≤ 24 → S'.1 83 b = S.1 83 b) (e2 : ∀ a b, 94 ≤ a → a ≤ 96 → S'.1 a b = S.1 a b) : RdM pos' I S' :=
  ⟨h0, (e 21 (by decide) (by decide)).trans h.2.1, (e 22 (by decide) (by decide)).trans h.2.2.1, (e 23 (by decide) (by decide)).trans h.2.2.2.1, (e 24 (by decide) (by decide)).trans h.2.2.2.2.1,
   fun t ht => ⟨(e2 94 t (by decide) (by decide)).trans (h.2.2.2.2.2.1 t ht).1, (e2 95 t (by decide) (by decide)).trans (h.2.2.2.2.2.1 t ht).2⟩, fun v hv j hj => (e2 96 _ (by decide) (by decide)).trans (h.2.2.2.2.2.2 v hv j hj)⟩
/-- a figure has been looked for -/
def FgM (C : Prop) (p v : Nat) (S : St) (r : Int32) (S' : St) : Prop := (S'.2 = S.2 ∧ ∀ a b, ¬ (a = 83 ∧ (b = 19 ∨ b = 20)) → S'.1 a b = S.1 a b) ∧ ((C ∧ r = nI 1 ∧ S'.1 83 19 = nI (p + 1) ∧ S'.1 83 20 = nI v) ∨ (¬ C ∧ r = nI 0 ∧ S'.1 83 19 = nI p))
theorem FgM.pos {C : Prop} {p v : Nat} {S : St} {r : Int32} {S' : St} (h : FgM C p v S r S') (h0 : ¬ r = 0) : C ∧ S'.1 83 19 = nI (p + 1) ∧ S'.1 83 20 = nI v := by
  rcases h.2 with k | k
  · exact ⟨k.1, k.2.2⟩
  · rw [k.2.1] at h0; exact absurd rfl h0
theorem FgM.neg {C : Prop} {p v : Nat} {S : St} {r : Int32} {S' : St} (h : FgM C p v S r S') (h0 : r = 0) : ¬ C ∧ S'.1 83 19 = nI p := by
  rcases h.2 with k | k
  · rw [k.2.1] at h0; exact absurd h0 (by decide)
  · exact ⟨k.1, k.2.2⟩
theorem FgM.fr {C : Prop} {p v : Nat} {S0 S : St} {r : Int32} {S' : St} (h : FgM C p v S r S') (f : FrJ S0 S) : FrJ S0 S' := f.trans ⟨h.1.1, fun a b h1 _ => h.1.2 a b (by omega)⟩
/-- an item has been read -/
def ItM (out : Nat × Isl × Bool) (S : St) (r : Int32) (S' : St) : Prop := FrJ S S' ∧ ((out.2.2 = true ∧ r = nI 1 ∧ RdM out.1 out.2.1 S') ∨ (out.2.2 = false ∧ r = nI 0 ∧ S'.1 83 19 = nI out.1))
theorem ItM.f {p : Nat} {J : Isl} {out : Nat × Isl × Bool} {S S' : St} (e : out = (p, J, false)) (h : FrJ S S') (h4 : S'.1 83 19 = nI p) : ItM out S (nI 0) S' := by
  subst e
  exact ⟨h, Or.inr ⟨rfl, rfl, h4⟩⟩
theorem ItM.t {p : Nat} {J : Isl} {out : Nat × Isl × Bool} {S S' : St} (e : out = (p, J, true)) (h : FrJ S S') (h4 : RdM p J S') : ItM out S (nI 1) S' := by
  subst e
  exact ⟨h, Or.inl ⟨rfl, rfl, h4⟩⟩

theorem ld_t {I : Isl} {pl : Int32} {k : Nat} (h : nI (iS I k) = pl) : sm (fun u => i2 (nI (iS I u) = pl) (wt (iK I u)) 0) (k + 1) = sm (fun u => i2 (nI (iS I u) = pl) (wt (iK I u)) 0) k + wt (iK I k) := by rw [sm_s, e2_0 h]
theorem ld_f {I : Isl} {pl : Int32} {k : Nat} (h : ¬ nI (iS I k) = pl) : sm (fun u => i2 (nI (iS I u) = pl) (wt (iK I u)) 0) (k + 1) = sm (fun u => i2 (nI (iS I u) = pl) (wt (iK I u)) 0) k + 0 := by rw [sm_s, e2_1 h]
theorem ld_n {I : Isl} (hs : ∀ t, t < iM I → iS I t < 100) {d : Nat} (hd : d < 100) : sm (fun u => i2 (nI (iS I u) = nI d) (wt (iK I u)) 0) (iM I) = loadF I (iS I) d := sm_congr fun u hu => by
  have := hs u hu
  by_cases q : iS I u = d
  · rw [e2_0 (by rw [q]), if_pos q]
  · rw [e2_1 (fun e => q (nI_inj (by omega) (by omega) e)), if_neg q]
theorem ld_le {I : Isl} {pl : Int32} (k : Nat) : sm (fun u => i2 (nI (iS I u) = pl) (wt (iK I u)) 0) k ≤ 2 * k := sm_le fun u _ => by
  by_cases q : nI (iS I u) = pl
  · rw [e2_0 q]; exact wt_le _
  · rw [e2_1 q]; exact Nat.zero_le _
theorem PI.s4 {I : Isl} (h : PI I) : ∀ t, t < iM I → iS I t ≤ 4 := fun t ht => by
  have := h.2.1 t ht
  have := h.1.1
  omega

theorem RdM_addT {S S' : St} {pos p q d : Nat} {I : Isl} (hR : RdM pos I S) (h19 : S'.1 83 19 = nI p) (h21 : S'.1 83 21 = S.1 83 21) (h22 : S'.1 83 22 = nI (iM I + 1)) (h23 : S'.1 83 23 = nI (if 0 < rm q then iB I + 1 else iB I)) (h24 : S'.1 83 24 = S.1 83 24) (hk : S'.1 94 (iM I) = nI q) (hd : S'.1 95 (iM I) = nI d) (e : ∀ a b, (a = 94 ∨ a = 95) → ¬ b = iM I → S'.1 a b = S.1 a b) (e2 : ∀ b, S'.1 96 b = S.1 96 b) : RdM p (addT I q d) S' := by
  have eM : iM (addT I q d) = iM I + 1 := rfl
  have eK : iK (addT I q d) = upW (iK I) (iM I) q := rfl
  have eS : iS (addT I q d) = upW (iS I) (iM I) d := rfl
  refine ⟨h19, h21.trans hR.2.1, h22, h23, h24.trans hR.2.2.2.2.1, fun t ht => ?_, fun v hv j hj => (e2 _).trans (hR.2.2.2.2.2.2 v hv j hj)⟩
  rw [eK, eS]
  by_cases k : t = iM I
  · rw [k, upW_eq, upW_eq]; exact ⟨hk, hd⟩
  · have := hR.2.2.2.2.2.1 t (by omega)
    rw [upW_ne k, upW_ne k]
    exact ⟨(e 94 t (Or.inl rfl) k).trans this.1, (e 95 t (Or.inr rfl) k).trans this.2⟩

