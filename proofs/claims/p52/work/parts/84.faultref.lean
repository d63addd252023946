/-! ===== the reference: fault, island ===== -/
def ByM (S : St) : Prop := ∀ j, j < 400 → -128 ≤ (S.1 89 j).toInt ∧ (S.1 89 j).toInt ≤ 127
def tnM (S : St) (x : Int32) : Nat := tn (S.1 88 (tn x))
def tbM (S : St) (x : Int32) : Nat → Int32 := fun i => S.1 89 (100 * tn x + i)
theorem txM {S : St} (hT : RwM S) (hB : ByM S) {t : Nat} (ht : t < 4) (hm : ¬ (S.1 88 t).toInt < 0) : TxM t (tnM S (nI t)) (tbM S (nI t)) S := by
  have e : tn (nI t) = t := tnN (by omega)
  rcases hT.2 t ht with k | ⟨z, hz, k⟩
  · rw [k] at hm; exact absurd (by decide) hm
  · have e2 : tnM S (nI t) = z := by unfold tnM; rw [e, k]; exact tnN (by omega)
    rw [e2]
    unfold tbM
    rw [e]
    exact ⟨ht, hz, fun i hi => hB _ (by omega), k, fun i hi => rfl⟩

/-- the first k things have come over, j bags -/
def E1 (I : Isl) (k j : Nat) (S S1 : St) : Prop := S1.2 = S.2 ∧ (∀ a b, ¬ (a = 83 ∧ b = 13) → ¬ (a = 90 ∨ a = 91 ∨ a = 93) → S1.1 a b = S.1 a b) ∧ S1.1 83 13 = nI j ∧ (∀ u, u < k → S1.1 90 u = nI (iK I u) ∧ S1.1 93 u = nI (iS I u)) ∧ (∀ b, b < j → S1.1 91 b = nI (iG I b)) ∧ j ≤ iB I ∧ (∀ b, b < j → iG I b < k) ∧ ∀ b, j ≤ b → b < iB I → k ≤ iG I b
theorem E1_nb {I : Isl} {k j : Nat} {S S1 : St} (hO : IOK I) (hE : E1 I k j S S1) (hk : k < iM I) (hb : ¬ bagK (iK I k)) : E1 I (k + 1) j S (setI (setI S1 90 k (nI (iK I k))) 93 k (nI (iS I k))) := by
  obtain ⟨e1, e2, e3, e4, e5, e6, e7, e8⟩ := hE
  refine ⟨e1, fun a b h1 h2 => ?_, ?_, fun u hu => ?_, fun b hb' => ?_, e6, fun b hb' => Nat.lt_succ_of_lt (e7 b hb'), fun b h1 h2 => ?_⟩
  · rw [rdI_k (by omega), rdI_k (by omega)]; exact e2 a b h1 h2
  · rw [rdI_k (by decide), rdI_k (by decide)]; exact e3
  · by_cases q : u = k
    · rw [q]; exact ⟨(rdI_k (by decide)).trans rdI_eq, rdI_eq⟩
    · have := e4 u (by omega)
      exact ⟨(rdI_k (by decide)).trans ((rdI_j q).trans this.1), (rdI_j q).trans ((rdI_k (by decide)).trans this.2)⟩
  · rw [rdI_k (by decide), rdI_k (by decide)]; exact e5 b hb'
  · have a := e8 b h1 h2
    have : ¬ iG I b = k := fun e => hb (by rw [← e]; exact (hO.2.2.2.2.2.1 b h2).2)
    omega
theorem E1_bg {I : Isl} {k j : Nat} {S S1 : St} (hO : IOK I) (hE : E1 I k j S S1) (hk : k < iM I) (hb : bagK (iK I k)) : j < iB I ∧ E1 I (k + 1) (j + 1) S (setI (setI (setI (setI S1 90 k (nI (iK I k))) 93 k (nI (iS I k))) 91 j (nI k)) 83 13 (nI (j + 1))) := by
  obtain ⟨e1, e2, e3, e4, e5, e6, e7, e8⟩ := hE
  obtain ⟨c, hc, hck⟩ := hO.2.2.2.2.2.2.2.1 k hk hb
  have hjc : j ≤ c := Classical.byContradiction fun q => by
    have := e7 c (by omega)
    omega
  have hj : j = c := Classical.byContradiction fun q => by
    have h2 : iB I ≤ 2 := hO.2.2.2.1
    have hc1 : c = 1 := by omega
    have hj0 : j = 0 := by omega
    have := hO.2.2.2.2.2.2.1 (by omega)
    have := e8 0 (by omega) (by omega)
    rw [hc1] at hck
    omega
  subst hj
  refine ⟨hc, e1, fun a b h1 h2 => ?_, rdI_eq, fun u hu => ?_, fun b hb' => ?_, by omega, fun b hb' => ?_, fun b h1 h2 => ?_⟩
  · have h0 : (setI (setI (setI (setI S1 90 k (nI (iK I k))) 93 k (nI (iS I k))) 91 j (nI k)) 83 13 (nI (j + 1))).1 a b = (setI (setI (setI S1 90 k (nI (iK I k))) 93 k (nI (iS I k))) 91 j (nI k)).1 a b := by
      by_cases q : a = 83
      · subst q; exact rdI_j (fun z => h1 ⟨rfl, z⟩)
      · exact rdI_k q
    rw [h0, rdI_k (by omega), rdI_k (by omega), rdI_k (by omega)]; exact e2 a b h1 h2
  · by_cases q : u = k
    · rw [q]; exact ⟨(rdI_k (by decide)).trans ((rdI_k (by decide)).trans ((rdI_k (by decide)).trans rdI_eq)), (rdI_k (by decide)).trans ((rdI_k (by decide)).trans rdI_eq)⟩
    · have := e4 u (by omega)
      exact ⟨(rdI_k (by decide)).trans ((rdI_k (by decide)).trans ((rdI_k (by decide)).trans ((rdI_j q).trans this.1))), (rdI_k (by decide)).trans ((rdI_k (by decide)).trans ((rdI_j q).trans ((rdI_k (by decide)).trans this.2)))⟩
  · by_cases q : b = j
    · rw [q, hck]; exact (rdI_k (by decide)).trans rdI_eq
    · exact (rdI_k (by decide)).trans ((rdI_j q).trans ((rdI_k (by decide)).trans ((rdI_k (by decide)).trans (e5 b (by omega)))))
  · by_cases q : b = j
    · rw [q, hck]; exact Nat.lt_succ_self k
    · exact Nat.lt_succ_of_lt (e7 b (by omega))
  · have a := e8 b (by omega) h2
    have : ¬ iG I b = k := fun e => by have := hO.inj hc h2 (hck.trans e.symm); omega
    omega
def E2 (I : Isl) (i : Nat) (S S1 : St) : Prop := S1.2 = S.2 ∧ (∀ a b, ¬ a = 92 → S1.1 a b = S.1 a b) ∧ ∀ u, u < i → S1.1 92 u = S.1 96 u
theorem E2_s {I : Isl} {i : Nat} {S S1 : St} (h : E2 I i S S1) : E2 I (i + 1) S (setI S1 92 i (S.1 96 i)) :=
  ⟨h.1, fun a b ha => (rdI_k ha).trans (h.2.1 a b ha), fun u hu => by
    by_cases q : u = i
    · rw [q]; exact rdI_eq
    · exact (rdI_j q).trans (h.2.2 u (by omega))⟩
def E3 (k : Nat) (S S1 : St) : Prop := S1.2 = S.2 ∧ (∀ a b, ¬ a = 100 → S1.1 a b = S.1 a b) ∧ ∀ u, u < k → S1.1 100 u = -1
theorem E3_s {i : Nat} {S S1 : St} (h : E3 i S S1) : E3 (i + 1) S (setI S1 100 i (-1)) :=
  ⟨h.1, fun a b ha => (rdI_k ha).trans (h.2.1 a b ha), fun u hu => by
    by_cases q : u = i
    · rw [q]; exact rdI_eq
    · exact (rdI_j q).trans (h.2.2 u (by omega))⟩

def FIm (a b : Nat) : Prop := (a = 83 ∧ (b = 10 ∨ b = 11 ∨ b = 13 ∨ b = 15 ∨ b = 17 ∨ (19 ≤ b ∧ b ≤ 24) ∨ b = 29 ∨ b = 42)) ∨ (90 ≤ a ∧ a ≤ 96) ∨ a = 100
