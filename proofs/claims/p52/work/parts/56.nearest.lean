/-! ===== the reference: all, till, nearest, fewest ===== -/

def wantW (I : Isl) (wv : Nat → Int32) (w : Nat → Nat) (n : Nat) : Prop := ∀ t, t < n → 0 ≤ (wv t).toInt → (whomF I w t : Int) = (wv t).toInt
theorem neg_no {x : Int32} (e : x = -1) (h : 0 ≤ x.toInt) : False := by rw [e] at h; exact absurd h (by decide)
theorem eq_who {p : Int32} {n : Nat} (e : nI n = p) (hn : n ≤ 4) : (n : Int) = p.toInt := by rw [← e]; exact (tiN (by omega)).symm
theorem okw_m1 {p n : Int32} {k : Nat} (h : p = -1 ∨ p = nI 4 ∨ (0 ≤ p.toInt ∧ p.toInt < (k : Int))) : p = -1 ∨ 0 ≤ p.toInt := by
  rcases h with h | h | h
  · exact Or.inl h
  · exact Or.inr (by rw [h]; decide)
  · exact Or.inr h.1

theorem need_no {p0 p q r : Prop} {S S0 S1 S2 S3 : St} {e : Int32 → St → Prop} (hp0 : ¬ p0) (h : (i4 p q r (-3 : Int32) (-3) (-3) (nI 0)).toInt < 0) : qi (i5 p0 p q r (an (-1) S0) (an (-3) S1) (an (-3) S2) (an (-3) S3) e) (some (.int (i4 p q r (-3) (-3) (-3) (nI 0)))) (i4 p q r S1 S2 S3 S) := by
  by_cases hp : p
  · rw [e4_0 hp, e4_0 hp]; exact q5_1 hp0 hp ⟨rfl, rfl⟩
  · by_cases hq : q
    · rw [e4_1 hp hq, e4_1 hp hq]; exact q5_2 hp0 hp hq ⟨rfl, rfl⟩
    · by_cases hr : r
      · rw [e4_2 hp hq hr, e4_2 hp hq hr]; exact q5_3 hp0 hp hq hr ⟨rfl, rfl⟩
      · rw [e4_3 hp hq hr] at h
        exact absurd h (by decide)
theorem need_ok {p q r : Prop} (h : 0 ≤ (i4 p q r (-3 : Int32) (-3) (-3) (nI 0)).toInt) : ¬ p ∧ ¬ q ∧ ¬ r := by
  by_cases hp : p
  · rw [e4_0 hp] at h; exact absurd h (by decide)
  · by_cases hq : q
    · rw [e4_1 hp hq] at h; exact absurd h (by decide)
    · by_cases hr : r
      · rw [e4_2 hp hq hr] at h; exact absurd h (by decide)
      · exact ⟨hp, hq, hr⟩
/-- but for what a search of the reference writes, and how many are as near -/
def FrN (S S' : St) : Prop := S'.2 = S.2 ∧ ∀ a b, ¬ (a = 97 ∨ a = 102 ∨ a = 103) → ¬ (a = 83 ∧ (b = 36 ∨ b = 37)) → S'.1 a b = S.1 a b
theorem FrN.of {S S1 : St} (h : FrL S S1) : FrN S S1 := ⟨h.1, fun a b h1 h2 => h.2 a b h1 (fun q => h2 ⟨q.1, Or.inl q.2⟩)⟩
theorem FrN.trans {S S1 S2 : St} (h : FrN S S1) (h' : FrN S1 S2) : FrN S S2 := ⟨h'.1.trans h.1, fun a b h1 h2 => (h'.2 a b h1 h2).trans (h.2 a b h1 h2)⟩
theorem FrN.set {S S1 : St} {v : Int32} (h : FrN S S1) : FrN S (setI S1 83 37 v) := ⟨h.1, fun a b h1 h2 => by
  refine Eq.trans ?_ (h.2 a b h1 h2)
  by_cases q : a = 83
  · exact rdI_j (by omega)
  · exact rdI_k q⟩
theorem IsM.fn {I : Isl} {S S' : St} (h : IsM I S) (hf : FrN S S') : IsM I S' := h.keep (fun j hj => hf.2 83 j (by decide) (by intro q; rcases q.2 with e | e <;> rw [e] at hj <;> revert hj <;> decide)) (fun a ha b => hf.2 a b (by intro e; rcases e with rfl | rfl | rfl <;> revert ha <;> decide) (by intro e; rw [e.1] at ha; revert ha; decide))

