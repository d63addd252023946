/-! ===== rows and texts ===== -/
def tn (x : Int32) : Nat := x.toInt.toNat
theorem tnN {n : Nat} (h : n < 2147483648) : tn (nI n) = n := by unfold tn; rw [tiN h]; rfl
theorem nI_one : nI 1 = 1 := rfl
theorem isR : isRows 3 6 60 := Or.inl ⟨rfl, rfl, rfl⟩
theorem isTx : isRows 6 4 100 := Or.inr ⟨rfl, rfl, rfl⟩
/-- answers: a row is laid -/
def rowA (c h : Int) (x y : Int32) : Int32 := if (¬ (0 ≤ x.toInt ∧ x.toInt < c)) ∨ h < y.toInt then -1 else if y.toInt < 0 then -3 else y
def rowX (S : St) (x y : Int32) : St := if (¬ (0 ≤ x.toInt ∧ x.toInt < 6)) ∨ 60 < y.toInt then S else if y.toInt < 0 then fndS S 5 else fillA (setI S 4 (tn x) y) 5 (tn x * 60) (tn x * 60 + tn y) (nI 0)
def textX (S : St) (x y : Int32) : St := if (¬ (0 ≤ x.toInt ∧ x.toInt < 4)) ∨ 100 < y.toInt then S else if y.toInt < 0 then fndS S 5 else fillA (setI S 7 (tn x) y) 8 (tn x * 100) (tn x * 100 + tn y) (nI 32)
def rowM (S : St) (x y : Int32) : St := if (¬ (0 ≤ x.toInt ∧ x.toInt < 6)) ∨ 60 < y.toInt then S else if y.toInt < 0 then fndM S 5 else fillA (setI S 85 (tn x) y) 86 (60 * tn x) (60 * tn x + 60) (nI 0)
def textM (S : St) (x y : Int32) : St := if (¬ (0 ≤ x.toInt ∧ x.toInt < 4)) ∨ 100 < y.toInt then S else if y.toInt < 0 then fndM S 5 else fillA (setI S 88 (tn x) y) 89 (100 * tn x) (100 * tn x + 100) (nI 32)
/-- a place of a row: z its size -/
def layA (c : Int) (x i z ok : Int32) : Int32 := if ¬ (0 ≤ x.toInt ∧ x.toInt < c) then -1 else if z.toInt < 0 then -3 else if ¬ (0 ≤ i.toInt ∧ i.toInt < z.toInt) then -3 else ok
def layX (S : St) (x i v : Int32) : St := if ¬ (0 ≤ x.toInt ∧ x.toInt < 6) then S else if (S.1 4 (tn x)).toInt < 0 then fndS S 1 else if ¬ (0 ≤ i.toInt ∧ i.toInt < (S.1 4 (tn x)).toInt) then fndS S 2 else setI (setI S 5 (tn x * 60 + tn i) v) 1 0 (S.1 5 (tn x * 60 + tn i))
def atX (S : St) (x i : Int32) : St := if ¬ (0 ≤ x.toInt ∧ x.toInt < 6) then S else if (S.1 4 (tn x)).toInt < 0 then fndS S 1 else if ¬ (0 ≤ i.toInt ∧ i.toInt < (S.1 4 (tn x)).toInt) then fndS S 2 else setI S 1 0 (S.1 5 (tn x * 60 + tn i))
def putX (S : St) (x i v : Int32) : St := if ¬ (0 ≤ x.toInt ∧ x.toInt < 4) then S else if (S.1 7 (tn x)).toInt < 0 then fndS S 1 else if ¬ (0 ≤ i.toInt ∧ i.toInt < (S.1 7 (tn x)).toInt) then fndS S 2 else setI S 8 (tn x * 100 + tn i) v.toInt8.toInt32
def layM (S : St) (x i v : Int32) : St := if ¬ (0 ≤ x.toInt ∧ x.toInt < 6) then S else if (S.1 85 (tn x)).toInt < 0 then fndM S 1 else if ¬ (0 ≤ i.toInt ∧ i.toInt < (S.1 85 (tn x)).toInt) then fndM S 2 else setI (setI S 86 (60 * tn x + tn i) v) 83 2 (S.1 86 (60 * tn x + tn i))
def atM (S : St) (x i : Int32) : St := if ¬ (0 ≤ x.toInt ∧ x.toInt < 6) then S else if (S.1 85 (tn x)).toInt < 0 then fndM S 1 else if ¬ (0 ≤ i.toInt ∧ i.toInt < (S.1 85 (tn x)).toInt) then fndM S 2 else setI S 83 2 (S.1 86 (60 * tn x + tn i))
def putM (S : St) (x i v : Int32) : St := if ¬ (0 ≤ x.toInt ∧ x.toInt < 4) then S else if (S.1 88 (tn x)).toInt < 0 then fndM S 1 else if ¬ (0 ≤ i.toInt ∧ i.toInt < (S.1 88 (tn x)).toInt) then fndM S 2 else setI S 89 (100 * tn x + tn i) (vp_nar .byte v.toInt8.toInt32)
def tearA (x z : Int32) : Int32 := if ¬ (0 ≤ x.toInt ∧ x.toInt < 6) then -1 else if z.toInt < 0 then -3 else 1
def tearX (S : St) (x : Int32) : St := if ¬ (0 ≤ x.toInt ∧ x.toInt < 6) then S else if (S.1 4 (tn x)).toInt < 0 then fndS S 1 else setI S 4 (tn x) (-1)
def tearM (S : St) (x : Int32) : St := if ¬ (0 ≤ x.toInt ∧ x.toInt < 6) then S else if (S.1 85 (tn x)).toInt < 0 then fndM S 1 else setI S 85 (tn x) (-1)

