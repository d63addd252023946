/-! posts, call rows by post, rows over naturals, reads behind writes -/
def pu (r : Value) (S1 : St) : Option Value → St → Prop := fun v S' => v = some r ∧ S' = S1
def pv (S1 : St) : Option Value → St → Prop := fun v S' => v = none ∧ S' = S1
def pb (P : Prop) (S1 : St) : Option Value → St → Prop := fun v S' => ((v = some (.int 1) ∧ P) ∨ (v = some (.int 0) ∧ ¬ P)) ∧ S' = S1
def qi (P : Int32 → St → Prop) : Option Value → St → Prop := fun v S' => ∃ r : Int32, v = some (.int r) ∧ P r S'
def ql (P : Int64 → St → Prop) : Option Value → St → Prop := fun v S' => ∃ r : Int64, v = some (.long r) ∧ P r S'
def qv (P : St → Prop) : Option Value → St → Prop := fun v S' => v = none ∧ P S'
theorem rdI_eq {S : St} {k j : Nat} {v : Int32} : (setI S k j v).1 k j = v := if_pos ⟨rfl, rfl⟩
theorem rdI_k {S : St} {k j a b : Nat} {v : Int32} (h : ¬ a = k) : (setI S k j v).1 a b = S.1 a b := if_neg fun q => h q.1
theorem rdI_j {S : St} {k j a b : Nat} {v : Int32} (h : ¬ b = j) : (setI S k j v).1 a b = S.1 a b := if_neg fun q => h q.2
theorem rdI_l {S : St} {k j a b : Nat} {v : Int64} : (setL S k j v).1 a b = S.1 a b := rfl
theorem rdL_i {S : St} {k j a b : Nat} {v : Int32} : (setI S k j v).2 a b = S.2 a b := rfl
theorem rdL_eq {S : St} {k j : Nat} {v : Int64} : (setL S k j v).2 k j = v := if_pos ⟨rfl, rfl⟩
theorem rdL_k {S : St} {k j a b : Nat} {v : Int64} (h : ¬ a = k) : (setL S k j v).2 a b = S.2 a b := if_neg fun q => h q.1
theorem rdL_j {S : St} {k j a b : Nat} {v : Int64} (h : ¬ b = j) : (setL S k j v).2 a b = S.2 a b := if_neg fun q => h q.2
theorem tiN {n : Nat} (h : n < 2147483648) : (nI n).toInt = (n : Int) := Int32.toInt_ofNat_of_lt h
theorem tcN {n : Nat} (h : n < 2147483648) : (nI n).toNatClampNeg = n := Int32.toNatClampNeg_ofNat_of_lt h
theorem nI_of_int {x : Int32} {n : Nat} (h : x.toInt = (n : Int)) : x = nI n := by
  have hn : n < 2147483648 := by have := x.toInt_lt; omega
  exact Int32.toInt_inj.mp (h.trans (tiN hn).symm)
theorem nI_ex {x : Int32} {n : Nat} (h0 : 0 ≤ x.toInt) (h : x.toInt < (n : Int)) : ∃ j : Nat, j < n ∧ x = nI j := ⟨x.toInt.toNat, by omega, nI_of_int (by omega)⟩
theorem nI_exP {x : Int32} (h0 : 0 ≤ x.toInt) : ∃ j : Nat, j < 2147483648 ∧ x = nI j := nI_ex h0 (by have := x.toInt_lt; omega)
theorem nI_inj {a b : Nat} (ha : a < 2147483648) (hb : b < 2147483648) (h : nI a = nI b) : a = b := by
  have := congrArg Int32.toInt h
  rw [tiN ha, tiN hb] at this
  omega
theorem oi_nat (z : Nat) : Int32.ofInt (z : Int) = nI z := by
  show Int32.ofBitVec (BitVec.ofInt 32 (z : Int)) = Int32.ofBitVec (BitVec.ofNat 32 z)
  rw [BitVec.ofInt_natCast]
theorem nI_dec (a : Nat) : nI (a + 1) + Int32.ofInt (-1) = nI a := by
  rw [show Int32.ofInt (-1) = (-1 : Int32) by decide, ← Int32.sub_eq_add_neg, nI_pred]
theorem nI_subN {a b : Nat} (h : b ≤ a) : nI a - nI b = nI (a - b) := by
  have e : nI a = nI (a - b) + nI b := by rw [nI_add]; congr 1; omega
  rw [e]
  exact Int32.add_sub_cancel _ _
theorem nI_nz {b : Nat} (hb : b < 2147483648) (h : 0 < b) : ¬ nI b = 0 := fun q => by
  have := congrArg Int32.toInt q
  rw [tiN hb] at this
  have h0 : (0 : Int32).toInt = 0 := rfl
  omega
theorem nI_div {a b : Nat} (ha : a < 2147483648) (hb : b < 2147483648) : nI a / nI b = nI (a / b) := by
  apply Int32.toInt_inj.mp
  have hq : a / b < 2147483648 := Nat.lt_of_le_of_lt (Nat.div_le_self a b) ha
  rw [tiN hq, Int32.toInt_div, tiN ha, tiN hb]
  rw [Int.tdiv_eq_ediv_of_nonneg (by omega), show (a : Int) / (b : Int) = ((a / b : Nat) : Int) from rfl]
  generalize a / b = q at hq ⊢
  rw [Int.bmod_eq_of_le (by omega) (by omega)]
theorem nI_mod {a b : Nat} (ha : a < 2147483648) (hb : b < 2147483648) : nI a - nI a / nI b * nI b = nI (a % b) := by
  rw [nI_div ha hb, pk_mul]
  have h := Nat.div_mul_le_self a b
  rw [nI_subN h]
  congr 1
  have := Nat.div_add_mod a b
  rw [Nat.mul_comm] at this
  omega
section XN
variable {fr lo : Nat} {M : MD} {Q : Option Value → St → Prop} {pc : Nat} {lv : List (Nat × Value)} {st : List Value} {S : St}

theorem x_callVu {fr' lo' idx n k ci : Nat} {y : MethodName} {M' : MD} {as rest : List Value} {fs : List FdX} {T : u_T} {N : Nat} {r : Value} {S1 : St} (hm : CV M.1 idx y M' n) (hc : C fr' lo' y M' (.ref k :: as) S (pu r S1)) (hd : decode M.2.1 pc = .ok (.invokevirtual idx, 3)) (hl : LAY[k]? = some (.inl (ci, fs))) (hcl : vwCl[ci]? = some (y.cls, T, N)) (hn : as.length = n) (hst : st = as.reverse ++ .ref k :: rest) (hr : (rest.map fun v => v.category).sum ≤ 8) (hfr : fr' + 1 ≤ fr) (hlo : 8 + (M'.2.2.1 + 11) + lo' ≤ lo) (kk : X fr lo M Q (pc + 3) lv (r :: rest) S1) (hsc : Csk M M' := by first | exact ⟨Or.inl rfl, rfl, rfl⟩ | exact ⟨Or.inr rfl, rfl, rfl⟩) : X fr lo M Q pc lv st S :=
  x_callV hm hc hd hl hcl hn hst hr hfr hlo (fun v S' hq => by obtain ⟨rfl, rfl⟩ := hq; exact kk) hsc
theorem x_callVv {fr' lo' idx n k ci : Nat} {y : MethodName} {M' : MD} {as rest : List Value} {fs : List FdX} {T : u_T} {N : Nat} {S1 : St} (hm : CV M.1 idx y M' n) (hc : C fr' lo' y M' (.ref k :: as) S (pv S1)) (hd : decode M.2.1 pc = .ok (.invokevirtual idx, 3)) (hl : LAY[k]? = some (.inl (ci, fs))) (hcl : vwCl[ci]? = some (y.cls, T, N)) (hn : as.length = n) (hst : st = as.reverse ++ .ref k :: rest) (hr : (rest.map fun v => v.category).sum ≤ 8) (hfr : fr' + 1 ≤ fr) (hlo : 8 + (M'.2.2.1 + 11) + lo' ≤ lo) (kk : X fr lo M Q (pc + 3) lv rest S1) (hsc : Csk M M' := by first | exact ⟨Or.inl rfl, rfl, rfl⟩ | exact ⟨Or.inr rfl, rfl, rfl⟩) : X fr lo M Q pc lv st S :=
  x_callV hm hc hd hl hcl hn hst hr hfr hlo (fun v S' hq => by obtain ⟨rfl, rfl⟩ := hq; exact kk) hsc
theorem x_callVb {fr' lo' idx n k ci : Nat} {y : MethodName} {M' : MD} {as rest : List Value} {fs : List FdX} {T : u_T} {N : Nat} {P : Prop} {S1 : St} (hm : CV M.1 idx y M' n) (hc : C fr' lo' y M' (.ref k :: as) S (pb P S1)) (hd : decode M.2.1 pc = .ok (.invokevirtual idx, 3)) (hl : LAY[k]? = some (.inl (ci, fs))) (hcl : vwCl[ci]? = some (y.cls, T, N)) (hn : as.length = n) (hst : st = as.reverse ++ .ref k :: rest) (hr : (rest.map fun v => v.category).sum ≤ 8) (hfr : fr' + 1 ≤ fr) (hlo : 8 + (M'.2.2.1 + 11) + lo' ≤ lo) (kt : P → X fr lo M Q (pc + 3) lv (.int 1 :: rest) S1) (kf : ¬ P → X fr lo M Q (pc + 3) lv (.int 0 :: rest) S1) (hsc : Csk M M' := by first | exact ⟨Or.inl rfl, rfl, rfl⟩ | exact ⟨Or.inr rfl, rfl, rfl⟩) : X fr lo M Q pc lv st S :=
  x_callV hm hc hd hl hcl hn hst hr hfr hlo (fun v S' hq => by obtain ⟨⟨rfl, hp⟩ | ⟨rfl, hp⟩, rfl⟩ := hq; exact kt hp; exact kf hp) hsc
theorem x_callVqi {fr' lo' idx n k ci : Nat} {y : MethodName} {M' : MD} {as rest : List Value} {fs : List FdX} {T : u_T} {N : Nat} {P : Int32 → St → Prop} (hm : CV M.1 idx y M' n) (hc : C fr' lo' y M' (.ref k :: as) S (qi P)) (hd : decode M.2.1 pc = .ok (.invokevirtual idx, 3)) (hl : LAY[k]? = some (.inl (ci, fs))) (hcl : vwCl[ci]? = some (y.cls, T, N)) (hn : as.length = n) (hst : st = as.reverse ++ .ref k :: rest) (hr : (rest.map fun v => v.category).sum ≤ 8) (hfr : fr' + 1 ≤ fr) (hlo : 8 + (M'.2.2.1 + 11) + lo' ≤ lo) (kk : ∀ r S1, P r S1 → X fr lo M Q (pc + 3) lv (.int r :: rest) S1) (hsc : Csk M M' := by first | exact ⟨Or.inl rfl, rfl, rfl⟩ | exact ⟨Or.inr rfl, rfl, rfl⟩) : X fr lo M Q pc lv st S :=
  x_callV hm hc hd hl hcl hn hst hr hfr hlo (fun v S' hq => by obtain ⟨r, rfl, hp⟩ := hq; exact kk r _ hp) hsc
theorem x_callVql {fr' lo' idx n k ci : Nat} {y : MethodName} {M' : MD} {as rest : List Value} {fs : List FdX} {T : u_T} {N : Nat} {P : Int64 → St → Prop} (hm : CV M.1 idx y M' n) (hc : C fr' lo' y M' (.ref k :: as) S (ql P)) (hd : decode M.2.1 pc = .ok (.invokevirtual idx, 3)) (hl : LAY[k]? = some (.inl (ci, fs))) (hcl : vwCl[ci]? = some (y.cls, T, N)) (hn : as.length = n) (hst : st = as.reverse ++ .ref k :: rest) (hr : (rest.map fun v => v.category).sum ≤ 8) (hfr : fr' + 1 ≤ fr) (hlo : 8 + (M'.2.2.1 + 11) + lo' ≤ lo) (kk : ∀ r S1, P r S1 → X fr lo M Q (pc + 3) lv (.long r :: rest) S1) (hsc : Csk M M' := by first | exact ⟨Or.inl rfl, rfl, rfl⟩ | exact ⟨Or.inr rfl, rfl, rfl⟩) : X fr lo M Q pc lv st S :=
  x_callV hm hc hd hl hcl hn hst hr hfr hlo (fun v S' hq => by obtain ⟨r, rfl, hp⟩ := hq; exact kk r _ hp) hsc
theorem x_callVqv {fr' lo' idx n k ci : Nat} {y : MethodName} {M' : MD} {as rest : List Value} {fs : List FdX} {T : u_T} {N : Nat} {P : St → Prop} (hm : CV M.1 idx y M' n) (hc : C fr' lo' y M' (.ref k :: as) S (qv P)) (hd : decode M.2.1 pc = .ok (.invokevirtual idx, 3)) (hl : LAY[k]? = some (.inl (ci, fs))) (hcl : vwCl[ci]? = some (y.cls, T, N)) (hn : as.length = n) (hst : st = as.reverse ++ .ref k :: rest) (hr : (rest.map fun v => v.category).sum ≤ 8) (hfr : fr' + 1 ≤ fr) (hlo : 8 + (M'.2.2.1 + 11) + lo' ≤ lo) (kk : ∀ S1, P S1 → X fr lo M Q (pc + 3) lv rest S1) (hsc : Csk M M' := by first | exact ⟨Or.inl rfl, rfl, rfl⟩ | exact ⟨Or.inr rfl, rfl, rfl⟩) : X fr lo M Q pc lv st S :=
  x_callV hm hc hd hl hcl hn hst hr hfr hlo (fun v S' hq => by obtain ⟨rfl, hp⟩ := hq; exact kk _ hp) hsc
theorem x_callSu {fr' lo' idx n : Nat} {y : MethodName} {M' : MD} {as rest : List Value} {r : Value} {S1 : St} (hm : CS M.1 idx y M' n) (hc : C fr' lo' y M' as S (pu r S1)) (hd : decode M.2.1 pc = .ok (.invokestatic idx, 3)) (hn : as.length = n) (hst : st = as.reverse ++ rest) (hr : (rest.map fun v => v.category).sum ≤ 8) (hfr : fr' + 1 ≤ fr) (hlo : 8 + (M'.2.2.1 + 11) + lo' ≤ lo) (kk : X fr lo M Q (pc + 3) lv (r :: rest) S1) (hsc : Csk M M' := by first | exact ⟨Or.inl rfl, rfl, rfl⟩ | exact ⟨Or.inr rfl, rfl, rfl⟩) : X fr lo M Q pc lv st S :=
  x_callS hm hc hd hn hst hr hfr hlo (fun v S' hq => by obtain ⟨rfl, rfl⟩ := hq; exact kk) hsc
theorem x_callSv {fr' lo' idx n : Nat} {y : MethodName} {M' : MD} {as rest : List Value} {S1 : St} (hm : CS M.1 idx y M' n) (hc : C fr' lo' y M' as S (pv S1)) (hd : decode M.2.1 pc = .ok (.invokestatic idx, 3)) (hn : as.length = n) (hst : st = as.reverse ++ rest) (hr : (rest.map fun v => v.category).sum ≤ 8) (hfr : fr' + 1 ≤ fr) (hlo : 8 + (M'.2.2.1 + 11) + lo' ≤ lo) (kk : X fr lo M Q (pc + 3) lv rest S1) (hsc : Csk M M' := by first | exact ⟨Or.inl rfl, rfl, rfl⟩ | exact ⟨Or.inr rfl, rfl, rfl⟩) : X fr lo M Q pc lv st S :=
  x_callS hm hc hd hn hst hr hfr hlo (fun v S' hq => by obtain ⟨rfl, rfl⟩ := hq; exact kk) hsc
theorem x_callSb {fr' lo' idx n : Nat} {y : MethodName} {M' : MD} {as rest : List Value} {P : Prop} {S1 : St} (hm : CS M.1 idx y M' n) (hc : C fr' lo' y M' as S (pb P S1)) (hd : decode M.2.1 pc = .ok (.invokestatic idx, 3)) (hn : as.length = n) (hst : st = as.reverse ++ rest) (hr : (rest.map fun v => v.category).sum ≤ 8) (hfr : fr' + 1 ≤ fr) (hlo : 8 + (M'.2.2.1 + 11) + lo' ≤ lo) (kt : P → X fr lo M Q (pc + 3) lv (.int 1 :: rest) S1) (kf : ¬ P → X fr lo M Q (pc + 3) lv (.int 0 :: rest) S1) (hsc : Csk M M' := by first | exact ⟨Or.inl rfl, rfl, rfl⟩ | exact ⟨Or.inr rfl, rfl, rfl⟩) : X fr lo M Q pc lv st S :=
  x_callS hm hc hd hn hst hr hfr hlo (fun v S' hq => by obtain ⟨⟨rfl, hp⟩ | ⟨rfl, hp⟩, rfl⟩ := hq; exact kt hp; exact kf hp) hsc
theorem x_callSqi {fr' lo' idx n : Nat} {y : MethodName} {M' : MD} {as rest : List Value} {P : Int32 → St → Prop} (hm : CS M.1 idx y M' n) (hc : C fr' lo' y M' as S (qi P)) (hd : decode M.2.1 pc = .ok (.invokestatic idx, 3)) (hn : as.length = n) (hst : st = as.reverse ++ rest) (hr : (rest.map fun v => v.category).sum ≤ 8) (hfr : fr' + 1 ≤ fr) (hlo : 8 + (M'.2.2.1 + 11) + lo' ≤ lo) (kk : ∀ r S1, P r S1 → X fr lo M Q (pc + 3) lv (.int r :: rest) S1) (hsc : Csk M M' := by first | exact ⟨Or.inl rfl, rfl, rfl⟩ | exact ⟨Or.inr rfl, rfl, rfl⟩) : X fr lo M Q pc lv st S :=
  x_callS hm hc hd hn hst hr hfr hlo (fun v S' hq => by obtain ⟨r, rfl, hp⟩ := hq; exact kk r _ hp) hsc
theorem x_callSql {fr' lo' idx n : Nat} {y : MethodName} {M' : MD} {as rest : List Value} {P : Int64 → St → Prop} (hm : CS M.1 idx y M' n) (hc : C fr' lo' y M' as S (ql P)) (hd : decode M.2.1 pc = .ok (.invokestatic idx, 3)) (hn : as.length = n) (hst : st = as.reverse ++ rest) (hr : (rest.map fun v => v.category).sum ≤ 8) (hfr : fr' + 1 ≤ fr) (hlo : 8 + (M'.2.2.1 + 11) + lo' ≤ lo) (kk : ∀ r S1, P r S1 → X fr lo M Q (pc + 3) lv (.long r :: rest) S1) (hsc : Csk M M' := by first | exact ⟨Or.inl rfl, rfl, rfl⟩ | exact ⟨Or.inr rfl, rfl, rfl⟩) : X fr lo M Q pc lv st S :=
  x_callS hm hc hd hn hst hr hfr hlo (fun v S' hq => by obtain ⟨r, rfl, hp⟩ := hq; exact kk r _ hp) hsc
theorem x_callSqv {fr' lo' idx n : Nat} {y : MethodName} {M' : MD} {as rest : List Value} {P : St → Prop} (hm : CS M.1 idx y M' n) (hc : C fr' lo' y M' as S (qv P)) (hd : decode M.2.1 pc = .ok (.invokestatic idx, 3)) (hn : as.length = n) (hst : st = as.reverse ++ rest) (hr : (rest.map fun v => v.category).sum ≤ 8) (hfr : fr' + 1 ≤ fr) (hlo : 8 + (M'.2.2.1 + 11) + lo' ≤ lo) (kk : ∀ S1, P S1 → X fr lo M Q (pc + 3) lv rest S1) (hsc : Csk M M' := by first | exact ⟨Or.inl rfl, rfl, rfl⟩ | exact ⟨Or.inr rfl, rfl, rfl⟩) : X fr lo M Q pc lv st S :=
  x_callS hm hc hd hn hst hr hfr hlo (fun v S' hq => by obtain ⟨rfl, hp⟩ := hq; exact kk _ hp) hsc
theorem x_callFu {fr' lo' k jf : Nat} {M' : MD} {as rest : List Value} {fs : List FdX} {r : Value} {S1 : St} (hM : M.1 = RX8) (hm : CV RX3 jf yX3_fits M' 2) (hc : C fr' lo' yX3_fits M' (.ref k :: as) S (pu r S1)) (hd : decode M.2.1 pc = .ok (.invokevirtual 103, 3)) (hl : LAY[k]? = some (.inl (3, fs))) (hn : as.length = 2) (hst : st = as.reverse ++ .ref k :: rest) (hr : (rest.map fun v => v.category).sum ≤ 8) (hfr : fr' + 1 ≤ fr) (hlo : 8 + (M'.2.2.1 + 11) + lo' ≤ lo) (kk : X fr lo M Q (pc + 3) lv (r :: rest) S1) (hsc : Csk M M' := by first | exact ⟨Or.inl rfl, rfl, rfl⟩ | exact ⟨Or.inr rfl, rfl, rfl⟩) : X fr lo M Q pc lv st S :=
  x_callF hM hm hc hd hl hn hst hr hfr hlo (fun v S' hq => by obtain ⟨rfl, rfl⟩ := hq; exact kk) hsc
theorem x_callFv {fr' lo' k jf : Nat} {M' : MD} {as rest : List Value} {fs : List FdX} {S1 : St} (hM : M.1 = RX8) (hm : CV RX3 jf yX3_fits M' 2) (hc : C fr' lo' yX3_fits M' (.ref k :: as) S (pv S1)) (hd : decode M.2.1 pc = .ok (.invokevirtual 103, 3)) (hl : LAY[k]? = some (.inl (3, fs))) (hn : as.length = 2) (hst : st = as.reverse ++ .ref k :: rest) (hr : (rest.map fun v => v.category).sum ≤ 8) (hfr : fr' + 1 ≤ fr) (hlo : 8 + (M'.2.2.1 + 11) + lo' ≤ lo) (kk : X fr lo M Q (pc + 3) lv rest S1) (hsc : Csk M M' := by first | exact ⟨Or.inl rfl, rfl, rfl⟩ | exact ⟨Or.inr rfl, rfl, rfl⟩) : X fr lo M Q pc lv st S :=
  x_callF hM hm hc hd hl hn hst hr hfr hlo (fun v S' hq => by obtain ⟨rfl, rfl⟩ := hq; exact kk) hsc
theorem x_callFb {fr' lo' k jf : Nat} {M' : MD} {as rest : List Value} {fs : List FdX} {P : Prop} {S1 : St} (hM : M.1 = RX8) (hm : CV RX3 jf yX3_fits M' 2) (hc : C fr' lo' yX3_fits M' (.ref k :: as) S (pb P S1)) (hd : decode M.2.1 pc = .ok (.invokevirtual 103, 3)) (hl : LAY[k]? = some (.inl (3, fs))) (hn : as.length = 2) (hst : st = as.reverse ++ .ref k :: rest) (hr : (rest.map fun v => v.category).sum ≤ 8) (hfr : fr' + 1 ≤ fr) (hlo : 8 + (M'.2.2.1 + 11) + lo' ≤ lo) (kt : P → X fr lo M Q (pc + 3) lv (.int 1 :: rest) S1) (kf : ¬ P → X fr lo M Q (pc + 3) lv (.int 0 :: rest) S1) (hsc : Csk M M' := by first | exact ⟨Or.inl rfl, rfl, rfl⟩ | exact ⟨Or.inr rfl, rfl, rfl⟩) : X fr lo M Q pc lv st S :=
  x_callF hM hm hc hd hl hn hst hr hfr hlo (fun v S' hq => by obtain ⟨⟨rfl, hp⟩ | ⟨rfl, hp⟩, rfl⟩ := hq; exact kt hp; exact kf hp) hsc
theorem x_callFqi {fr' lo' k jf : Nat} {M' : MD} {as rest : List Value} {fs : List FdX} {P : Int32 → St → Prop} (hM : M.1 = RX8) (hm : CV RX3 jf yX3_fits M' 2) (hc : C fr' lo' yX3_fits M' (.ref k :: as) S (qi P)) (hd : decode M.2.1 pc = .ok (.invokevirtual 103, 3)) (hl : LAY[k]? = some (.inl (3, fs))) (hn : as.length = 2) (hst : st = as.reverse ++ .ref k :: rest) (hr : (rest.map fun v => v.category).sum ≤ 8) (hfr : fr' + 1 ≤ fr) (hlo : 8 + (M'.2.2.1 + 11) + lo' ≤ lo) (kk : ∀ r S1, P r S1 → X fr lo M Q (pc + 3) lv (.int r :: rest) S1) (hsc : Csk M M' := by first | exact ⟨Or.inl rfl, rfl, rfl⟩ | exact ⟨Or.inr rfl, rfl, rfl⟩) : X fr lo M Q pc lv st S :=
  x_callF hM hm hc hd hl hn hst hr hfr hlo (fun v S' hq => by obtain ⟨r, rfl, hp⟩ := hq; exact kk r _ hp) hsc
theorem x_callFql {fr' lo' k jf : Nat} {M' : MD} {as rest : List Value} {fs : List FdX} {P : Int64 → St → Prop} (hM : M.1 = RX8) (hm : CV RX3 jf yX3_fits M' 2) (hc : C fr' lo' yX3_fits M' (.ref k :: as) S (ql P)) (hd : decode M.2.1 pc = .ok (.invokevirtual 103, 3)) (hl : LAY[k]? = some (.inl (3, fs))) (hn : as.length = 2) (hst : st = as.reverse ++ .ref k :: rest) (hr : (rest.map fun v => v.category).sum ≤ 8) (hfr : fr' + 1 ≤ fr) (hlo : 8 + (M'.2.2.1 + 11) + lo' ≤ lo) (kk : ∀ r S1, P r S1 → X fr lo M Q (pc + 3) lv (.long r :: rest) S1) (hsc : Csk M M' := by first | exact ⟨Or.inl rfl, rfl, rfl⟩ | exact ⟨Or.inr rfl, rfl, rfl⟩) : X fr lo M Q pc lv st S :=
  x_callF hM hm hc hd hl hn hst hr hfr hlo (fun v S' hq => by obtain ⟨r, rfl, hp⟩ := hq; exact kk r _ hp) hsc
theorem x_callFqv {fr' lo' k jf : Nat} {M' : MD} {as rest : List Value} {fs : List FdX} {P : St → Prop} (hM : M.1 = RX8) (hm : CV RX3 jf yX3_fits M' 2) (hc : C fr' lo' yX3_fits M' (.ref k :: as) S (qv P)) (hd : decode M.2.1 pc = .ok (.invokevirtual 103, 3)) (hl : LAY[k]? = some (.inl (3, fs))) (hn : as.length = 2) (hst : st = as.reverse ++ .ref k :: rest) (hr : (rest.map fun v => v.category).sum ≤ 8) (hfr : fr' + 1 ≤ fr) (hlo : 8 + (M'.2.2.1 + 11) + lo' ≤ lo) (kk : ∀ S1, P S1 → X fr lo M Q (pc + 3) lv rest S1) (hsc : Csk M M' := by first | exact ⟨Or.inl rfl, rfl, rfl⟩ | exact ⟨Or.inr rfl, rfl, rfl⟩) : X fr lo M Q pc lv st S :=
  x_callF hM hm hc hd hl hn hst hr hfr hlo (fun v S' hq => by obtain ⟨rfl, hp⟩ := hq; exact kk _ hp) hsc
theorem y_getI {idx ci j k : Nat} {fs : List FdX} {v : Int32} (hf : FL M.1 idx ci j) (hd : decode M.2.1 pc = .ok (.getfield idx, 3)) (hl : LAY[k]? = some (.inl (ci, fs))) (hj : fs[j]? = some (.inr false)) (hv : S.1 k j = v) (kk : X fr lo M Q (pc + 3) lv (.int v :: st) S) : X fr lo M Q pc lv (.ref k :: st) S := x_getI hf hd hl hj (by rw [hv]; exact kk)
theorem y_getL {idx ci j k : Nat} {fs : List FdX} {v : Int64} (hf : FL M.1 idx ci j) (hd : decode M.2.1 pc = .ok (.getfield idx, 3)) (hl : LAY[k]? = some (.inl (ci, fs))) (hj : fs[j]? = some (.inr true)) (hv : S.2 k j = v) (kk : X fr lo M Q (pc + 3) lv (.long v :: st) S) : X fr lo M Q pc lv (.ref k :: st) S := x_getL hf hd hl hj (by rw [hv]; exact kk)
theorem y_iald {k n i : Nat} {v : Int32} (hd : decode M.2.1 pc = .ok (.iaload, 1)) (hl : LAY[k]? = some (.inr (0, n))) (hi : i < n) (hn : n < 2147483648) (hv : S.1 k i = v) (kk : X fr lo M Q (pc + 1) lv (.int v :: st) S) : X fr lo M Q pc lv (.int (nI i) :: .ref k :: st) S := x_iald hd hl (by rw [tiN (Nat.lt_trans hi hn)]; omega) (by rw [tcN (Nat.lt_trans hi hn), hv]; exact kk)
theorem y_iast {k n i : Nat} {v : Int32} (hd : decode M.2.1 pc = .ok (.iastore, 1)) (hl : LAY[k]? = some (.inr (0, n))) (hi : i < n) (hn : n < 2147483648) (kk : X fr lo M Q (pc + 1) lv st (setI S k i v)) : X fr lo M Q pc lv (.int v :: .int (nI i) :: .ref k :: st) S := x_iast hd hl (by rw [tiN (Nat.lt_trans hi hn)]; omega) (by rw [tcN (Nat.lt_trans hi hn)]; exact kk)
theorem y_ti {i : Nat} (hd : decode M.2.1 pc = .ok (.iaload, 1)) (hi : i < 5) (kk : X fr lo M Q (pc + 1) lv (.int (sev i) :: st) S) : X fr lo M Q pc lv (.int (nI i) :: .ref 200 :: st) S := x_ti hd (by rw [tiN (by omega)]; omega) (by rw [tcN (by omega)]; exact kk)
theorem y_iadd {a b : Nat} (hd : decode M.2.1 pc = .ok (.iadd, 1)) (kk : X fr lo M Q (pc + 1) lv (.int (nI (a + b)) :: st) S) : X fr lo M Q pc lv (.int (nI b) :: .int (nI a) :: st) S := x_iadd hd (by rw [nI_add]; exact kk)
theorem y_imul {a b : Nat} (hd : decode M.2.1 pc = .ok (.imul, 1)) (kk : X fr lo M Q (pc + 1) lv (.int (nI (a * b)) :: st) S) : X fr lo M Q pc lv (.int (nI b) :: .int (nI a) :: st) S := x_imul hd (by rw [pk_mul]; exact kk)
theorem y_isub {a b : Nat} (hd : decode M.2.1 pc = .ok (.isub, 1)) (h : b ≤ a) (kk : X fr lo M Q (pc + 1) lv (.int (nI (a - b)) :: st) S) : X fr lo M Q pc lv (.int (nI b) :: .int (nI a) :: st) S := x_isub hd (by rw [nI_subN h]; exact kk)
theorem y_idiv {a b : Nat} (hd : decode M.2.1 pc = .ok (.idiv, 1)) (ha : a < 2147483648) (hb : b < 2147483648) (h : 0 < b) (kk : X fr lo M Q (pc + 1) lv (.int (nI (a / b)) :: st) S) : X fr lo M Q pc lv (.int (nI b) :: .int (nI a) :: st) S := x_idiv hd (nI_nz hb h) (by rw [nI_div ha hb]; exact kk)
theorem y_irem {a b : Nat} (hd : decode M.2.1 pc = .ok (.irem, 1)) (ha : a < 2147483648) (hb : b < 2147483648) (h : 0 < b) (kk : X fr lo M Q (pc + 1) lv (.int (nI (a % b)) :: st) S) : X fr lo M Q pc lv (.int (nI b) :: .int (nI a) :: st) S := x_irem hd (nI_nz hb h) (by rw [nI_mod ha hb]; exact kk)
theorem y_iinc {i : Nat} {z a : Nat} {lv' : List (Nat × Value)} (n : Nat) (hd : decode M.2.1 pc = .ok (.iinc i (z : Int), 3)) (h : lv[n]? = some (i, .int (nI a))) (hn : i < M.2.2.1) (h' : st1 lv i (.int (nI (a + z))) = lv') (kk : X fr lo M Q (pc + 3) lv' st S) : X fr lo M Q pc lv st S := x_iinc n hd h (by rw [oi_nat, nI_add]) hn h' kk
theorem y_idec {i : Nat} {a : Nat} {lv' : List (Nat × Value)} (n : Nat) (hd : decode M.2.1 pc = .ok (.iinc i (-1), 3)) (h : lv[n]? = some (i, .int (nI (a + 1)))) (hn : i < M.2.2.1) (h' : st1 lv i (.int (nI a)) = lv') (kk : X fr lo M Q (pc + 3) lv' st S) : X fr lo M Q pc lv st S := x_iinc n hd h (nI_dec a) hn h' kk
theorem y_ic_eq {a b : Nat} {off : Int} (tgt : Nat) (hd : decode M.2.1 pc = .ok (.if_icmp .eq off, 3)) (ht : (pc : Int) + off = (tgt : Int)) (ha : a < 2147483648) (hb : b < 2147483648) (kt : a = b → X fr lo M Q tgt lv st S) (kf : ¬ a = b → X fr lo M Q (pc + 3) lv st S) : X fr lo M Q pc lv (.int (nI b) :: .int (nI a) :: st) S := x_ic_eq tgt hd ht (fun q => kt (nI_inj ha hb q)) (fun q => kf (fun z => q (by rw [z])))
theorem y_if_eq {a : Nat} {off : Int} (tgt : Nat) (hd : decode M.2.1 pc = .ok (.ifCond .eq off, 3)) (ht : (pc : Int) + off = (tgt : Int)) (ha : a < 2147483648) (kt : a = 0 → X fr lo M Q tgt lv st S) (kf : ¬ a = 0 → X fr lo M Q (pc + 3) lv st S) : X fr lo M Q pc lv (.int (nI a) :: st) S := x_if_eq tgt hd ht (fun q => kt (nI_inj ha (by decide) q)) (fun q => kf (fun z => q (by rw [z]; rfl)))
theorem y_ic_ne {a b : Nat} {off : Int} (tgt : Nat) (hd : decode M.2.1 pc = .ok (.if_icmp .ne off, 3)) (ht : (pc : Int) + off = (tgt : Int)) (ha : a < 2147483648) (hb : b < 2147483648) (kt : ¬ a = b → X fr lo M Q tgt lv st S) (kf : a = b → X fr lo M Q (pc + 3) lv st S) : X fr lo M Q pc lv (.int (nI b) :: .int (nI a) :: st) S := x_ic_ne tgt hd ht (fun q => kt (fun z => q (by rw [z]))) (fun q => kf (nI_inj ha hb q))
theorem y_if_ne {a : Nat} {off : Int} (tgt : Nat) (hd : decode M.2.1 pc = .ok (.ifCond .ne off, 3)) (ht : (pc : Int) + off = (tgt : Int)) (ha : a < 2147483648) (kt : ¬ a = 0 → X fr lo M Q tgt lv st S) (kf : a = 0 → X fr lo M Q (pc + 3) lv st S) : X fr lo M Q pc lv (.int (nI a) :: st) S := x_if_ne tgt hd ht (fun q => kt (fun z => q (by rw [z]; rfl))) (fun q => kf (nI_inj ha (by decide) q))
theorem y_ic_lt {a b : Nat} {off : Int} (tgt : Nat) (hd : decode M.2.1 pc = .ok (.if_icmp .lt off, 3)) (ht : (pc : Int) + off = (tgt : Int)) (ha : a < 2147483648) (hb : b < 2147483648) (kt : a < b → X fr lo M Q tgt lv st S) (kf : b ≤ a → X fr lo M Q (pc + 3) lv st S) : X fr lo M Q pc lv (.int (nI b) :: .int (nI a) :: st) S := x_ic_lt tgt hd ht (fun q => kt (by rw [tiN ha, tiN hb] at q; omega)) (fun q => kf (by rw [tiN ha, tiN hb] at q; omega))
theorem y_if_lt {a : Nat} {off : Int} (tgt : Nat) (hd : decode M.2.1 pc = .ok (.ifCond .lt off, 3)) (ht : (pc : Int) + off = (tgt : Int)) (ha : a < 2147483648) (kt : a < 0 → X fr lo M Q tgt lv st S) (kf : 0 ≤ a → X fr lo M Q (pc + 3) lv st S) : X fr lo M Q pc lv (.int (nI a) :: st) S := x_if_lt tgt hd ht (fun q => kt (by rw [tiN ha] at q; omega)) (fun q => kf (by rw [tiN ha] at q; omega))
theorem z_ic_lt {x : Int32} {b : Nat} {off : Int} (tgt : Nat) (hd : decode M.2.1 pc = .ok (.if_icmp .lt off, 3)) (ht : (pc : Int) + off = (tgt : Int)) (hb : b < 2147483648) (kt : x.toInt < (b : Int) → X fr lo M Q tgt lv st S) (kf : (b : Int) ≤ x.toInt → X fr lo M Q (pc + 3) lv st S) : X fr lo M Q pc lv (.int (nI b) :: .int x :: st) S := x_ic_lt tgt hd ht (fun q => kt (by rw [tiN hb] at q; exact q)) (fun q => kf (by rw [tiN hb] at q; exact q))
theorem y_ic_ge {a b : Nat} {off : Int} (tgt : Nat) (hd : decode M.2.1 pc = .ok (.if_icmp .ge off, 3)) (ht : (pc : Int) + off = (tgt : Int)) (ha : a < 2147483648) (hb : b < 2147483648) (kt : b ≤ a → X fr lo M Q tgt lv st S) (kf : a < b → X fr lo M Q (pc + 3) lv st S) : X fr lo M Q pc lv (.int (nI b) :: .int (nI a) :: st) S := x_ic_ge tgt hd ht (fun q => kt (by rw [tiN ha, tiN hb] at q; omega)) (fun q => kf (by rw [tiN ha, tiN hb] at q; omega))
theorem y_if_ge {a : Nat} {off : Int} (tgt : Nat) (hd : decode M.2.1 pc = .ok (.ifCond .ge off, 3)) (ht : (pc : Int) + off = (tgt : Int)) (ha : a < 2147483648) (kt : 0 ≤ a → X fr lo M Q tgt lv st S) (kf : a < 0 → X fr lo M Q (pc + 3) lv st S) : X fr lo M Q pc lv (.int (nI a) :: st) S := x_if_ge tgt hd ht (fun q => kt (by rw [tiN ha] at q; omega)) (fun q => kf (by rw [tiN ha] at q; omega))
theorem z_ic_ge {x : Int32} {b : Nat} {off : Int} (tgt : Nat) (hd : decode M.2.1 pc = .ok (.if_icmp .ge off, 3)) (ht : (pc : Int) + off = (tgt : Int)) (hb : b < 2147483648) (kt : (b : Int) ≤ x.toInt → X fr lo M Q tgt lv st S) (kf : x.toInt < (b : Int) → X fr lo M Q (pc + 3) lv st S) : X fr lo M Q pc lv (.int (nI b) :: .int x :: st) S := x_ic_ge tgt hd ht (fun q => kt (by rw [tiN hb] at q; exact q)) (fun q => kf (by rw [tiN hb] at q; exact q))
theorem y_ic_gt {a b : Nat} {off : Int} (tgt : Nat) (hd : decode M.2.1 pc = .ok (.if_icmp .gt off, 3)) (ht : (pc : Int) + off = (tgt : Int)) (ha : a < 2147483648) (hb : b < 2147483648) (kt : b < a → X fr lo M Q tgt lv st S) (kf : a ≤ b → X fr lo M Q (pc + 3) lv st S) : X fr lo M Q pc lv (.int (nI b) :: .int (nI a) :: st) S := x_ic_gt tgt hd ht (fun q => kt (by rw [tiN ha, tiN hb] at q; omega)) (fun q => kf (by rw [tiN ha, tiN hb] at q; omega))
theorem y_if_gt {a : Nat} {off : Int} (tgt : Nat) (hd : decode M.2.1 pc = .ok (.ifCond .gt off, 3)) (ht : (pc : Int) + off = (tgt : Int)) (ha : a < 2147483648) (kt : 0 < a → X fr lo M Q tgt lv st S) (kf : a ≤ 0 → X fr lo M Q (pc + 3) lv st S) : X fr lo M Q pc lv (.int (nI a) :: st) S := x_if_gt tgt hd ht (fun q => kt (by rw [tiN ha] at q; omega)) (fun q => kf (by rw [tiN ha] at q; omega))
theorem z_ic_gt {x : Int32} {b : Nat} {off : Int} (tgt : Nat) (hd : decode M.2.1 pc = .ok (.if_icmp .gt off, 3)) (ht : (pc : Int) + off = (tgt : Int)) (hb : b < 2147483648) (kt : (b : Int) < x.toInt → X fr lo M Q tgt lv st S) (kf : x.toInt ≤ (b : Int) → X fr lo M Q (pc + 3) lv st S) : X fr lo M Q pc lv (.int (nI b) :: .int x :: st) S := x_ic_gt tgt hd ht (fun q => kt (by rw [tiN hb] at q; exact q)) (fun q => kf (by rw [tiN hb] at q; exact q))
theorem y_ic_le {a b : Nat} {off : Int} (tgt : Nat) (hd : decode M.2.1 pc = .ok (.if_icmp .le off, 3)) (ht : (pc : Int) + off = (tgt : Int)) (ha : a < 2147483648) (hb : b < 2147483648) (kt : a ≤ b → X fr lo M Q tgt lv st S) (kf : b < a → X fr lo M Q (pc + 3) lv st S) : X fr lo M Q pc lv (.int (nI b) :: .int (nI a) :: st) S := x_ic_le tgt hd ht (fun q => kt (by rw [tiN ha, tiN hb] at q; omega)) (fun q => kf (by rw [tiN ha, tiN hb] at q; omega))
theorem y_if_le {a : Nat} {off : Int} (tgt : Nat) (hd : decode M.2.1 pc = .ok (.ifCond .le off, 3)) (ht : (pc : Int) + off = (tgt : Int)) (ha : a < 2147483648) (kt : a ≤ 0 → X fr lo M Q tgt lv st S) (kf : 0 < a → X fr lo M Q (pc + 3) lv st S) : X fr lo M Q pc lv (.int (nI a) :: st) S := x_if_le tgt hd ht (fun q => kt (by rw [tiN ha] at q; omega)) (fun q => kf (by rw [tiN ha] at q; omega))
theorem z_ic_le {x : Int32} {b : Nat} {off : Int} (tgt : Nat) (hd : decode M.2.1 pc = .ok (.if_icmp .le off, 3)) (ht : (pc : Int) + off = (tgt : Int)) (hb : b < 2147483648) (kt : x.toInt ≤ (b : Int) → X fr lo M Q tgt lv st S) (kf : (b : Int) < x.toInt → X fr lo M Q (pc + 3) lv st S) : X fr lo M Q pc lv (.int (nI b) :: .int x :: st) S := x_ic_le tgt hd ht (fun q => kt (by rw [tiN hb] at q; exact q)) (fun q => kf (by rw [tiN hb] at q; exact q))
theorem t_if_eq {x : Int32} {off : Int} (tgt : Nat) (hd : decode M.2.1 pc = .ok (.ifCond .eq off, 3)) (ht : (pc : Int) + off = (tgt : Int)) (h : x = 0) (kk : X fr lo M Q tgt lv st S) : X fr lo M Q pc lv (.int x :: st) S := x_if_eq tgt hd ht (fun _ => kk) (fun q => absurd h q)
theorem u_if_eq {x : Int32} {off : Int} (tgt : Nat) (hd : decode M.2.1 pc = .ok (.ifCond .eq off, 3)) (ht : (pc : Int) + off = (tgt : Int)) (h : ¬ x = 0) (kk : X fr lo M Q (pc + 3) lv st S) : X fr lo M Q pc lv (.int x :: st) S := x_if_eq tgt hd ht (fun q => absurd q h) (fun _ => kk)
theorem t_if_ne {x : Int32} {off : Int} (tgt : Nat) (hd : decode M.2.1 pc = .ok (.ifCond .ne off, 3)) (ht : (pc : Int) + off = (tgt : Int)) (h : ¬ x = 0) (kk : X fr lo M Q tgt lv st S) : X fr lo M Q pc lv (.int x :: st) S := x_if_ne tgt hd ht (fun _ => kk) (fun q => absurd q h)
theorem u_if_ne {x : Int32} {off : Int} (tgt : Nat) (hd : decode M.2.1 pc = .ok (.ifCond .ne off, 3)) (ht : (pc : Int) + off = (tgt : Int)) (h : x = 0) (kk : X fr lo M Q (pc + 3) lv st S) : X fr lo M Q pc lv (.int x :: st) S := x_if_ne tgt hd ht (fun q => absurd h q) (fun _ => kk)
theorem x_perm {lv' : List (Nat × Value)} (h : ∀ q ∈ lv', q ∈ lv) (kk : X fr lo M Q pc lv' st S) : X fr lo M Q pc lv st S := by
  intro p l e R s m args below meth c H locs cells slots Γ A ls hC hW hL
  refine kk p l e R s m args below meth c H locs cells slots Γ A ls hC hW ⟨hL.1, hL.2.1, fun q hq => ?_⟩
  obtain ⟨q0, h0, rfl⟩ := List.mem_map.mp hq
  exact hL.2.2 _ (List.mem_map.mpr ⟨q0, h q0 h0, rfl⟩)
theorem x_pick {lv' : List (Nat × Value)} (ks : List Nat) (h : ks.filterMap (fun k => lv[k]?) = lv') (kk : X fr lo M Q pc lv' st S) : X fr lo M Q pc lv st S := by
  intro p l e R s m args below meth c H locs cells slots Γ A ls hC hW hL
  refine kk p l e R s m args below meth c H locs cells slots Γ A ls hC hW ⟨hL.1, hL.2.1, fun q hq => ?_⟩
  obtain ⟨q0, h0, rfl⟩ := List.mem_map.mp hq
  rw [← h] at h0
  obtain ⟨i, -, hi⟩ := List.mem_filterMap.mp h0
  exact hL.2.2 _ (List.mem_map.mpr ⟨q0, List.mem_of_getElem? hi, rfl⟩)
end XN
theorem l0 : LAY[0]? = some (.inl (10, [.inl 1, .inl 3, .inl 6, .inl 9, .inl 11, .inl 35, .inl 40, .inl 60, .inl 63, .inl 66, .inl 67, .inl 74, .inl 78, .inl 82])) := rfl
theorem l1 : LAY[1]? = some (.inl (9, [.inr false, .inr true, .inr true, .inr false, .inl 2])) := rfl
theorem l2 : LAY[2]? = some (.inr (0, 6)) := rfl
theorem l3 : LAY[3]? = some (.inl (5, [.inr false, .inl 4, .inl 5])) := rfl
theorem l4 : LAY[4]? = some (.inr (0, 6)) := rfl
theorem l5 : LAY[5]? = some (.inr (0, 360)) := rfl
theorem l6 : LAY[6]? = some (.inl (5, [.inr false, .inl 7, .inl 8])) := rfl
theorem l7 : LAY[7]? = some (.inr (0, 4)) := rfl
theorem l8 : LAY[8]? = some (.inr (0, 400)) := rfl
theorem l9 : LAY[9]? = some (.inl (4, [.inl 6, .inl 23, .inl 10, .inr false, .inr false])) := rfl
theorem l10 : LAY[10]? = some (.inr (0, 4)) := rfl
theorem l11 : LAY[11]? = some (.inl (1, [.inr false, .inr false, .inr false, .inr false, .inl 12, .inl 13, .inl 14, .inl 15, .inl 16, .inl 17, .inl 18, .inl 19, .inl 20, .inl 21, .inl 22])) := rfl
theorem l12 : LAY[12]? = some (.inr (0, 5)) := rfl
theorem l13 : LAY[13]? = some (.inr (0, 5)) := rfl
theorem l14 : LAY[14]? = some (.inr (0, 5)) := rfl
theorem l15 : LAY[15]? = some (.inr (0, 5)) := rfl
theorem l16 : LAY[16]? = some (.inr (0, 2)) := rfl
theorem l17 : LAY[17]? = some (.inr (0, 8)) := rfl
theorem l18 : LAY[18]? = some (.inr (0, 8)) := rfl
theorem l19 : LAY[19]? = some (.inr (0, 8)) := rfl
theorem l20 : LAY[20]? = some (.inr (0, 8)) := rfl
theorem l21 : LAY[21]? = some (.inr (0, 6)) := rfl
theorem l22 : LAY[22]? = some (.inr (0, 256)) := rfl
theorem l23 : LAY[23]? = some (.inl (1, [.inr false, .inr false, .inr false, .inr false, .inl 24, .inl 25, .inl 26, .inl 27, .inl 28, .inl 29, .inl 30, .inl 31, .inl 32, .inl 33, .inl 34])) := rfl
theorem l24 : LAY[24]? = some (.inr (0, 5)) := rfl
theorem l25 : LAY[25]? = some (.inr (0, 5)) := rfl
theorem l26 : LAY[26]? = some (.inr (0, 5)) := rfl
theorem l27 : LAY[27]? = some (.inr (0, 5)) := rfl
theorem l28 : LAY[28]? = some (.inr (0, 2)) := rfl
theorem l29 : LAY[29]? = some (.inr (0, 8)) := rfl
theorem l30 : LAY[30]? = some (.inr (0, 8)) := rfl
theorem l31 : LAY[31]? = some (.inr (0, 8)) := rfl
theorem l32 : LAY[32]? = some (.inr (0, 8)) := rfl
theorem l33 : LAY[33]? = some (.inr (0, 6)) := rfl
theorem l34 : LAY[34]? = some (.inr (0, 256)) := rfl
theorem l35 : LAY[35]? = some (.inl (3, [.inl 11, .inl 36, .inl 37, .inl 38, .inl 39, .inr false])) := rfl
theorem l36 : LAY[36]? = some (.inr (0, 5)) := rfl
theorem l37 : LAY[37]? = some (.inr (0, 5)) := rfl
theorem l38 : LAY[38]? = some (.inr (0, 5)) := rfl
theorem l39 : LAY[39]? = some (.inr (0, 2)) := rfl
theorem l40 : LAY[40]? = some (.inl (3, [.inl 11, .inl 41, .inl 42, .inl 43, .inl 44, .inr false])) := rfl
theorem l41 : LAY[41]? = some (.inr (0, 5)) := rfl
theorem l42 : LAY[42]? = some (.inr (0, 5)) := rfl
theorem l43 : LAY[43]? = some (.inr (0, 5)) := rfl
theorem l44 : LAY[44]? = some (.inr (0, 2)) := rfl
theorem l45 : LAY[45]? = some (.inl (3, [.inl 11, .inl 46, .inl 47, .inl 48, .inl 49, .inr false])) := rfl
theorem l46 : LAY[46]? = some (.inr (0, 5)) := rfl
theorem l47 : LAY[47]? = some (.inr (0, 5)) := rfl
theorem l48 : LAY[48]? = some (.inr (0, 5)) := rfl
theorem l49 : LAY[49]? = some (.inr (0, 2)) := rfl
theorem l50 : LAY[50]? = some (.inl (3, [.inl 11, .inl 51, .inl 52, .inl 53, .inl 54, .inr false])) := rfl
theorem l51 : LAY[51]? = some (.inr (0, 5)) := rfl
theorem l52 : LAY[52]? = some (.inr (0, 5)) := rfl
theorem l53 : LAY[53]? = some (.inr (0, 5)) := rfl
theorem l54 : LAY[54]? = some (.inr (0, 2)) := rfl
theorem l55 : LAY[55]? = some (.inl (3, [.inl 11, .inl 56, .inl 57, .inl 58, .inl 59, .inr false])) := rfl
theorem l56 : LAY[56]? = some (.inr (0, 5)) := rfl
theorem l57 : LAY[57]? = some (.inr (0, 5)) := rfl
theorem l58 : LAY[58]? = some (.inr (0, 5)) := rfl
theorem l59 : LAY[59]? = some (.inr (0, 2)) := rfl
theorem l60 : LAY[60]? = some (.inl (2, [.inr false, .inl 61, .inl 62])) := rfl
theorem l61 : LAY[61]? = some (.inr (0, 40)) := rfl
theorem l62 : LAY[62]? = some (.inr (0, 40)) := rfl
theorem l63 : LAY[63]? = some (.inl (2, [.inr false, .inl 64, .inl 65])) := rfl
theorem l64 : LAY[64]? = some (.inr (0, 8)) := rfl
theorem l65 : LAY[65]? = some (.inr (0, 8)) := rfl
theorem l66 : LAY[66]? = some (.inr (0, 3)) := rfl
theorem l67 : LAY[67]? = some (.inr (0, 3)) := rfl
theorem l68 : LAY[68]? = some (.inl (7, [.inr false, .inl 69, .inl 70, .inl 71, .inl 72, .inl 73])) := rfl
theorem l69 : LAY[69]? = some (.inr (0, 8525)) := rfl
theorem l70 : LAY[70]? = some (.inr (0, 8525)) := rfl
theorem l71 : LAY[71]? = some (.inr (0, 8525)) := rfl
theorem l72 : LAY[72]? = some (.inr (0, 8525)) := rfl
theorem l73 : LAY[73]? = some (.inr (0, 16807)) := rfl
theorem l74 : LAY[74]? = some (.inl (6, [.inl 11, .inl 68, .inl 45, .inl 75, .inl 76, .inl 77, .inr false, .inr false, .inr false, .inr false])) := rfl
theorem l75 : LAY[75]? = some (.inr (0, 5)) := rfl
theorem l76 : LAY[76]? = some (.inr (0, 80000)) := rfl
theorem l77 : LAY[77]? = some (.inr (0, 8525)) := rfl
theorem l78 : LAY[78]? = some (.inl (0, [.inl 11, .inl 74, .inl 50, .inl 79, .inl 80, .inl 81])) := rfl
theorem l79 : LAY[79]? = some (.inr (0, 8525)) := rfl
theorem l80 : LAY[80]? = some (.inr (0, 8525)) := rfl
theorem l81 : LAY[81]? = some (.inr (0, 8525)) := rfl
theorem l82 : LAY[82]? = some (.inl (8, [.inl 11, .inl 68, .inl 74, .inl 55])) := rfl
theorem l83 : LAY[83]? = some (.inr (0, 64)) := rfl
