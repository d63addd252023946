/-! ===== Island ===== -/
def isIsl (k : Nat) : Prop := k = 11 ∨ k = 23
theorem isIsl.l0 {k : Nat} (h : isIsl k) : LAY[k]? = some (.inl (1, [.inr false, .inr false, .inr false, .inr false, .inl (k + 1), .inl (k + 2), .inl (k + 3), .inl (k + 4), .inl (k + 5), .inl (k + 6), .inl (k + 7), .inl (k + 8), .inl (k + 9), .inl (k + 10), .inl (k + 11)])) := by rcases h with rfl | rfl <;> rfl
theorem isIsl.l1 {k : Nat} (h : isIsl k) : LAY[k + 1]? = some (.inr (0, 5)) := by rcases h with rfl | rfl <;> rfl
theorem isIsl.l2 {k : Nat} (h : isIsl k) : LAY[k + 2]? = some (.inr (0, 5)) := by rcases h with rfl | rfl <;> rfl
theorem isIsl.l3 {k : Nat} (h : isIsl k) : LAY[k + 3]? = some (.inr (0, 5)) := by rcases h with rfl | rfl <;> rfl
theorem isIsl.l4 {k : Nat} (h : isIsl k) : LAY[k + 4]? = some (.inr (0, 5)) := by rcases h with rfl | rfl <;> rfl
theorem isIsl.l5 {k : Nat} (h : isIsl k) : LAY[k + 5]? = some (.inr (0, 2)) := by rcases h with rfl | rfl <;> rfl
theorem isIsl.l6 {k : Nat} (h : isIsl k) : LAY[k + 6]? = some (.inr (0, 8)) := by rcases h with rfl | rfl <;> rfl
theorem isIsl.l7 {k : Nat} (h : isIsl k) : LAY[k + 7]? = some (.inr (0, 8)) := by rcases h with rfl | rfl <;> rfl
theorem isIsl.l8 {k : Nat} (h : isIsl k) : LAY[k + 8]? = some (.inr (0, 8)) := by rcases h with rfl | rfl <;> rfl
theorem isIsl.l9 {k : Nat} (h : isIsl k) : LAY[k + 9]? = some (.inr (0, 8)) := by rcases h with rfl | rfl <;> rfl
theorem isIsl.l10 {k : Nat} (h : isIsl k) : LAY[k + 10]? = some (.inr (0, 6)) := by rcases h with rfl | rfl <;> rfl
theorem isIsl.l11 {k : Nat} (h : isIsl k) : LAY[k + 11]? = some (.inr (0, 256)) := by rcases h with rfl | rfl <;> rfl
def IsX (k : Nat) (I : Isl) (S : St) : Prop := S.1 k 0 = nI (iP I) ∧ S.1 k 1 = nI (iM I) ∧ S.1 k 2 = nI (iW I) ∧ S.1 k 3 = nI (iB I) ∧
  (∀ t, t < iM I → S.1 (k + 1) t = nI (iK I t) ∧ S.1 (k + 2) t = nI (iS I t) ∧ S.1 (k + 3) t = nI (wt (iK I t)) ∧ S.1 (k + 4) t = nI (rm (iK I t))) ∧
  (∀ b, b < iB I → S.1 (k + 5) b = nI (iG I b)) ∧
  (∀ w, w < iW I → S.1 (k + 6) w = nI (iV I w 0) ∧ S.1 (k + 7) w = nI (iV I w 1) ∧ S.1 (k + 8) w = nI (iV I w 2) ∧ S.1 (k + 9) w = nI (iV I w 3))
def plcI (I : Isl) (x : Int32) : Prop := (0 ≤ x.toInt ∧ x.toInt < (iP I : Int)) ∨ (4 ≤ x.toInt ∧ x.toInt < 5 + (iB I : Int))
theorem plcI_n {I : Isl} {n : Nat} (hn : n < 2147483648) : plcI I (nI n) ↔ plcF I n := by
  unfold plcI plcF
  rw [tiN hn]
  omega
def oo (f : Nat → Nat) : Nat → Nat
  | 0 => 0
  | n + 1 => oo f n ||| f n
theorem oo_s (f : Nat → Nat) (n : Nat) : oo f (n + 1) = oo f n ||| f n := rfl
def mx (f : Nat → Nat) : Nat → Nat
  | 0 => 0
  | n + 1 => max (mx f n) (f n)
theorem mx_s (f : Nat → Nat) (n : Nat) : mx f (n + 1) = max (mx f n) (f n) := rfl
/-- one more than the last hour that has a work; 0 when none -/
def lhF (I : Isl) : Nat := mx (fun w => iV I w 0 + 1) (iW I)
/-- the things that some work of one wants -/
def wntF (I : Isl) (p : Nat) : Nat := oo (fun w => if iV I w 1 = p then iV I w 2 else 0) (iW I)
theorem oo_lt {f : Nat → Nat} {e : Nat} : ∀ {n : Nat}, (∀ i, i < n → f i < 2 ^ e) → oo f n < 2 ^ e
  | 0, _ => Nat.two_pow_pos e
  | n + 1, h => Nat.or_lt_two_pow (oo_lt (fun i hi => h i (Nat.lt_succ_of_lt hi))) (h n (Nat.lt_succ_self n))
theorem mx_le {f : Nat → Nat} {b : Nat} : ∀ {n : Nat}, (∀ i, i < n → f i ≤ b) → mx f n ≤ b
  | 0, _ => Nat.zero_le _
  | n + 1, h => Nat.max_le.mpr ⟨mx_le (fun i hi => h i (Nat.lt_succ_of_lt hi)), h n (Nat.lt_succ_self n)⟩

set_option maxHeartbeats 4000000 in
set_option maxRecDepth 100000 in
theorem c_X1_isPerson {S : St} {k : Nat} {I : Isl} (hk : isIsl k) (hI : IsX k I S) (hO : IOK I) {x : Int32} : C 0 0 yX1_isPerson mX1_isPerson [.ref k, .int x] S (pb (0 ≤ x.toInt ∧ x.toInt < (iP I : Int)) S) := by
  have hO1 := hO.1
  have hO2 := hO.2.1
  have hO3 := hO.2.2.1
  have hO4 := hO.2.2.2.1
  refine C.ofX (by decide) rfl (Nat.le_of_ble_eq_true rfl) ?_
  show X 0 0 mX1_isPerson (pb (0 ≤ x.toInt ∧ x.toInt < (iP I : Int)) S) 0 [(0, .ref k), (1, .int x)] [] S
  refine x_iload_n 1 dX1_isPerson_0 rfl rfl ?_
  refine x_if_lt 16 dX1_isPerson_1 (by decide) (fun c_1 => ?_) (fun c_1 => ?_)
  · refine x_iconst (v := nI 0) dX1_isPerson_16 (by decide) ?_
    refine x_zret rfl dX1_isPerson_17 (by decide) ⟨Or.inr ⟨rfl, by omega⟩, rfl⟩
  · refine x_iload_n 1 dX1_isPerson_4 rfl rfl ?_
    refine x_aload_n 0 dX1_isPerson_5 rfl rfl ?_
    refine y_getI fX1_45 dX1_isPerson_6 hk.l0 rfl hI.1 ?_
    refine z_ic_ge 16 dX1_isPerson_9 (by decide) (by omega) (fun c_9 => ?_) (fun c_9 => ?_)
    · refine x_iconst (v := nI 0) dX1_isPerson_16 (by decide) ?_
      refine x_zret rfl dX1_isPerson_17 (by decide) ⟨Or.inr ⟨rfl, by omega⟩, rfl⟩
    · refine x_iconst (v := nI 1) dX1_isPerson_12 (by decide) ?_
      refine x_goto 17 dX1_isPerson_13 (by decide) ?_
      refine x_zret rfl dX1_isPerson_17 (by decide) ⟨Or.inl ⟨rfl, by omega⟩, rfl⟩

set_option maxHeartbeats 4000000 in
set_option maxRecDepth 100000 in
theorem c_X1_isThing {S : St} {k : Nat} {I : Isl} (hk : isIsl k) (hI : IsX k I S) (hO : IOK I) {x : Int32} : C 0 0 yX1_isThing mX1_isThing [.ref k, .int x] S (pb (0 ≤ x.toInt ∧ x.toInt < (iM I : Int)) S) := by
  have hO1 := hO.1
  have hO2 := hO.2.1
  have hO3 := hO.2.2.1
  have hO4 := hO.2.2.2.1
  refine C.ofX (by decide) rfl (Nat.le_of_ble_eq_true rfl) ?_
  show X 0 0 mX1_isThing (pb (0 ≤ x.toInt ∧ x.toInt < (iM I : Int)) S) 0 [(0, .ref k), (1, .int x)] [] S
  refine x_iload_n 1 dX1_isThing_0 rfl rfl ?_
  refine x_if_lt 16 dX1_isThing_1 (by decide) (fun c_1 => ?_) (fun c_1 => ?_)
  · refine x_iconst (v := nI 0) dX1_isThing_16 (by decide) ?_
    refine x_zret rfl dX1_isThing_17 (by decide) ⟨Or.inr ⟨rfl, by omega⟩, rfl⟩
  · refine x_iload_n 1 dX1_isThing_4 rfl rfl ?_
    refine x_aload_n 0 dX1_isThing_5 rfl rfl ?_
    refine y_getI fX1_49 dX1_isThing_6 hk.l0 rfl hI.2.1 ?_
    refine z_ic_ge 16 dX1_isThing_9 (by decide) (by omega) (fun c_9 => ?_) (fun c_9 => ?_)
    · refine x_iconst (v := nI 0) dX1_isThing_16 (by decide) ?_
      refine x_zret rfl dX1_isThing_17 (by decide) ⟨Or.inr ⟨rfl, by omega⟩, rfl⟩
    · refine x_iconst (v := nI 1) dX1_isThing_12 (by decide) ?_
      refine x_goto 17 dX1_isThing_13 (by decide) ?_
      refine x_zret rfl dX1_isThing_17 (by decide) ⟨Or.inl ⟨rfl, by omega⟩, rfl⟩

set_option maxHeartbeats 4000000 in
set_option maxRecDepth 100000 in
theorem c_X1_isWork {S : St} {k : Nat} {I : Isl} (hk : isIsl k) (hI : IsX k I S) (hO : IOK I) {x : Int32} : C 0 0 yX1_isWork mX1_isWork [.ref k, .int x] S (pb (0 ≤ x.toInt ∧ x.toInt < (iW I : Int)) S) := by
  have hO1 := hO.1
  have hO2 := hO.2.1
  have hO3 := hO.2.2.1
  have hO4 := hO.2.2.2.1
  refine C.ofX (by decide) rfl (Nat.le_of_ble_eq_true rfl) ?_
  show X 0 0 mX1_isWork (pb (0 ≤ x.toInt ∧ x.toInt < (iW I : Int)) S) 0 [(0, .ref k), (1, .int x)] [] S
  refine x_iload_n 1 dX1_isWork_0 rfl rfl ?_
  refine x_if_lt 16 dX1_isWork_1 (by decide) (fun c_1 => ?_) (fun c_1 => ?_)
  · refine x_iconst (v := nI 0) dX1_isWork_16 (by decide) ?_
    refine x_zret rfl dX1_isWork_17 (by decide) ⟨Or.inr ⟨rfl, by omega⟩, rfl⟩
  · refine x_iload_n 1 dX1_isWork_4 rfl rfl ?_
    refine x_aload_n 0 dX1_isWork_5 rfl rfl ?_
    refine y_getI fX1_52 dX1_isWork_6 hk.l0 rfl hI.2.2.1 ?_
    refine z_ic_ge 16 dX1_isWork_9 (by decide) (by omega) (fun c_9 => ?_) (fun c_9 => ?_)
    · refine x_iconst (v := nI 0) dX1_isWork_16 (by decide) ?_
      refine x_zret rfl dX1_isWork_17 (by decide) ⟨Or.inr ⟨rfl, by omega⟩, rfl⟩
    · refine x_iconst (v := nI 1) dX1_isWork_12 (by decide) ?_
      refine x_goto 17 dX1_isWork_13 (by decide) ?_
      refine x_zret rfl dX1_isWork_17 (by decide) ⟨Or.inl ⟨rfl, by omega⟩, rfl⟩

set_option maxHeartbeats 4000000 in
set_option maxRecDepth 100000 in
theorem c_X1_isPlace {S : St} {I : Isl} (hI : IsX 11 I S) (hO : IOK I) {x : Int32} : C 1 30 yX1_isPlace mX1_isPlace [.ref 11, .int x] S (pb (plcI I x) S) := by
  have hO1 := hO.1
  have hO2 := hO.2.1
  have hO3 := hO.2.2.1
  have hO4 := hO.2.2.2.1
  refine C.ofX (by decide) rfl (Nat.le_of_ble_eq_true rfl) ?_
  show X 1 30 mX1_isPlace (pb (plcI I x) S) 0 [(0, .ref 11), (1, .int x)] [] S
  refine x_aload_n 0 dX1_isPlace_0 rfl rfl ?_
  refine x_iload_n 1 dX1_isPlace_1 rfl rfl ?_
  refine x_callVb (as := [_]) (rest := []) vX1_80 (c_X1_isPerson (Or.inl rfl) hI hO) dX1_isPlace_2 l11 rfl rfl rfl (Nat.le_of_ble_eq_true rfl) (Nat.le_of_ble_eq_true rfl) (Nat.le_of_ble_eq_true rfl) (fun c_2 => ?_) (fun c_2 => ?_)
  · refine t_if_ne 23 dX1_isPlace_5 (by decide) (by decide) ?_
    refine x_iconst (v := nI 1) dX1_isPlace_23 (by decide) ?_
    refine x_goto 28 dX1_isPlace_24 (by decide) ?_
    refine x_zret rfl dX1_isPlace_28 (by decide) ⟨Or.inl ⟨rfl, by (unfold plcI; omega)⟩, rfl⟩
  · refine u_if_ne 23 dX1_isPlace_5 (by decide) (by decide) ?_
    refine x_iload_n 1 dX1_isPlace_8 rfl rfl ?_
    refine x_iconst (v := nI 4) dX1_isPlace_9 (by decide) ?_
    refine z_ic_lt 27 dX1_isPlace_10 (by decide) (by omega) (fun c_10 => ?_) (fun c_10 => ?_)
    · refine x_iconst (v := nI 0) dX1_isPlace_27 (by decide) ?_
      refine x_zret rfl dX1_isPlace_28 (by decide) ⟨Or.inr ⟨rfl, by (unfold plcI; omega)⟩, rfl⟩
    · refine x_iload_n 1 dX1_isPlace_13 rfl rfl ?_
      refine x_iconst (v := nI 5) dX1_isPlace_14 (by decide) ?_
      refine x_aload_n 0 dX1_isPlace_15 rfl rfl ?_
      refine y_getI fX1_55 dX1_isPlace_16 l11 rfl hI.2.2.2.1 ?_
      refine y_iadd dX1_isPlace_19 ?_
      refine z_ic_ge 27 dX1_isPlace_20 (by decide) (by omega) (fun c_20 => ?_) (fun c_20 => ?_)
      · refine x_iconst (v := nI 0) dX1_isPlace_27 (by decide) ?_
        refine x_zret rfl dX1_isPlace_28 (by decide) ⟨Or.inr ⟨rfl, by (unfold plcI; omega)⟩, rfl⟩
      · refine x_iconst (v := nI 1) dX1_isPlace_23 (by decide) ?_
        refine x_goto 28 dX1_isPlace_24 (by decide) ?_
        refine x_zret rfl dX1_isPlace_28 (by decide) ⟨Or.inl ⟨rfl, by (unfold plcI; omega)⟩, rfl⟩

set_option maxHeartbeats 4000000 in
set_option maxRecDepth 100000 in
theorem c_X1_isStep {S : St} {I : Isl} (hI : IsX 11 I S) (hO : IOK I) {x y : Int32} : C 2 60 yX1_isStep mX1_isStep [.ref 11, .int x, .int y] S (pb ((0 ≤ x.toInt ∧ x.toInt < (iM I : Int)) ∧ plcI I y) S) := by
  have hO1 := hO.1
  have hO2 := hO.2.1
  have hO3 := hO.2.2.1
  have hO4 := hO.2.2.2.1
  refine C.ofX (by decide) rfl (Nat.le_of_ble_eq_true rfl) ?_
  show X 2 60 mX1_isStep (pb ((0 ≤ x.toInt ∧ x.toInt < (iM I : Int)) ∧ plcI I y) S) 0 [(0, .ref 11), (1, .int x), (2, .int y)] [] S
  refine x_aload_n 0 dX1_isStep_0 rfl rfl ?_
  refine x_iload_n 1 dX1_isStep_1 rfl rfl ?_
  refine x_callVb (as := [_]) (rest := []) vX1_84 (c_X1_isThing (Or.inl rfl) hI hO) dX1_isStep_2 l11 rfl rfl rfl (Nat.le_of_ble_eq_true rfl) (Nat.le_of_ble_eq_true rfl) (Nat.le_of_ble_eq_true rfl) (fun c_2 => ?_) (fun c_2 => ?_)
  · refine u_if_eq 20 dX1_isStep_5 (by decide) (by decide) ?_
    refine x_aload_n 0 dX1_isStep_8 rfl rfl ?_
    refine x_iload_n 2 dX1_isStep_9 rfl rfl ?_
    refine x_callVb (as := [_]) (rest := []) vX1_87 (c_X1_isPlace hI hO) dX1_isStep_10 l11 rfl rfl rfl (Nat.le_of_ble_eq_true rfl) (Nat.le_of_ble_eq_true rfl) (Nat.le_of_ble_eq_true rfl) (fun c_10 => ?_) (fun c_10 => ?_)
    · refine u_if_eq 20 dX1_isStep_13 (by decide) (by decide) ?_
      refine x_iconst (v := nI 1) dX1_isStep_16 (by decide) ?_
      refine x_goto 21 dX1_isStep_17 (by decide) ?_
      refine x_zret rfl dX1_isStep_21 (by decide) ⟨Or.inl ⟨rfl, by exact ⟨by assumption, by assumption⟩⟩, rfl⟩
    · refine t_if_eq 20 dX1_isStep_13 (by decide) (by decide) ?_
      refine x_iconst (v := nI 0) dX1_isStep_20 (by decide) ?_
      refine x_zret rfl dX1_isStep_21 (by decide) ⟨Or.inr ⟨rfl, by (intro h; first | exact absurd h.1 (by assumption) | exact absurd h.2 (by assumption))⟩, rfl⟩
  · refine t_if_eq 20 dX1_isStep_5 (by decide) (by decide) ?_
    refine x_iconst (v := nI 0) dX1_isStep_20 (by decide) ?_
    refine x_zret rfl dX1_isStep_21 (by decide) ⟨Or.inr ⟨rfl, by (intro h; first | exact absurd h.1 (by assumption) | exact absurd h.2 (by assumption))⟩, rfl⟩

theorem num_iff {I : Isl} {n : Nat} (hn : n < 2147483648) : ((0 ≤ (nI (n / 7)).toInt ∧ (nI (n / 7)).toInt < (iM I : Int)) ∧ plcI I (nI (n % 7))) ↔ (0 ≤ (nI n).toInt ∧ (nI n).toInt.toNat / 7 < iM I ∧ plcF I ((nI n).toInt.toNat % 7)) := by
  rw [tiN hn, tiN (show n / 7 < 2147483648 by omega), plcI_n (by omega), Int.toNat_natCast]
  generalize plcF I (n % 7) = P
  constructor
  · intro h
    exact ⟨by omega, by omega, h.2⟩
  · intro h
    exact ⟨⟨by omega, by omega⟩, h.2.2⟩

set_option maxHeartbeats 4000000 in
set_option maxRecDepth 100000 in
theorem c_X1_isNumber {S : St} {I : Isl} (hI : IsX 11 I S) (hO : IOK I) {x : Int32} : C 3 90 yX1_isNumber mX1_isNumber [.ref 11, .int x] S (pb (0 ≤ x.toInt ∧ x.toInt.toNat / 7 < iM I ∧ plcF I (x.toInt.toNat % 7)) S) := by
  have hO1 := hO.1
  have hO2 := hO.2.1
  have hO3 := hO.2.2.1
  have hO4 := hO.2.2.2.1
  refine C.ofX (by decide) rfl (Nat.le_of_ble_eq_true rfl) ?_
  show X 3 90 mX1_isNumber (pb (0 ≤ x.toInt ∧ x.toInt.toNat / 7 < iM I ∧ plcF I (x.toInt.toNat % 7)) S) 0 [(0, .ref 11), (1, .int x)] [] S
  refine x_iload_n 1 dX1_isNumber_0 rfl rfl ?_
  refine x_if_lt 23 dX1_isNumber_1 (by decide) (fun c_1 => ?_) (fun c_1 => ?_)
  · refine x_iconst (v := nI 0) dX1_isNumber_23 (by decide) ?_
    refine x_zret rfl dX1_isNumber_24 (by decide) ⟨Or.inr ⟨rfl, by (first | omega | exact fun h => c_13 ((num_iff hn).mpr h))⟩, rfl⟩
  · obtain ⟨n, hn, rfl⟩ := nI_exP c_1
    refine x_aload_n 0 dX1_isNumber_4 rfl rfl ?_
    refine x_iload_n 1 dX1_isNumber_5 rfl rfl ?_
    refine x_bipush (v := nI 7) dX1_isNumber_6 (by decide) ?_
    refine y_idiv dX1_isNumber_8 (by omega) (by omega) (by omega) ?_
    refine x_iload_n 1 dX1_isNumber_9 rfl rfl ?_
    refine x_bipush (v := nI 7) dX1_isNumber_10 (by decide) ?_
    refine y_irem dX1_isNumber_12 (by omega) (by omega) (by omega) ?_
    refine x_callVb (as := [_, _]) (rest := []) vX1_90 (c_X1_isStep hI hO) dX1_isNumber_13 l11 rfl rfl rfl (Nat.le_of_ble_eq_true rfl) (Nat.le_of_ble_eq_true rfl) (Nat.le_of_ble_eq_true rfl) (fun c_13 => ?_) (fun c_13 => ?_)
    · refine u_if_eq 23 dX1_isNumber_16 (by decide) (by decide) ?_
      refine x_iconst (v := nI 1) dX1_isNumber_19 (by decide) ?_
      refine x_goto 24 dX1_isNumber_20 (by decide) ?_
      refine x_zret rfl dX1_isNumber_24 (by decide) ⟨Or.inl ⟨rfl, by exact (num_iff hn).mp c_13⟩, rfl⟩
    · refine t_if_eq 23 dX1_isNumber_16 (by decide) (by decide) ?_
      refine x_iconst (v := nI 0) dX1_isNumber_23 (by decide) ?_
      refine x_zret rfl dX1_isNumber_24 (by decide) ⟨Or.inr ⟨rfl, by (first | omega | exact fun h => c_13 ((num_iff hn).mpr h))⟩, rfl⟩

set_option maxHeartbeats 4000000 in
set_option maxRecDepth 100000 in
theorem c_X1_isBag {S : St} {k : Nat} {I : Isl} (hk : isIsl k) (hI : IsX k I S) (hO : IOK I) {t : Nat} (ht : t < iM I)  : C 1 30 yX1_isBag mX1_isBag [.ref k, .int (nI t)] S (pb (bagK (iK I t)) S) := by
  have hO1 := hO.1
  have hO2 := hO.2.1
  have hO3 := hO.2.2.1
  have hO4 := hO.2.2.2.1
  have hr := rm_le (iK I t)
  have et : (nI t).toInt = (t : Int) := tiN (by omega)
  refine C.ofX (by decide) rfl (Nat.le_of_ble_eq_true rfl) ?_
  show X 1 30 mX1_isBag (pb (bagK (iK I t)) S) 0 [(0, .ref k), (1, .int (nI t))] [] S
  refine x_aload_n 0 dX1_isBag_0 rfl rfl ?_
  refine x_iload_n 1 dX1_isBag_1 rfl rfl ?_
  refine x_callVb (as := [_]) (rest := []) vX1_84 (c_X1_isThing hk hI hO) dX1_isBag_2 hk.l0 rfl rfl rfl (Nat.le_of_ble_eq_true rfl) (Nat.le_of_ble_eq_true rfl) (Nat.le_of_ble_eq_true rfl) (fun c_2 => ?_) (fun c_2 => ?_)
  · refine u_if_eq 21 dX1_isBag_5 (by decide) (by decide) ?_
    refine x_aload_n 0 dX1_isBag_8 rfl rfl ?_
    refine x_getR fX1_21 dX1_isBag_9 hk.l0 rfl ?_
    refine x_iload_n 1 dX1_isBag_12 rfl rfl ?_
    refine y_iald dX1_isBag_13 hk.l4 (by omega) (by decide) (hI.2.2.2.2.1 t ht).2.2.2 ?_
    refine y_if_le 21 dX1_isBag_14 (by decide) (by omega) (fun c_14 => ?_) (fun c_14 => ?_)
    · refine x_iconst (v := nI 0) dX1_isBag_21 (by decide) ?_
      refine x_zret rfl dX1_isBag_22 (by decide) ⟨Or.inr ⟨rfl, by exact fun h => absurd ((rm_pos _).mpr h) (by omega)⟩, rfl⟩
    · refine x_iconst (v := nI 1) dX1_isBag_17 (by decide) ?_
      refine x_goto 22 dX1_isBag_18 (by decide) ?_
      refine x_zret rfl dX1_isBag_22 (by decide) ⟨Or.inl ⟨rfl, by exact (rm_pos _).mp (by omega)⟩, rfl⟩
  · refine t_if_eq 21 dX1_isBag_5 (by decide) (by decide) ?_
    refine x_iconst (v := nI 0) dX1_isBag_21 (by decide) ?_
    refine x_zret rfl dX1_isBag_22 (by decide) ⟨Or.inr ⟨rfl, by exact fun h => absurd ((rm_pos _).mpr h) (by omega)⟩, rfl⟩

set_option maxHeartbeats 4000000 in
set_option maxRecDepth 100000 in
theorem c_X1_isLiving {S : St} {I : Isl} (hI : IsX 11 I S) (hO : IOK I) {t : Nat} (ht : t < iM I)  : C 1 30 yX1_isLiving mX1_isLiving [.ref 11, .int (nI t)] S (pb (livK (iK I t)) S) := by
  have hO1 := hO.1
  have hO2 := hO.2.1
  have hO3 := hO.2.2.1
  have hO4 := hO.2.2.2.1
  have hk5 := hO.2.2.2.2.1 t ht
  have et : (nI t).toInt = (t : Int) := tiN (by omega)
  refine C.ofX (by decide) rfl (Nat.le_of_ble_eq_true rfl) ?_
  show X 1 30 mX1_isLiving (pb (livK (iK I t)) S) 0 [(0, .ref 11), (1, .int (nI t))] [] S
  refine x_aload_n 0 dX1_isLiving_0 rfl rfl ?_
  refine x_iload_n 1 dX1_isLiving_1 rfl rfl ?_
  refine x_callVb (as := [_]) (rest := []) vX1_84 (c_X1_isThing (Or.inl rfl) hI hO) dX1_isLiving_2 l11 rfl rfl rfl (Nat.le_of_ble_eq_true rfl) (Nat.le_of_ble_eq_true rfl) (Nat.le_of_ble_eq_true rfl) (fun c_2 => ?_) (fun c_2 => ?_)
  · refine u_if_eq 32 dX1_isLiving_5 (by decide) (by decide) ?_
    refine x_aload_n 0 dX1_isLiving_8 rfl rfl ?_
    refine x_getR fX1_9 dX1_isLiving_9 l11 rfl ?_
    refine x_iload_n 1 dX1_isLiving_12 rfl rfl ?_
    refine y_iald dX1_isLiving_13 l12 (by omega) (by decide) (hI.2.2.2.2.1 t ht).1 ?_
    refine x_iconst (v := nI 2) dX1_isLiving_14 (by decide) ?_
    refine y_ic_eq 28 dX1_isLiving_15 (by decide) (by omega) (by omega) (fun c_15 => ?_) (fun c_15 => ?_)
    · refine x_iconst (v := nI 1) dX1_isLiving_28 (by decide) ?_
      refine x_goto 33 dX1_isLiving_29 (by decide) ?_
      refine x_zret rfl dX1_isLiving_33 (by decide) ⟨Or.inl ⟨rfl, by (unfold livK; omega)⟩, rfl⟩
    · refine x_aload_n 0 dX1_isLiving_18 rfl rfl ?_
      refine x_getR fX1_9 dX1_isLiving_19 l11 rfl ?_
      refine x_iload_n 1 dX1_isLiving_22 rfl rfl ?_
      refine y_iald dX1_isLiving_23 l12 (by omega) (by decide) (hI.2.2.2.2.1 t ht).1 ?_
      refine x_iconst (v := nI 5) dX1_isLiving_24 (by decide) ?_
      refine y_ic_ne 32 dX1_isLiving_25 (by decide) (by omega) (by omega) (fun c_25 => ?_) (fun c_25 => ?_)
      · refine x_iconst (v := nI 0) dX1_isLiving_32 (by decide) ?_
        refine x_zret rfl dX1_isLiving_33 (by decide) ⟨Or.inr ⟨rfl, by (unfold livK; omega)⟩, rfl⟩
      · refine x_iconst (v := nI 1) dX1_isLiving_28 (by decide) ?_
        refine x_goto 33 dX1_isLiving_29 (by decide) ?_
        refine x_zret rfl dX1_isLiving_33 (by decide) ⟨Or.inl ⟨rfl, by (unfold livK; omega)⟩, rfl⟩
  · refine t_if_eq 32 dX1_isLiving_5 (by decide) (by decide) ?_
    refine x_iconst (v := nI 0) dX1_isLiving_32 (by decide) ?_
    refine x_zret rfl dX1_isLiving_33 (by decide) ⟨Or.inr ⟨rfl, by (unfold livK; omega)⟩, rfl⟩

set_option maxHeartbeats 4000000 in
set_option maxRecDepth 100000 in
theorem c_X1_weightOf {S : St} {q : Nat} (hq : q ≤ 5) : C 0 0 yX1_weightOf mX1_weightOf [.int (nI q)] S (pu (.int (nI (wt q))) S) := by
  refine C.ofX (by decide) rfl (Nat.le_of_ble_eq_true rfl) ?_
  show X 0 0 mX1_weightOf (pu (.int (nI (wt q))) S) 0 [(0, .int (nI q))] [] S
  refine x_iload_n 0 dX1_weightOf_0 rfl rfl ?_
  refine x_iconst (v := nI 3) dX1_weightOf_1 (by decide) ?_
  refine y_ic_eq 10 dX1_weightOf_2 (by decide) (by omega) (by omega) (fun c_2 => ?_) (fun c_2 => ?_)
  · refine x_iconst (v := nI 2) dX1_weightOf_10 (by decide) ?_
    refine x_goto 15 dX1_weightOf_11 (by decide) ?_
    refine x_iret rfl dX1_weightOf_15 ⟨by unfold wt; first | rw [if_pos (by omega)] | rw [if_neg (by omega)], rfl⟩
  · refine x_iload_n 0 dX1_weightOf_5 rfl rfl ?_
    refine x_iconst (v := nI 5) dX1_weightOf_6 (by decide) ?_
    refine y_ic_ne 14 dX1_weightOf_7 (by decide) (by omega) (by omega) (fun c_7 => ?_) (fun c_7 => ?_)
    · refine x_iconst (v := nI 1) dX1_weightOf_14 (by decide) ?_
      refine x_iret rfl dX1_weightOf_15 ⟨by unfold wt; first | rw [if_pos (by omega)] | rw [if_neg (by omega)], rfl⟩
    · refine x_iconst (v := nI 2) dX1_weightOf_10 (by decide) ?_
      refine x_goto 15 dX1_weightOf_11 (by decide) ?_
      refine x_iret rfl dX1_weightOf_15 ⟨by unfold wt; first | rw [if_pos (by omega)] | rw [if_neg (by omega)], rfl⟩

set_option maxHeartbeats 4000000 in
set_option maxRecDepth 100000 in
theorem c_X1_roomOf {S : St} {q : Nat} (hq : q ≤ 5) : C 0 0 yX1_roomOf mX1_roomOf [.int (nI q)] S (pu (.int (nI (rm q))) S) := by
  refine C.ofX (by decide) rfl (Nat.le_of_ble_eq_true rfl) ?_
  show X 0 0 mX1_roomOf (pu (.int (nI (rm q))) S) 0 [(0, .int (nI q))] [] S
  refine x_iload_n 0 dX1_roomOf_0 rfl rfl ?_
  refine x_iconst (v := nI 4) dX1_roomOf_1 (by decide) ?_
  refine y_ic_ne 9 dX1_roomOf_2 (by decide) (by omega) (by omega) (fun c_2 => ?_) (fun c_2 => ?_)
  · refine x_iload_n 0 dX1_roomOf_9 rfl rfl ?_
    refine x_iconst (v := nI 1) dX1_roomOf_10 (by decide) ?_
    refine y_ic_ne 18 dX1_roomOf_11 (by decide) (by omega) (by omega) (fun c_11 => ?_) (fun c_11 => ?_)
    · refine x_iconst (v := nI 0) dX1_roomOf_18 (by decide) ?_
      refine x_iret rfl dX1_roomOf_19 ⟨by unfold rm; first | rw [if_pos (by omega)] | rw [if_neg (by omega), if_pos (by omega)] | rw [if_neg (by omega), if_neg (by omega)], rfl⟩
    · refine x_iconst (v := nI 1) dX1_roomOf_14 (by decide) ?_
      refine x_goto 19 dX1_roomOf_15 (by decide) ?_
      refine x_iret rfl dX1_roomOf_19 ⟨by unfold rm; first | rw [if_pos (by omega)] | rw [if_neg (by omega), if_pos (by omega)] | rw [if_neg (by omega), if_neg (by omega)], rfl⟩
  · refine x_iconst (v := nI 2) dX1_roomOf_5 (by decide) ?_
    refine x_goto 19 dX1_roomOf_6 (by decide) ?_
    refine x_iret rfl dX1_roomOf_19 ⟨by unfold rm; first | rw [if_pos (by omega)] | rw [if_neg (by omega), if_pos (by omega)] | rw [if_neg (by omega), if_neg (by omega)], rfl⟩

set_option maxHeartbeats 4000000 in
set_option maxRecDepth 100000 in
theorem c_X1_ofWork {S : St} {I : Isl} (hI : IsX 11 I S) (hO : IOK I) {w h : Nat} (hw : w < iW I) (hh : h ≤ 3) : C 1 30 yX1_ofWork mX1_ofWork [.ref 11, .int (nI w), .int (nI h)] S (pu (.int (nI (iV I w h))) S) := by
  have hO1 := hO.1
  have hO2 := hO.2.1
  have hO3 := hO.2.2.1
  have hO4 := hO.2.2.2.1
  have ew : (nI w).toInt = (w : Int) := tiN (by omega)
  refine C.ofX (by decide) rfl (Nat.le_of_ble_eq_true rfl) ?_
  show X 1 30 mX1_ofWork (pu (.int (nI (iV I w h))) S) 0 [(0, .ref 11), (1, .int (nI w)), (2, .int (nI h))] [] S
  refine x_aload_n 0 dX1_ofWork_0 rfl rfl ?_
  refine x_iload_n 1 dX1_ofWork_1 rfl rfl ?_
  refine x_callVb (as := [_]) (rest := []) vX1_100 (c_X1_isWork (Or.inl rfl) hI hO) dX1_ofWork_2 l11 rfl rfl rfl (Nat.le_of_ble_eq_true rfl) (Nat.le_of_ble_eq_true rfl) (Nat.le_of_ble_eq_true rfl) (fun c_2 => ?_) (fun c_2 => ?_)
  · refine t_if_ne 10 dX1_ofWork_5 (by decide) (by decide) ?_
    refine x_iload_n 2 dX1_ofWork_10 rfl rfl ?_
    by_cases cs_11 : h = 0 ∨ h = 1 ∨ h = 2
    · rcases cs_11 with rfl | rfl | rfl
      · refine x_tin (off := 25) 36 dX1_ofWork_11 (by decide) (by decide) (by decide) (by decide) ?_
        refine x_aload_n 0 dX1_ofWork_36 rfl rfl ?_
        refine x_getR fX1_27 dX1_ofWork_37 l11 rfl ?_
        refine x_iload_n 1 dX1_ofWork_40 rfl rfl ?_
        refine y_iald dX1_ofWork_41 l17 (by omega) (by decide) (hI.2.2.2.2.2.2 w hw).1 ?_
        refine x_iret rfl dX1_ofWork_42 ⟨rfl, rfl⟩
      · refine x_tin (off := 32) 43 dX1_ofWork_11 (by decide) (by decide) (by decide) (by decide) ?_
        refine x_aload_n 0 dX1_ofWork_43 rfl rfl ?_
        refine x_getR fX1_30 dX1_ofWork_44 l11 rfl ?_
        refine x_iload_n 1 dX1_ofWork_47 rfl rfl ?_
        refine y_iald dX1_ofWork_48 l18 (by omega) (by decide) (hI.2.2.2.2.2.2 w hw).2.1 ?_
        refine x_iret rfl dX1_ofWork_49 ⟨rfl, rfl⟩
      · refine x_tin (off := 39) 50 dX1_ofWork_11 (by decide) (by decide) (by decide) (by decide) ?_
        refine x_aload_n 0 dX1_ofWork_50 rfl rfl ?_
        refine x_getR fX1_33 dX1_ofWork_51 l11 rfl ?_
        refine x_iload_n 1 dX1_ofWork_54 rfl rfl ?_
        refine y_iald dX1_ofWork_55 l19 (by omega) (by decide) (hI.2.2.2.2.2.2 w hw).2.2.1 ?_
        refine x_iret rfl dX1_ofWork_56 ⟨rfl, rfl⟩
    · refine x_tout 57 dX1_ofWork_11 (by rw [tiN (by omega)]; omega) (by decide) ?_
      refine x_aload_n 0 dX1_ofWork_57 rfl rfl ?_
      refine x_getR fX1_36 dX1_ofWork_58 l11 rfl ?_
      refine x_iload_n 1 dX1_ofWork_61 rfl rfl ?_
      refine y_iald dX1_ofWork_62 l20 (by omega) (by decide) (hI.2.2.2.2.2.2 w hw).2.2.2 ?_
      refine x_iret rfl dX1_ofWork_63 ⟨by rw [show h = 3 from by omega], rfl⟩
  · refine u_if_ne 10 dX1_ofWork_5 (by decide) (by decide) ?_
    refine x_iconst (v := nI 0) dX1_ofWork_8 (by decide) ?_
    refine x_iret rfl dX1_ofWork_9 (show False by omega).elim

set_option maxHeartbeats 4000000 in
set_option maxRecDepth 100000 in
theorem c_X1_worthOf {S : St} {x : Nat} {v : Int32} (hx : x < 256) (hv : S.1 22 x = v) : C 0 0 yX1_worthOf mX1_worthOf [.ref 11, .int (nI x)] S (pu (.int v) S) := by
  refine C.ofX (by decide) rfl (Nat.le_of_ble_eq_true rfl) ?_
  show X 0 0 mX1_worthOf (pu (.int v) S) 0 [(0, .ref 11), (1, .int (nI x))] [] S
  refine x_iload_n 1 dX1_worthOf_0 rfl rfl ?_
  refine y_if_lt 22 dX1_worthOf_1 (by decide) (by omega) (fun c_1 => ?_) (fun c_1 => ?_)
  · refine x_iconst (v := nI 0) dX1_worthOf_22 (by decide) ?_
    refine x_iret rfl dX1_worthOf_23 (show False by omega).elim
  · refine x_iload_n 1 dX1_worthOf_4 rfl rfl ?_
    refine x_aload_n 0 dX1_worthOf_5 rfl rfl ?_
    refine x_getR fX1_42 dX1_worthOf_6 l11 rfl ?_
    refine x_alen (v := nI 256) dX1_worthOf_9 l22 rfl ?_
    refine y_ic_ge 22 dX1_worthOf_10 (by decide) (by omega) (by omega) (fun c_10 => ?_) (fun c_10 => ?_)
    · refine x_iconst (v := nI 0) dX1_worthOf_22 (by decide) ?_
      refine x_iret rfl dX1_worthOf_23 (show False by omega).elim
    · refine x_aload_n 0 dX1_worthOf_13 rfl rfl ?_
      refine x_getR fX1_42 dX1_worthOf_14 l11 rfl ?_
      refine x_iload_n 1 dX1_worthOf_17 rfl rfl ?_
      refine y_iald dX1_worthOf_18 l22 (by omega) (by decide) hv ?_
      refine x_goto 23 dX1_worthOf_19 (by decide) ?_
      refine x_iret rfl dX1_worthOf_23 ⟨rfl, rfl⟩

set_option maxHeartbeats 4000000 in
set_option maxRecDepth 100000 in
theorem c_X1_worthOfAll {S : St} {I : Isl} (hI : IsX 11 I S) (hO : IOK I)  : C 1 30 yX1_worthOfAll mX1_worthOfAll [.ref 11] S (pu (.int (S.1 22 (2 ^ iW I - 1))) S) := by
  have hO1 := hO.1
  have hO2 := hO.2.1
  have hO3 := hO.2.2.1
  have hO4 := hO.2.2.2.1
  have hp : 2 ^ iW I ≤ 2 ^ 8 := Nat.pow_le_pow_right (by decide) hO3
  have hp0 := Nat.two_pow_pos (iW I)
  refine C.ofX (by decide) rfl (Nat.le_of_ble_eq_true rfl) ?_
  show X 1 30 mX1_worthOfAll (pu (.int (S.1 22 (2 ^ iW I - 1))) S) 0 [(0, .ref 11)] [] S
  refine x_aload_n 0 dX1_worthOfAll_0 rfl rfl ?_
  refine x_iconst (v := nI 1) dX1_worthOfAll_1 (by decide) ?_
  refine x_aload_n 0 dX1_worthOfAll_2 rfl rfl ?_
  refine y_getI fX1_52 dX1_worthOfAll_3 l11 rfl hI.2.2.1 ?_
  refine y_ishl dX1_worthOfAll_6 (by omega) ?_
  refine x_iconst (v := nI 1) dX1_worthOfAll_7 (by decide) ?_
  refine y_isub dX1_worthOfAll_8 (by omega) ?_
  refine x_callVu (as := [_]) (rest := []) vX1_103 (c_X1_worthOf (by omega) rfl) dX1_worthOfAll_9 l11 rfl rfl rfl (Nat.le_of_ble_eq_true rfl) (Nat.le_of_ble_eq_true rfl) (Nat.le_of_ble_eq_true rfl) ?_
  refine x_iret rfl dX1_worthOfAll_12 ⟨by rw [Nat.one_mul], rfl⟩

theorem IOK.v {I : Isl} (h : IOK I) : ∀ w, w < iW I → iV I w 0 < 6 ∧ iV I w 1 < 4 ∧ iV I w 2 < 32 ∧ iV I w 3 ≤ 9 := by
  intro w hw
  obtain ⟨h1, h2, -, -, -, -, -, -, h9⟩ := h
  obtain ⟨a, b, c, d, e, f⟩ := h9 w hw
  have : 2 ^ iM I ≤ 2 ^ 5 := Nat.pow_le_pow_right (by decide) h2
  exact ⟨a, by omega, by omega, f⟩

set_option maxHeartbeats 4000000 in
set_option maxRecDepth 100000 in
theorem lp_wantedBy {S : St} {I : Isl} (hI : IsX 11 I S) (hO : IOK I) {p : Nat} (hp : p < 4)  : ∀ (i : Nat) (S1 : St), S1 = S → i ≤ iW I → X 0 0 mX1_wantedBy (pu (.int (nI (wntF I p))) S) 4 [(3, .int (nI i)), (2, .int (nI ((oo (fun w => if iV I w 1 = p then iV I w 2 else 0) i)))), (0, .ref 11), (1, .int (nI p))] [] S1 := by
  intro i
  induction hm : iW I - i using Nat.strongRecOn generalizing i with
  | _ mm ih =>
    intro S1 hS1 hi
    replace hS1 := hS1.symm
    subst hS1
    have hO1 := hO.1
    have hO2 := hO.2.1
    have hO3 := hO.2.2.1
    have hO4 := hO.2.2.2.1
    have hV := hO.v
    have hVi := hV i
    refine x_iload_n 0 dX1_wantedBy_4 rfl rfl ?_
    refine x_aload_n 2 dX1_wantedBy_5 rfl rfl ?_
    refine y_getI fX1_52 dX1_wantedBy_6 l11 rfl hI.2.2.1 ?_
    refine y_ic_ge 37 dX1_wantedBy_9 (by decide) (by omega) (by omega) (fun c_9 => ?_) (fun c_9 => ?_)
    · refine x_iload_n 1 dX1_wantedBy_37 rfl rfl ?_
      refine x_iret rfl dX1_wantedBy_38 (by obtain rfl : i = iW I := (by omega); exact ⟨rfl, rfl⟩)
    · refine x_aload_n 2 dX1_wantedBy_12 rfl rfl ?_
      refine x_getR fX1_30 dX1_wantedBy_13 l11 rfl ?_
      refine x_iload_n 0 dX1_wantedBy_16 rfl rfl ?_
      refine y_iald dX1_wantedBy_17 l18 (by omega) (by decide) (hI.2.2.2.2.2.2 i (by omega)).2.1 ?_
      refine x_iload_n 3 dX1_wantedBy_18 rfl rfl ?_
      refine y_ic_ne 31 dX1_wantedBy_19 (by decide) (by omega) (by omega) (fun c_19 => ?_) (fun c_19 => ?_)
      · rw [show (oo (fun w => if iV I w 1 = p then iV I w 2 else 0) i) = (oo (fun w => if iV I w 1 = p then iV I w 2 else 0) (i + 1)) from by rw [oo_s]; first | rw [if_neg (by omega), Nat.or_zero] | rw [if_pos (by omega)]]
        refine y_iinc (lv' := [(3, _), (2, _), (0, _), (1, _)]) 0 dX1_wantedBy_31 rfl (by decide) rfl ?_
        refine x_goto 4 dX1_wantedBy_34 (by decide) ?_
        refine x_pick (lv' := [(3, _), (2, _), (0, _), (1, _)]) [0, 1, 2, 3] rfl ?_
        exact ih (iW I - (i + 1)) (by omega) (i + 1) rfl _ rfl (by omega)
      · refine x_iload_n 1 dX1_wantedBy_22 rfl rfl ?_
        refine x_aload_n 2 dX1_wantedBy_23 rfl rfl ?_
        refine x_getR fX1_33 dX1_wantedBy_24 l11 rfl ?_
        refine x_iload_n 0 dX1_wantedBy_27 rfl rfl ?_
        refine y_iald dX1_wantedBy_28 l19 (by omega) (by decide) (hI.2.2.2.2.2.2 i (by omega)).2.2.1 ?_
        refine y_ior dX1_wantedBy_29 ?_
        refine x_istore_n (lv' := [(2, _), (3, _), (0, _), (1, _)]) dX1_wantedBy_30 rfl (by decide) rfl ?_
        rw [show ((oo (fun w => if iV I w 1 = p then iV I w 2 else 0) i) ||| (iV I i 2)) = (oo (fun w => if iV I w 1 = p then iV I w 2 else 0) (i + 1)) from by rw [oo_s]; first | rw [if_neg (by omega), Nat.or_zero] | rw [if_pos (by omega)]]
        refine y_iinc (lv' := [(3, _), (2, _), (0, _), (1, _)]) 1 dX1_wantedBy_31 rfl (by decide) rfl ?_
        refine x_goto 4 dX1_wantedBy_34 (by decide) ?_
        refine x_pick (lv' := [(3, _), (2, _), (0, _), (1, _)]) [0, 1, 2, 3] rfl ?_
        exact ih (iW I - (i + 1)) (by omega) (i + 1) rfl _ rfl (by omega)

set_option maxHeartbeats 4000000 in
set_option maxRecDepth 100000 in
theorem c_X1_wantedBy {S : St} {I : Isl} (hI : IsX 11 I S) (hO : IOK I) {p : Nat} (hp : p < 4)  : C 0 0 yX1_wantedBy mX1_wantedBy [.ref 11, .int (nI p)] S (pu (.int (nI (wntF I p))) S) := by
  refine C.ofX (by decide) rfl (Nat.le_of_ble_eq_true rfl) ?_
  show X 0 0 mX1_wantedBy (pu (.int (nI (wntF I p))) S) 0 [(0, .ref 11), (1, .int (nI p))] [] S
  refine x_iconst (v := nI 0) dX1_wantedBy_0 (by decide) ?_
  refine x_istore_n (lv' := [(2, _), (0, _), (1, _)]) dX1_wantedBy_1 rfl (by decide) rfl ?_
  refine x_iconst (v := nI 0) dX1_wantedBy_2 (by decide) ?_
  refine x_istore_n (lv' := [(3, _), (2, _), (0, _), (1, _)]) dX1_wantedBy_3 rfl (by decide) rfl ?_
  refine x_pick (lv' := [(3, _), (2, _), (0, _), (1, _)]) [0, 1, 2, 3] rfl ?_
  exact lp_wantedBy hI hO hp 0 S rfl (Nat.zero_le _)

theorem mx_1 {a h : Nat} (ha : a ≤ 6) (hh : h ≤ 6) : (if nI a - 1 < nI h then nI h else nI a - 1) = nI (max a (h + 1)) - 1 := by
  have key : ∀ a, a < 7 → ∀ h, h < 7 → (if nI a - 1 < nI h then nI h else nI a - 1) = nI (max a (h + 1)) - 1 := by decide +kernel
  exact key a (by omega) h (by omega)

set_option maxHeartbeats 4000000 in
set_option maxRecDepth 100000 in
theorem lp_lastHour {S : St} {I : Isl} (hI : IsX 11 I S) (hO : IOK I)  : ∀ (i : Nat) (S1 : St), S1 = S → i ≤ iW I → X 1 30 mX1_lastHour (pu (.int (nI (lhF I) - 1)) S) 4 [(2, .int (nI i)), (1, .int (nI (mx (fun w => iV I w 0 + 1) i) - 1)), (0, .ref 11)] [] S1 := by
  intro i
  induction hm : iW I - i using Nat.strongRecOn generalizing i with
  | _ mm ih =>
    intro S1 hS1 hi
    replace hS1 := hS1.symm
    subst hS1
    have hO1 := hO.1
    have hO2 := hO.2.1
    have hO3 := hO.2.2.1
    have hO4 := hO.2.2.2.1
    have hV := hO.v
    have hVi := hV i
    have hm : mx (fun w => iV I w 0 + 1) i ≤ 6 := mx_le (fun w hw => by have := hV w (by omega); omega)
    refine x_iload_n 0 dX1_lastHour_4 rfl rfl ?_
    refine x_aload_n 2 dX1_lastHour_5 rfl rfl ?_
    refine y_getI fX1_52 dX1_lastHour_6 l11 rfl hI.2.2.1 ?_
    refine y_ic_ge 29 dX1_lastHour_9 (by decide) (by omega) (by omega) (fun c_9 => ?_) (fun c_9 => ?_)
    · refine x_iload_n 1 dX1_lastHour_29 rfl rfl ?_
      refine x_iret rfl dX1_lastHour_30 (by obtain rfl : i = iW I := (by omega); exact ⟨rfl, rfl⟩)
    · refine x_iload_n 1 dX1_lastHour_12 rfl rfl ?_
      refine x_aload_n 2 dX1_lastHour_13 rfl rfl ?_
      refine x_getR fX1_27 dX1_lastHour_14 l11 rfl ?_
      refine x_iload_n 0 dX1_lastHour_17 rfl rfl ?_
      refine y_iald dX1_lastHour_18 l17 (by omega) (by decide) (hI.2.2.2.2.2.2 i (by omega)).1 ?_
      refine x_max nX1_106 dX1_lastHour_19 (Nat.le_of_ble_eq_true rfl) (Nat.le_of_ble_eq_true rfl) (Nat.le_of_ble_eq_true rfl) ?_
      rw [mx_1 hm (by omega)]
      refine x_istore_n (lv' := [(1, _), (2, _), (0, _)]) dX1_lastHour_22 rfl (by decide) rfl ?_
      refine y_iinc (lv' := [(2, _), (1, _), (0, _)]) 1 dX1_lastHour_23 rfl (by decide) rfl ?_
      refine x_goto 4 dX1_lastHour_26 (by decide) ?_
      refine x_pick (lv' := [(2, _), (1, _), (0, _)]) [0, 1, 2] rfl ?_
      exact ih (iW I - (i + 1)) (by omega) (i + 1) rfl _ rfl (by omega)

set_option maxHeartbeats 4000000 in
set_option maxRecDepth 100000 in
theorem c_X1_lastHour {S : St} {I : Isl} (hI : IsX 11 I S) (hO : IOK I)  : C 1 30 yX1_lastHour mX1_lastHour [.ref 11] S (pu (.int (nI (lhF I) - 1)) S) := by
  refine C.ofX (by decide) rfl (Nat.le_of_ble_eq_true rfl) ?_
  show X 1 30 mX1_lastHour (pu (.int (nI (lhF I) - 1)) S) 0 [(0, .ref 11)] [] S
  refine x_iconst (v := -1) dX1_lastHour_0 (by decide) ?_
  refine x_istore_n (lv' := [(1, _), (0, _)]) dX1_lastHour_1 rfl (by decide) rfl ?_
  refine x_iconst (v := nI 0) dX1_lastHour_2 (by decide) ?_
  refine x_istore_n (lv' := [(2, _), (1, _), (0, _)]) dX1_lastHour_3 rfl (by decide) rfl ?_
  refine x_pick (lv' := [(2, _), (1, _), (0, _)]) [0, 1, 2] rfl ?_
  exact lp_lastHour hI hO 0 S rfl (Nat.zero_le _)

set_option maxHeartbeats 4000000 in
set_option maxRecDepth 100000 in
theorem c_X1_clear {S : St} {k : Nat} (hk : isIsl k) : C 0 0 yX1_clear mX1_clear [.ref k] S (pv (setI (setI (setI (setI S k 0 (nI 0)) k 1 (nI 0)) k 2 (nI 0)) k 3 (nI 0))) := by
  refine C.ofX (by decide) rfl (Nat.le_of_ble_eq_true rfl) ?_
  show X 0 0 mX1_clear (pv (setI (setI (setI (setI S k 0 (nI 0)) k 1 (nI 0)) k 2 (nI 0)) k 3 (nI 0))) 0 [(0, .ref k)] [] S
  refine x_aload_n 0 dX1_clear_0 rfl rfl ?_
  refine x_iconst (v := nI 0) dX1_clear_1 (by decide) ?_
  refine x_putI pX1_45 dX1_clear_2 hk.l0 rfl ?_
  refine x_aload_n 0 dX1_clear_5 rfl rfl ?_
  refine x_iconst (v := nI 0) dX1_clear_6 (by decide) ?_
  refine x_putI pX1_49 dX1_clear_7 hk.l0 rfl ?_
  refine x_aload_n 0 dX1_clear_10 rfl rfl ?_
  refine x_iconst (v := nI 0) dX1_clear_11 (by decide) ?_
  refine x_putI pX1_52 dX1_clear_12 hk.l0 rfl ?_
  refine x_aload_n 0 dX1_clear_15 rfl rfl ?_
  refine x_iconst (v := nI 0) dX1_clear_16 (by decide) ?_
  refine x_putI pX1_55 dX1_clear_17 hk.l0 rfl ?_
  refine x_vret rfl dX1_clear_20 ⟨rfl, rfl⟩

def addS (S : St) (k m b q pl : Nat) : St :=
  let S4 := setI (setI (setI (setI S (k + 1) m (nI q)) (k + 2) m (nI pl)) (k + 3) m (nI (wt q))) (k + 4) m (nI (rm q))
  if 0 < rm q then setI (setI (setI S4 k 3 (nI (b + 1))) (k + 5) b (nI m)) k 1 (nI (m + 1)) else setI S4 k 1 (nI (m + 1))

set_option maxHeartbeats 4000000 in
set_option maxRecDepth 100000 in
theorem c_X1_addThing {S : St} {k m b q pl : Nat} (hk : isIsl k) (hm : S.1 k 1 = nI m) (hb : S.1 k 3 = nI b) (hm5 : m < 5) (hb2 : b ≤ 2) (hq : q ≤ 5) (hbq : 0 < rm q → b < 2) : C 1 30 yX1_addThing mX1_addThing [.ref k, .int (nI q), .int (nI pl)] S (pv (addS S k m b q pl)) := by
  have hr2 := rm_le q
  refine C.ofX (by decide) rfl (Nat.le_of_ble_eq_true rfl) ?_
  show X 1 30 mX1_addThing (pv (addS S k m b q pl)) 0 [(0, .ref k), (1, .int (nI q)), (2, .int (nI pl))] [] S
  refine x_aload_n 0 dX1_addThing_0 rfl rfl ?_
  refine y_getI fX1_49 dX1_addThing_1 hk.l0 rfl hm ?_
  refine x_iconst (v := nI 5) dX1_addThing_4 (by decide) ?_
  refine y_ic_lt 9 dX1_addThing_5 (by decide) (by omega) (by omega) (fun c_5 => ?_) (fun c_5 => ?_)
  · refine x_aload_n 0 dX1_addThing_9 rfl rfl ?_
    refine x_getR fX1_9 dX1_addThing_10 hk.l0 rfl ?_
    refine x_aload_n 0 dX1_addThing_13 rfl rfl ?_
    refine y_getI fX1_49 dX1_addThing_14 hk.l0 rfl hm ?_
    refine x_iload_n 1 dX1_addThing_17 rfl rfl ?_
    refine y_iast dX1_addThing_18 hk.l1 (by omega) (by decide) ?_
    refine x_aload_n 0 dX1_addThing_19 rfl rfl ?_
    refine x_getR fX1_15 dX1_addThing_20 hk.l0 rfl ?_
    refine x_aload_n 0 dX1_addThing_23 rfl rfl ?_
    refine y_getI fX1_49 dX1_addThing_24 hk.l0 rfl (((rdI_k (by omega))).trans hm) ?_
    refine x_iload_n 2 dX1_addThing_27 rfl rfl ?_
    refine y_iast dX1_addThing_28 hk.l2 (by omega) (by decide) ?_
    refine x_aload_n 0 dX1_addThing_29 rfl rfl ?_
    refine x_getR fX1_18 dX1_addThing_30 hk.l0 rfl ?_
    refine x_aload_n 0 dX1_addThing_33 rfl rfl ?_
    refine y_getI fX1_49 dX1_addThing_34 hk.l0 rfl ((((rdI_k (by omega))).trans (rdI_k (by omega))).trans hm) ?_
    refine x_iload_n 1 dX1_addThing_37 rfl rfl ?_
    refine x_callSu (as := [_]) (rest := [_, _]) sX1_58 (c_X1_weightOf hq) dX1_addThing_38 rfl rfl (Nat.le_of_ble_eq_true rfl) (Nat.le_of_ble_eq_true rfl) (Nat.le_of_ble_eq_true rfl) ?_
    refine y_iast dX1_addThing_41 hk.l3 (by omega) (by decide) ?_
    refine x_aload_n 0 dX1_addThing_42 rfl rfl ?_
    refine x_getR fX1_21 dX1_addThing_43 hk.l0 rfl ?_
    refine x_aload_n 0 dX1_addThing_46 rfl rfl ?_
    refine y_getI fX1_49 dX1_addThing_47 hk.l0 rfl (((((rdI_k (by omega))).trans (rdI_k (by omega))).trans (rdI_k (by omega))).trans hm) ?_
    refine x_iload_n 1 dX1_addThing_50 rfl rfl ?_
    refine x_callSu (as := [_]) (rest := [_, _]) sX1_62 (c_X1_roomOf hq) dX1_addThing_51 rfl rfl (Nat.le_of_ble_eq_true rfl) (Nat.le_of_ble_eq_true rfl) (Nat.le_of_ble_eq_true rfl) ?_
    refine y_iast dX1_addThing_54 hk.l4 (by omega) (by decide) ?_
    refine x_aload_n 0 dX1_addThing_55 rfl rfl ?_
    refine x_getR fX1_21 dX1_addThing_56 hk.l0 rfl ?_
    refine x_aload_n 0 dX1_addThing_59 rfl rfl ?_
    refine y_getI fX1_49 dX1_addThing_60 hk.l0 rfl ((((((rdI_k (by omega))).trans (rdI_k (by omega))).trans (rdI_k (by omega))).trans (rdI_k (by omega))).trans hm) ?_
    refine y_iald dX1_addThing_63 hk.l4 (by omega) (by decide) rdI_eq ?_
    refine y_if_le 95 dX1_addThing_64 (by decide) (by omega) (fun c_64 => ?_) (fun c_64 => ?_)
    · refine x_aload_n 0 dX1_addThing_95 rfl rfl ?_
      refine x_dup dX1_addThing_96 rfl ?_
      refine y_getI fX1_49 dX1_addThing_97 hk.l0 rfl ((((((rdI_k (by omega))).trans (rdI_k (by omega))).trans (rdI_k (by omega))).trans (rdI_k (by omega))).trans hm) ?_
      refine x_iconst (v := nI 1) dX1_addThing_100 (by decide) ?_
      refine y_iadd dX1_addThing_101 ?_
      refine x_putI pX1_49 dX1_addThing_102 hk.l0 rfl ?_
      refine x_vret rfl dX1_addThing_105 ⟨rfl, by first | (exfalso; have := hbq (by assumption); omega) | (unfold addS; rw [if_pos c_64]) | (unfold addS; rw [if_neg (by omega)])⟩
    · refine x_aload_n 0 dX1_addThing_67 rfl rfl ?_
      refine y_getI fX1_55 dX1_addThing_68 hk.l0 rfl ((((((rdI_k (by omega))).trans (rdI_k (by omega))).trans (rdI_k (by omega))).trans (rdI_k (by omega))).trans hb) ?_
      refine x_iconst (v := nI 2) dX1_addThing_71 (by decide) ?_
      refine y_ic_ge 95 dX1_addThing_72 (by decide) (by have := hbq c_64; omega) (by omega) (fun c_72 => ?_) (fun c_72 => ?_)
      · refine x_aload_n 0 dX1_addThing_95 rfl rfl ?_
        refine x_dup dX1_addThing_96 rfl ?_
        refine y_getI fX1_49 dX1_addThing_97 hk.l0 rfl ((((((rdI_k (by omega))).trans (rdI_k (by omega))).trans (rdI_k (by omega))).trans (rdI_k (by omega))).trans hm) ?_
        refine x_iconst (v := nI 1) dX1_addThing_100 (by decide) ?_
        refine y_iadd dX1_addThing_101 ?_
        refine x_putI pX1_49 dX1_addThing_102 hk.l0 rfl ?_
        refine x_vret rfl dX1_addThing_105 ⟨rfl, by first | (exfalso; have := hbq (by assumption); omega) | (unfold addS; rw [if_pos c_64]) | (unfold addS; rw [if_neg (by omega)])⟩
      · refine x_aload_n 0 dX1_addThing_75 rfl rfl ?_
        refine x_getR fX1_24 dX1_addThing_76 hk.l0 rfl ?_
        refine x_aload_n 0 dX1_addThing_79 rfl rfl ?_
        refine x_dup dX1_addThing_80 rfl ?_
        refine y_getI fX1_55 dX1_addThing_81 hk.l0 rfl ((((((rdI_k (by omega))).trans (rdI_k (by omega))).trans (rdI_k (by omega))).trans (rdI_k (by omega))).trans hb) ?_
        refine x_dup_x1 dX1_addThing_84 rfl rfl ?_
        refine x_iconst (v := nI 1) dX1_addThing_85 (by decide) ?_
        refine y_iadd dX1_addThing_86 ?_
        refine x_putI pX1_55 dX1_addThing_87 hk.l0 rfl ?_
        refine x_aload_n 0 dX1_addThing_90 rfl rfl ?_
        refine y_getI fX1_49 dX1_addThing_91 hk.l0 rfl (((((((rdI_j (by decide))).trans (rdI_k (by omega))).trans (rdI_k (by omega))).trans (rdI_k (by omega))).trans (rdI_k (by omega))).trans hm) ?_
        refine y_iast dX1_addThing_94 hk.l5 (by omega) (by decide) ?_
        refine x_aload_n 0 dX1_addThing_95 rfl rfl ?_
        refine x_dup dX1_addThing_96 rfl ?_
        refine y_getI fX1_49 dX1_addThing_97 hk.l0 rfl ((((((((rdI_k (by omega))).trans (rdI_j (by decide))).trans (rdI_k (by omega))).trans (rdI_k (by omega))).trans (rdI_k (by omega))).trans (rdI_k (by omega))).trans hm) ?_
        refine x_iconst (v := nI 1) dX1_addThing_100 (by decide) ?_
        refine y_iadd dX1_addThing_101 ?_
        refine x_putI pX1_49 dX1_addThing_102 hk.l0 rfl ?_
        refine x_vret rfl dX1_addThing_105 ⟨rfl, by first | (exfalso; have := hbq (by assumption); omega) | (unfold addS; rw [if_pos c_64]) | (unfold addS; rw [if_neg (by omega)])⟩
  · exact absurd hm5 (by omega)

def byH (S : St) (I : Isl) (i : Nat) : St := (fun a b => if a = 21 ∧ b < 6 then nI (mk (fun w => iV I w 0 == b) i) else S.1 a b, S.2)
theorem byH_0 (S : St) (I : Isl) : fillA S 21 0 6 (nI 0) = byH S I 0 := by
  unfold fillA byH
  congr 1
  funext a b
  by_cases h : a = 21 ∧ b < 6
  · rw [if_pos ⟨h.1, Nat.zero_le _, h.2⟩, if_pos h]
    rfl
  · rw [if_neg (fun q => h ⟨q.1, q.2.2⟩), if_neg h]
theorem byH_s (S : St) (I : Isl) {i : Nat} (hi : iV I i 0 < 6) : setI (byH S I i) 21 (iV I i 0) (nI (mk (fun w => iV I w 0 == iV I i 0) i ||| 1 * 2 ^ i)) = byH S I (i + 1) := by
  unfold setI byH
  congr 1
  funext a b
  dsimp only
  by_cases ha : a = 21
  · by_cases hb : b = iV I i 0
    · subst hb
      rw [if_pos ⟨ha, rfl⟩, if_pos ⟨ha, hi⟩, mk_s, if_pos (by simp), Nat.one_mul]
    · rw [if_neg (fun q => hb q.2)]
      by_cases h6 : b < 6
      · rw [if_pos ⟨ha, h6⟩, if_pos ⟨ha, h6⟩, mk_s, if_neg (by simpa using fun q => hb q.symm), Nat.or_zero]
      · rw [if_neg (fun q => h6 q.2), if_neg (fun q => h6 q.2)]
  · rw [if_neg (fun q => ha q.1), if_neg (fun q => ha q.1), if_neg (fun q => ha q.1)]
theorem byH_rd (S : St) (I : Isl) (i : Nat) {h : Nat} (hh : h < 6) : (byH S I i).1 21 h = nI (mk (fun w => iV I w 0 == h) i) := if_pos ⟨rfl, hh⟩
theorem byH_k (S : St) (I : Isl) (i : Nat) {a b : Nat} (h : ¬ a = 21) : (byH S I i).1 a b = S.1 a b := if_neg fun q => h q.1
/-- worth together of a set of works -/
def wthF (I : Isl) (set : Nat) : Nat := sm (fun w => set / 2 ^ w % 2 * iV I w 3) (iW I)
def wOf (S : St) (I : Isl) (n : Nat) : St := (fun a b => if a = 22 ∧ b < n then nI (wthF I b) else S.1 a b, S.2)
theorem wOf_0 (S : St) (I : Isl) : wOf S I 0 = S := by
  unfold wOf
  have : (fun a b => if a = 22 ∧ b < 0 then nI (wthF I b) else S.1 a b) = S.1 := by
    funext a b
    rw [if_neg (by omega)]
  rw [this]
theorem wOf_s (S : St) (I : Isl) (n : Nat) : setI (wOf S I n) 22 n (nI (wthF I n)) = wOf S I (n + 1) := by
  unfold setI wOf
  congr 1
  funext a b
  dsimp only
  by_cases ha : a = 22
  · by_cases hb : b = n
    · subst hb
      rw [if_pos ⟨ha, rfl⟩, if_pos ⟨ha, by omega⟩]
    · rw [if_neg (fun q => hb q.2)]
      by_cases h6 : b < n
      · rw [if_pos ⟨ha, h6⟩, if_pos ⟨ha, by omega⟩]
      · rw [if_neg (fun q => h6 q.2), if_neg (fun q => h6 (by omega))]
  · rw [if_neg (fun q => ha q.1), if_neg (fun q => ha q.1), if_neg (fun q => ha q.1)]
theorem wOf_k (S : St) (I : Isl) (n : Nat) {a b : Nat} (h : ¬ a = 22) : (wOf S I n).1 a b = S.1 a b := if_neg fun q => h q.1
theorem IsX.keep {k : Nat} {I : Isl} {S S' : St} (h : IsX k I S) (e : ∀ a, k ≤ a → a ≤ k + 9 → ∀ b, S'.1 a b = S.1 a b) : IsX k I S' := by
  obtain ⟨h1, h2, h3, h4, h5, h6, h7⟩ := h
  refine ⟨by rw [e _ (by omega) (by omega)]; exact h1, by rw [e _ (by omega) (by omega)]; exact h2, by rw [e _ (by omega) (by omega)]; exact h3, by rw [e _ (by omega) (by omega)]; exact h4, fun t ht => ?_, fun b hb => by rw [e _ (by omega) (by omega)]; exact h6 b hb, fun w hw => ?_⟩
  · rw [e _ (by omega) (by omega), e _ (by omega) (by omega), e _ (by omega) (by omega), e _ (by omega) (by omega)]
    exact h5 t ht
  · rw [e _ (by omega) (by omega), e _ (by omega) (by omega), e _ (by omega) (by omega), e _ (by omega) (by omega)]
    exact h7 w hw
def tlyS (S : St) (I : Isl) : St := wOf (byH S I (iW I)) I (2 ^ iW I)

set_option maxHeartbeats 4000000 in
set_option maxRecDepth 100000 in
theorem lp_tally57 {S : St} {I : Isl} {s : Nat} {Q : Option Value → St → Prop} (hI : IsX 11 I S) (hO : IOK I) (hs : s < 256) (H : X 1 30 mX1_tallyWorks Q 86 [(2, .int (nI (wthF I s))), (1, .int (nI s)), (0, .ref 11)] [] S) : ∀ (i : Nat) (S1 : St), S1 = S → i ≤ iW I → X 1 30 mX1_tallyWorks (Q) 57 [(3, .int (nI i)), (2, .int (nI ((sm (fun w => s / 2 ^ w % 2 * iV I w 3) i)))), (1, .int (nI s)), (0, .ref 11)] [] S1 := by
  intro i
  induction hm : iW I - i using Nat.strongRecOn generalizing i with
  | _ mm ih =>
    intro S1 hS1 hi
    replace hS1 := hS1.symm
    subst hS1
    have hO1 := hO.1
    have hO2 := hO.2.1
    have hO3 := hO.2.2.1
    have hO4 := hO.2.2.2.1
    have hV := hO.v
    have hVi := hV i
    refine x_iload_n 0 dX1_tallyWorks_57 rfl rfl ?_
    refine x_aload_n 3 dX1_tallyWorks_58 rfl rfl ?_
    refine y_getI fX1_52 dX1_tallyWorks_59 l11 rfl hI.2.2.1 ?_
    refine y_ic_ge 86 dX1_tallyWorks_62 (by decide) (by omega) (by omega) (fun c_62 => ?_) (fun c_62 => ?_)
    · refine x_pick (lv' := [(2, _), (1, _), (0, _)]) [1, 2, 3] rfl ?_
      (obtain rfl : i = iW I := (by omega)); exact H
    · refine x_iload_n 1 dX1_tallyWorks_65 rfl rfl ?_
      refine x_iload_n 2 dX1_tallyWorks_66 rfl rfl ?_
      refine x_iload_n 0 dX1_tallyWorks_67 rfl rfl ?_
      refine y_ishr dX1_tallyWorks_68 (by omega) (by omega) ?_
      refine x_iconst (v := nI 1) dX1_tallyWorks_69 (by decide) ?_
      refine y_iand dX1_tallyWorks_70 ?_
      rw [show ((s / 2 ^ i) &&& 1) = (s / 2 ^ i % 2) from by rw [Nat.and_one_is_mod]]
      refine x_aload_n 3 dX1_tallyWorks_71 rfl rfl ?_
      refine x_getR fX1_36 dX1_tallyWorks_72 l11 rfl ?_
      refine x_iload_n 0 dX1_tallyWorks_75 rfl rfl ?_
      refine y_iald dX1_tallyWorks_76 l20 (by omega) (by decide) (hI.2.2.2.2.2.2 i (by omega)).2.2.2 ?_
      refine y_imul dX1_tallyWorks_77 ?_
      refine y_iadd dX1_tallyWorks_78 ?_
      refine x_istore_n (lv' := [(2, _), (3, _), (1, _), (0, _)]) dX1_tallyWorks_79 rfl (by decide) rfl ?_
      rw [show ((sm (fun w => s / 2 ^ w % 2 * iV I w 3) i) + ((s / 2 ^ i % 2) * (iV I i 3))) = (sm (fun w => s / 2 ^ w % 2 * iV I w 3) (i + 1)) from by rfl]
      refine y_iinc (lv' := [(3, _), (2, _), (1, _), (0, _)]) 1 dX1_tallyWorks_80 rfl (by decide) rfl ?_
      refine x_goto 57 dX1_tallyWorks_83 (by decide) ?_
      refine x_pick (lv' := [(3, _), (2, _), (1, _), (0, _)]) [0, 1, 2, 3] rfl ?_
      exact ih (iW I - (i + 1)) (by omega) (i + 1) rfl _ rfl (by omega)

set_option maxHeartbeats 4000000 in
set_option maxRecDepth 100000 in
theorem lp_tally43 {S : St} {I : Isl} (hI : IsX 11 I S) (hO : IOK I) : ∀ (i : Nat) (S1 : St), S1 = wOf S I i → i ≤ 2 ^ iW I → X 1 30 mX1_tallyWorks (pv (wOf S I (2 ^ iW I))) 43 [(1, .int (nI i)), (0, .ref 11)] [] S1 := by
  intro i
  induction hm : 2 ^ iW I - i using Nat.strongRecOn generalizing i with
  | _ mm ih =>
    intro S1 hS1 hi
    replace hS1 := hS1.symm
    subst hS1
    have hO1 := hO.1
    have hO2 := hO.2.1
    have hO3 := hO.2.2.1
    have hO4 := hO.2.2.2.1
    have h256 : 2 ^ iW I ≤ 2 ^ 8 := Nat.pow_le_pow_right (by decide) hO3
    have hI1 : IsX 11 I (wOf S I i) := hI.keep (fun a h1 h2 b => wOf_k S I i (by omega))
    refine x_iload_n 0 dX1_tallyWorks_43 rfl rfl ?_
    refine x_iconst (v := nI 1) dX1_tallyWorks_44 (by decide) ?_
    refine x_aload_n 1 dX1_tallyWorks_45 rfl rfl ?_
    refine y_getI fX1_52 dX1_tallyWorks_46 l11 rfl hI1.2.2.1 ?_
    refine y_ishl dX1_tallyWorks_49 (by omega) ?_
    rw [show (1 * 2 ^ (iW I)) = (2 ^ iW I) from by rw [Nat.one_mul]]
    refine y_ic_ge 99 dX1_tallyWorks_50 (by decide) (by omega) (by omega) (fun c_50 => ?_) (fun c_50 => ?_)
    · refine x_vret rfl dX1_tallyWorks_99 (by obtain rfl : i = 2 ^ iW I := (by omega); exact ⟨rfl, rfl⟩)
    · refine x_iconst (v := nI 0) dX1_tallyWorks_53 (by decide) ?_
      refine x_istore_n (lv' := [(2, _), (1, _), (0, _)]) dX1_tallyWorks_54 rfl (by decide) rfl ?_
      refine x_iconst (v := nI 0) dX1_tallyWorks_55 (by decide) ?_
      refine x_istore_n (lv' := [(3, _), (2, _), (1, _), (0, _)]) dX1_tallyWorks_56 rfl (by decide) rfl ?_
      refine x_pick (lv' := [(3, _), (2, _), (1, _), (0, _)]) [0, 1, 2, 3] rfl ?_
      refine lp_tally57 hI1 hO (by omega) ?_ 0 _ rfl (Nat.zero_le _)
      refine x_aload_n 2 dX1_tallyWorks_86 rfl rfl ?_
      refine x_getR fX1_42 dX1_tallyWorks_87 l11 rfl ?_
      refine x_iload_n 1 dX1_tallyWorks_90 rfl rfl ?_
      refine x_iload_n 0 dX1_tallyWorks_91 rfl rfl ?_
      refine y_iast dX1_tallyWorks_92 l22 (by omega) (by decide) ?_
      refine y_iinc (lv' := [(1, _), (2, _), (0, _)]) 1 dX1_tallyWorks_93 rfl (by decide) rfl ?_
      refine x_goto 43 dX1_tallyWorks_96 (by decide) ?_
      refine x_pick (lv' := [(1, _), (0, _)]) [0, 2] rfl ?_
      exact ih (2 ^ iW I - (i + 1)) (by omega) (i + 1) rfl _ (wOf_s S I i) (by omega)

set_option maxHeartbeats 4000000 in
set_option maxRecDepth 100000 in
theorem lp_tally10 {S : St} {I : Isl} (hI : IsX 11 I S) (hO : IOK I) : ∀ (i : Nat) (S1 : St), S1 = byH S I i → i ≤ iW I → X 1 30 mX1_tallyWorks (pv (tlyS S I)) 10 [(1, .int (nI i)), (0, .ref 11)] [] S1 := by
  intro i
  induction hm : iW I - i using Nat.strongRecOn generalizing i with
  | _ mm ih =>
    intro S1 hS1 hi
    replace hS1 := hS1.symm
    subst hS1
    have hO1 := hO.1
    have hO2 := hO.2.1
    have hO3 := hO.2.2.1
    have hO4 := hO.2.2.2.1
    have hV := hO.v
    have hVi := hV i
    have hI1 : IsX 11 I (byH S I i) := hI.keep (fun a h1 h2 b => byH_k S I i (by omega))
    refine x_iload_n 0 dX1_tallyWorks_10 rfl rfl ?_
    refine x_aload_n 1 dX1_tallyWorks_11 rfl rfl ?_
    refine y_getI fX1_52 dX1_tallyWorks_12 l11 rfl hI1.2.2.1 ?_
    refine y_ic_ge 41 dX1_tallyWorks_15 (by decide) (by omega) (by omega) (fun c_15 => ?_) (fun c_15 => ?_)
    · refine x_iconst (v := nI 0) dX1_tallyWorks_41 (by decide) ?_
      refine x_istore_n (lv' := [(1, _), (0, _)]) dX1_tallyWorks_42 rfl (by decide) rfl ?_
      refine x_pick (lv' := [(1, _), (0, _)]) [0, 1] rfl ?_
      (obtain rfl : i = iW I := (by omega)); exact lp_tally43 hI1 hO 0 _ (wOf_0 _ I).symm (Nat.zero_le _)
    · refine x_aload_n 1 dX1_tallyWorks_18 rfl rfl ?_
      refine x_getR fX1_39 dX1_tallyWorks_19 l11 rfl ?_
      refine x_aload_n 1 dX1_tallyWorks_22 rfl rfl ?_
      refine x_getR fX1_27 dX1_tallyWorks_23 l11 rfl ?_
      refine x_iload_n 0 dX1_tallyWorks_26 rfl rfl ?_
      refine y_iald dX1_tallyWorks_27 l17 (by omega) (by decide) (hI1.2.2.2.2.2.2 i (by omega)).1 ?_
      refine x_dup2 dX1_tallyWorks_28 rfl rfl ?_
      refine y_iald dX1_tallyWorks_29 l21 (by omega) (by decide) (byH_rd S I i (by omega)) ?_
      refine x_iconst (v := nI 1) dX1_tallyWorks_30 (by decide) ?_
      refine x_iload_n 0 dX1_tallyWorks_31 rfl rfl ?_
      refine y_ishl dX1_tallyWorks_32 (by omega) ?_
      refine y_ior dX1_tallyWorks_33 ?_
      refine y_iast dX1_tallyWorks_34 l21 (by omega) (by decide) ?_
      refine y_iinc (lv' := [(1, _), (0, _)]) 0 dX1_tallyWorks_35 rfl (by decide) rfl ?_
      refine x_goto 10 dX1_tallyWorks_38 (by decide) ?_
      refine x_pick (lv' := [(1, _), (0, _)]) [0, 1] rfl ?_
      exact ih (iW I - (i + 1)) (by omega) (i + 1) rfl _ (byH_s S I (by omega)) (by omega)

set_option maxHeartbeats 4000000 in
set_option maxRecDepth 100000 in
theorem c_X1_tallyWorks {S : St} {I : Isl} (hI : IsX 11 I S) (hO : IOK I) : C 1 30 yX1_tallyWorks mX1_tallyWorks [.ref 11] S (pv (tlyS S I)) := by
  refine C.ofX (by decide) rfl (Nat.le_of_ble_eq_true rfl) ?_
  show X 1 30 mX1_tallyWorks (pv (tlyS S I)) 0 [(0, .ref 11)] [] S
  refine x_aload_n 0 dX1_tallyWorks_0 rfl rfl ?_
  refine x_getR fX1_39 dX1_tallyWorks_1 l11 rfl ?_
  refine x_iconst (v := nI 0) dX1_tallyWorks_4 (by decide) ?_
  refine x_callSv (as := [_, _]) (rest := []) sX1_74 (c_J7_fill_53178 l21 (by decide)) dX1_tallyWorks_5 rfl rfl (Nat.le_of_ble_eq_true rfl) (Nat.le_of_ble_eq_true rfl) (Nat.le_of_ble_eq_true rfl) ?_
  refine x_iconst (v := nI 0) dX1_tallyWorks_8 (by decide) ?_
  refine x_istore_n (lv' := [(1, _), (0, _)]) dX1_tallyWorks_9 rfl (by decide) rfl ?_
  refine x_pick (lv' := [(1, _), (0, _)]) [0, 1] rfl ?_
  exact lp_tally10 hI hO 0 _ (byH_0 S I) (Nat.zero_le _)

/-- cells outside are as they were -/
def Fr (R : Nat → Prop) (S S' : St) : Prop := S'.2 = S.2 ∧ ∀ a, ¬ R a → ∀ b, S'.1 a b = S.1 a b
def IsT (I : Isl) (S : St) : Prop := (∀ h, h < 6 → S.1 21 h = nI (mk (fun w => iV I w 0 == h) (iW I))) ∧ ∀ s, s < 2 ^ iW I → S.1 22 s = nI (wthF I s)
def bcS (S : St) : St := cpA (cpA (cpA (cpA (cpA (cpA (cpA (cpA (cpA (setI (setI (setI (setI S 11 0 (S.1 23 0)) 11 1 (S.1 23 1)) 11 2 (S.1 23 2)) 11 3 (S.1 23 3)) 24 12 0 0 5) 25 13 0 0 5) 26 14 0 0 5) 27 15 0 0 5) 28 16 0 0 2) 29 17 0 0 8) 30 18 0 0 8) 31 19 0 0 8) 32 20 0 0 8
theorem cpA_0 {S : St} {k0 k n a b : Nat} (hb : b < n) (h : a = k) : (cpA S k0 k 0 0 n).1 a b = S.1 k0 b := by
  subst h
  unfold cpA va_cpy
  simp [hb]
theorem bcS_I {S : St} {I : Isl} (h : IsX 23 I S) (hO : IOK I) : IsX 11 I (bcS S) := by
  obtain ⟨o1, o2, o3, o4, -⟩ := hO
  obtain ⟨h1, h2, h3, h4, h5, h6, h7⟩ := h
  have key : ∀ j n, (j, n) ∈ [(1, 5), (2, 5), (3, 5), (4, 5), (5, 2), (6, 8), (7, 8), (8, 8), (9, 8)] → ∀ b, b < n → (bcS S).1 (11 + j) b = S.1 (23 + j) b := by
    intro j n hj b hb
    simp only [List.mem_cons, Prod.mk.injEq, List.not_mem_nil, or_false] at hj
    unfold bcS
    rcases hj with ⟨rfl, rfl⟩ | ⟨rfl, rfl⟩ | ⟨rfl, rfl⟩ | ⟨rfl, rfl⟩ | ⟨rfl, rfl⟩ | ⟨rfl, rfl⟩ | ⟨rfl, rfl⟩ | ⟨rfl, rfl⟩ | ⟨rfl, rfl⟩ <;>
      (repeat first | rw [cpA_0 hb rfl] | rw [cpA_k (by decide)] | rw [rdI_k (by decide)])
  have k0 : ∀ j, j < 4 → (bcS S).1 11 j = S.1 23 j := by
    intro j hj
    unfold bcS
    repeat rw [cpA_k (by decide)]
    rcases (show j = 0 ∨ j = 1 ∨ j = 2 ∨ j = 3 by omega) with rfl | rfl | rfl | rfl <;> (repeat first | rw [rdI_eq] | rw [rdI_j (by decide)] | rw [rdI_k (by decide)])
  refine ⟨(k0 0 (by decide)).trans h1, (k0 1 (by decide)).trans h2, (k0 2 (by decide)).trans h3, (k0 3 (by decide)).trans h4, fun t ht => ?_, fun b hb => (key 5 2 (by decide) b (by omega)).trans (h6 b hb), fun w hw => ?_⟩
  · obtain ⟨a, b, c, d⟩ := h5 t ht
    exact ⟨(key 1 5 (by decide) t (by omega)).trans a, (key 2 5 (by decide) t (by omega)).trans b, (key 3 5 (by decide) t (by omega)).trans c, (key 4 5 (by decide) t (by omega)).trans d⟩
  · obtain ⟨a, b, c, d⟩ := h7 w hw
    exact ⟨(key 6 8 (by decide) w (by omega)).trans a, (key 7 8 (by decide) w (by omega)).trans b, (key 8 8 (by decide) w (by omega)).trans c, (key 9 8 (by decide) w (by omega)).trans d⟩
theorem bcS_Fr (S : St) (I : Isl) : Fr (fun a => 11 ≤ a ∧ a ≤ 22) S (tlyS (bcS S) I) := by
  refine ⟨rfl, fun a ha b => ?_⟩
  have h : ∀ k, 11 ≤ k → k ≤ 22 → ¬ a = k := fun k h1 h2 e => ha (by omega)
  unfold tlyS
  rw [wOf_k _ _ _ (h 22 (by decide) (by decide)), byH_k _ _ _ (h 21 (by decide) (by decide))]
  unfold bcS
  rw [cpA_k (h 20 (by decide) (by decide)), cpA_k (h 19 (by decide) (by decide)), cpA_k (h 18 (by decide) (by decide)), cpA_k (h 17 (by decide) (by decide)), cpA_k (h 16 (by decide) (by decide)), cpA_k (h 15 (by decide) (by decide)), cpA_k (h 14 (by decide) (by decide)), cpA_k (h 13 (by decide) (by decide)), cpA_k (h 12 (by decide) (by decide)), rdI_k (h 11 (by decide) (by decide)), rdI_k (h 11 (by decide) (by decide)), rdI_k (h 11 (by decide) (by decide)), rdI_k (h 11 (by decide) (by decide))]
theorem tlyS_T (S : St) (I : Isl) : IsT I (tlyS S I) := by
  refine ⟨fun h hh => ?_, fun s hs => ?_⟩
  · unfold tlyS
    rw [wOf_k _ _ _ (by decide)]
    exact byH_rd S I (iW I) hh
  · exact if_pos ⟨rfl, hs⟩
theorem tlyS_I {S : St} {I : Isl} (h : IsX 11 I S) : IsX 11 I (tlyS S I) := h.keep (fun a h1 h2 b => by unfold tlyS; rw [wOf_k _ _ _ (by omega), byH_k _ _ _ (by omega)])

set_option maxHeartbeats 4000000 in
set_option maxRecDepth 100000 in
theorem c_X1_become {S : St} {I : Isl} (hI : IsX 23 I S) (hO : IOK I) : C 2 60 yX1_become mX1_become [.ref 11, .ref 23] S (qv (fun S' => Fr (fun a => 11 ≤ a ∧ a ≤ 22) S S' ∧ IsX 11 I S' ∧ IsT I S')) := by
  refine C.ofX (by decide) rfl (Nat.le_of_ble_eq_true rfl) ?_
  show X 2 60 mX1_become (qv (fun S' => Fr (fun a => 11 ≤ a ∧ a ≤ 22) S S' ∧ IsX 11 I S' ∧ IsT I S')) 0 [(0, .ref 11), (1, .ref 23)] [] S
  refine x_aload_n 0 dX1_become_0 rfl rfl ?_
  refine x_aload_n 1 dX1_become_1 rfl rfl ?_
  refine y_getI fX1_45 dX1_become_2 l23 rfl rfl ?_
  refine x_putI pX1_45 dX1_become_5 l11 rfl ?_
  refine x_aload_n 0 dX1_become_8 rfl rfl ?_
  refine x_aload_n 1 dX1_become_9 rfl rfl ?_
  refine y_getI fX1_49 dX1_become_10 l23 rfl (rdI_k (by decide)) ?_
  refine x_putI pX1_49 dX1_become_13 l11 rfl ?_
  refine x_aload_n 0 dX1_become_16 rfl rfl ?_
  refine x_aload_n 1 dX1_become_17 rfl rfl ?_
  refine y_getI fX1_52 dX1_become_18 l23 rfl (((rdI_k (by decide))).trans (rdI_k (by decide))) ?_
  refine x_putI pX1_52 dX1_become_21 l11 rfl ?_
  refine x_aload_n 0 dX1_become_24 rfl rfl ?_
  refine x_aload_n 1 dX1_become_25 rfl rfl ?_
  refine y_getI fX1_55 dX1_become_26 l23 rfl ((((rdI_k (by decide))).trans (rdI_k (by decide))).trans (rdI_k (by decide))) ?_
  refine x_putI pX1_55 dX1_become_29 l11 rfl ?_
  refine x_aload_n 1 dX1_become_32 rfl rfl ?_
  refine x_getR fX1_9 dX1_become_33 l23 rfl ?_
  refine x_iconst (v := nI 0) dX1_become_36 (by decide) ?_
  refine x_aload_n 0 dX1_become_37 rfl rfl ?_
  refine x_getR fX1_9 dX1_become_38 l11 rfl ?_
  refine x_iconst (v := nI 0) dX1_become_41 (by decide) ?_
  refine x_iconst (v := nI 5) dX1_become_42 (by decide) ?_
  refine y_acopy nX1_65 dX1_become_43 l24 l12 (by omega) (by omega) (by decide) (by decide) (Nat.le_of_ble_eq_true rfl) (Nat.le_of_ble_eq_true rfl) (Nat.le_of_ble_eq_true rfl) ?_
  refine x_aload_n 1 dX1_become_46 rfl rfl ?_
  refine x_getR fX1_15 dX1_become_47 l23 rfl ?_
  refine x_iconst (v := nI 0) dX1_become_50 (by decide) ?_
  refine x_aload_n 0 dX1_become_51 rfl rfl ?_
  refine x_getR fX1_15 dX1_become_52 l11 rfl ?_
  refine x_iconst (v := nI 0) dX1_become_55 (by decide) ?_
  refine x_iconst (v := nI 5) dX1_become_56 (by decide) ?_
  refine y_acopy nX1_65 dX1_become_57 l25 l13 (by omega) (by omega) (by decide) (by decide) (Nat.le_of_ble_eq_true rfl) (Nat.le_of_ble_eq_true rfl) (Nat.le_of_ble_eq_true rfl) ?_
  refine x_aload_n 1 dX1_become_60 rfl rfl ?_
  refine x_getR fX1_18 dX1_become_61 l23 rfl ?_
  refine x_iconst (v := nI 0) dX1_become_64 (by decide) ?_
  refine x_aload_n 0 dX1_become_65 rfl rfl ?_
  refine x_getR fX1_18 dX1_become_66 l11 rfl ?_
  refine x_iconst (v := nI 0) dX1_become_69 (by decide) ?_
  refine x_iconst (v := nI 5) dX1_become_70 (by decide) ?_
  refine y_acopy nX1_65 dX1_become_71 l26 l14 (by omega) (by omega) (by decide) (by decide) (Nat.le_of_ble_eq_true rfl) (Nat.le_of_ble_eq_true rfl) (Nat.le_of_ble_eq_true rfl) ?_
  refine x_aload_n 1 dX1_become_74 rfl rfl ?_
  refine x_getR fX1_21 dX1_become_75 l23 rfl ?_
  refine x_iconst (v := nI 0) dX1_become_78 (by decide) ?_
  refine x_aload_n 0 dX1_become_79 rfl rfl ?_
  refine x_getR fX1_21 dX1_become_80 l11 rfl ?_
  refine x_iconst (v := nI 0) dX1_become_83 (by decide) ?_
  refine x_iconst (v := nI 5) dX1_become_84 (by decide) ?_
  refine y_acopy nX1_65 dX1_become_85 l27 l15 (by omega) (by omega) (by decide) (by decide) (Nat.le_of_ble_eq_true rfl) (Nat.le_of_ble_eq_true rfl) (Nat.le_of_ble_eq_true rfl) ?_
  refine x_aload_n 1 dX1_become_88 rfl rfl ?_
  refine x_getR fX1_24 dX1_become_89 l23 rfl ?_
  refine x_iconst (v := nI 0) dX1_become_92 (by decide) ?_
  refine x_aload_n 0 dX1_become_93 rfl rfl ?_
  refine x_getR fX1_24 dX1_become_94 l11 rfl ?_
  refine x_iconst (v := nI 0) dX1_become_97 (by decide) ?_
  refine x_iconst (v := nI 2) dX1_become_98 (by decide) ?_
  refine y_acopy nX1_65 dX1_become_99 l28 l16 (by omega) (by omega) (by decide) (by decide) (Nat.le_of_ble_eq_true rfl) (Nat.le_of_ble_eq_true rfl) (Nat.le_of_ble_eq_true rfl) ?_
  refine x_aload_n 1 dX1_become_102 rfl rfl ?_
  refine x_getR fX1_27 dX1_become_103 l23 rfl ?_
  refine x_iconst (v := nI 0) dX1_become_106 (by decide) ?_
  refine x_aload_n 0 dX1_become_107 rfl rfl ?_
  refine x_getR fX1_27 dX1_become_108 l11 rfl ?_
  refine x_iconst (v := nI 0) dX1_become_111 (by decide) ?_
  refine x_bipush (v := nI 8) dX1_become_112 (by decide) ?_
  refine y_acopy nX1_65 dX1_become_114 l29 l17 (by omega) (by omega) (by decide) (by decide) (Nat.le_of_ble_eq_true rfl) (Nat.le_of_ble_eq_true rfl) (Nat.le_of_ble_eq_true rfl) ?_
  refine x_aload_n 1 dX1_become_117 rfl rfl ?_
  refine x_getR fX1_30 dX1_become_118 l23 rfl ?_
  refine x_iconst (v := nI 0) dX1_become_121 (by decide) ?_
  refine x_aload_n 0 dX1_become_122 rfl rfl ?_
  refine x_getR fX1_30 dX1_become_123 l11 rfl ?_
  refine x_iconst (v := nI 0) dX1_become_126 (by decide) ?_
  refine x_bipush (v := nI 8) dX1_become_127 (by decide) ?_
  refine y_acopy nX1_65 dX1_become_129 l30 l18 (by omega) (by omega) (by decide) (by decide) (Nat.le_of_ble_eq_true rfl) (Nat.le_of_ble_eq_true rfl) (Nat.le_of_ble_eq_true rfl) ?_
  refine x_aload_n 1 dX1_become_132 rfl rfl ?_
  refine x_getR fX1_33 dX1_become_133 l23 rfl ?_
  refine x_iconst (v := nI 0) dX1_become_136 (by decide) ?_
  refine x_aload_n 0 dX1_become_137 rfl rfl ?_
  refine x_getR fX1_33 dX1_become_138 l11 rfl ?_
  refine x_iconst (v := nI 0) dX1_become_141 (by decide) ?_
  refine x_bipush (v := nI 8) dX1_become_142 (by decide) ?_
  refine y_acopy nX1_65 dX1_become_144 l31 l19 (by omega) (by omega) (by decide) (by decide) (Nat.le_of_ble_eq_true rfl) (Nat.le_of_ble_eq_true rfl) (Nat.le_of_ble_eq_true rfl) ?_
  refine x_aload_n 1 dX1_become_147 rfl rfl ?_
  refine x_getR fX1_36 dX1_become_148 l23 rfl ?_
  refine x_iconst (v := nI 0) dX1_become_151 (by decide) ?_
  refine x_aload_n 0 dX1_become_152 rfl rfl ?_
  refine x_getR fX1_36 dX1_become_153 l11 rfl ?_
  refine x_iconst (v := nI 0) dX1_become_156 (by decide) ?_
  refine x_bipush (v := nI 8) dX1_become_157 (by decide) ?_
  refine y_acopy nX1_65 dX1_become_159 l32 l20 (by omega) (by omega) (by decide) (by decide) (Nat.le_of_ble_eq_true rfl) (Nat.le_of_ble_eq_true rfl) (Nat.le_of_ble_eq_true rfl) ?_
  refine x_aload_n 0 dX1_become_162 rfl rfl ?_
  refine x_callVv (as := []) (rest := []) vX1_71 (c_X1_tallyWorks (S := bcS S) (bcS_I hI hO) hO) dX1_become_163 l11 rfl rfl rfl (Nat.le_of_ble_eq_true rfl) (Nat.le_of_ble_eq_true rfl) (Nat.le_of_ble_eq_true rfl) ?_
  refine x_vret rfl dX1_become_166 ⟨rfl, bcS_Fr S I, tlyS_I (bcS_I hI hO), tlyS_T _ I⟩

