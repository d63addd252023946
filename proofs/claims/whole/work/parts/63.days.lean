/-! ===== days, the class ===== -/
/-- one less than n, as an int: what a way has brought, -1 where none has come -/
def vI (n : Nat) : Int32 := nI n - nI 1
theorem vI_i {n : Nat} (h : n ≤ 900) : (vI n).toInt = (n : Int) - 1 := nI_m1i h
theorem vI_0 : vI 0 = -1 := by decide
theorem vI_1 : vI 1 = nI 0 := by decide
theorem vI_add (n g : Nat) : vI n + nI g = vI (n + g) := by
  unfold vI
  rw [← nI_add, Int32.sub_eq_add_neg, Int32.sub_eq_add_neg, Int32.add_assoc, Int32.add_comm (-(nI 1)) (nI g), ← Int32.add_assoc]
/-- y is the most of x's and of those with P -/
def IsMx (u : Nat → Nat) (N x y : Nat) (P : Nat → Prop) : Prop := ∀ b, y ≤ b ↔ (u x ≤ b ∧ ∀ j, j < N → P j → u j ≤ b)
theorem IsMx.one {u : Nat → Nat} {N x y y' : Nat} {P : Nat → Prop} (h : IsMx u N x y P) (h' : IsMx u N x y' P) : y = y' :=
  Nat.le_antisymm ((h y').mpr ((h' y').mp (Nat.le_refl _))) ((h' y).mpr ((h y).mp (Nat.le_refl _)))
theorem IsMx.congr {u : Nat → Nat} {N x y : Nat} {P P' : Nat → Prop} (h : IsMx u N x y P) (e : ∀ j, j < N → (P j → u j = 0 ∨ P' j) ∧ (P' j → u j = 0 ∨ P j)) : IsMx u N x y P' := fun b => by
  rw [h b]
  constructor
  · rintro ⟨a, k⟩
    refine ⟨a, fun j hj hp => ?_⟩
    rcases (e j hj).2 hp with q | q
    · omega
    · exact k j hj q
  · rintro ⟨a, k⟩
    refine ⟨a, fun j hj hp => ?_⟩
    rcases (e j hj).1 hp with q | q
    · omega
    · exact k j hj q
theorem IsMx.zero {u : Nat → Nat} {N x : Nat} {P : Nat → Prop} (h : ∀ j, j < N → ¬ P j) : IsMx u N x (u x) P := fun b => ⟨fun k => ⟨k, fun j hj hp => absurd hp (h j hj)⟩, fun k => k.1⟩
theorem IsMx.add {u : Nat → Nat} {N x y a : Nat} {P P' : Nat → Prop} (h : IsMx u N x y P) (ha : a < N) (e : ∀ j, P' j ↔ P j ∨ j = a) : IsMx u N x (max y (u a)) P' := fun b => by
  rw [Nat.max_le, h b]
  constructor
  · rintro ⟨⟨k1, k2⟩, k3⟩
    refine ⟨k1, fun j hj hp => ?_⟩
    rcases (e j).mp hp with q | q
    · exact k2 j hj q
    · rw [q]; exact k3
  · rintro ⟨k1, k2⟩
    exact ⟨⟨k1, fun j hj hp => k2 j hj ((e j).mpr (Or.inl hp))⟩, k2 a ha ((e a).mpr (Or.inr rfl))⟩
theorem IsMx.le {u : Nat → Nat} {N x y B : Nat} {P : Nat → Prop} (h : IsMx u N x y P) (hu : ∀ i, u i ≤ B) : y ≤ B := (h B).mpr ⟨hu x, fun j _ _ => hu j⟩
/-- one step, or none, from each state -/
def stepP (I : Isl) (L : Nat) (R : Rs) (u u' : Nat → Nat) : Prop := ∀ x, x < rC R → IsMx u (rC R) x (u' x) (fun j => adjR I L R x j)
def FDy (a : Nat) : Prop := FS a ∨ (50 ≤ a ∧ a ≤ 54) ∨ (79 ≤ a ∧ a ≤ 81)
/-- the pairs looked at: all with a greater below i, and the first k of i's -/
def PPr (I : Isl) (L : Nat) (R : Rs) (nr : Nat → Nat) (st i k x j : Nat) : Prop := (j < x ∧ x < i ∧ adjR I L R x j) ∨ (x < j ∧ j < i ∧ adjR I L R j x) ∨ (j = i ∧ x < i ∧ ∃ k', st ≤ k' ∧ k' < k ∧ nr k' = x)

set_option maxHeartbeats 400000 in
set_option maxRecDepth 100000 in
theorem lp_sp1 {S : St} {I : Isl} (hI : IsX 11 I S) (hO : IOK I) {L c0 e en : Nat} (h0 : OKc I L c0) (hx : SeX I L c0 e S) (hene : en ≤ e) (hN8 : rC (fR I L c0) ≤ 8525) (hN80 : (nrB I L c0 e).1 ≤ 80000) {u : Nat → Nat} (hu : ∀ i, u i ≤ 500) (hz : ∀ i, en ≤ i → u i = 0) (hb : ∀ i, i < en → S.1 79 i = vI (u i)) {i : Nat} (hi : i < en) {Q : Option Value → St → Prop} (kk : ∀ S2, (Fr (fun a => a = 80) S S2 ∧ ∀ x, x < en → ∃ y, S2.1 80 x = vI y ∧ IsMx u (rC (fR I L c0)) x y (PPr I L (fR I L c0) (nrB I L c0 e).2 (nrB I L c0 (i + 1)).1 (i + 1) (nrB I L c0 (i + 1)).1 x)) → X 1 30 mX0_spread Q 18 [(3, .int (nI (i + 1))), (2, .int (nI (nrB I L c0 (i + 1)).1)), (0, .ref 78), (1, .int (nI en))] [] S2)  : ∀ (k : Nat) (S1 : St) (y : Nat), ((nrB I L c0 i).1 ≤ k ∧ k ≤ (nrB I L c0 (i + 1)).1) → (Fr (fun a => a = 80) S S1 ∧ ∀ x, x < en → ∃ y, S1.1 80 x = vI y ∧ IsMx u (rC (fR I L c0)) x y (PPr I L (fR I L c0) (nrB I L c0 e).2 (nrB I L c0 i).1 i k x)) → (IsMx u (rC (fR I L c0)) i y (fun j => ∃ k', (nrB I L c0 i).1 ≤ k' ∧ k' < k ∧ (nrB I L c0 e).2 k' = j)) → X 1 30 mX0_spread (Q) 39 [(5, .int (vI y)), (4, .int (vI (u i))), (3, .int (nI i)), (2, .int (nI k)), (0, .ref 78), (1, .int (nI en))] [] S1 := by
  intro k S1 y
  induction hm : 80001 - k using Nat.strongRecOn generalizing k S1 y with
  | _ mm ih =>
    intro hk hE hy
    have hO1 := hO.1
    have hO2 := hO.2.1
    have hO3 := hO.2.2.1
    have hO4 := hO.2.2.2.1
    have hal := hx.2.2.2.2.2.2.2
    have hen := alive_bN hO h0 hal
    have hbn := (bN_ok hO h0).2
    have hst : ∀ i, i < e → (nrB I L c0 (i + 1)).1 ≤ (nrB I L c0 e).1 ∧ ∀ k, k < (nrB I L c0 (i + 1)).1 → (nrB I L c0 e).2 k = (nrB I L c0 (i + 1)).2 k := fun i hi => by
      have h := nrB_keep (i := i + 1) hO h0 (e - (i + 1)) (by rw [show i + 1 + (e - (i + 1)) = e by omega]; exact hal)
      rw [show i + 1 + (e - (i + 1)) = e by omega] at h
      exact h
    obtain ⟨x1, x2⟩ := id hE
    have hsti := hst i (by omega)
    have hset := nrB_set (i := i) hO h0 hal (by omega)
    have hyb := hy.le hu
    have tvy := vI_i (show y ≤ 900 by omega)
    have tvi := vI_i (show u i ≤ 900 by have := hu i; omega)
    refine x_iload_n 3 dX0_spread_39 rfl rfl ?_
    refine x_aload_n 4 dX0_spread_40 rfl rfl ?_
    refine x_getR fX0_25 dX0_spread_41 l78 rfl ?_
    refine x_getR fX0_93 dX0_spread_44 l74 rfl ?_
    refine x_iload_n 2 dX0_spread_47 rfl rfl ?_
    refine y_iald dX0_spread_48 l77 (by omega) (by decide) ((x1.2 77 (by decide) i).trans (hx.2.2.1 i (by omega))) ?_
    refine y_ic_ge 111 dX0_spread_49 (by decide) (by omega) (by omega) (fun c_49 => ?_) (fun c_49 => ?_)
    · refine x_aload_n 4 dX0_spread_111 rfl rfl ?_
      refine x_getR fX0_15 dX0_spread_112 l78 rfl ?_
      refine x_iload_n 2 dX0_spread_115 rfl rfl ?_
      refine x_iload 0 dX0_spread_116 rfl ?_
      refine y_iast dX0_spread_118 l80 (by omega) (by decide) ?_
      refine y_iinc (lv' := [(3, _), (5, _), (4, _), (2, _), (0, _), (1, _)]) 2 dX0_spread_119 rfl (by decide) rfl ?_
      refine x_goto 18 dX0_spread_122 (by decide) ?_
      refine x_pick (lv' := [(3, _), (2, _), (0, _), (1, _)]) [0, 3, 4, 5] rfl ?_
      obtain rfl : k = (nrB I L c0 (i + 1)).1 := (by omega)
      have hiN : i < rC (fR I L c0) := by omega
      refine kk _ ⟨x1.trans ⟨rfl, fun a ha b => rdI_k ha⟩, fun x hxe => ?_⟩
      by_cases q : x = i
      · rw [q]
        refine ⟨y, rdI_eq, hy.congr (fun j hjn => ⟨fun p => Or.inr ?_, fun p => Or.inr ?_⟩)⟩
        · obtain ⟨k', a, b, c⟩ := p
          have hks := hset.2.1 k' a b
          rw [← hsti.2 k' b, c] at hks
          exact Or.inl ⟨hks.1, Nat.lt_succ_self i, hks.2⟩
        · rcases p with ⟨a, _, c⟩ | ⟨a, b, _⟩ | ⟨a, b, k', c, d, _⟩
          · obtain ⟨k', c1, c2, c3⟩ := hset.2.2 j a c
            exact ⟨k', c1, c2, (hsti.2 k' c2).trans c3⟩
          · omega
          · omega
      · obtain ⟨y', y1, y2⟩ := x2 x hxe
        refine ⟨y', (rdI_j q).trans y1, y2.congr (fun j hjn => ⟨fun p => Or.inr ?_, fun p => Or.inr ?_⟩)⟩
        · rcases p with ⟨a, b, c⟩ | ⟨a, b, c⟩ | ⟨a, b, k', c, d, f⟩
          · exact Or.inl ⟨a, by omega, c⟩
          · exact Or.inr (Or.inl ⟨a, by omega, c⟩)
          · have hks := hset.2.1 k' c d
            rw [← hsti.2 k' d, f] at hks
            exact Or.inr (Or.inl ⟨by omega, by omega, by rw [a]; exact hks.2⟩)
        · rcases p with ⟨a, b, c⟩ | ⟨a, b, c⟩ | ⟨a, b, k', c, d, _⟩
          · exact Or.inl ⟨a, by omega, c⟩
          · by_cases ji : j = i
            · rw [ji] at a c
              obtain ⟨k', c1, c2, c3⟩ := hset.2.2 x a c
              exact Or.inr (Or.inr ⟨ji, a, k', c1, c2, (hsti.2 k' c2).trans c3⟩)
            · exact Or.inr (Or.inl ⟨a, by omega, c⟩)
          · omega
    · have hks := hset.2.1 k (by omega) (by omega)
      rw [← hsti.2 k (by omega)] at hks
      obtain ⟨hj, hadj⟩ := hks
      obtain ⟨z, z1, z2⟩ := x2 ((nrB I L c0 e).2 k) (by omega)
      have hzb := z2.le hu
      have tvz := vI_i (show z ≤ 900 by omega)
      have tvj := vI_i (show u ((nrB I L c0 e).2 k) ≤ 900 by have := hu ((nrB I L c0 e).2 k); omega)
      have hjN : (nrB I L c0 e).2 k < rC (fR I L c0) := by omega
      have hiN : i < rC (fR I L c0) := by omega
      have hy' := hy.add (P' := fun j => ∃ k', (nrB I L c0 i).1 ≤ k' ∧ k' < k + 1 ∧ (nrB I L c0 e).2 k' = j) hjN (fun j => ⟨fun ⟨k', a, b, c⟩ => by
        by_cases q : k' = k
        · rw [q] at c; exact Or.inr c.symm
        · exact Or.inl ⟨k', a, by omega, c⟩, fun h => by
        rcases h with ⟨k', a, b, c⟩ | h
        · exact ⟨k', a, by omega, c⟩
        · exact ⟨k, by omega, by omega, h.symm⟩⟩)
      have hz' := z2.add (P' := PPr I L (fR I L c0) (nrB I L c0 e).2 (nrB I L c0 i).1 i (k + 1) ((nrB I L c0 e).2 k)) hiN (fun j => ⟨fun h => by
        rcases h with h | h | ⟨a, _, _⟩
        · exact Or.inl (Or.inl h)
        · exact Or.inl (Or.inr (Or.inl h))
        · exact Or.inr a, fun h => by
        rcases h with (h | h | ⟨a, b, k', c, d, f⟩) | h
        · exact Or.inl h
        · exact Or.inr (Or.inl h)
        · exact Or.inr (Or.inr ⟨a, b, k', c, by omega, f⟩)
        · exact Or.inr (Or.inr ⟨h, hj, k, by omega, by omega, rfl⟩)⟩)
      have hoth : ∀ x, ¬ x = (nrB I L c0 e).2 k → ∀ y', IsMx u (rC (fR I L c0)) x y' (PPr I L (fR I L c0) (nrB I L c0 e).2 (nrB I L c0 i).1 i k x) → IsMx u (rC (fR I L c0)) x y' (PPr I L (fR I L c0) (nrB I L c0 e).2 (nrB I L c0 i).1 i (k + 1) x) := fun x hxk y' h => h.congr (fun j hjn => ⟨fun p => Or.inr (by
        rcases p with p | p | ⟨a, b, k', c, d, f⟩
        · exact Or.inl p
        · exact Or.inr (Or.inl p)
        · exact Or.inr (Or.inr ⟨a, b, k', c, by omega, f⟩)), fun p => Or.inr (by
        rcases p with p | p | ⟨a, b, k', c, d, f⟩
        · exact Or.inl p
        · exact Or.inr (Or.inl p)
        · refine Or.inr (Or.inr ⟨a, b, k', c, ?_, f⟩)
          by_cases q : k' = k
          · rw [q] at f; exact absurd f.symm hxk
          · omega)⟩)
      refine x_aload_n 4 dX0_spread_52 rfl rfl ?_
      refine x_getR fX0_25 dX0_spread_53 l78 rfl ?_
      refine x_getR fX0_96 dX0_spread_56 l74 rfl ?_
      refine x_iload_n 3 dX0_spread_59 rfl rfl ?_
      refine y_iald dX0_spread_60 l76 (by omega) (by decide) ((x1.2 76 (by decide) k).trans (hx.2.1.2 k (by omega))) ?_
      refine x_istore (lv' := [(6, _), (5, _), (4, _), (3, _), (2, _), (0, _), (1, _)]) dX0_spread_61 (by decide) rfl ?_
      refine x_aload_n 5 dX0_spread_63 rfl rfl ?_
      refine x_getR fX0_9 dX0_spread_64 l78 rfl ?_
      refine x_iload 0 dX0_spread_67 rfl ?_
      refine y_iald dX0_spread_69 l79 (by omega) (by decide) ((x1.2 79 (by decide) _).trans (hb _ (by omega))) ?_
      refine x_iload 1 dX0_spread_70 rfl ?_
      refine x_ic_le 84 dX0_spread_72 (by decide) (fun c_72 => ?_) (fun c_72 => ?_)
      · refine x_iload 2 dX0_spread_84 rfl ?_
        refine x_aload_n 5 dX0_spread_86 rfl rfl ?_
        refine x_getR fX0_15 dX0_spread_87 l78 rfl ?_
        refine x_iload 0 dX0_spread_90 rfl ?_
        refine y_iald dX0_spread_92 l80 (by omega) (by decide) z1 ?_
        refine x_ic_le 105 dX0_spread_93 (by decide) (fun c_93 => ?_) (fun c_93 => ?_)
        · refine y_iinc (lv' := [(2, _), (6, _), (5, _), (4, _), (3, _), (0, _), (1, _)]) 4 dX0_spread_105 rfl (by decide) rfl ?_
          refine x_goto 39 dX0_spread_108 (by decide) ?_
          refine x_pick (lv' := [(5, _), (4, _), (3, _), (2, _), (0, _), (1, _)]) [2, 3, 4, 0, 5, 6] rfl ?_
          
          refine ih (80001 - (k + 1)) (by omega) (k + 1) _ _ rfl ⟨by omega, by omega⟩ ⟨x1, fun x hxe => ?_⟩ (by first | (rw [Nat.max_eq_right (by omega)] at hy'; exact hy') | (rw [Nat.max_eq_left (by omega)] at hy'; exact hy'))
          by_cases q : x = (nrB I L c0 e).2 k
          · rw [q]
            exact ⟨max z (u i), by rw [Nat.max_eq_left (by omega)]; exact z1, hz'⟩
          · obtain ⟨y', y1, y2⟩ := x2 x hxe
            exact ⟨y', y1, hoth x q y' y2⟩
        · refine x_aload_n 5 dX0_spread_96 rfl rfl ?_
          refine x_getR fX0_15 dX0_spread_97 l78 rfl ?_
          refine x_iload 0 dX0_spread_100 rfl ?_
          refine x_iload 2 dX0_spread_102 rfl ?_
          refine y_iast dX0_spread_104 l80 (by omega) (by decide) ?_
          refine y_iinc (lv' := [(2, _), (6, _), (5, _), (4, _), (3, _), (0, _), (1, _)]) 4 dX0_spread_105 rfl (by decide) rfl ?_
          refine x_goto 39 dX0_spread_108 (by decide) ?_
          refine x_pick (lv' := [(5, _), (4, _), (3, _), (2, _), (0, _), (1, _)]) [2, 3, 4, 0, 5, 6] rfl ?_
          
          refine ih (80001 - (k + 1)) (by omega) (k + 1) _ _ rfl ⟨by omega, by omega⟩ ⟨x1.trans ⟨rfl, fun a ha b => rdI_k ha⟩, fun x hxe => ?_⟩ (by first | (rw [Nat.max_eq_right (by omega)] at hy'; exact hy') | (rw [Nat.max_eq_left (by omega)] at hy'; exact hy'))
          by_cases q : x = (nrB I L c0 e).2 k
          · rw [q]
            exact ⟨max z (u i), by rw [rdI_eq, Nat.max_eq_right (by omega)], hz'⟩
          · obtain ⟨y', y1, y2⟩ := x2 x hxe
            exact ⟨y', (rdI_j q).trans y1, hoth x q y' y2⟩
      · refine x_aload_n 5 dX0_spread_75 rfl rfl ?_
        refine x_getR fX0_9 dX0_spread_76 l78 rfl ?_
        refine x_iload 0 dX0_spread_79 rfl ?_
        refine y_iald dX0_spread_81 l79 (by omega) (by decide) ((x1.2 79 (by decide) _).trans (hb _ (by omega))) ?_
        refine x_istore (lv' := [(5, _), (6, _), (4, _), (3, _), (2, _), (0, _), (1, _)]) dX0_spread_82 (by decide) rfl ?_
        refine x_iload 2 dX0_spread_84 rfl ?_
        refine x_aload_n 5 dX0_spread_86 rfl rfl ?_
        refine x_getR fX0_15 dX0_spread_87 l78 rfl ?_
        refine x_iload 1 dX0_spread_90 rfl ?_
        refine y_iald dX0_spread_92 l80 (by omega) (by decide) z1 ?_
        refine x_ic_le 105 dX0_spread_93 (by decide) (fun c_93 => ?_) (fun c_93 => ?_)
        · refine y_iinc (lv' := [(2, _), (5, _), (6, _), (4, _), (3, _), (0, _), (1, _)]) 4 dX0_spread_105 rfl (by decide) rfl ?_
          refine x_goto 39 dX0_spread_108 (by decide) ?_
          refine x_pick (lv' := [(5, _), (4, _), (3, _), (2, _), (0, _), (1, _)]) [1, 3, 4, 0, 5, 6] rfl ?_
          
          refine ih (80001 - (k + 1)) (by omega) (k + 1) _ _ rfl ⟨by omega, by omega⟩ ⟨x1, fun x hxe => ?_⟩ (by first | (rw [Nat.max_eq_right (by omega)] at hy'; exact hy') | (rw [Nat.max_eq_left (by omega)] at hy'; exact hy'))
          by_cases q : x = (nrB I L c0 e).2 k
          · rw [q]
            exact ⟨max z (u i), by rw [Nat.max_eq_left (by omega)]; exact z1, hz'⟩
          · obtain ⟨y', y1, y2⟩ := x2 x hxe
            exact ⟨y', y1, hoth x q y' y2⟩
        · refine x_aload_n 5 dX0_spread_96 rfl rfl ?_
          refine x_getR fX0_15 dX0_spread_97 l78 rfl ?_
          refine x_iload 1 dX0_spread_100 rfl ?_
          refine x_iload 2 dX0_spread_102 rfl ?_
          refine y_iast dX0_spread_104 l80 (by omega) (by decide) ?_
          refine y_iinc (lv' := [(2, _), (5, _), (6, _), (4, _), (3, _), (0, _), (1, _)]) 4 dX0_spread_105 rfl (by decide) rfl ?_
          refine x_goto 39 dX0_spread_108 (by decide) ?_
          refine x_pick (lv' := [(5, _), (4, _), (3, _), (2, _), (0, _), (1, _)]) [1, 3, 4, 0, 5, 6] rfl ?_
          
          refine ih (80001 - (k + 1)) (by omega) (k + 1) _ _ rfl ⟨by omega, by omega⟩ ⟨x1.trans ⟨rfl, fun a ha b => rdI_k ha⟩, fun x hxe => ?_⟩ (by first | (rw [Nat.max_eq_right (by omega)] at hy'; exact hy') | (rw [Nat.max_eq_left (by omega)] at hy'; exact hy'))
          by_cases q : x = (nrB I L c0 e).2 k
          · rw [q]
            exact ⟨max z (u i), by rw [rdI_eq, Nat.max_eq_right (by omega)], hz'⟩
          · obtain ⟨y', y1, y2⟩ := x2 x hxe
            exact ⟨y', (rdI_j q).trans y1, hoth x q y' y2⟩
