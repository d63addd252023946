/-! ===== days, the class ===== -/
/-- one less than n, as an int: what a way has brought, -1 where none has come -/
def vI (n : Nat) : Int32 := nI n - nI 1
theorem vI_i {n : Nat} (h : n ≤ 900) : (vI n).toInt = (n : Int) - 1 := nI_m1i h
theorem vI_0 : vI 0 = -1 := by decide
theorem vI_1 : vI 1 = nI 0 := by decide
theorem vI_add (n g : Nat) : vI n + nI g = vI (n + g) := by
  unfold vI
  rw [← nI_add, Int32.sub_eq_add_neg, Int32.sub_eq_add_neg, Int32.add_assoc, Int32.add_comm (-(nI 1)) (nI g), ← Int32.add_assoc]
/-- y is the most of x's and of those with P -/
def IsMx (u : Nat → Nat) (N x y : Nat) (P : Nat → Prop) : Prop := ∀ b, y ≤ b ↔ (u x ≤ b ∧ ∀ j, j < N → P j → u j ≤ b)
theorem IsMx.one {u : Nat → Nat} {N x y y' : Nat} {P : Nat → Prop} (h : IsMx u N x y P) (h' : IsMx u N x y' P) : y = y' :=
  Nat.le_antisymm ((h y').mpr ((h' y').mp (Nat.le_refl _))) ((h' y).mpr ((h y).mp (Nat.le_refl _)))
theorem IsMx.congr {u : Nat → Nat} {N x y : Nat} {P P' : Nat → Prop} (h : IsMx u N x y P) (e : ∀ j, j < N → (P j → u j = 0 ∨ P' j) ∧ (P' j → u j = 0 ∨ P j)) : IsMx u N x y P' := fun b => by
  rw [h b]
  constructor
  · rintro ⟨a, k⟩
    refine ⟨a, fun j hj hp => ?_⟩
    rcases (e j hj).2 hp with q | q
    · omega
    · exact k j hj q
  · rintro ⟨a, k⟩
    refine ⟨a, fun j hj hp => ?_⟩
    rcases (e j hj).1 hp with q | q
    · omega
    · exact k j hj q
theorem IsMx.zero {u : Nat → Nat} {N x : Nat} {P : Nat → Prop} (h : ∀ j, j < N → ¬ P j) : IsMx u N x (u x) P := fun b => ⟨fun k => ⟨k, fun j hj hp => absurd hp (h j hj)⟩, fun k => k.1⟩
theorem IsMx.add {u : Nat → Nat} {N x y a : Nat} {P P' : Nat → Prop} (h : IsMx u N x y P) (ha : a < N) (e : ∀ j, P' j ↔ P j ∨ j = a) : IsMx u N x (max y (u a)) P' := fun b => by
  rw [Nat.max_le, h b]
  constructor
  · rintro ⟨⟨k1, k2⟩, k3⟩
    refine ⟨k1, fun j hj hp => ?_⟩
    rcases (e j).mp hp with q | q
    · exact k2 j hj q
    · rw [q]; exact k3
  · rintro ⟨k1, k2⟩
    exact ⟨⟨k1, fun j hj hp => k2 j hj ((e j).mpr (Or.inl hp))⟩, k2 a ha ((e a).mpr (Or.inr rfl))⟩
theorem IsMx.le {u : Nat → Nat} {N x y B : Nat} {P : Nat → Prop} (h : IsMx u N x y P) (hu : ∀ i, u i ≤ B) : y ≤ B := (h B).mpr ⟨hu x, fun j _ _ => hu j⟩
/-- one step, or none, from each state -/
def stepP (I : Isl) (L : Nat) (R : Rs) (u u' : Nat → Nat) : Prop := ∀ x, x < rC R → IsMx u (rC R) x (u' x) (fun j => adjR I L R x j)
def FDy (a : Nat) : Prop := FS a ∨ (50 ≤ a ∧ a ≤ 54) ∨ (79 ≤ a ∧ a ≤ 81)
/-- the pairs looked at: all with a greater below i, and the first k of i's -/
def PPr (I : Isl) (L : Nat) (R : Rs) (nr : Nat → Nat) (st i k x j : Nat) : Prop := (j < x ∧ x < i ∧ adjR I L R x j) ∨ (x < j ∧ j < i ∧ adjR I L R j x) ∨ (j = i ∧ x < i ∧ ∃ k', st ≤ k' ∧ k' < k ∧ nr k' = x)

set_option maxHeartbeats 4000000 in
set_option maxRecDepth 100000 in
theorem lp_sp1 {S : St} {I : Isl} (hI : IsX 11 I S) (hO : IOK I) {L c0 e en : Nat} (h0 : OKc I L c0) (hx : SeX I L c0 e S) (hene : en ≤ e) (hN8 : rC (fR I L c0) ≤ 8525) (hN80 : (nrB I L c0 e).1 ≤ 80000) {u : Nat → Nat} (hu : ∀ i, u i ≤ 500) (hz : ∀ i, en ≤ i → u i = 0) (hb : ∀ i, i < en → S.1 79 i = vI (u i)) {i : Nat} (hi : i < en) {Q : Option Value → St → Prop} (kk : ∀ S2, (Fr (fun a => a = 80) S S2 ∧ ∀ x, x < en → ∃ y, S2.1 80 x = vI y ∧ IsMx u (rC (fR I L c0)) x y (PPr I L (fR I L c0) (nrB I L c0 e).2 (nrB I L c0 (i + 1)).1 (i + 1) (nrB I L c0 (i + 1)).1 x)) → X 1 30 mX0_spread Q 18 [(3, .int (nI (i + 1))), (2, .int (nI (nrB I L c0 (i + 1)).1)), (0, .ref 78), (1, .int (nI en))] [] S2)  : ∀ (k : Nat) (S1 : St) (y : Nat), ((nrB I L c0 i).1 ≤ k ∧ k ≤ (nrB I L c0 (i + 1)).1) → (Fr (fun a => a = 80) S S1 ∧ ∀ x, x < en → ∃ y, S1.1 80 x = vI y ∧ IsMx u (rC (fR I L c0)) x y (PPr I L (fR I L c0) (nrB I L c0 e).2 (nrB I L c0 i).1 i k x)) → (IsMx u (rC (fR I L c0)) i y (fun j => ∃ k', (nrB I L c0 i).1 ≤ k' ∧ k' < k ∧ (nrB I L c0 e).2 k' = j)) → X 1 30 mX0_spread (Q) 39 [(5, .int (vI y)), (4, .int (vI (u i))), (3, .int (nI i)), (2, .int (nI k)), (0, .ref 78), (1, .int (nI en))] [] S1 := by
  intro k S1 y
  induction hm : 80001 - k using Nat.strongRecOn generalizing k S1 y with
  | _ mm ih =>
    intro hk hE hy
    have hO1 := hO.1
    have hO2 := hO.2.1
    have hO3 := hO.2.2.1
    have hO4 := hO.2.2.2.1
    have hal := hx.2.2.2.2.2.2.2
    have hen := alive_bN hO h0 hal
    have hbn := (bN_ok hO h0).2
    have hst : ∀ i, i < e → (nrB I L c0 (i + 1)).1 ≤ (nrB I L c0 e).1 ∧ ∀ k, k < (nrB I L c0 (i + 1)).1 → (nrB I L c0 e).2 k = (nrB I L c0 (i + 1)).2 k := fun i hi => by
      have h := nrB_keep (i := i + 1) hO h0 (e - (i + 1)) (by rw [show i + 1 + (e - (i + 1)) = e by omega]; exact hal)
      rw [show i + 1 + (e - (i + 1)) = e by omega] at h
      exact h
    obtain ⟨x1, x2⟩ := id hE
    have hsti := hst i (by omega)
    have hset := nrB_set (i := i) hO h0 hal (by omega)
    have hyb := hy.le hu
    have tvy := vI_i (show y ≤ 900 by omega)
    have tvi := vI_i (show u i ≤ 900 by have := hu i; omega)
    refine x_iload_n 3 dX0_spread_39 rfl rfl ?_
    refine x_aload_n 4 dX0_spread_40 rfl rfl ?_
    refine x_getR fX0_25 dX0_spread_41 l78 rfl ?_
    refine x_getR fX0_93 dX0_spread_44 l74 rfl ?_
    refine x_iload_n 2 dX0_spread_47 rfl rfl ?_
    refine y_iald dX0_spread_48 l77 (by omega) (by decide) ((x1.2 77 (by decide) i).trans (hx.2.2.1 i (by omega))) ?_
    refine y_ic_ge 111 dX0_spread_49 (by decide) (by omega) (by omega) (fun c_49 => ?_) (fun c_49 => ?_)
    · refine x_aload_n 4 dX0_spread_111 rfl rfl ?_
      refine x_getR fX0_15 dX0_spread_112 l78 rfl ?_
      refine x_iload_n 2 dX0_spread_115 rfl rfl ?_
      refine x_iload 0 dX0_spread_116 rfl ?_
      refine y_iast dX0_spread_118 l80 (by omega) (by decide) ?_
      refine y_iinc (lv' := [(3, _), (5, _), (4, _), (2, _), (0, _), (1, _)]) 2 dX0_spread_119 rfl (by decide) rfl ?_
      refine x_goto 18 dX0_spread_122 (by decide) ?_
      refine x_pick (lv' := [(3, _), (2, _), (0, _), (1, _)]) [0, 3, 4, 5] rfl ?_
      obtain rfl : k = (nrB I L c0 (i + 1)).1 := (by omega)
      have hiN : i < rC (fR I L c0) := by omega
      refine kk _ ⟨x1.trans ⟨rfl, fun a ha b => rdI_k ha⟩, fun x hxe => ?_⟩
      by_cases q : x = i
      · rw [q]
        refine ⟨y, rdI_eq, hy.congr (fun j hjn => ⟨fun p => Or.inr ?_, fun p => Or.inr ?_⟩)⟩
        · obtain ⟨k', a, b, c⟩ := p
          have hks := hset.2.1 k' a b
          rw [← hsti.2 k' b, c] at hks
          exact Or.inl ⟨hks.1, Nat.lt_succ_self i, hks.2⟩
        · rcases p with ⟨a, _, c⟩ | ⟨a, b, _⟩ | ⟨a, b, k', c, d, _⟩
          · obtain ⟨k', c1, c2, c3⟩ := hset.2.2 j a c
            exact ⟨k', c1, c2, (hsti.2 k' c2).trans c3⟩
          · omega
          · omega
      · obtain ⟨y', y1, y2⟩ := x2 x hxe
        refine ⟨y', (rdI_j q).trans y1, y2.congr (fun j hjn => ⟨fun p => Or.inr ?_, fun p => Or.inr ?_⟩)⟩
        · rcases p with ⟨a, b, c⟩ | ⟨a, b, c⟩ | ⟨a, b, k', c, d, f⟩
          · exact Or.inl ⟨a, by omega, c⟩
          · exact Or.inr (Or.inl ⟨a, by omega, c⟩)
          · have hks := hset.2.1 k' c d
            rw [← hsti.2 k' d, f] at hks
            exact Or.inr (Or.inl ⟨by omega, by omega, by rw [a]; exact hks.2⟩)
        · rcases p with ⟨a, b, c⟩ | ⟨a, b, c⟩ | ⟨a, b, k', c, d, _⟩
          · exact Or.inl ⟨a, by omega, c⟩
          · by_cases ji : j = i
            · rw [ji] at a c
              obtain ⟨k', c1, c2, c3⟩ := hset.2.2 x a c
              exact Or.inr (Or.inr ⟨ji, a, k', c1, c2, (hsti.2 k' c2).trans c3⟩)
            · exact Or.inr (Or.inl ⟨a, by omega, c⟩)
          · omega
    · have hks := hset.2.1 k (by omega) (by omega)
      rw [← hsti.2 k (by omega)] at hks
      obtain ⟨hj, hadj⟩ := hks
      obtain ⟨z, z1, z2⟩ := x2 ((nrB I L c0 e).2 k) (by omega)
      have hzb := z2.le hu
      have tvz := vI_i (show z ≤ 900 by omega)
      have tvj := vI_i (show u ((nrB I L c0 e).2 k) ≤ 900 by have := hu ((nrB I L c0 e).2 k); omega)
      have hjN : (nrB I L c0 e).2 k < rC (fR I L c0) := by omega
      have hiN : i < rC (fR I L c0) := by omega
      have hy' := hy.add (P' := fun j => ∃ k', (nrB I L c0 i).1 ≤ k' ∧ k' < k + 1 ∧ (nrB I L c0 e).2 k' = j) hjN (fun j => ⟨fun ⟨k', a, b, c⟩ => by
        by_cases q : k' = k
        · rw [q] at c; exact Or.inr c.symm
        · exact Or.inl ⟨k', a, by omega, c⟩, fun h => by
        rcases h with ⟨k', a, b, c⟩ | h
        · exact ⟨k', a, by omega, c⟩
        · exact ⟨k, by omega, by omega, h.symm⟩⟩)
      have hz' := z2.add (P' := PPr I L (fR I L c0) (nrB I L c0 e).2 (nrB I L c0 i).1 i (k + 1) ((nrB I L c0 e).2 k)) hiN (fun j => ⟨fun h => by
        rcases h with h | h | ⟨a, _, _⟩
        · exact Or.inl (Or.inl h)
        · exact Or.inl (Or.inr (Or.inl h))
        · exact Or.inr a, fun h => by
        rcases h with (h | h | ⟨a, b, k', c, d, f⟩) | h
        · exact Or.inl h
        · exact Or.inr (Or.inl h)
        · exact Or.inr (Or.inr ⟨a, b, k', c, by omega, f⟩)
        · exact Or.inr (Or.inr ⟨h, hj, k, by omega, by omega, rfl⟩)⟩)
      have hoth : ∀ x, ¬ x = (nrB I L c0 e).2 k → ∀ y', IsMx u (rC (fR I L c0)) x y' (PPr I L (fR I L c0) (nrB I L c0 e).2 (nrB I L c0 i).1 i k x) → IsMx u (rC (fR I L c0)) x y' (PPr I L (fR I L c0) (nrB I L c0 e).2 (nrB I L c0 i).1 i (k + 1) x) := fun x hxk y' h => h.congr (fun j hjn => ⟨fun p => Or.inr (by
        rcases p with p | p | ⟨a, b, k', c, d, f⟩
        · exact Or.inl p
        · exact Or.inr (Or.inl p)
        · exact Or.inr (Or.inr ⟨a, b, k', c, by omega, f⟩)), fun p => Or.inr (by
        rcases p with p | p | ⟨a, b, k', c, d, f⟩
        · exact Or.inl p
        · exact Or.inr (Or.inl p)
        · refine Or.inr (Or.inr ⟨a, b, k', c, ?_, f⟩)
          by_cases q : k' = k
          · rw [q] at f; exact absurd f.symm hxk
          · omega)⟩)
      refine x_aload_n 4 dX0_spread_52 rfl rfl ?_
      refine x_getR fX0_25 dX0_spread_53 l78 rfl ?_
      refine x_getR fX0_96 dX0_spread_56 l74 rfl ?_
      refine x_iload_n 3 dX0_spread_59 rfl rfl ?_
      refine y_iald dX0_spread_60 l76 (by omega) (by decide) ((x1.2 76 (by decide) k).trans (hx.2.1.2 k (by omega))) ?_
      refine x_istore (lv' := [(6, _), (5, _), (4, _), (3, _), (2, _), (0, _), (1, _)]) dX0_spread_61 (by decide) rfl ?_
      refine x_aload_n 5 dX0_spread_63 rfl rfl ?_
      refine x_getR fX0_9 dX0_spread_64 l78 rfl ?_
      refine x_iload 0 dX0_spread_67 rfl ?_
      refine y_iald dX0_spread_69 l79 (by omega) (by decide) ((x1.2 79 (by decide) _).trans (hb _ (by omega))) ?_
      refine x_iload 1 dX0_spread_70 rfl ?_
      refine x_ic_le 84 dX0_spread_72 (by decide) (fun c_72 => ?_) (fun c_72 => ?_)
      · refine x_iload 2 dX0_spread_84 rfl ?_
        refine x_aload_n 5 dX0_spread_86 rfl rfl ?_
        refine x_getR fX0_15 dX0_spread_87 l78 rfl ?_
        refine x_iload 0 dX0_spread_90 rfl ?_
        refine y_iald dX0_spread_92 l80 (by omega) (by decide) z1 ?_
        refine x_ic_le 105 dX0_spread_93 (by decide) (fun c_93 => ?_) (fun c_93 => ?_)
        · refine y_iinc (lv' := [(2, _), (6, _), (5, _), (4, _), (3, _), (0, _), (1, _)]) 4 dX0_spread_105 rfl (by decide) rfl ?_
          refine x_goto 39 dX0_spread_108 (by decide) ?_
          refine x_pick (lv' := [(5, _), (4, _), (3, _), (2, _), (0, _), (1, _)]) [2, 3, 4, 0, 5, 6] rfl ?_
          
          refine ih (80001 - (k + 1)) (by omega) (k + 1) _ _ rfl ⟨by omega, by omega⟩ ⟨x1, fun x hxe => ?_⟩ (by first | (rw [Nat.max_eq_right (by omega)] at hy'; exact hy') | (rw [Nat.max_eq_left (by omega)] at hy'; exact hy'))
          by_cases q : x = (nrB I L c0 e).2 k
          · rw [q]
            exact ⟨max z (u i), by rw [Nat.max_eq_left (by omega)]; exact z1, hz'⟩
          · obtain ⟨y', y1, y2⟩ := x2 x hxe
            exact ⟨y', y1, hoth x q y' y2⟩
        · refine x_aload_n 5 dX0_spread_96 rfl rfl ?_
          refine x_getR fX0_15 dX0_spread_97 l78 rfl ?_
          refine x_iload 0 dX0_spread_100 rfl ?_
          refine x_iload 2 dX0_spread_102 rfl ?_
          refine y_iast dX0_spread_104 l80 (by omega) (by decide) ?_
          refine y_iinc (lv' := [(2, _), (6, _), (5, _), (4, _), (3, _), (0, _), (1, _)]) 4 dX0_spread_105 rfl (by decide) rfl ?_
          refine x_goto 39 dX0_spread_108 (by decide) ?_
          refine x_pick (lv' := [(5, _), (4, _), (3, _), (2, _), (0, _), (1, _)]) [2, 3, 4, 0, 5, 6] rfl ?_
          
          refine ih (80001 - (k + 1)) (by omega) (k + 1) _ _ rfl ⟨by omega, by omega⟩ ⟨x1.trans ⟨rfl, fun a ha b => rdI_k ha⟩, fun x hxe => ?_⟩ (by first | (rw [Nat.max_eq_right (by omega)] at hy'; exact hy') | (rw [Nat.max_eq_left (by omega)] at hy'; exact hy'))
          by_cases q : x = (nrB I L c0 e).2 k
          · rw [q]
            exact ⟨max z (u i), by rw [rdI_eq, Nat.max_eq_right (by omega)], hz'⟩
          · obtain ⟨y', y1, y2⟩ := x2 x hxe
            exact ⟨y', (rdI_j q).trans y1, hoth x q y' y2⟩
      · refine x_aload_n 5 dX0_spread_75 rfl rfl ?_
        refine x_getR fX0_9 dX0_spread_76 l78 rfl ?_
        refine x_iload 0 dX0_spread_79 rfl ?_
        refine y_iald dX0_spread_81 l79 (by omega) (by decide) ((x1.2 79 (by decide) _).trans (hb _ (by omega))) ?_
        refine x_istore (lv' := [(5, _), (6, _), (4, _), (3, _), (2, _), (0, _), (1, _)]) dX0_spread_82 (by decide) rfl ?_
        refine x_iload 2 dX0_spread_84 rfl ?_
        refine x_aload_n 5 dX0_spread_86 rfl rfl ?_
        refine x_getR fX0_15 dX0_spread_87 l78 rfl ?_
        refine x_iload 1 dX0_spread_90 rfl ?_
        refine y_iald dX0_spread_92 l80 (by omega) (by decide) z1 ?_
        refine x_ic_le 105 dX0_spread_93 (by decide) (fun c_93 => ?_) (fun c_93 => ?_)
        · refine y_iinc (lv' := [(2, _), (5, _), (6, _), (4, _), (3, _), (0, _), (1, _)]) 4 dX0_spread_105 rfl (by decide) rfl ?_
          refine x_goto 39 dX0_spread_108 (by decide) ?_
          refine x_pick (lv' := [(5, _), (4, _), (3, _), (2, _), (0, _), (1, _)]) [1, 3, 4, 0, 5, 6] rfl ?_
          
          refine ih (80001 - (k + 1)) (by omega) (k + 1) _ _ rfl ⟨by omega, by omega⟩ ⟨x1, fun x hxe => ?_⟩ (by first | (rw [Nat.max_eq_right (by omega)] at hy'; exact hy') | (rw [Nat.max_eq_left (by omega)] at hy'; exact hy'))
          by_cases q : x = (nrB I L c0 e).2 k
          · rw [q]
            exact ⟨max z (u i), by rw [Nat.max_eq_left (by omega)]; exact z1, hz'⟩
          · obtain ⟨y', y1, y2⟩ := x2 x hxe
            exact ⟨y', y1, hoth x q y' y2⟩
        · refine x_aload_n 5 dX0_spread_96 rfl rfl ?_
          refine x_getR fX0_15 dX0_spread_97 l78 rfl ?_
          refine x_iload 1 dX0_spread_100 rfl ?_
          refine x_iload 2 dX0_spread_102 rfl ?_
          refine y_iast dX0_spread_104 l80 (by omega) (by decide) ?_
          refine y_iinc (lv' := [(2, _), (5, _), (6, _), (4, _), (3, _), (0, _), (1, _)]) 4 dX0_spread_105 rfl (by decide) rfl ?_
          refine x_goto 39 dX0_spread_108 (by decide) ?_
          refine x_pick (lv' := [(5, _), (4, _), (3, _), (2, _), (0, _), (1, _)]) [1, 3, 4, 0, 5, 6] rfl ?_
          
          refine ih (80001 - (k + 1)) (by omega) (k + 1) _ _ rfl ⟨by omega, by omega⟩ ⟨x1.trans ⟨rfl, fun a ha b => rdI_k ha⟩, fun x hxe => ?_⟩ (by first | (rw [Nat.max_eq_right (by omega)] at hy'; exact hy') | (rw [Nat.max_eq_left (by omega)] at hy'; exact hy'))
          by_cases q : x = (nrB I L c0 e).2 k
          · rw [q]
            exact ⟨max z (u i), by rw [rdI_eq, Nat.max_eq_right (by omega)], hz'⟩
          · obtain ⟨y', y1, y2⟩ := x2 x hxe
            exact ⟨y', (rdI_j q).trans y1, hoth x q y' y2⟩

set_option maxHeartbeats 4000000 in
set_option maxRecDepth 100000 in
theorem lp_sp2 {S : St} {I : Isl} (hI : IsX 11 I S) (hO : IOK I) {L c0 e en : Nat} (h0 : OKc I L c0) (hx : SeX I L c0 e S) (hene : en ≤ e) (hN8 : rC (fR I L c0) ≤ 8525) (hN80 : (nrB I L c0 e).1 ≤ 80000) {u : Nat → Nat} (hu : ∀ i, u i ≤ 500) (hz : ∀ i, en ≤ i → u i = 0) (hb : ∀ i, i < en → S.1 79 i = vI (u i)) {u' : Nat → Nat} (hs : ∀ x, x < en → IsMx u (rC (fR I L c0)) x (u' x) (fun j => adjR I L (fR I L c0) x j))  : ∀ (i : Nat) (S1 : St), (i ≤ en) → (Fr (fun a => a = 80) S S1 ∧ ∀ x, x < en → ∃ y, S1.1 80 x = vI y ∧ IsMx u (rC (fR I L c0)) x y (PPr I L (fR I L c0) (nrB I L c0 e).2 (nrB I L c0 i).1 i (nrB I L c0 i).1 x)) → X 1 30 mX0_spread (qv (fun S' => Fr (fun a => a = 79 ∨ a = 80) S S' ∧ ∀ i, i < en → S'.1 79 i = vI (u' i))) 18 [(3, .int (nI i)), (2, .int (nI ((nrB I L c0 i).1))), (0, .ref 78), (1, .int (nI en))] [] S1 := by
  intro i S1
  induction hm : 8526 - i using Nat.strongRecOn generalizing i S1 with
  | _ mm ih =>
    intro hi hE
    have hO1 := hO.1
    have hO2 := hO.2.1
    have hO3 := hO.2.2.1
    have hO4 := hO.2.2.2.1
    have hal := hx.2.2.2.2.2.2.2
    have hen := alive_bN hO h0 hal
    have hbn := (bN_ok hO h0).2
    have hst : ∀ i, i < e → (nrB I L c0 (i + 1)).1 ≤ (nrB I L c0 e).1 ∧ ∀ k, k < (nrB I L c0 (i + 1)).1 → (nrB I L c0 e).2 k = (nrB I L c0 (i + 1)).2 k := fun i hi => by
      have h := nrB_keep (i := i + 1) hO h0 (e - (i + 1)) (by rw [show i + 1 + (e - (i + 1)) = e by omega]; exact hal)
      rw [show i + 1 + (e - (i + 1)) = e by omega] at h
      exact h
    obtain ⟨x1, x2⟩ := id hE
    have hnx : i < en → S1.1 80 i = vI (u i) := fun h => by
      obtain ⟨y, y1, y2⟩ := x2 i h
      have e := y2.one (IsMx.zero (fun j _ p => by rcases p with p | p | p <;> omega))
      rw [y1, e]
    refine x_iload_n 0 dX0_spread_18 rfl rfl ?_
    refine x_iload_n 3 dX0_spread_19 rfl rfl ?_
    refine y_ic_ge 125 dX0_spread_20 (by decide) (by omega) (by omega) (fun c_20 => ?_) (fun c_20 => ?_)
    · refine x_aload_n 2 dX0_spread_125 rfl rfl ?_
      refine x_getR fX0_15 dX0_spread_126 l78 rfl ?_
      refine x_iconst (v := nI 0) dX0_spread_129 (by decide) ?_
      refine x_aload_n 2 dX0_spread_130 rfl rfl ?_
      refine x_getR fX0_9 dX0_spread_131 l78 rfl ?_
      refine x_iconst (v := nI 0) dX0_spread_134 (by decide) ?_
      refine x_iload_n 3 dX0_spread_135 rfl rfl ?_
      refine y_acopy nX0_87 dX0_spread_136 l80 l79 (by omega) (by omega) (by decide) (by decide) (Nat.le_of_ble_eq_true rfl) (Nat.le_of_ble_eq_true rfl) (Nat.le_of_ble_eq_true rfl) ?_
      refine x_vret rfl dX0_spread_139 (by
        obtain rfl : i = en := (by omega)
        refine ⟨rfl, ⟨x1.1, fun a ha b => (cpA_k (fun q => ha (Or.inl q))).trans (x1.2 a (fun q => ha (Or.inr q)) b)⟩, fun x hxe => ?_⟩
        obtain ⟨y, y1, y2⟩ := x2 x hxe
        rw [cpA_0 hxe rfl, y1]
        have hxN : x < rC (fR I L c0) := by omega
        have e := (y2.congr (P' := fun j => adjR I L (fR I L c0) x j) (fun j hjn => ⟨fun p => Or.inr ?_, fun p => ?_⟩)).one (hs x hxe)
        · rw [e]
        · rcases p with ⟨_, _, c⟩ | ⟨_, _, c⟩ | ⟨_, _, k', c, d, _⟩
          · exact c
          · exact adjR_sym hO h0 hjn c
          · omega
        · rcases Nat.lt_trichotomy j x with q | q | q
          · exact Or.inr (Or.inl ⟨q, hxe, p⟩)
          · rw [q] at p; exact absurd p (adjR_ne hO h0 hxN)
          · by_cases hje : j < i
            · exact Or.inr (Or.inr (Or.inl ⟨q, hje, adjR_sym hO h0 hxN p⟩))
            · exact Or.inl (hz j (by omega)))
    · refine x_aload_n 2 dX0_spread_23 rfl rfl ?_
      refine x_getR fX0_9 dX0_spread_24 l78 rfl ?_
      refine x_iload_n 0 dX0_spread_27 rfl rfl ?_
      refine y_iald dX0_spread_28 l79 (by omega) (by decide) ((x1.2 79 (by decide) _).trans (hb _ (by omega))) ?_
      refine x_istore (lv' := [(4, _), (3, _), (2, _), (0, _), (1, _)]) dX0_spread_29 (by decide) rfl ?_
      refine x_aload_n 3 dX0_spread_31 rfl rfl ?_
      refine x_getR fX0_15 dX0_spread_32 l78 rfl ?_
      refine x_iload_n 1 dX0_spread_35 rfl rfl ?_
      refine y_iald dX0_spread_36 l80 (by omega) (by decide) (hnx (by omega)) ?_
      refine x_istore (lv' := [(5, _), (4, _), (3, _), (2, _), (0, _), (1, _)]) dX0_spread_37 (by decide) rfl ?_
      refine x_pick (lv' := [(5, _), (4, _), (3, _), (2, _), (0, _), (1, _)]) [0, 1, 2, 3, 4, 5] rfl ?_
      exact lp_sp1 hI hO h0 hx hene hN8 hN80 hu hz hb (by omega) (fun S2 h2 => ih (8526 - (i + 1)) (by omega) (i + 1) S2 rfl (by omega) h2) (nrB I L c0 i).1 S1 (u i) ⟨Nat.le_refl _, (hst i (by omega)).1 |> fun _ => (nrB_set (i := i) hO h0 hal (by omega)).1⟩ hE (IsMx.zero (fun j _ p => by obtain ⟨k', a, b, _⟩ := p; omega))

set_option maxHeartbeats 4000000 in
set_option maxRecDepth 100000 in
theorem c_X0_spread {S : St} {I : Isl} (hI : IsX 11 I S) (hO : IOK I) {L c0 e en : Nat} (h0 : OKc I L c0) (hx : SeX I L c0 e S) (hene : en ≤ e) (hN8 : rC (fR I L c0) ≤ 8525) (hN80 : (nrB I L c0 e).1 ≤ 80000) {u : Nat → Nat} (hu : ∀ i, u i ≤ 500) (hz : ∀ i, en ≤ i → u i = 0) (hb : ∀ i, i < en → S.1 79 i = vI (u i)) {u' : Nat → Nat} (hs : ∀ x, x < en → IsMx u (rC (fR I L c0)) x (u' x) (fun j => adjR I L (fR I L c0) x j))  : C 1 30 yX0_spread mX0_spread [.ref 78, .int (nI en)] S (qv (fun S' => Fr (fun a => a = 79 ∨ a = 80) S S' ∧ ∀ i, i < en → S'.1 79 i = vI (u' i))) := by
  have hO1 := hO.1
  have hO2 := hO.2.1
  have hO3 := hO.2.2.1
  have hO4 := hO.2.2.2.1
  have hal := hx.2.2.2.2.2.2.2
  have hen := alive_bN hO h0 hal
  have hbn := (bN_ok hO h0).2
  have hst : ∀ i, i < e → (nrB I L c0 (i + 1)).1 ≤ (nrB I L c0 e).1 ∧ ∀ k, k < (nrB I L c0 (i + 1)).1 → (nrB I L c0 e).2 k = (nrB I L c0 (i + 1)).2 k := fun i hi => by
    have h := nrB_keep (i := i + 1) hO h0 (e - (i + 1)) (by rw [show i + 1 + (e - (i + 1)) = e by omega]; exact hal)
    rw [show i + 1 + (e - (i + 1)) = e by omega] at h
    exact h
  refine C.ofX (by decide) rfl (Nat.le_of_ble_eq_true rfl) ?_
  show X 1 30 mX0_spread (qv (fun S' => Fr (fun a => a = 79 ∨ a = 80) S S' ∧ ∀ i, i < en → S'.1 79 i = vI (u' i))) 0 [(0, .ref 78), (1, .int (nI en))] [] S
  refine x_aload_n 0 dX0_spread_0 rfl rfl ?_
  refine x_getR fX0_9 dX0_spread_1 l78 rfl ?_
  refine x_iconst (v := nI 0) dX0_spread_4 (by decide) ?_
  refine x_aload_n 0 dX0_spread_5 rfl rfl ?_
  refine x_getR fX0_15 dX0_spread_6 l78 rfl ?_
  refine x_iconst (v := nI 0) dX0_spread_9 (by decide) ?_
  refine x_iload_n 1 dX0_spread_10 rfl rfl ?_
  refine y_acopy nX0_87 dX0_spread_11 l79 l80 (by omega) (by omega) (by decide) (by decide) (Nat.le_of_ble_eq_true rfl) (Nat.le_of_ble_eq_true rfl) (Nat.le_of_ble_eq_true rfl) ?_
  refine x_iconst (v := nI 0) dX0_spread_14 (by decide) ?_
  refine x_istore_n (lv' := [(2, _), (0, _), (1, _)]) dX0_spread_15 rfl (by decide) rfl ?_
  refine x_iconst (v := nI 0) dX0_spread_16 (by decide) ?_
  refine x_istore_n (lv' := [(3, _), (2, _), (0, _), (1, _)]) dX0_spread_17 rfl (by decide) rfl ?_
  refine x_pick (lv' := [(3, _), (2, _), (0, _), (1, _)]) [0, 1, 2, 3] rfl ?_
  have hh := lp_sp2 hI hO h0 hx hene hN8 hN80 hu hz hb hs 0 (cpA S 79 80 0 0 en) (Nat.zero_le _) ⟨⟨rfl, fun a ha b => cpA_k ha⟩, fun x hxe => ⟨u x, (cpA_0 hxe rfl).trans (hb x hxe), IsMx.zero (fun j _ p => by rcases p with p | p | p <;> omega)⟩⟩
  rw [show (nrB I L c0 0).1 = 0 from rfl] at hh
  exact hh

set_option maxHeartbeats 4000000 in
set_option maxRecDepth 100000 in
theorem lp_tk {S : St} {I : Isl} (hI : IsX 11 I S) (hO : IOK I) {L c0 e fr D : Nat} (h0 : OKc I L c0) (hN8 : rC (fR I L c0) ≤ 8525) (he : rC (bfs I L c0 e) = e ∨ (e < rC (bfs I L c0 e) ∧ D < rD (bfs I L c0 e) e)) (hD : D < 100) {u : Nat → Nat} (hz : ∀ i, fr ≤ i → 0 < i → u i = 0)  : ∀ (i : Nat) (S1 : St), (fr ≤ i ∧ i ≤ rC (bfs I L c0 e)) → (∀ j, j < i → rD (fR I L c0) j ≤ D) → (Fr FDy S S1 ∧ SeX I L c0 e S1 ∧ S1.1 79 0 = vI (u 0) ∧ (∀ j, j < i → S1.1 79 j = vI (u j) ∧ S1.1 81 j = nI (dbF I (digF (rK (fR I L c0) j)) (iW I)))) → X 3 90 mX0_takeOn (qi (fun r S' => ∃ en, r = nI en ∧ fr ≤ en ∧ en ≤ e ∧ Fr FDy S S' ∧ SeX I L c0 e S' ∧ (∀ i, i < en → rD (fR I L c0) i ≤ D) ∧ (en = rC (fR I L c0) ∨ (en < rC (fR I L c0) ∧ D < rD (fR I L c0) en)) ∧ S'.1 79 0 = vI (u 0) ∧ (∀ j, j < en → S'.1 79 j = vI (u j) ∧ S'.1 81 j = nI (dbF I (digF (rK (fR I L c0) j)) (iW I))))) 2 [(3, .int (nI i)), (0, .ref 78), (1, .int (nI fr)), (2, .int (nI D))] [] S1 := by
  intro i S1
  induction hm : 8526 - i using Nat.strongRecOn generalizing i S1 with
  | _ mm ih =>
    intro hi hd hE
    have hO1 := hO.1
    have hO2 := hO.2.1
    have hO3 := hO.2.2.1
    have hO4 := hO.2.2.2.1
    obtain ⟨x1, x2, x3, x4⟩ := id hE
    have hal := x2.2.2.2.2.2.2.2
    have hpf := fR_pre hO h0 hal
    have hpl := hpf.1
    have hen := alive_bN hO h0 hal
    have hbn := (bN_ok hO h0).2
    have hI1 : IsX 11 I S1 := hI.keep (fun a h1 h2 b => x1.2 a (by unfold FDy FS; omega) b)
    have hok := (bfs_inv hO h0 e hal).2.2.1 i
    have hpi := hpf.2 i
    have hdd := (bfs_inv hO h0 e hal).dle i
    have hfl := fun q => fR_full hO h0 hal q
    have hie : i ≤ e := by
      rcases Nat.lt_or_ge e i with q | q
      · have h1 := hd e q
        rcases he with h | h
        · have := hfl h; omega
        · have := (hpf.2 e h.1).2.2.2; omega
      · exact q
    refine x_iload_n 0 dX0_takeOn_2 rfl rfl ?_
    refine x_sipush (v := nI 8525) dX0_takeOn_3 (by decide +kernel) ?_
    refine y_ic_ge 79 dX0_takeOn_6 (by decide) (by omega) (by omega) (fun c_6 => ?_) (fun c_6 => ?_)
    · refine x_sipush (v := nI 8525) dX0_takeOn_79 (by decide +kernel) ?_
      refine x_iret rfl dX0_takeOn_82 (by
        obtain rfl : i = 8525 := (by omega)
        exact ⟨_, rfl, 8525, rfl, hi.1, hie, x1, x2, hd, Or.inl (by omega), x3, x4⟩)
    · refine x_iload_n 0 dX0_takeOn_9 rfl rfl ?_
      refine x_aload_n 1 dX0_takeOn_10 rfl rfl ?_
      refine x_getR fX0_25 dX0_takeOn_11 l78 rfl ?_
      refine x_callVu (as := []) (rest := [_]) vX0_72 (c_X6_found hI1 hO x2) dX0_takeOn_14 l74 rfl rfl rfl (Nat.le_of_ble_eq_true rfl) (Nat.le_of_ble_eq_true rfl) (Nat.le_of_ble_eq_true rfl) ?_
      refine y_ic_ge 32 dX0_takeOn_17 (by decide) (by omega) (by omega) (fun c_17 => ?_) (fun c_17 => ?_)
      · refine x_iload_n 0 dX0_takeOn_32 rfl rfl ?_
        refine x_iret rfl dX0_takeOn_33 (by
          refine ⟨_, rfl, i, rfl, hi.1, hie, x1, x2, hd, ?_, x3, x4⟩
          first
          | (have hpi2 := hpi (by omega)
             exact Or.inr ⟨by omega, by omega⟩)
          | (rcases he with h | h
             · have := hfl h
               exact Or.inl (by omega)
             · omega))
      · refine x_aload_n 1 dX0_takeOn_20 rfl rfl ?_
        refine x_getR fX0_25 dX0_takeOn_21 l78 rfl ?_
        refine x_iload_n 0 dX0_takeOn_24 rfl rfl ?_
        refine x_callVu (as := [_]) (rest := []) vX0_75 (c_X6_depthOf hI1 hO h0 x2 (by omega)) dX0_takeOn_25 l74 rfl rfl rfl (Nat.le_of_ble_eq_true rfl) (Nat.le_of_ble_eq_true rfl) (Nat.le_of_ble_eq_true rfl) ?_
        have hdi := hdd (by omega)
        refine x_iload_n 3 dX0_takeOn_28 rfl rfl ?_
        refine y_ic_le 34 dX0_takeOn_29 (by decide) (by omega) (by omega) (fun c_29 => ?_) (fun c_29 => ?_)
        · refine x_iload_n 0 dX0_takeOn_34 rfl rfl ?_
          refine y_if_le 45 dX0_takeOn_35 (by decide) (by omega) (fun c_35 => ?_) (fun c_35 => ?_)
          · have hkk : ∀ a b, ¬ a = 79 → S1.1 a b = S1.1 a b := fun a b q => rfl
            have hx2 := x2
            have hcc : ∀ j, j ≤ i → S1.1 79 j = vI (u j) := fun j hj => by
              rw [show j = 0 by omega]; exact x3
            have hc0 := x3
            refine x_aload_n 1 dX0_takeOn_45 rfl rfl ?_
            refine x_getR fX0_34 dX0_takeOn_46 l78 rfl ?_
            refine x_aload_n 1 dX0_takeOn_49 rfl rfl ?_
            refine x_getR fX0_25 dX0_takeOn_50 l78 rfl ?_
            refine x_iload_n 0 dX0_takeOn_53 rfl rfl ?_
            refine x_callVu (as := [_]) (rest := [_]) vX0_79 (c_X6_codeOf (hI1.keep (fun a h1 h2 b => hkk a b (by omega))) hO h0 hx2 (by omega)) dX0_takeOn_54 l74 rfl rfl rfl (Nat.le_of_ble_eq_true rfl) (Nat.le_of_ble_eq_true rfl) (Nat.le_of_ble_eq_true rfl) ?_
            refine x_callVqv (as := [_]) (rest := []) vX0_82 (c_X3_decode (Or.inr (Or.inr (Or.inr (Or.inl rfl)))) (hI1.keep (fun a h1 h2 b => hkk a b (by omega))) hO ((hok (by omega)).lt hO) ((hok (by omega)).2.ok hO)) dX0_takeOn_57 l50 rfl rfl rfl (Nat.le_of_ble_eq_true rfl) (Nat.le_of_ble_eq_true rfl) (Nat.le_of_ble_eq_true rfl) (fun S_57 q_57 => ?_)
            have hI3 : IsX 11 I S_57 := hI1.keep (fun a h1 h2 b => (q_57.1.2 a (by omega) b).trans (hkk a b (by omega)))
            refine x_aload_n 1 dX0_takeOn_60 rfl rfl ?_
            refine x_getR fX0_18 dX0_takeOn_61 l78 rfl ?_
            refine x_iload_n 0 dX0_takeOn_64 rfl rfl ?_
            refine x_aload_n 1 dX0_takeOn_65 rfl rfl ?_
            refine x_getR fX0_34 dX0_takeOn_66 l78 rfl ?_
            refine x_callVu (as := []) (rest := [_, _]) vX0_85 (c_X3_doable (Or.inr (Or.inr (Or.inr (Or.inl rfl)))) hI3 hO q_57.2) dX0_takeOn_69 l50 rfl rfl rfl (Nat.le_of_ble_eq_true rfl) (Nat.le_of_ble_eq_true rfl) (Nat.le_of_ble_eq_true rfl) ?_
            refine y_iast dX0_takeOn_72 l81 (by omega) (by decide) ?_
            refine y_iinc (lv' := [(3, _), (0, _), (1, _), (2, _)]) 0 dX0_takeOn_73 rfl (by decide) rfl ?_
            refine x_goto 2 dX0_takeOn_76 (by decide) ?_
            refine x_pick (lv' := [(3, _), (0, _), (1, _), (2, _)]) [0, 1, 2, 3] rfl ?_
            have hpi2 := hpi (by omega)
            refine ih (8526 - (i + 1)) (by omega) (i + 1) _ rfl ⟨by omega, by omega⟩ (fun j hj => by rcases Nat.lt_succ_iff_lt_or_eq.mp hj with h | h; exact hd j h; subst h; rw [hpi2.2.2.2]; omega) ⟨x1.trans ⟨q_57.1.1, fun a ha b => ?_⟩, hx2.keep (fun a b ha => (rdI_k (by omega)).trans (q_57.1.2 a (by omega) b)) ((rdI_k (by decide)).trans (q_57.1.2 45 (by omega) 5)), (rdI_k (by decide)).trans ((q_57.1.2 79 (by omega) 0).trans hc0), fun j hj => ⟨(rdI_k (by decide)).trans ((q_57.1.2 79 (by omega) j).trans (hcc j (by omega))), ?_⟩⟩
            · unfold FDy at ha
              exact (rdI_k (by omega)).trans ((q_57.1.2 a (by omega) b).trans (hkk a b (by omega)))
            · by_cases q : j = i
              · rw [q, rdI_eq, hpi2.1]
              · exact (rdI_j q).trans ((q_57.1.2 81 (by omega) j).trans ((hkk 81 j (by decide)).trans (x4 j (by omega)).2))
          · refine x_aload_n 1 dX0_takeOn_38 rfl rfl ?_
            refine x_getR fX0_9 dX0_takeOn_39 l78 rfl ?_
            refine x_iload_n 0 dX0_takeOn_42 rfl rfl ?_
            refine x_iconst (v := -1) dX0_takeOn_43 (by decide) ?_
            refine y_iast dX0_takeOn_44 l79 (by omega) (by decide) ?_
            have hkk : ∀ a b, ¬ a = 79 → (setI S1 79 i (-1)).1 a b = S1.1 a b := fun a b q => rdI_k q
            have hx2 : SeX I L c0 e (setI S1 79 i (-1)) := x2.keep (fun a b ha => rdI_k (by omega)) (rdI_k (by decide))
            have hcc : ∀ j, j ≤ i → (setI S1 79 i (-1)).1 79 j = vI (u j) := fun j hj => by
              by_cases q : j = i
              · rw [q, rdI_eq, hz i hi.1 (by omega), vI_0]
              · rw [rdI_j q]; exact (x4 j (by omega)).1
            have hc0 : (setI S1 79 i (-1)).1 79 0 = vI (u 0) := by rw [rdI_j (by omega)]; exact x3
            refine x_aload_n 1 dX0_takeOn_45 rfl rfl ?_
            refine x_getR fX0_34 dX0_takeOn_46 l78 rfl ?_
            refine x_aload_n 1 dX0_takeOn_49 rfl rfl ?_
            refine x_getR fX0_25 dX0_takeOn_50 l78 rfl ?_
            refine x_iload_n 0 dX0_takeOn_53 rfl rfl ?_
            refine x_callVu (as := [_]) (rest := [_]) vX0_79 (c_X6_codeOf (hI1.keep (fun a h1 h2 b => hkk a b (by omega))) hO h0 hx2 (by omega)) dX0_takeOn_54 l74 rfl rfl rfl (Nat.le_of_ble_eq_true rfl) (Nat.le_of_ble_eq_true rfl) (Nat.le_of_ble_eq_true rfl) ?_
            refine x_callVqv (as := [_]) (rest := []) vX0_82 (c_X3_decode (Or.inr (Or.inr (Or.inr (Or.inl rfl)))) (hI1.keep (fun a h1 h2 b => hkk a b (by omega))) hO ((hok (by omega)).lt hO) ((hok (by omega)).2.ok hO)) dX0_takeOn_57 l50 rfl rfl rfl (Nat.le_of_ble_eq_true rfl) (Nat.le_of_ble_eq_true rfl) (Nat.le_of_ble_eq_true rfl) (fun S_57 q_57 => ?_)
            have hI3 : IsX 11 I S_57 := hI1.keep (fun a h1 h2 b => (q_57.1.2 a (by omega) b).trans (hkk a b (by omega)))
            refine x_aload_n 1 dX0_takeOn_60 rfl rfl ?_
            refine x_getR fX0_18 dX0_takeOn_61 l78 rfl ?_
            refine x_iload_n 0 dX0_takeOn_64 rfl rfl ?_
            refine x_aload_n 1 dX0_takeOn_65 rfl rfl ?_
            refine x_getR fX0_34 dX0_takeOn_66 l78 rfl ?_
            refine x_callVu (as := []) (rest := [_, _]) vX0_85 (c_X3_doable (Or.inr (Or.inr (Or.inr (Or.inl rfl)))) hI3 hO q_57.2) dX0_takeOn_69 l50 rfl rfl rfl (Nat.le_of_ble_eq_true rfl) (Nat.le_of_ble_eq_true rfl) (Nat.le_of_ble_eq_true rfl) ?_
            refine y_iast dX0_takeOn_72 l81 (by omega) (by decide) ?_
            refine y_iinc (lv' := [(3, _), (0, _), (1, _), (2, _)]) 0 dX0_takeOn_73 rfl (by decide) rfl ?_
            refine x_goto 2 dX0_takeOn_76 (by decide) ?_
            refine x_pick (lv' := [(3, _), (0, _), (1, _), (2, _)]) [0, 1, 2, 3] rfl ?_
            have hpi2 := hpi (by omega)
            refine ih (8526 - (i + 1)) (by omega) (i + 1) _ rfl ⟨by omega, by omega⟩ (fun j hj => by rcases Nat.lt_succ_iff_lt_or_eq.mp hj with h | h; exact hd j h; subst h; rw [hpi2.2.2.2]; omega) ⟨x1.trans ⟨q_57.1.1, fun a ha b => ?_⟩, hx2.keep (fun a b ha => (rdI_k (by omega)).trans (q_57.1.2 a (by omega) b)) ((rdI_k (by decide)).trans (q_57.1.2 45 (by omega) 5)), (rdI_k (by decide)).trans ((q_57.1.2 79 (by omega) 0).trans hc0), fun j hj => ⟨(rdI_k (by decide)).trans ((q_57.1.2 79 (by omega) j).trans (hcc j (by omega))), ?_⟩⟩
            · unfold FDy at ha
              exact (rdI_k (by omega)).trans ((q_57.1.2 a (by omega) b).trans (hkk a b (by omega)))
            · by_cases q : j = i
              · rw [q, rdI_eq, hpi2.1]
              · exact (rdI_j q).trans ((q_57.1.2 81 (by omega) j).trans ((hkk 81 j (by decide)).trans (x4 j (by omega)).2))
        · refine x_iload_n 0 dX0_takeOn_32 rfl rfl ?_
          refine x_iret rfl dX0_takeOn_33 (by
            refine ⟨_, rfl, i, rfl, hi.1, hie, x1, x2, hd, ?_, x3, x4⟩
            first
            | (have hpi2 := hpi (by omega)
               exact Or.inr ⟨by omega, by omega⟩)
            | (rcases he with h | h
               · have := hfl h
                 exact Or.inl (by omega)
               · omega))

set_option maxHeartbeats 4000000 in
set_option maxRecDepth 100000 in
theorem c_X0_takeOn {S : St} {I : Isl} (hI : IsX 11 I S) (hO : IOK I) {L c0 e fr D : Nat} (h0 : OKc I L c0) (hN8 : rC (fR I L c0) ≤ 8525) (he : rC (bfs I L c0 e) = e ∨ (e < rC (bfs I L c0 e) ∧ D < rD (bfs I L c0 e) e)) (hD : D < 100) {u : Nat → Nat} (hz : ∀ i, fr ≤ i → 0 < i → u i = 0) (hx : SeX I L c0 e S) (hfr : fr ≤ rC (bfs I L c0 e)) (hd : ∀ j, j < fr → rD (fR I L c0) j ≤ D) (hb0 : S.1 79 0 = vI (u 0)) (hb : (∀ j, j < fr → S.1 79 j = vI (u j) ∧ S.1 81 j = nI (dbF I (digF (rK (fR I L c0) j)) (iW I))))  : C 3 90 yX0_takeOn mX0_takeOn [.ref 78, .int (nI fr), .int (nI D)] S (qi (fun r S' => ∃ en, r = nI en ∧ fr ≤ en ∧ en ≤ e ∧ Fr FDy S S' ∧ SeX I L c0 e S' ∧ (∀ i, i < en → rD (fR I L c0) i ≤ D) ∧ (en = rC (fR I L c0) ∨ (en < rC (fR I L c0) ∧ D < rD (fR I L c0) en)) ∧ S'.1 79 0 = vI (u 0) ∧ (∀ j, j < en → S'.1 79 j = vI (u j) ∧ S'.1 81 j = nI (dbF I (digF (rK (fR I L c0) j)) (iW I))))) := by
  refine C.ofX (by decide) rfl (Nat.le_of_ble_eq_true rfl) ?_
  show X 3 90 mX0_takeOn (qi (fun r S' => ∃ en, r = nI en ∧ fr ≤ en ∧ en ≤ e ∧ Fr FDy S S' ∧ SeX I L c0 e S' ∧ (∀ i, i < en → rD (fR I L c0) i ≤ D) ∧ (en = rC (fR I L c0) ∨ (en < rC (fR I L c0) ∧ D < rD (fR I L c0) en)) ∧ S'.1 79 0 = vI (u 0) ∧ (∀ j, j < en → S'.1 79 j = vI (u j) ∧ S'.1 81 j = nI (dbF I (digF (rK (fR I L c0) j)) (iW I))))) 0 [(0, .ref 78), (1, .int (nI fr)), (2, .int (nI D))] [] S
  refine x_iload_n 1 dX0_takeOn_0 rfl rfl ?_
  refine x_istore_n (lv' := [(3, _), (0, _), (1, _), (2, _)]) dX0_takeOn_1 rfl (by decide) rfl ?_
  refine x_pick (lv' := [(3, _), (0, _), (1, _), (2, _)]) [0, 1, 2, 3] rfl ?_
  exact lp_tk hI hO h0 hN8 he hD hz fr S ⟨Nat.le_refl _, hfr⟩ hd ⟨Fr.refl, hx, hb0, hb⟩

/-- what the works W bring where i is -/ 
noncomputable def gW (I : Isl) (R : Rs) (W i : Nat) : Nat := wthF I (dbF I (digF (rK R i)) (iW I) &&& W)
theorem gW_0 (I : Isl) (R : Rs) (i : Nat) : gW I R 0 i = 0 := by unfold gW; rw [Nat.and_zero]; exact wth_0

set_option maxHeartbeats 4000000 in
set_option maxRecDepth 100000 in
theorem lp_ga {S : St} {I : Isl} (hI : IsX 11 I S) (hO : IOK I) (hT : IsT I S) {L c0 en W : Nat} (hW : W < 2 ^ iW I) (hen : en ≤ 8525) {u : Nat → Nat} (hb : (∀ j, j < en → S.1 79 j = vI (u j) ∧ S.1 81 j = nI (dbF I (digF (rK (fR I L c0) j)) (iW I))))  : ∀ (i : Nat), (i ≤ en) → X 1 30 mX0_gain (qv (fun S' => Fr (fun a => a = 79) S S' ∧ ∀ i, i < en → S'.1 79 i = vI (u i + gW I (fR I L c0) W i))) 7 [(3, .int (nI i)), (0, .ref 78), (1, .int (nI W)), (2, .int (nI en))] [] (rwS S 79 0 i (fun i => vI (u i + gW I (fR I L c0) W i))) := by
  intro i
  induction hm : 8526 - i using Nat.strongRecOn generalizing i with
  | _ mm ih =>
    intro hi
    have hO1 := hO.1
    have hO2 := hO.2.1
    have hO3 := hO.2.2.1
    have hO4 := hO.2.2.2.1
    have h79 : i < en → (rwS S 79 0 i (fun i => vI (u i + gW I (fR I L c0) W i))).1 79 i = vI (u i) := fun h => by rw [rwS_d, if_neg (by omega)]; exact (hb i h).1
    have h8 : 2 ^ iW I ≤ 2 ^ 8 := Nat.pow_le_pow_right (by decide) hO3
    have hdW : dbF I (digF (rK (fR I L c0) i)) (iW I) &&& W < 2 ^ iW I := and_lt hW
    have hgW : (rwS S 79 0 i (fun i => vI (u i + gW I (fR I L c0) W i))).1 22 (dbF I (digF (rK (fR I L c0) i)) (iW I) &&& W) = nI (gW I (fR I L c0) W i) := (rwS_k (by decide)).trans (hT.2 _ hdW)
    refine x_iload_n 0 dX0_gain_7 rfl rfl ?_
    refine x_iload_n 3 dX0_gain_8 rfl rfl ?_
    refine y_ic_ge 42 dX0_gain_9 (by decide) (by omega) (by omega) (fun c_9 => ?_) (fun c_9 => ?_)
    · refine x_vret rfl dX0_gain_42 (by obtain rfl : i = en := (by omega); exact ⟨rfl, ⟨rfl, fun a ha b => rwS_k ha⟩, fun j hj => rwS_at0 hj⟩)
    · refine x_aload_n 1 dX0_gain_12 rfl rfl ?_
      refine x_getR fX0_9 dX0_gain_13 l78 rfl ?_
      refine x_iload_n 0 dX0_gain_16 rfl rfl ?_
      refine x_dup2 dX0_gain_17 rfl rfl ?_
      refine y_iald dX0_gain_18 l79 (by omega) (by decide) (h79 (by omega)) ?_
      refine x_aload_n 1 dX0_gain_19 rfl rfl ?_
      refine x_getR fX0_21 dX0_gain_20 l78 rfl ?_
      refine x_aload_n 1 dX0_gain_23 rfl rfl ?_
      refine x_getR fX0_18 dX0_gain_24 l78 rfl ?_
      refine x_iload_n 0 dX0_gain_27 rfl rfl ?_
      refine y_iald dX0_gain_28 l81 (by omega) (by decide) ((rwS_k (by decide)).trans (hb i (by omega)).2) ?_
      refine x_iload_n 2 dX0_gain_29 rfl rfl ?_
      refine y_iand dX0_gain_30 ?_
      refine x_callVu (as := [_]) (rest := [_, _, _]) vX0_99 (c_X1_worthOf (by omega) hgW) dX0_gain_31 l11 rfl rfl rfl (Nat.le_of_ble_eq_true rfl) (Nat.le_of_ble_eq_true rfl) (Nat.le_of_ble_eq_true rfl) ?_
      refine x_iadd dX0_gain_34 ?_
      rw [vI_add]
      refine y_iast dX0_gain_35 l79 (by omega) (by decide) ?_
      refine y_iinc (lv' := [(3, _), (0, _), (1, _), (2, _)]) 0 dX0_gain_36 rfl (by decide) rfl ?_
      refine x_goto 7 dX0_gain_39 (by decide) ?_
      refine x_pick (lv' := [(3, _), (0, _), (1, _), (2, _)]) [0, 1, 2, 3] rfl ?_
      refine x_cast (rwS_s0 S 79 i (fun i => vI (u i + gW I (fR I L c0) W i))) ?_
      exact ih (8526 - (i + 1)) (by omega) (i + 1) rfl (by omega)

set_option maxHeartbeats 4000000 in
set_option maxRecDepth 100000 in
theorem c_X0_gain {S : St} {I : Isl} (hI : IsX 11 I S) (hO : IOK I) (hT : IsT I S) {L c0 en W : Nat} (hW : W < 2 ^ iW I) (hen : en ≤ 8525) {u : Nat → Nat} (hb : (∀ j, j < en → S.1 79 j = vI (u j) ∧ S.1 81 j = nI (dbF I (digF (rK (fR I L c0) j)) (iW I))))  : C 1 30 yX0_gain mX0_gain [.ref 78, .int (nI W), .int (nI en)] S (qv (fun S' => Fr (fun a => a = 79) S S' ∧ ∀ i, i < en → S'.1 79 i = vI (u i + gW I (fR I L c0) W i))) := by
  have hO1 := hO.1
  have hO2 := hO.2.1
  have hO3 := hO.2.2.1
  have hO4 := hO.2.2.2.1
  have h8 : 2 ^ iW I ≤ 2 ^ 8 := Nat.pow_le_pow_right (by decide) hO3
  refine C.ofX (by decide) rfl (Nat.le_of_ble_eq_true rfl) ?_
  show X 1 30 mX0_gain (qv (fun S' => Fr (fun a => a = 79) S S' ∧ ∀ i, i < en → S'.1 79 i = vI (u i + gW I (fR I L c0) W i))) 0 [(0, .ref 78), (1, .int (nI W)), (2, .int (nI en))] [] S
  refine x_iload_n 1 dX0_gain_0 rfl rfl ?_
  refine y_if_ne 5 dX0_gain_1 (by decide) (by omega) (fun c_1 => ?_) (fun c_1 => ?_)
  · refine x_iconst (v := nI 0) dX0_gain_5 (by decide) ?_
    refine x_istore_n (lv' := [(3, _), (0, _), (1, _), (2, _)]) dX0_gain_6 rfl (by decide) rfl ?_
    refine x_pick (lv' := [(3, _), (0, _), (1, _), (2, _)]) [0, 1, 2, 3] rfl ?_
    have hh := lp_ga (L := L) (c0 := c0) hI hO hT hW hen hb 0 (Nat.zero_le _)
    rw [rwS_0] at hh
    exact hh
  · refine x_vret rfl dX0_gain_4 ⟨rfl, Fr.refl, fun i hi => by rw [c_1, gW_0, Nat.add_zero]; exact (hb i hi).1⟩

