/-! ===== pure: an island written sign by sign is read as it was meant ===== -/
def ltr (k : Nat) : Nat := if k = 0 then 116 else if k = 1 then 98 else if k = 2 then 108 else if k = 3 then 104 else if k = 4 then 115 else 101
def sgP (p : Nat) : Nat := if p = 4 then 122 else 48 + p
theorem ltr_ok : ∀ k, k < 6 → kdF (ltr k) = k ∧ ¬ ltr k = 32 ∧ ¬ ltr k = 119 ∧ ltr k < 128 := by decide
def LT (n0 : Nat) (kd pl : Nat → Nat) : Nat → List Nat
  | 0 => [32, 112, 48 + n0]
  | t + 1 => LT n0 kd pl t ++ [ltr (kd t), sgP (pl t)]
def TG (n0 : Nat) (kd pl : Nat → Nat) : Nat → Isl
  | 0 => islP isl0 n0
  | t + 1 => addT (TG n0 kd pl t) (kd t) (pl t)
def FG (s : Nat) : Nat → List Nat
  | 0 => []
  | t + 1 => FG s t ++ (if s.testBit t = true then [48 + t] else [])
def LW (l0 : List Nat) (m : Nat) (V : Nat → Nat → Nat) : Nat → List Nat
  | 0 => l0
  | w + 1 => LW l0 m V w ++ ([119, 48 + V w 0, 48 + V w 1] ++ (FG (V w 2) m ++ [58, 48 + V w 3]))
def VG (I0 : Isl) (V : Nat → Nat → Nat) : Nat → Isl
  | 0 => I0
  | w + 1 => addV (VG I0 V w) (V w 0) (V w 1) (V w 2) (V w 3)
def chL (l : List Nat) (i : Nat) : Nat := if i < 100 then l.getD i 32 else 256
theorem gd_app {a b : List Nat} {j d : Nat} : (a ++ b).getD (a.length + j) d = b.getD j d := by
  rw [List.getD_eq_getElem?_getD, List.getD_eq_getElem?_getD, List.getElem?_append_right (Nat.le_add_right _ _), Nat.add_sub_cancel_left]
theorem gd_left {a b : List Nat} {j d : Nat} (h : j < a.length) : (a ++ b).getD j d = a.getD j d := by
  rw [List.getD_eq_getElem?_getD, List.getD_eq_getElem?_getD, List.getElem?_append_left h]
theorem gd_out {a : List Nat} {j d : Nat} (h : a.length ≤ j) : a.getD j d = d := by
  rw [List.getD_eq_getElem?_getD, List.getElem?_eq_none h]
  rfl
theorem chL_app {a b : List Nat} {j : Nat} (h : a.length + j < 100) : chL (a ++ b) (a.length + j) = b.getD j 32 := by
  unfold chL
  rw [if_pos h, gd_app]
theorem prs_T {a r : List Nat} {k p f : Nat} {I : Isl} (h100 : (a ++ (ltr k :: sgP p :: r)).length ≤ 100) (hk : k ≤ 5) (hI : PI I) (hP : ¬ iP I = 0) (hw : iW I = 0) (hm : iM I < 5) (hb : bagK k → iB I < 2) (hpl : p < iP I ∨ (p = 4 ∧ ¬ livK k)) (hld : ¬ p = 4 → loadF I (iS I) p + wt k ≤ 3) :
    prs (chL (a ++ (ltr k :: sgP p :: r))) 100 (f + 1) a.length I = prs (chL (a ++ (ltr k :: sgP p :: r))) 100 f (a.length + 2) (addT I k p) := by
  have hlen : a.length + 2 ≤ 100 := by
    rw [List.length_append, List.length_cons, List.length_cons] at h100
    omega
  have c0 : chL (a ++ (ltr k :: sgP p :: r)) a.length = ltr k := chL_app (j := 0) (by omega)
  have c1 : chL (a ++ (ltr k :: sgP p :: r)) (a.length + 1) = sgP p := chL_app (j := 1) (by omega)
  generalize chL (a ++ (ltr k :: sgP p :: r)) = c at c0 c1 ⊢
  obtain ⟨e1, e2, e3, -⟩ := ltr_ok k (by omega)
  have hP4 := hI.1.1
  have hmt : mayT c a.length I := ⟨by rw [c0, e1]; omega, hw, by omega, fun q => by
    rw [c0, e1] at q
    have := hb q.1
    omega⟩
  have epl : plT c a.length = p := by
    unfold plT
    rw [c1]
    unfold sgP
    by_cases q : p = 4
    · rw [if_pos q, if_pos rfl]; exact q.symm
    · rw [if_neg q, if_neg (by omega)]; omega
  have hft : fineT c a.length I := by
    unfold fineT
    rw [c1, c0, e1]
    unfold sgP
    by_cases q : p = 4
    · rw [if_pos q]
      rcases hpl with h | h
      · omega
      · exact Or.inl ⟨rfl, h.2⟩
    · rw [if_neg q]
      rcases hpl with h | h
      · exact Or.inr ⟨by omega, by omega, by rw [show 48 + p - 48 = p by omega]; exact hld q⟩
      · exact absurd h.1 q
  have hit : item c a.length I = (a.length + 2, addT I k p, true) := by
    rw [item_T hP (by rw [c0]; exact e3), rdT_2 hmt hft, c0, e1, epl]
  rw [prs_t (by omega) (by rw [c0]; exact e2) (by rw [hit]), hit]
theorem FG_len (s : Nat) : ∀ t, (FG s t).length ≤ t
  | 0 => Nat.le_refl _
  | t + 1 => by
    have ih := FG_len s t
    show (FG s t ++ (if s.testBit t = true then [48 + t] else [])).length ≤ t + 1
    rw [List.length_append]
    split
    · show (FG s t).length + 1 ≤ t + 1; omega
    · show (FG s t).length + 0 ≤ t + 1; omega
theorem FG_pre (s : Nat) {t : Nat} : ∀ d, ∃ r, FG s (t + d) = FG s t ++ r
  | 0 => ⟨[], (List.append_nil _).symm⟩
  | d + 1 => by
    obtain ⟨r, h⟩ := FG_pre s d
    exact ⟨r ++ (if s.testBit (t + d) = true then [48 + (t + d)] else []), by
      show FG s (t + d) ++ (if s.testBit (t + d) = true then [48 + (t + d)] else []) = _
      rw [h, List.append_assoc]⟩
theorem FG_at {s t m : Nat} (ht : t < m) (hb : s.testBit t = true) (r : List Nat) : (FG s m ++ r).getD (FG s t).length 32 = 48 + t := by
  obtain ⟨r2, h⟩ := FG_pre s (t := t + 1) (m - (t + 1))
  rw [show t + 1 + (m - (t + 1)) = m by omega] at h
  have e : FG s (t + 1) = FG s t ++ [48 + t] := by
    show FG s t ++ _ = _
    rw [if_pos hb]
  rw [h, e, List.append_assoc, List.append_assoc]
  exact gd_app (j := 0)
theorem FG_wk {c : Nat → Nat} {P m s : Nat} {r : List Nat} (hm : m ≤ 4) (hs : s < 2 ^ m) (hc : ∀ j, j ≤ (FG s m).length → c (P + j) = (FG s m ++ (58 :: r)).getD j 32) : ∀ t, t ≤ m →
    wkF c m P (5 - (FG s t).length) (FG s t).length = wkF c m P 5 0 ∧ wqF c P (FG s t).length = s % 2 ^ t
  | 0, _ => ⟨rfl, by
      show 0 = s % 2 ^ 0
      rw [Nat.pow_zero, Nat.mod_one]⟩
  | t + 1, ht => by
    obtain ⟨h1, h2⟩ := FG_wk hm hs hc t (by omega)
    have hl := FG_len s t
    by_cases hb : s.testBit t = true
    · have e : FG s (t + 1) = FG s t ++ [48 + t] := by
        show FG s t ++ _ = _
        rw [if_pos hb]
      have el : (FG s (t + 1)).length = (FG s t).length + 1 := by rw [e, List.length_append]; rfl
      obtain ⟨r2, h⟩ := FG_pre s (t := t + 1) (m - (t + 1))
      rw [show t + 1 + (m - (t + 1)) = m by omega] at h
      have hle : (FG s t).length ≤ (FG s m).length := by rw [h, List.length_append, el]; omega
      have hcv := (hc _ hle).trans (FG_at (show t < m by omega) hb _)
      have hg : wgood c m P (FG s t).length := by
        unfold wgood
        rw [hcv, h2, show 48 + t - 48 = t by omega, Nat.testBit_mod_two_pow]
        refine ⟨by omega, by omega, ?_⟩
        rw [decide_eq_false (by omega), Bool.false_and]
      rw [el]
      refine ⟨by rw [← wk_t (by omega) hg]; exact h1, ?_⟩
      rw [wqF, h2, hcv, show 48 + t - 48 = t by omega]
      refine Nat.eq_of_testBit_eq fun i => ?_
      rw [Nat.testBit_or, Nat.testBit_mod_two_pow, Nat.testBit_mod_two_pow]
      by_cases q : i = t
      · subst q
        rw [Nat.testBit_two_pow_self, Bool.or_true, hb, decide_eq_true (by omega)]
        rfl
      · rw [Nat.testBit_two_pow_of_ne (fun z => q z.symm), Bool.or_false]
        by_cases z : i < t
        · rw [decide_eq_true z, decide_eq_true (show i < t + 1 by omega)]
        · rw [decide_eq_false z, decide_eq_false (show ¬ i < t + 1 by omega)]
    · have e : FG s (t + 1) = FG s t := by
        show FG s t ++ _ = _
        rw [if_neg hb, List.append_nil]
      rw [e]
      refine ⟨h1, h2.trans ?_⟩
      refine Nat.eq_of_testBit_eq fun i => ?_
      rw [Nat.testBit_mod_two_pow, Nat.testBit_mod_two_pow]
      by_cases q : i = t
      · subst q
        rw [show s.testBit i = false from by cases h : s.testBit i with
          | false => rfl
          | true => exact absurd h hb, Bool.and_false, Bool.and_false]
      · by_cases z : i < t
        · rw [decide_eq_true z, decide_eq_true (show i < t + 1 by omega)]
        · rw [decide_eq_false z, decide_eq_false (show ¬ i < t + 1 by omega)]
theorem FG_all {c : Nat → Nat} {P m s : Nat} {r : List Nat} (hm : m ≤ 4) (hs : s < 2 ^ m) (hc : ∀ j, j ≤ (FG s m).length → c (P + j) = (FG s m ++ (58 :: r)).getD j 32) : wK c m P = (FG s m).length ∧ wqF c P (wK c m P) = s := by
  obtain ⟨h1, h2⟩ := FG_wk hm hs hc m (Nat.le_refl _)
  have hl := FG_len s m
  have hcv := (hc _ (Nat.le_refl _)).trans (gd_app (a := FG s m) (b := 58 :: r) (j := 0) (d := 32))
  have hn : ¬ wgood c m P (FG s m).length := by
    unfold wgood
    rw [hcv]
    intro q
    have q2 : 58 < 48 + m := q.2.1
    omega
  have e : wK c m P = (FG s m).length := by
    unfold wK
    rw [← h1]
    exact wk_f (by omega) hn
  refine ⟨e, ?_⟩
  rw [e, h2]
  exact Nat.mod_eq_of_lt hs
theorem prs_W {a r : List Nat} {h p s z f : Nat} {I : Isl} (h100 : (a ++ (119 :: (48 + h) :: (48 + p) :: (FG s (iM I) ++ (58 :: (48 + z) :: r)))).length ≤ 100) (hP : ¬ iP I = 0) (hw : iW I < 8) (hm : iM I ≤ 4) (hh : h < 6) (hp : p < iP I) (hs : s < 2 ^ iM I) (hs0 : 0 < s) (hz1 : 1 ≤ z) (hz : z ≤ 9) :
    prs (chL (a ++ (119 :: (48 + h) :: (48 + p) :: (FG s (iM I) ++ (58 :: (48 + z) :: r))))) 100 (f + 1) a.length I = prs (chL (a ++ (119 :: (48 + h) :: (48 + p) :: (FG s (iM I) ++ (58 :: (48 + z) :: r))))) 100 f (a.length + (5 + (FG s (iM I)).length)) (addV I h p s z) := by
  have hlen : a.length + (5 + (FG s (iM I)).length) ≤ 100 := by
    rw [List.length_append, List.length_cons, List.length_cons, List.length_cons, List.length_append, List.length_cons, List.length_cons] at h100
    omega
  have c0 : chL (a ++ (119 :: (48 + h) :: (48 + p) :: (FG s (iM I) ++ (58 :: (48 + z) :: r)))) a.length = 119 := chL_app (j := 0) (by omega)
  have c1 : chL (a ++ (119 :: (48 + h) :: (48 + p) :: (FG s (iM I) ++ (58 :: (48 + z) :: r)))) (a.length + 1) = 48 + h := chL_app (j := 1) (by omega)
  have c2 : chL (a ++ (119 :: (48 + h) :: (48 + p) :: (FG s (iM I) ++ (58 :: (48 + z) :: r)))) (a.length + 2) = 48 + p := chL_app (j := 2) (by omega)
  have c3 : ∀ j, j ≤ (FG s (iM I)).length + 1 → chL (a ++ (119 :: (48 + h) :: (48 + p) :: (FG s (iM I) ++ (58 :: (48 + z) :: r)))) (a.length + 3 + j) = (FG s (iM I) ++ (58 :: (48 + z) :: r)).getD j 32 := fun j hj => by
    have e := chL_app (a := a) (b := 119 :: (48 + h) :: (48 + p) :: (FG s (iM I) ++ (58 :: (48 + z) :: r))) (j := j + 3) (by omega)
    rw [show a.length + 3 + j = a.length + (j + 3) by omega, e]
    rfl
  generalize chL (a ++ (119 :: (48 + h) :: (48 + p) :: (FG s (iM I) ++ (58 :: (48 + z) :: r)))) = c at c0 c1 c2 c3 ⊢
  obtain ⟨k1, k2⟩ := FG_all (c := c) (P := a.length + 3) hm hs (fun j hj => c3 j (by omega))
  have e4 : p4W c a.length I = a.length + 3 + (FG s (iM I)).length := by unfold p4W; rw [k1]
  have e5 : swW c a.length I = s := k2
  have e6 : c (p4W c a.length I) = 58 := by
    rw [e4, c3 _ (by omega)]
    exact gd_app (j := 0)
  have e7 : c (p4W c a.length I + 1) = 48 + z := by
    rw [e4, Nat.add_assoc (a.length + 3), c3 _ (by omega)]
    exact gd_app (j := 1)
  have hit : item c a.length I = (a.length + (5 + (FG s (iM I)).length), addV I h p s z, true) := by
    rw [item_W hP c0, rdW_5 (by omega) (by rw [c1]; omega) (by rw [c2]; omega) (by rw [e5, e6]; intro q; rcases q with q | q; omega; exact q rfl) (by rw [e7]; omega), e4, e5, c1, c2]
    rw [e4] at e7
    rw [e7, show 48 + h - 48 = h by omega, show 48 + p - 48 = p by omega, show 48 + z - 48 = z by omega, show a.length + 3 + (FG s (iM I)).length + 2 = a.length + (5 + (FG s (iM I)).length) by omega]
  rw [prs_t (by omega) (by rw [c0]; decide) (by rw [hit]), hit]
/-- things that can be told so -/
def VT (n0 : Nat) (kd pl : Nat → Nat) (m : Nat) : Prop := ∀ u, u < m → kd u ≤ 5 ∧ (bagK (kd u) → iB (TG n0 kd pl u) < 2) ∧ (pl u < n0 ∨ (pl u = 4 ∧ ¬ livK (kd u))) ∧ (¬ pl u = 4 → loadF (TG n0 kd pl u) (iS (TG n0 kd pl u)) (pl u) + wt (kd u) ≤ 3)
/-- works that can be told so -/
def VW (n0 m : Nat) (V : Nat → Nat → Nat) (k : Nat) : Prop := ∀ w, w < k → V w 0 < 6 ∧ V w 1 < n0 ∧ V w 2 < 2 ^ m ∧ 0 < V w 2 ∧ 1 ≤ V w 3 ∧ V w 3 ≤ 9
theorem TG_n {n0 : Nat} {kd pl : Nat → Nat} : ∀ t, iP (TG n0 kd pl t) = n0 ∧ iM (TG n0 kd pl t) = t ∧ iW (TG n0 kd pl t) = 0
  | 0 => ⟨rfl, rfl, rfl⟩
  | t + 1 => by
    obtain ⟨a, b, c⟩ := TG_n (n0 := n0) (kd := kd) (pl := pl) t
    exact ⟨a, congrArg (· + 1) b, c⟩
theorem TG_PI {n0 : Nat} {kd pl : Nat → Nat} {m : Nat} (h0 : n0 ≤ 4) (hm : m ≤ 4) (h : VT n0 kd pl m) : ∀ t, t ≤ m → PI (TG n0 kd pl t)
  | 0, _ => PI_P h0
  | t + 1, ht => by
    obtain ⟨a, b, c⟩ := TG_n (n0 := n0) (kd := kd) (pl := pl) t
    obtain ⟨v1, v2, v3, v4⟩ := h t (by omega)
    exact PI_T (TG_PI h0 hm h t (by omega)) (by omega) c v1 v2 (by rw [a]; exact v3) v4
theorem VG_n {I0 : Isl} {V : Nat → Nat → Nat} : ∀ w, iP (VG I0 V w) = iP I0 ∧ iM (VG I0 V w) = iM I0 ∧ iW (VG I0 V w) = iW I0 + w
  | 0 => ⟨rfl, rfl, rfl⟩
  | w + 1 => by
    obtain ⟨a, b, c⟩ := VG_n (I0 := I0) (V := V) w
    exact ⟨a, b, congrArg (· + 1) c⟩
theorem VG_V {I0 : Isl} {V : Nat → Nat → Nat} (h0 : iW I0 = 0) : ∀ k w, w < k → iV (VG I0 V k) w 3 = V w 3
  | 0, w, hw => absurd hw (Nat.not_lt_zero w)
  | k + 1, w, hw => by
    have hk := (VG_n (I0 := I0) (V := V) k).2.2
    have e : iV (VG I0 V (k + 1)) w 3 = if w = iW (VG I0 V k) then V k 3 else iV (VG I0 V k) w 3 := rfl
    rw [e]
    by_cases q : w = k
    · rw [if_pos (by omega), q]
    · rw [if_neg (by omega)]; exact VG_V h0 k w (by omega)
theorem LT_len {n0 : Nat} {kd pl : Nat → Nat} : ∀ t, (LT n0 kd pl t).length = 3 + 2 * t
  | 0 => rfl
  | t + 1 => by
    show (LT n0 kd pl t ++ [ltr (kd t), sgP (pl t)]).length = _
    rw [List.length_append, LT_len t]
    show 3 + 2 * t + 2 = _
    omega
theorem LW_len {l0 : List Nat} {m : Nat} {V : Nat → Nat → Nat} : ∀ k, (LW l0 m V k).length ≤ l0.length + (5 + m) * k
  | 0 => Nat.le_refl _
  | k + 1 => by
    have ih := LW_len (l0 := l0) (m := m) (V := V) k
    have hf := FG_len (V k 2) m
    show (LW l0 m V k ++ ([119, 48 + V k 0, 48 + V k 1] ++ (FG (V k 2) m ++ [58, 48 + V k 3]))).length ≤ _
    rw [List.length_append, List.length_append, List.length_append, Nat.mul_succ]
    show (LW l0 m V k).length + (3 + ((FG (V k 2) m).length + 2)) ≤ _
    omega
theorem LW_s {l0 : List Nat} {m : Nat} {V : Nat → Nat → Nat} (k : Nat) : LW l0 m V (k + 1) = LW l0 m V k ++ (119 :: (48 + V k 0) :: (48 + V k 1) :: (FG (V k 2) m ++ [58, 48 + V k 3])) := rfl
theorem prs_Ts {n0 : Nat} {kd pl : Nat → Nat} {m : Nat} (h1 : 1 ≤ n0) (h0 : n0 ≤ 4) (hm : m ≤ 4) (h : VT n0 kd pl m) : ∀ t, t ≤ m → ∀ r, (LT n0 kd pl t ++ r).length ≤ 100 → prs (chL (LT n0 kd pl t ++ r)) 100 101 0 isl0 = prs (chL (LT n0 kd pl t ++ r)) 100 (99 - t) (3 + 2 * t) (TG n0 kd pl t)
  | 0, _, r, hl => by
    have cb : chL ([32, 112, 48 + n0] ++ r) 0 = 32 := rfl
    have c0 : chL ([32, 112, 48 + n0] ++ r) 1 = 112 := rfl
    have c1 : chL ([32, 112, 48 + n0] ++ r) 2 = 48 + n0 := rfl
    show prs (chL ([32, 112, 48 + n0] ++ r)) 100 (100 + 1) 0 isl0 = _
    rw [prs_bl (by decide) cb]
    show prs (chL ([32, 112, 48 + n0] ++ r)) 100 (99 + 1) 1 isl0 = _
    have hit : item (chL ([32, 112, 48 + n0] ++ r)) 1 isl0 = (3, islP isl0 n0, true) := by
      rw [item_P rfl, rdP_2 c0 (by rw [c1]; omega), c1, show 48 + n0 - 48 = n0 by omega]
    rw [prs_t (by decide) (by rw [c0]; decide) (by rw [hit]), hit]
    rfl
  | t + 1, ht, r, hl => by
    obtain ⟨a, b, c⟩ := TG_n (n0 := n0) (kd := kd) (pl := pl) t
    obtain ⟨v1, v2, v3, v4⟩ := h t (by omega)
    have e : LT n0 kd pl (t + 1) ++ r = LT n0 kd pl t ++ (ltr (kd t) :: sgP (pl t) :: r) := by
      show (LT n0 kd pl t ++ [ltr (kd t), sgP (pl t)]) ++ r = _
      rw [List.append_assoc]
      rfl
    rw [e] at hl ⊢
    have ih := prs_Ts h1 h0 hm h t (by omega) _ hl
    rw [ih, show 99 - t = (99 - (t + 1)) + 1 by omega]
    have k := prs_T (f := 99 - (t + 1)) hl v1 (TG_PI h0 hm h t (by omega)) (by omega) c (by omega) v2 (by rw [a]; exact v3) v4
    rw [LT_len] at k
    exact k
theorem prs_Ws {n0 : Nat} {kd pl : Nat → Nat} {V : Nat → Nat → Nat} {m k : Nat} (h1 : 1 ≤ n0) (h0 : n0 ≤ 4) (hm : m ≤ 4) (hk : k ≤ 6) (h : VT n0 kd pl m) (hV : VW n0 m V k) : ∀ w, w ≤ k → ∀ r, (LW (LT n0 kd pl m) m V w ++ r).length ≤ 100 →
    prs (chL (LW (LT n0 kd pl m) m V w ++ r)) 100 101 0 isl0 = prs (chL (LW (LT n0 kd pl m) m V w ++ r)) 100 (99 - m - w) (LW (LT n0 kd pl m) m V w).length (VG (TG n0 kd pl m) V w)
  | 0, _, r, hl => by
    have k := prs_Ts h1 h0 hm h m (Nat.le_refl _) r hl
    rw [← LT_len (n0 := n0) (kd := kd) (pl := pl) m] at k
    exact k
  | w + 1, hw, r, hl => by
    obtain ⟨a, b, c⟩ := TG_n (n0 := n0) (kd := kd) (pl := pl) m
    obtain ⟨a2, b2, c2⟩ := VG_n (I0 := TG n0 kd pl m) (V := V) w
    obtain ⟨v1, v2, v3, v4, v5, v6⟩ := hV w (by omega)
    have e : LW (LT n0 kd pl m) m V (w + 1) ++ r = LW (LT n0 kd pl m) m V w ++ (119 :: (48 + V w 0) :: (48 + V w 1) :: (FG (V w 2) (iM (VG (TG n0 kd pl m) V w)) ++ (58 :: (48 + V w 3) :: r))) := by
      rw [b2, b, LW_s, List.append_assoc]
      show _ ++ (119 :: (48 + V w 0) :: (48 + V w 1) :: ((FG (V w 2) m ++ [58, 48 + V w 3]) ++ r)) = _
      rw [List.append_assoc]
      rfl
    have el : (LW (LT n0 kd pl m) m V (w + 1)).length = (LW (LT n0 kd pl m) m V w).length + (5 + (FG (V w 2) (iM (VG (TG n0 kd pl m) V w))).length) := by
      rw [b2, b, LW_s, List.length_append]
      show _ + ((FG (V w 2) m ++ [58, 48 + V w 3]).length + 1 + 1 + 1) = _
      rw [List.length_append]
      show _ + ((FG (V w 2) m).length + 2 + 1 + 1 + 1) = _
      omega
    rw [e] at hl
    rw [e, el]
    have ih := prs_Ws h1 h0 hm hk h hV w (by omega) _ hl
    rw [ih, show 99 - m - w = (99 - m - (w + 1)) + 1 by omega]
    exact prs_W (f := 99 - m - (w + 1)) hl (by omega) (by omega) (by omega) v1 (by omega) (by rw [b2, b]; exact v3) v4 v5 v6
theorem chL_F {l : List Nat} {β : Nat → Int32} (hs : ∀ x ∈ l, x < 128) (h : ∀ i, i < 100 → β i = nI (l.getD i 32)) : chF 100 β = chL l := by
  funext i
  unfold chF chL
  by_cases q : i < 100
  · have hd : l.getD i 32 < 128 := by
      rw [List.getD_eq_getElem?_getD]
      cases hg : l[i]? with
      | none => exact (by decide : (32 : Nat) < 128)
      | some x => exact hs x (List.mem_of_getElem? hg)
    rw [if_pos q, if_pos q, h i q, tiN (by omega), if_pos (by omega)]
    exact Int.toNat_natCast _
  · rw [if_neg q, if_neg q]
theorem prs_F {ch ch' : Nat → Nat} (h : ch = ch') (n f pos : Nat) (I : Isl) : prs ch n f pos I = prs ch' n f pos I := by rw [h]
theorem LT_sg {n0 : Nat} {kd pl : Nat → Nat} (h0 : n0 ≤ 4) : ∀ t, (∀ u, u < t → kd u ≤ 5 ∧ pl u ≤ 4) → ∀ x ∈ LT n0 kd pl t, x < 128
  | 0, _, x, hx => by
    have hx2 : x ∈ [32, 112, 48 + n0] := hx
    simp only [List.mem_cons, List.not_mem_nil, or_false] at hx2
    omega
  | t + 1, h, x, hx => by
    have hx2 : x ∈ LT n0 kd pl t ++ [ltr (kd t), sgP (pl t)] := hx
    rcases List.mem_append.mp hx2 with k | k
    · exact LT_sg h0 t (fun u hu => h u (by omega)) x k
    · have hk := h t (Nat.lt_succ_self t)
      have e1 := (ltr_ok (kd t) (by omega)).2.2.2
      have e2 : sgP (pl t) < 128 := by unfold sgP; split <;> omega
      simp only [List.mem_cons, List.not_mem_nil, or_false] at k
      rcases k with k | k <;> omega
theorem FG_sg {s : Nat} : ∀ t, t ≤ 5 → ∀ x ∈ FG s t, x < 128
  | 0, _, x, hx => absurd hx List.not_mem_nil
  | t + 1, ht, x, hx => by
    have hx2 : x ∈ FG s t ++ (if s.testBit t = true then [48 + t] else []) := hx
    rcases List.mem_append.mp hx2 with k | k
    · exact FG_sg t (by omega) x k
    · by_cases q : s.testBit t = true
      · rw [if_pos q] at k
        simp only [List.mem_cons, List.not_mem_nil, or_false] at k
        omega
      · rw [if_neg q] at k
        exact absurd k List.not_mem_nil
theorem LW_sg {l0 : List Nat} {m n0 : Nat} {V : Nat → Nat → Nat} (hm : m ≤ 4) (h0 : n0 ≤ 4) (hl : ∀ x ∈ l0, x < 128) : ∀ k, VW n0 m V k → ∀ x ∈ LW l0 m V k, x < 128
  | 0, _, x, hx => hl x hx
  | k + 1, h, x, hx => by
    obtain ⟨v1, v2, v3, v4, v5, v6⟩ := h k (Nat.lt_succ_self k)
    rw [LW_s] at hx
    rcases List.mem_append.mp hx with q | q
    · exact LW_sg hm h0 hl k (fun w hw => h w (by omega)) x q
    · simp only [List.mem_cons, List.mem_append, List.not_mem_nil, or_false] at q
      rcases q with q | q | q | q | q | q
      · omega
      · omega
      · omega
      · exact FG_sg m (by omega) x q
      · omega
      · omega
/-- the text's signs, and what is read -/
theorem tx_ok {n0 : Nat} {kd pl : Nat → Nat} {V : Nat → Nat → Nat} {m k : Nat} {β : Nat → Int32} (h1 : 1 ≤ n0) (h0 : n0 ≤ 4) (hm : m ≤ 4) (hk : k ≤ 6) (h : VT n0 kd pl m) (hV : VW n0 m V k) (hβ : ∀ i, i < 100 → β i = nI ((LW (LT n0 kd pl m) m V k).getD i 32)) :
    txF 100 β = (0, VG (TG n0 kd pl m) V k) := by
  have hsg : ∀ x ∈ LW (LT n0 kd pl m) m V k, x < 128 := LW_sg hm h0 (LT_sg h0 m (fun u hu => by
    obtain ⟨v1, v2, v3, v4⟩ := h u hu
    exact ⟨v1, by omega⟩)) k hV
  have hlen : (LW (LT n0 kd pl m) m V k).length ≤ 70 := by
    have h2 := LW_len (l0 := LT n0 kd pl m) (m := m) (V := V) k
    have h3 : (5 + m) * k ≤ 9 * 6 := Nat.mul_le_mul (by omega) hk
    rw [LT_len] at h2
    omega
  unfold txF
  rw [chL_F hsg hβ]
  have hw := prs_Ws h1 h0 hm hk h hV k (Nat.le_refl _) [] (by rw [List.append_nil]; omega)
  rw [List.append_nil] at hw
  rw [show 100 + 1 = 101 from rfl, hw]
  have hlow : m + k + (100 - (LW (LT n0 kd pl m) m V k).length) < 99 := by
    -- items are at least two signs long
    have : 3 + 2 * m + 5 * k ≤ (LW (LT n0 kd pl m) m V k).length := by
      have key : ∀ w, 3 + 2 * m + 5 * w ≤ (LW (LT n0 kd pl m) m V w).length := by
        intro w
        induction w with
        | zero => show _ ≤ (LT n0 kd pl m).length; rw [LT_len]; omega
        | succ w ih =>
          rw [LW_s, List.length_append]
          show _ ≤ _ + ((FG (V w 2) m ++ [58, 48 + V w 3]).length + 1 + 1 + 1)
          rw [List.length_append]
          show _ ≤ _ + ((FG (V w 2) m).length + 2 + 1 + 1 + 1)
          omega
      exact key k
    omega
  have hP : ¬ iP (VG (TG n0 kd pl m) V k) = 0 := by
    rw [(VG_n (I0 := TG n0 kd pl m) (V := V) k).1, (TG_n (n0 := n0) (kd := kd) (pl := pl) m).1]
    omega
  generalize hLq : LW (LT n0 kd pl m) m V k = l at hlen hlow ⊢
  have hsk : ∀ d pos f, pos + d ≤ 100 → d < f → (∀ j, j < d → chL l (pos + j) = 32) → prs (chL l) 100 f pos (VG (TG n0 kd pl m) V k) = prs (chL l) 100 (f - d) (pos + d) (VG (TG n0 kd pl m) V k) := by
    intro d
    induction d with
    | zero => intro pos f _ _ _; rfl
    | succ d ih =>
      intro pos f hd hf hj
      rw [ih pos f (by omega) (by omega) (fun j hj2 => hj j (by omega)), show f - d = (f - (d + 1)) + 1 by omega, prs_bl (by omega) (hj d (Nat.lt_succ_self d))]
      rfl
  rw [hsk (100 - l.length) l.length (99 - m - k) (by omega) (by omega) (fun j hj => by
    unfold chL
    rw [if_pos (by omega)]
    exact gd_out (by omega)), show 99 - m - k - (100 - l.length) = (99 - m - k - (100 - l.length) - 1) + 1 by omega, prs_end (by omega) hP]
