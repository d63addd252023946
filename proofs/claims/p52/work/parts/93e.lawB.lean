/-! ===== law ===== -/
def KQ2 (a : Nat) : Prop := (3 ≤ a ∧ a ≤ 4) ∨ (11 ≤ a ∧ a ≤ 22) ∨ a = 63 ∨ a = 83
def KQ (a b : Nat) : Prop := KQ2 a ∨ (35 ≤ a ∧ a ≤ 39) ∨ (a = 60 ∧ b = 0)
def QG (a b : Nat) : Prop := KQ a b ∨ (a = 6 ∨ a = 7) ∨ (a = 61 ∨ a = 62) ∨ a = 67
/-- the island's numbers, as the law keeps them -/
def G83 (I : Isl) (S : St) : Prop := S.1 83 0 = nI (iP I) ∧ S.1 83 1 = nI (iM I) ∧ S.1 83 12 = nI (iW I) ∧ ∀ w, w < iW I → S.1 83 (16 + 4 * w) = nI (iV I w 3)
def LB (I : Isl) (w : Nat → Nat) (d : Nat) (S : St) : Prop := IsX 11 I S ∧ IsT I S ∧ WP I w d S ∧ G83 I S ∧ RwS 3 6 60 S ∧ SrX I S ∧ S.1 63 0 = nI 0
theorem LB.move {I : Isl} {w w1 : Nat → Nat} {d d1 : Nat} {S S1 : St} (h : LB I w d S) (k : ∀ a b, KQ2 a → S1.1 a b = S.1 a b) (hs : SrX I S1) (hp : WP I w1 d1 S1) : LB I w1 d1 S1 :=
  ⟨h.1.keep (fun a h1 h2 b => k a b (by unfold KQ2; omega)), h.2.1.keep (fun a b hab => k a b (by unfold KQ2; omega)), hp,
   ⟨(k 83 0 (by unfold KQ2; omega)).trans h.2.2.2.1.1, (k 83 1 (by unfold KQ2; omega)).trans h.2.2.2.1.2.1, (k 83 12 (by unfold KQ2; omega)).trans h.2.2.2.1.2.2.1, fun v hv => (k 83 _ (by unfold KQ2; omega)).trans (h.2.2.2.1.2.2.2 v hv)⟩,
   h.2.2.2.2.1.keep (k 3 0 (by unfold KQ2; omega)) (fun r _ => k 4 r (by unfold KQ2; omega)), hs, (k 63 0 (by unfold KQ2; omega)).trans h.2.2.2.2.2.2⟩
theorem WP.keep {I : Isl} {w : Nat → Nat} {d : Nat} {S S1 : St} (h : WP I w d S) (k : ∀ a b, (35 ≤ a ∧ a ≤ 39) ∨ (a = 60 ∧ b = 0) → S1.1 a b = S.1 a b) : WP I w d S1 :=
  ⟨h.1, h.2.1.keep (fun a q1 q2 b => k a b (by omega)), (k 35 5 (by omega)).trans h.2.2.1, (k 60 0 (by omega)).trans h.2.2.2⟩
theorem LB.keep {I : Isl} {w : Nat → Nat} {d : Nat} {S S1 : St} (h : LB I w d S) (k : ∀ a b, KQ a b → S1.1 a b = S.1 a b) (hs : SrX I S1) : LB I w d S1 :=
  h.move (fun a b q => k a b (Or.inl q)) hs (h.2.2.1.keep fun a b q => k a b (Or.inr q))
theorem As.sr {I : Isl} {S S1 : St} (f : As S S1) (hs : SrX I S) : SrX I S1 := hs.keep (fun a b q => f.2 a b (by omega)) (f.2 45 5 (by omega))
theorem LB.as {I : Isl} {w : Nat → Nat} {d : Nat} {S S1 : St} (h : LB I w d S) (f : As S S1) : LB I w d S1 := h.keep (fun a b q => f.2 a b (by unfold KQ KQ2 at q; omega)) (f.sr h.2.2.2.2.2.1)
/-- the steps done, as they are told -/
def UH (I : Isl) (ws : Nat → Nat → Nat) (T F : Nat → Nat) (d : Nat) (S : St) : Prop := UPath I ws T F d ∧ ∀ i, i < d → S.1 61 i = nI (T i) ∧ S.1 62 i = nI (F i) ∧ plcF I (F i)
def GP (I : Isl) (w : Nat → Nat) (d : Nat) (S : St) : Prop := LB I w d S ∧ (∃ ws T F, ws d = w ∧ UH I ws T F d S) ∧ (∀ k, k < 3 → S.1 67 k = nI 0) ∧ RwS 6 4 100 S
def UG (I : Isl) (w w1 : Nat → Nat) (d : Nat) (S : St) : Prop := LB I w1 (d + 1) S ∧ (∃ ws T F, ws d = w ∧ ws (d + 1) = w1 ∧ UH I ws T F (d + 1) S) ∧ (∀ k, k < 3 → S.1 67 k = nI 0) ∧ RwS 6 4 100 S ∧ VS I w 3
theorem UG.gp {I : Isl} {w w1 : Nat → Nat} {d : Nat} {S : St} (h : UG I w w1 d S) : GP I w1 (d + 1) S := by
  obtain ⟨h1, ⟨ws, T, F, h2, h3, h4⟩, h5, h6, h7⟩ := h
  exact ⟨h1, ⟨ws, T, F, h3, h4⟩, h5, h6⟩
theorem UH.keep {I : Isl} {ws : Nat → Nat → Nat} {T F : Nat → Nat} {d : Nat} {S S1 : St} (h : UH I ws T F d S) (k : ∀ a b, a = 61 ∨ a = 62 → S1.1 a b = S.1 a b) : UH I ws T F d S1 :=
  ⟨h.1, fun i hi => ⟨(k 61 i (by omega)).trans (h.2 i hi).1, (k 62 i (by omega)).trans (h.2 i hi).2.1, (h.2 i hi).2.2⟩⟩
theorem GP.keep {I : Isl} {w : Nat → Nat} {d : Nat} {S S1 : St} (h : GP I w d S) (k : ∀ a b, QG a b → S1.1 a b = S.1 a b) (hs : SrX I S1) : GP I w d S1 := by
  obtain ⟨h1, ⟨ws, T, F, h2, h4⟩, h5, h6⟩ := h
  exact ⟨h1.keep (fun a b q => k a b (Or.inl q)) hs, ⟨ws, T, F, h2, h4.keep (fun a b q => k a b (Or.inr (Or.inr (Or.inl q))))⟩, fun i hi => (k 67 i (by unfold QG; omega)).trans (h5 i hi), h6.keep (k 6 0 (by unfold QG; omega)) (fun r _ => k 7 r (by unfold QG; omega))⟩
theorem UG.keep {I : Isl} {w w1 : Nat → Nat} {d : Nat} {S S1 : St} (h : UG I w w1 d S) (k : ∀ a b, QG a b → S1.1 a b = S.1 a b) (hs : SrX I S1) : UG I w w1 d S1 := by
  obtain ⟨h1, ⟨ws, T, F, h2, h3, h4⟩, h5, h6, h7⟩ := h
  exact ⟨h1.keep (fun a b q => k a b (Or.inl q)) hs, ⟨ws, T, F, h2, h3, h4.keep (fun a b q => k a b (Or.inr (Or.inr (Or.inl q))))⟩, fun i hi => (k 67 i (by unfold QG; omega)).trans (h5 i hi), h6.keep (k 6 0 (by unfold QG; omega)) (fun r _ => k 7 r (by unfold QG; omega)), h7⟩
theorem GP.as {I : Isl} {w : Nat → Nat} {d : Nat} {S S1 : St} (h : GP I w d S) (f : As S S1) : GP I w d S1 := h.keep (fun a b q => f.2 a b (by unfold QG KQ KQ2 at q; omega)) (f.sr h.1.2.2.2.2.2.1)
theorem UG.as {I : Isl} {w w1 : Nat → Nat} {d : Nat} {S S1 : St} (h : UG I w w1 d S) (f : As S S1) : UG I w w1 d S1 := h.keep (fun a b q => f.2 a b (by unfold QG KQ KQ2 at q; omega)) (f.sr h.1.2.2.2.2.2.1)
/-- the rows and the texts are as they were -/
def TF (S S1 : St) : Prop := ∀ a b, 3 ≤ a → a ≤ 8 → S1.1 a b = S.1 a b
theorem TF.trans {S S1 S2 : St} (h : TF S S1) (h' : TF S1 S2) : TF S S2 := fun a b q1 q2 => (h' a b q1 q2).trans (h a b q1 q2)
theorem As.tf {S S1 : St} (f : As S S1) : TF S S1 := fun a b q1 q2 => f.2 a b (by omega)
/-- what digest() tells, nothing seen, nothing kept -/
noncomputable def dgL (I : Isl) (w : Nat → Nat) (d : Nat) (S : St) : Int64 := mixA S 6 100 (mixA S 3 60 (dgK (fun _ => 0) (fun _ => 0) (iM I) (dgS (fun _ => 0) (fun _ => 0) (fl (dgV I) (fl (dgT I w) (31 * (fl (fun a => ((if a = 0 then nI (iP I) else if a = 1 then nI (iM I) else if a = 2 then nI (iW I) else if a = 3 then nI d else if a = 4 then nI (iB I) else if a = 5 then nI 0 else if a = 6 then nI (sm (fun r => if (S.1 4 r).toInt < 0 then 0 else 1) 6) else nI (sm (fun r => if (S.1 7 r).toInt < 0 then 0 else 1) 4)) : Int32).toInt64) 17 8) + (nI 3).toInt64) (4 * iM I)) (4 * iW I)) 0) 3) 6) 4
theorem dgL_c {I : Isl} {w : Nat → Nat} {d : Nat} {S S1 : St} (h : TF S S1) : dgL I w d S1 = dgL I w d S := by
  unfold dgL
  rw [mixA_congr (S := S) (S1 := S1) (k := 6) (fun b => h 7 b (by decide) (by decide)) (fun b => h 8 b (by decide) (by decide)), mixA_congr (S := S) (S1 := S1) (k := 3) (fun b => h 4 b (by decide) (by decide)) (fun b => h 5 b (by decide) (by decide))]
  have h4 : ∀ r, S1.1 4 r = S.1 4 r := fun r => h 4 r (by decide) (by decide)
  have h7 : ∀ r, S1.1 7 r = S.1 7 r := fun r => h 7 r (by decide) (by decide)
  simp only [h4, h7]
section LWC
variable {S S1 : St} {I : Isl} {w w1 : Nat → Nat} {d : Nat}
theorem c_digL (h : GP I w d S) (hO : IOK I) : C 4 120 yX10_digest mX10_digest [.ref 0] S (ql (fun r S' => r = dgL I w d S ∧ GP I w d S' ∧ TF S S')) := by
  have hg := h
  obtain ⟨hb, hu, hk, hx⟩ := h
  refine (c_X10_digest hb.1 hO hb.2.2.1.2.1 hb.2.2.1.2.2.1 (by decide) hb.2.2.1.1 (c := 0) (by decide) (sw := fun _ => 0) (si := fun _ => 0) (fun i hi => absurd hi (Nat.not_lt_zero i)) hb.2.2.2.2.2.2 (kc := fun _ => 0) (kl := fun _ => 0) (fun k q => ⟨hk k q, by decide, fun z => absurd rfl z⟩) hb.2.2.2.2.1 hx).mono (fun v S' hq => ?_)
  obtain ⟨r, rfl, rfl, f⟩ := hq
  refine ⟨_, rfl, ?_, hg.keep (fun a b q => f.2 a (by unfold QG KQ KQ2 at q; omega) b) (hb.2.2.2.2.2.1.keep (fun a b q => f.2 a (by omega) b) (f.2 45 (by omega) 5)), fun a b q1 q2 => f.2 a (by omega) b⟩
  unfold dgL
  rw [hb.2.2.1.2.2.2, hb.2.2.2.2.2.2]
theorem c_mayL {s : Nat} (h : LB I w d S) (hO : IOK I) (hs : s < 7 * iM I) : C 4 120 yX10_may mX10_may [.ref 0, .int (nI (s / 7)), .int (nI (s % 7))] S (qi (fun r S' => (r = nI 1 ↔ mayF I w 3 (s / 7) (s % 7)) ∧ S' = S)) := by
  have hO2 := hO.2.1
  have h7 := Nat.mod_lt s (show 0 < 7 by decide)
  have e1 : (nI (s / 7)).toInt = ((s / 7 : Nat) : Int) := tiN (by omega)
  have t1 : tn (nI (s / 7)) = s / 7 := tnN (by omega)
  have t2 : tn (nI (s % 7)) = s % 7 := tnN (by omega)
  refine (c_X10_may (x := nI (s / 7)) (y := nI (s % 7)) h.1 hO h.2.2.1.2.1 h.2.2.1.2.2.1 (by decide) h.2.2.1.1).mono (fun v S' hq => ?_)
  obtain ⟨rfl, rfl⟩ := hq
  rw [t1, t2]
  refine ⟨_, rfl, ⟨fun q => Classical.byContradiction fun hm => ?_, fun hm => ?_⟩, ?_⟩
  · unfold i3 at q
    rw [if_neg hm] at q
    split at q
    · exact absurd q (by decide)
    · exact absurd q (by decide)
  · unfold i3
    rw [if_neg (fun z => z ⟨⟨by omega, by omega⟩, (plcI_n (by omega)).mpr hm.1⟩), if_pos hm]
  · unfold i3
    split
    · rfl
    · split
      · rfl
      · rfl
theorem c_stepsL (h : LB I w d S) (hO : IOK I) : C 3 90 yX10_steps mX10_steps [.ref 0] S (qi (fun r S' => r = nI (cb (mayB I w 3) (7 * iM I)) ∧ S'.1 1 0 = fb (mayB I w 3) (7 * iM I) ∧ As S S')) := by
  refine (c_X10_steps h.1 hO h.2.2.1.2.1 h.2.2.1.2.2.1 (by decide) h.2.2.1.1).mono (fun v S' hq => ?_)
  obtain ⟨rfl, rfl⟩ := hq
  exact ⟨_, rfl, rfl, rdI_eq, As.refl.set⟩
theorem c_countL (hI : IsX 11 I S) (hO : IOK I) (h : S.1 60 0 = nI d) : C 2 60 yX10_count mX10_count [.ref 0, .int (nI 3)] S (pu (.int (nI d)) S) := by
  have t3 : tn (nI 3) = 3 := by decide
  have e3 : (nI 3).toInt = 3 := by decide
  have k := c_X10_count (x := nI 3) hI hO
  rw [e2_1 (fun z => z ⟨by omega, by omega⟩), e2_1 (fun z => z ⟨by omega, by omega⟩), t3, if_neg (by decide), if_neg (by decide), if_neg (by decide), if_pos rfl, h] at k
  exact k
theorem c_thingG {t v : Nat} (h : LB I w d S) (hO : IOK I) (ht : t < iM I) (hv : w t = v) : C 2 60 yX10_thing mX10_thing [.ref 0, .int (nI t), .int (nI 1)] S (qi (fun r S' => r = nI 1 ∧ S'.1 1 0 = nI v ∧ As S S')) :=
  c_thingA As.refl h.1 hO h.2.2.1.2.1 h.2.2.1.2.2.1 (by decide) h.2.2.1.1 rfl ht (by decide) (k := 1) hv
theorem c_stepL {s : Nat} (h : GP I w d S) (hO : IOK I) (hd : d < 40) (hs : s < 7 * iM I) (hm : mayF I w 3 (s / 7) (s % 7)) : C 5 150 yX10_step mX10_step [.ref 0, .int (nI (s / 7)), .int (nI (s % 7))] S (qi (fun r S' => r = nI 1 ∧ UG I w (upW w (s / 7) (s % 7)) d S' ∧ TF S S')) := by
  obtain ⟨hb, ⟨ws, T, F, hw, hu⟩, hk, hx⟩ := h
  have hO2 := hO.2.1
  have h7 := Nat.mod_lt s (show 0 < 7 by decide)
  have ht : s / 7 < iM I := by omega
  have e1 : (nI (s / 7)).toInt = ((s / 7 : Nat) : Int) := tiN (by omega)
  have t1 : tn (nI (s / 7)) = s / 7 := tnN (by omega)
  have t2 : tn (nI (s % 7)) = s % 7 := tnN (by omega)
  have hv := hb.2.2.1.1
  have hv2 := VS_step hO hv ht hm
  refine (c_X10_step (x := nI (s / 7)) (y := nI (s % 7)) hb.1 hO hb.2.2.1.2.1 hb.2.2.1.2.2.1 (by decide) hv hb.2.2.1.2.2.2 (by omega) (fun t to ht _ hm => (VS_step hO hv ht hm).ok hO)).mono (fun v S' hq => ?_)
  obtain ⟨r, rfl, hr⟩ := hq
  rw [t1, t2, e4_3 (fun q => q ⟨⟨by omega, by omega⟩, (plcI_n (by omega)).mpr hm.1⟩) (fun q => q hm) (by omega)] at hr
  obtain ⟨r1, _, f, p⟩ := hr
  have hf : ∀ a b, ¬ (36 ≤ a ∧ a ≤ 39) → ¬ (60 ≤ a ∧ a ≤ 62) → S'.1 a b = S.1 a b := fun a b q1 q2 => (f.2 a (by omega) b).trans (dnS_k (by omega))
  have hs' : SrX I S' := hb.2.2.2.2.2.1.keep (fun a b q => hf a b (by omega) (by omega)) (hf 45 5 (by omega) (by omega))
  refine ⟨r, rfl, r1, ⟨hb.move (fun a b q => hf a b (by unfold KQ2 at q; omega) (by unfold KQ2 at q; omega)) hs' ⟨hv2, p, (hf 35 5 (by omega) (by omega)).trans hb.2.2.1.2.2.1, (f.2 60 (by omega) 0).trans rdI_eq⟩, ⟨fun i => if i ≤ d then ws i else upW w (s / 7) (s % 7), fun i => if i < d then T i else s / 7, fun i => if i < d then F i else w (s / 7), ?_, ?_, fun i hi => ?_, fun i hi => ?_⟩, fun k q => (hf 67 k (by omega) (by omega)).trans (hk k q), hx.keep (hf 6 0 (by omega) (by omega)) (fun r _ => hf 7 r (by omega) (by omega)), hv⟩, fun a b q1 q2 => hf a b (by omega) (by omega)⟩
  · show (if d ≤ d then ws d else _) = w
    rw [if_pos (Nat.le_refl _)]; exact hw
  · show (if d + 1 ≤ d then _ else _) = _
    rw [if_neg (by omega)]
  · by_cases q : i < d
    · have k := hu.1 i q
      show (if i ≤ d then ws i else _) = upW (if i + 1 ≤ d then ws (i + 1) else _) (if i < d then T i else _) (if i < d then F i else _) ∧ (if i < d then T i else _) < iM I ∧ (if i < d then F i else _) < 7 ∧ WOK I (if i ≤ d then ws i else _)
      rw [if_pos (by omega), if_pos (by omega), if_pos q, if_pos q]
      exact k
    · have q2 : i = d := by omega
      subst q2
      show (if i ≤ i then ws i else _) = upW (if i + 1 ≤ i then ws (i + 1) else upW w (s / 7) (s % 7)) (if i < i then T i else s / 7) (if i < i then F i else w (s / 7)) ∧ (if i < i then T i else s / 7) < iM I ∧ (if i < i then F i else w (s / 7)) < 7 ∧ WOK I (if i ≤ i then ws i else _)
      rw [if_pos (Nat.le_refl _), if_neg (by omega), if_neg (Nat.lt_irrefl _), if_neg (Nat.lt_irrefl _), hw]
      refine ⟨funext fun j => ?_, ht, (hv.ok hO).w7 hO _ ht, hv.ok hO⟩
      by_cases z : j = s / 7
      · rw [z, upW_eq]
      · rw [upW_ne z, upW_ne z]
  · show S'.1 61 i = nI (if i < d then T i else s / 7) ∧ S'.1 62 i = nI (if i < d then F i else w (s / 7)) ∧ plcF I (if i < d then F i else w (s / 7))
    have k61 : ∀ b, S'.1 61 b = (dnS S (s / 7) (w (s / 7)) d).1 61 b := fun b => f.2 61 (by omega) b
    have k62 : ∀ b, S'.1 62 b = (dnS S (s / 7) (w (s / 7)) d).1 62 b := fun b => f.2 62 (by omega) b
    by_cases q : i < d
    · rw [if_pos q, if_pos q, k61, k62]
      refine ⟨Eq.trans ?_ (hu.2 i q).1, Eq.trans ?_ (hu.2 i q).2.1, (hu.2 i q).2.2⟩
      · exact (rdI_k (by decide)).trans ((rdI_k (by decide)).trans (rdI_j (by omega)))
      · exact (rdI_k (by decide)).trans ((rdI_j (by omega)).trans (rdI_k (by decide)))
    · have q2 : i = d := by omega
      subst q2
      rw [if_neg q, if_neg q, k61, k62]
      exact ⟨(rdI_k (by decide)).trans ((rdI_k (by decide)).trans rdI_eq), (rdI_k (by decide)).trans rdI_eq, (hv.1 _ ht).1⟩
theorem c_undoL (h : UG I w w1 d S) (hO : IOK I) (hd : d < 40) : C 4 120 yX10_undo mX10_undo [.ref 0, .int (nI d)] S (qi (fun r S' => r = nI 1 ∧ GP I w d S' ∧ TF S S')) := by
  obtain ⟨hb, ⟨ws, T, F, hw, hw1, hu⟩, hk, hx, hv⟩ := h
  have ed : (nI d).toInt = (d : Int) := tiN (by omega)
  have td : tn (nI d) = d := tnN (by omega)
  refine (c_X10_undo (x := nI d) (d := d + 1) hb.1 hO (by omega) hu.1 (fun i hi => (hu.2 i hi).1) (fun i hi => (hu.2 i hi).2.1) (fun i hi => (hu.2 i hi).2.2) hb.2.2.1.2.2.2 (by rw [hw1]; exact hb.2.2.1.2.1)).mono (fun v S' hq => ?_)
  obtain ⟨r, rfl, hr⟩ := hq
  rw [e2_1 (fun z => z ⟨by omega, by omega⟩), td, Nat.add_sub_cancel_left, hw] at hr
  obtain ⟨r1, S2, f, p, rfl⟩ := hr
  have hf : ∀ a b, ¬ (36 ≤ a ∧ a ≤ 39) → ¬ (a = 60) → (setI S2 60 0 (nI d)).1 a b = S.1 a b := fun a b q1 q2 => (rdI_k q2).trans (f.2 a q1 b)
  have hs' : SrX I (setI S2 60 0 (nI d)) := hb.2.2.2.2.2.1.keep (fun a b q => hf a b (by omega) (by omega)) (hf 45 5 (by omega) (by omega))
  exact ⟨r, rfl, r1, ⟨hb.move (fun a b q => hf a b (by unfold KQ2 at q; omega) (by unfold KQ2 at q; omega)) hs' ⟨hv, p.keep (fun a q1 q2 b => rdI_k (by omega)), (hf 35 5 (by omega) (by omega)).trans hb.2.2.1.2.2.1, rdI_eq⟩, ⟨ws, T, F, hw, fun i hi => hu.1 i (by omega), fun i hi => ⟨(hf 61 i (by omega) (by omega)).trans (hu.2 i (by omega)).1, (hf 62 i (by omega) (by omega)).trans (hu.2 i (by omega)).2.1, (hu.2 i (by omega)).2.2⟩⟩, fun k q => (hf 67 k (by omega) (by omega)).trans (hk k q), hx.keep (hf 6 0 (by omega) (by omega)) (fun r _ => hf 7 r (by omega) (by omega))⟩, fun a b q1 q2 => hf a b (by omega) (by omega)⟩
/-- the image of row 4 -/
def IM (I : Isl) (w : Nat → Nat) (S : St) : Prop := S.1 4 4 = nI (iM I + 1) ∧ (∀ t, t < iM I → S.1 5 (240 + t) = nI (w t)) ∧ S.1 5 (240 + iM I) = nI 3
theorem IM.keep (h : IM I w S) (k : ∀ a b, (a = 4 ∧ b = 4) ∨ (a = 5 ∧ 240 ≤ b) → S1.1 a b = S.1 a b) : IM I w S1 := ⟨(k 4 4 (by omega)).trans h.1, fun t ht => (k 5 _ (by omega)).trans (h.2.1 t ht), (k 5 _ (by omega)).trans h.2.2⟩
theorem KP.keep {c0 : Nat} (h : KP I c0 S) (k : ∀ a b, a = 66 ∨ a = 67 → S1.1 a b = S.1 a b) : KP I c0 S1 := ⟨h.1, (k 67 0 (by omega)).trans h.2.1, (k 66 0 (by omega)).trans h.2.2.1, (k 67 1 (by omega)).trans h.2.2.2.1, (k 67 2 (by omega)).trans h.2.2.2.2⟩
theorem c_keepL (h : GP I w d S) (hO : IOK I) (h1 : 1 ≤ iP I) : C 1 30 yX10_keep mX10_keep [.ref 0, .int (nI 0)] S (qi (fun r S' => r = nI d ∧ LB I w d S' ∧ KP I (codeF I w) S')) := by
  obtain ⟨hb, hu, hk, hx⟩ := h
  have e0 : (nI 0).toInt = 0 := rfl
  have t0 : tn (nI 0) = 0 := by decide
  refine (c_X10_keep (x := nI 0) hb.1 hO hb.2.2.1.2.1 hb.2.2.1.2.2.1 (by decide) hb.2.2.1.1 hb.2.2.1.2.2.2).mono (fun v S' hq => ?_)
  obtain ⟨rfl, rfl⟩ := hq
  rw [e3_2 (fun z => z ⟨by omega, by omega⟩) (by omega), e3_2 (fun z => z ⟨by omega, by omega⟩) (by omega), t0]
  have hf : ∀ a b, ¬ a = 66 → ¬ a = 67 → (setI (setI S 66 0 (nI (codeF I w))) 67 0 (nI 3)).1 a b = S.1 a b := fun a b q1 q2 => (rdI_k q2).trans (rdI_k q1)
  exact ⟨_, rfl, rfl, hb.keep (fun a b q => hf a b (by unfold KQ KQ2 at q; omega) (by unfold KQ KQ2 at q; omega)) (hb.2.2.2.2.2.1.keep (fun a b q => hf a b (by omega) (by omega)) (hf 45 5 (by omega) (by omega))), OKc.code hO hb.2.2.1.1, rdI_eq, (rdI_k (by decide)).trans rdI_eq, (rdI_j (by decide)).trans ((rdI_k (by decide)).trans (hk 1 (by decide))), (rdI_j (by decide)).trans ((rdI_k (by decide)).trans (hk 2 (by decide)))⟩
theorem c_imageL {c0 : Nat} (h : LB I w d S) (hO : IOK I) (hk : KP I c0 S) : C 3 90 yX10_image mX10_image [.ref 0, .int (nI 4)] S (qi (fun r S' => r = nI (iM I + 1) ∧ LB I w d S' ∧ KP I c0 S' ∧ IM I w S')) := by
  have hO2 := hO.2.1
  have e4 : (nI 4).toInt = 4 := by decide
  have t4 : tn (nI 4) = 4 := by decide
  refine (c_X10_image (x := nI 4) h.1 hO h.2.2.1.2.1 h.2.2.1.2.2.1 (by decide) h.2.2.1.1 h.2.2.2.2.1).mono (fun v S' hq => ?_)
  obtain ⟨rfl, rfl⟩ := hq
  rw [e2_1 (fun z => z ⟨by omega, by omega⟩), e2_1 (fun z => z ⟨by omega, by omega⟩), t4]
  have hf : ∀ a b, ¬ (a = 4 ∧ b = 4) → ¬ a = 5 → (imX S I w 3 4).1 a b = S.1 a b := fun a b q1 q2 => by
    unfold imX
    rw [rdI_k q2, rwS_k q2, fillA_k q2]
    by_cases z : a = 4
    · subst z; exact rdI_j (by omega)
    · exact rdI_k z
  have h44 : (imX S I w 3 4).1 4 4 = nI (iM I + 1) := by
    unfold imX
    rw [rdI_k (by decide), rwS_k (by decide), fillA_k (by decide), rdI_eq]
  have hf4 : ∀ r, r < 6 → (imX S I w 3 4).1 (3 + 1) r = -1 ∨ ∃ z, z ≤ 60 ∧ (imX S I w 3 4).1 (3 + 1) r = nI z := fun r hr => by
    by_cases z : r = 4
    · subst z; exact Or.inr ⟨iM I + 1, by omega, h44⟩
    · rw [hf (3 + 1) r (by omega) (by omega)]; exact h.2.2.2.2.1.2 r hr
  have e : ∀ a b, KQ a b → ¬ a = 4 → (imX S I w 3 4).1 a b = S.1 a b := fun a b q1 q2 => hf a b (by omega) (by unfold KQ KQ2 at q1; omega)
  refine ⟨_, rfl, rfl, ⟨h.1.keep (fun a h1 h2 b => hf a b (by omega) (by omega)), h.2.1.keep (fun a b hab => hf a b (by omega) (by omega)), h.2.2.1.keep (fun a b q => hf a b (by omega) (by omega)), ⟨(hf 83 0 (by omega) (by omega)).trans h.2.2.2.1.1, (hf 83 1 (by omega) (by omega)).trans h.2.2.2.1.2.1, (hf 83 12 (by omega) (by omega)).trans h.2.2.2.1.2.2.1, fun v hv => (hf 83 _ (by omega) (by omega)).trans (h.2.2.2.1.2.2.2 v hv)⟩, ⟨(hf 3 0 (by omega) (by omega)).trans h.2.2.2.2.1.1, hf4⟩, h.2.2.2.2.2.1.keep (fun a b q => hf a b (by omega) (by omega)) (hf 45 5 (by omega) (by omega)), (hf 63 0 (by omega) (by omega)).trans h.2.2.2.2.2.2⟩, hk.keep (fun a b q => hf a b (by omega) (by omega)), h44, fun t ht => ?_, ?_⟩
  · unfold imX
    rw [rdI_j (by omega)]
    exact rwS_at (a := 4 * 60) ht
  · unfold imX
    exact rdI_eq
theorem c_allL {c0 : Nat} {v : Nat → Nat} (h : LB I w d S) (hO : IOK I) (hk : KP I c0 S) (hm : IM I v S) (hc : codeF I w = c0) : C 5 150 yX10_all mX10_all [.ref 0] S (qi (fun r S' => r = nI (rC (fR I 3 c0)) ∧ S'.1 1 0 = nI (rD (fR I 3 c0) (rC (fR I 3 c0) - 1)) ∧ LB I w d S' ∧ KP I c0 S' ∧ IM I v S')) := by
  subst hc
  refine (c_X10_all h.1 hO h.2.2.1.2.1 h.2.2.1.2.2.1 (by decide) h.2.2.1.1 (by decide) (roomy hO hk.1) h.2.2.2.2.2.1).mono (fun v S' hq => ?_)
  obtain ⟨r, rfl, rfl, e, S2, f, x, rfl⟩ := hq
  have hA : As S2 (setI S2 1 0 (nI (rD (fR I 3 (codeF I w)) (rC (fR I 3 (codeF I w)) - 1)))) := As.refl.set
  have hs2 : SrX I S2 := x.sr (by decide) (by decide) hk.1
  have hf : ∀ a b, ¬ FS a → ¬ a = 1 → (setI S2 1 0 (nI (rD (fR I 3 (codeF I w)) (rC (fR I 3 (codeF I w)) - 1)))).1 a b = S.1 a b := fun a b q1 q2 => (rdI_k q2).trans (f.2 a q1 b)
  exact ⟨_, rfl, rfl, rdI_eq, h.keep (fun a b q => hf a b (by unfold FS; unfold KQ KQ2 at q; omega) (by unfold KQ KQ2 at q; omega)) (hA.sr hs2), hk.keep (fun a b q => hf a b (by unfold FS; omega) (by omega)), hm.keep (fun a b q => hf a b (by unfold FS; omega) (by omega))⟩
theorem WB.lb {c0 : Nat} {v w2 : Nat → Nat} {d2 : Nat} (hb : WB I S S1) (h : LB I w d S) (hk : KP I c0 S) (hm : IM I v S) (hp : WP I w2 d2 S1) : LB I w2 d2 S1 ∧ KP I c0 S1 ∧ IM I v S1 := by
  have hf : ∀ a b, (11 ≤ a ∧ a ≤ 22) ∨ a = 63 ∨ a = 66 ∨ a = 67 ∨ a = 83 ∨ (a = 4 ∧ b = 4) ∨ (a = 5 ∧ 240 ≤ b) → S1.1 a b = S.1 a b := fun a b q => hb.1 a b (by omega) (by omega) (by omega) (by omega) (by omega) (by omega) (by omega)
  exact ⟨⟨h.1.keep (fun a h1 h2 b => hf a b (by omega)), h.2.1.keep (fun a b hab => hf a b (by omega)), hp, ⟨(hf 83 0 (by omega)).trans h.2.2.2.1.1, (hf 83 1 (by omega)).trans h.2.2.2.1.2.1, (hf 83 12 (by omega)).trans h.2.2.2.1.2.2.1, fun v hv => (hf 83 _ (by omega)).trans (h.2.2.2.1.2.2.2 v hv)⟩, hb.2.1, hb.2.2, (hf 63 0 (by omega)).trans h.2.2.2.2.2.2⟩, hk.keep (fun a b q => hf a b (by omega)), hm.keep (fun a b q => hf a b (by omega))⟩
theorem c_goneL {c0 : Nat} {v : Nat → Nat} (h : LB I w d S) (hO : IOK I) (hk : KP I c0 S) (hm : IM I v S) (hv : VS I v 3) (hc : codeF I v = c0) : C 4 120 yX10_gone mX10_gone [.ref 0, .int (nI 4)] S (qi (fun r S' => r = nI 1 ∧ LB I (digF c0) 0 S' ∧ KP I c0 S' ∧ IM I v S')) := by
  have hO2 := hO.2.1
  have hv7 := (hv.ok hO).w7 hO
  have e4 : (nI 4).toInt = 4 := by decide
  have t4 : tn (nI 4) = 4 := by decide
  have em : (nI (iM I + 1)).toInt = (iM I : Int) + 1 := tiN (by omega)
  have hw : ∀ t, t < iM I → tn (S.1 5 (4 * 60 + t)) = v t := fun t ht => by
    have := hv7 t ht
    rw [show 4 * 60 + t = 240 + t by omega, hm.2.1 t ht, tnN (by omega)]
  have hcode : codeF I (fun t => tn (S.1 5 (4 * 60 + t))) = c0 := code_of hk.1 fun t ht => by
    rw [hw t ht, ← hc]; exact (dig_code hv7 t ht).symm
  have hgood : goodG I (fun t => S.1 5 (4 * 60 + t)) := by
    refine (goodG_iff (l := 3) hm.2.2 (by decide)).mpr ⟨by decide, fun t ht => ?_, ?_⟩
    · have := hv7 t ht
      show plcI I (S.1 5 (4 * 60 + t))
      rw [show 4 * 60 + t = 240 + t by omega, hm.2.1 t ht]
      exact (plcI_n (by omega)).mpr (hv.1 t ht).1
    · have hv' := hv.congr hO hw
      exact ⟨fun t ht => (hv'.1 t ht).2, hv'.2.1, hv'.2.2⟩
  refine (c_X10_gone (x := nI 4) h.1 hO h.2.2.2.2.1).mono (fun v S' hq => ?_)
  obtain ⟨r, rfl, hr⟩ := hq
  rw [t4, e5_4 (fun z => z ⟨by omega, by omega⟩) (by rw [hm.1]; omega) (by rw [hm.1]; omega) (fun z => z hgood), hcode] at hr
  obtain ⟨r1, S2, f, p, rfl⟩ := hr
  rw [show S.1 5 (4 * 60 + iM I) = nI 3 from hm.2.2]
  have t3 : tn (nI 3) = 3 := by decide
  rw [t3]
  have hf : ∀ a b, ¬ (35 ≤ a ∧ a ≤ 44) → ¬ (a = 60) → (setI (setI S2 35 5 (nI 3)) 60 0 (nI 0)).1 a b = S.1 a b := fun a b q1 q2 => (rdI_k q2).trans ((rdI_k (by omega)).trans (f.2 a (by omega) b))
  have hs' := h.2.2.2.2.2.1.keep (S' := setI (setI S2 35 5 (nI 3)) 60 0 (nI 0)) (fun a b q => hf a b (by omega) (by omega)) (hf 45 5 (by omega) (by omega))
  exact ⟨r, rfl, r1, h.move (fun a b q => hf a b (by unfold KQ2 at q; omega) (by unfold KQ2 at q; omega)) hs' ⟨hk.1.2, p.keep (fun a q1 q2 b => (rdI_k (by omega)).trans (rdI_k (by omega))), (rdI_k (by decide)).trans rdI_eq, rdI_eq⟩, hk.keep (fun a b q => hf a b (by omega) (by omega)), hm.keep (fun a b q => hf a b (by omega) (by omega))⟩
theorem FS_lb {c0 : Nat} (h : LB I w d S) (hk : KP I c0 S) (f : Fr FDy S S1) (hs : SrX I S1) : LB I w d S1 ∧ KP I c0 S1 := by
  have hf : ∀ a b, (3 ≤ a ∧ a ≤ 44) ∨ (60 ≤ a ∧ a ≤ 67) ∨ a = 83 → S1.1 a b = S.1 a b := fun a b q => f.2 a (by unfold FDy FS; omega) b
  exact ⟨h.keep (fun a b q => hf a b (by unfold KQ KQ2 at q; omega)) hs, hk.keep (fun a b q => hf a b (by omega))⟩
theorem c_tillL {c0 v : Nat} (h : LB I (digF c0) d S) (hO : IOK I) (hk : KP I c0 S) (hv : v < iW I) : C 6 180 yX10_till mX10_till [.ref 0, .int (nI v)] S (qi (fun r S' => (r = 0 ↔ canF I (digF c0) v) ∧ r.toInt ≤ (rD (fR I 3 c0) (rC (fR I 3 c0) - 1) : Int) ∧ LB I (digF c0) d S' ∧ KP I c0 S')) := by
  have hO3 := hO.2.2.1
  have hc : codeF I (digF c0) = c0 := code_dig hk.1.1
  have ev : (nI v).toInt = (v : Int) := tiN (by omega)
  have tv : tn (nI v) = v := tnN (by omega)
  have hR := roomy hO hk.1
  have h60 := depth60 hO hk.1
  have hinv := fR_inv hO hk.1
  refine (c_X10_till (x := nI v) h.1 hO h.2.2.1.2.1 h.2.2.1.2.2.1 (by decide) h.2.2.1.1 (by decide) (by rw [hc]; exact hR) h.2.2.2.2.2.1).mono (fun v' S' hq => ?_)
  obtain ⟨r, rfl, hr⟩ := hq
  rw [e2_1 (fun z => z ⟨by omega, by omega⟩), tv, hc] at hr
  obtain ⟨ha, f, e, x⟩ := hr
  have hlb := FS_lb h hk (S1 := S') ⟨f.1, fun a q b => f.2 a (fun z => q (Or.inl z)) b⟩ (x.sr (by decide) (by decide) hk.1)
  refine ⟨r, rfl, ?_, ?_, hlb.1, hlb.2⟩
  · rcases ha with ⟨i, i1, i2, i3, rfl⟩ | ⟨rfl, i3⟩
    · have := h60 i i1
      constructor
      · intro q
        have q0 : rD (fR I 3 c0) i = 0 := nI_inj (by omega) (by decide) (q.trans rfl)
        have qi := rD_0 hO hk.1 i1 q0
        rw [qi, hinv.1.2.1] at i2
        exact i2
      · intro q
        have qi : i = 0 := Classical.byContradiction fun z => i3 0 (by omega) (by rw [hinv.1.2.1]; exact q)
        rw [qi, hinv.1.2.2]
        rfl
    · exact ⟨fun q => absurd q (by decide), fun q => absurd (by rw [hinv.1.2.1]; exact q) (i3 0 hinv.1.1)⟩
  · rcases ha with ⟨i, i1, i2, i3, rfl⟩ | ⟨rfl, i3⟩
    · have k := hinv.mono (rC (fR I 3 c0) - 1) (by omega) i (by omega)
      have := h60 i i1
      rw [tiN (by omega)]; omega
    · exact Int.le_trans (by decide : ((-9 : Int32)).toInt ≤ 0) (Int.natCast_nonneg _)
theorem c_canL (h : LB I w d S) (hO : IOK I) : C 1 30 yX10_can mX10_can [.ref 0] S (qi (fun r S' => r = nI (dbF I w (iW I)) ∧ As S S')) := by
  refine (c_X10_can h.1 hO h.2.2.1.2.1 h.2.1).mono (fun v S' hq => ?_)
  obtain ⟨rfl, rfl⟩ := hq
  exact ⟨_, rfl, rfl, As.refl.set⟩
theorem c_mostL {c0 a : Nat} (h : LB I (digF c0) d S) (hO : IOK I) (hk : KP I c0 S) (ha : a ≤ 2) : C 6 180 yX10_most mX10_most [.ref 0, .int (nI a)] S (qi (fun r S' => r = vI (dyA I 3 c0 a) ∧ S'.1 1 0 = nI (sm (fun v => iV I v 3) (iW I)) ∧ LB I (digF c0) d S' ∧ KP I c0 S')) := by
  have hc : codeF I (digF c0) = c0 := code_dig hk.1.1
  have ea : (nI a).toInt = (a : Int) := tiN (by omega)
  have ta : tn (nI a) = a := tnN (by omega)
  refine (c_X10_most (x := nI a) h.1 hO h.2.2.1.2.1 h.2.2.1.2.2.1 (by decide) h.2.2.1.1 (by decide) h.2.1 (by rw [hc]; exact roomy hO hk.1) h.2.2.2.2.2.1).mono (fun v' S' hq => ?_)
  obtain ⟨r, rfl, hr⟩ := hq
  rw [e2_1 (fun z => z ⟨by omega, by omega⟩), ta, hc] at hr
  obtain ⟨r1, f, hs⟩ := hr
  have hA : As S (setI S 1 0 (nI (sm (fun v => iV I v 3) (iW I)))) := As.refl.set
  have hlb := FS_lb (h.as hA) (hk.keep (fun a b q => hA.2 a b (by omega))) f hs
  exact ⟨r, rfl, r1, (f.2 1 (by unfold FDy FS; omega) 0).trans rdI_eq, hlb.1, hlb.2⟩
theorem vI_sub {a b : Nat} (h : a ≤ b) : vI b - vI a = nI (b - a) := by
  have e : nI b = nI (b - a) + nI a := by rw [nI_add, Nat.sub_add_cancel h]
  unfold vI
  rw [e, Int32.sub_eq_add_neg (nI (b - a) + nI a), Int32.add_assoc, ← Int32.sub_eq_add_neg, Int32.add_sub_cancel]
theorem vI_back {a b : Nat} (h : a ≤ b) : vI a + nI (b - a) = vI b := by
  rw [← vI_sub h, Int32.add_comm, Int32.sub_add_cancel]
theorem c_handL {c0 a : Nat} (h : LB I (digF c0) d S) (hO : IOK I) (hk : KP I c0 S) (ha : a ≤ 2) : C 6 180 yX10_hand mX10_hand [.ref 0, .int (nI a)] S (qi (fun r S' => r = nI (dyA I 4 c0 a - dyA I 3 c0 a) ∧ LB I (digF c0) d S' ∧ KP I c0 S')) := by
  have hc : codeF I (digF c0) = c0 := code_dig hk.1.1
  have ea : (nI a).toInt = (a : Int) := tiN (by omega)
  have ta : tn (nI a) = a := tnN (by omega)
  have hk4 : OKc I 4 c0 := hk.1.up (by decide)
  refine (c_X10_hand (x := nI a) h.1 hO h.2.2.1.2.1 h.2.2.1.2.2.1 (by decide) h.2.2.1.1 (by decide) h.2.1 (by rw [hc]; exact roomy hO hk.1) h.2.2.2.2.2.1 (fun _ => by rw [hc]; exact roomy hO hk4)).mono (fun v' S' hq => ?_)
  obtain ⟨r, rfl, hr⟩ := hq
  rw [e3_2 (fun z => z ⟨by omega, by omega⟩) (by decide), ta, hc] at hr
  obtain ⟨r1, f, hs⟩ := hr
  have hlb := FS_lb h hk f hs
  exact ⟨r, rfl, r1.trans (vI_sub (dyA_up (d := 0) hO (by decide) hk.1 hk4)), hlb.1, hlb.2⟩
theorem c_creedL {c0 a v : Nat} (h : LB I (digF c0) d S) (hO : IOK I) (hk : KP I c0 S) (ha : a ≤ 2) (hv : 3 ≤ v) (hv6 : v ≤ 6) : C 6 180 yX10_creed mX10_creed [.ref 0, .int (nI v), .int (nI a)] S (qi (fun r S' => r = vI (dyA I v c0 a) ∧ LB I (digF c0) d S' ∧ KP I c0 S')) := by
  have hc : codeF I (digF c0) = c0 := code_dig hk.1.1
  have ea : (nI a).toInt = (a : Int) := tiN (by omega)
  have ta : tn (nI a) = a := tnN (by omega)
  have ev : (nI v).toInt = (v : Int) := tiN (by omega)
  have tv : tn (nI v) = v := tnN (by omega)
  refine (c_X10_creed (y := nI v) (x := nI a) h.1 hO h.2.2.1.2.1 h.2.2.1.2.2.1 (by decide) h.2.2.1.1 h.2.1 h.2.2.2.2.2.1 (fun u u1 u6 hu => by rw [hc]; exact roomy hO ⟨hk.1.1, hk.1.2.over hu⟩)).mono (fun v' S' hq => ?_)
  obtain ⟨r, rfl, hr⟩ := hq
  rw [e3_2 (fun z => z ⟨⟨by omega, by omega⟩, by omega, by omega⟩) (fun z => by obtain ⟨p, p1, p2⟩ := z; rw [tv] at p2; have := hk.1.2.2.2 p p1; omega), ta, tv, hc] at hr
  obtain ⟨r1, f, hs⟩ := hr
  have hlb := FS_lb h hk f hs
  exact ⟨r, rfl, r1, hlb.1, hlb.2⟩
theorem ThS.lb {c0 : Nat} (f : ThS I S S1) (h : LB I w d S) (hk : KP I c0 S) : LB I w d S1 ∧ KP I c0 S1 :=
  ⟨h.keep (fun a b q => f.2.1 a b (by unfold FT; unfold KQ KQ2 at q; omega) (by unfold KQ KQ2 at q; omega)) f.2.2, hk.keep (fun a b q => f.2.1 a b (by unfold FT; omega) (by omega))⟩
theorem Dfr.wb {c0 : Nat} (f : Dfr S S1) (h : LB I w d S) (hk : KP I c0 S) : WB I S1 S1 ∧ IsX 11 I S1 ∧ KP I c0 S1 :=
  ⟨⟨fun _ _ _ _ _ _ _ _ _ => rfl, h.2.2.2.2.1.keep (f 3 0 (by omega) (by omega) (by omega) (by omega)) (fun r _ => f 4 r (by omega) (by omega) (by omega) (by omega)), h.2.2.2.2.2.1.keep (fun a b q => f a b (by omega) (by omega) (by omega) (by omega)) (f 45 5 (by omega) (by omega) (by omega) (by omega))⟩, f.I h.1, hk.keep (fun a b q => f a b (by omega) (by omega) (by omega) (by omega))⟩
end LWC
theorem cb_mn {b : Nat → Bool} {m : Nat} : ∀ e, cb b m ≤ cb b (m + e)
  | 0 => Nat.le_refl _
  | e + 1 => by
    rw [← Nat.add_assoc, cb_s]
    exact Nat.le_trans (cb_mn e) (Nat.le_add_right _ _)
theorem cb_mn2 {b : Nat → Bool} {m n : Nat} (h : m ≤ n) : cb b m ≤ cb b n := by
  have k := cb_mn (b := b) (m := m) (n - m)
  rwa [Nat.add_sub_cancel' h] at k
/-- the least from above -/
def frD (b : Nat → Bool) (n : Nat) : Nat → Int32
  | 0 => -9
  | j + 1 => if b (n - (j + 1)) = true then nI (n - (j + 1)) else frD b n j
theorem fr_all {b : Nat → Bool} {n : Nat} (hn : n < 2147483648) : frD b n (n - 0) = fb b n := by
  have k : ∀ j, j ≤ n → fb b n = if cb b (n - j) = 0 then frD b n j else fb b (n - j) := by
    intro j
    induction j with
    | zero =>
      intro _
      by_cases z : cb b n = 0
      · rw [Nat.sub_zero, if_pos z]; exact (fb_iff hn).mpr z
      · rw [Nat.sub_zero, if_neg z]
    | succ j ih =>
      intro hj
      have ih := ih (by omega)
      rw [show n - j = n - (j + 1) + 1 by omega, fb_s, cb_s] at ih
      rw [ih]
      show _ = if _ then (if b (n - (j + 1)) = true then nI (n - (j + 1)) else frD b n j) else _
      by_cases z : cb b (n - (j + 1)) = 0
      · by_cases y : b (n - (j + 1)) = true
        · rw [if_pos z, if_pos y, if_pos y, if_neg (by omega), if_pos ⟨z, y⟩]
        · rw [if_pos z, if_neg y, if_neg y, if_pos (by omega)]
      · rw [if_neg z, if_neg (by omega), if_neg (fun q => z q.1)]
  have h := k n (Nat.le_refl _)
  rw [Nat.sub_self] at h
  rw [Nat.sub_zero, h]
  exact (if_pos rfl).symm
theorem fr_t {b : Nat → Bool} {n s : Nat} (h : b s = true) (hs : s < n) : frD b n (n - s) = nI s := by
  rw [show n - s = n - (s + 1) + 1 by omega]
  show (if b (n - (n - (s + 1) + 1)) = true then nI (n - (n - (s + 1) + 1)) else _) = _
  rw [show n - (n - (s + 1) + 1) = s by omega, if_pos h]
theorem fr_f {b : Nat → Bool} {n s : Nat} (h : ¬ b s = true) (hs : s < n) : frD b n (n - s) = frD b n (n - (s + 1)) := by
  rw [show n - s = n - (s + 1) + 1 by omega]
  show (if b (n - (n - (s + 1) + 1)) = true then nI (n - (n - (s + 1) + 1)) else frD b n (n - (s + 1))) = _
  rw [show n - (n - (s + 1) + 1) = s by omega, if_neg h]
theorem cs_t {b : Nat → Bool} {n s : Nat} (h : b s = true) (hs : s < n) : cb b n - cb b s = cb b n - cb b (s + 1) + 1 := by
  have k := cb_mn2 (b := b) (show s + 1 ≤ n by omega)
  rw [cb_t h] at k ⊢
  omega
theorem cs_f {b : Nat → Bool} {n s : Nat} (h : ¬ b s = true) : cb b n - cb b s = cb b n - cb b (s + 1) + 0 := by
  rw [cb_f h]
  rfl
theorem mayB_i {I : Isl} {w : Nat → Nat} {L s : Nat} : mayB I w L s = true ↔ mayF I w L (s / 7) (s % 7) := dec_iff

theorem tot_le {I : Isl} (hO : IOK I) : sm (fun v => iV I v 3) (iW I) ≤ 72 := by
  have h3 := hO.2.2.1
  have k : sm (fun v => iV I v 3) (iW I) ≤ 9 * iW I := sm_le (fun i hi => (hO.2.2.2.2.2.2.2.2 i hi).2.2.2.2.2)
  omega
