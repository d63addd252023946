/-! ===== wanted ===== -/
def WFr (S S1 : St) : Prop := ∀ a b, ¬ (a = 1 ∧ b = 0) → ¬ (a = 4 ∧ (b = 1 ∨ b = 2)) → ¬ (a = 5 ∧ 60 ≤ b ∧ b < 180) → ¬ (35 ≤ a ∧ a ≤ 49) → ¬ (60 ≤ a ∧ a ≤ 62) → ¬ (68 ≤ a ∧ a ≤ 77) → ¬ a = 84 → S1.1 a b = S.1 a b
def WB (I : Isl) (S S1 : St) : Prop := WFr S S1 ∧ RwS 3 6 60 S1 ∧ SrX I S1
/-- where all is now, how many steps are done -/
def WP (I : Isl) (w : Nat → Nat) (d : Nat) (S1 : St) : Prop := VS I w 3 ∧ PlT 35 I w S1 ∧ S1.1 35 5 = nI 3 ∧ S1.1 60 0 = nI d
def W1 (I : Isl) (wv : Nat → Int32) (S1 : St) : Prop := S1.1 4 1 = nI (iM I) ∧ (∀ t, t < iM I → S1.1 5 (60 + t) = wv t) ∧ ∀ t, t < iM I → S1.1 84 t = wv t
def W2 (v : Nat → Int32) (D : Nat) (S1 : St) : Prop := S1.1 4 2 = nI D ∧ ∀ k, k < D → S1.1 5 (120 + k) = v k
def RK (S1 S2 : St) : Prop := ∀ a b, a = 4 ∨ a = 5 ∨ a = 84 → S2.1 a b = S1.1 a b
def KP (I : Isl) (c0 : Nat) (S : St) : Prop := OKc I 3 c0 ∧ S.1 67 0 = nI 3 ∧ S.1 66 0 = nI c0 ∧ S.1 67 1 = nI 0 ∧ S.1 67 2 = nI 0
def wvO (I : Isl) (wv : Nat → Int32) : Prop := ∀ t, t < iM I → wv t = -1 ∨ wv t = nI 4 ∨ (0 ≤ (wv t).toInt ∧ (wv t).toInt < (iP I : Int))
theorem WB.I {I : Isl} {S S1 : St} (h : WB I S S1) (hI : IsX 11 I S) : IsX 11 I S1 := hI.keep (fun a h1 h2 b => h.1 a b (by omega) (by omega) (by omega) (by omega) (by omega) (by omega) (by omega))
theorem W1.rk {I : Isl} {wv : Nat → Int32} {S1 S2 : St} (h : W1 I wv S1) (k : RK S1 S2) : W1 I wv S2 := ⟨(k 4 1 (by omega)).trans h.1, fun t ht => (k 5 _ (by omega)).trans (h.2.1 t ht), fun t ht => (k 84 t (by omega)).trans (h.2.2 t ht)⟩
theorem W2.rk {v : Nat → Int32} {D : Nat} {S1 S2 : St} (h : W2 v D S1) (k : RK S1 S2) : W2 v D S2 := ⟨(k 4 2 (by omega)).trans h.1, fun t ht => (k 5 _ (by omega)).trans (h.2 t ht)⟩
theorem As.rk {S1 S2 : St} (h : As S1 S2) : RK S1 S2 := fun a b ha => h.2 a b (by omega)
theorem WB.as {I : Isl} {S S1 S2 : St} (h : WB I S S1) (f : As S1 S2) : WB I S S2 := by
  refine ⟨fun a b q1 q2 q3 q4 q5 q6 q7 => (f.2 a b q1).trans (h.1 a b q1 q2 q3 q4 q5 q6 q7), h.2.1.keep (f.2 3 0 (by omega)) (fun r _ => f.2 4 r (by omega)), h.2.2.keep (fun a b q => f.2 a b (by omega)) (f.2 45 5 (by omega))⟩
theorem WP.as {I : Isl} {w : Nat → Nat} {d : Nat} {S1 S2 : St} (h : WP I w d S1) (f : As S1 S2) : WP I w d S2 := ⟨h.1, f.P h.2.1, (f.2 35 5 (by omega)).trans h.2.2.1, (f.2 60 0 (by omega)).trans h.2.2.2⟩
theorem wantP_c {I : Isl} {f g : Nat → Int32} (h : ∀ t, t < iM I → f t = g t) : wantP I f = wantP I g := by
  funext c
  refine propext ⟨fun k t ht q => ?_, fun k t ht q => ?_⟩
  · rw [← h t ht] at q ⊢; exact k t ht q
  · rw [h t ht] at q ⊢; exact k t ht q
theorem code_of {I : Isl} {L c : Nat} {w : Nat → Nat} (h : OKc I L c) (hw : ∀ t, t < iM I → w t = digF c t) : codeF I w = c := by
  rw [← code_dig h.1]
  exact sm_congr fun t ht => by rw [hw t ht]
/-- fewest's answer -/
def fewA (I : Isl) (wv : Nat → Int32) (c : Nat) (r : Int32) (x : Int32) : Prop := (∃ i, fstW I 3 c (wantP I wv) i ∧ r = nI (rD (fR I 3 c) i) ∧ ∃ k, 1 ≤ k ∧ k < 100000 ∧ x = nI k) ∨ (r = -9 ∧ ∀ j, j < rC (fR I 3 c) → ¬ wantP I wv (rK (fR I 3 c) j))
section WN
variable {S S1 : St} {I : Isl} {w : Nat → Nat} {d : Nat} {wv : Nat → Int32}
theorem FS_p {S2 S3 : St} (hp : WP I w d S2) (f : Fr (fun a => FS a ∨ a = 75) S2 S3) : WP I w d S3 := by
  have e : ∀ a b, a ≤ 44 ∨ (50 ≤ a ∧ a ≤ 67) → S3.1 a b = S2.1 a b := fun a b h => f.2 a (by unfold FS; omega) b
  exact ⟨hp.1, hp.2.1.keep (fun a h1 h2 b => e a b (by omega)), (e 35 5 (by omega)).trans hp.2.2.1, (e 60 0 (by omega)).trans hp.2.2.2⟩
theorem FS_b {S2 S3 : St} (hb : WB I S S2) (f : Fr (fun a => FS a ∨ a = 75) S2 S3) (hs : SrX I S3) : WB I S S3 := by
  have e : ∀ a b, ¬ (45 ≤ a ∧ a ≤ 49) → ¬ (68 ≤ a ∧ a ≤ 77) → S3.1 a b = S2.1 a b := fun a b h1 h2 => f.2 a (by unfold FS; omega) b
  exact ⟨fun a b q1 q2 q3 q4 q5 q6 q7 => (e a b (by omega) (by omega)).trans (hb.1 a b q1 q2 q3 q4 q5 q6 q7), hb.2.1.keep (e 3 0 (by omega) (by omega)) (fun r _ => e 4 r (by omega) (by omega)), hs⟩
theorem c_fewW (hb : WB I S S1) (hI : IsX 11 I S) (hO : IOK I) (hp : WP I w d S1) (h1 : W1 I wv S1) (hwv : wvO I wv) : C 6 180 yX10_fewest mX10_fewest [.ref 0, .int (nI 1)] S1 (qi (fun r S' => fewA I wv (codeF I w) r (S'.1 1 0) ∧ WB I S S' ∧ WP I w d S' ∧ RK S1 S')) := by
  have hO2 := hO.2.1
  have t1 : tn (nI 1) = 1 := by decide
  have e1 : (nI 1).toInt = 1 := by decide
  have h0 := OKc.code hO hp.1
  have hR := roomy hO h0
  have em : (nI (iM I)).toInt = (iM I : Int) := tiN (by omega)
  have eW : wantP I (fun t => S1.1 5 (1 * 60 + t)) = wantP I wv := wantP_c (fun t ht => h1.2.1 t ht)
  refine (c_X10_fewest (x := nI 1) (hb.I hI) hO hp.2.1 hp.2.2.1 (by decide) hp.1 (by decide) hR hb.2.2 hb.2.1).mono (fun v S' hq => ?_)
  obtain ⟨r, rfl, hr⟩ := hq
  rw [e5_4 (by omega) (by rw [t1, h1.1]; omega) (by rw [t1, h1.1]; omega) (by
    rw [t1]
    intro q
    exact q fun t ht => by rw [show 1 * 60 + t = 60 + t by omega, h1.2.1 t ht]; exact hwv t ht), t1, eW] at hr
  rcases hr with ⟨i, i1, i2, i3, i4, S2, e, f1, f2, rfl⟩ | ⟨rfl, i3, e, f1, f2⟩
  · have hA : As S2 (setI S2 1 0 (nI (sm (nearT I 3 (codeF I w) i (fun t => S1.1 5 (1 * 60 + t))) (rC (fR I 3 (codeF I w)))))) := As.refl.set
    have hrk : RK S1 S2 := fun a b ha => f1.2 a (by unfold FS; omega) b
    refine ⟨r, rfl, Or.inl ⟨i, ⟨i1, i2, i3⟩, i4, _, ?_, ?_, rdI_eq⟩, (FS_b hb f1 (f2.sr (by decide) (by decide) h0)).as hA, (FS_p hp f1).as hA, fun a b ha => (hA.rk a b ha).trans (hrk a b ha)⟩
    · have k := dq_lt (f := fun _ => 0) (g := nearT I 3 (codeF I w) i (fun t => S1.1 5 (1 * 60 + t))) (u := i) (d := 1) (n := rC (fR I 3 (codeF I w))) (fun _ _ => Nat.zero_le _) i1 (by rw [nearT_1 rfl (by rw [eW]; exact i2)]; omega)
      omega
    · have k := nearT_le (I := I) (L := 3) (c0 := codeF I w) (f := i) (wv := fun t => S1.1 5 (1 * 60 + t)) (rC (fR I 3 (codeF I w)))
      have k2 := hR.1 _ (bN_ok hO h0).1
      have k3 : rC (fR I 3 (codeF I w)) ≤ 8525 := k2
      omega
  · exact ⟨_, rfl, Or.inr ⟨rfl, i3⟩, FS_b hb f1 (f2.sr (by decide) (by decide) h0), FS_p hp f1, fun a b ha => f1.2 a (by unfold FS; omega) b⟩
theorem c_wayW (hb : WB I S S1) (hI : IsX 11 I S) (hO : IOK I) (hp : WP I w d S1) (h1 : W1 I wv S1) (hwv : wvO I wv) : C 6 180 yX10_way mX10_way [.ref 0, .int (nI 1), .int (nI 2)] S1 (qi (fun r S' => ((∃ i, fstW I 3 (codeF I w) (wantP I wv) i ∧ r = nI (rD (fR I 3 (codeF I w)) i) ∧ W2 (wayF (fR I 3 (codeF I w)) i (rD (fR I 3 (codeF I w)) i)) (rD (fR I 3 (codeF I w)) i) S') ∨ (r = -9 ∧ ∀ j, j < rC (fR I 3 (codeF I w)) → ¬ wantP I wv (rK (fR I 3 (codeF I w)) j))) ∧ WB I S S' ∧ WP I w d S' ∧ W1 I wv S')) := by
  have hO2 := hO.2.1
  have t1 : tn (nI 1) = 1 := by decide
  have t2 : tn (nI 2) = 2 := by decide
  have e1 : (nI 1).toInt = 1 := by decide
  have e2 : (nI 2).toInt = 2 := by decide
  have h0 := OKc.code hO hp.1
  have hR := roomy hO h0
  have h60 := depth60 hO h0
  have em : (nI (iM I)).toInt = (iM I : Int) := tiN (by omega)
  have eW : wantP I (fun t => S1.1 5 (1 * 60 + t)) = wantP I wv := wantP_c (fun t ht => h1.2.1 t ht)
  refine (c_X10_way (x := nI 1) (y := nI 2) (hb.I hI) hO hp.2.1 hp.2.2.1 (by decide) hp.1 (by decide) hR hb.2.2 hb.2.1 h60).mono (fun v S' hq => ?_)
  obtain ⟨r, rfl, hr⟩ := hq
  rw [e5_4 (by omega) (by rw [t1, h1.1]; omega) (by rw [t1, h1.1]; omega) (by
    rw [t1]
    intro q
    exact q fun t ht => by rw [show 1 * 60 + t = 60 + t by omega, h1.2.1 t ht]; exact hwv t ht), t1, t2, eW] at hr
  rcases hr with ⟨i, i1, i2, i3, i4, S2, e, f1, f2, rfl⟩ | ⟨rfl, i3, e, f1, f2⟩
  · have hD := h60 i i1
    generalize hDn : rD (fR I 3 (codeF I w)) i = D at hD i4
    have hk : ∀ a b, ¬ (a = 4 ∧ b = 2) → ¬ (a = 5 ∧ 120 ≤ b ∧ b < 180) → (wayX S2 2 (fR I 3 (codeF I w)) i D).1 a b = S2.1 a b := fun a b q1 q2 => by
      unfold wayX
      rw [rwS_d, if_neg (by omega)]
      by_cases z : a = 4
      · subst z; exact rdI_j (by omega)
      · exact rdI_k z
    have hb2 := FS_b hb f1 (f2.sr (by decide) (by decide) h0)
    have hp2 := FS_p hp f1
    have h12 := h1.rk (fun a b ha => f1.2 a (by unfold FS; omega) b : RK S1 S2)
    refine ⟨r, rfl, Or.inl ⟨i, ⟨i1, i2, i3⟩, ?_, ?_, ?_⟩, ⟨fun a b q1 q2 q3 q4 q5 q6 q7 => (hk a b (by omega) (by omega)).trans (hb2.1 a b q1 q2 q3 q4 q5 q6 q7), ⟨(hk 3 0 (by omega) (by omega)).trans hb2.2.1.1, fun r hr => ?_⟩, hb2.2.2.keep (fun a b q => hk a b (by omega) (by omega)) (hk 45 5 (by omega) (by omega))⟩, ⟨hp2.1, hp2.2.1.keep (fun a q1 q2 b => hk a b (by omega) (by omega)), (hk 35 5 (by omega) (by omega)).trans hp2.2.2.1, (hk 60 0 (by omega) (by omega)).trans hp2.2.2.2⟩, ⟨(hk 4 1 (by omega) (by omega)).trans h12.1, fun t ht => (hk 5 _ (by omega) (by omega)).trans (h12.2.1 t ht), fun t ht => (hk 84 t (by omega) (by omega)).trans (h12.2.2 t ht)⟩⟩
    · rw [hDn]; exact i4
    · rw [hDn]
      unfold wayX
      rw [rwS_k (by decide), rdI_eq]
    · rw [hDn]
      intro k hk2
      exact rwS_at (S := setI S2 4 2 (nI D)) (k := 5) (a := 2 * 60) hk2
    · by_cases z : r = 2
      · subst z
        refine Or.inr ⟨D, hD, ?_⟩
        unfold wayX
        rw [rwS_k (by decide), rdI_eq]
      · rw [hk (3 + 1) r (by omega) (by omega)]; exact hb2.2.1.2 r hr
  · exact ⟨_, rfl, Or.inr ⟨rfl, i3⟩, FS_b hb f1 (f2.sr (by decide) (by decide) h0), FS_p hp f1, h1.rk (fun a b ha => f1.2 a (by unfold FS; omega) b : RK S1 S')⟩
theorem c_atW {v : Nat → Int32} {D k : Nat} (hb : WB I S S1) (h2 : W2 v D S1) (hD : D ≤ 60) (hk : k < D) : C 3 90 yX10_at mX10_at [.ref 0, .int (nI 2), .int (nI k)] S1 (qi (fun r S' => r = nI 1 ∧ S'.1 1 0 = v k ∧ As S1 S')) := by
  have t2 : tn (nI 2) = 2 := by decide
  have e2 : (nI 2).toInt = 2 := by decide
  have tk : tn (nI k) = k := tnN (by omega)
  have ek : (nI k).toInt = (k : Int) := tiN (by omega)
  have eD : (nI D).toInt = (D : Int) := tiN (by omega)
  refine (c_X10_at (x := nI 2) (y := nI k) hb.2.1).mono (fun v' S' hq => ?_)
  obtain ⟨rfl, rfl⟩ := hq
  have q1 : layA 6 (nI 2) (nI k) (S1.1 4 (tn (nI 2))) 1 = nI 1 := by
    unfold layA
    rw [t2, h2.1, if_neg (by omega), if_neg (by omega), if_neg (by omega)]
    rfl
  have q2 : atX S1 (nI 2) (nI k) = setI S1 1 0 (v k) := by
    unfold atX
    rw [t2, h2.1, tk, if_neg (by omega), if_neg (by omega), if_neg (by omega), show 2 * 60 + k = 120 + k by omega, h2.2 k hk]
  rw [q1, q2]
  exact ⟨_, rfl, rfl, rdI_eq, As.refl.set⟩
/-- cells of places and steps alone have changed -/
def PFr (S1 S2 : St) : Prop := ∀ a b, ¬ (35 ≤ a ∧ a ≤ 44) → ¬ (60 ≤ a ∧ a ≤ 62) → S2.1 a b = S1.1 a b
theorem PFr.b {S2 : St} (hb : WB I S S1) (f : PFr S1 S2) : WB I S S2 := ⟨fun a b q1 q2 q3 q4 q5 q6 q7 => (f a b (by omega) (by omega)).trans (hb.1 a b q1 q2 q3 q4 q5 q6 q7), hb.2.1.keep (f 3 0 (by omega) (by omega)) (fun r _ => f 4 r (by omega) (by omega)), hb.2.2.keep (fun a b q => f a b (by omega) (by omega)) (f 45 5 (by omega) (by omega))⟩
theorem PFr.rk {S2 : St} (f : PFr S1 S2) : RK S1 S2 := fun a b ha => f a b (by omega) (by omega)
theorem c_stepW {t to : Nat} (hb : WB I S S1) (hI : IsX 11 I S) (hO : IOK I) (hp : WP I w d S1) (hd : d < 40) (ht : t < iM I) (hto : to < 7) (hm : mayF I w 3 t to) : C 5 150 yX10_step mX10_step [.ref 0, .int (nI t), .int (nI to)] S1 (qi (fun r S' => r = nI 1 ∧ WB I S S' ∧ WP I (upW w t to) (d + 1) S' ∧ RK S1 S')) := by
  have hO2 := hO.2.1
  have et : (nI t).toInt = (t : Int) := tiN (by omega)
  have tt : tn (nI t) = t := tnN (by omega)
  have tto : tn (nI to) = to := tnN (by omega)
  have hv2 := VS_step hO hp.1 ht hm
  refine (c_X10_step (x := nI t) (y := nI to) (hb.I hI) hO hp.2.1 hp.2.2.1 (by decide) hp.1 hp.2.2.2 (by omega) (fun t to ht _ hm => (VS_step hO hp.1 ht hm).ok hO)).mono (fun v S' hq => ?_)
  obtain ⟨r, rfl, hr⟩ := hq
  rw [tt, tto, e4_3 (fun q => q ⟨⟨by omega, by omega⟩, (plcI_n (by omega)).mpr hm.1⟩) (fun q => q hm) (by omega)] at hr
  obtain ⟨r1, _, f, p⟩ := hr
  have hf : PFr S1 S' := fun a b q1 q2 => (f.2 a (by omega) b).trans (dnS_k (by omega))
  exact ⟨r, rfl, r1, hf.b hb, ⟨hv2, p, (f.2 35 (by omega) 5).trans ((dnS_k (by omega)).trans hp.2.2.1), (f.2 60 (by omega) 0).trans rdI_eq⟩, hf.rk⟩
theorem c_onW {c0 : Nat} (hb : WB I S S1) (hI : IsX 11 I S) (hO : IOK I) (hk : KP I c0 S) : C 4 120 yX10_on mX10_on [.ref 0, .int (nI 0)] S1 (qi (fun r S' => r = nI 1 ∧ WB I S S' ∧ WP I (digF c0) 0 S' ∧ RK S1 S')) := by
  have e0 : (nI 0).toInt = 0 := rfl
  have t0 : tn (nI 0) = 0 := by decide
  obtain ⟨k0, k1, k2, k3, k4⟩ := hk
  have e67 : ∀ a b, a = 66 ∨ a = 67 → S1.1 a b = S.1 a b := fun a b ha => hb.1 a b (by omega) (by omega) (by omega) (by omega) (by omega) (by omega) (by omega)
  refine (c_X10_on (x := nI 0) (kc := fun _ => c0) (kl := fun k => if k = 0 then 3 else 0) (hb.I hI) hO (fun k hk => ?_)).mono (fun v S' hq => ?_)
  · rcases (show k = 0 ∨ k = 1 ∨ k = 2 by omega) with rfl | rfl | rfl
    · exact ⟨(e67 67 0 (by omega)).trans k1, by decide, fun _ => ⟨(e67 66 0 (by omega)).trans k2, k0.lt hO, k0.2⟩⟩
    · exact ⟨(e67 67 1 (by omega)).trans k3, by decide, fun q => absurd rfl q⟩
    · exact ⟨(e67 67 2 (by omega)).trans k4, by decide, fun q => absurd rfl q⟩
  · obtain ⟨r, rfl, hr⟩ := hq
    rw [t0, e3_2 (by omega) (by decide)] at hr
    obtain ⟨r1, S2, ⟨_, f, p⟩, rfl⟩ := hr
    have hf : PFr S1 (setI (setI S2 35 5 (nI 3)) 60 0 (nI 0)) := fun a b q1 q2 => (rdI_k (by omega)).trans ((rdI_k (by omega)).trans (f.2 a (by omega) b))
    exact ⟨r, rfl, r1, hf.b hb, ⟨k0.2, p.keep (fun a q1 q2 b => (rdI_k (by omega)).trans (rdI_k (by omega))), (rdI_k (by decide)).trans rdI_eq, rdI_eq⟩, hf.rk⟩
theorem c_doesW {y : Nat → Nat} {v : Nat → Int32} {D : Nat} (hb : WB I S S1) (hI : IsX 11 I S) (hO : IOK I) (hp : WP I w 0 S1) (h2 : W2 v D S1) (hD : D ≤ 40) (hv : ∀ k, k < D → v k = nI (y k)) (hg : goesD I 3 w y D) (hy : ∀ k, k < D → y k < 7 * iM I) : C 5 150 yX10_does mX10_does [.ref 0, .int (nI 2)] S1 (qi (fun r S' => r = nI D ∧ WB I S S' ∧ WP I (stD w y D) D S' ∧ RK S1 S')) := by
  have hO2 := hO.2.1
  have t2 : tn (nI 2) = 2 := by decide
  have e2 : (nI 2).toInt = 2 := by decide
  have tD : tn (nI D) = D := tnN (by omega)
  have eD : (nI D).toInt = (D : Int) := tiN (by omega)
  have hrow : ∀ k, k < D → S1.1 5 (2 * 60 + k) = nI (y k) := fun k hk => (h2.2 k hk).trans (hv k hk)
  have hnum : ∀ k, k < D → numOK I (S1.1 5 (2 * 60 + k)) := fun k hk => by
    have hyk := hy k hk
    rw [hrow k hk]
    have e : (nI (y k)).toInt = (y k : Int) := tiN (by omega)
    refine ⟨by omega, by rw [e, Int.toNat_natCast]; omega, by rw [e, Int.toNat_natCast]; exact (hg k hk).1⟩
  have est : ∀ k, k ≤ D → stD w (fun j => tn (S1.1 5 (2 * 60 + j))) k = stD w y k := by
    intro k
    induction k with
    | zero => intro _; rfl
    | succ k ih =>
      intro hk
      have hyk := hy k (by omega)
      show upW (stD w _ k) (tn (S1.1 5 (2 * 60 + k)) / 7) (tn (S1.1 5 (2 * 60 + k)) % 7) = upW (stD w y k) (y k / 7) (y k % 7)
      rw [ih (by omega), hrow k (by omega), tnN (by omega)]
  refine (c_X10_does (x := nI 2) (hb.I hI) hO hp.2.1 hp.2.2.1 (by decide) hp.1 hb.2.1 hp.2.2.2 (by decide)).mono (fun v' S' hq => ?_)
  obtain ⟨r, rfl, hr⟩ := hq
  rw [t2, h2.1, tD, e5_4 (by omega) (by omega) (fun q => q hnum) (by omega)] at hr
  obtain ⟨k, rfl, hh, hdo⟩ := hr
  have hkD : k = D := by
    rcases hh.2.2 with e | e
    · exact e
    · refine Classical.byContradiction fun q => e ?_
      have hk : k < D := by have := hh.1; omega
      have hyk := hy k hk
      show mayF I (stD w (fun j => tn (S1.1 5 (2 * 60 + j))) k) 3 (tn (S1.1 5 (2 * 60 + k)) / 7) (tn (S1.1 5 (2 * 60 + k)) % 7)
      rw [est k (by omega), hrow k hk, tnN (by omega)]
      exact hg k hk
  subst hkD
  obtain ⟨d1, d2, d3, d4, d5⟩ := hdo
  rw [est k (Nat.le_refl _)] at d2
  rw [Nat.zero_add] at d3
  have hf : PFr S1 S' := fun a b q1 q2 => d1.2 a (by omega) b
  exact ⟨_, rfl, rfl, hf.b hb, ⟨stD_VS hO hp.1 hg (fun j hj => by have := hy j hj; omega), d2, (d1.2 35 (by omega) 5).trans hp.2.2.1, d3⟩, hf.rk⟩
/-- row 1, as far as it is laid -/
def W0 (I : Isl) (wv : Nat → Int32) (t : Nat) (S1 : St) : Prop := S1.1 4 1 = nI (iM I) ∧ (∀ u, u < t → S1.1 5 (60 + u) = wv u) ∧ ∀ u, u < t → S1.1 84 u = wv u
theorem c_row1 (hO : IOK I) (hb : WB I S S1) (hp : WP I w d S1) : C 3 90 yX10_row mX10_row [.ref 0, .int (nI 1), .int (nI (iM I))] S1 (qi (fun r S' => r = nI (iM I) ∧ WB I S S' ∧ WP I w d S' ∧ S'.1 4 1 = nI (iM I))) := by
  have hO2 := hO.2.1
  have t1 : tn (nI 1) = 1 := by decide
  have e1 : (nI 1).toInt = 1 := by decide
  have tm : tn (nI (iM I)) = iM I := tnN (by omega)
  have em : (nI (iM I)).toInt = (iM I : Int) := tiN (by omega)
  refine (c_X10_row (x := nI 1) (y := nI (iM I)) hb.2.1).mono (fun v' S' hq => ?_)
  obtain ⟨rfl, rfl⟩ := hq
  have q1 : rowA 6 60 (nI 1) (nI (iM I)) = nI (iM I) := by
    unfold rowA
    rw [if_neg (by omega), if_neg (by omega)]
  have q2 : rowX S1 (nI 1) (nI (iM I)) = fillA (setI S1 4 1 (nI (iM I))) 5 60 (60 + iM I) (nI 0) := by
    unfold rowX
    rw [if_neg (by omega), if_neg (by omega), t1, tm]
  rw [q1, q2]
  have hk : ∀ a b, ¬ (a = 4 ∧ b = 1) → ¬ (a = 5 ∧ 60 ≤ b ∧ b < 120) → (fillA (setI S1 4 1 (nI (iM I))) 5 60 (60 + iM I) (nI 0)).1 a b = S1.1 a b := fun a b z1 z2 => by
    by_cases z5 : a = 5
    · subst z5; rw [fillA_o (by omega), rdI_k (by decide)]
    · rw [fillA_k z5]
      by_cases z4 : a = 4
      · subst z4; exact rdI_j (by omega)
      · exact rdI_k z4
  have h41 : (fillA (setI S1 4 1 (nI (iM I))) 5 60 (60 + iM I) (nI 0)).1 4 1 = nI (iM I) := (fillA_k (by decide)).trans rdI_eq
  refine ⟨_, rfl, rfl, ⟨fun a b q1 q2 q3 q4 q5 q6 q7 => (hk a b (by omega) (by omega)).trans (hb.1 a b q1 q2 q3 q4 q5 q6 q7), ⟨(hk 3 0 (by omega) (by omega)).trans hb.2.1.1, fun r hr => ?_⟩, hb.2.2.keep (fun a b q => hk a b (by omega) (by omega)) (hk 45 5 (by omega) (by omega))⟩, ⟨hp.1, hp.2.1.keep (fun a q1 q2 b => hk a b (by omega) (by omega)), (hk 35 5 (by omega) (by omega)).trans hp.2.2.1, (hk 60 0 (by omega) (by omega)).trans hp.2.2.2⟩, h41⟩
  by_cases z : r = 1
  · subst z; exact Or.inr ⟨iM I, by omega, h41⟩
  · rw [hk (3 + 1) r (by omega) (by omega)]; exact hb.2.1.2 r hr
theorem c_lay1 {t : Nat} {v : Int32} (hO : IOK I) (ht : t < iM I) (hb : WB I S S1) (hp : WP I w d S1) (h0 : W0 I wv t S1) (h84 : S1.1 84 t = wv t) (hv : v = wv t) : C 3 90 yX10_lay mX10_lay [.ref 0, .int (nI 1), .int (nI t), .int v] S1 (qi (fun r S' => r = nI 1 ∧ WB I S S' ∧ WP I w d S' ∧ W0 I wv (t + 1) S')) := by
  subst hv
  have hO2 := hO.2.1
  have t1 : tn (nI 1) = 1 := by decide
  have e1 : (nI 1).toInt = 1 := by decide
  have tt : tn (nI t) = t := tnN (by omega)
  have et : (nI t).toInt = (t : Int) := tiN (by omega)
  have em : (nI (iM I)).toInt = (iM I : Int) := tiN (by omega)
  refine (c_X10_lay (x := nI 1) (y := nI t) (v := wv t) hb.2.1).mono (fun v' S' hq => ?_)
  obtain ⟨rfl, rfl⟩ := hq
  have q1 : layA 6 (nI 1) (nI t) (S1.1 4 (tn (nI 1))) 1 = nI 1 := by
    unfold layA
    rw [t1, h0.1, if_neg (by omega), if_neg (by omega), if_neg (by omega)]
    rfl
  have q2 : layX S1 (nI 1) (nI t) (wv t) = setI (setI S1 5 (60 + t) (wv t)) 1 0 (S1.1 5 (60 + t)) := by
    unfold layX
    rw [t1, h0.1, tt, if_neg (by omega), if_neg (by omega), if_neg (by omega)]
  rw [q1, q2]
  have hA : As (setI S1 5 (60 + t) (wv t)) (setI (setI S1 5 (60 + t) (wv t)) 1 0 (S1.1 5 (60 + t))) := As.refl.set
  have hk : ∀ a b, ¬ (a = 5 ∧ b = 60 + t) → (setI S1 5 (60 + t) (wv t)).1 a b = S1.1 a b := fun a b z => by
    by_cases z5 : a = 5
    · subst z5; exact rdI_j (by omega)
    · exact rdI_k z5
  have hb2 : WB I S (setI S1 5 (60 + t) (wv t)) := ⟨fun a b q1 q2 q3 q4 q5 q6 q7 => (hk a b (by omega)).trans (hb.1 a b q1 q2 q3 q4 q5 q6 q7), hb.2.1.keep (hk 3 0 (by omega)) (fun r _ => hk 4 r (by omega)), hb.2.2.keep (fun a b q => hk a b (by omega)) (hk 45 5 (by omega))⟩
  have hp2 : WP I w d (setI S1 5 (60 + t) (wv t)) := ⟨hp.1, hp.2.1.keep (fun a q1 q2 b => hk a b (by omega)), (hk 35 5 (by omega)).trans hp.2.2.1, (hk 60 0 (by omega)).trans hp.2.2.2⟩
  refine ⟨_, rfl, rfl, hb2.as hA, hp2.as hA, (hA.rk 4 1 (by omega)).trans ((hk 4 1 (by omega)).trans h0.1), fun u hu => (hA.rk 5 _ (by omega)).trans ?_, fun u hu => (hA.rk 84 u (by omega)).trans ((hk 84 u (by omega)).trans ?_)⟩
  · by_cases z : u = t
    · subst z; exact rdI_eq
    · exact (hk 5 _ (by omega)).trans (h0.2.1 u (by omega))
  · by_cases z : u = t
    · subst z; exact h84
    · exact h0.2.2 u (by omega)
end WN
/-- what is wanted of the script -/
def wvF (I : Isl) (sc : Sc) (t : Nat) : Int32 := if celF sc (80 + t) % 7 < iP I ∨ celF sc (80 + t) % 7 = 4 then nI (celF sc (80 + t) % 7) else -1
theorem wvF_ok {I : Isl} (hO : IOK I) {sc : Sc} : wvO I (wvF I sc) := fun t ht => by
  have hO1 := hO.1
  unfold wvF
  by_cases q : celF sc (80 + t) % 7 < iP I ∨ celF sc (80 + t) % 7 = 4
  · rw [if_pos q]
    rcases q with q | q
    · exact Or.inr (Or.inr ⟨by rw [tiN (by omega)]; omega, by rw [tiN (by omega)]; omega⟩)
    · rw [q]; exact Or.inr (Or.inl rfl)
  · rw [if_neg q]; exact Or.inl rfl
theorem wvF_n {I : Isl} {sc : Sc} {t : Nat} (h : ¬ wvF I sc t = -1) : ∃ x, x < 7 ∧ wvF I sc t = nI x := by
  unfold wvF at h ⊢
  by_cases q : celF sc (80 + t) % 7 < iP I ∨ celF sc (80 + t) % 7 = 4
  · rw [if_pos q]; exact ⟨_, Nat.mod_lt _ (by decide), rfl⟩
  · rw [if_neg q] at h; exact absurd rfl h
theorem want_n {I : Isl} {sc : Sc} {t c : Nat} (ht : t < iM I) (hW : wantP I (wvF I sc) c) (h : ¬ wvF I sc t = -1) : nI (whomF I (digF c) t) = wvF I sc t := by
  obtain ⟨x, hx, e⟩ := wvF_n h
  have k := hW t ht (by rw [e, tiN (by omega)]; omega)
  rw [e, tiN (by omega)] at k
  rw [e, show whomF I (digF c) t = x by omega]
theorem whom_c {I : Isl} (hO : IOK I) {L c : Nat} {w : Nat → Nat} (hok : OKc I L c) (hw : ∀ t, t < iM I → w t = digF c t) {t : Nat} (ht : t < iM I) : whomF I w t = whomF I (digF c) t := by
  unfold whomF
  rw [hw t ht]
  by_cases q : digF c t ≤ 4
  · rw [if_pos q, if_pos q]
  · have hb : digF c t - 5 < iB I := by have := (hok.2.ok hO).1 t ht; omega
    rw [if_neg q, if_neg q, hw _ (hO.2.2.2.2.2.1 _ hb).1]
/-- the steps of the way, one by one -/
noncomputable def wyF (I : Isl) (c0 i k : Nat) : Nat := rY (fR I 3 c0) (upR (fR I 3 c0) i (rD (fR I 3 c0) i - 1 - k))
noncomputable def wcF (I : Isl) (c0 i k : Nat) : Nat := rK (fR I 3 c0) (upR (fR I 3 c0) i (rD (fR I 3 c0) i - k))
theorem wy_ok {I : Isl} {c0 i k : Nat} (hO : IOK I) (h0 : OKc I 3 c0) (hi : i < rC (fR I 3 c0)) (hk : k < rD (fR I 3 c0) i) : wyF I c0 i k < 7 * iM I ∧ mb I 3 (wcF I c0 i k) (wyF I c0 i k) = true ∧ nx I (wcF I c0 i k) (wyF I c0 i k) = wcF I c0 i (k + 1) := by
  have h := way_step hO h0 hi (k := rD (fR I 3 c0) i - 1 - k) (by omega)
  rw [show rD (fR I 3 c0) i - 1 - k + 1 = rD (fR I 3 c0) i - k by omega] at h
  unfold wyF wcF
  rw [show rD (fR I 3 c0) i - (k + 1) = rD (fR I 3 c0) i - 1 - k by omega]
  exact h
theorem wc_ok {I : Isl} {c0 i k : Nat} (hO : IOK I) (h0 : OKc I 3 c0) (hi : i < rC (fR I 3 c0)) : OKc I 3 (wcF I c0 i k) := by
  have := (upR_d hO h0 hi (rD (fR I 3 c0) i - k) (Nat.sub_le _ _)).1
  exact (fR_inv hO h0).2.2.1 _ (by omega)
theorem wc_0 {I : Isl} {c0 i : Nat} (hO : IOK I) (h0 : OKc I 3 c0) (hi : i < rC (fR I 3 c0)) : wcF I c0 i 0 = c0 := by
  have h := upR_d hO h0 hi (rD (fR I 3 c0) i) (Nat.le_refl _)
  have e := rD_0 hO h0 (show upR (fR I 3 c0) i (rD (fR I 3 c0) i) < rC (fR I 3 c0) by omega) (by omega)
  unfold wcF
  rw [Nat.sub_zero, e]
  exact (fR_inv hO h0).1.2.1
theorem wc_D {I : Isl} {c0 i : Nat} : wcF I c0 i (rD (fR I 3 c0) i) = rK (fR I 3 c0) i := by
  unfold wcF
  rw [Nat.sub_self]
  rfl
theorem wc_may {I : Isl} {c0 i k : Nat} {w : Nat → Nat} (hO : IOK I) (h0 : OKc I 3 c0) (hi : i < rC (fR I 3 c0)) (hk : k < rD (fR I 3 c0) i) (hw : ∀ t, t < iM I → w t = digF (wcF I c0 i k) t) : mayF I w 3 (wyF I c0 i k / 7) (wyF I c0 i k % 7) ∧ ∀ t, t < iM I → upW w (wyF I c0 i k / 7) (wyF I c0 i k % 7) t = digF (wcF I c0 i (k + 1)) t := by
  obtain ⟨a, b, c⟩ := wy_ok hO h0 hi hk
  have hok := wc_ok (k := k) hO h0 hi
  refine ⟨(mayF_congr hO hw (by omega) (hok.2.ok hO)).mpr (mb_iff.mp b), fun t ht => ?_⟩
  rw [← c, nx_dig hO hok a b t ht]
  by_cases z : t = wyF I c0 i k / 7
  · rw [z, upW_eq, upW_eq]
  · rw [upW_ne z, upW_ne z]; exact hw t ht
theorem wc_few {I : Isl} {c0 i k : Nat} {wv : Nat → Int32} {w : Nat → Nat} {r x : Int32} (hO : IOK I) (h0 : OKc I 3 c0) (hf : fstW I 3 c0 (wantP I wv) i) (hk : k ≤ rD (fR I 3 c0) i) (hw : ∀ t, t < iM I → w t = digF (wcF I c0 i k) t) (hr : fewA I wv (codeF I w) r x) : r = nI (rD (fR I 3 c0) i - k) := by
  rw [code_of (wc_ok (k := k) hO h0 hf.1) hw] at hr
  obtain ⟨i', d1, d2⟩ := way_dist hO h0 hf (k := rD (fR I 3 c0) i - k) (Nat.sub_le _ _)
  rcases hr with ⟨j, j1, j2, -⟩ | ⟨-, j2⟩
  · rw [j2, j1.one d1]
    exact congrArg nI d2
  · exact absurd d1.2.1 (j2 i' d1.1)
theorem wc_goes {I : Isl} {c0 i : Nat} (hO : IOK I) (h0 : OKc I 3 c0) (hi : i < rC (fR I 3 c0)) : ∀ k, k ≤ rD (fR I 3 c0) i → ∀ t, t < iM I → stD (digF c0) (wyF I c0 i) k t = digF (wcF I c0 i k) t
  | 0, _, t, ht => by rw [wc_0 hO h0 hi]; rfl
  | k + 1, hk, t, ht => (wc_may hO h0 hi (show k < _ by omega) (wc_goes hO h0 hi k (by omega))).2 t ht
theorem mem_arr : Cond.arrayClass .int ∈ TB := inr_1 _ (List.mem_of_getElem? (i := 3) rfl)

set_option maxHeartbeats 4000000 in
set_option maxRecDepth 100000 in
theorem wn_Z {S : St} {sc : Sc} (hsc : sc.1 ≤ 260) {I : Isl} (hI : IsX 11 I S) (hO : IOK I) (h4 : iM I ≤ 4) {w0 : Nat → Nat} {d0 deep : Nat} (hd0 : d0 ≤ 6) (hk : KP I (codeF I w0) S) (hdp : deep = rD (fR I 3 (codeF I w0)) (rC (fR I 3 (codeF I w0)) - 1)) (hdl : deep ≤ 100) {i : Nat} (hf : fstW I 3 (codeF I w0) (wantP I (wvF I sc)) i) {w : Nat → Nat} {d : Nat} {S1 : St} (hb : WB I S S1) (hp : WP I w d S1) (h1 : W1 I (wvF I sc) S1) (h2 : (W2 (fun k => nI (wyF I (codeF I w0) i k)) (rD (fR I 3 (codeF I w0)) i) S1))  : X 7 210 (mL_wanted2 sc) (qi (fun r S' => r = nI 1 ∧ WB I S S' ∧ ∃ w d, WP I w d S')) 260 [(6, .int (nI ((rD (fR I 3 (codeF I w0)) i)))), (0, .ref 0), (1, .ref 201), (2, .int (nI ((iP I)))), (3, .int (nI ((iM I)))), (4, .int (nI deep))] [] S1 := by
  have hO1 := hO.1
  have hO2 := hO.2.1
  have h34 := depth34 hO h4 hk.1 i hf.1
  refine x_aload_n 1 dL_wanted_260 rfl rfl ?_
  refine x_iconst (v := nI 0) dL_wanted_261 (by decide) ?_
  refine x_callVqi (as := [_]) (rest := []) vL_168 (c_onW hb hI hO hk) dL_wanted_262 l0 rfl rfl rfl (Nat.le_of_ble_eq_true rfl) (Nat.le_of_ble_eq_true rfl) (Nat.le_of_ble_eq_true rfl) (fun r_262 S_262 q_262 => ?_)
  obtain ⟨rfl, b_262, p_262, k_262⟩ := q_262
  have g1 := wc_goes hO hk.1 hf.1
  refine x_iconst (v := nI 1) dL_wanted_265 (by decide) ?_
  refine y_ic_ne 291 dL_wanted_266 (by decide) (by omega) (by omega) (fun c_266 => ?_) (fun c_266 => ?_)
  · refine x_iconst (v := nI 0) dL_wanted_291 (by decide) ?_
    refine x_zret rfl dL_wanted_292 (by decide) (by exfalso; omega)
  · refine x_aload_n 1 dL_wanted_269 rfl rfl ?_
    refine x_iconst (v := nI 2) dL_wanted_270 (by decide) ?_
    refine x_callVqi (as := [_]) (rest := []) vL_186 (c_doesW (y := wyF I (codeF I w0) i) b_262 hI hO p_262 (h2.rk k_262) (show rD (fR I 3 (codeF I w0)) i ≤ 40 by omega) (fun k _ => rfl) (fun j hj => (wc_may hO hk.1 hf.1 hj (g1 j (by omega))).1) (fun k hk2 => (wy_ok hO hk.1 hf.1 hk2).1)) dL_wanted_271 l0 rfl rfl rfl (Nat.le_of_ble_eq_true rfl) (Nat.le_of_ble_eq_true rfl) (Nat.le_of_ble_eq_true rfl) (fun r_271 S_271 q_271 => ?_)
    obtain ⟨rfl, b_271, p_271, k_271⟩ := q_271
    refine x_iload 0 dL_wanted_274 rfl ?_
    refine y_ic_ne 291 dL_wanted_276 (by decide) (by omega) (by omega) (fun c_276 => ?_) (fun c_276 => ?_)
    · refine x_iconst (v := nI 0) dL_wanted_291 (by decide) ?_
      refine x_zret rfl dL_wanted_292 (by decide) (by exfalso; omega)
    · refine x_aload_n 1 dL_wanted_279 rfl rfl ?_
      refine x_iconst (v := nI 1) dL_wanted_280 (by decide) ?_
      refine x_callVqi (as := [_]) (rest := []) vL_177 (c_fewW b_271 hI hO p_271 ((h1.rk k_262).rk k_271) (wvF_ok hO)) dL_wanted_281 l0 rfl rfl rfl (Nat.le_of_ble_eq_true rfl) (Nat.le_of_ble_eq_true rfl) (Nat.le_of_ble_eq_true rfl) (fun r_281 S_281 q_281 => ?_)
      obtain ⟨a_281, b_281, p_281, k_281⟩ := q_281
      obtain rfl := wc_few hO hk.1 hf (Nat.le_refl _) (g1 _ (Nat.le_refl _)) a_281
      refine y_if_ne 291 dL_wanted_284 (by decide) (by omega) (fun c_284 => ?_) (fun c_284 => ?_)
      · refine x_iconst (v := nI 0) dL_wanted_291 (by decide) ?_
        refine x_zret rfl dL_wanted_292 (by decide) (by exfalso; omega)
      · refine x_iconst (v := nI 1) dL_wanted_287 (by decide) ?_
        refine x_goto 292 dL_wanted_288 (by decide) ?_
        refine x_zret rfl dL_wanted_292 (by decide) ⟨_, rfl, rfl, b_281, _, _, p_281⟩

set_option maxHeartbeats 4000000 in
set_option maxRecDepth 100000 in
theorem wn_Y {S : St} {sc : Sc} (hsc : sc.1 ≤ 260) {I : Isl} (hI : IsX 11 I S) (hO : IOK I) (h4 : iM I ≤ 4) {w0 : Nat → Nat} {d0 deep : Nat} (hd0 : d0 ≤ 6) (hk : KP I (codeF I w0) S) (hdp : deep = rD (fR I 3 (codeF I w0)) (rC (fR I 3 (codeF I w0)) - 1)) (hdl : deep ≤ 100) {i : Nat} (hf : fstW I 3 (codeF I w0) (wantP I (wvF I sc)) i) {w : Nat → Nat} {d : Nat} (hw : ∀ t, t < iM I → w t = digF (rK (fR I 3 (codeF I w0)) i) t)  : ∀ (t : Nat) (S1 : St), (t ≤ iM I) → (WB I S S1) → (WP I w d S1) → (W1 I (wvF I sc) S1) → ((W2 (fun k => nI (wyF I (codeF I w0) i k)) (rD (fR I 3 (codeF I w0)) i) S1)) → X 7 210 (mL_wanted2 sc) (qi (fun r S' => r = nI 1 ∧ WB I S S' ∧ ∃ w d, WP I w d S')) 218 [(8, .int (nI t)), (6, .int (nI ((rD (fR I 3 (codeF I w0)) i)))), (5, .ref 84), (0, .ref 0), (1, .ref 201), (2, .int (nI ((iP I)))), (3, .int (nI ((iM I)))), (4, .int (nI deep))] [] S1 := by
  intro t S1
  induction hm : iM I - t using Nat.strongRecOn generalizing t S1 with
  | _ mm ih =>
    intro ht hb hp h1 h2
    have hO1 := hO.1
    have hO2 := hO.2.1
    have hok := (fR_inv hO hk.1).2.2.1 i hf.1
    have hwn := fun q1 q2 => want_n (t := t) q1 hf.2.1 q2
    have hwc := fun q => whom_c hO hok hw (t := t) q
    refine x_iload 0 dL_wanted_218 rfl ?_
    refine x_iload_n 6 dL_wanted_220 rfl rfl ?_
    refine y_ic_ge 260 dL_wanted_221 (by decide) (by omega) (by omega) (fun c_221 => ?_) (fun c_221 => ?_)
    · refine x_pick (lv' := [(6, _), (0, _), (1, _), (2, _), (3, _), (4, _)]) [1, 3, 4, 5, 6, 7] rfl ?_
      exact wn_Z hsc hI hO h4 hd0 hk hdp hdl hf hb hp h1 h2
    · refine x_aload 2 dL_wanted_224 rfl ?_
      refine x_iload 0 dL_wanted_226 rfl ?_
      refine y_wald rfl dL_wanted_228 (by omega) (h1.2.2 t (by omega)) ?_
      refine x_iconst (v := -1) dL_wanted_229 (by decide) ?_
      refine x_ic_eq 254 dL_wanted_230 (by decide) (fun c_230 => ?_) (fun c_230 => ?_)
      · refine y_iinc (lv' := [(8, _), (6, _), (5, _), (0, _), (1, _), (2, _), (3, _), (4, _)]) 0 dL_wanted_254 rfl (lt_ok rfl) rfl ?_
        refine x_goto 218 dL_wanted_257 (by decide) ?_
        refine x_pick (lv' := [(8, _), (6, _), (5, _), (0, _), (1, _), (2, _), (3, _), (4, _)]) [0, 1, 2, 3, 4, 5, 6, 7] rfl ?_
        exact ih (iM I - (t + 1)) (by omega) (t + 1) _ rfl (by omega) hb hp h1 h2
      · refine x_aload_n 3 dL_wanted_233 rfl rfl ?_
        refine x_aload_n 3 dL_wanted_234 rfl rfl ?_
        refine x_iload 0 dL_wanted_235 rfl ?_
        refine x_iconst (v := nI 3) dL_wanted_237 (by decide) ?_
        refine x_callVqi (as := [_, _]) (rest := [_]) vL_87 (c_thingA As.refl (hb.I hI) hO hp.2.1 hp.2.2.1 (by decide) hp.1 rfl (show t < iM I by omega) (by decide) (k := 3) (v := whomF I w t) rfl) dL_wanted_238 l0 rfl rfl rfl (Nat.le_of_ble_eq_true rfl) (Nat.le_of_ble_eq_true rfl) (Nat.le_of_ble_eq_true rfl) (fun r_238 S_238 q_238 => ?_)
        obtain ⟨rfl, e_238, x_238⟩ := q_238
        refine x_callSu (as := [_, _]) (rest := []) sL_90 (c_tellsA e_238) dL_wanted_241 rfl rfl (Nat.le_of_ble_eq_true rfl) (Nat.le_of_ble_eq_true rfl) (Nat.le_of_ble_eq_true rfl) ?_
        refine x_aload 2 dL_wanted_244 rfl ?_
        refine x_iload 0 dL_wanted_246 rfl ?_
        refine y_wald rfl dL_wanted_248 (by omega) ((x_238.rk 84 t (by omega)).trans (h1.2.2 t (by omega))) ?_
        refine x_ic_eq 254 dL_wanted_249 (by decide) (fun c_249 => ?_) (fun c_249 => ?_)
        · refine y_iinc (lv' := [(8, _), (6, _), (5, _), (0, _), (1, _), (2, _), (3, _), (4, _)]) 0 dL_wanted_254 rfl (lt_ok rfl) rfl ?_
          refine x_goto 218 dL_wanted_257 (by decide) ?_
          refine x_pick (lv' := [(8, _), (6, _), (5, _), (0, _), (1, _), (2, _), (3, _), (4, _)]) [0, 1, 2, 3, 4, 5, 6, 7] rfl ?_
          exact ih (iM I - (t + 1)) (by omega) (t + 1) _ rfl (by omega) (hb.as x_238) (hp.as x_238) (h1.rk x_238.rk) (h2.rk x_238.rk)
        · refine x_iconst (v := nI 0) dL_wanted_252 (by decide) ?_
          refine x_zret rfl dL_wanted_253 (by decide) (absurd ((congrArg nI (hwc (by omega))).trans (hwn (by omega) c_230)) c_249)

set_option maxHeartbeats 4000000 in
set_option maxRecDepth 100000 in
theorem wn_X {S : St} {sc : Sc} (hsc : sc.1 ≤ 260) {I : Isl} (hI : IsX 11 I S) (hO : IOK I) (h4 : iM I ≤ 4) {w0 : Nat → Nat} {d0 deep : Nat} (hd0 : d0 ≤ 6) (hk : KP I (codeF I w0) S) (hdp : deep = rD (fR I 3 (codeF I w0)) (rC (fR I 3 (codeF I w0)) - 1)) (hdl : deep ≤ 100) {i : Nat} (hf : fstW I 3 (codeF I w0) (wantP I (wvF I sc)) i) {w : Nat → Nat} {d : Nat} {S1 : St} (hw : ∀ t, t < iM I → w t = digF (rK (fR I 3 (codeF I w0)) i) t) (hb : WB I S S1) (hp : WP I w d S1) (h1 : W1 I (wvF I sc) S1) (h2 : (W2 (fun k => nI (wyF I (codeF I w0) i k)) (rD (fR I 3 (codeF I w0)) i) S1))  : X 7 210 (mL_wanted2 sc) (qi (fun r S' => r = nI 1 ∧ WB I S S' ∧ ∃ w d, WP I w d S')) 205 [(6, .int (nI ((rD (fR I 3 (codeF I w0)) i)))), (5, .ref 84), (0, .ref 0), (1, .ref 201), (2, .int (nI ((iP I)))), (3, .int (nI ((iM I)))), (4, .int (nI deep))] [] S1 := by
  have hO1 := hO.1
  have hO2 := hO.2.1
  refine x_aload_n 2 dL_wanted_205 rfl rfl ?_
  refine x_iconst (v := nI 1) dL_wanted_206 (by decide) ?_
  refine x_callVqi (as := [_]) (rest := []) vL_177 (c_fewW hb hI hO hp h1 (wvF_ok hO)) dL_wanted_207 l0 rfl rfl rfl (Nat.le_of_ble_eq_true rfl) (Nat.le_of_ble_eq_true rfl) (Nat.le_of_ble_eq_true rfl) (fun r_207 S_207 q_207 => ?_)
  obtain ⟨a_207, b_207, p_207, k_207⟩ := q_207
  obtain rfl := wc_few hO hk.1 hf (Nat.le_refl _) (fun t ht => by rw [wc_D]; exact hw t ht) a_207
  refine y_if_eq 215 dL_wanted_210 (by decide) (by omega) (fun c_210 => ?_) (fun c_210 => ?_)
  · refine x_iconst (v := nI 0) dL_wanted_215 (by decide) ?_
    refine x_istore (lv' := [(8, _), (6, _), (5, _), (0, _), (1, _), (2, _), (3, _), (4, _)]) dL_wanted_216 (lt_ok rfl) rfl ?_
    refine x_pick (lv' := [(8, _), (6, _), (5, _), (0, _), (1, _), (2, _), (3, _), (4, _)]) [0, 1, 2, 3, 4, 5, 6, 7] rfl ?_
    exact wn_Y hsc hI hO h4 hd0 hk hdp hdl hf hw 0 _ (Nat.zero_le _) b_207 p_207 (h1.rk k_207) (h2.rk k_207)
  · refine x_iconst (v := nI 0) dL_wanted_213 (by decide) ?_
    refine x_zret rfl dL_wanted_214 (by decide) (by exfalso; omega)

set_option maxHeartbeats 4000000 in
set_option maxRecDepth 100000 in
theorem wn_W {S : St} {sc : Sc} (hsc : sc.1 ≤ 260) {I : Isl} (hI : IsX 11 I S) (hO : IOK I) (h4 : iM I ≤ 4) {w0 : Nat → Nat} {d0 deep : Nat} (hd0 : d0 ≤ 6) (hk : KP I (codeF I w0) S) (hdp : deep = rD (fR I 3 (codeF I w0)) (rC (fR I 3 (codeF I w0)) - 1)) (hdl : deep ≤ 100) {i : Nat} (hf : fstW I 3 (codeF I w0) (wantP I (wvF I sc)) i)  : ∀ (k : Nat) (w : Nat → Nat) (S1 : St), (k ≤ (rD (fR I 3 (codeF I w0)) i)) → (∀ t, t < iM I → w t = digF (wcF I (codeF I w0) i k) t) → (WB I S S1) → (WP I w (d0 + k) S1) → (W1 I (wvF I sc) S1) → ((W2 (fun k => nI (wyF I (codeF I w0) i k)) (rD (fR I 3 (codeF I w0)) i) S1)) → X 7 210 (mL_wanted2 sc) (qi (fun r S' => r = nI 1 ∧ WB I S S' ∧ ∃ w d, WP I w d S')) 140 [(8, .int (nI k)), (6, .int (nI ((rD (fR I 3 (codeF I w0)) i)))), (5, .ref 84), (0, .ref 0), (1, .ref 201), (2, .int (nI ((iP I)))), (3, .int (nI ((iM I)))), (4, .int (nI deep))] [] S1 := by
  intro k w S1
  induction hm : (rD (fR I 3 (codeF I w0)) i) - k using Nat.strongRecOn generalizing k w S1 with
  | _ mm ih =>
    intro hkD hw hb hp h1 h2
    have hO1 := hO.1
    have hO2 := hO.2.1
    have h34 := depth34 hO h4 hk.1 i hf.1
    have hyo := fun q => wy_ok (k := k) hO hk.1 hf.1 q
    have hwm := fun q => wc_may (k := k) hO hk.1 hf.1 q hw
    have hdm := Nat.div_add_mod (wyF I (codeF I w0) i k) 7
    have hml := Nat.mod_lt (wyF I (codeF I w0) i k) (show 0 < 7 by decide)
    refine x_iload 0 dL_wanted_140 rfl ?_
    refine x_iload 1 dL_wanted_142 rfl ?_
    refine y_ic_ge 205 dL_wanted_144 (by decide) (by omega) (by omega) (fun c_144 => ?_) (fun c_144 => ?_)
    · refine x_pick (lv' := [(6, _), (5, _), (0, _), (1, _), (2, _), (3, _), (4, _)]) [1, 2, 3, 4, 5, 6, 7] rfl ?_
      obtain rfl : k = rD (fR I 3 (codeF I w0)) i := (by omega)
      exact wn_X hsc hI hO h4 hd0 hk hdp hdl hf (fun t ht => by rw [← wc_D]; exact hw t ht) hb hp h1 h2
    · refine x_aload_n 3 dL_wanted_147 rfl rfl ?_
      refine x_iconst (v := nI 1) dL_wanted_148 (by decide) ?_
      refine x_callVqi (as := [_]) (rest := []) vL_177 (c_fewW hb hI hO hp h1 (wvF_ok hO)) dL_wanted_149 l0 rfl rfl rfl (Nat.le_of_ble_eq_true rfl) (Nat.le_of_ble_eq_true rfl) (Nat.le_of_ble_eq_true rfl) (fun r_149 S_149 q_149 => ?_)
      obtain ⟨a_149, b_149, p_149, k_149⟩ := q_149
      obtain rfl := wc_few hO hk.1 hf (show k ≤ rD (fR I 3 (codeF I w0)) i by omega) hw a_149
      refine x_iload 1 dL_wanted_152 rfl ?_
      refine x_iload 0 dL_wanted_154 rfl ?_
      refine y_isub dL_wanted_156 (by omega) ?_
      refine y_ic_ne 171 dL_wanted_157 (by decide) (by omega) (by omega) (fun c_157 => ?_) (fun c_157 => ?_)
      · refine x_iconst (v := nI 0) dL_wanted_171 (by decide) ?_
        refine x_zret rfl dL_wanted_172 (by decide) (by exfalso; omega)
      · refine x_aload_n 3 dL_wanted_160 rfl rfl ?_
        refine x_iconst (v := nI 2) dL_wanted_161 (by decide) ?_
        refine x_iload 0 dL_wanted_162 rfl ?_
        refine x_callVqi (as := [_, _]) (rest := []) vL_183 (c_atW b_149 (h2.rk k_149) (show rD (fR I 3 (codeF I w0)) i ≤ 60 by omega) (show k < rD (fR I 3 (codeF I w0)) i by omega)) dL_wanted_164 l0 rfl rfl rfl (Nat.le_of_ble_eq_true rfl) (Nat.le_of_ble_eq_true rfl) (Nat.le_of_ble_eq_true rfl) (fun r_164 S_164 q_164 => ?_)
        obtain ⟨rfl, e_164, x_164⟩ := q_164
        have hyl := (hyo (by omega)).1
        refine x_iconst (v := nI 1) dL_wanted_167 (by decide) ?_
        refine y_ic_eq 173 dL_wanted_168 (by decide) (by omega) (by omega) (fun c_168 => ?_) (fun c_168 => ?_)
        · refine x_aload_n 3 dL_wanted_173 rfl rfl ?_
          refine x_callVu (as := []) (rest := []) vL_83 (c_askedA e_164) dL_wanted_174 l0 rfl rfl rfl (Nat.le_of_ble_eq_true rfl) (Nat.le_of_ble_eq_true rfl) (Nat.le_of_ble_eq_true rfl) ?_
          refine x_istore (lv' := [(9, _), (8, _), (6, _), (5, _), (0, _), (1, _), (2, _), (3, _), (4, _)]) dL_wanted_177 (lt_ok rfl) rfl ?_
          refine x_aload_n 4 dL_wanted_179 rfl rfl ?_
          refine x_iload 0 dL_wanted_180 rfl ?_
          refine x_bipush (v := nI 7) dL_wanted_182 (by decide) ?_
          refine y_idiv dL_wanted_184 (by omega) (by omega) (by omega) ?_
          refine x_iload 0 dL_wanted_185 rfl ?_
          refine x_bipush (v := nI 7) dL_wanted_187 (by decide) ?_
          refine y_irem dL_wanted_189 (by omega) (by omega) (by omega) ?_
          refine x_callVqi (as := [_, _]) (rest := []) vL_119 (c_stepW (b_149.as x_164) hI hO (p_149.as x_164) (show d0 + k < 40 by omega) (show (wyF I (codeF I w0) i k) / 7 < iM I by omega) hml (hwm (by omega)).1) dL_wanted_190 l0 rfl rfl rfl (Nat.le_of_ble_eq_true rfl) (Nat.le_of_ble_eq_true rfl) (Nat.le_of_ble_eq_true rfl) (fun r_190 S_190 q_190 => ?_)
          obtain ⟨rfl, b_190, p_190, k_190⟩ := q_190
          refine x_iconst (v := nI 1) dL_wanted_193 (by decide) ?_
          refine y_ic_eq 199 dL_wanted_194 (by decide) (by omega) (by omega) (fun c_194 => ?_) (fun c_194 => ?_)
          · refine y_iinc (lv' := [(8, _), (9, _), (6, _), (5, _), (0, _), (1, _), (2, _), (3, _), (4, _)]) 1 dL_wanted_199 rfl (lt_ok rfl) rfl ?_
            refine x_goto 140 dL_wanted_202 (by decide) ?_
            refine x_pick (lv' := [(8, _), (6, _), (5, _), (0, _), (1, _), (2, _), (3, _), (4, _)]) [0, 2, 3, 4, 5, 6, 7, 8] rfl ?_
            exact ih (rD (fR I 3 (codeF I w0)) i - (k + 1)) (by omega) (k + 1) _ _ rfl (by omega) (hwm (by omega)).2 b_190 p_190 (((h1.rk k_149).rk x_164.rk).rk k_190) (((h2.rk k_149).rk x_164.rk).rk k_190)
          · refine x_iconst (v := nI 0) dL_wanted_197 (by decide) ?_
            refine x_zret rfl dL_wanted_198 (by decide) (by exfalso; omega)
        · refine x_iconst (v := nI 0) dL_wanted_171 (by decide) ?_
          refine x_zret rfl dL_wanted_172 (by decide) (by exfalso; omega)

set_option maxHeartbeats 4000000 in
set_option maxRecDepth 100000 in
theorem wn_F {S : St} {sc : Sc} (hsc : sc.1 ≤ 260) {I : Isl} (hI : IsX 11 I S) (hO : IOK I) (h4 : iM I ≤ 4) {w0 : Nat → Nat} {d0 deep : Nat} (hd0 : d0 ≤ 6) (hk : KP I (codeF I w0) S) (hdp : deep = rD (fR I 3 (codeF I w0)) (rC (fR I 3 (codeF I w0)) - 1)) (hdl : deep ≤ 100) {S1 : St} (hb : WB I S S1) (hp : WP I w0 d0 S1) (h1 : W1 I (wvF I sc) S1) {i nr : Nat} (hf : fstW I 3 (codeF I w0) (wantP I (wvF I sc)) i) (hn : S1.1 1 0 = nI nr) (hn1 : 1 ≤ nr) (hn2 : nr < 100000)  : X 7 210 (mL_wanted2 sc) (qi (fun r S' => r = nI 1 ∧ WB I S S' ∧ ∃ w d, WP I w d S')) 94 [(6, .int (nI ((rD (fR I 3 (codeF I w0)) i)))), (5, .ref 84), (0, .ref 0), (1, .ref 201), (2, .int (nI ((iP I)))), (3, .int (nI ((iM I)))), (4, .int (nI deep))] [] S1 := by
  have hO1 := hO.1
  have hO2 := hO.2.1
  have h34 := depth34 hO h4 hk.1 i hf.1
  have hmn := (fR_inv hO hk.1).mono (rC (fR I 3 (codeF I w0)) - 1) (by have := hf.1; omega) i (by have := hf.1; omega)
  have hc0 : ∀ t, t < iM I → w0 t = digF (codeF I w0) t := fun t ht => (dig_code ((hp.1.ok hO).w7 hO) t ht).symm
  refine x_aload_n 2 dL_wanted_94 rfl rfl ?_
  refine x_callVu (as := []) (rest := []) vL_83 (c_askedA hn) dL_wanted_95 l0 rfl rfl rfl (Nat.le_of_ble_eq_true rfl) (Nat.le_of_ble_eq_true rfl) (Nat.le_of_ble_eq_true rfl) ?_
  refine x_istore (lv' := [(7, _), (6, _), (5, _), (0, _), (1, _), (2, _), (3, _), (4, _)]) dL_wanted_98 (lt_ok rfl) rfl ?_
  refine x_aload_n 3 dL_wanted_100 rfl rfl ?_
  refine x_iconst (v := nI 1) dL_wanted_101 (by decide) ?_
  refine x_iconst (v := nI 2) dL_wanted_102 (by decide) ?_
  refine x_callVqi (as := [_, _]) (rest := []) vL_180 (c_wayW hb hI hO hp h1 (wvF_ok hO)) dL_wanted_103 l0 rfl rfl rfl (Nat.le_of_ble_eq_true rfl) (Nat.le_of_ble_eq_true rfl) (Nat.le_of_ble_eq_true rfl) (fun r_103 S_103 q_103 => ?_)
  obtain ⟨a_103, b_103, p_103, l_103⟩ := q_103
  obtain ⟨j, j1, rfl, j3⟩ := a_103.resolve_right (fun z => z.2 i hf.1 hf.2.1)
  obtain rfl := j1.one hf
  refine x_iload 1 dL_wanted_106 rfl ?_
  refine y_ic_eq 113 dL_wanted_108 (by decide) (by omega) (by omega) (fun c_108 => ?_) (fun c_108 => ?_)
  · refine x_iload 1 dL_wanted_113 rfl ?_
    refine x_bipush (v := -9) dL_wanted_115 (by decide) ?_
    refine x_ic_ne 122 dL_wanted_117 (by decide) (fun c_117 => ?_) (fun c_117 => ?_)
    · refine x_iload 1 dL_wanted_122 rfl ?_
      refine x_iload 7 dL_wanted_124 rfl ?_
      refine y_ic_gt 135 dL_wanted_126 (by decide) (by omega) (by omega) (fun c_126 => ?_) (fun c_126 => ?_)
      · refine x_iconst (v := nI 0) dL_wanted_135 (by decide) ?_
        refine x_zret rfl dL_wanted_136 (by decide) (by exfalso; first | omega | exact nI_ne9 (by omega) c_117 | exact nI_ne9 (by omega) (by assumption))
      · refine x_iload 0 dL_wanted_129 rfl ?_
        refine x_iconst (v := nI 1) dL_wanted_131 (by decide) ?_
        refine y_ic_ge 137 dL_wanted_132 (by decide) (by omega) (by omega) (fun c_132 => ?_) (fun c_132 => ?_)
        · refine x_iconst (v := nI 0) dL_wanted_137 (by decide) ?_
          refine x_istore (lv' := [(8, _), (7, _), (6, _), (5, _), (0, _), (1, _), (2, _), (3, _), (4, _)]) dL_wanted_138 (lt_ok rfl) rfl ?_
          refine x_pick (lv' := [(8, _), (6, _), (5, _), (0, _), (1, _), (2, _), (3, _), (4, _)]) [0, 2, 3, 4, 5, 6, 7, 8] rfl ?_
          exact wn_W hsc hI hO h4 hd0 hk hdp hdl hf 0 w0 _ (Nat.zero_le _) (fun t ht => by rw [wc_0 hO hk.1 hf.1]; exact hc0 t ht) b_103 p_103 l_103 j3
        · refine x_iconst (v := nI 0) dL_wanted_135 (by decide) ?_
          refine x_zret rfl dL_wanted_136 (by decide) (by exfalso; first | omega | exact nI_ne9 (by omega) c_117 | exact nI_ne9 (by omega) (by assumption))
    · refine x_iconst (v := nI 1) dL_wanted_120 (by decide) ?_
      refine x_zret rfl dL_wanted_121 (by decide) (by exfalso; first | omega | exact nI_ne9 (by omega) c_117 | exact nI_ne9 (by omega) (by assumption))
  · refine x_iconst (v := nI 0) dL_wanted_111 (by decide) ?_
    refine x_zret rfl dL_wanted_112 (by decide) (by exfalso; first | omega | exact nI_ne9 (by omega) c_117 | exact nI_ne9 (by omega) (by assumption))

set_option maxHeartbeats 4000000 in
set_option maxRecDepth 100000 in
theorem wn_N {S : St} {sc : Sc} (hsc : sc.1 ≤ 260) {I : Isl} (hI : IsX 11 I S) (hO : IOK I) (h4 : iM I ≤ 4) {w0 : Nat → Nat} {d0 deep : Nat} (hd0 : d0 ≤ 6) (hk : KP I (codeF I w0) S) (hdp : deep = rD (fR I 3 (codeF I w0)) (rC (fR I 3 (codeF I w0)) - 1)) (hdl : deep ≤ 100) {S1 : St} (hb : WB I S S1) (hp : WP I w0 d0 S1) (h1 : W1 I (wvF I sc) S1) (hn : ∀ j, j < rC (fR I 3 (codeF I w0)) → ¬ wantP I (wvF I sc) (rK (fR I 3 (codeF I w0)) j))  : X 7 210 (mL_wanted2 sc) (qi (fun r S' => r = nI 1 ∧ WB I S S' ∧ ∃ w d, WP I w d S')) 94 [(6, .int (-9)), (5, .ref 84), (0, .ref 0), (1, .ref 201), (2, .int (nI ((iP I)))), (3, .int (nI ((iM I)))), (4, .int (nI deep))] [] S1 := by
  have hO1 := hO.1
  have hO2 := hO.2.1
  refine x_aload_n 2 dL_wanted_94 rfl rfl ?_
  refine x_callVu (as := []) (rest := []) vL_83 (c_askedA rfl) dL_wanted_95 l0 rfl rfl rfl (Nat.le_of_ble_eq_true rfl) (Nat.le_of_ble_eq_true rfl) (Nat.le_of_ble_eq_true rfl) ?_
  refine x_istore (lv' := [(7, _), (6, _), (5, _), (0, _), (1, _), (2, _), (3, _), (4, _)]) dL_wanted_98 (lt_ok rfl) rfl ?_
  refine x_aload_n 3 dL_wanted_100 rfl rfl ?_
  refine x_iconst (v := nI 1) dL_wanted_101 (by decide) ?_
  refine x_iconst (v := nI 2) dL_wanted_102 (by decide) ?_
  refine x_callVqi (as := [_, _]) (rest := []) vL_180 (c_wayW hb hI hO hp h1 (wvF_ok hO)) dL_wanted_103 l0 rfl rfl rfl (Nat.le_of_ble_eq_true rfl) (Nat.le_of_ble_eq_true rfl) (Nat.le_of_ble_eq_true rfl) (fun r_103 S_103 q_103 => ?_)
  obtain ⟨a_103, b_103, p_103, l_103⟩ := q_103
  obtain ⟨rfl, j3⟩ := a_103.resolve_left (fun z => by obtain ⟨j, j1, _⟩ := z; exact hn j j1.1 j1.2.1)
  refine x_iload 1 dL_wanted_106 rfl ?_
  refine x_ic_eq 113 dL_wanted_108 (by decide) (fun c_108 => ?_) (fun c_108 => ?_)
  · refine x_iload 1 dL_wanted_113 rfl ?_
    refine x_bipush (v := -9) dL_wanted_115 (by decide) ?_
    refine x_ic_ne 122 dL_wanted_117 (by decide) (fun c_117 => ?_) (fun c_117 => ?_)
    · exact absurd rfl c_117
    · refine x_iconst (v := nI 1) dL_wanted_120 (by decide) ?_
      refine x_zret rfl dL_wanted_121 (by decide) ⟨_, rfl, rfl, b_103, _, _, p_103⟩
  · refine x_iconst (v := nI 0) dL_wanted_111 (by decide) ?_
    refine x_zret rfl dL_wanted_112 (by decide) (absurd rfl c_108)

set_option maxHeartbeats 4000000 in
set_option maxRecDepth 100000 in
theorem wn_C {S : St} {sc : Sc} (hsc : sc.1 ≤ 260) {I : Isl} (hI : IsX 11 I S) (hO : IOK I) (h4 : iM I ≤ 4) {w0 : Nat → Nat} {d0 deep : Nat} (hd0 : d0 ≤ 6) (hk : KP I (codeF I w0) S) (hdp : deep = rD (fR I 3 (codeF I w0)) (rC (fR I 3 (codeF I w0)) - 1)) (hdl : deep ≤ 100) {t : Nat} (ht : t < iM I) {v : Int32} (hv : v = wvF I sc t) {S1 : St} (hb : WB I S S1) (hp : WP I w0 d0 S1) (h0 : W0 I (wvF I sc) t S1) {Q : Option Value → St → Prop} (H : ∀ S1, WB I S S1 → WP I w0 d0 S1 → W0 I (wvF I sc) (t + 1) S1 → X 7 210 (mL_wanted2 sc) Q 20 [(6, .int (nI ((t + 1)))), (5, .ref 84), (0, .ref 0), (1, .ref 201), (2, .int (nI ((iP I)))), (3, .int (nI ((iM I)))), (4, .int (nI deep))] [] S1)  : X 7 210 (mL_wanted2 sc) (Q) 62 [(6, .int (nI t)), (5, .ref 84), (0, .ref 0), (1, .ref 201), (2, .int (nI ((iP I)))), (3, .int (nI ((iM I)))), (4, .int (nI deep))] [.int v, .int (nI t), .ref 84] S1 := by
  have hO1 := hO.1
  have hO2 := hO.2.1
  have hz : ∀ a b, ¬ a = 84 → (setI S1 84 t v).1 a b = S1.1 a b := fun a b z => rdI_k z
  have hb2 : WB I S (setI S1 84 t v) := ⟨fun a b q1 q2 q3 q4 q5 q6 q7 => (hz a b q7).trans (hb.1 a b q1 q2 q3 q4 q5 q6 q7), hb.2.1.keep (hz 3 0 (by decide)) (fun r _ => hz 4 r (by decide)), hb.2.2.keep (fun a b q => hz a b (by omega)) (hz 45 5 (by decide))⟩
  have hp2 : WP I w0 d0 (setI S1 84 t v) := ⟨hp.1, hp.2.1.keep (fun a q1 q2 b => hz a b (by omega)), (hz 35 5 (by decide)).trans hp.2.2.1, (hz 60 0 (by decide)).trans hp.2.2.2⟩
  have h02 : W0 I (wvF I sc) t (setI S1 84 t v) := ⟨(hz 4 1 (by decide)).trans h0.1, fun u hu => (hz 5 _ (by decide)).trans (h0.2.1 u hu), fun u hu => (rdI_j (by omega)).trans (h0.2.2 u hu)⟩
  refine y_wast rfl dL_wanted_62 (by omega) ?_
  refine x_aload_n 2 dL_wanted_63 rfl rfl ?_
  refine x_iconst (v := nI 1) dL_wanted_64 (by decide) ?_
  refine x_iload 0 dL_wanted_65 rfl ?_
  refine x_aload 1 dL_wanted_67 rfl ?_
  refine x_iload 0 dL_wanted_69 rfl ?_
  refine y_wald rfl dL_wanted_71 (by omega) rdI_eq ?_
  refine x_callVqi (as := [_, _, _]) (rest := []) vL_174 (c_lay1 (wv := wvF I sc) hO ht hb2 hp2 h02 (rdI_eq.trans hv) hv) dL_wanted_72 l0 rfl rfl rfl (Nat.le_of_ble_eq_true rfl) (Nat.le_of_ble_eq_true rfl) (Nat.le_of_ble_eq_true rfl) (fun r_72 S_72 q_72 => ?_)
  obtain ⟨rfl, b_72, p_72, w_72⟩ := q_72
  refine x_iconst (v := nI 1) dL_wanted_75 (by decide) ?_
  refine y_ic_eq 81 dL_wanted_76 (by decide) (by omega) (by omega) (fun c_76 => ?_) (fun c_76 => ?_)
  · refine y_iinc (lv' := [(6, _), (5, _), (0, _), (1, _), (2, _), (3, _), (4, _)]) 0 dL_wanted_81 rfl (lt_ok rfl) rfl ?_
    refine x_goto 20 dL_wanted_84 (by decide) ?_
    refine x_pick (lv' := [(6, _), (5, _), (0, _), (1, _), (2, _), (3, _), (4, _)]) [0, 1, 2, 3, 4, 5, 6] rfl ?_
    exact H _ b_72 p_72 w_72
  · refine x_iconst (v := nI 0) dL_wanted_79 (by decide) ?_
    refine x_zret rfl dL_wanted_80 (by decide) (absurd rfl c_76)

set_option maxHeartbeats 4000000 in
set_option maxRecDepth 100000 in
theorem wn_B {S : St} {sc : Sc} (hsc : sc.1 ≤ 260) {I : Isl} (hI : IsX 11 I S) (hO : IOK I) (h4 : iM I ≤ 4) {w0 : Nat → Nat} {d0 deep : Nat} (hd0 : d0 ≤ 6) (hk : KP I (codeF I w0) S) (hdp : deep = rD (fR I 3 (codeF I w0)) (rC (fR I 3 (codeF I w0)) - 1)) (hdl : deep ≤ 100)  : ∀ (t : Nat) (S1 : St), (t ≤ iM I) → (WB I S S1) → (WP I w0 d0 S1) → (W0 I (wvF I sc) t S1) → X 7 210 (mL_wanted2 sc) (qi (fun r S' => r = nI 1 ∧ WB I S S' ∧ ∃ w d, WP I w d S')) 20 [(6, .int (nI t)), (5, .ref 84), (0, .ref 0), (1, .ref 201), (2, .int (nI ((iP I)))), (3, .int (nI ((iM I)))), (4, .int (nI deep))] [] S1 := by
  intro t S1
  induction hm : iM I - t using Nat.strongRecOn generalizing t S1 with
  | _ mm ih =>
    intro ht hb hp h0
    have hO1 := hO.1
    have hO2 := hO.2.1
    have hcl := cel_lt (sc := sc) (k := 80 + t) (by omega)
    refine x_iload 0 dL_wanted_20 rfl ?_
    refine x_iload_n 5 dL_wanted_22 rfl rfl ?_
    refine y_ic_ge 87 dL_wanted_23 (by decide) (by omega) (by omega) (fun c_23 => ?_) (fun c_23 => ?_)
    · obtain rfl : t = iM I := by omega
      have h1 : W1 I (wvF I sc) S1 := h0
      refine x_aload_n 2 dL_wanted_87 rfl rfl ?_
      refine x_iconst (v := nI 1) dL_wanted_88 (by decide) ?_
      refine x_callVqi (as := [_]) (rest := []) vL_177 (c_fewW hb hI hO hp h1 (wvF_ok hO)) dL_wanted_89 l0 rfl rfl rfl (Nat.le_of_ble_eq_true rfl) (Nat.le_of_ble_eq_true rfl) (Nat.le_of_ble_eq_true rfl) (fun r_89 S_89 q_89 => ?_)
      obtain ⟨a_89, b_89, p_89, k_89⟩ := q_89
      refine x_istore (lv' := [(6, _), (5, _), (0, _), (1, _), (2, _), (3, _), (4, _)]) dL_wanted_92 (lt_ok rfl) rfl ?_
      refine x_pick (lv' := [(6, _), (5, _), (0, _), (1, _), (2, _), (3, _), (4, _)]) [0, 1, 2, 3, 4, 5, 6] rfl ?_
      rcases a_89 with ⟨i, i1, rfl, nr, n1, n2, n3⟩ | ⟨rfl, hn⟩
      · exact wn_F hsc hI hO h4 hd0 hk hdp hdl b_89 p_89 (h1.rk k_89) i1 n3 n1 n2
      · exact wn_N hsc hI hO h4 hd0 hk hdp hdl b_89 p_89 (h1.rk k_89) hn
    · refine x_aload_n 3 dL_wanted_26 rfl rfl ?_
      refine x_bipush (v := nI 80) dL_wanted_27 (by decide) ?_
      refine x_iload 0 dL_wanted_29 rfl ?_
      refine y_iadd dL_wanted_31 ?_
      refine x_callSu (as := [_, _]) (rest := []) sL_14 (c_L_cell hsc (k := 80 + t) (by omega)) dL_wanted_32 rfl rfl (Nat.le_of_ble_eq_true rfl) (Nat.le_of_ble_eq_true rfl) (Nat.le_of_ble_eq_true rfl) ?_
      refine x_bipush (v := nI 7) dL_wanted_35 (by decide) ?_
      refine y_irem dL_wanted_37 (by omega) (by omega) (by omega) ?_
      refine x_istore (lv' := [(7, _), (6, _), (5, _), (0, _), (1, _), (2, _), (3, _), (4, _)]) dL_wanted_38 (lt_ok rfl) rfl ?_
      refine x_aload 2 dL_wanted_40 rfl ?_
      refine x_iload 1 dL_wanted_42 rfl ?_
      refine x_iload 0 dL_wanted_44 rfl ?_
      refine x_iload_n 5 dL_wanted_46 rfl rfl ?_
      refine y_ic_lt 56 dL_wanted_47 (by decide) (by omega) (by omega) (fun c_47 => ?_) (fun c_47 => ?_)
      · refine x_iload 0 dL_wanted_56 rfl ?_
        refine x_goto 62 dL_wanted_58 (by decide) ?_
        refine x_pick (lv' := [(6, _), (5, _), (0, _), (1, _), (2, _), (3, _), (4, _)]) [1, 2, 3, 4, 5, 6, 7] rfl ?_
        exact wn_C hsc hI hO h4 hd0 hk hdp hdl (show t < iM I by omega) (by unfold wvF; first | rw [if_pos (by omega)] | rw [if_neg (by omega)]) hb hp h0 (fun S1 z1 z2 z3 => ih (iM I - (t + 1)) (by omega) (t + 1) S1 rfl (by omega) z1 z2 z3)
      · refine x_iload 0 dL_wanted_50 rfl ?_
        refine x_iconst (v := nI 4) dL_wanted_52 (by decide) ?_
        refine y_ic_ne 61 dL_wanted_53 (by decide) (by omega) (by omega) (fun c_53 => ?_) (fun c_53 => ?_)
        · refine x_iconst (v := -1) dL_wanted_61 (by decide) ?_
          refine x_pick (lv' := [(6, _), (5, _), (0, _), (1, _), (2, _), (3, _), (4, _)]) [1, 2, 3, 4, 5, 6, 7] rfl ?_
          exact wn_C hsc hI hO h4 hd0 hk hdp hdl (show t < iM I by omega) (by unfold wvF; first | rw [if_pos (by omega)] | rw [if_neg (by omega)]) hb hp h0 (fun S1 z1 z2 z3 => ih (iM I - (t + 1)) (by omega) (t + 1) S1 rfl (by omega) z1 z2 z3)
        · refine x_iload 0 dL_wanted_56 rfl ?_
          refine x_goto 62 dL_wanted_58 (by decide) ?_
          refine x_pick (lv' := [(6, _), (5, _), (0, _), (1, _), (2, _), (3, _), (4, _)]) [1, 2, 3, 4, 5, 6, 7] rfl ?_
          exact wn_C hsc hI hO h4 hd0 hk hdp hdl (show t < iM I by omega) (by unfold wvF; first | rw [if_pos (by omega)] | rw [if_neg (by omega)]) hb hp h0 (fun S1 z1 z2 z3 => ih (iM I - (t + 1)) (by omega) (t + 1) S1 rfl (by omega) z1 z2 z3)

set_option maxHeartbeats 4000000 in
set_option maxRecDepth 100000 in
theorem c_L_wanted {S : St} {sc : Sc} (hsc : sc.1 ≤ 260) {I : Isl} (hI : IsX 11 I S) (hO : IOK I) (h4 : iM I ≤ 4) {w0 : Nat → Nat} {d0 deep : Nat} (hd0 : d0 ≤ 6) (hk : KP I (codeF I w0) S) (hdp : deep = rD (fR I 3 (codeF I w0)) (rC (fR I 3 (codeF I w0)) - 1)) (hdl : deep ≤ 100) (hp : WP I w0 d0 S) (hS : RwS 3 6 60 S) (hs : SrX I S)  : C 7 210 yL_wanted (mL_wanted sc) [.ref 0, .ref 201, .int (nI ((iP I))), .int (nI ((iM I))), .int (nI deep)] S (qi (fun r S' => r = nI 1 ∧ WB I S S' ∧ ∃ w d, WP I w d S')) := by
  have hO1 := hO.1
  have hO2 := hO.2.1
  have hb : WB I S S := ⟨fun _ _ _ _ _ _ _ _ _ => rfl, hS, hs⟩
  refine C.ofX (by decide) rfl (Nat.le_of_ble_eq_true rfl) ?_
  show X 7 210 (mL_wanted sc) (qi (fun r S' => r = nI 1 ∧ WB I S S' ∧ ∃ w d, WP I w d S')) 0 [(0, .ref 0), (1, .ref 201), (2, .int (nI ((iP I)))), (3, .int (nI ((iM I)))), (4, .int (nI deep))] [] S
  refine x_aload_n 0 dL_wanted_0 rfl rfl ?_
  refine x_iconst (v := nI 1) dL_wanted_1 (by decide) ?_
  refine x_iload_n 3 dL_wanted_2 rfl rfl ?_
  refine x_callVqi (as := [_, _]) (rest := []) vL_171 (c_row1 hO hb hp) dL_wanted_3 l0 rfl rfl rfl (Nat.le_of_ble_eq_true rfl) (Nat.le_of_ble_eq_true rfl) (Nat.le_of_ble_eq_true rfl) (fun r_3 S_3 q_3 => ?_)
  obtain ⟨rfl, b_3, p_3, e_3⟩ := q_3
  refine x_iload_n 3 dL_wanted_6 rfl rfl ?_
  refine y_ic_eq 12 dL_wanted_7 (by decide) (by omega) (by omega) (fun c_7 => ?_) (fun c_7 => ?_)
  · refine x_iconst (v := nI 5) dL_wanted_12 (by decide) ?_
    refine x_new5 rfl mem_arr (by simp) (by simp) (fun v S' hq => by obtain ⟨r, rfl, _⟩ := hq; exact ⟨r, rfl⟩) dL_wanted_13 ?_
    have hz : ∀ a b, ¬ a = 84 → (z84 S_3).1 a b = S_3.1 a b := fun a b z => if_neg z
    have hb2 : WB I S (z84 S_3) := ⟨fun a b q1 q2 q3 q4 q5 q6 q7 => (hz a b q7).trans (b_3.1 a b q1 q2 q3 q4 q5 q6 q7), b_3.2.1.keep (hz 3 0 (by decide)) (fun r _ => hz 4 r (by decide)), b_3.2.2.keep (fun a b q => hz a b (by omega)) (hz 45 5 (by decide))⟩
    have hp2 : WP I w0 d0 (z84 S_3) := ⟨p_3.1, p_3.2.1.keep (fun a q1 q2 b => hz a b (by omega)), (hz 35 5 (by decide)).trans p_3.2.2.1, (hz 60 0 (by decide)).trans p_3.2.2.2⟩
    refine x_astore (lv' := [(5, _), (0, _), (1, _), (2, _), (3, _), (4, _)]) dL_wanted_15 (lt_ok rfl) rfl ?_
    refine x_iconst (v := nI 0) dL_wanted_17 (by decide) ?_
    refine x_istore (lv' := [(6, _), (5, _), (0, _), (1, _), (2, _), (3, _), (4, _)]) dL_wanted_18 (lt_ok rfl) rfl ?_
    exact wn_B hsc hI hO h4 hd0 hk hdp hdl 0 _ (Nat.zero_le _) hb2 hp2 ⟨(hz 4 1 (by decide)).trans e_3, fun u hu => absurd hu (Nat.not_lt_zero u), fun u hu => absurd hu (Nat.not_lt_zero u)⟩
  · refine x_iconst (v := nI 0) dL_wanted_10 (by decide) ?_
    refine x_zret rfl dL_wanted_11 (by decide) (by exfalso; omega)
