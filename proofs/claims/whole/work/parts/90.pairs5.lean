/-! ===== pairs of calls: on, gone, day ===== -/
set_option maxHeartbeats 1000000 in
theorem pr_on {S : St} (h : Rel S) {x : Int32} : C 4 120 yX10_on mX10_on [.ref 0, .int x] S (qi (Nx 1 30 yX11_on mX11_on [.ref 83, .int x])) := by
  obtain ⟨I, L, d, c, ws, T, F, sw, si, kc, kl, hR⟩ := h
  obtain ⟨⟨hO, hI, hT, hIM⟩, ⟨⟨⟨hL1, hL7⟩, hVs, hd, hU⟩, ⟨hP, hL, h60, h61, h62⟩, hmp⟩, ⟨hc8, ⟨h63, hs⟩, hmn⟩, ⟨hk, hmk⟩, hsr, htd, hrw, htx⟩ := id hR
  have hv := hVs d (Nat.le_refl d)
  have hok := hv.okc hO
  refine cl3 ((c_X10_on hI hO hk)) ?_ ?_ ?_
  · intro q0 r S1 hc
    obtain ⟨rfl, hS⟩ := hc
    have e1 : ∀ a b, 83 ≤ a → S1.1 a b = S.1 a b := by rw [hS]; exact (fun _ _ _ => rfl)
    obtain ⟨mI, ⟨m93, m17, m29, m98, m99⟩, ⟨m42, mN⟩, mK, mW, mB⟩ := hR.mod (S' := S1) e1
    refine md3_0 (u3 (c_X11_on mI hO mK)) q0 (fun r' S2 hm => ?_)
    obtain ⟨rfl, hS2⟩ := hm
    subst hS2
    subst hS
    first | exact ⟨rfl, hR.rel⟩ | exact ⟨rfl, (hR.lk _).rel⟩
  · intro q0 q1 r S1 hc
    obtain ⟨rfl, hS⟩ := hc
    have e1 : ∀ a b, 83 ≤ a → S1.1 a b = S.1 a b := by rw [hS]; exact (fun a b h => fndS_k (by omega) (by omega))
    obtain ⟨mI, ⟨m93, m17, m29, m98, m99⟩, ⟨m42, mN⟩, mK, mW, mB⟩ := hR.mod (S' := S1) e1
    refine md3_1 (u3 (c_X11_on mI hO mK)) q0 q1 (fun r' S2 hm => ?_)
    obtain ⟨rfl, hS2⟩ := hm
    subst hS2
    subst hS
    exact ⟨rfl, (hR.lf (by decide)).rel⟩
  · intro q0 q1 r S1 hc
    have hc' := hc
    have hc : (r = nI 1 ∧ ∃ S2, pvT S 35 I (digF (kc (tn x))) none S2 ∧ S1 = setI (setI S2 35 5 (nI (kl (tn x)))) 60 0 (nI 0)) ∧ ∀ a b, 83 ≤ a → S1.1 a b = S.1 a b := ⟨hc', fun a b h => by
      obtain ⟨-, S3, ⟨-, f3, -⟩, hS⟩ := hc'
      rw [hS]; exact (fc_set (by omega)).trans ((fc_set (by omega)).trans (f3.2 a (by omega) b))⟩
    obtain ⟨rfl, -⟩ := hc'
    have e1 : ∀ a b, 83 ≤ a → S1.1 a b = S.1 a b := (fun a b h => hc.2 a b h)
    obtain ⟨mI, ⟨m93, m17, m29, m98, m99⟩, ⟨m42, mN⟩, mK, mW, mB⟩ := hR.mod (S' := S1) e1
    refine md3_2 (u3 (c_X11_on mI hO mK)) q0 q1 (fun r' S2 hm => ?_)
    obtain ⟨rfl, hS2⟩ := hm
    obtain ⟨⟨-, S3, ⟨-, f3, p3⟩, hS⟩, -⟩ := hc
    refine ⟨rfl, ?_⟩
    obtain ⟨n, hn, rfl⟩ := nI_ex (x := x) (n := 3) (by omega) (by omega)
    rw [tnN (show n < 2147483648 by omega)] at hS2 p3 hS q1
    obtain ⟨u1, u2, u3⟩ := hk n hn
    have u4 := (u3 q1).2.2
    have eX : ∀ a b, a < 83 → S2.1 a b = S1.1 a b := fun a b h1 => by
      rw [hS2]
      exact (fc_set (by omega)).trans ((fc_set (by omega)).trans ((bcN_k (by omega)).trans (loS_k (by omega))))
    have eS : ∀ a b, ¬ (36 ≤ a ∧ a ≤ 39) → ¬ (a = 60 ∧ b = 0) → ¬ (a = 35 ∧ b = 5) → S1.1 a b = S.1 a b := fun a b h1 h2 h3 => by rw [hS]; exact (fc_set h2).trans ((fc_set h3).trans (f3.2 a (by omega) b))
    have eM : ∀ a b, 83 ≤ a → ¬ a = 93 → ¬ a = 97 → ¬ (a = 83 ∧ (b = 17 ∨ b = 29)) → S2.1 a b = S.1 a b := fun a b h1 h2 h3 h4 => by
      rw [hS2]
      exact (fc_set (by omega)).trans ((fc_set (by omega)).trans ((bcN_k h2).trans ((loS_k h3).trans (e1 a b h1))))
    refine hR.plc (fun a b k1 k2 => ?_) (fun a b k => (eX a b (by omega)).trans (eS a b (by omega) (by omega) (by omega))) ?_ (GP.new (w := digF (kc n)) (L := kl n) (by omega) u2 u4 (p3.keep (fun a h1 h2 b => (eX a b (by omega)).trans (by rw [hS]; exact (fc_set (by omega)).trans (fc_set (by omega))))) ((eX 35 5 (by decide)).trans (by rw [hS]; exact (fc_set (by decide)).trans rdI_eq)) ((eX 60 0 (by decide)).trans (by rw [hS]; exact rdI_eq)) (fun t ht => ?_) (by rw [hS2]; exact rdI_eq) (by rw [hS2]; exact (fc_set (by decide)).trans rdI_eq))
    · unfold Scr at k1
      by_cases k : 83 ≤ a
      · exact eM a b k (by omega) (by omega) (by omega)
      · exact (eX a b (by omega)).trans (eS a b (by omega) (by omega) (by omega))
    · have h9 : S2.2 = S1.2 := by rw [hS2]; rfl
      rw [h9, hS]; exact f3.1
    · rw [hS2]
      refine (fc_set (by omega)).trans ((fc_set (by omega)).trans ?_)
      refine (if_pos ⟨rfl, ht⟩).trans ?_
      exact if_pos ⟨rfl, ht⟩

theorem tn_lt {v : Int32} {n t : Nat} (h : v.toInt = (n : Int) + 1) (ht : t ≤ n) : t < tn v := by unfold tn; omega
theorem goodG_congr {I : Isl} {v v' : Nat → Int32} (hO : IOK I) (e : ∀ t, t ≤ iM I → v t = v' t) (h : goodG I v) : goodG I v' := by
  obtain ⟨h1, h2, h3, h4, h5⟩ := h
  rw [e (iM I) (Nat.le_refl _)] at h1
  refine ⟨h1, fun t ht => by rw [← e t (by omega)]; exact h2 t ht, fun t ht => ?_, fun b hb => ?_, fun p hp => ?_⟩
  · show (livK (iK I t) → tn (v' t) < 4) ∧ (bagK (iK I t) → tn (v' t) ≤ 4)
    rw [← e t (by omega)]; exact h3 t ht
  · rw [show insF I (fun t => tn (v' t)) b = insF I (fun t => tn (v t)) b from sm_congr fun i hi => by
      show (if tn (v' i) = 5 + b then 1 else 0) = (if tn (v i) = 5 + b then 1 else 0)
      rw [e i (by omega)]]
    exact h4 b hb
  · rw [show loadF I (fun t => tn (v' t)) p = loadF I (fun t => tn (v t)) p from sm_congr fun i hi => by
      show (if tn (v' i) = p then wt (iK I i) else 0) = (if tn (v i) = p then wt (iK I i) else 0)
      rw [e i (by omega)], ← e (iM I) (Nat.le_refl _)]
    exact h5 p hp
theorem goodG_VS {I : Isl} {v : Nat → Int32} (hO : IOK I) (h : goodG I v) : VS I (fun t => tn (v t)) (tn (v (iM I))) ∧ ∀ t, t < iM I → v t = nI (tn (v t)) ∧ tn (v t) < 7 := by
  obtain ⟨h1, h2, h3, h4, h5⟩ := h
  have hP := hO.1
  have hB := hO.2.2.2.1
  have hp : ∀ t, t < iM I → ∃ n : Nat, n < 7 ∧ v t = nI n := fun t ht => by
    have := h2 t ht
    unfold plcI at this
    exact nI_ex (by omega) (by omega)
  refine ⟨⟨fun t ht => ?_, h4, h5⟩, fun t ht => ?_⟩
  · obtain ⟨n, hn, e⟩ := hp t ht
    have h9 := h2 t ht
    rw [e] at h9
    have h8 := (plcI_n (by omega)).mp h9
    refine ⟨?_, h3 t ht⟩
    show plcF I (tn (v t))
    rw [e, tnN (by omega)]; exact h8
  · obtain ⟨n, hn, e⟩ := hp t ht
    rw [e, tnN (by omega)]
    exact ⟨rfl, hn⟩

set_option maxHeartbeats 1000000 in
theorem pr_gone {S : St} (h : Rel S) {x : Int32} : C 4 120 yX10_gone mX10_gone [.ref 0, .int x] S (qi (Nx 3 90 yX11_gone mX11_gone [.ref 83, .int x])) := by
  obtain ⟨I, L, d, c, ws, T, F, sw, si, kc, kl, hR⟩ := h
  obtain ⟨⟨hO, hI, hT, hIM⟩, ⟨⟨⟨hL1, hL7⟩, hVs, hd, hU⟩, ⟨hP, hL, h60, h61, h62⟩, hmp⟩, ⟨hc8, ⟨h63, hs⟩, hmn⟩, ⟨hk, hmk⟩, hsr, htd, hrw, htx⟩ := id hR
  have hv := hVs d (Nat.le_refl d)
  have hok := hv.okc hO
  refine cl5 ((c_X10_gone hI hO hrw.1)) ?_ ?_ ?_ ?_ ?_
  · intro q0 r S1 hc
    obtain ⟨rfl, hS⟩ := hc
    have e1 : ∀ a b, 83 ≤ a → S1.1 a b = S.1 a b := by rw [hS]; exact (fun _ _ _ => rfl)
    obtain ⟨mI, ⟨m93, m17, m29, m98, m99⟩, ⟨m42, mN⟩, mK, mW, mB⟩ := hR.mod (S' := S1) e1
    refine md5_0 ((c_X11_gone mI hO mW)) q0 (fun r' S2 hm => ?_)
    obtain ⟨rfl, hS2⟩ := hm
    subst hS2
    subst hS
    first | exact ⟨rfl, hR.rel⟩ | exact ⟨rfl, (hR.lk _).rel⟩
  · intro q0 q1 r S1 hc
    obtain ⟨rfl, hS⟩ := hc
    have e1 : ∀ a b, 83 ≤ a → S1.1 a b = S.1 a b := by rw [hS]; exact (fun a b h => fndS_k (by omega) (by omega))
    obtain ⟨mI, ⟨m93, m17, m29, m98, m99⟩, ⟨m42, mN⟩, mK, mW, mB⟩ := hR.mod (S' := S1) e1
    refine md5_1 ((c_X11_gone mI hO mW)) q0 (by rw [e1 85 _ (by decide), hrw.2.1 _ (by unfold tn; omega)]; exact q1) (fun r' S2 hm => ?_)
    obtain ⟨rfl, hS2⟩ := hm
    subst hS2
    subst hS
    exact ⟨rfl, (hR.lf (by decide)).rel⟩
  · intro q0 q1 q2 r S1 hc
    obtain ⟨rfl, hS⟩ := hc
    have e1 : ∀ a b, 83 ≤ a → S1.1 a b = S.1 a b := by rw [hS]; exact (fun a b h => fndS_k (by omega) (by omega))
    obtain ⟨mI, ⟨m93, m17, m29, m98, m99⟩, ⟨m42, mN⟩, mK, mW, mB⟩ := hR.mod (S' := S1) e1
    refine md5_2 ((c_X11_gone mI hO mW)) q0 (by rw [e1 85 _ (by decide), hrw.2.1 _ (by unfold tn; omega)]; exact q1) (by rw [e1 85 _ (by decide), hrw.2.1 _ (by unfold tn; omega)]; exact q2) (fun r' S2 hm => ?_)
    obtain ⟨rfl, hS2⟩ := hm
    subst hS2
    subst hS
    exact ⟨rfl, (hR.lf (by decide)).rel⟩
  · intro q0 q1 q2 q3 r S1 hc
    have hc' := hc
    have hc : (r = -3 ∧ ∃ S2, Fr (fun c => 40 ≤ c ∧ c ≤ 44) S S2 ∧ S1 = fndS S2 3) ∧ ∀ a b, 83 ≤ a → S1.1 a b = S.1 a b := ⟨hc', fun a b h => by
      obtain ⟨-, S3, f3, hS⟩ := hc'
      rw [hS]; exact (fndS_k (by omega) (by omega)).trans (f3.2 a (by omega) b)⟩
    obtain ⟨rfl, -⟩ := hc'
    have e1 : ∀ a b, 83 ≤ a → S1.1 a b = S.1 a b := (fun a b h => hc.2 a b h)
    obtain ⟨mI, ⟨m93, m17, m29, m98, m99⟩, ⟨m42, mN⟩, mK, mW, mB⟩ := hR.mod (S' := S1) e1
    refine md5_3 ((c_X11_gone mI hO mW)) q0 (by rw [e1 85 _ (by decide), hrw.2.1 _ (by unfold tn; omega)]; exact q1) (by rw [e1 85 _ (by decide), hrw.2.1 _ (by unfold tn; omega)]; exact q2) (fun k => q3 (goodG_congr (v := fun t => S1.1 86 (60 * tn x + t)) (v' := fun t => S.1 5 (tn x * 60 + t)) hO (fun t ht => (e1 86 _ (by decide)).trans (hrw.2.2 _ (by unfold tn; omega) t (tn_lt (n := iM I) (by omega) ht))) k)) (fun r' S2 hm => ?_)
    obtain ⟨rfl, S3', f3', hS2⟩ := hm
    obtain ⟨⟨-, S3, f3, hS⟩, -⟩ := hc
    refine ⟨rfl, (hR.fnd (f := 3) (by decide) (hsr.kp (fun a b k => ?_)) (fun a b k k1 k2 k3 k4 => ?_) ?_ ?_ ?_ ?_ (fun b _ => ?_)).rel⟩
    · rw [hS2, fndM_k (by omega) (by omega), f3'.2 a (by omega) b, hS, fndS_k (by omega) (by omega)]; exact f3.2 a (by omega) b
    · unfold Scr at k
      rw [hS2, fndM_k k2 k4, f3'.2 a (by omega) b, hS, fndS_k k1 k3]; exact f3.2 a (by omega) b
    · rw [hS2, fndM_k (by decide) (by decide), f3'.2 1 (by decide) 3, hS]; exact fndS_3
    · rw [hS2]; exact fndM_0
    · rw [hS2, fndM_k (by decide) (by decide), f3'.2 2 (by decide) 3, hS, fndS_f, f3.2 2 (by decide) 3]
    · rw [hS2, fndM_f, f3'.2 84 (by decide) 3, hS, fndS_k (by decide) (by decide), f3.2 84 (by decide) 3]
    · have h9 : S2.2 = S.2 := by rw [hS2]; exact f3'.1.trans (by rw [hS]; exact f3.1)
      rw [h9]; exact ⟨rfl, rfl⟩
  · intro q0 q1 q2 q3 r S1 hc
    have hc' := hc
    have hc : (r = nI 1 ∧ ∃ S2, Fr (fun c => 36 ≤ c ∧ c ≤ 44) S S2 ∧ PlT 35 I (digF (codeF I (fun t => tn (S.1 5 (tn x * 60 + t))))) S2 ∧ S1 = setI (setI S2 35 5 (nI (tn (S.1 5 (tn x * 60 + iM I))))) 60 0 (nI 0)) ∧ ∀ a b, 83 ≤ a → S1.1 a b = S.1 a b := ⟨hc', fun a b h => by
      obtain ⟨-, S3, f3, -, hS⟩ := hc'
      rw [hS]; exact (fc_set (by omega)).trans ((fc_set (by omega)).trans (f3.2 a (by omega) b))⟩
    obtain ⟨rfl, -⟩ := hc'
    have e1 : ∀ a b, 83 ≤ a → S1.1 a b = S.1 a b := (fun a b h => hc.2 a b h)
    obtain ⟨mI, ⟨m93, m17, m29, m98, m99⟩, ⟨m42, mN⟩, mK, mW, mB⟩ := hR.mod (S' := S1) e1
    refine md5_4 ((c_X11_gone mI hO mW)) q0 (by rw [e1 85 _ (by decide), hrw.2.1 _ (by unfold tn; omega)]; exact q1) (by rw [e1 85 _ (by decide), hrw.2.1 _ (by unfold tn; omega)]; exact q2) (fun k => q3 (fun z => k (goodG_congr (v := fun t => S.1 5 (tn x * 60 + t)) (v' := fun t => S1.1 86 (60 * tn x + t)) hO (fun t ht => ((e1 86 _ (by decide)).trans (hrw.2.2 _ (by unfold tn; omega) t (tn_lt (n := iM I) (by omega) ht))).symm) z))) (fun r' S2 hm => ?_)
    obtain ⟨rfl, hS2⟩ := hm
    obtain ⟨⟨-, S3, f3, p3, hS⟩, -⟩ := hc
    refine ⟨rfl, ?_⟩
    have hgd := Classical.not_not.mp q3
    obtain ⟨hvs, hvn⟩ := goodG_VS hO hgd
    have hl16 := hgd.1
    have ec : ∀ t, t ≤ iM I → S1.1 86 (60 * tn x + t) = S.1 5 (tn x * 60 + t) := fun t ht => (e1 86 _ (by decide)).trans (hrw.2.2 _ (by unfold tn; omega) t (tn_lt (n := iM I) (by omega) ht))
    rw [ec (iM I) (Nat.le_refl _)] at hS2
    obtain ⟨l, hl, el⟩ := nI_ex (x := S.1 5 (tn x * 60 + iM I)) (n := 7) (by show 0 ≤ ((fun t => S.1 5 (tn x * 60 + t)) (iM I)).toInt; omega) (by show ((fun t => S.1 5 (tn x * 60 + t)) (iM I)).toInt < _; omega)
    have hl1 : 1 ≤ l := by
      have h9 : 1 ≤ ((fun t => S.1 5 (tn x * 60 + t)) (iM I)).toInt := hl16.1
      have h8 : ((fun t => S.1 5 (tn x * 60 + t)) (iM I)).toInt = (nI l).toInt := congrArg Int32.toInt el
      rw [h8, tiN (by omega)] at h9
      omega
    have hvs' : VS I (fun t => tn (S.1 5 (tn x * 60 + t))) l := by
      have h9 : VS I (fun t => tn (S.1 5 (tn x * 60 + t))) (tn (S.1 5 (tn x * 60 + iM I))) := hvs
      rw [el, tnN (by omega)] at h9
      exact h9
    have hw7 : ∀ t, t < iM I → (fun t => tn (S.1 5 (tn x * 60 + t))) t < 7 := fun t ht => (hvn t ht).2
    have hdc : ∀ t, t < iM I → digF (codeF I (fun t => tn (S.1 5 (tn x * 60 + t)))) t = tn (S.1 5 (tn x * 60 + t)) := fun t ht => dig_code hw7 t ht
    rw [el] at hS2
    rw [el, tnN (by omega)] at hS
    have eX : ∀ a b, a < 83 → S2.1 a b = S1.1 a b := fun a b h1 => by
      rw [hS2]
      exact (fc_set (by omega)).trans ((fc_set (by omega)).trans ((bcN_k (by omega)).trans (rwS_k (by omega))))
    have eS : ∀ a b, ¬ (36 ≤ a ∧ a ≤ 44) → ¬ (a = 60 ∧ b = 0) → ¬ (a = 35 ∧ b = 5) → S1.1 a b = S.1 a b := fun a b h1 h2 h3 => by rw [hS]; exact (fc_set h2).trans ((fc_set h3).trans (f3.2 a h1 b))
    have eM : ∀ a b, 83 ≤ a → ¬ a = 93 → ¬ a = 97 → ¬ (a = 83 ∧ (b = 17 ∨ b = 29)) → S2.1 a b = S.1 a b := fun a b h1 h2 h3 h4 => by
      rw [hS2]
      exact (fc_set (by omega)).trans ((fc_set (by omega)).trans ((bcN_k h2).trans ((rwS_k h3).trans (e1 a b h1))))
    refine hR.plc (fun a b k1 k2 => ?_) (fun a b k => (eX a b (by omega)).trans (eS a b (by omega) (by omega) (by omega))) ?_ (GP.new (w := digF (codeF I (fun t => tn (S.1 5 (tn x * 60 + t))))) (L := l) hl1 (by omega) (hvs'.congr hO hdc) (p3.keep (fun a h1 h2 b => (eX a b (by omega)).trans (by rw [hS]; exact (fc_set (by omega)).trans (fc_set (by omega))))) ((eX 35 5 (by decide)).trans (by rw [hS]; exact (fc_set (by decide)).trans rdI_eq)) ((eX 60 0 (by decide)).trans (by rw [hS]; exact rdI_eq)) (fun t ht => ?_) (by rw [hS2]; exact rdI_eq) (by rw [hS2]; exact (fc_set (by decide)).trans rdI_eq))
    · unfold Scr at k1
      by_cases k : 83 ≤ a
      · exact eM a b k (by omega) (by omega) (by omega)
      · exact (eX a b (by omega)).trans (eS a b (by omega) (by omega) (by omega))
    · have h9 : S2.2 = S1.2 := by rw [hS2]; rfl
      rw [h9, hS]; exact f3.1
    · rw [hS2, hdc t ht]
      refine (fc_set (by omega)).trans ((fc_set (by omega)).trans ?_)
      refine (if_pos ⟨rfl, ht⟩).trans ?_
      refine (rwS_at0 ht).trans ?_
      exact (ec t (by omega)).trans (hvn t ht).1

theorem dayS_congr {I : Isl} {L : Nat} {w : Nat → Nat} {v v' : Nat → Int32} : ∀ {j : Nat}, (∀ i, i < j → v i = v' i) → dayS I L w v j = dayS I L w v' j
  | 0, _ => rfl
  | j + 1, h => by rw [dayS, dayS, dayS_congr (fun i hi => h i (Nat.lt_succ_of_lt hi)), h j (Nat.lt_succ_self j)]
theorem dayW_congr {I : Isl} {L : Nat} {w : Nat → Nat} {v v' : Nat → Int32} {e : Nat} : ∀ {h : Nat}, (∀ i, i < h * e → v i = v' i) → dayW I L w v e h = dayW I L w v' e h
  | 0, _ => rfl
  | h + 1, q => by
    rw [dayW, dayW, dayS_congr q, dayW_congr (fun i hi => q i (Nat.lt_of_lt_of_le hi (Nat.mul_le_mul_right e (Nat.le_succ h))))]

set_option maxHeartbeats 1000000 in
theorem pr_day {S : St} (h : Rel S) {x : Int32} : C 5 150 yX10_day mX10_day [.ref 0, .int x] S (qi (Nx 4 120 yX11_day mX11_day [.ref 83, .int x])) := by
  obtain ⟨I, L, d, c, ws, T, F, sw, si, kc, kl, hR⟩ := h
  obtain ⟨⟨hO, hI, hT, hIM⟩, ⟨⟨⟨hL1, hL7⟩, hVs, hd, hU⟩, ⟨hP, hL, h60, h61, h62⟩, hmp⟩, ⟨hc8, ⟨h63, hs⟩, hmn⟩, ⟨hk, hmk⟩, hsr, htd, hrw, htx⟩ := id hR
  have hv := hVs d (Nat.le_refl d)
  have hok := hv.okc hO
  refine cl5 ((c_X10_day hI hO hP hL hL7 hv hT hrw.1)) ?_ ?_ ?_ ?_ ?_
  · intro q0 r S1 hc
    obtain ⟨rfl, hS⟩ := hc
    have e1 : ∀ a b, 83 ≤ a → S1.1 a b = S.1 a b := by rw [hS]; exact (fun _ _ _ => rfl)
    obtain ⟨mI, ⟨m93, m17, m29, m98, m99⟩, ⟨m42, mN⟩, mK, mW, mB⟩ := hR.mod (S' := S1) e1
    refine md5_0 ((c_X11_day mI hO m93 m17 hL7 hv mW)) q0 (fun r' S2 hm => ?_)
    obtain ⟨rfl, hS2⟩ := hm
    subst hS2
    subst hS
    first | exact ⟨rfl, hR.rel⟩ | exact ⟨rfl, (hR.lk _).rel⟩
  · intro q0 q1 r S1 hc
    obtain ⟨rfl, hS⟩ := hc
    have e1 : ∀ a b, 83 ≤ a → S1.1 a b = S.1 a b := by rw [hS]; exact (fun a b h => fndS_k (by omega) (by omega))
    obtain ⟨mI, ⟨m93, m17, m29, m98, m99⟩, ⟨m42, mN⟩, mK, mW, mB⟩ := hR.mod (S' := S1) e1
    refine md5_1 ((c_X11_day mI hO m93 m17 hL7 hv mW)) q0 (by rw [e1 85 _ (by decide), hrw.2.1 _ (by unfold tn; omega)]; exact q1) (fun r' S2 hm => ?_)
    obtain ⟨rfl, hS2⟩ := hm
    subst hS2
    subst hS
    exact ⟨rfl, (hR.lf (by decide)).rel⟩
  · intro q0 q1 q2 r S1 hc
    obtain ⟨rfl, hS⟩ := hc
    have e1 : ∀ a b, 83 ≤ a → S1.1 a b = S.1 a b := by rw [hS]; exact (fun a b h => fndS_k (by omega) (by omega))
    obtain ⟨mI, ⟨m93, m17, m29, m98, m99⟩, ⟨m42, mN⟩, mK, mW, mB⟩ := hR.mod (S' := S1) e1
    refine md5_2 ((c_X11_day mI hO m93 m17 hL7 hv mW)) q0 (by rw [e1 85 _ (by decide), hrw.2.1 _ (by unfold tn; omega)]; exact q1) (by have e85 : S1.1 85 (tn x) = S.1 4 (tn x) := (e1 85 _ (by decide)).trans (hrw.2.1 _ (by unfold tn; omega)); rw [e85]; exact q2) (fun r' S2 hm => ?_)
    obtain ⟨rfl, hS2⟩ := hm
    subst hS2
    subst hS
    exact ⟨rfl, (hR.lf (by decide)).rel⟩
  · intro q0 q1 q2 q3 r S1 hc
    obtain ⟨rfl, hS⟩ := hc
    have e1 : ∀ a b, 83 ≤ a → S1.1 a b = S.1 a b := by rw [hS]; exact (fun a b h => fndS_k (by omega) (by omega))
    obtain ⟨mI, ⟨m93, m17, m29, m98, m99⟩, ⟨m42, mN⟩, mK, mW, mB⟩ := hR.mod (S' := S1) e1
    refine md5_3 ((c_X11_day mI hO m93 m17 hL7 hv mW)) q0 (by rw [e1 85 _ (by decide), hrw.2.1 _ (by unfold tn; omega)]; exact q1) (by have e85 : S1.1 85 (tn x) = S.1 4 (tn x) := (e1 85 _ (by decide)).trans (hrw.2.1 _ (by unfold tn; omega)); rw [e85]; exact q2) (by have e85 : S1.1 85 (tn x) = S.1 4 (tn x) := (e1 85 _ (by decide)).trans (hrw.2.1 _ (by unfold tn; omega)); rw [e85]; exact fun k => q3 (fun j hj => by have h9 := k j hj; rw [(e1 86 _ (by decide)).trans (hrw.2.2 _ (by unfold tn; omega) j hj)] at h9; exact h9)) (fun r' S2 hm => ?_)
    obtain ⟨rfl, hS2⟩ := hm
    subst hS2
    subst hS
    exact ⟨rfl, (hR.lf (by decide)).rel⟩
  · intro q0 q1 q2 q3 r S1 hc
    have hc' := hc
    have hc : (r = nI (dayW I L (ws d) (fun j => S.1 5 (tn x * 60 + j)) (tn (S.1 4 (tn x)) / 6) 6) ∧ ∃ S2, Fr (fun a => 40 ≤ a ∧ a ≤ 44) S S2 ∧ S1 = setI S2 1 0 (nI (wthF I (dayW I L (ws d) (fun j => S.1 5 (tn x * 60 + j)) (tn (S.1 4 (tn x)) / 6) 6)))) ∧ ∀ a b, 83 ≤ a → S1.1 a b = S.1 a b := ⟨hc', fun a b h => by
      obtain ⟨-, S3, f3, hS⟩ := hc'
      rw [hS]; exact (fc_set (by omega)).trans (f3.2 a (by omega) b)⟩
    have e1 : ∀ a b, 83 ≤ a → S1.1 a b = S.1 a b := (fun a b h => hc.2 a b h)
    obtain ⟨mI, ⟨m93, m17, m29, m98, m99⟩, ⟨m42, mN⟩, mK, mW, mB⟩ := hR.mod (S' := S1) e1
    refine md5_4 ((c_X11_day mI hO m93 m17 hL7 hv mW)) q0 (by rw [e1 85 _ (by decide), hrw.2.1 _ (by unfold tn; omega)]; exact q1) (by have e85 : S1.1 85 (tn x) = S.1 4 (tn x) := (e1 85 _ (by decide)).trans (hrw.2.1 _ (by unfold tn; omega)); rw [e85]; exact q2) (by have e85 : S1.1 85 (tn x) = S.1 4 (tn x) := (e1 85 _ (by decide)).trans (hrw.2.1 _ (by unfold tn; omega)); rw [e85]; exact fun k => q3 (fun h9 => k (fun j hj => by rw [(e1 86 _ (by decide)).trans (hrw.2.2 _ (by unfold tn; omega) j hj)]; exact h9 j hj))) (fun r' S2 hm => ?_)
    have e85 : S1.1 85 (tn x) = S.1 4 (tn x) := (e1 85 _ (by decide)).trans (hrw.2.1 _ (by unfold tn; omega))
    have e86 : ∀ j, j < tn (S.1 4 (tn x)) → S1.1 86 (60 * tn x + j) = S.1 5 (tn x * 60 + j) := fun j hj => (e1 86 _ (by decide)).trans (hrw.2.2 _ (by unfold tn; omega) j hj)
    obtain ⟨h1, S3', f3', hS2⟩ := hm
    obtain ⟨⟨rfl, S3, f3, hS⟩, -⟩ := hc
    have q2' := Classical.not_not.mp q2
    have hde : dayW I L (ws d) (fun j => S1.1 86 (60 * tn x + j)) (tn (S1.1 85 (tn x)) / 6) 6 = dayW I L (ws d) (fun j => S.1 5 (tn x * 60 + j)) (tn (S.1 4 (tn x)) / 6) 6 := by
      rw [e85]
      exact dayW_congr (fun i hi => e86 i (by omega))
    rw [hde] at h1 hS2
    refine ⟨h1, (hR.ask (v := nI (wthF I (dayW I L (ws d) (fun j => S.1 5 (tn x * 60 + j)) (tn (S.1 4 (tn x)) / 6) 6))) (hsr.kp (fun a b k => ?_)) (fun a b k k1 k2 => ?_) ?_ ?_ (fun b _ => ?_)).rel⟩
    · rw [hS2, fc_set (by omega), f3'.2 a (by omega) b, hS, fc_set (by omega)]; exact f3.2 a (by omega) b
    · unfold Scr at k
      rw [hS2, fc_set k2, f3'.2 a (by omega) b, hS, fc_set k1]; exact f3.2 a (by omega) b
    · rw [hS2, fc_set (by decide), f3'.2 1 (by decide) 0, hS]; exact rdI_eq
    · rw [hS2]; exact rdI_eq
    · have h9 : S2.2 = S.2 := by rw [hS2]; exact f3'.1.trans (by rw [hS]; exact f3.1)
      rw [h9]; exact ⟨rfl, rfl⟩
