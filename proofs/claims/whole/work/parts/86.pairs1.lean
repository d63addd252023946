/-! ===== pairs of calls ===== -/
set_option maxHeartbeats 1000000 in
theorem pr_thing {S : St} (h : Rel S) {x y : Int32} : C 2 60 yX10_thing mX10_thing [.ref 0, .int x, .int y] S (qi (Nx 2 60 yX11_thing mX11_thing [.ref 83, .int x, .int y])) := by
  obtain ⟨I, L, d, c, ws, T, F, sw, si, kc, kl, hR⟩ := h
  obtain ⟨⟨hO, hI, hT, hIM⟩, ⟨⟨⟨hL1, hL7⟩, hVs, hd, hU⟩, ⟨hP, hL, h60, h61, h62⟩, hmp⟩, ⟨hc8, ⟨h63, hs⟩, hmn⟩, ⟨hk, hmk⟩, hsr, htd, hrw, htx⟩ := id hR
  have hv := hVs d (Nat.le_refl d)
  have hok := hv.okc hO
  refine cl2 (u2 (c_X10_thing hI hO hP hL hL7 hv)) ?_ ?_
  · intro q0 r S1 hc
    obtain ⟨rfl, hS⟩ := hc
    have e1 : ∀ a b, 83 ≤ a → S1.1 a b = S.1 a b := by rw [hS]; exact (fun _ _ _ => rfl)
    obtain ⟨mI, ⟨m93, m17, m29, m98, m99⟩, ⟨m42, mN⟩, mK, mW, mB⟩ := hR.mod (S' := S1) e1
    refine md2_0 (u2 (c_X11_thing mI hO m93 m17 hL7 hv)) q0 (fun r' S2 hm => ?_)
    obtain ⟨rfl, hS2⟩ := hm
    subst hS2
    subst hS
    first | exact ⟨rfl, hR.rel⟩ | exact ⟨rfl, (hR.lk _).rel⟩
  · intro q0 r S1 hc
    obtain ⟨rfl, hS⟩ := hc
    have e1 : ∀ a b, 83 ≤ a → S1.1 a b = S.1 a b := by rw [hS]; exact (fun a b h => fc_set (by omega))
    obtain ⟨mI, ⟨m93, m17, m29, m98, m99⟩, ⟨m42, mN⟩, mK, mW, mB⟩ := hR.mod (S' := S1) e1
    refine md2_1 (u2 (c_X11_thing mI hO m93 m17 hL7 hv)) q0 (fun r' S2 hm => ?_)
    obtain ⟨rfl, hS2⟩ := hm
    subst hS2
    subst hS
    first | exact ⟨rfl, hR.la.rel⟩ | exact ⟨rfl, hR.lal.rel⟩

set_option maxHeartbeats 1000000 in
theorem pr_mark {S : St} (h : Rel S) {x y : Int32} : C 3 90 yX10_mark mX10_mark [.ref 0, .int x, .int y] S (qi (Nx 2 60 yX11_mark mX11_mark [.ref 83, .int x, .int y])) := by
  obtain ⟨I, L, d, c, ws, T, F, sw, si, kc, kl, hR⟩ := h
  obtain ⟨⟨hO, hI, hT, hIM⟩, ⟨⟨⟨hL1, hL7⟩, hVs, hd, hU⟩, ⟨hP, hL, h60, h61, h62⟩, hmp⟩, ⟨hc8, ⟨h63, hs⟩, hmn⟩, ⟨hk, hmk⟩, hsr, htd, hrw, htx⟩ := id hR
  have hv := hVs d (Nat.le_refl d)
  have hok := hv.okc hO
  refine cl3 (u3 (c_X10_mark hI hO hP hL hL7 hv)) ?_ ?_ ?_
  · intro q0 r S1 hc
    obtain ⟨rfl, hS⟩ := hc
    have e1 : ∀ a b, 83 ≤ a → S1.1 a b = S.1 a b := by rw [hS]; exact (fun _ _ _ => rfl)
    obtain ⟨mI, ⟨m93, m17, m29, m98, m99⟩, ⟨m42, mN⟩, mK, mW, mB⟩ := hR.mod (S' := S1) e1
    refine md3_0 (u3 (c_X11_mark mI hO m93 m17 hL7 hv)) q0 (fun r' S2 hm => ?_)
    obtain ⟨rfl, hS2⟩ := hm
    subst hS2
    subst hS
    first | exact ⟨rfl, hR.rel⟩ | exact ⟨rfl, (hR.lk _).rel⟩
  · intro q0 q1 r S1 hc
    obtain ⟨rfl, hS⟩ := hc
    have e1 : ∀ a b, 83 ≤ a → S1.1 a b = S.1 a b := by rw [hS]; exact (fun a b h => fndS_k (by omega) (by omega))
    obtain ⟨mI, ⟨m93, m17, m29, m98, m99⟩, ⟨m42, mN⟩, mK, mW, mB⟩ := hR.mod (S' := S1) e1
    refine md3_1 (u3 (c_X11_mark mI hO m93 m17 hL7 hv)) q0 q1 (fun r' S2 hm => ?_)
    obtain ⟨rfl, hS2⟩ := hm
    subst hS2
    subst hS
    exact ⟨rfl, (hR.lf (by decide)).rel⟩
  · intro q0 q1 r S1 hc
    obtain ⟨rfl, hS⟩ := hc
    have e1 : ∀ a b, 83 ≤ a → S1.1 a b = S.1 a b := by rw [hS]; exact (fun _ _ _ => rfl)
    obtain ⟨mI, ⟨m93, m17, m29, m98, m99⟩, ⟨m42, mN⟩, mK, mW, mB⟩ := hR.mod (S' := S1) e1
    refine md3_2 (u3 (c_X11_mark mI hO m93 m17 hL7 hv)) q0 q1 (fun r' S2 hm => ?_)
    obtain ⟨rfl, hS2⟩ := hm
    subst hS2
    subst hS
    first | exact ⟨rfl, hR.rel⟩ | exact ⟨rfl, (hR.lk _).rel⟩

set_option maxHeartbeats 1000000 in
theorem pr_work {S : St} (h : Rel S) {x y : Int32} : C 2 60 yX10_work mX10_work [.ref 0, .int x, .int y] S (qi (Nx 2 60 yX11_work mX11_work [.ref 83, .int x, .int y])) := by
  obtain ⟨I, L, d, c, ws, T, F, sw, si, kc, kl, hR⟩ := h
  obtain ⟨⟨hO, hI, hT, hIM⟩, ⟨⟨⟨hL1, hL7⟩, hVs, hd, hU⟩, ⟨hP, hL, h60, h61, h62⟩, hmp⟩, ⟨hc8, ⟨h63, hs⟩, hmn⟩, ⟨hk, hmk⟩, hsr, htd, hrw, htx⟩ := id hR
  have hv := hVs d (Nat.le_refl d)
  have hok := hv.okc hO
  refine cl2 (u2 (c_X10_work hI hO)) ?_ ?_
  · intro q0 r S1 hc
    obtain ⟨rfl, hS⟩ := hc
    have e1 : ∀ a b, 83 ≤ a → S1.1 a b = S.1 a b := by rw [hS]; exact (fun _ _ _ => rfl)
    obtain ⟨mI, ⟨m93, m17, m29, m98, m99⟩, ⟨m42, mN⟩, mK, mW, mB⟩ := hR.mod (S' := S1) e1
    refine md2_0 (u2 (c_X11_work mI hO)) q0 (fun r' S2 hm => ?_)
    obtain ⟨rfl, hS2⟩ := hm
    subst hS2
    subst hS
    first | exact ⟨rfl, hR.rel⟩ | exact ⟨rfl, (hR.lk _).rel⟩
  · intro q0 r S1 hc
    obtain ⟨rfl, hS⟩ := hc
    have e1 : ∀ a b, 83 ≤ a → S1.1 a b = S.1 a b := by rw [hS]; exact (fun a b h => fc_set (by omega))
    obtain ⟨mI, ⟨m93, m17, m29, m98, m99⟩, ⟨m42, mN⟩, mK, mW, mB⟩ := hR.mod (S' := S1) e1
    refine md2_1 (u2 (c_X11_work mI hO)) q0 (fun r' S2 hm => ?_)
    obtain ⟨rfl, hS2⟩ := hm
    subst hS2
    subst hS
    first | exact ⟨rfl, hR.la.rel⟩ | exact ⟨rfl, hR.lal.rel⟩

set_option maxHeartbeats 1000000 in
theorem pr_load {S : St} (h : Rel S) {x : Int32} : C 1 30 yX10_load mX10_load [.ref 0, .int x] S (qi (Nx 2 60 yX11_load mX11_load [.ref 83, .int x])) := by
  obtain ⟨I, L, d, c, ws, T, F, sw, si, kc, kl, hR⟩ := h
  obtain ⟨⟨hO, hI, hT, hIM⟩, ⟨⟨⟨hL1, hL7⟩, hVs, hd, hU⟩, ⟨hP, hL, h60, h61, h62⟩, hmp⟩, ⟨hc8, ⟨h63, hs⟩, hmn⟩, ⟨hk, hmk⟩, hsr, htd, hrw, htx⟩ := id hR
  have hv := hVs d (Nat.le_refl d)
  have hok := hv.okc hO
  refine cl2 (u2 (c_X10_load hI hO hP)) ?_ ?_
  · intro q0 r S1 hc
    obtain ⟨rfl, hS⟩ := hc
    have e1 : ∀ a b, 83 ≤ a → S1.1 a b = S.1 a b := by rw [hS]; exact (fun _ _ _ => rfl)
    obtain ⟨mI, ⟨m93, m17, m29, m98, m99⟩, ⟨m42, mN⟩, mK, mW, mB⟩ := hR.mod (S' := S1) e1
    refine md2_0 (u2 (c_X11_load mI hO m93 (hv.ok hO))) q0 (fun r' S2 hm => ?_)
    obtain ⟨rfl, hS2⟩ := hm
    subst hS2
    subst hS
    first | exact ⟨rfl, hR.rel⟩ | exact ⟨rfl, (hR.lk _).rel⟩
  · intro q0 r S1 hc
    obtain ⟨rfl, hS⟩ := hc
    have e1 : ∀ a b, 83 ≤ a → S1.1 a b = S.1 a b := by rw [hS]; exact (fun a b h => fc_set (by omega))
    obtain ⟨mI, ⟨m93, m17, m29, m98, m99⟩, ⟨m42, mN⟩, mK, mW, mB⟩ := hR.mod (S' := S1) e1
    refine md2_1 (u2 (c_X11_load mI hO m93 (hv.ok hO))) q0 (fun r' S2 hm => ?_)
    obtain ⟨rfl, hS2⟩ := hm
    subst hS2
    subst hS
    first | exact ⟨rfl, hR.la.rel⟩ | exact ⟨rfl, hR.lal.rel⟩

set_option maxHeartbeats 1000000 in
theorem pr_may {S : St} (h : Rel S) {x y : Int32} : C 4 120 yX10_may mX10_may [.ref 0, .int x, .int y] S (qi (Nx 4 120 yX11_may mX11_may [.ref 83, .int x, .int y])) := by
  obtain ⟨I, L, d, c, ws, T, F, sw, si, kc, kl, hR⟩ := h
  obtain ⟨⟨hO, hI, hT, hIM⟩, ⟨⟨⟨hL1, hL7⟩, hVs, hd, hU⟩, ⟨hP, hL, h60, h61, h62⟩, hmp⟩, ⟨hc8, ⟨h63, hs⟩, hmn⟩, ⟨hk, hmk⟩, hsr, htd, hrw, htx⟩ := id hR
  have hv := hVs d (Nat.le_refl d)
  have hok := hv.okc hO
  refine cl3 (u3 (c_X10_may hI hO hP hL hL7 hv)) ?_ ?_ ?_
  · intro q0 r S1 hc
    obtain ⟨rfl, hS⟩ := hc
    have e1 : ∀ a b, 83 ≤ a → S1.1 a b = S.1 a b := by rw [hS]; exact (fun _ _ _ => rfl)
    obtain ⟨mI, ⟨m93, m17, m29, m98, m99⟩, ⟨m42, mN⟩, mK, mW, mB⟩ := hR.mod (S' := S1) e1
    refine md3_0 (u3 (c_X11_may mI hO m93 m17 hL7 hv)) q0 (fun r' S2 hm => ?_)
    obtain ⟨rfl, hS2⟩ := hm
    subst hS2
    subst hS
    first | exact ⟨rfl, hR.rel⟩ | exact ⟨rfl, (hR.lk _).rel⟩
  · intro q0 q1 r S1 hc
    obtain ⟨rfl, hS⟩ := hc
    have e1 : ∀ a b, 83 ≤ a → S1.1 a b = S.1 a b := by rw [hS]; exact (fun _ _ _ => rfl)
    obtain ⟨mI, ⟨m93, m17, m29, m98, m99⟩, ⟨m42, mN⟩, mK, mW, mB⟩ := hR.mod (S' := S1) e1
    refine md3_1 (u3 (c_X11_may mI hO m93 m17 hL7 hv)) q0 q1 (fun r' S2 hm => ?_)
    obtain ⟨rfl, hS2⟩ := hm
    subst hS2
    subst hS
    first | exact ⟨rfl, hR.rel⟩ | exact ⟨rfl, (hR.lk _).rel⟩
  · intro q0 q1 r S1 hc
    obtain ⟨rfl, hS⟩ := hc
    have e1 : ∀ a b, 83 ≤ a → S1.1 a b = S.1 a b := by rw [hS]; exact (fun _ _ _ => rfl)
    obtain ⟨mI, ⟨m93, m17, m29, m98, m99⟩, ⟨m42, mN⟩, mK, mW, mB⟩ := hR.mod (S' := S1) e1
    refine md3_2 (u3 (c_X11_may mI hO m93 m17 hL7 hv)) q0 q1 (fun r' S2 hm => ?_)
    obtain ⟨rfl, hS2⟩ := hm
    subst hS2
    subst hS
    first | exact ⟨rfl, hR.rel⟩ | exact ⟨rfl, (hR.lk _).rel⟩

set_option maxHeartbeats 1000000 in
theorem pr_beside {S : St} (h : Rel S) {x y : Int32} : C 2 60 yX10_beside mX10_beside [.ref 0, .int x, .int y] S (qi (Nx 3 90 yX11_beside mX11_beside [.ref 83, .int x, .int y])) := by
  obtain ⟨I, L, d, c, ws, T, F, sw, si, kc, kl, hR⟩ := h
  obtain ⟨⟨hO, hI, hT, hIM⟩, ⟨⟨⟨hL1, hL7⟩, hVs, hd, hU⟩, ⟨hP, hL, h60, h61, h62⟩, hmp⟩, ⟨hc8, ⟨h63, hs⟩, hmn⟩, ⟨hk, hmk⟩, hsr, htd, hrw, htx⟩ := id hR
  have hv := hVs d (Nat.le_refl d)
  have hok := hv.okc hO
  refine cl2 (u2 (c_X10_beside hI hO hP)) ?_ ?_
  · intro q0 r S1 hc
    obtain ⟨rfl, hS⟩ := hc
    have e1 : ∀ a b, 83 ≤ a → S1.1 a b = S.1 a b := by rw [hS]; exact (fun _ _ _ => rfl)
    obtain ⟨mI, ⟨m93, m17, m29, m98, m99⟩, ⟨m42, mN⟩, mK, mW, mB⟩ := hR.mod (S' := S1) e1
    refine md2_0 (u2 (c_X11_beside mI hO m93 m17 hL7 hv)) q0 (fun r' S2 hm => ?_)
    obtain ⟨rfl, hS2⟩ := hm
    subst hS2
    subst hS
    first | exact ⟨rfl, hR.rel⟩ | exact ⟨rfl, (hR.lk _).rel⟩
  · intro q0 r S1 hc
    obtain ⟨rfl, hS⟩ := hc
    have e1 : ∀ a b, 83 ≤ a → S1.1 a b = S.1 a b := by rw [hS]; exact (fun _ _ _ => rfl)
    obtain ⟨mI, ⟨m93, m17, m29, m98, m99⟩, ⟨m42, mN⟩, mK, mW, mB⟩ := hR.mod (S' := S1) e1
    refine md2_1 (u2 (c_X11_beside mI hO m93 m17 hL7 hv)) q0 (fun r' S2 hm => ?_)
    obtain ⟨rfl, hS2⟩ := hm
    subst hS2
    subst hS
    first | exact ⟨rfl, hR.rel⟩ | exact ⟨rfl, (hR.lk _).rel⟩

set_option maxHeartbeats 1000000 in
theorem pr_steps {S : St} (h : Rel S) : C 3 90 yX10_steps mX10_steps [.ref 0] S (qi (Nx 4 120 yX11_steps mX11_steps [.ref 83])) := by
  obtain ⟨I, L, d, c, ws, T, F, sw, si, kc, kl, hR⟩ := h
  obtain ⟨⟨hO, hI, hT, hIM⟩, ⟨⟨⟨hL1, hL7⟩, hVs, hd, hU⟩, ⟨hP, hL, h60, h61, h62⟩, hmp⟩, ⟨hc8, ⟨h63, hs⟩, hmn⟩, ⟨hk, hmk⟩, hsr, htd, hrw, htx⟩ := id hR
  have hv := hVs d (Nat.le_refl d)
  have hok := hv.okc hO
  refine cl1 (c_X10_steps hI hO hP hL hL7 hv) ?_
  obtain ⟨mI, ⟨m93, m17, m29, m98, m99⟩, ⟨m42, mN⟩, mK, mW, mB⟩ := hR.mod (S' := setI S 1 0 (fb (mayB I (ws d) L) (7 * iM I))) (fun a b h => fc_set (by omega))
  exact md1 (c_X11_steps mI hO m93 m17 hL7 hv) ⟨rfl, hR.lal.rel⟩

set_option maxHeartbeats 1000000 in
theorem pr_can {S : St} (h : Rel S) : C 1 30 yX10_can mX10_can [.ref 0] S (qi (Nx 2 60 yX11_can mX11_can [.ref 83])) := by
  obtain ⟨I, L, d, c, ws, T, F, sw, si, kc, kl, hR⟩ := h
  obtain ⟨⟨hO, hI, hT, hIM⟩, ⟨⟨⟨hL1, hL7⟩, hVs, hd, hU⟩, ⟨hP, hL, h60, h61, h62⟩, hmp⟩, ⟨hc8, ⟨h63, hs⟩, hmn⟩, ⟨hk, hmk⟩, hsr, htd, hrw, htx⟩ := id hR
  have hv := hVs d (Nat.le_refl d)
  have hok := hv.okc hO
  refine cl1 (c_X10_can hI hO hP hT) ?_
  obtain ⟨mI, ⟨m93, m17, m29, m98, m99⟩, ⟨m42, mN⟩, mK, mW, mB⟩ := hR.mod (S' := setI S 1 0 (nI (wthF I (dbF I (ws d) (iW I))))) (fun a b h => fc_set (by omega))
  exact md1 (c_X11_can mI hO m93 (hv.ok hO)) ⟨rfl, hR.lal.rel⟩

set_option maxHeartbeats 1000000 in
theorem pr_drowned {S : St} (h : Rel S) : C 2 60 yX10_drowned mX10_drowned [.ref 0] S (qi (Nx 2 60 yX11_drowned mX11_drowned [.ref 83])) := by
  obtain ⟨I, L, d, c, ws, T, F, sw, si, kc, kl, hR⟩ := h
  obtain ⟨⟨hO, hI, hT, hIM⟩, ⟨⟨⟨hL1, hL7⟩, hVs, hd, hU⟩, ⟨hP, hL, h60, h61, h62⟩, hmp⟩, ⟨hc8, ⟨h63, hs⟩, hmn⟩, ⟨hk, hmk⟩, hsr, htd, hrw, htx⟩ := id hR
  have hv := hVs d (Nat.le_refl d)
  have hok := hv.okc hO
  refine cl1 (c_X10_drowned hI hO hc8 hs hL7 h63 hL) ?_
  obtain ⟨mI, ⟨m93, m17, m29, m98, m99⟩, ⟨m42, mN⟩, mK, mW, mB⟩ := hR.mod (S' := setI S 1 0 (nI (dwT I L c sw si))) (fun a b h => fc_set (by omega))
  exact md1 (c_X11_drowned mI hO hc8 mN hL7 m42 m17) ⟨rfl, hR.la.rel⟩

set_option maxHeartbeats 1000000 in
theorem pr_asked {S : St} (h : Rel S) : C 0 0 yX10_asked mX10_asked [.ref 0] S (qi (Nx 0 0 yX11_asked mX11_asked [.ref 83])) := by
  obtain ⟨I, L, d, c, ws, T, F, sw, si, kc, kl, hR⟩ := h
  obtain ⟨⟨hO, hI, hT, hIM⟩, ⟨⟨⟨hL1, hL7⟩, hVs, hd, hU⟩, ⟨hP, hL, h60, h61, h62⟩, hmp⟩, ⟨hc8, ⟨h63, hs⟩, hmn⟩, ⟨hk, hmk⟩, hsr, htd, hrw, htx⟩ := id hR
  have hv := hVs d (Nat.le_refl d)
  have hok := hv.okc hO
  exact cl1 c_X10_asked (md1 c_X11_asked ⟨htd.1, hR.rel⟩)

set_option maxHeartbeats 1000000 in
theorem pr_finding {S : St} (h : Rel S) : C 0 0 yX10_finding mX10_finding [.ref 0] S (qi (Nx 0 0 yX11_finding mX11_finding [.ref 83])) := by
  obtain ⟨I, L, d, c, ws, T, F, sw, si, kc, kl, hR⟩ := h
  obtain ⟨⟨hO, hI, hT, hIM⟩, ⟨⟨⟨hL1, hL7⟩, hVs, hd, hU⟩, ⟨hP, hL, h60, h61, h62⟩, hmp⟩, ⟨hc8, ⟨h63, hs⟩, hmn⟩, ⟨hk, hmk⟩, hsr, htd, hrw, htx⟩ := id hR
  have hv := hVs d (Nat.le_refl d)
  have hok := hv.okc hO
  exact cl1 c_X10_finding (md1 c_X11_finding ⟨htd.2.2.2.1, hR.rel⟩)

set_option maxHeartbeats 1000000 in
theorem pr_upper {S : St} (h : Rel S) : C 0 0 yX10_upper mX10_upper [.ref 0] S (ql (Ny 0 0 yX11_upper mX11_upper [.ref 83])) := by
  obtain ⟨I, L, d, c, ws, T, F, sw, si, kc, kl, hR⟩ := h
  obtain ⟨⟨hO, hI, hT, hIM⟩, ⟨⟨⟨hL1, hL7⟩, hVs, hd, hU⟩, ⟨hP, hL, h60, h61, h62⟩, hmp⟩, ⟨hc8, ⟨h63, hs⟩, hmn⟩, ⟨hk, hmk⟩, hsr, htd, hrw, htx⟩ := id hR
  have hv := hVs d (Nat.le_refl d)
  have hok := hv.okc hO
  refine c_X10_upper.mono (fun v S' hq => ?_)
  obtain ⟨rfl, rfl⟩ := hq
  refine ⟨_, rfl, c_X11_upper.mono (fun v2 S2 hq2 => ?_)⟩
  obtain ⟨rfl, rfl⟩ := hq2
  exact ⟨_, rfl, htd.2.1, hR.rel⟩

set_option maxHeartbeats 1000000 in
theorem pr_lower {S : St} (h : Rel S) : C 0 0 yX10_lower mX10_lower [.ref 0] S (ql (Ny 0 0 yX11_lower mX11_lower [.ref 83])) := by
  obtain ⟨I, L, d, c, ws, T, F, sw, si, kc, kl, hR⟩ := h
  obtain ⟨⟨hO, hI, hT, hIM⟩, ⟨⟨⟨hL1, hL7⟩, hVs, hd, hU⟩, ⟨hP, hL, h60, h61, h62⟩, hmp⟩, ⟨hc8, ⟨h63, hs⟩, hmn⟩, ⟨hk, hmk⟩, hsr, htd, hrw, htx⟩ := id hR
  have hv := hVs d (Nat.le_refl d)
  have hok := hv.okc hO
  refine c_X10_lower.mono (fun v S' hq => ?_)
  obtain ⟨rfl, rfl⟩ := hq
  refine ⟨_, rfl, c_X11_lower.mono (fun v2 S2 hq2 => ?_)⟩
  obtain ⟨rfl, rfl⟩ := hq2
  exact ⟨_, rfl, htd.2.2.1, hR.rel⟩

set_option maxHeartbeats 1000000 in
theorem pr_findings {S : St} (h : Rel S) {x : Int32} : C 0 0 yX10_findings mX10_findings [.ref 0, .int x] S (qi (Nx 1 30 yX11_findings mX11_findings [.ref 83, .int x])) := by
  obtain ⟨I, L, d, c, ws, T, F, sw, si, kc, kl, hR⟩ := h
  obtain ⟨⟨hO, hI, hT, hIM⟩, ⟨⟨⟨hL1, hL7⟩, hVs, hd, hU⟩, ⟨hP, hL, h60, h61, h62⟩, hmp⟩, ⟨hc8, ⟨h63, hs⟩, hmn⟩, ⟨hk, hmk⟩, hsr, htd, hrw, htx⟩ := id hR
  have hv := hVs d (Nat.le_refl d)
  have hok := hv.okc hO
  refine cl2 (u2 (c_X10_findings )) ?_ ?_
  · intro q0 r S1 hc
    obtain ⟨rfl, hS⟩ := hc
    have e1 : ∀ a b, 83 ≤ a → S1.1 a b = S.1 a b := by rw [hS]; exact (fun _ _ _ => rfl)
    obtain ⟨mI, ⟨m93, m17, m29, m98, m99⟩, ⟨m42, mN⟩, mK, mW, mB⟩ := hR.mod (S' := S1) e1
    refine md2_0 (u2 (c_X11_findings )) q0 (fun r' S2 hm => ?_)
    obtain ⟨rfl, hS2⟩ := hm
    subst hS2
    subst hS
    first | exact ⟨rfl, hR.rel⟩ | exact ⟨rfl, (hR.lk _).rel⟩
  · intro q0 r S1 hc
    obtain ⟨rfl, hS⟩ := hc
    have e1 : ∀ a b, 83 ≤ a → S1.1 a b = S.1 a b := by rw [hS]; exact (fun _ _ _ => rfl)
    obtain ⟨mI, ⟨m93, m17, m29, m98, m99⟩, ⟨m42, mN⟩, mK, mW, mB⟩ := hR.mod (S' := S1) e1
    refine md2_1 (u2 (c_X11_findings )) q0 (fun r' S2 hm => ?_)
    obtain ⟨hr, hS2⟩ := hm
    subst hS2
    subst hS
    exact ⟨by rw [hr]; exact htd.2.2.2.2 _ (by unfold tn; omega), hR.rel⟩

set_option maxHeartbeats 1000000 in
theorem pr_count {S : St} (h : Rel S) {x : Int32} : C 2 60 yX10_count mX10_count [.ref 0, .int x] S (qi (Nx 1 30 yX11_count mX11_count [.ref 83, .int x])) := by
  obtain ⟨I, L, d, c, ws, T, F, sw, si, kc, kl, hR⟩ := h
  obtain ⟨⟨hO, hI, hT, hIM⟩, ⟨⟨⟨hL1, hL7⟩, hVs, hd, hU⟩, ⟨hP, hL, h60, h61, h62⟩, hmp⟩, ⟨hc8, ⟨h63, hs⟩, hmn⟩, ⟨hk, hmk⟩, hsr, htd, hrw, htx⟩ := id hR
  have hv := hVs d (Nat.le_refl d)
  have hok := hv.okc hO
  refine cl2 (u2 (c_X10_count hI hO)) ?_ ?_
  · intro q0 r S1 hc
    obtain ⟨rfl, hS⟩ := hc
    have e1 : ∀ a b, 83 ≤ a → S1.1 a b = S.1 a b := by rw [hS]; exact (fun _ _ _ => rfl)
    obtain ⟨mI, ⟨m93, m17, m29, m98, m99⟩, ⟨m42, mN⟩, mK, mW, mB⟩ := hR.mod (S' := S1) e1
    refine md2_0 (u2 (c_X11_count mI hO)) q0 (fun r' S2 hm => ?_)
    obtain ⟨rfl, hS2⟩ := hm
    subst hS2
    subst hS
    first | exact ⟨rfl, hR.rel⟩ | exact ⟨rfl, (hR.lk _).rel⟩
  · intro q0 r S1 hc
    obtain ⟨rfl, hS⟩ := hc
    have e1 : ∀ a b, 83 ≤ a → S1.1 a b = S.1 a b := by rw [hS]; exact (fun _ _ _ => rfl)
    obtain ⟨mI, ⟨m93, m17, m29, m98, m99⟩, ⟨m42, mN⟩, mK, mW, mB⟩ := hR.mod (S' := S1) e1
    refine md2_1 (u2 (c_X11_count mI hO)) q0 (fun r' S2 hm => ?_)
    obtain ⟨hr, hS2⟩ := hm
    subst hS2
    subst hS
    refine ⟨?_, hR.rel⟩
    rw [hr, m29, m42, h60, h63, sm_congr (g := fun r => if (S2.1 4 r).toInt < 0 then 0 else 1) (fun r hr => by rw [hrw.2.1 r hr]), sm_congr (f := fun r => if (S2.1 88 r).toInt < 0 then 0 else 1) (g := fun r => if (S2.1 7 r).toInt < 0 then 0 else 1) (fun r hr => by rw [htx.2.1 r hr])]

theorem GI.set {I : Isl} {S S' : St} (h : GI I S) (e : ∀ a b, ((11 ≤ a ∧ a ≤ 22) ∨ (a = 83 ∧ (b = 10 ∨ b = 11 ∨ b = 13 ∨ b = 15)) ∨ (90 ≤ a ∧ a ≤ 92)) → S'.1 a b = S.1 a b) : GI I S' := h.keep e
theorem UPath.zero {I : Isl} {ws : Nat → Nat → Nat} {T F : Nat → Nat} : UPath I ws T F 0 := fun i hi => absurd hi (Nat.not_lt_zero i)
/-- another state, nothing done -/
theorem GP.new {I : Isl} {L : Nat} {w : Nat → Nat} {S : St} (hL1 : 1 ≤ L) (hL7 : L ≤ 6) (hv : VS I w L) (h1 : PlT 35 I w S) (h2 : S.1 35 5 = nI L) (h3 : S.1 60 0 = nI 0) (k1 : ∀ t, t < iM I → S.1 93 t = nI (w t)) (k2 : S.1 83 17 = nI L) (k3 : S.1 83 29 = nI 0) : GP I L 0 (fun _ => w) (fun _ => 0) (fun _ => 0) S :=
  ⟨⟨⟨hL1, hL7⟩, fun i _ => hv, Nat.zero_le _, UPath.zero⟩, ⟨h1, h2, h3, fun i hi => absurd hi (Nat.not_lt_zero i), fun i hi => absurd hi (Nat.not_lt_zero i)⟩, ⟨k1, k2, k3, fun i hi => absurd hi (Nat.not_lt_zero i), fun i hi => absurd hi (Nat.not_lt_zero i)⟩⟩

set_option maxHeartbeats 1000000 in
theorem pr_limit {S : St} (h : Rel S) {x : Int32} : C 2 60 yX10_limit mX10_limit [.ref 0, .int x] S (qi (Nx 3 90 yX11_limit mX11_limit [.ref 83, .int x])) := by
  obtain ⟨I, L, d, c, ws, T, F, sw, si, kc, kl, hR⟩ := h
  obtain ⟨⟨hO, hI, hT, hIM⟩, ⟨⟨⟨hL1, hL7⟩, hVs, hd, hU⟩, ⟨hP, hL, h60, h61, h62⟩, hmp⟩, ⟨hc8, ⟨h63, hs⟩, hmn⟩, ⟨hk, hmk⟩, hsr, htd, hrw, htx⟩ := id hR
  have hv := hVs d (Nat.le_refl d)
  have hok := hv.okc hO
  refine cl3 (u3 (c_X10_limit hI hO hP hL hL7 hv)) ?_ ?_ ?_
  · intro q0 r S1 hc
    obtain ⟨rfl, hS⟩ := hc
    have e1 : ∀ a b, 83 ≤ a → S1.1 a b = S.1 a b := by rw [hS]; exact (fun _ _ _ => rfl)
    obtain ⟨mI, ⟨m93, m17, m29, m98, m99⟩, ⟨m42, mN⟩, mK, mW, mB⟩ := hR.mod (S' := S1) e1
    refine md3_0 (u3 (c_X11_limit mI hO m93 m17 hL7 hv)) q0 (fun r' S2 hm => ?_)
    obtain ⟨rfl, hS2⟩ := hm
    subst hS2
    subst hS
    first | exact ⟨rfl, hR.rel⟩ | exact ⟨rfl, (hR.lk _).rel⟩
  · intro q0 q1 r S1 hc
    obtain ⟨rfl, hS⟩ := hc
    have e1 : ∀ a b, 83 ≤ a → S1.1 a b = S.1 a b := by rw [hS]; exact (fun _ _ _ => rfl)
    obtain ⟨mI, ⟨m93, m17, m29, m98, m99⟩, ⟨m42, mN⟩, mK, mW, mB⟩ := hR.mod (S' := S1) e1
    refine md3_1 (u3 (c_X11_limit mI hO m93 m17 hL7 hv)) q0 q1 (fun r' S2 hm => ?_)
    obtain ⟨rfl, hS2⟩ := hm
    subst hS2
    subst hS
    first | exact ⟨rfl, hR.rel⟩ | exact ⟨rfl, (hR.lk _).rel⟩
  · intro q0 q1 r S1 hc
    obtain ⟨rfl, hS⟩ := hc
    have e1 : ∀ a b, 83 ≤ a → S1.1 a b = S.1 a b := by rw [hS]; exact (fun a b h => (fc_set (by omega)).trans (fc_set (by omega)))
    obtain ⟨mI, ⟨m93, m17, m29, m98, m99⟩, ⟨m42, mN⟩, mK, mW, mB⟩ := hR.mod (S' := S1) e1
    refine md3_2 (u3 (c_X11_limit mI hO m93 m17 hL7 hv)) q0 q1 (fun r' S2 hm => ?_)
    obtain ⟨rfl, hS2⟩ := hm
    subst hS2
    subst hS
    refine ⟨rfl, ?_⟩
    obtain ⟨l, hl, rfl⟩ := nI_ex (x := x) (n := 7) (by omega) (by omega)
    have el : (nI l).toInt = (l : Int) := tiN (by omega)
    have tl : tn (nI l) = l := tnN (by omega)
    rw [tl] at q1
    have e : ∀ a b, ¬ a = 97 → ¬ (a = 35 ∧ b = 5) → ¬ (a = 60 ∧ b = 0) → ¬ (a = 83 ∧ (b = 17 ∨ b = 29)) → (setI (setI (lkS (setI (setI S 35 5 (nI l)) 60 0 (nI 0)) (iM I)) 83 17 (nI l)) 83 29 (nI 0)).1 a b = S.1 a b := fun a b k1 k2 k3 k4 => (fc_set (by omega)).trans ((fc_set (by omega)).trans ((lkS_k k1).trans ((fc_set k3).trans (fc_set k2))))
    have hmp93 := hmp.1
    refine ⟨I, l, 0, c, _, _, _, sw, si, kc, kl, hR.1.keep (fun a b k => e a b (by omega) (by omega) (by omega) (by omega)), GP.new (w := ws d) (by omega) (by omega) (hv.over q1) ?_ ?_ ?_ (fun t ht => ?_) ?_ ?_, hR.2.2.1.keep (fun a b k => e a b (by omega) (by omega) (by omega) (by omega)), hR.2.2.2.1.keep (fun a b k => e a b (by omega) (by omega) (by omega) (by omega)), hsr.kp (fun a b k => e a b (by omega) (by omega) (by omega) (by omega)), htd.keep (fun a b k => e a b (by omega) (by omega) (by omega) (by omega)) (fun b _ => ⟨rfl, rfl⟩), hrw.keep (fun a b k => e a b (by omega) (by omega) (by omega) (by omega)), htx.keep (fun a b k => e a b (by omega) (by omega) (by omega) (by omega))⟩
    · exact hP.keep (fun a h1 h2 b => e a b (by omega) (by omega) (by omega) (by omega))
    · exact (fc_set (by decide)).trans ((fc_set (by decide)).trans ((lkS_k (by decide)).trans ((fc_set (by decide)).trans rdI_eq)))
    · exact (fc_set (by decide)).trans ((fc_set (by decide)).trans ((lkS_k (by decide)).trans rdI_eq))
    · exact (e 93 t (by decide) (by omega) (by omega) (by omega)).trans (hmp93 t ht)
    · exact (fc_set (by decide)).trans rdI_eq
    · exact rdI_eq

set_option maxHeartbeats 1000000 in
theorem pr_keep {S : St} (h : Rel S) {x : Int32} : C 1 30 yX10_keep mX10_keep [.ref 0, .int x] S (qi (Nx 1 30 yX11_keep mX11_keep [.ref 83, .int x])) := by
  obtain ⟨I, L, d, c, ws, T, F, sw, si, kc, kl, hR⟩ := h
  obtain ⟨⟨hO, hI, hT, hIM⟩, ⟨⟨⟨hL1, hL7⟩, hVs, hd, hU⟩, ⟨hP, hL, h60, h61, h62⟩, hmp⟩, ⟨hc8, ⟨h63, hs⟩, hmn⟩, ⟨hk, hmk⟩, hsr, htd, hrw, htx⟩ := id hR
  have hv := hVs d (Nat.le_refl d)
  have hok := hv.okc hO
  refine cl3 (u3 (c_X10_keep hI hO hP hL hL7 hv h60)) ?_ ?_ ?_
  · intro q0 r S1 hc
    obtain ⟨rfl, hS⟩ := hc
    have e1 : ∀ a b, 83 ≤ a → S1.1 a b = S.1 a b := by rw [hS]; exact (fun _ _ _ => rfl)
    obtain ⟨mI, ⟨m93, m17, m29, m98, m99⟩, ⟨m42, mN⟩, mK, mW, mB⟩ := hR.mod (S' := S1) e1
    refine md3_0 (u3 (c_X11_keep mI hO m93 m17 hL7 hv m29)) q0 (fun r' S2 hm => ?_)
    obtain ⟨rfl, hS2⟩ := hm
    subst hS2
    subst hS
    first | exact ⟨rfl, hR.rel⟩ | exact ⟨rfl, (hR.lk _).rel⟩
  · intro q0 q1 r S1 hc
    obtain ⟨rfl, hS⟩ := hc
    have e1 : ∀ a b, 83 ≤ a → S1.1 a b = S.1 a b := by rw [hS]; exact (fun _ _ _ => rfl)
    obtain ⟨mI, ⟨m93, m17, m29, m98, m99⟩, ⟨m42, mN⟩, mK, mW, mB⟩ := hR.mod (S' := S1) e1
    refine md3_1 (u3 (c_X11_keep mI hO m93 m17 hL7 hv m29)) q0 q1 (fun r' S2 hm => ?_)
    obtain ⟨rfl, hS2⟩ := hm
    subst hS2
    subst hS
    first | exact ⟨rfl, hR.rel⟩ | exact ⟨rfl, (hR.lk _).rel⟩
  · intro q0 q1 r S1 hc
    obtain ⟨rfl, hS⟩ := hc
    have e1 : ∀ a b, 83 ≤ a → S1.1 a b = S.1 a b := by rw [hS]; exact (fun a b h => (fc_set (by omega)).trans (fc_set (by omega)))
    obtain ⟨mI, ⟨m93, m17, m29, m98, m99⟩, ⟨m42, mN⟩, mK, mW, mB⟩ := hR.mod (S' := S1) e1
    refine md3_2 (u3 (c_X11_keep mI hO m93 m17 hL7 hv m29)) q0 q1 (fun r' S2 hm => ?_)
    obtain ⟨rfl, hS2⟩ := hm
    subst hS2
    subst hS
    refine ⟨rfl, ?_⟩
    have hx3 : tn x < 3 := by unfold tn; omega
    have e : ∀ a b, ¬ a = 97 → ¬ (a = 66 ∨ a = 67) → ¬ (a = 100 ∨ a = 101) → (setI (setI (lkS (setI (setI S 66 (tn x) (nI (codeF I (ws d)))) 67 (tn x) (nI L)) (iM I)) 100 (tn x) (nI (codeF I (ws d)))) 101 (tn x) (nI L)).1 a b = S.1 a b := fun a b k1 k2 k3 => (fc_set (by omega)).trans ((fc_set (by omega)).trans ((lkS_k k1).trans ((fc_set (by omega)).trans (fc_set (by omega)))))
    refine ⟨I, L, d, c, ws, T, F, sw, si, upW kc (tn x) (codeF I (ws d)), upW kl (tn x) L, hR.1.keep (fun a b k => e a b (by omega) (by omega) (by omega)), hR.2.1.keep (fun a b k => e a b (by omega) (by omega) (by omega)), hR.2.2.1.keep (fun a b k => e a b (by omega) (by omega) (by omega)), ⟨fun k hk3 => ?_, fun k hk3 => ?_⟩, hsr.kp (fun a b k => e a b (by omega) (by omega) (by omega)), htd.keep (fun a b k => e a b (by omega) (by omega) (by omega)) (fun b _ => ⟨rfl, rfl⟩), hrw.keep (fun a b k => e a b (by omega) (by omega) (by omega)), htx.keep (fun a b k => e a b (by omega) (by omega) (by omega))⟩
    · by_cases z : k = tn x
      · rw [z, upW_eq, upW_eq]
        refine ⟨(fc_set (by omega)).trans ((fc_set (by omega)).trans ((lkS_k (by decide)).trans rdI_eq)), hL7, fun _ => ⟨(fc_set (by omega)).trans ((fc_set (by omega)).trans ((lkS_k (by decide)).trans ((fc_set (by omega)).trans rdI_eq))), hok.lt hO, hok.2⟩⟩
      · rw [upW_ne z, upW_ne z]
        have hh := hk k hk3
        refine ⟨(fc_set (by omega)).trans ((fc_set (by omega)).trans ((lkS_k (by decide)).trans ((fc_set (by omega)).trans ((fc_set (by omega)).trans hh.1)))), hh.2.1, fun h0 => ⟨(fc_set (by omega)).trans ((fc_set (by omega)).trans ((lkS_k (by decide)).trans ((fc_set (by omega)).trans ((fc_set (by omega)).trans (hh.2.2 h0).1)))), (hh.2.2 h0).2⟩⟩
    · by_cases z : k = tn x
      · rw [z, upW_eq, upW_eq, if_neg (by omega)]
        exact ⟨(fc_set (by omega)).trans rdI_eq, fun _ => ⟨rdI_eq, hok.lt hO⟩⟩
      · rw [upW_ne z, upW_ne z]
        have hh := hmk k hk3
        exact ⟨(fc_set (by omega)).trans ((fc_set (by omega)).trans ((lkS_k (by decide)).trans ((fc_set (by omega)).trans ((fc_set (by omega)).trans hh.1)))), fun h0 => ⟨(fc_set (by omega)).trans ((fc_set (by omega)).trans ((lkS_k (by decide)).trans ((fc_set (by omega)).trans ((fc_set (by omega)).trans (hh.2 h0).1)))), (hh.2 h0).2⟩⟩

set_option maxHeartbeats 1000000 in
theorem pr_saw {S : St} (h : Rel S) {x y : Int32} : C 2 60 yX10_saw mX10_saw [.ref 0, .int x, .int y] S (qi (Nx 2 60 yX11_saw mX11_saw [.ref 83, .int x, .int y])) := by
  obtain ⟨I, L, d, c, ws, T, F, sw, si, kc, kl, hR⟩ := h
  obtain ⟨⟨hO, hI, hT, hIM⟩, ⟨⟨⟨hL1, hL7⟩, hVs, hd, hU⟩, ⟨hP, hL, h60, h61, h62⟩, hmp⟩, ⟨hc8, ⟨h63, hs⟩, hmn⟩, ⟨hk, hmk⟩, hsr, htd, hrw, htx⟩ := id hR
  have hv := hVs d (Nat.le_refl d)
  have hok := hv.okc hO
  refine cl3 (u3 (c_X10_saw hI hO h63 hc8)) ?_ ?_ ?_
  · intro q0 r S1 hc
    obtain ⟨rfl, hS⟩ := hc
    have e1 : ∀ a b, 83 ≤ a → S1.1 a b = S.1 a b := by rw [hS]; exact (fun _ _ _ => rfl)
    obtain ⟨mI, ⟨m93, m17, m29, m98, m99⟩, ⟨m42, mN⟩, mK, mW, mB⟩ := hR.mod (S' := S1) e1
    refine md3_0 (u3 (c_X11_saw mI hO m42 hc8)) q0 (fun r' S2 hm => ?_)
    obtain ⟨rfl, hS2⟩ := hm
    subst hS2
    subst hS
    first | exact ⟨rfl, hR.rel⟩ | exact ⟨rfl, (hR.lk _).rel⟩
  · intro q0 q1 r S1 hc
    obtain ⟨rfl, hS⟩ := hc
    have e1 : ∀ a b, 83 ≤ a → S1.1 a b = S.1 a b := by rw [hS]; exact (fun _ _ _ => rfl)
    obtain ⟨mI, ⟨m93, m17, m29, m98, m99⟩, ⟨m42, mN⟩, mK, mW, mB⟩ := hR.mod (S' := S1) e1
    refine md3_1 (u3 (c_X11_saw mI hO m42 hc8)) q0 q1 (fun r' S2 hm => ?_)
    obtain ⟨rfl, hS2⟩ := hm
    subst hS2
    subst hS
    first | exact ⟨rfl, hR.rel⟩ | exact ⟨rfl, (hR.lk _).rel⟩
  · intro q0 q1 r S1 hc
    obtain ⟨rfl, hS⟩ := hc
    have e1 : ∀ a b, 83 ≤ a → S1.1 a b = S.1 a b := by rw [hS]; exact (fun a b h => (fc_set (by omega)).trans ((fc_set (by omega)).trans (fc_set (by omega))))
    obtain ⟨mI, ⟨m93, m17, m29, m98, m99⟩, ⟨m42, mN⟩, mK, mW, mB⟩ := hR.mod (S' := S1) e1
    refine md3_2 (u3 (c_X11_saw mI hO m42 hc8)) q0 q1 (fun r' S2 hm => ?_)
    obtain ⟨rfl, hS2⟩ := hm
    subst hS2
    subst hS
    refine ⟨rfl, ?_⟩
    obtain ⟨v, hv1, rfl⟩ := nI_ex (x := x) (n := iW I) (by omega) (by omega)
    obtain ⟨z, hz1, rfl⟩ := nI_ex (x := y) (n := 2) (by omega) (by omega)
    have e : ∀ a b, ¬ (63 ≤ a ∧ a ≤ 65) → ¬ (a = 83 ∧ b = 42) → ¬ (a = 107 ∨ a = 108) → (setI (setI (setI (setI (setI (setI S 64 c (nI v)) 65 c (nI z)) 63 0 (nI (c + 1))) 107 c (nI v)) 108 c (nI z)) 83 42 (nI (c + 1))).1 a b = S.1 a b := fun a b k1 k2 k3 => (fc_set k2).trans ((fc_set (by omega)).trans ((fc_set (by omega)).trans ((fc_set (by omega)).trans ((fc_set (by omega)).trans (fc_set (by omega))))))
    refine ⟨I, L, d, c + 1, ws, T, F, upW sw c v, upW si c z, kc, kl, hR.1.keep (fun a b k => e a b (by omega) (by omega) (by omega)), hR.2.1.keep (fun a b k => e a b (by omega) (by omega) (by omega)), ⟨by omega, ⟨(fc_set (by decide)).trans ((fc_set (by omega)).trans ((fc_set (by omega)).trans rdI_eq)), fun i hi => ?_⟩, rdI_eq, fun i hi => ?_⟩, hR.2.2.2.1.keep (fun a b k => e a b (by omega) (by omega) (by omega)), hsr.kp (fun a b k => e a b (by omega) (by omega) (by omega)), htd.keep (fun a b k => e a b (by omega) (by omega) (by omega)) (fun b _ => ⟨rfl, rfl⟩), hrw.keep (fun a b k => e a b (by omega) (by omega) (by omega)), htx.keep (fun a b k => e a b (by omega) (by omega) (by omega))⟩
    · by_cases q : i = c
      · rw [q, upW_eq, upW_eq]
        exact ⟨(fc_set (by omega)).trans ((fc_set (by omega)).trans ((fc_set (by omega)).trans ((fc_set (by omega)).trans ((fc_set (by omega)).trans rdI_eq)))), (fc_set (by omega)).trans ((fc_set (by omega)).trans ((fc_set (by omega)).trans ((fc_set (by omega)).trans rdI_eq))), hv1, by omega⟩
      · rw [upW_ne q, upW_ne q]
        have hh := hs i (by omega)
        exact ⟨(fc_set (by omega)).trans ((fc_set (by omega)).trans ((fc_set (by omega)).trans ((fc_set (by omega)).trans ((fc_set (by omega)).trans ((fc_set (by omega)).trans hh.1))))), (fc_set (by omega)).trans ((fc_set (by omega)).trans ((fc_set (by omega)).trans ((fc_set (by omega)).trans ((fc_set (by omega)).trans ((fc_set (by omega)).trans hh.2.1))))), hh.2.2⟩
    · by_cases q : i = c
      · rw [q, upW_eq, upW_eq]
        exact ⟨(fc_set (by omega)).trans ((fc_set (by omega)).trans rdI_eq), (fc_set (by omega)).trans rdI_eq, hv1, by omega⟩
      · rw [upW_ne q, upW_ne q]
        have hh := mN i (by omega)
        have g1 := (e1 107 i (by decide))
        exact ⟨(fc_set (by omega)).trans ((fc_set (by omega)).trans ((fc_set (by omega)).trans hh.1)), (fc_set (by omega)).trans ((fc_set (by omega)).trans ((fc_set (by omega)).trans hh.2.1)), hh.2.2⟩

set_option maxHeartbeats 1000000 in
theorem pr_forget {S : St} (h : Rel S) {x : Int32} : C 0 0 yX10_forget mX10_forget [.ref 0, .int x] S (qi (Nx 1 30 yX11_forget mX11_forget [.ref 83, .int x])) := by
  obtain ⟨I, L, d, c, ws, T, F, sw, si, kc, kl, hR⟩ := h
  obtain ⟨⟨hO, hI, hT, hIM⟩, ⟨⟨⟨hL1, hL7⟩, hVs, hd, hU⟩, ⟨hP, hL, h60, h61, h62⟩, hmp⟩, ⟨hc8, ⟨h63, hs⟩, hmn⟩, ⟨hk, hmk⟩, hsr, htd, hrw, htx⟩ := id hR
  have hv := hVs d (Nat.le_refl d)
  have hok := hv.okc hO
  refine cl2 (u2 (c_X10_forget h63 hc8)) ?_ ?_
  · intro q0 r S1 hc
    obtain ⟨rfl, hS⟩ := hc
    have e1 : ∀ a b, 83 ≤ a → S1.1 a b = S.1 a b := by rw [hS]; exact (fun _ _ _ => rfl)
    obtain ⟨mI, ⟨m93, m17, m29, m98, m99⟩, ⟨m42, mN⟩, mK, mW, mB⟩ := hR.mod (S' := S1) e1
    refine md2_0 (u2 (c_X11_forget m42 hc8)) q0 (fun r' S2 hm => ?_)
    obtain ⟨rfl, hS2⟩ := hm
    subst hS2
    subst hS
    first | exact ⟨rfl, hR.rel⟩ | exact ⟨rfl, (hR.lk _).rel⟩
  · intro q0 r S1 hc
    obtain ⟨rfl, hS⟩ := hc
    have e1 : ∀ a b, 83 ≤ a → S1.1 a b = S.1 a b := by rw [hS]; exact (fun a b h => fc_set (by omega))
    obtain ⟨mI, ⟨m93, m17, m29, m98, m99⟩, ⟨m42, mN⟩, mK, mW, mB⟩ := hR.mod (S' := S1) e1
    refine md2_1 (u2 (c_X11_forget m42 hc8)) q0 (fun r' S2 hm => ?_)
    obtain ⟨rfl, hS2⟩ := hm
    subst hS2
    subst hS
    refine ⟨rfl, ?_⟩
    obtain ⟨v, hv1, rfl⟩ := nI_ex (x := x) (n := c + 1) (by omega) (by omega)
    have e : ∀ a b, ¬ a = 63 → ¬ (a = 83 ∧ b = 42) → (setI (setI S 63 0 (nI v)) 83 42 (nI v)).1 a b = S.1 a b := fun a b k1 k2 => (fc_set k2).trans (fc_set (by omega))
    refine ⟨I, L, d, v, ws, T, F, sw, si, kc, kl, hR.1.keep (fun a b k => e a b (by omega) (by omega)), hR.2.1.keep (fun a b k => e a b (by omega) (by omega)), ⟨by omega, ⟨(fc_set (by decide)).trans rdI_eq, fun i hi => ?_⟩, rdI_eq, fun i hi => ?_⟩, hR.2.2.2.1.keep (fun a b k => e a b (by omega) (by omega)), hsr.kp (fun a b k => e a b (by omega) (by omega)), htd.keep (fun a b k => e a b (by omega) (by omega)) (fun b _ => ⟨rfl, rfl⟩), hrw.keep (fun a b k => e a b (by omega) (by omega)), htx.keep (fun a b k => e a b (by omega) (by omega))⟩
    · rw [e 64 i (by decide) (by omega), e 65 i (by decide) (by omega)]; exact hs i (by omega)
    · have hh := hmn.2 i (by omega)
      rw [e 107 i (by decide) (by omega), e 108 i (by decide) (by omega)]; exact hh

set_option maxHeartbeats 1000000 in
theorem pr_odds {S : St} (h : Rel S) {x : Int32} : C 2 60 yX10_odds mX10_odds [.ref 0, .int x] S (qi (Nx 2 60 yX11_odds mX11_odds [.ref 83, .int x])) := by
  obtain ⟨I, L, d, c, ws, T, F, sw, si, kc, kl, hR⟩ := h
  obtain ⟨⟨hO, hI, hT, hIM⟩, ⟨⟨⟨hL1, hL7⟩, hVs, hd, hU⟩, ⟨hP, hL, h60, h61, h62⟩, hmp⟩, ⟨hc8, ⟨h63, hs⟩, hmn⟩, ⟨hk, hmk⟩, hsr, htd, hrw, htx⟩ := id hR
  have hv := hVs d (Nat.le_refl d)
  have hok := hv.okc hO
  refine cl3 (u3 (c_X10_odds hI hO hc8 hs hL7 h63 hL)) ?_ ?_ ?_
  · intro q0 r S1 hc
    obtain ⟨rfl, hS⟩ := hc
    have e1 : ∀ a b, 83 ≤ a → S1.1 a b = S.1 a b := by rw [hS]; exact (fun _ _ _ => rfl)
    obtain ⟨mI, ⟨m93, m17, m29, m98, m99⟩, ⟨m42, mN⟩, mK, mW, mB⟩ := hR.mod (S' := S1) e1
    refine md3_0 (u3 (c_X11_odds mI hO hc8 mN hL7 m42 m17)) q0 (fun r' S2 hm => ?_)
    obtain ⟨rfl, hS2⟩ := hm
    subst hS2
    subst hS
    first | exact ⟨rfl, hR.rel⟩ | exact ⟨rfl, (hR.lk _).rel⟩
  · intro q0 q1 r S1 hc
    obtain ⟨rfl, hS⟩ := hc
    have e1 : ∀ a b, 83 ≤ a → S1.1 a b = S.1 a b := by rw [hS]; exact (fun a b h => fndS_k (by omega) (by omega))
    obtain ⟨mI, ⟨m93, m17, m29, m98, m99⟩, ⟨m42, mN⟩, mK, mW, mB⟩ := hR.mod (S' := S1) e1
    refine md3_1 (u3 (c_X11_odds mI hO hc8 mN hL7 m42 m17)) q0 q1 (fun r' S2 hm => ?_)
    obtain ⟨rfl, hS2⟩ := hm
    subst hS2
    subst hS
    exact ⟨rfl, (hR.lf (by decide)).rel⟩
  · intro q0 q1 r S1 hc
    obtain ⟨rfl, hS⟩ := hc
    have e1 : ∀ a b, 83 ≤ a → S1.1 a b = S.1 a b := by rw [hS]; exact (fun a b h => rfl)
    obtain ⟨mI, ⟨m93, m17, m29, m98, m99⟩, ⟨m42, mN⟩, mK, mW, mB⟩ := hR.mod (S' := S1) e1
    refine md3_2 (u3 (c_X11_odds mI hO hc8 mN hL7 m42 m17)) q0 q1 (fun r' S2 hm => ?_)
    obtain ⟨rfl, hS2⟩ := hm
    subst hS2
    subst hS
    refine ⟨rfl, ?_⟩
    have e : ∀ a b, (tfS (tfS S 1 1 (wiA (hadB I L c sw si) (tn x) (2 ^ iM I)) (cb (hadB I L c sw si) (2 ^ iM I))) 83 3 (wiA (hadB I L c sw si) (tn x) (2 ^ iM I)) (cb (hadB I L c sw si) (2 ^ iM I))).1 a b = S.1 a b := fun a b => rfl
    exact (hR.told (hsr.kp (fun a b _ => e a b)) (fun a b _ _ _ _ _ => e a b) ⟨htd.1, (rdL_j (by decide)).trans (rdL_eq.trans ((rdL_k (by decide)).trans ((rdL_k (by decide)).trans ((rdL_j (by decide)).trans rdL_eq))).symm), rdL_eq.trans ((rdL_k (by decide)).trans ((rdL_k (by decide)).trans rdL_eq)).symm, htd.2.2.2.1, htd.2.2.2.2⟩).rel
