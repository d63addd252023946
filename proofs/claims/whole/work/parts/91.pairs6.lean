/-! ===== pairs of calls: searches, days, thefts, digest ===== -/
theorem fst_eq {N : Nat} {P : Nat → Prop} {D : Nat → Nat} {r r' : Int32} (h : (∃ i, i < N ∧ P i ∧ (∀ j, j < i → ¬ P j) ∧ r = nI (D i)) ∨ (r = -9 ∧ ∀ j, j < N → ¬ P j)) (h' : (∃ i, i < N ∧ P i ∧ (∀ j, j < i → ¬ P j) ∧ r' = nI (D i)) ∨ (r' = -9 ∧ ∀ j, j < N → ¬ P j)) : r' = r := by
  rcases h with ⟨i, h1, h2, h3, h4⟩ | ⟨h1, h2⟩
  · rcases h' with ⟨i', k1, k2, k3, k4⟩ | ⟨k1, k2⟩
    · have : i = i' := Classical.byContradiction fun q => by
        rcases Nat.lt_or_gt_of_ne q with z | z
        · exact k3 i z h2
        · exact h3 i' z k2
      rw [h4, k4, this]
    · exact absurd h2 (k2 i h1)
  · rcases h' with ⟨i', k1, k2, k3, k4⟩ | ⟨k1, k2⟩
    · exact absurd k2 (h2 i' k1)
    · rw [h1, k1]
theorem fst_one {P : Nat → Prop} {i i' : Nat} (h2 : P i) (h3 : ∀ j, j < i → ¬ P j) (k2 : P i') (k3 : ∀ j, j < i' → ¬ P j) : i = i' := Classical.byContradiction fun q => by
  rcases Nat.lt_or_gt_of_ne q with z | z
  · exact k3 i z h2
  · exact h3 i' z k2
theorem wantP_congr {I : Isl} {v v' : Nat → Int32} (e : ∀ t, t < iM I → v t = v' t) {c : Nat} : wantP I v c ↔ wantP I v' c := by
  unfold wantP
  exact ⟨fun h t ht => by rw [← e t ht]; exact h t ht, fun h t ht => by rw [e t ht]; exact h t ht⟩
theorem nearT_congr {I : Isl} {L c0 f : Nat} {v v' : Nat → Int32} (e : ∀ t, t < iM I → v t = v' t) : nearT I L c0 f v = nearT I L c0 f v' := by
  funext j
  unfold nearT
  rw [propext (wantP_congr (c := rK (fR I L c0) j) e)]

set_option maxHeartbeats 1000000 in
theorem pr_all {S : St} (h : Rel S) : C 5 150 yX10_all mX10_all [.ref 0] S (qi (Nx 5 150 yX11_all mX11_all [.ref 83])) := by
  obtain ⟨I, L, d, c, ws, T, F, sw, si, kc, kl, hR⟩ := h
  obtain ⟨⟨hO, hI, hT, hIM⟩, ⟨⟨⟨hL1, hL7⟩, hVs, hd, hU⟩, ⟨hP, hL, h60, h61, h62⟩, hmp⟩, ⟨hc8, ⟨h63, hs⟩, hmn⟩, ⟨hk, hmk⟩, hsr, htd, hrw, htx⟩ := id hR
  have hv := hVs d (Nat.le_refl d)
  have hok := hv.okc hO
  refine cq1 (c_X10_all hI hO hP hL hL7 hv hL1 (roomy hO hok) hsr) (fun r S1 hc => ?_)
  obtain ⟨rfl, e, S3, f3, x3, hS⟩ := hc
  have e1 : ∀ a b, 83 ≤ a → S1.1 a b = S.1 a b := fun a b h => by rw [hS]; exact (fc_set (by omega)).trans (f3.2 a (by unfold FS; omega) b)
  obtain ⟨mI, ⟨m93, m17, m29, m98, m99⟩, ⟨m42, mN⟩, mK, mW, mB⟩ := hR.mod (S' := S1) e1
  refine mq1 (c_X11_all mI hO m93 m17 hL7 hv) (fun r' S2 hm => ?_)
  obtain ⟨rfl, S4, f4, -, hS2⟩ := hm
  refine ⟨rfl, (hR.ask (v := nI (rD (fR I L (codeF I (ws d))) (rC (fR I L (codeF I (ws d))) - 1))) ((x3.sr hL1 hL7 hok).kp (fun a b k => ?_)) (fun a b k k1 k2 => ?_) ?_ ?_ (fun b _ => ?_)).rel⟩
  · rw [hS2, fc_set (by omega), f4.2 a b (by omega) (by omega), hS]; exact fc_set (by omega)
  · unfold Scr at k
    rw [hS2, fc_set k2, f4.2 a b (by omega) (by omega), hS, fc_set k1]; exact f3.2 a (by unfold FS; omega) b
  · rw [hS2, fc_set (by decide), f4.2 1 0 (by decide) (by decide), hS]; exact rdI_eq
  · rw [hS2]; exact rdI_eq
  · have h9 : S2.2 = S.2 := by rw [hS2]; exact f4.1.trans (by rw [hS]; exact f3.1)
    rw [h9]; exact ⟨rfl, rfl⟩

set_option maxHeartbeats 1000000 in
theorem pr_till {S : St} (h : Rel S) {x : Int32} : C 6 180 yX10_till mX10_till [.ref 0, .int x] S (qi (Nx 5 150 yX11_till mX11_till [.ref 83, .int x])) := by
  obtain ⟨I, L, d, c, ws, T, F, sw, si, kc, kl, hR⟩ := h
  obtain ⟨⟨hO, hI, hT, hIM⟩, ⟨⟨⟨hL1, hL7⟩, hVs, hd, hU⟩, ⟨hP, hL, h60, h61, h62⟩, hmp⟩, ⟨hc8, ⟨h63, hs⟩, hmn⟩, ⟨hk, hmk⟩, hsr, htd, hrw, htx⟩ := id hR
  have hv := hVs d (Nat.le_refl d)
  have hok := hv.okc hO
  refine cl2 ((c_X10_till hI hO hP hL hL7 hv hL1 (roomy hO hok) hsr)) ?_ ?_
  · intro q0 r S1 hc
    obtain ⟨rfl, hS⟩ := hc
    have e1 : ∀ a b, 83 ≤ a → S1.1 a b = S.1 a b := by rw [hS]; exact (fun _ _ _ => rfl)
    obtain ⟨mI, ⟨m93, m17, m29, m98, m99⟩, ⟨m42, mN⟩, mK, mW, mB⟩ := hR.mod (S' := S1) e1
    refine md2_0 ((c_X11_till mI hO m93 m17 hL7 hv)) q0 (fun r' S2 hm => ?_)
    obtain ⟨rfl, hS2⟩ := hm
    subst hS2
    subst hS
    first | exact ⟨rfl, hR.rel⟩ | exact ⟨rfl, (hR.lk _).rel⟩
  · intro q0 r S1 hc
    have hc9 := trivial
    have e1 : ∀ a b, 83 ≤ a → S1.1 a b = S.1 a b := (fun a b h => hc.2.1.2 a (by unfold FS; omega) b)
    obtain ⟨mI, ⟨m93, m17, m29, m98, m99⟩, ⟨m42, mN⟩, mK, mW, mB⟩ := hR.mod (S' := S1) e1
    refine md2_1 ((c_X11_till mI hO m93 m17 hL7 hv)) q0 (fun r' S2 hm => ?_)
    obtain ⟨b1, f4⟩ := hm
    obtain ⟨a1, f3, e, x3⟩ := hc
    refine ⟨fst_eq a1 b1, (hR.same ((x3.sr hL1 hL7 hok).kp (fun a b k => f4.2 a b (by omega) (by omega))) (fun a b k => ?_) (fun b _ => ?_)).rel⟩
    · unfold Scr at k
      exact (f4.2 a b (by omega) (by omega)).trans (f3.2 a (by unfold FS; omega) b)
    · rw [f4.1, f3.1]; exact ⟨rfl, rfl⟩

set_option maxHeartbeats 1000000 in
theorem pr_theft {S : St} (h : Rel S) {x y : Int32} : C 6 180 yX10_theft mX10_theft [.ref 0, .int x, .int y] S (qi (Nx 6 180 yX11_theft mX11_theft [.ref 83, .int x, .int y])) := by
  obtain ⟨I, L, d, c, ws, T, F, sw, si, kc, kl, hR⟩ := h
  obtain ⟨⟨hO, hI, hT, hIM⟩, ⟨⟨⟨hL1, hL7⟩, hVs, hd, hU⟩, ⟨hP, hL, h60, h61, h62⟩, hmp⟩, ⟨hc8, ⟨h63, hs⟩, hmn⟩, ⟨hk, hmk⟩, hsr, htd, hrw, htx⟩ := id hR
  have hv := hVs d (Nat.le_refl d)
  have hok := hv.okc hO
  refine cl2 ((c_X10_theft hI hO hP hL hL7 hv (cnt_ok hO) (Classical.choose_spec hsr.1))) ?_ ?_
  · intro q0 r S1 hc
    obtain ⟨rfl, hS⟩ := hc
    have e1 : ∀ a b, 83 ≤ a → S1.1 a b = S.1 a b := by rw [hS]; exact (fun _ _ _ => rfl)
    obtain ⟨mI, ⟨m93, m17, m29, m98, m99⟩, ⟨m42, mN⟩, mK, mW, mB⟩ := hR.mod (S' := S1) e1
    refine md2_0 ((c_X11_theft mI hO m93 m17 hL7 hv)) q0 (fun r' S2 hm => ?_)
    obtain ⟨rfl, hS2⟩ := hm
    subst hS2
    subst hS
    first | exact ⟨rfl, hR.rel⟩ | exact ⟨rfl, (hR.lk _).rel⟩
  · intro q0 r S1 hc
    have hc9 := trivial
    have e1 : ∀ a b, 83 ≤ a → S1.1 a b = S.1 a b := (fun a b h => hc.2.1.2 a (by unfold FT; omega) b)
    obtain ⟨mI, ⟨m93, m17, m29, m98, m99⟩, ⟨m42, mN⟩, mK, mW, mB⟩ := hR.mod (S' := S1) e1
    refine md2_1 ((c_X11_theft mI hO m93 m17 hL7 hv)) q0 (fun r' S2 hm => ?_)
    obtain ⟨b1, f4⟩ := hm
    obtain ⟨a1, f3, ⟨R, hRR⟩, x9⟩ := hc
    refine ⟨fst_eq a1 b1, (hR.same (⟨⟨R, hRR.fr (fun a k1 k2 b => f4.2 a b (by omega) (by omega))⟩, Or.inl ((f4.2 74 9 (by decide) (by decide)).trans x9)⟩) (fun a b k => ?_) (fun b _ => ?_)).rel⟩
    · unfold Scr at k
      exact (f4.2 a b (by omega) (by omega)).trans (f3.2 a (by unfold FT; omega) b)
    · rw [f4.1, f3.1]; exact ⟨rfl, rfl⟩

set_option maxHeartbeats 1000000 in
theorem pr_thefts {S : St} (h : Rel S) {x y : Int32} : C 6 180 yX10_thefts mX10_thefts [.ref 0, .int x, .int y] S (qi (Nx 6 180 yX11_thefts mX11_thefts [.ref 83, .int x, .int y])) := by
  obtain ⟨I, L, d, c, ws, T, F, sw, si, kc, kl, hR⟩ := h
  obtain ⟨⟨hO, hI, hT, hIM⟩, ⟨⟨⟨hL1, hL7⟩, hVs, hd, hU⟩, ⟨hP, hL, h60, h61, h62⟩, hmp⟩, ⟨hc8, ⟨h63, hs⟩, hmn⟩, ⟨hk, hmk⟩, hsr, htd, hrw, htx⟩ := id hR
  have hv := hVs d (Nat.le_refl d)
  have hok := hv.okc hO
  refine cl2 ((c_X10_thefts hI hO hP hL hL7 hv (cnt_ok hO) (Classical.choose_spec hsr.1))) ?_ ?_
  · intro q0 r S1 hc
    obtain ⟨rfl, hS⟩ := hc
    have e1 : ∀ a b, 83 ≤ a → S1.1 a b = S.1 a b := by rw [hS]; exact (fun _ _ _ => rfl)
    obtain ⟨mI, ⟨m93, m17, m29, m98, m99⟩, ⟨m42, mN⟩, mK, mW, mB⟩ := hR.mod (S' := S1) e1
    refine md2_0 ((c_X11_thefts mI hO m93 m17 hL7 hv)) q0 (fun r' S2 hm => ?_)
    obtain ⟨rfl, hS2⟩ := hm
    subst hS2
    subst hS
    first | exact ⟨rfl, hR.rel⟩ | exact ⟨rfl, (hR.lk _).rel⟩
  · intro q0 r S1 hc
    have hc9 := trivial
    have e1 : ∀ a b, 83 ≤ a → S1.1 a b = S.1 a b := (fun a b h => hc.2.1.2 a (by unfold FT; omega) b)
    obtain ⟨mI, ⟨m93, m17, m29, m98, m99⟩, ⟨m42, mN⟩, mK, mW, mB⟩ := hR.mod (S' := S1) e1
    refine md2_1 ((c_X11_thefts mI hO m93 m17 hL7 hv)) q0 (fun r' S2 hm => ?_)
    obtain ⟨b1, f4⟩ := hm
    obtain ⟨a1, f3, ⟨R, hRR⟩, x9⟩ := hc
    refine ⟨b1.trans a1.symm, (hR.same (⟨⟨R, hRR.fr (fun a k1 k2 b => f4.2 a b (by omega) (by omega))⟩, Or.inl ((f4.2 74 9 (by decide) (by decide)).trans x9)⟩) (fun a b k => ?_) (fun b _ => ?_)).rel⟩
    · unfold Scr at k
      exact (f4.2 a b (by omega) (by omega)).trans (f3.2 a (by unfold FT; omega) b)
    · rw [f4.1, f3.1]; exact ⟨rfl, rfl⟩

set_option maxHeartbeats 1000000 in
theorem pr_most {S : St} (h : Rel S) {x : Int32} : C 6 180 yX10_most mX10_most [.ref 0, .int x] S (qi (Nx 6 180 yX11_most mX11_most [.ref 83, .int x])) := by
  obtain ⟨I, L, d, c, ws, T, F, sw, si, kc, kl, hR⟩ := h
  obtain ⟨⟨hO, hI, hT, hIM⟩, ⟨⟨⟨hL1, hL7⟩, hVs, hd, hU⟩, ⟨hP, hL, h60, h61, h62⟩, hmp⟩, ⟨hc8, ⟨h63, hs⟩, hmn⟩, ⟨hk, hmk⟩, hsr, htd, hrw, htx⟩ := id hR
  have hv := hVs d (Nat.le_refl d)
  have hok := hv.okc hO
  refine cl2 ((c_X10_most hI hO hP hL hL7 hv hL1 hT (roomy hO hok) hsr)) ?_ ?_
  · intro q0 r S1 hc
    obtain ⟨rfl, hS⟩ := hc
    have e1 : ∀ a b, 83 ≤ a → S1.1 a b = S.1 a b := by rw [hS]; exact (fun _ _ _ => rfl)
    obtain ⟨mI, ⟨m93, m17, m29, m98, m99⟩, ⟨m42, mN⟩, mK, mW, mB⟩ := hR.mod (S' := S1) e1
    refine md2_0 ((c_X11_most mI hO m93 m17 hL7 hv)) q0 (fun r' S2 hm => ?_)
    obtain ⟨rfl, hS2⟩ := hm
    subst hS2
    subst hS
    first | exact ⟨rfl, hR.rel⟩ | exact ⟨rfl, (hR.lk _).rel⟩
  · intro q0 r S1 hc
    have hc9 := trivial
    have e1 : ∀ a b, 83 ≤ a → S1.1 a b = S.1 a b := (fun a b h => (hc.2.1.2 a (by unfold FDy FS; omega) b).trans (fc_set (by omega)))
    obtain ⟨mI, ⟨m93, m17, m29, m98, m99⟩, ⟨m42, mN⟩, mK, mW, mB⟩ := hR.mod (S' := S1) e1
    refine md2_1 ((c_X11_most mI hO m93 m17 hL7 hv)) q0 (fun r' S2 hm => ?_)
    obtain ⟨b1, S4, f4, hS2⟩ := hm
    obtain ⟨a1, f3, x3⟩ := hc
    refine ⟨b1.trans a1.symm, (hR.ask (v := nI (sm (fun v => iV I v 3) (iW I))) (x3.kp (fun a b k => ?_)) (fun a b k k1 k2 => ?_) ?_ ?_ (fun b _ => ?_)).rel⟩
    · rw [hS2, fc_set (by omega)]; exact f4.2 a (by unfold FYr; omega) b
    · unfold Scr at k
      rw [hS2, fc_set k2, f4.2 a (by unfold FYr; omega) b]; exact (f3.2 a (by unfold FDy FS; omega) b).trans (fc_set k1)
    · rw [hS2, fc_set (by decide), f4.2 1 (by unfold FYr; decide) 0]; exact (f3.2 1 (by unfold FDy FS; decide) 0).trans rdI_eq
    · rw [hS2]; exact rdI_eq
    · have h9 : S2.2 = S.2 := by rw [hS2]; exact f4.1.trans f3.1
      rw [h9]; exact ⟨rfl, rfl⟩

set_option maxHeartbeats 1000000 in
theorem pr_hand {S : St} (h : Rel S) {x : Int32} : C 6 180 yX10_hand mX10_hand [.ref 0, .int x] S (qi (Nx 7 210 yX11_hand mX11_hand [.ref 83, .int x])) := by
  obtain ⟨I, L, d, c, ws, T, F, sw, si, kc, kl, hR⟩ := h
  obtain ⟨⟨hO, hI, hT, hIM⟩, ⟨⟨⟨hL1, hL7⟩, hVs, hd, hU⟩, ⟨hP, hL, h60, h61, h62⟩, hmp⟩, ⟨hc8, ⟨h63, hs⟩, hmn⟩, ⟨hk, hmk⟩, hsr, htd, hrw, htx⟩ := id hR
  have hv := hVs d (Nat.le_refl d)
  have hok := hv.okc hO
  refine cl3 ((c_X10_hand hI hO hP hL hL7 hv hL1 hT (roomy hO hok) hsr (fun h6 => roomy hO ((hv.mono (Nat.le_succ L)).okc hO)))) ?_ ?_ ?_
  · intro q0 r S1 hc
    obtain ⟨rfl, hS⟩ := hc
    have e1 : ∀ a b, 83 ≤ a → S1.1 a b = S.1 a b := by rw [hS]; exact (fun _ _ _ => rfl)
    obtain ⟨mI, ⟨m93, m17, m29, m98, m99⟩, ⟨m42, mN⟩, mK, mW, mB⟩ := hR.mod (S' := S1) e1
    refine md3_0 ((c_X11_hand mI hO m93 m17 hL7 hv)) q0 (fun r' S2 hm => ?_)
    obtain ⟨rfl, hS2⟩ := hm
    subst hS2
    subst hS
    first | exact ⟨rfl, hR.rel⟩ | exact ⟨rfl, (hR.lk _).rel⟩
  · intro q0 q1 r S1 hc
    obtain ⟨rfl, hS⟩ := hc
    have e1 : ∀ a b, 83 ≤ a → S1.1 a b = S.1 a b := by rw [hS]; exact (fun _ _ _ => rfl)
    obtain ⟨mI, ⟨m93, m17, m29, m98, m99⟩, ⟨m42, mN⟩, mK, mW, mB⟩ := hR.mod (S' := S1) e1
    refine md3_1 ((c_X11_hand mI hO m93 m17 hL7 hv)) q0 q1 (fun r' S2 hm => ?_)
    obtain ⟨rfl, hS2⟩ := hm
    subst hS2
    subst hS
    first | exact ⟨rfl, hR.rel⟩ | exact ⟨rfl, (hR.lk _).rel⟩
  · intro q0 q1 r S1 hc
    have hc9 := trivial
    have e1 : ∀ a b, 83 ≤ a → S1.1 a b = S.1 a b := (fun a b h => hc.2.1.2 a (by unfold FDy FS; omega) b)
    obtain ⟨mI, ⟨m93, m17, m29, m98, m99⟩, ⟨m42, mN⟩, mK, mW, mB⟩ := hR.mod (S' := S1) e1
    refine md3_2 ((c_X11_hand mI hO m93 m17 hL7 hv)) q0 q1 (fun r' S2 hm => ?_)
    obtain ⟨b1, f4⟩ := hm
    obtain ⟨a1, f3, x3⟩ := hc
    refine ⟨b1.trans a1.symm, (hR.same (x3.kp (fun a b k => f4.2 a (by unfold FYr; omega) b)) (fun a b k => ?_) (fun b _ => ?_)).rel⟩
    · unfold Scr at k
      exact (f4.2 a (by unfold FYr; omega) b).trans (f3.2 a (by unfold FDy FS; omega) b)
    · rw [f4.1, f3.1]; exact ⟨rfl, rfl⟩

set_option maxHeartbeats 1000000 in
theorem pr_creed {S : St} (h : Rel S) {x y : Int32} : C 6 180 yX10_creed mX10_creed [.ref 0, .int x, .int y] S (qi (Nx 7 210 yX11_creed mX11_creed [.ref 83, .int x, .int y])) := by
  obtain ⟨I, L, d, c, ws, T, F, sw, si, kc, kl, hR⟩ := h
  obtain ⟨⟨hO, hI, hT, hIM⟩, ⟨⟨⟨hL1, hL7⟩, hVs, hd, hU⟩, ⟨hP, hL, h60, h61, h62⟩, hmp⟩, ⟨hc8, ⟨h63, hs⟩, hmn⟩, ⟨hk, hmk⟩, hsr, htd, hrw, htx⟩ := id hR
  have hv := hVs d (Nat.le_refl d)
  have hok := hv.okc hO
  refine cl3 ((c_X10_creed hI hO hP hL hL7 hv hT hsr (fun v h1 h2 h3 => roomy hO ((hv.over h3).okc hO)))) ?_ ?_ ?_
  · intro q0 r S1 hc
    obtain ⟨rfl, hS⟩ := hc
    have e1 : ∀ a b, 83 ≤ a → S1.1 a b = S.1 a b := by rw [hS]; exact (fun _ _ _ => rfl)
    obtain ⟨mI, ⟨m93, m17, m29, m98, m99⟩, ⟨m42, mN⟩, mK, mW, mB⟩ := hR.mod (S' := S1) e1
    refine md3_0 ((c_X11_creed mI hO m93 m17 hL7 hv)) q0 (fun r' S2 hm => ?_)
    obtain ⟨rfl, hS2⟩ := hm
    subst hS2
    subst hS
    first | exact ⟨rfl, hR.rel⟩ | exact ⟨rfl, (hR.lk _).rel⟩
  · intro q0 q1 r S1 hc
    obtain ⟨rfl, hS⟩ := hc
    have e1 : ∀ a b, 83 ≤ a → S1.1 a b = S.1 a b := by rw [hS]; exact (fun _ _ _ => rfl)
    obtain ⟨mI, ⟨m93, m17, m29, m98, m99⟩, ⟨m42, mN⟩, mK, mW, mB⟩ := hR.mod (S' := S1) e1
    refine md3_1 ((c_X11_creed mI hO m93 m17 hL7 hv)) q0 q1 (fun r' S2 hm => ?_)
    obtain ⟨rfl, hS2⟩ := hm
    subst hS2
    subst hS
    first | exact ⟨rfl, hR.rel⟩ | exact ⟨rfl, (hR.lk _).rel⟩
  · intro q0 q1 r S1 hc
    have hc9 := trivial
    have e1 : ∀ a b, 83 ≤ a → S1.1 a b = S.1 a b := (fun a b h => hc.2.1.2 a (by unfold FDy FS; omega) b)
    obtain ⟨mI, ⟨m93, m17, m29, m98, m99⟩, ⟨m42, mN⟩, mK, mW, mB⟩ := hR.mod (S' := S1) e1
    refine md3_2 ((c_X11_creed mI hO m93 m17 hL7 hv)) q0 q1 (fun r' S2 hm => ?_)
    obtain ⟨b1, f4⟩ := hm
    obtain ⟨a1, f3, x3⟩ := hc
    refine ⟨b1.trans a1.symm, (hR.same (x3.kp (fun a b k => f4.2 a (by unfold FYr; omega) b)) (fun a b k => ?_) (fun b _ => ?_)).rel⟩
    · unfold Scr at k
      exact (f4.2 a (by unfold FYr; omega) b).trans (f3.2 a (by unfold FDy FS; omega) b)
    · rw [f4.1, f3.1]; exact ⟨rfl, rfl⟩

set_option maxHeartbeats 1000000 in
theorem pr_drops {S : St} (h : Rel S) {x y : Int32} : C 3 90 yX10_drops mX10_drops [.ref 0, .int x, .int y] S (qi (Nx 4 120 yX11_drops mX11_drops [.ref 83, .int x, .int y])) := by
  obtain ⟨I, L, d, c, ws, T, F, sw, si, kc, kl, hR⟩ := h
  obtain ⟨⟨hO, hI, hT, hIM⟩, ⟨⟨⟨hL1, hL7⟩, hVs, hd, hU⟩, ⟨hP, hL, h60, h61, h62⟩, hmp⟩, ⟨hc8, ⟨h63, hs⟩, hmn⟩, ⟨hk, hmk⟩, hsr, htd, hrw, htx⟩ := id hR
  have hv := hVs d (Nat.le_refl d)
  have hok := hv.okc hO
  refine cl2 (u2 (c_X10_drops hI hO hP hL hL7 hv)) ?_ ?_
  · intro q0 r S1 hc
    obtain ⟨rfl, hS⟩ := hc
    have e1 : ∀ a b, 83 ≤ a → S1.1 a b = S.1 a b := by rw [hS]; exact (fun _ _ _ => rfl)
    obtain ⟨mI, ⟨m93, m17, m29, m98, m99⟩, ⟨m42, mN⟩, mK, mW, mB⟩ := hR.mod (S' := S1) e1
    refine md2_0 ((c_X11_drops mI hO m93 m17 hL7 hv)) q0 (fun r' S2 hm => ?_)
    obtain ⟨rfl, hS2⟩ := hm
    subst hS2
    subst hS
    first | exact ⟨rfl, hR.rel⟩ | exact ⟨rfl, (hR.lk _).rel⟩
  · intro q0 r S1 hc
    obtain ⟨rfl, hS⟩ := hc
    have e1 : ∀ a b, 83 ≤ a → S1.1 a b = S.1 a b := by rw [hS]; exact (fun a b h => fc_set (by omega))
    obtain ⟨mI, ⟨m93, m17, m29, m98, m99⟩, ⟨m42, mN⟩, mK, mW, mB⟩ := hR.mod (S' := S1) e1
    refine md2_1 ((c_X11_drops mI hO m93 m17 hL7 hv)) q0 (fun r' S2 hm => ?_)
    obtain ⟨rfl, S4, f4, hS2⟩ := hm
    refine ⟨rfl, (hR.ask (v := (drP I (ws d) L (tn x) (tn y) (iM I)).2) (hsr.kp (fun a b k => ?_)) (fun a b k k1 k2 => ?_) ?_ ?_ (fun b _ => ?_)).rel⟩
    · rw [hS2, fc_set (by omega), f4.2 a b (by omega) (by omega), hS]; exact fc_set (by omega)
    · unfold Scr at k
      rw [hS2, fc_set k2, f4.2 a b (by omega) (by omega), hS]; exact fc_set k1
    · rw [hS2, fc_set (by decide), f4.2 1 0 (by decide) (by decide), hS]; exact rdI_eq
    · rw [hS2]; exact rdI_eq
    · have h9 : S2.2 = S.2 := by rw [hS2]; exact f4.1.trans (by rw [hS]; rfl)
      rw [h9]; exact ⟨rfl, rfl⟩

set_option maxHeartbeats 1000000 in
theorem pr_pair {S : St} (h : Rel S) : C 2 60 yX10_pair mX10_pair [.ref 0] S (qi (Nx 3 90 yX11_pair mX11_pair [.ref 83])) := by
  obtain ⟨I, L, d, c, ws, T, F, sw, si, kc, kl, hR⟩ := h
  obtain ⟨⟨hO, hI, hT, hIM⟩, ⟨⟨⟨hL1, hL7⟩, hVs, hd, hU⟩, ⟨hP, hL, h60, h61, h62⟩, hmp⟩, ⟨hc8, ⟨h63, hs⟩, hmn⟩, ⟨hk, hmk⟩, hsr, htd, hrw, htx⟩ := id hR
  have hv := hVs d (Nat.le_refl d)
  have hok := hv.okc hO
  refine cl2 (u2 (c_X10_pair hI hO hP)) ?_ ?_
  · intro q0 r S1 hc
    obtain ⟨rfl, hS⟩ := hc
    have e1 : ∀ a b, 83 ≤ a → S1.1 a b = S.1 a b := by rw [hS]; exact (fun _ _ _ => rfl)
    obtain ⟨mI, ⟨m93, m17, m29, m98, m99⟩, ⟨m42, mN⟩, mK, mW, mB⟩ := hR.mod (S' := S1) e1
    refine md2_0 ((c_X11_pair mI hO m93 m17 hL7 hv)) q0 (fun r' S2 hm => ?_)
    obtain ⟨rfl, hS2⟩ := hm
    subst hS2
    subst hS
    first | exact ⟨rfl, hR.rel⟩ | exact ⟨rfl, (hR.lk _).rel⟩
  · intro q0 r S1 hc
    obtain ⟨rfl, hS⟩ := hc
    have e1 : ∀ a b, 83 ≤ a → S1.1 a b = S.1 a b := by rw [hS]; exact (fun a b h => fc_set (by omega))
    obtain ⟨mI, ⟨m93, m17, m29, m98, m99⟩, ⟨m42, mN⟩, mK, mW, mB⟩ := hR.mod (S' := S1) e1
    refine md2_1 ((c_X11_pair mI hO m93 m17 hL7 hv)) q0 (fun r' S2 hm => ?_)
    obtain ⟨rfl, S4, f4, hS2⟩ := hm
    refine ⟨rfl, (hR.ask (v := mxz (pairE I (ws d)).2) (hsr.kp (fun a b k => ?_)) (fun a b k k1 k2 => ?_) ?_ ?_ (fun b _ => ?_)).rel⟩
    · rw [hS2, fc_set (by omega), f4.2 a (by omega) b, hS]; exact fc_set (by omega)
    · unfold Scr at k
      rw [hS2, fc_set k2, f4.2 a (by omega) b, hS]; exact fc_set k1
    · rw [hS2, fc_set (by decide), f4.2 1 (by decide) 0, hS]; exact rdI_eq
    · rw [hS2]; exact rdI_eq
    · have h9 : S2.2 = S.2 := by rw [hS2]; exact f4.1.trans (by rw [hS]; rfl)
      rw [h9]; exact ⟨rfl, rfl⟩

theorem tn_le2 {v : Int32} {n t : Nat} (h : v.toInt = (n : Int)) (ht : t < n) : t < tn v := by unfold tn; omega

set_option maxHeartbeats 1000000 in
theorem pr_fewest {S : St} (h : Rel S) {x : Int32} : C 6 180 yX10_fewest mX10_fewest [.ref 0, .int x] S (qi (Nx 6 180 yX11_fewest mX11_fewest [.ref 83, .int x])) := by
  obtain ⟨I, L, d, c, ws, T, F, sw, si, kc, kl, hR⟩ := h
  obtain ⟨⟨hO, hI, hT, hIM⟩, ⟨⟨⟨hL1, hL7⟩, hVs, hd, hU⟩, ⟨hP, hL, h60, h61, h62⟩, hmp⟩, ⟨hc8, ⟨h63, hs⟩, hmn⟩, ⟨hk, hmk⟩, hsr, htd, hrw, htx⟩ := id hR
  have hv := hVs d (Nat.le_refl d)
  have hok := hv.okc hO
  refine cl5 ((c_X10_fewest hI hO hP hL hL7 hv hL1 (roomy hO hok) hsr hrw.1)) ?_ ?_ ?_ ?_ ?_
  · intro q0 r S1 hc
    obtain ⟨rfl, hS⟩ := hc
    have e1 : ∀ a b, 83 ≤ a → S1.1 a b = S.1 a b := by rw [hS]; exact (fun _ _ _ => rfl)
    obtain ⟨mI, ⟨m93, m17, m29, m98, m99⟩, ⟨m42, mN⟩, mK, mW, mB⟩ := hR.mod (S' := S1) e1
    refine md5_0 ((c_X11_fewest mI hO m93 m17 hL7 hv mW)) q0 (fun r' S2 hm => ?_)
    obtain ⟨rfl, hS2⟩ := hm
    subst hS2
    subst hS
    first | exact ⟨rfl, hR.rel⟩ | exact ⟨rfl, (hR.lk _).rel⟩
  · intro q0 q1 r S1 hc
    obtain ⟨rfl, hS⟩ := hc
    have e1 : ∀ a b, 83 ≤ a → S1.1 a b = S.1 a b := by rw [hS]; exact (fun a b h => fndS_k (by omega) (by omega))
    obtain ⟨mI, ⟨m93, m17, m29, m98, m99⟩, ⟨m42, mN⟩, mK, mW, mB⟩ := hR.mod (S' := S1) e1
    refine md5_1 ((c_X11_fewest mI hO m93 m17 hL7 hv mW)) q0 (by rw [e1 85 _ (by decide), hrw.2.1 _ (by unfold tn; omega)]; exact q1) (fun r' S2 hm => ?_)
    obtain ⟨rfl, hS2⟩ := hm
    subst hS2
    subst hS
    exact ⟨rfl, (hR.lf (by decide)).rel⟩
  · intro q0 q1 q2 r S1 hc
    obtain ⟨rfl, hS⟩ := hc
    have e1 : ∀ a b, 83 ≤ a → S1.1 a b = S.1 a b := by rw [hS]; exact (fun a b h => fndS_k (by omega) (by omega))
    obtain ⟨mI, ⟨m93, m17, m29, m98, m99⟩, ⟨m42, mN⟩, mK, mW, mB⟩ := hR.mod (S' := S1) e1
    refine md5_2 ((c_X11_fewest mI hO m93 m17 hL7 hv mW)) q0 (by rw [e1 85 _ (by decide), hrw.2.1 _ (by unfold tn; omega)]; exact q1) (by rw [e1 85 _ (by decide), hrw.2.1 _ (by unfold tn; omega)]; exact q2) (fun r' S2 hm => ?_)
    obtain ⟨rfl, hS2⟩ := hm
    subst hS2
    subst hS
    exact ⟨rfl, (hR.lf (by decide)).rel⟩
  · intro q0 q1 q2 q3 r S1 hc
    obtain ⟨rfl, hS⟩ := hc
    have e1 : ∀ a b, 83 ≤ a → S1.1 a b = S.1 a b := by rw [hS]; exact (fun a b h => fndS_k (by omega) (by omega))
    obtain ⟨mI, ⟨m93, m17, m29, m98, m99⟩, ⟨m42, mN⟩, mK, mW, mB⟩ := hR.mod (S' := S1) e1
    refine md5_3 ((c_X11_fewest mI hO m93 m17 hL7 hv mW)) q0 (by rw [e1 85 _ (by decide), hrw.2.1 _ (by unfold tn; omega)]; exact q1) (by rw [e1 85 _ (by decide), hrw.2.1 _ (by unfold tn; omega)]; exact q2) (fun k => q3 (fun t ht => by have h9 := k t ht; rw [(e1 86 _ (by decide)).trans (hrw.2.2 _ (by unfold tn; omega) t (tn_le2 (n := iM I) (by omega) ht))] at h9; exact h9)) (fun r' S2 hm => ?_)
    obtain ⟨rfl, hS2⟩ := hm
    subst hS2
    subst hS
    exact ⟨rfl, (hR.lf (by decide)).rel⟩
  · intro q0 q1 q2 q3 r S1 hc
    have hc' := hc
    have hc : ((∃ i, i < rC (fR I L (codeF I (ws d))) ∧ wantP I (fun t => S.1 5 (tn x * 60 + t)) (rK (fR I L (codeF I (ws d))) i) ∧ (∀ j, j < i → ¬ wantP I (fun t => S.1 5 (tn x * 60 + t)) (rK (fR I L (codeF I (ws d))) j)) ∧ r = nI (rD (fR I L (codeF I (ws d))) i) ∧ ∃ S2 e, Fr (fun a => FS a ∨ a = 75) S S2 ∧ SeX I L (codeF I (ws d)) e S2 ∧ S1 = setI S2 1 0 (nI (sm (nearT I L (codeF I (ws d)) i (fun t => S.1 5 (tn x * 60 + t))) (rC (fR I L (codeF I (ws d))))))) ∨ (r = -9 ∧ (∀ j, j < rC (fR I L (codeF I (ws d))) → ¬ wantP I (fun t => S.1 5 (tn x * 60 + t)) (rK (fR I L (codeF I (ws d))) j)) ∧ ∃ e, Fr (fun a => FS a ∨ a = 75) S S1 ∧ SeX I L (codeF I (ws d)) e S1)) ∧ ∀ a b, 83 ≤ a → S1.1 a b = S.1 a b := ⟨hc', fun a b h => by
      rcases hc' with ⟨i, -, -, -, -, S3, e, f3, -, hS⟩ | ⟨-, -, e, f3, -⟩
      · rw [hS]; exact (fc_set (by omega)).trans (f3.2 a (by unfold FS; omega) b)
      · exact f3.2 a (by unfold FS; omega) b⟩
    have e1 : ∀ a b, 83 ≤ a → S1.1 a b = S.1 a b := (fun a b h => hc.2 a b h)
    obtain ⟨mI, ⟨m93, m17, m29, m98, m99⟩, ⟨m42, mN⟩, mK, mW, mB⟩ := hR.mod (S' := S1) e1
    refine md5_4 ((c_X11_fewest mI hO m93 m17 hL7 hv mW)) q0 (by rw [e1 85 _ (by decide), hrw.2.1 _ (by unfold tn; omega)]; exact q1) (by rw [e1 85 _ (by decide), hrw.2.1 _ (by unfold tn; omega)]; exact q2) (fun k => q3 (fun h9 => k (fun t ht => by rw [(e1 86 _ (by decide)).trans (hrw.2.2 _ (by unfold tn; omega) t (tn_le2 (n := iM I) (by omega) ht))]; exact h9 t ht))) (fun r' S2 hm => ?_)
    have e86 : ∀ t, t < iM I → (fun t => S1.1 86 (60 * tn x + t)) t = (fun t => S.1 5 (tn x * 60 + t)) t := fun t ht => (e1 86 _ (by decide)).trans (hrw.2.2 _ (by unfold tn; omega) t (tn_le2 (n := iM I) (by omega) ht))
    obtain ⟨hc, -⟩ := hc
    rcases hc with ⟨i, a1, a2, a3, rfl, S3, e, f3, x3, hS⟩ | ⟨rfl, a2, e, f3, x3⟩
    · rcases hm with ⟨i', b1, b2, b3, rfl, S4, f4, hS2⟩ | ⟨rfl, b2, f4⟩
      · obtain rfl : i = i' := fst_one (P := fun i => wantP I (fun t => S.1 5 (tn x * 60 + t)) (rK (fR I L (codeF I (ws d))) i)) a2 a3 ((wantP_congr e86).mp b2) (fun j hj z => b3 j hj ((wantP_congr e86).mpr z))
        rw [nearT_congr e86] at hS2
        refine ⟨rfl, (hR.ask (v := nI (sm (nearT I L (codeF I (ws d)) i (fun t => S.1 5 (tn x * 60 + t))) (rC (fR I L (codeF I (ws d)))))) ((x3.sr hL1 hL7 hok).kp (fun a b k => ?_)) (fun a b k k1 k2 => ?_) ?_ ?_ (fun b _ => ?_)).rel⟩
        · rw [hS2, fc_set (by omega), f4.2 a b (by omega) (by omega), hS]; exact fc_set (by omega)
        · unfold Scr at k
          rw [hS2, fc_set k2, f4.2 a b (by omega) (by omega), hS, fc_set k1]; exact f3.2 a (by unfold FS; omega) b
        · rw [hS2, fc_set (by decide), f4.2 1 0 (by decide) (by decide), hS]; exact rdI_eq
        · rw [hS2]; exact rdI_eq
        · have h9 : S2.2 = S.2 := by rw [hS2]; exact f4.1.trans (by rw [hS]; exact f3.1)
          rw [h9]; exact ⟨rfl, rfl⟩
      · exact absurd ((wantP_congr e86).mpr a2) (b2 i a1)
    · rcases hm with ⟨i', b1, b2, b3, rfl, S4, f4, hS2⟩ | ⟨rfl, b2, f4⟩
      · exact absurd ((wantP_congr e86).mp b2) (a2 i' b1)
      · refine ⟨rfl, (hR.same ((x3.sr hL1 hL7 hok).kp (fun a b k => f4.2 a b (by omega) (by omega))) (fun a b k => ?_) (fun b _ => ?_)).rel⟩
        · unfold Scr at k
          exact (f4.2 a b (by omega) (by omega)).trans (f3.2 a (by unfold FS; omega) b)
        · rw [f4.1, f3.1]; exact ⟨rfl, rfl⟩

set_option maxHeartbeats 1000000 in
theorem pr_way {S : St} (h : Rel S) {x y : Int32} : C 6 180 yX10_way mX10_way [.ref 0, .int x, .int y] S (qi (Nx 6 180 yX11_way mX11_way [.ref 83, .int x, .int y])) := by
  obtain ⟨I, L, d, c, ws, T, F, sw, si, kc, kl, hR⟩ := h
  obtain ⟨⟨hO, hI, hT, hIM⟩, ⟨⟨⟨hL1, hL7⟩, hVs, hd, hU⟩, ⟨hP, hL, h60, h61, h62⟩, hmp⟩, ⟨hc8, ⟨h63, hs⟩, hmn⟩, ⟨hk, hmk⟩, hsr, htd, hrw, htx⟩ := id hR
  have hv := hVs d (Nat.le_refl d)
  have hok := hv.okc hO
  refine cl5 ((c_X10_way hI hO hP hL hL7 hv hL1 (roomy hO hok) hsr hrw.1 (depth60 hO hok))) ?_ ?_ ?_ ?_ ?_
  · intro q0 r S1 hc
    obtain ⟨rfl, hS⟩ := hc
    have e1 : ∀ a b, 83 ≤ a → S1.1 a b = S.1 a b := by rw [hS]; exact (fun _ _ _ => rfl)
    obtain ⟨mI, ⟨m93, m17, m29, m98, m99⟩, ⟨m42, mN⟩, mK, mW, mB⟩ := hR.mod (S' := S1) e1
    refine md5_0 ((c_X11_way mI hO m93 m17 hL7 hv mW (depth60 hO hok))) q0 (fun r' S2 hm => ?_)
    obtain ⟨rfl, hS2⟩ := hm
    subst hS2
    subst hS
    first | exact ⟨rfl, hR.rel⟩ | exact ⟨rfl, (hR.lk _).rel⟩
  · intro q0 q1 r S1 hc
    obtain ⟨rfl, hS⟩ := hc
    have e1 : ∀ a b, 83 ≤ a → S1.1 a b = S.1 a b := by rw [hS]; exact (fun a b h => fndS_k (by omega) (by omega))
    obtain ⟨mI, ⟨m93, m17, m29, m98, m99⟩, ⟨m42, mN⟩, mK, mW, mB⟩ := hR.mod (S' := S1) e1
    refine md5_1 ((c_X11_way mI hO m93 m17 hL7 hv mW (depth60 hO hok))) q0 (by rw [e1 85 _ (by decide), hrw.2.1 _ (by unfold tn; omega)]; exact q1) (fun r' S2 hm => ?_)
    obtain ⟨rfl, hS2⟩ := hm
    subst hS2
    subst hS
    exact ⟨rfl, (hR.lf (by decide)).rel⟩
  · intro q0 q1 q2 r S1 hc
    obtain ⟨rfl, hS⟩ := hc
    have e1 : ∀ a b, 83 ≤ a → S1.1 a b = S.1 a b := by rw [hS]; exact (fun a b h => fndS_k (by omega) (by omega))
    obtain ⟨mI, ⟨m93, m17, m29, m98, m99⟩, ⟨m42, mN⟩, mK, mW, mB⟩ := hR.mod (S' := S1) e1
    refine md5_2 ((c_X11_way mI hO m93 m17 hL7 hv mW (depth60 hO hok))) q0 (by rw [e1 85 _ (by decide), hrw.2.1 _ (by unfold tn; omega)]; exact q1) (by rw [e1 85 _ (by decide), hrw.2.1 _ (by unfold tn; omega)]; exact q2) (fun r' S2 hm => ?_)
    obtain ⟨rfl, hS2⟩ := hm
    subst hS2
    subst hS
    exact ⟨rfl, (hR.lf (by decide)).rel⟩
  · intro q0 q1 q2 q3 r S1 hc
    obtain ⟨rfl, hS⟩ := hc
    have e1 : ∀ a b, 83 ≤ a → S1.1 a b = S.1 a b := by rw [hS]; exact (fun a b h => fndS_k (by omega) (by omega))
    obtain ⟨mI, ⟨m93, m17, m29, m98, m99⟩, ⟨m42, mN⟩, mK, mW, mB⟩ := hR.mod (S' := S1) e1
    refine md5_3 ((c_X11_way mI hO m93 m17 hL7 hv mW (depth60 hO hok))) q0 (by rw [e1 85 _ (by decide), hrw.2.1 _ (by unfold tn; omega)]; exact q1) (by rw [e1 85 _ (by decide), hrw.2.1 _ (by unfold tn; omega)]; exact q2) (fun k => q3 (fun t ht => by have h9 := k t ht; rw [(e1 86 _ (by decide)).trans (hrw.2.2 _ (by unfold tn; omega) t (tn_le2 (n := iM I) (by omega) ht))] at h9; exact h9)) (fun r' S2 hm => ?_)
    obtain ⟨rfl, hS2⟩ := hm
    subst hS2
    subst hS
    exact ⟨rfl, (hR.lf (by decide)).rel⟩
  · intro q0 q1 q2 q3 r S1 hc
    have hc' := hc
    have hc : ((∃ i, i < rC (fR I L (codeF I (ws d))) ∧ wantP I (fun t => S.1 5 (tn x * 60 + t)) (rK (fR I L (codeF I (ws d))) i) ∧ (∀ j, j < i → ¬ wantP I (fun t => S.1 5 (tn x * 60 + t)) (rK (fR I L (codeF I (ws d))) j)) ∧ r = nI (rD (fR I L (codeF I (ws d))) i) ∧ ∃ S2 e, Fr (fun a => FS a ∨ a = 75) S S2 ∧ SeX I L (codeF I (ws d)) e S2 ∧ S1 = wayX S2 (tn y) (fR I L (codeF I (ws d))) i (rD (fR I L (codeF I (ws d))) i)) ∨ (r = -9 ∧ (∀ j, j < rC (fR I L (codeF I (ws d))) → ¬ wantP I (fun t => S.1 5 (tn x * 60 + t)) (rK (fR I L (codeF I (ws d))) j)) ∧ ∃ e, Fr (fun a => FS a ∨ a = 75) S S1 ∧ SeX I L (codeF I (ws d)) e S1)) ∧ ∀ a b, 83 ≤ a → S1.1 a b = S.1 a b := ⟨hc', fun a b h => by
      rcases hc' with ⟨i, -, -, -, -, S3, e, f3, -, hS⟩ | ⟨-, -, e, f3, -⟩
      · rw [hS]
        unfold wayX
        exact (rwS_k (by omega)).trans ((fc_set (by omega)).trans (f3.2 a (by unfold FS; omega) b))
      · exact f3.2 a (by unfold FS; omega) b⟩
    have e1 : ∀ a b, 83 ≤ a → S1.1 a b = S.1 a b := (fun a b h => hc.2 a b h)
    obtain ⟨mI, ⟨m93, m17, m29, m98, m99⟩, ⟨m42, mN⟩, mK, mW, mB⟩ := hR.mod (S' := S1) e1
    refine md5_4 ((c_X11_way mI hO m93 m17 hL7 hv mW (depth60 hO hok))) q0 (by rw [e1 85 _ (by decide), hrw.2.1 _ (by unfold tn; omega)]; exact q1) (by rw [e1 85 _ (by decide), hrw.2.1 _ (by unfold tn; omega)]; exact q2) (fun k => q3 (fun h9 => k (fun t ht => by rw [(e1 86 _ (by decide)).trans (hrw.2.2 _ (by unfold tn; omega) t (tn_le2 (n := iM I) (by omega) ht))]; exact h9 t ht))) (fun r' S2 hm => ?_)
    have e86 : ∀ t, t < iM I → (fun t => S1.1 86 (60 * tn x + t)) t = (fun t => S.1 5 (tn x * 60 + t)) t := fun t ht => (e1 86 _ (by decide)).trans (hrw.2.2 _ (by unfold tn; omega) t (tn_le2 (n := iM I) (by omega) ht))
    obtain ⟨hc, -⟩ := hc
    rcases hc with ⟨i, a1, a2, a3, rfl, S3, e, f3, x3, hS⟩ | ⟨rfl, a2, e, f3, x3⟩
    · rcases hm with ⟨i', b1, b2, b3, rfl, w1, w2, w3, w4, w5, w6⟩ | ⟨rfl, b2, f4⟩
      · obtain rfl : i = i' := fst_one (P := fun i => wantP I (fun t => S.1 5 (tn x * 60 + t)) (rK (fR I L (codeF I (ws d))) i)) a2 a3 ((wantP_congr e86).mp b2) (fun j hj z => b3 j hj ((wantP_congr e86).mpr z))
        refine ⟨rfl, ?_⟩
        have hn60 := depth60 hO hok i a1
        have hb6 : tn y < 6 := by unfold tn; omega
        generalize rD (fR I L (codeF I (ws d))) i = n at w2 w4 hS hn60
        generalize tn y = b at w2 w3 w4 w5 hS hb6
        have eS : ∀ c j, ¬ (c = 4 ∧ j = b) → ¬ (c = 5 ∧ b * 60 ≤ j ∧ j < b * 60 + n) → S1.1 c j = S3.1 c j := fun c j k1 k2 => by rw [hS]; exact (if_neg k2).trans (fc_set k1)
        have s4 : S1.1 4 b = nI n := by rw [hS]; exact (rwS_k (by decide)).trans rdI_eq
        have e2 : ∀ c j, c < 83 → S2.1 c j = S1.1 c j := fun c j h => w6 c j (by omega) (by omega)
        have k3 : ∀ c j, (c = 3 ∨ c = 4 ∨ c = 5) → S3.1 c j = S.1 c j := fun c j k => f3.2 c (by unfold FS; omega) j
        refine hR.rws (fun c j k k1 k2 _ _ => ?_) ((x3.sr hL1 hL7 hok).kp (fun c j k => (e2 c j (by omega)).trans (eS c j (by omega) (by omega)))) ?_ (w1.trans (by rw [hS]; exact f3.1)) (hrw.upd hb6 (sz := nI n) (Or.inr ⟨n, hn60, rfl⟩) ((e2 3 0 (by decide)).trans ((eS 3 0 (by omega) (by omega)).trans (k3 3 0 (by omega)))) ((e2 4 b (by decide)).trans s4) w2 (fun r hr => ⟨(e2 4 r (by decide)).trans ((eS 4 r (by omega) (by omega)).trans (k3 4 r (by omega))), (w3 r hr).trans (e1 85 r (by decide))⟩) (fun j hj => ⟨(e2 5 j (by decide)).trans ((eS 5 j (by omega) (by omega)).trans (k3 5 j (by omega))), (w5 j hj).trans (e1 86 j (by decide))⟩) (fun k hk => ?_))
        · unfold Scr at k
          by_cases q : 83 ≤ c
          · exact (w6 c j (by omega) (by omega)).trans (e1 c j q)
          · exact (e2 c j (by omega)).trans ((eS c j (by omega) (by omega)).trans (f3.2 c (by unfold FS; omega) j))
        · rw [w6 83 2 (by decide) (by decide), e1 83 2 (by decide), e2 1 0 (by decide), eS 1 0 (by omega) (by omega), f3.2 1 (by unfold FS; decide) 0]; exact htd.1
        · rw [tnN (by omega)] at hk
          rw [w4 k hk, e2 5 _ (by decide), hS]
          exact (rwS_at hk).symm
      · exact absurd ((wantP_congr e86).mpr a2) (b2 i a1)
    · rcases hm with ⟨i', b1, b2, b3, rfl, w1⟩ | ⟨rfl, b2, f4⟩
      · exact absurd ((wantP_congr e86).mp b2) (a2 i' b1)
      · refine ⟨rfl, (hR.same ((x3.sr hL1 hL7 hok).kp (fun a b k => f4.2 a b (by omega) (by omega))) (fun a b k => ?_) (fun b _ => ?_)).rel⟩
        · unfold Scr at k
          exact (f4.2 a b (by omega) (by omega)).trans (f3.2 a (by unfold FS; omega) b)
        · rw [f4.1, f3.1]; exact ⟨rfl, rfl⟩

theorem fl_congr {f g : Nat → Int64} {h : Int64} : ∀ {n : Nat}, (∀ i, i < n → f i = g i) → fl f h n = fl g h n
  | 0, _ => rfl
  | n + 1, e => by
    show 31 * fl f h n + f n = 31 * fl g h n + g n
    rw [fl_congr (fun i hi => e i (Nat.lt_succ_of_lt hi)), e n (Nat.lt_succ_self n)]
theorem mix_eq {S S1 : St} {k zc cc ρ : Nat} {h : Int64} : ∀ n, (∀ r, r < n → S1.1 zc r = S.1 (k + 1) r) → (∀ r, r < n → ∀ i, i < tn (S.1 (k + 1) r) → S1.1 cc (ρ * r + i) = S.1 (k + 2) (r * ρ + i)) → mixB S1 zc cc ρ h n = mixA S k ρ h n
  | 0, _, _ => rfl
  | n + 1, h1, h2 => by
    have ih := mix_eq (S := S) (S1 := S1) (k := k) (zc := zc) (cc := cc) (ρ := ρ) (h := h) n (fun r hr => h1 r (Nat.lt_succ_of_lt hr)) (fun r hr => h2 r (Nat.lt_succ_of_lt hr))
    show fl (fun i => (S1.1 cc (ρ * n + i)).toInt64) (31 * mixB S1 zc cc ρ h n + (S1.1 zc n).toInt64) (tn (S1.1 zc n)) = fl (fun i => (S.1 (k + 2) (n * ρ + i)).toInt64) (31 * mixA S k ρ h n + (S.1 (k + 1) n).toInt64) (tn (S.1 (k + 1) n))
    rw [ih, h1 n (Nat.lt_succ_self n)]
    exact fl_congr (fun i hi => by rw [h2 n (Nat.lt_succ_self n) i hi])

set_option maxHeartbeats 1000000 in
theorem pr_digest {S : St} (h : Rel S) : C 4 120 yX10_digest mX10_digest [.ref 0] S (ql (Ny 3 90 yX11_digest mX11_digest [.ref 83])) := by
  obtain ⟨I, L, d, c, ws, T, F, sw, si, kc, kl, hR⟩ := h
  obtain ⟨⟨hO, hI, hT, hIM⟩, ⟨⟨⟨hL1, hL7⟩, hVs, hd, hU⟩, ⟨hP, hL, h60, h61, h62⟩, hmp⟩, ⟨hc8, ⟨h63, hs⟩, hmn⟩, ⟨hk, hmk⟩, hsr, htd, hrw, htx⟩ := id hR
  have hv := hVs d (Nat.le_refl d)
  have hok := hv.okc hO
  refine (c_X10_digest hI hO hP hL hL7 hv hc8 hs h63 hk hrw.1 htx.1).mono (fun v S1 hc => ?_)
  obtain ⟨r, rfl, hr, f3⟩ := hc
  refine ⟨r, rfl, ?_⟩
  have e1 : ∀ a b, 83 ≤ a → S1.1 a b = S.1 a b := fun a b h => f3.2 a (by omega) b
  obtain ⟨mI, ⟨m93, m17, m29, m98, m99⟩, ⟨m42, mN⟩, mK, mW, mB⟩ := hR.mod (S' := S1) e1
  refine (c_X11_digest mI hO m93 m17 hL7 hv hc8 mN m42 mK mW).mono (fun v2 S2 hm => ?_)
  obtain ⟨r', rfl, hr', f4⟩ := hm
  refine ⟨r', rfl, ?_, (hR.same (hsr.kp (fun a b k => (f4.2 a b (by omega)).trans (f3.2 a (by omega) b))) (fun a b k => ?_) (fun b hb => ?_)).rel⟩
  · rw [hr, hr']
    rw [mix_eq (S := S) (S1 := S1) (k := 3) (zc := 85) (cc := 86) (ρ := 60) 6 (fun r hr => (e1 85 r (by decide)).trans (hrw.2.1 r hr)) (fun r hr i hi => (e1 86 _ (by decide)).trans (hrw.2.2 r hr i hi)),
      mix_eq (S := S) (S1 := S1) (k := 6) (zc := 88) (cc := 89) (ρ := 100) 4 (fun r hr => (e1 88 r (by decide)).trans (htx.2.1 r hr)) (fun r hr i hi => (e1 89 _ (by decide)).trans (htx.2.2.1 r hr i hi))]
    rw [m29, m42, h60, h63, sm_congr (f := fun r => if (S1.1 85 r).toInt < 0 then 0 else 1) (g := fun r => if (S.1 4 r).toInt < 0 then 0 else 1) (fun r hr => by rw [e1 85 r (by decide), hrw.2.1 r hr]), sm_congr (f := fun r => if (S1.1 88 r).toInt < 0 then 0 else 1) (g := fun r => if (S.1 7 r).toInt < 0 then 0 else 1) (fun r hr => by rw [e1 88 r (by decide), htx.2.1 r hr])]
  · unfold Scr at k
    exact (f4.2 a b (by omega)).trans (f3.2 a (by omega) b)
  · rw [f4.1 1 b (by omega), f4.1 83 b (by omega), f3.1]; exact ⟨rfl, rfl⟩
