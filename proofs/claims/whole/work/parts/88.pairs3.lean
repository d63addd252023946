/-! ===== pairs of calls: more of rows and texts, islands ===== -/
set_option maxHeartbeats 1000000 in
theorem pr_tear {S : St} (h : Rel S) {x : Int32} : C 3 90 yX10_tear mX10_tear [.ref 0, .int x] S (qi (Nx 2 60 yX11_tear mX11_tear [.ref 83, .int x])) := by
  obtain ⟨I, L, d, c, ws, T, F, sw, si, kc, kl, hR⟩ := h
  obtain ⟨⟨hO, hI, hT, hIM⟩, ⟨⟨⟨hL1, hL7⟩, hVs, hd, hU⟩, ⟨hP, hL, h60, h61, h62⟩, hmp⟩, ⟨hc8, ⟨h63, hs⟩, hmn⟩, ⟨hk, hmk⟩, hsr, htd, hrw, htx⟩ := id hR
  have hv := hVs d (Nat.le_refl d)
  have hok := hv.okc hO
  have e1 : ∀ a b, 83 ≤ a → (tearX S x).1 a b = S.1 a b := fun a b hab => by
    unfold tearX
    by_cases q0 : ¬ (0 ≤ x.toInt ∧ x.toInt < 6)
    · rw [if_pos q0]
    · rw [if_neg q0]
      by_cases q1 : (S.1 4 (tn x)).toInt < 0
      · rw [if_pos q1]; exact fndS_k (by omega) (by omega)
      · rw [if_neg q1]; exact fc_set (by omega)
  refine cl1 (c_X10_tear hrw.1) ?_
  refine md1 c_X11_tear ?_
  by_cases q0 : ¬ (0 ≤ x.toInt ∧ x.toInt < 6)
  · unfold tearA tearX tearM
    rw [if_pos q0, if_pos q0, if_pos q0, if_pos q0]; exact ⟨rfl, hR.rel⟩
  · have hz : (tearX S x).1 85 (tn x) = S.1 4 (tn x) := (e1 85 _ (by decide)).trans (hrw.2.1 _ (by unfold tn; omega))
    rw [hz]
    refine ⟨rfl, ?_⟩
    by_cases q1 : (S.1 4 (tn x)).toInt < 0
    · have hX : tearX S x = fndS S 1 := by unfold tearX; rw [if_neg q0, if_pos q1]
      have hM : tearM (tearX S x) x = fndM (tearX S x) 1 := by unfold tearM; rw [if_neg q0, hz, if_pos q1]
      rw [hM, hX]; exact (hR.lf (by decide)).rel
    · have hX : tearX S x = setI S 4 (tn x) (-1) := by unfold tearX; rw [if_neg q0, if_neg q1]
      have hM : tearM (tearX S x) x = setI (tearX S x) 85 (tn x) (-1) := by unfold tearM; rw [if_neg q0, hz, if_neg q1]
      rw [hM, hX]
      clear hX hM hz e1
      obtain ⟨a, ha, rfl⟩ := nI_ex (x := x) (n := 6) (by omega) (by omega)
      rw [tnN (show a < 2147483648 by omega)]
      have e : ∀ c j, ¬ (c = 4 ∧ j = a) → ¬ (c = 85 ∧ j = a) → (setI (setI S 4 a (-1)) 85 a (-1)).1 c j = S.1 c j := fun c j k1 k2 => (fc_set k2).trans (fc_set k1)
      refine hR.rws (fun c j _ k1 k2 _ _ => e c j (by omega) (by omega)) (hsr.kp (fun c j k => e c j (by omega) (by omega))) (by rw [e 83 2 (by omega) (by omega), e 1 0 (by omega) (by omega)]; exact htd.1) rfl (hrw.upd ha (sz := -1) (Or.inl rfl) (e 3 0 (by omega) (by omega)) ((rdI_k (by decide)).trans rdI_eq) rdI_eq (fun r hr => ⟨e 4 r (by omega) (by omega), e 85 r (by omega) (by omega)⟩) (fun j hj => ⟨e 5 j (by omega) (by omega), e 86 j (by omega) (by omega)⟩) (fun i hi => ?_))
      rw [show tn (-1) = 0 from by decide] at hi
      exact absurd hi (Nat.not_lt_zero i)

theorem nar_b (v : Int32) : vp_nar .byte v.toInt8.toInt32 = v.toInt8.toInt32 := by
  show v.toInt8.toInt32.toInt8.toInt32 = v.toInt8.toInt32
  rw [Int8.toInt8_toInt32]
theorem b_rng (v : Int32) : -128 ≤ v.toInt8.toInt32.toInt ∧ v.toInt8.toInt32.toInt ≤ 127 := by
  rw [Int8.toInt_toInt32]
  have h1 := v.toInt8.le_toInt
  have h2 := v.toInt8.toInt_lt
  omega

set_option maxHeartbeats 1000000 in
theorem pr_put {S : St} (h : Rel S) {x y v : Int32} : C 3 90 yX10_put mX10_put [.ref 0, .int x, .int y, .int v] S (qi (Nx 2 60 yX11_put mX11_put [.ref 83, .int x, .int y, .int v])) := by
  obtain ⟨I, L, d, c, ws, T, F, sw, si, kc, kl, hR⟩ := h
  obtain ⟨⟨hO, hI, hT, hIM⟩, ⟨⟨⟨hL1, hL7⟩, hVs, hd, hU⟩, ⟨hP, hL, h60, h61, h62⟩, hmp⟩, ⟨hc8, ⟨h63, hs⟩, hmn⟩, ⟨hk, hmk⟩, hsr, htd, hrw, htx⟩ := id hR
  have hv := hVs d (Nat.le_refl d)
  have hok := hv.okc hO
  have e1 : ∀ a b, 83 ≤ a → (putX S x y v).1 a b = S.1 a b := fun a b hab => by
    unfold putX
    by_cases q0 : ¬ (0 ≤ x.toInt ∧ x.toInt < 4)
    · rw [if_pos q0]
    · rw [if_neg q0]
      by_cases q1 : (S.1 7 (tn x)).toInt < 0
      · rw [if_pos q1]; exact fndS_k (by omega) (by omega)
      · rw [if_neg q1]
        by_cases q2 : ¬ (0 ≤ y.toInt ∧ y.toInt < (S.1 7 (tn x)).toInt)
        · rw [if_pos q2]; exact fndS_k (by omega) (by omega)
        · rw [if_neg q2]; exact fc_set (by omega)
  refine cl1 (c_X10_put htx.1) ?_
  obtain ⟨mI, ⟨m93, m17, m29, m98, m99⟩, ⟨m42, mN⟩, mK, mW, mB⟩ := hR.mod e1
  refine md1 (c_X11_put mW) ?_
  by_cases q0 : ¬ (0 ≤ x.toInt ∧ x.toInt < 4)
  · unfold layA putX putM
    rw [if_pos q0, if_pos q0, if_pos q0, if_pos q0]; exact ⟨rfl, hR.rel⟩
  · have hz : (putX S x y v).1 88 (tn x) = S.1 7 (tn x) := (e1 88 _ (by decide)).trans (htx.2.1 _ (by unfold tn; omega))
    have hb := e1 89 (100 * tn x + tn y) (by decide)
    rw [hz, hb]
    by_cases q1 : (S.1 7 (tn x)).toInt < 0
    · have hX : putX S x y v = fndS S 1 := by unfold putX; rw [if_neg q0, if_pos q1]
      have hM : putM (putX S x y v) x y v = fndM (putX S x y v) 1 := by unfold putM; rw [if_neg q0, hz, if_pos q1]
      rw [hM, hX]
      unfold layA
      rw [if_neg q0, if_neg q0, if_pos q1, if_pos q1]
      exact ⟨rfl, (hR.lf (by decide)).rel⟩
    · by_cases q2 : ¬ (0 ≤ y.toInt ∧ y.toInt < (S.1 7 (tn x)).toInt)
      · have hX : putX S x y v = fndS S 2 := by unfold putX; rw [if_neg q0, if_neg q1, if_pos q2]
        have hM : putM (putX S x y v) x y v = fndM (putX S x y v) 2 := by unfold putM; rw [if_neg q0, hz, if_neg q1, if_pos q2]
        rw [hM, hX]
        unfold layA
        rw [if_neg q0, if_neg q0, if_neg q1, if_neg q1, if_pos q2, if_pos q2]
        exact ⟨rfl, (hR.lf (by decide)).rel⟩
      · have hX : putX S x y v = setI S 8 (tn x * 100 + tn y) v.toInt8.toInt32 := by unfold putX; rw [if_neg q0, if_neg q1, if_neg q2]
        have hM : putM (putX S x y v) x y v = setI (putX S x y v) 89 (100 * tn x + tn y) (vp_nar .byte v.toInt8.toInt32) := by unfold putM; rw [if_neg q0, hz, if_neg q1, if_neg q2]
        rw [hM, hX, nar_b]
        unfold layA
        rw [if_neg q0, if_neg q0, if_neg q1, if_neg q1, if_neg q2, if_neg q2]
        clear hX hM hz hb e1 mI m93 m17 m29 m98 m99 m42 mN mK mW mB
        obtain ⟨a, ha, rfl⟩ := nI_ex (x := x) (n := 4) (by omega) (by omega)
        rw [tnN (show a < 2147483648 by omega)] at q1 q2 ⊢
        obtain ⟨z, hz, ez2⟩ := htx.1.nn ha q1
        have ez3 : S.1 7 a = nI z := ez2
        rw [ez3, tiN (show z < 2147483648 by omega)] at q2
        obtain ⟨i, hi, rfl⟩ := nI_ex (x := y) (n := z) (by omega) (by omega)
        rw [tnN (show i < 2147483648 by omega)]
        have hc := htx.2.2.1 a ha i (by rw [ez3, tnN (by omega)]; exact hi)
        refine ⟨by rw [hc, Int32.add_comm], ?_⟩
        have e : ∀ c j, ¬ (c = 8 ∧ j = a * 100 + i) → ¬ (c = 89 ∧ j = 100 * a + i) → (setI (setI S 8 (a * 100 + i) v.toInt8.toInt32) 89 (100 * a + i) v.toInt8.toInt32).1 c j = S.1 c j := fun c j k1 k2 => (fc_set k2).trans (fc_set k1)
        refine hR.txs (fun c j _ k1 k2 => e c j (by omega) (by omega)) (hsr.kp (fun c j k => e c j (by omega) (by omega))) rfl (htx.upd ha (sz := nI z) (Or.inr ⟨z, hz, rfl⟩) (e 6 0 (by omega) (by omega)) ((e 7 a (by omega) (by omega)).trans ez3) ((e 88 a (by omega) (by omega)).trans ((htx.2.1 a ha).trans ez3)) (fun r hr => ⟨e 7 r (by omega) (by omega), e 88 r (by omega) (by omega)⟩) (fun j hj => ⟨e 8 j (by omega) (by omega), e 89 j (by omega) (by omega)⟩) (fun i' hi' => ?_) (fun j hj j1 j2 => ⟨?_, ?_⟩))
        · rw [tnN (by omega)] at hi'
          by_cases k : i' = i
          · rw [k]
            exact rdI_eq.trans ((rdI_k (by decide)).trans rdI_eq).symm
          · rw [e 89 _ (by omega) (by omega), e 8 _ (by omega) (by omega)]
            exact htx.2.2.1 a ha i' (by rw [ez3, tnN (by omega)]; exact hi')
        · by_cases k : j = a * 100 + i
          · rw [k, rdI_k (by decide), rdI_eq]; exact b_rng v
          · rw [e 8 j (by omega) (by omega)]; exact htx.2.2.2.1 j hj
        · by_cases k : j = 100 * a + i
          · rw [k, rdI_eq]; exact b_rng v
          · rw [e 89 j (by omega) (by omega)]; exact htx.2.2.2.2 j hj

theorem sl_congr {f g : Nat → Int64} : ∀ {n : Nat}, (∀ i, i < n → f i = g i) → sl f n = sl g n
  | 0, _ => rfl
  | n + 1, h => by
    show sl f n + f n = sl g n + g n
    rw [sl_congr (fun i hi => h i (Nat.lt_succ_of_lt hi)), h n (Nat.lt_succ_self n)]

set_option maxHeartbeats 1000000 in
theorem pr_mean {S : St} (h : Rel S) {x : Int32} : C 3 90 yX10_mean mX10_mean [.ref 0, .int x] S (qi (Nx 2 60 yX11_mean mX11_mean [.ref 83, .int x])) := by
  obtain ⟨I, L, d, c, ws, T, F, sw, si, kc, kl, hR⟩ := h
  obtain ⟨⟨hO, hI, hT, hIM⟩, ⟨⟨⟨hL1, hL7⟩, hVs, hd, hU⟩, ⟨hP, hL, h60, h61, h62⟩, hmp⟩, ⟨hc8, ⟨h63, hs⟩, hmn⟩, ⟨hk, hmk⟩, hsr, htd, hrw, htx⟩ := id hR
  have hv := hVs d (Nat.le_refl d)
  have hok := hv.okc hO
  refine cl4 (u4 (c_X10_mean hrw.1)) ?_ ?_ ?_ ?_
  · intro q0 r S1 hc
    obtain ⟨rfl, hS⟩ := hc
    have e1 : ∀ a b, 83 ≤ a → S1.1 a b = S.1 a b := by rw [hS]; exact (fun _ _ _ => rfl)
    obtain ⟨mI, ⟨m93, m17, m29, m98, m99⟩, ⟨m42, mN⟩, mK, mW, mB⟩ := hR.mod (S' := S1) e1
    refine md4_0 (u4 (c_X11_mean mW)) q0 (fun r' S2 hm => ?_)
    obtain ⟨rfl, hS2⟩ := hm
    subst hS2
    subst hS
    first | exact ⟨rfl, hR.rel⟩ | exact ⟨rfl, (hR.lk _).rel⟩
  · intro q0 q1 r S1 hc
    obtain ⟨rfl, hS⟩ := hc
    have e1 : ∀ a b, 83 ≤ a → S1.1 a b = S.1 a b := by rw [hS]; exact (fun a b h => fndS_k (by omega) (by omega))
    obtain ⟨mI, ⟨m93, m17, m29, m98, m99⟩, ⟨m42, mN⟩, mK, mW, mB⟩ := hR.mod (S' := S1) e1
    refine md4_1 (u4 (c_X11_mean mW)) q0 (by rw [e1 85 _ (by decide), hrw.2.1 _ (by unfold tn; omega)]; exact q1) (fun r' S2 hm => ?_)
    obtain ⟨rfl, hS2⟩ := hm
    subst hS2
    subst hS
    exact ⟨rfl, (hR.lf (by decide)).rel⟩
  · intro q0 q1 q2 r S1 hc
    obtain ⟨rfl, hS⟩ := hc
    have e1 : ∀ a b, 83 ≤ a → S1.1 a b = S.1 a b := by rw [hS]; exact (fun a b h => fndS_k (by omega) (by omega))
    obtain ⟨mI, ⟨m93, m17, m29, m98, m99⟩, ⟨m42, mN⟩, mK, mW, mB⟩ := hR.mod (S' := S1) e1
    refine md4_2 (u4 (c_X11_mean mW)) q0 (by rw [e1 85 _ (by decide), hrw.2.1 _ (by unfold tn; omega)]; exact q1) (by rw [e1 85 _ (by decide), hrw.2.1 _ (by unfold tn; omega)]; exact q2) (fun r' S2 hm => ?_)
    obtain ⟨rfl, hS2⟩ := hm
    subst hS2
    subst hS
    exact ⟨rfl, (hR.lf (by decide)).rel⟩
  · intro q0 q1 q2 r S1 hc
    obtain ⟨rfl, hS⟩ := hc
    have e1 : ∀ a b, 83 ≤ a → S1.1 a b = S.1 a b := by rw [hS]; exact (fun a b h => fc_set (by omega))
    obtain ⟨mI, ⟨m93, m17, m29, m98, m99⟩, ⟨m42, mN⟩, mK, mW, mB⟩ := hR.mod (S' := S1) e1
    refine md4_3 (u4 (c_X11_mean mW)) q0 (by rw [e1 85 _ (by decide), hrw.2.1 _ (by unfold tn; omega)]; exact q1) (by rw [e1 85 _ (by decide), hrw.2.1 _ (by unfold tn; omega)]; exact q2) (fun r' S2 hm => ?_)
    obtain ⟨rfl, hS2⟩ := hm
    have e85 : S1.1 85 (tn x) = S.1 4 (tn x) := (e1 85 _ (by decide)).trans (hrw.2.1 _ (by unfold tn; omega))
    have esl : sl (fun i => (S1.1 86 (60 * tn x + i)).toInt64) (tn (S1.1 85 (tn x))) = sl (fun i => (S.1 5 (tn x * 60 + i)).toInt64) (tn (S.1 4 (tn x))) := by
      rw [e85]
      exact sl_congr (fun i hi => by rw [e1 86 _ (by decide), hrw.2.2 _ (by unfold tn; omega) i hi])
    rw [esl, e85] at hS2
    subst hS2
    subst hS
    exact ⟨rfl, hR.la.rel⟩

set_option maxHeartbeats 1000000 in
theorem pr_copy {S : St} (h : Rel S) {x y z u v : Int32} : C 3 90 yX10_copy mX10_copy [.ref 0, .int x, .int y, .int z, .int u, .int v] S (qi (Nx 2 60 yX11_copy mX11_copy [.ref 83, .int x, .int y, .int z, .int u, .int v])) := by
  obtain ⟨I, L, d, c, ws, T, F, sw, si, kc, kl, hR⟩ := h
  obtain ⟨⟨hO, hI, hT, hIM⟩, ⟨⟨⟨hL1, hL7⟩, hVs, hd, hU⟩, ⟨hP, hL, h60, h61, h62⟩, hmp⟩, ⟨hc8, ⟨h63, hs⟩, hmn⟩, ⟨hk, hmk⟩, hsr, htd, hrw, htx⟩ := id hR
  have hv := hVs d (Nat.le_refl d)
  have hok := hv.okc hO
  refine cl5 (u5 (c_X10_copy hrw.1)) ?_ ?_ ?_ ?_ ?_
  · intro q0 r S1 hc
    obtain ⟨rfl, hS⟩ := hc
    have e1 : ∀ a b, 83 ≤ a → S1.1 a b = S.1 a b := by rw [hS]; exact (fun _ _ _ => rfl)
    obtain ⟨mI, ⟨m93, m17, m29, m98, m99⟩, ⟨m42, mN⟩, mK, mW, mB⟩ := hR.mod (S' := S1) e1
    refine md5_0 (u5 (c_X11_copy mW)) q0 (fun r' S2 hm => ?_)
    obtain ⟨rfl, hS2⟩ := hm
    subst hS2
    subst hS
    first | exact ⟨rfl, hR.rel⟩ | exact ⟨rfl, (hR.lk _).rel⟩
  · intro q0 q1 r S1 hc
    obtain ⟨rfl, hS⟩ := hc
    have e1 : ∀ a b, 83 ≤ a → S1.1 a b = S.1 a b := by rw [hS]; exact (fun a b h => fndS_k (by omega) (by omega))
    obtain ⟨mI, ⟨m93, m17, m29, m98, m99⟩, ⟨m42, mN⟩, mK, mW, mB⟩ := hR.mod (S' := S1) e1
    refine md5_1 (u5 (c_X11_copy mW)) q0 q1 (fun r' S2 hm => ?_)
    obtain ⟨rfl, hS2⟩ := hm
    subst hS2
    subst hS
    exact ⟨rfl, (hR.lf (by decide)).rel⟩
  · intro q0 q1 q2 r S1 hc
    obtain ⟨rfl, hS⟩ := hc
    have e1 : ∀ a b, 83 ≤ a → S1.1 a b = S.1 a b := by rw [hS]; exact (fun a b h => fndS_k (by omega) (by omega))
    obtain ⟨mI, ⟨m93, m17, m29, m98, m99⟩, ⟨m42, mN⟩, mK, mW, mB⟩ := hR.mod (S' := S1) e1
    refine md5_2 (u5 (c_X11_copy mW)) q0 q1 (by rw [e1 85 _ (by decide), e1 85 _ (by decide), hrw.2.1 _ (by unfold tn; omega), hrw.2.1 _ (by unfold tn; omega)]; exact q2) (fun r' S2 hm => ?_)
    obtain ⟨rfl, hS2⟩ := hm
    subst hS2
    subst hS
    exact ⟨rfl, (hR.lf (by decide)).rel⟩
  · intro q0 q1 q2 q3 r S1 hc
    obtain ⟨rfl, hS⟩ := hc
    have e1 : ∀ a b, 83 ≤ a → S1.1 a b = S.1 a b := by rw [hS]; exact (fun a b h => fndS_k (by omega) (by omega))
    obtain ⟨mI, ⟨m93, m17, m29, m98, m99⟩, ⟨m42, mN⟩, mK, mW, mB⟩ := hR.mod (S' := S1) e1
    refine md5_3 (u5 (c_X11_copy mW)) q0 q1 (by rw [e1 85 _ (by decide), e1 85 _ (by decide), hrw.2.1 _ (by unfold tn; omega), hrw.2.1 _ (by unfold tn; omega)]; exact q2) (by rw [e1 85 _ (by decide), e1 85 _ (by decide), hrw.2.1 _ (by unfold tn; omega), hrw.2.1 _ (by unfold tn; omega)]; exact q3) (fun r' S2 hm => ?_)
    obtain ⟨rfl, hS2⟩ := hm
    subst hS2
    subst hS
    exact ⟨rfl, (hR.lf (by decide)).rel⟩
  · intro q0 q1 q2 q3 r S1 hc
    obtain ⟨rfl, hS⟩ := hc
    have e1 : ∀ a b, 83 ≤ a → S1.1 a b = S.1 a b := by rw [hS]; exact (fun a b h => if_neg (by omega))
    obtain ⟨mI, ⟨m93, m17, m29, m98, m99⟩, ⟨m42, mN⟩, mK, mW, mB⟩ := hR.mod (S' := S1) e1
    refine md5_4 (u5 (c_X11_copy mW)) q0 q1 (by rw [e1 85 _ (by decide), e1 85 _ (by decide), hrw.2.1 _ (by unfold tn; omega), hrw.2.1 _ (by unfold tn; omega)]; exact q2) (by rw [e1 85 _ (by decide), e1 85 _ (by decide), hrw.2.1 _ (by unfold tn; omega), hrw.2.1 _ (by unfold tn; omega)]; exact q3) (fun r' S2 hm => ?_)
    obtain ⟨rfl, hS2⟩ := hm
    subst hS2
    subst hS
    refine ⟨rfl, ?_⟩
    clear e1 mI m93 m17 m29 m98 m99 m42 mN mK mW mB
    obtain ⟨a, ha, rfl⟩ := nI_ex (x := x) (n := 6) (by omega) (by omega)
    obtain ⟨t, ht, rfl⟩ := nI_ex (x := z) (n := 6) (by omega) (by omega)
    rw [tnN (show a < 2147483648 by omega), tnN (show t < 2147483648 by omega)] at q2 q3 ⊢
    obtain ⟨za, hza, ea⟩ := hrw.1.nn ha (fun k => q2 (Or.inl k))
    obtain ⟨zt, hzt, et⟩ := hrw.1.nn ht (fun k => q2 (Or.inr k))
    have ea3 : S.1 4 a = nI za := ea
    have et3 : S.1 4 t = nI zt := et
    rw [ea3, et3, tiN (show za < 2147483648 by omega), tiN (show zt < 2147483648 by omega)] at q3
    obtain ⟨i, hi, rfl⟩ := nI_ex (x := y) (n := 61) (by omega) (by omega)
    obtain ⟨j, hj, rfl⟩ := nI_ex (x := u) (n := 61) (by omega) (by omega)
    obtain ⟨n, hn, rfl⟩ := nI_ex (x := v) (n := 61) (by omega) (by omega)
    rw [tiN (show i < 2147483648 by omega), tiN (show j < 2147483648 by omega), tiN (show n < 2147483648 by omega)] at q3
    rw [tnN (show i < 2147483648 by omega), tnN (show j < 2147483648 by omega), tnN (show n < 2147483648 by omega)]
    unfold cpM
    have hin : i + n ≤ za := by omega
    have hjn : j + n ≤ zt := by omega
    have e : ∀ c b, ¬ (c = 5 ∧ t * 60 + j ≤ b ∧ b < t * 60 + j + n) → ¬ c = 87 → ¬ (c = 86 ∧ 60 * t + j ≤ b ∧ b < 60 * t + j + n) → (rwS (rwS (cpA S 5 5 (a * 60 + i) (t * 60 + j) n) 87 0 n (fun k => (cpA S 5 5 (a * 60 + i) (t * 60 + j) n).1 86 (60 * a + (i + k)))) 86 (60 * t + j) n (fun k => (cpA S 5 5 (a * 60 + i) (t * 60 + j) n).1 86 (60 * a + (i + k)))).1 c b = S.1 c b := fun c b k1 k2 k3 => by
      rw [rwS_d, if_neg k3, rwS_k k2]
      show (if c = 5 then va_cpy (S.1 5) (S.1 5) (a * 60 + i) (t * 60 + j) n b else S.1 c b) = S.1 c b
      by_cases q : c = 5
      · rw [if_pos q, q]
        exact if_neg (fun k => k1 ⟨q, k⟩)
      · rw [if_neg q]
    refine hR.rws (fun c b k k1 k2 _ _ => e c b (by omega) (by unfold Scr at k; omega) (by omega)) (hsr.kp (fun c b k => e c b (by omega) (by omega) (by omega))) (by rw [e 83 2 (by omega) (by omega) (by omega), e 1 0 (by omega) (by omega) (by omega)]; exact htd.1) rfl (hrw.upd ht (sz := nI zt) (Or.inr ⟨zt, hzt, rfl⟩) (e 3 0 (by omega) (by omega) (by omega)) ((e 4 t (by omega) (by omega) (by omega)).trans et3) ((e 85 t (by omega) (by omega) (by omega)).trans ((hrw.2.1 t ht).trans et3)) (fun r hr => ⟨e 4 r (by omega) (by omega) (by omega), e 85 r (by omega) (by omega) (by omega)⟩) (fun b hb => ⟨e 5 b (by omega) (by omega) (by omega), e 86 b (by omega) (by omega) (by omega)⟩) (fun i' hi' => ?_))
    rw [tnN (by omega)] at hi'
    by_cases k : j ≤ i' ∧ i' < j + n
    · have h1 : (rwS (rwS (cpA S 5 5 (a * 60 + i) (t * 60 + j) n) 87 0 n (fun k => (cpA S 5 5 (a * 60 + i) (t * 60 + j) n).1 86 (60 * a + (i + k)))) 86 (60 * t + j) n (fun k => (cpA S 5 5 (a * 60 + i) (t * 60 + j) n).1 86 (60 * a + (i + k)))).1 86 (60 * t + i') = S.1 86 (60 * a + (i + (i' - j))) := by
        rw [rwS_d, if_pos ⟨rfl, by omega, by omega⟩, show 60 * t + i' - (60 * t + j) = i' - j by omega]
        exact cpA_k (by decide)
      have h2 : (rwS (rwS (cpA S 5 5 (a * 60 + i) (t * 60 + j) n) 87 0 n (fun k => (cpA S 5 5 (a * 60 + i) (t * 60 + j) n).1 86 (60 * a + (i + k)))) 86 (60 * t + j) n (fun k => (cpA S 5 5 (a * 60 + i) (t * 60 + j) n).1 86 (60 * a + (i + k)))).1 5 (t * 60 + i') = S.1 5 (a * 60 + (i + (i' - j))) := by
        rw [rwS_k (by decide), rwS_k (by decide)]
        show va_cpy (S.1 5) (S.1 5) (a * 60 + i) (t * 60 + j) n (t * 60 + i') = _
        unfold va_cpy
        rw [if_pos ⟨by omega, by omega⟩, show a * 60 + i + (t * 60 + i' - (t * 60 + j)) = a * 60 + (i + (i' - j)) by omega]
      rw [h1, h2]
      exact hrw.2.2 a ha _ (by rw [ea3, tnN (by omega)]; omega)
    · rw [e 86 _ (by omega) (by omega) (by omega), e 5 _ (by omega) (by omega) (by omega)]
      exact hrw.2.2 t ht i' (by rw [et3, tnN (by omega)]; exact hi')

set_option maxHeartbeats 1000000 in
theorem pr_image {S : St} (h : Rel S) {x : Int32} : C 3 90 yX10_image mX10_image [.ref 0, .int x] S (qi (Nx 2 60 yX11_image mX11_image [.ref 83, .int x])) := by
  obtain ⟨I, L, d, c, ws, T, F, sw, si, kc, kl, hR⟩ := h
  obtain ⟨⟨hO, hI, hT, hIM⟩, ⟨⟨⟨hL1, hL7⟩, hVs, hd, hU⟩, ⟨hP, hL, h60, h61, h62⟩, hmp⟩, ⟨hc8, ⟨h63, hs⟩, hmn⟩, ⟨hk, hmk⟩, hsr, htd, hrw, htx⟩ := id hR
  have hv := hVs d (Nat.le_refl d)
  have hok := hv.okc hO
  refine cl2 (u2 (c_X10_image hI hO hP hL hL7 hv hrw.1)) ?_ ?_
  · intro q0 r S1 hc
    obtain ⟨rfl, hS⟩ := hc
    have e1 : ∀ a b, 83 ≤ a → S1.1 a b = S.1 a b := by rw [hS]; exact (fun _ _ _ => rfl)
    obtain ⟨mI, ⟨m93, m17, m29, m98, m99⟩, ⟨m42, mN⟩, mK, mW, mB⟩ := hR.mod (S' := S1) e1
    refine md2_0 (u2 (c_X11_image mI hO m93 m17 hL7 hv)) q0 (fun r' S2 hm => ?_)
    obtain ⟨rfl, hS2⟩ := hm
    subst hS2
    subst hS
    first | exact ⟨rfl, hR.rel⟩ | exact ⟨rfl, (hR.lk _).rel⟩
  · intro q0 r S1 hc
    obtain ⟨rfl, hS⟩ := hc
    have e1 : ∀ a b, 83 ≤ a → S1.1 a b = S.1 a b := by rw [hS]; exact (fun a b h => by unfold imX; rw [fc_set (by omega), rwS_k (by omega), fillA_k (by omega), fc_set (by omega)])
    obtain ⟨mI, ⟨m93, m17, m29, m98, m99⟩, ⟨m42, mN⟩, mK, mW, mB⟩ := hR.mod (S' := S1) e1
    refine md2_1 (u2 (c_X11_image mI hO m93 m17 hL7 hv)) q0 (fun r' S2 hm => ?_)
    obtain ⟨rfl, hS2⟩ := hm
    subst hS2
    subst hS
    refine ⟨rfl, ?_⟩
    clear e1 mI m93 m17 m29 m98 m99 m42 mN mK mW mB
    obtain ⟨a, ha, rfl⟩ := nI_ex (x := x) (n := 6) (by omega) (by omega)
    rw [tnN (show a < 2147483648 by omega)]
    unfold imM imX
    have hm5 := hO.2.1
    have e : ∀ c b, ¬ (c = 4 ∧ b = a) → ¬ (c = 5 ∧ a * 60 ≤ b ∧ b < a * 60 + 60) → ¬ (c = 85 ∧ b = a) → ¬ (c = 86 ∧ 60 * a ≤ b ∧ b < 60 * a + 60) → (rwS (setI (setI (rwS (fillA (setI S 4 a (nI (iM I + 1))) 5 (a * 60) (a * 60 + (iM I + 1)) (nI 0)) 5 (a * 60) (iM I) (fun t => nI (ws d t))) 5 (a * 60 + iM I) (nI L)) 85 a (nI (iM I + 1))) 86 (60 * a) 60 (fun t => if t < iM I then nI (ws d t) else if t = iM I then nI L else nI 0)).1 c b = S.1 c b := fun c b k1 k2 k3 k4 => by
      rw [rwS_d, if_neg k4, fc_set k3, fc_set (by omega), rwS_d, if_neg (by omega)]
      exact (if_neg (by omega)).trans (fc_set k1)
    refine hR.rws (fun c b k k1 k2 _ _ => e c b (by omega) (by omega) (by omega) (by omega)) (hsr.kp (fun c b k => e c b (by omega) (by omega) (by omega) (by omega))) (by rw [e 83 2 (by omega) (by omega) (by omega) (by omega), e 1 0 (by omega) (by omega) (by omega) (by omega)]; exact htd.1) rfl (hrw.upd ha (sz := nI (iM I + 1)) (Or.inr ⟨iM I + 1, by omega, rfl⟩) (e 3 0 (by omega) (by omega) (by omega) (by omega)) ?_ ?_ (fun r hr => ⟨e 4 r (by omega) (by omega) (by omega) (by omega), e 85 r (by omega) (by omega) (by omega) (by omega)⟩) (fun b hb => ⟨e 5 b (by omega) (by omega) (by omega) (by omega), e 86 b (by omega) (by omega) (by omega) (by omega)⟩) (fun i hi => ?_))
    · rw [rwS_k (by decide), rdI_k (by decide), rdI_k (by decide), rwS_k (by decide), fillA_k (by decide), rdI_eq]
    · rw [rwS_k (by decide), rdI_eq]
    · rw [tnN (by omega)] at hi
      rw [rwS_at (by omega), rwS_k (by decide), rdI_k (by decide)]
      by_cases k : i = iM I
      · rw [if_neg (by omega), if_pos k, k, rdI_eq]
      · rw [if_pos (by omega), rdI_j (by omega), rwS_at (by omega)]
