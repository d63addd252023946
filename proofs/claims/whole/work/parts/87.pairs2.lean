/-! ===== pairs of calls: rows, texts ===== -/
theorem RwS.tn_le {k c ρ : Nat} {S : St} (h : RwS k c ρ S) (hρ : ρ ≤ 100) {r : Nat} (hr : r < c) : tn (S.1 (k + 1) r) ≤ ρ := by
  rcases h.2 r hr with e | ⟨z, hz, e⟩
  · rw [e, show tn (-1) = 0 from by decide]; exact Nat.zero_le _
  · rw [e, tnN (by omega)]; exact hz
theorem RwR.upd {S S' : St} (h : RwR S) {a : Nat} (ha : a < 6) {sz : Int32} (hz : sz = -1 ∨ ∃ z, z ≤ 60 ∧ sz = nI z) (e0 : S'.1 3 0 = S.1 3 0) (e1 : S'.1 4 a = sz) (e2 : S'.1 85 a = sz) (e3 : ∀ r, ¬ r = a → S'.1 4 r = S.1 4 r ∧ S'.1 85 r = S.1 85 r) (e4 : ∀ j, ¬ (60 * a ≤ j ∧ j < 60 * a + 60) → S'.1 5 j = S.1 5 j ∧ S'.1 86 j = S.1 86 j) (e5 : ∀ i, i < tn sz → S'.1 86 (60 * a + i) = S'.1 5 (a * 60 + i)) : RwR S' := by
  obtain ⟨h1, h2, h3⟩ := h
  refine ⟨⟨e0.trans h1.1, fun r hr => ?_⟩, fun r hr => ?_, fun r hr i hi => ?_⟩
  · show S'.1 4 r = -1 ∨ ∃ z, z ≤ 60 ∧ S'.1 4 r = nI z
    by_cases q : r = a
    · rw [q, e1]; exact hz
    · rw [(e3 r q).1]; exact h1.2 r hr
  · by_cases q : r = a
    · rw [q, e1, e2]
    · rw [(e3 r q).1, (e3 r q).2]; exact h2 r hr
  · by_cases q : r = a
    · rw [q, e1] at hi
      rw [q]; exact e5 i hi
    · rw [(e3 r q).1] at hi
      have hl : tn (S.1 4 r) ≤ 60 := h1.tn_le (by decide) hr
      rw [(e4 (60 * r + i) (by omega)).2, (e4 (r * 60 + i) (by omega)).1]; exact h3 r hr i hi
theorem TxR.upd {S S' : St} (h : TxR S) {a : Nat} (ha : a < 4) {sz : Int32} (hz : sz = -1 ∨ ∃ z, z ≤ 100 ∧ sz = nI z) (e0 : S'.1 6 0 = S.1 6 0) (e1 : S'.1 7 a = sz) (e2 : S'.1 88 a = sz) (e3 : ∀ r, ¬ r = a → S'.1 7 r = S.1 7 r ∧ S'.1 88 r = S.1 88 r) (e4 : ∀ j, ¬ (100 * a ≤ j ∧ j < 100 * a + 100) → S'.1 8 j = S.1 8 j ∧ S'.1 89 j = S.1 89 j) (e5 : ∀ i, i < tn sz → S'.1 89 (100 * a + i) = S'.1 8 (a * 100 + i)) (e6 : ∀ j, j < 400 → 100 * a ≤ j → j < 100 * a + 100 → (-128 ≤ (S'.1 8 j).toInt ∧ (S'.1 8 j).toInt ≤ 127) ∧ -128 ≤ (S'.1 89 j).toInt ∧ (S'.1 89 j).toInt ≤ 127) : TxR S' := by
  obtain ⟨h1, h2, h3, h4, h5⟩ := h
  refine ⟨⟨e0.trans h1.1, fun r hr => ?_⟩, fun r hr => ?_, fun r hr i hi => ?_, fun j hj => ?_, fun j hj => ?_⟩
  · show S'.1 7 r = -1 ∨ ∃ z, z ≤ 100 ∧ S'.1 7 r = nI z
    by_cases q : r = a
    · rw [q, e1]; exact hz
    · rw [(e3 r q).1]; exact h1.2 r hr
  · by_cases q : r = a
    · rw [q, e1, e2]
    · rw [(e3 r q).1, (e3 r q).2]; exact h2 r hr
  · by_cases q : r = a
    · rw [q, e1] at hi
      rw [q]; exact e5 i hi
    · rw [(e3 r q).1] at hi
      have hl : tn (S.1 7 r) ≤ 100 := h1.tn_le (by decide) hr
      rw [(e4 (100 * r + i) (by omega)).2, (e4 (r * 100 + i) (by omega)).1]; exact h3 r hr i hi
  · by_cases q : 100 * a ≤ j ∧ j < 100 * a + 100
    · exact (e6 j hj q.1 q.2).1
    · rw [(e4 j q).1]; exact h4 j hj
  · by_cases q : 100 * a ≤ j ∧ j < 100 * a + 100
    · exact (e6 j hj q.1 q.2).2
    · rw [(e4 j q).2]; exact h5 j hj
theorem RelP.rws {I : Isl} {L d c : Nat} {ws : Nat → Nat → Nat} {T F sw si kc kl : Nat → Nat} {S S' : St} (h : RelP I L d c ws T F sw si kc kl S) (e : ∀ a b, ¬ Scr a b → ¬ (3 ≤ a ∧ a ≤ 5) → ¬ (a = 85 ∨ a = 86) → ¬ (a = 1 ∧ b = 0) → ¬ (a = 83 ∧ b = 2) → S'.1 a b = S.1 a b) (es : SrX I S') (ea : S'.1 83 2 = S'.1 1 0) (el : S'.2 = S.2) (hw : RwR S') : Rel S' := by
  obtain ⟨h1, h2, h3, h4, h5, h6, _, h8⟩ := h
  have e' : ∀ a b, (¬ Scr a b ∧ ¬ (3 ≤ a ∧ a ≤ 5) ∧ ¬ (a = 85 ∨ a = 86) ∧ ¬ (a = 1 ∧ b = 0) ∧ ¬ (a = 83 ∧ b = 2)) → S'.1 a b = S.1 a b := fun a b k => e a b k.1 k.2.1 k.2.2.1 k.2.2.2.1 k.2.2.2.2
  unfold Scr at e'
  refine ⟨I, L, d, c, ws, T, F, sw, si, kc, kl, h1.keep (fun a b k => e' a b (by omega)), h2.keep (fun a b k => e' a b (by omega)), h3.keep (fun a b k => e' a b (by omega)), h4.keep (fun a b k => e' a b (by omega)), es, ⟨ea, ?_, ?_, ?_, fun f hf => ?_⟩, hw, h8.keep (fun a b k => e' a b (by omega))⟩
  · rw [el]; exact h6.2.1
  · rw [el]; exact h6.2.2.1
  · rw [e' 83 0 (by omega), e' 1 3 (by omega)]; exact h6.2.2.2.1
  · rw [e' 84 f (by omega), e' 2 f (by omega)]; exact h6.2.2.2.2 f hf
theorem RelP.txs {I : Isl} {L d c : Nat} {ws : Nat → Nat → Nat} {T F sw si kc kl : Nat → Nat} {S S' : St} (h : RelP I L d c ws T F sw si kc kl S) (e : ∀ a b, ¬ Scr a b → ¬ (6 ≤ a ∧ a ≤ 8) → ¬ (a = 88 ∨ a = 89) → S'.1 a b = S.1 a b) (es : SrX I S') (el : S'.2 = S.2) (hw : TxR S') : Rel S' := by
  obtain ⟨h1, h2, h3, h4, h5, h6, h7, _⟩ := h
  have e' : ∀ a b, (¬ Scr a b ∧ ¬ (6 ≤ a ∧ a ≤ 8) ∧ ¬ (a = 88 ∨ a = 89)) → S'.1 a b = S.1 a b := fun a b k => e a b k.1 k.2.1 k.2.2
  unfold Scr at e'
  exact ⟨I, L, d, c, ws, T, F, sw, si, kc, kl, h1.keep (fun a b k => e' a b (by omega)), h2.keep (fun a b k => e' a b (by omega)), h3.keep (fun a b k => e' a b (by omega)), h4.keep (fun a b k => e' a b (by omega)), es, h6.keep (fun a b k => e' a b (by omega)) (fun b _ => by rw [el]; exact ⟨rfl, rfl⟩), h7.keep (fun a b k => e' a b (by omega)), hw⟩

set_option maxHeartbeats 1000000 in
theorem pr_row {S : St} (h : Rel S) {x y : Int32} : C 3 90 yX10_row mX10_row [.ref 0, .int x, .int y] S (qi (Nx 2 60 yX11_row mX11_row [.ref 83, .int x, .int y])) := by
  obtain ⟨I, L, d, c, ws, T, F, sw, si, kc, kl, hR⟩ := h
  obtain ⟨⟨hO, hI, hT, hIM⟩, ⟨⟨⟨hL1, hL7⟩, hVs, hd, hU⟩, ⟨hP, hL, h60, h61, h62⟩, hmp⟩, ⟨hc8, ⟨h63, hs⟩, hmn⟩, ⟨hk, hmk⟩, hsr, htd, hrw, htx⟩ := id hR
  have hv := hVs d (Nat.le_refl d)
  have hok := hv.okc hO
  refine cl1 (c_X10_row hrw.1) ?_
  refine md1 c_X11_row ⟨rfl, ?_⟩
  by_cases q0 : (¬ (0 ≤ x.toInt ∧ x.toInt < 6)) ∨ 60 < y.toInt
  · unfold rowX rowM
    rw [if_pos q0, if_pos q0]; exact hR.rel
  · by_cases q1 : y.toInt < 0
    · unfold rowX rowM
      rw [if_neg q0, if_pos q1, if_neg q0, if_pos q1]; exact (hR.lf (by decide)).rel
    · unfold rowX rowM
      rw [if_neg q0, if_neg q1, if_neg q0, if_neg q1]
      obtain ⟨a, ha, rfl⟩ := nI_ex (x := x) (n := 6) (by omega) (by omega)
      obtain ⟨z, hz, rfl⟩ := nI_ex (x := y) (n := 61) (by omega) (by omega)
      rw [tnN (show a < 2147483648 by omega), tnN (show z < 2147483648 by omega)]
      have e : ∀ c j, ¬ (c = 4 ∧ j = a) → ¬ (c = 85 ∧ j = a) → ¬ (c = 5 ∧ a * 60 ≤ j ∧ j < a * 60 + z) → ¬ (c = 86 ∧ 60 * a ≤ j ∧ j < 60 * a + 60) → (fillA (setI (fillA (setI S 4 a (nI z)) 5 (a * 60) (a * 60 + z) (nI 0)) 85 a (nI z)) 86 (60 * a) (60 * a + 60) (nI 0)).1 c j = S.1 c j := fun c j k1 k2 k3 k4 => (if_neg k4).trans ((fc_set k2).trans ((if_neg k3).trans (fc_set k1)))
      refine hR.rws (fun c j _ k1 k2 _ _ => e c j (by omega) (by omega) (by omega) (by omega)) (hsr.kp (fun c j k => e c j (by omega) (by omega) (by omega) (by omega))) (by rw [e 83 2 (by omega) (by omega) (by omega) (by omega), e 1 0 (by omega) (by omega) (by omega) (by omega)]; exact htd.1) rfl (hrw.upd ha (Or.inr ⟨z, by omega, rfl⟩) (e 3 0 (by omega) (by omega) (by omega) (by omega)) ((fillA_k (by decide)).trans ((rdI_k (by decide)).trans ((fillA_k (by decide)).trans rdI_eq))) ((fillA_k (by decide)).trans rdI_eq) (fun r hr => ⟨e 4 r (by omega) (by omega) (by omega) (by omega), e 85 r (by omega) (by omega) (by omega) (by omega)⟩) (fun j hj => ⟨e 5 j (by omega) (by omega) (by omega) (by omega), e 86 j (by omega) (by omega) (by omega) (by omega)⟩) (fun i hi => ?_))
      rw [tnN (by omega)] at hi
      exact (fillA_in (by omega) (by omega)).trans (((fillA_k (by decide)).trans ((rdI_k (by decide)).trans (fillA_in (by omega) (by omega)))).symm)

set_option maxHeartbeats 1000000 in
theorem pr_text {S : St} (h : Rel S) {x y : Int32} : C 3 90 yX10_text mX10_text [.ref 0, .int x, .int y] S (qi (Nx 2 60 yX11_text mX11_text [.ref 83, .int x, .int y])) := by
  obtain ⟨I, L, d, c, ws, T, F, sw, si, kc, kl, hR⟩ := h
  obtain ⟨⟨hO, hI, hT, hIM⟩, ⟨⟨⟨hL1, hL7⟩, hVs, hd, hU⟩, ⟨hP, hL, h60, h61, h62⟩, hmp⟩, ⟨hc8, ⟨h63, hs⟩, hmn⟩, ⟨hk, hmk⟩, hsr, htd, hrw, htx⟩ := id hR
  have hv := hVs d (Nat.le_refl d)
  have hok := hv.okc hO
  refine cl1 (c_X10_text htx.1) ?_
  refine md1 c_X11_text ⟨rfl, ?_⟩
  by_cases q0 : (¬ (0 ≤ x.toInt ∧ x.toInt < 4)) ∨ 100 < y.toInt
  · unfold textX textM
    rw [if_pos q0, if_pos q0]; exact hR.rel
  · by_cases q1 : y.toInt < 0
    · unfold textX textM
      rw [if_neg q0, if_pos q1, if_neg q0, if_pos q1]; exact (hR.lf (by decide)).rel
    · unfold textX textM
      rw [if_neg q0, if_neg q1, if_neg q0, if_neg q1]
      obtain ⟨a, ha, rfl⟩ := nI_ex (x := x) (n := 4) (by omega) (by omega)
      obtain ⟨z, hz, rfl⟩ := nI_ex (x := y) (n := 101) (by omega) (by omega)
      rw [tnN (show a < 2147483648 by omega), tnN (show z < 2147483648 by omega)]
      have e : ∀ c j, ¬ (c = 7 ∧ j = a) → ¬ (c = 88 ∧ j = a) → ¬ (c = 8 ∧ a * 100 ≤ j ∧ j < a * 100 + z) → ¬ (c = 89 ∧ 100 * a ≤ j ∧ j < 100 * a + 100) → (fillA (setI (fillA (setI S 7 a (nI z)) 8 (a * 100) (a * 100 + z) (nI 32)) 88 a (nI z)) 89 (100 * a) (100 * a + 100) (nI 32)).1 c j = S.1 c j := fun c j k1 k2 k3 k4 => (if_neg k4).trans ((fc_set k2).trans ((if_neg k3).trans (fc_set k1)))
      refine hR.txs (fun c j _ k1 k2 => e c j (by omega) (by omega) (by omega) (by omega)) (hsr.kp (fun c j k => e c j (by omega) (by omega) (by omega) (by omega))) rfl (htx.upd ha (Or.inr ⟨z, by omega, rfl⟩) (e 6 0 (by omega) (by omega) (by omega) (by omega)) ((fillA_k (by decide)).trans ((rdI_k (by decide)).trans ((fillA_k (by decide)).trans rdI_eq))) ((fillA_k (by decide)).trans rdI_eq) (fun r hr => ⟨e 7 r (by omega) (by omega) (by omega) (by omega), e 88 r (by omega) (by omega) (by omega) (by omega)⟩) (fun j hj => ⟨e 8 j (by omega) (by omega) (by omega) (by omega), e 89 j (by omega) (by omega) (by omega) (by omega)⟩) (fun i hi => ?_) (fun j hj j1 j2 => ?_))
      · rw [tnN (by omega)] at hi
        exact (fillA_in (by omega) (by omega)).trans (((fillA_k (by decide)).trans ((rdI_k (by decide)).trans (fillA_in (by omega) (by omega)))).symm)
      · have h32 : -128 ≤ (nI 32).toInt ∧ (nI 32).toInt ≤ 127 := by decide
        refine ⟨?_, ?_⟩
        · by_cases k : a * 100 ≤ j ∧ j < a * 100 + z
          · rw [fillA_k (by decide), rdI_k (by decide), fillA_in k.1 k.2]; exact h32
          · rw [e 8 j (by omega) (by omega) (by omega) (by omega)]; exact htx.2.2.2.1 j hj
        · rw [fillA_in j1 j2]; exact h32

set_option maxHeartbeats 1000000 in
theorem pr_at {S : St} (h : Rel S) {x y : Int32} : C 3 90 yX10_at mX10_at [.ref 0, .int x, .int y] S (qi (Nx 2 60 yX11_at mX11_at [.ref 83, .int x, .int y])) := by
  obtain ⟨I, L, d, c, ws, T, F, sw, si, kc, kl, hR⟩ := h
  obtain ⟨⟨hO, hI, hT, hIM⟩, ⟨⟨⟨hL1, hL7⟩, hVs, hd, hU⟩, ⟨hP, hL, h60, h61, h62⟩, hmp⟩, ⟨hc8, ⟨h63, hs⟩, hmn⟩, ⟨hk, hmk⟩, hsr, htd, hrw, htx⟩ := id hR
  have hv := hVs d (Nat.le_refl d)
  have hok := hv.okc hO
  have ez : ∀ S1 : St, (∀ a b, 83 ≤ a → S1.1 a b = S.1 a b) → (0 ≤ x.toInt ∧ x.toInt < 6) → S1.1 85 (tn x) = S.1 4 (tn x) := fun S1 e h => (e 85 _ (by decide)).trans (hrw.2.1 _ (by unfold tn; omega))
  have e1 : ∀ a b, 83 ≤ a → (atX S x y).1 a b = S.1 a b := fun a b hab => by
    unfold atX
    by_cases q0 : ¬ (0 ≤ x.toInt ∧ x.toInt < 6)
    · rw [if_pos q0]
    · rw [if_neg q0]
      by_cases q1 : (S.1 4 (tn x)).toInt < 0
      · rw [if_pos q1]; exact fndS_k (by omega) (by omega)
      · rw [if_neg q1]
        by_cases q2 : ¬ (0 ≤ y.toInt ∧ y.toInt < (S.1 4 (tn x)).toInt)
        · rw [if_pos q2]; exact fndS_k (by omega) (by omega)
        · rw [if_neg q2]; exact fc_set (by omega)
  refine cl1 (c_X10_at hrw.1) ?_
  obtain ⟨mI, ⟨m93, m17, m29, m98, m99⟩, ⟨m42, mN⟩, mK, mW, mB⟩ := hR.mod e1
  refine md1 (c_X11_at mW) ?_
  by_cases q0 : ¬ (0 ≤ x.toInt ∧ x.toInt < 6)
  · unfold layA atX atM
    rw [if_pos q0, if_pos q0, if_pos q0, if_pos q0]; exact ⟨rfl, hR.rel⟩
  · have hz := ez _ e1 (by omega)
    rw [hz]
    refine ⟨rfl, ?_⟩
    by_cases q1 : (S.1 4 (tn x)).toInt < 0
    · have hX : atX S x y = fndS S 1 := by unfold atX; rw [if_neg q0, if_pos q1]
      have hM : atM (atX S x y) x y = fndM (atX S x y) 1 := by unfold atM; rw [if_neg q0, hz, if_pos q1]
      rw [hM, hX]; exact (hR.lf (by decide)).rel
    · by_cases q2 : ¬ (0 ≤ y.toInt ∧ y.toInt < (S.1 4 (tn x)).toInt)
      · have hX : atX S x y = fndS S 2 := by unfold atX; rw [if_neg q0, if_neg q1, if_pos q2]
        have hM : atM (atX S x y) x y = fndM (atX S x y) 2 := by unfold atM; rw [if_neg q0, hz, if_neg q1, if_pos q2]
        rw [hM, hX]; exact (hR.lf (by decide)).rel
      · have hX : atX S x y = setI S 1 0 (S.1 5 (tn x * 60 + tn y)) := by unfold atX; rw [if_neg q0, if_neg q1, if_neg q2]
        have hM : atM (atX S x y) x y = setI (atX S x y) 83 2 ((atX S x y).1 86 (60 * tn x + tn y)) := by unfold atM; rw [if_neg q0, hz, if_neg q1, if_neg q2]
        rw [hM, hX]
        clear hX hM hz e1 mI m93 m17 m29 m98 m99 m42 mN mK mW mB
        obtain ⟨a, ha, rfl⟩ := nI_ex (x := x) (n := 6) (by omega) (by omega)
        rw [tnN (show a < 2147483648 by omega)] at q1 q2 ⊢
        obtain ⟨z, hz, ez2⟩ := hrw.1.nn ha q1
        have ez3 : S.1 4 a = nI z := ez2
        rw [ez3, tiN (show z < 2147483648 by omega)] at q2
        obtain ⟨i, hi, rfl⟩ := nI_ex (x := y) (n := z) (by omega) (by omega)
        rw [tnN (show i < 2147483648 by omega)]
        have hc := hrw.2.2 a ha i (by rw [ez3, tnN (by omega)]; exact hi)
        rw [fc_set (show ¬ (86 = 1 ∧ 60 * a + i = 0) by omega), hc]
        exact hR.la.rel

set_option maxHeartbeats 1000000 in
theorem pr_lay {S : St} (h : Rel S) {x y v : Int32} : C 3 90 yX10_lay mX10_lay [.ref 0, .int x, .int y, .int v] S (qi (Nx 2 60 yX11_lay mX11_lay [.ref 83, .int x, .int y, .int v])) := by
  obtain ⟨I, L, d, c, ws, T, F, sw, si, kc, kl, hR⟩ := h
  obtain ⟨⟨hO, hI, hT, hIM⟩, ⟨⟨⟨hL1, hL7⟩, hVs, hd, hU⟩, ⟨hP, hL, h60, h61, h62⟩, hmp⟩, ⟨hc8, ⟨h63, hs⟩, hmn⟩, ⟨hk, hmk⟩, hsr, htd, hrw, htx⟩ := id hR
  have hv := hVs d (Nat.le_refl d)
  have hok := hv.okc hO
  have ez : ∀ S1 : St, (∀ a b, 83 ≤ a → S1.1 a b = S.1 a b) → (0 ≤ x.toInt ∧ x.toInt < 6) → S1.1 85 (tn x) = S.1 4 (tn x) := fun S1 e h => (e 85 _ (by decide)).trans (hrw.2.1 _ (by unfold tn; omega))
  have e1 : ∀ a b, 83 ≤ a → (layX S x y v).1 a b = S.1 a b := fun a b hab => by
    unfold layX
    by_cases q0 : ¬ (0 ≤ x.toInt ∧ x.toInt < 6)
    · rw [if_pos q0]
    · rw [if_neg q0]
      by_cases q1 : (S.1 4 (tn x)).toInt < 0
      · rw [if_pos q1]; exact fndS_k (by omega) (by omega)
      · rw [if_neg q1]
        by_cases q2 : ¬ (0 ≤ y.toInt ∧ y.toInt < (S.1 4 (tn x)).toInt)
        · rw [if_pos q2]; exact fndS_k (by omega) (by omega)
        · rw [if_neg q2]; exact (fc_set (by omega)).trans (fc_set (by omega))
  refine cl1 (c_X10_lay hrw.1) ?_
  obtain ⟨mI, ⟨m93, m17, m29, m98, m99⟩, ⟨m42, mN⟩, mK, mW, mB⟩ := hR.mod e1
  refine md1 (c_X11_lay mW) ?_
  by_cases q0 : ¬ (0 ≤ x.toInt ∧ x.toInt < 6)
  · unfold layA layX layM
    rw [if_pos q0, if_pos q0, if_pos q0, if_pos q0]; exact ⟨rfl, hR.rel⟩
  · have hz := ez _ e1 (by omega)
    rw [hz]
    refine ⟨rfl, ?_⟩
    by_cases q1 : (S.1 4 (tn x)).toInt < 0
    · have hX : layX S x y v = fndS S 1 := by unfold layX; rw [if_neg q0, if_pos q1]
      have hM : layM (layX S x y v) x y v = fndM (layX S x y v) 1 := by unfold layM; rw [if_neg q0, hz, if_pos q1]
      rw [hM, hX]; exact (hR.lf (by decide)).rel
    · by_cases q2 : ¬ (0 ≤ y.toInt ∧ y.toInt < (S.1 4 (tn x)).toInt)
      · have hX : layX S x y v = fndS S 2 := by unfold layX; rw [if_neg q0, if_neg q1, if_pos q2]
        have hM : layM (layX S x y v) x y v = fndM (layX S x y v) 2 := by unfold layM; rw [if_neg q0, hz, if_neg q1, if_pos q2]
        rw [hM, hX]; exact (hR.lf (by decide)).rel
      · have hX : layX S x y v = setI (setI S 5 (tn x * 60 + tn y) v) 1 0 (S.1 5 (tn x * 60 + tn y)) := by unfold layX; rw [if_neg q0, if_neg q1, if_neg q2]
        have hM : layM (layX S x y v) x y v = setI (setI (layX S x y v) 86 (60 * tn x + tn y) v) 83 2 ((layX S x y v).1 86 (60 * tn x + tn y)) := by unfold layM; rw [if_neg q0, hz, if_neg q1, if_neg q2]
        rw [hM, hX]
        clear hX hM hz e1 mI m93 m17 m29 m98 m99 m42 mN mK mW mB
        obtain ⟨a, ha, rfl⟩ := nI_ex (x := x) (n := 6) (by omega) (by omega)
        rw [tnN (show a < 2147483648 by omega)] at q1 q2 ⊢
        obtain ⟨z, hz, ez2⟩ := hrw.1.nn ha q1
        have ez3 : S.1 4 a = nI z := ez2
        rw [ez3, tiN (show z < 2147483648 by omega)] at q2
        obtain ⟨i, hi, rfl⟩ := nI_ex (x := y) (n := z) (by omega) (by omega)
        rw [tnN (show i < 2147483648 by omega)]
        have hc := hrw.2.2 a ha i (by rw [ez3, tnN (by omega)]; exact hi)
        rw [fc_set (show ¬ (86 = 1 ∧ 60 * a + i = 0) by omega), fc_set (show ¬ (86 = 5 ∧ 60 * a + i = a * 60 + i) by omega), hc]
        have e : ∀ c j, ¬ (c = 5 ∧ j = a * 60 + i) → ¬ (c = 1 ∧ j = 0) → ¬ (c = 86 ∧ j = 60 * a + i) → ¬ (c = 83 ∧ j = 2) → (setI (setI (setI (setI S 5 (a * 60 + i) v) 1 0 (S.1 5 (a * 60 + i))) 86 (60 * a + i) v) 83 2 (S.1 5 (a * 60 + i))).1 c j = S.1 c j := fun c j k1 k2 k3 k4 => (fc_set k4).trans ((fc_set k3).trans ((fc_set k2).trans (fc_set k1)))
        refine hR.rws (fun c j _ k1 k2 k3 k4 => e c j (by omega) (by omega) (by omega) (by omega)) (hsr.kp (fun c j k => e c j (by omega) (by omega) (by omega) (by omega))) (rdI_eq.trans ((rdI_k (by decide)).trans ((rdI_k (by decide)).trans rdI_eq)).symm) rfl (hrw.upd ha (sz := nI z) (Or.inr ⟨z, hz, rfl⟩) (e 3 0 (by omega) (by omega) (by omega) (by omega)) ((e 4 a (by omega) (by omega) (by omega) (by omega)).trans ez3) ((e 85 a (by omega) (by omega) (by omega) (by omega)).trans ((hrw.2.1 a ha).trans ez3)) (fun r hr => ⟨e 4 r (by omega) (by omega) (by omega) (by omega), e 85 r (by omega) (by omega) (by omega) (by omega)⟩) (fun j hj => ⟨e 5 j (by omega) (by omega) (by omega) (by omega), e 86 j (by omega) (by omega) (by omega) (by omega)⟩) (fun i' hi' => ?_))
        rw [tnN (by omega)] at hi'
        by_cases k : i' = i
        · rw [k]
          exact ((rdI_k (by decide)).trans rdI_eq).trans ((rdI_k (by decide)).trans ((rdI_k (by decide)).trans ((rdI_k (by decide)).trans rdI_eq))).symm
        · rw [e 86 _ (by omega) (by omega) (by omega) (by omega), e 5 _ (by omega) (by omega) (by omega) (by omega)]
          exact hrw.2.2 a ha i' (by rw [ez3, tnN (by omega)]; exact hi')
