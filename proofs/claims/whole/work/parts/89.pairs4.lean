/-! ===== pairs of calls: islands, steps ===== -/
theorem chF_congr {n : Nat} {β β' : Nat → Int32} (h : ∀ i, i < n → β i = β' i) : chF n β = chF n β' := by
  funext i
  unfold chF
  by_cases q : i < n
  · rw [if_pos q, if_pos q, h i q]
  · rw [if_neg q, if_neg q]
theorem txF_congr {n : Nat} {β β' : Nat → Int32} (h : ∀ i, i < n → β i = β' i) : txF n β = txF n β' := by
  unfold txF
  rw [chF_congr h]
theorem ftF_congr {n : Nat} {β β' : Nat → Int32} (h : ∀ i, i < n → β i = β' i) : ftF n β = ftF n β' := by
  unfold ftF
  rw [txF_congr h]
theorem txt_eq {S S1 : St} (h : TxR S) (e1 : ∀ a b, 83 ≤ a → S1.1 a b = S.1 a b) {x : Int32} (hx : 0 ≤ x.toInt ∧ x.toInt < 4) : tnM S1 x = tnX S x ∧ ∀ i, i < tnX S x → tbM S1 x i = tbX S x i := by
  have hx4 : tn x < 4 := by unfold tn; omega
  refine ⟨?_, fun i hi => ?_⟩
  · unfold tnM tnX
    rw [e1 88 _ (by decide), h.2.1 _ hx4]
  · unfold tbM tbX
    rw [e1 89 _ (by decide)]
    exact h.2.2.1 _ hx4 i hi

set_option maxHeartbeats 1000000 in
theorem pr_fault {S : St} (h : Rel S) {x : Int32} : C 6 180 yX10_fault mX10_fault [.ref 0, .int x] S (qi (Nx 4 120 yX11_fault mX11_fault [.ref 83, .int x])) := by
  obtain ⟨I, L, d, c, ws, T, F, sw, si, kc, kl, hR⟩ := h
  obtain ⟨⟨hO, hI, hT, hIM⟩, ⟨⟨⟨hL1, hL7⟩, hVs, hd, hU⟩, ⟨hP, hL, h60, h61, h62⟩, hmp⟩, ⟨hc8, ⟨h63, hs⟩, hmn⟩, ⟨hk, hmk⟩, hsr, htd, hrw, htx⟩ := id hR
  have hv := hVs d (Nat.le_refl d)
  have hok := hv.okc hO
  refine cl3 ((c_X10_fault htx.1 htx.2.2.2.1)) ?_ ?_ ?_
  · intro q0 r S1 hc
    obtain ⟨rfl, hS⟩ := hc
    have e1 : ∀ a b, 83 ≤ a → S1.1 a b = S.1 a b := by rw [hS]; exact (fun _ _ _ => rfl)
    obtain ⟨mI, ⟨m93, m17, m29, m98, m99⟩, ⟨m42, mN⟩, mK, mW, mB⟩ := hR.mod (S' := S1) e1
    refine md3_0 ((c_X11_fault mW mB)) q0 (fun r' S2 hm => ?_)
    obtain ⟨rfl, hS2⟩ := hm
    subst hS2
    subst hS
    first | exact ⟨rfl, hR.rel⟩ | exact ⟨rfl, (hR.lk _).rel⟩
  · intro q0 q1 r S1 hc
    obtain ⟨rfl, hS⟩ := hc
    have e1 : ∀ a b, 83 ≤ a → S1.1 a b = S.1 a b := by rw [hS]; exact (fun a b h => fndS_k (by omega) (by omega))
    obtain ⟨mI, ⟨m93, m17, m29, m98, m99⟩, ⟨m42, mN⟩, mK, mW, mB⟩ := hR.mod (S' := S1) e1
    refine md3_1 ((c_X11_fault mW mB)) q0 (by rw [e1 88 _ (by decide), htx.2.1 _ (by unfold tn; omega)]; exact q1) (fun r' S2 hm => ?_)
    obtain ⟨rfl, hS2⟩ := hm
    subst hS2
    subst hS
    exact ⟨rfl, (hR.lf (by decide)).rel⟩
  · intro q0 q1 r S1 hc
    have hc9 := trivial
    have e1 : ∀ a b, 83 ≤ a → S1.1 a b = S.1 a b := (fun a b h => hc.2.2 a (by unfold FRe; omega) b)
    obtain ⟨mI, ⟨m93, m17, m29, m98, m99⟩, ⟨m42, mN⟩, mK, mW, mB⟩ := hR.mod (S' := S1) e1
    refine md3_2 ((c_X11_fault mW mB)) q0 (by rw [e1 88 _ (by decide), htx.2.1 _ (by unfold tn; omega)]; exact q1) (fun r' S2 hm => ?_)
    obtain ⟨g1, g2⟩ := hm
    obtain ⟨h1, h2⟩ := hc
    have ht := txt_eq htx e1 (x := x) (by omega)
    refine ⟨?_, (hR.same (hsr.kp (fun a b k => (g2.2 a b (by omega) (by omega)).trans (h2.2 a (by unfold FRe; omega) b))) (fun a b k => (g2.2 a b (by unfold Scr at k; omega) (by unfold Scr at k; omega)).trans (h2.2 a (by unfold Scr at k; unfold FRe; omega) b)) (fun b _ => by rw [g2.1, h2.1]; exact ⟨rfl, rfl⟩)).rel⟩
    rw [g1, h1, ht.1]
    exact ftF_congr ht.2

set_option maxHeartbeats 1000000 in
theorem pr_island {S : St} (h : Rel S) {x : Int32} : C 6 180 yX10_island mX10_island [.ref 0, .int x] S (qi (Nx 4 120 yX11_island mX11_island [.ref 83, .int x])) := by
  obtain ⟨I, L, d, c, ws, T, F, sw, si, kc, kl, hR⟩ := h
  obtain ⟨⟨hO, hI, hT, hIM⟩, ⟨⟨⟨hL1, hL7⟩, hVs, hd, hU⟩, ⟨hP, hL, h60, h61, h62⟩, hmp⟩, ⟨hc8, ⟨h63, hs⟩, hmn⟩, ⟨hk, hmk⟩, hsr, htd, hrw, htx⟩ := id hR
  have hv := hVs d (Nat.le_refl d)
  have hok := hv.okc hO
  refine cl4 ((c_X10_island htx.1 htx.2.2.2.1)) ?_ ?_ ?_ ?_
  · intro q0 r S1 hc
    obtain ⟨rfl, hS⟩ := hc
    have e1 : ∀ a b, 83 ≤ a → S1.1 a b = S.1 a b := by rw [hS]; exact (fun _ _ _ => rfl)
    obtain ⟨mI, ⟨m93, m17, m29, m98, m99⟩, ⟨m42, mN⟩, mK, mW, mB⟩ := hR.mod (S' := S1) e1
    refine md4_0 ((c_X11_island mW mB)) q0 (fun r' S2 hm => ?_)
    obtain ⟨rfl, hS2⟩ := hm
    subst hS2
    subst hS
    first | exact ⟨rfl, hR.rel⟩ | exact ⟨rfl, (hR.lk _).rel⟩
  · intro q0 q1 r S1 hc
    obtain ⟨rfl, hS⟩ := hc
    have e1 : ∀ a b, 83 ≤ a → S1.1 a b = S.1 a b := by rw [hS]; exact (fun a b h => fndS_k (by omega) (by omega))
    obtain ⟨mI, ⟨m93, m17, m29, m98, m99⟩, ⟨m42, mN⟩, mK, mW, mB⟩ := hR.mod (S' := S1) e1
    refine md4_1 ((c_X11_island mW mB)) q0 (by rw [e1 88 _ (by decide), htx.2.1 _ (by unfold tn; omega)]; exact q1) (fun r' S2 hm => ?_)
    obtain ⟨rfl, hS2⟩ := hm
    subst hS2
    subst hS
    exact ⟨rfl, (hR.lf (by decide)).rel⟩
  · intro q0 q1 q2 r S1 hc
    have hc9 := trivial
    have e1 : ∀ a b, 83 ≤ a → S1.1 a b = S.1 a b := (fun a b h => hc.2.2 a (by unfold FRe; omega) b)
    obtain ⟨mI, ⟨m93, m17, m29, m98, m99⟩, ⟨m42, mN⟩, mK, mW, mB⟩ := hR.mod (S' := S1) e1
    refine md4_2 ((c_X11_island mW mB)) q0 (by rw [e1 88 _ (by decide), htx.2.1 _ (by unfold tn; omega)]; exact q1) (by have ht := txt_eq htx e1 (x := x) (by omega); rw [ht.1, txF_congr ht.2]; exact q2) (fun r' S2 hm => ?_)
    obtain ⟨g1, g2⟩ := hm
    obtain ⟨h1, h2⟩ := hc
    exact ⟨g1.trans h1.symm, (hR.same (hsr.kp (fun a b k => (g2.2 a b (by omega) (by omega)).trans (h2.2 a (by unfold FRe; omega) b))) (fun a b k => (g2.2 a b (by unfold Scr at k; omega) (by unfold Scr at k; omega)).trans (h2.2 a (by unfold Scr at k; unfold FRe; omega) b)) (fun b _ => by rw [g2.1, h2.1]; exact ⟨rfl, rfl⟩)).rel⟩
  · intro q0 q1 q2 r S1 hc
    have hc9 := trivial
    have e1 : ∀ a b, 83 ≤ a → S1.1 a b = S.1 a b := (fun a b h => hc.2.2.1 a b (by unfold FIs FRe; omega) (by omega) (by omega) (by omega))
    obtain ⟨mI, ⟨m93, m17, m29, m98, m99⟩, ⟨m42, mN⟩, mK, mW, mB⟩ := hR.mod (S' := S1) e1
    refine md4_3 ((c_X11_island mW mB)) q0 (by rw [e1 88 _ (by decide), htx.2.1 _ (by unfold tn; omega)]; exact q1) (by have ht := txt_eq htx e1 (x := x) (by omega); rw [ht.1, txF_congr ht.2]; exact q2) (fun r' S2 hm => ?_)
    have ht := txt_eq htx e1 (x := x) (by omega)
    have et : txF (tnM S1 x) (tbM S1 x) = txF (tnX S x) (tbX S x) := by rw [ht.1]; exact txF_congr ht.2
    rw [et] at hm
    have hpi := (tx_PI (n := tnX S x) (β := tbX S x) (Classical.not_not.mp q2)).1
    generalize (txF (tnX S x) (tbX S x)).2 = J at hc hm hpi
    obtain ⟨h1, h2, h3, h4, h5, h6, h7, h8, h9, h10, h11⟩ := hc
    obtain ⟨g1, g2, g3, g4, g5, g6, g7, g8, g9⟩ := hm
    have e2 : ∀ a b, a < 83 → S2.1 a b = S1.1 a b := fun a b hab => g3 a b (by unfold FIm; omega)
    refine ⟨g1.trans h1.symm, J, 3, 0, 0, _, _, _, fun _ => 0, fun _ => 0, fun _ => 0, fun _ => 0, ⟨hpi.1, h4.keep (fun a k1 k2 b => e2 a b (by omega)), h5.keep (fun a b k => e2 a b (by omega)), g4⟩, GP.new (w := iS J) (by decide) (by decide) hpi.VS (h6.keep (fun a k1 k2 b => e2 a b (by omega))) ((e2 35 5 (by decide)).trans h7) ((e2 60 0 (by decide)).trans h9) g5 g6 g7, ⟨by decide, ⟨(e2 63 0 (by decide)).trans h10, fun i hi => absurd hi (Nat.not_lt_zero i)⟩, g8, fun i hi => absurd hi (Nat.not_lt_zero i)⟩, ⟨fun k hk3 => ⟨(e2 67 k (by decide)).trans (h11 k hk3), Nat.zero_le _, fun h0 => absurd rfl h0⟩, fun k hk3 => ⟨(g9 k hk3).trans (if_pos rfl).symm, fun h0 => absurd rfl h0⟩⟩, ⟨?_, Or.inl ((e2 74 9 (by decide)).trans h8)⟩, htd.keep (fun a b k => ?_) (fun b _ => by rw [g2, h2]; exact ⟨rfl, rfl⟩), hrw.keep (fun a b k => ?_), htx.keep (fun a b k => ?_)⟩
    · obtain ⟨R, hRR⟩ := hsr.1
      exact ⟨R, hRR.fr (fun a k1 k2 b => (e2 a b (by omega)).trans (h3 a b (by unfold FIs FRe; omega) (by omega) (by omega) (by omega)))⟩
    · exact (g3 a b (by unfold FIm; omega)).trans (h3 a b (by unfold FIs FRe; omega) (by omega) (by omega) (by omega))
    · exact (g3 a b (by unfold FIm; omega)).trans (h3 a b (by unfold FIs FRe; omega) (by omega) (by omega) (by omega))
    · exact (g3 a b (by unfold FIm; omega)).trans (h3 a b (by unfold FIs FRe; omega) (by omega) (by omega) (by omega))

/-- k steps more have been done -/
def exW (d : Nat) (ws st : Nat → Nat → Nat) : Nat → Nat → Nat := fun i => if i ≤ d then ws i else st (i - d)
def exN (d : Nat) (T tt : Nat → Nat) : Nat → Nat := fun i => if i < d then T i else tt (i - d)
theorem GP.steps {I : Isl} {L d k : Nat} {ws st : Nat → Nat → Nat} {T F tt to : Nat → Nat} {S S2 : St} (hO : IOK I) (h : GP I L d ws T F S) (hk : d + k ≤ 40) (h0 : st 0 = ws d) (hs : ∀ j, j < k → st (j + 1) = upW (st j) (tt j) (to j) ∧ tt j < iM I ∧ mayF I (st j) L (tt j) (to j))
    (h1 : PlT 35 I (st k) S2) (h2 : S2.1 35 5 = nI L) (h3 : S2.1 60 0 = nI (d + k)) (h4 : ∀ i, i < d → S2.1 61 i = S.1 61 i ∧ S2.1 62 i = S.1 62 i) (h5 : ∀ j, j < k → S2.1 61 (d + j) = nI (tt j) ∧ S2.1 62 (d + j) = nI (st j (tt j)))
    (g1 : ∀ t, t < iM I → S2.1 93 t = nI (st k t)) (g2 : S2.1 83 17 = nI L) (g3 : S2.1 83 29 = nI (d + k)) (g4 : ∀ i, i < d → S2.1 98 i = S.1 98 i ∧ S2.1 99 i = S.1 99 i) (g5 : ∀ j, j < k → S2.1 98 (d + j) = nI (tt j) ∧ S2.1 99 (d + j) = nI (st j (tt j))) :
    GP I L (d + k) (exW d ws st) (exN d T tt) (exN d F (fun j => st j (tt j))) S2 := by
  obtain ⟨⟨hL, hV, hd, hU⟩, ⟨a1, a2, a3, a4, a5⟩, b1, b2, b3, b4, b5⟩ := h
  have hvs : ∀ j, j ≤ k → VS I (st j) L := by
    intro j
    induction j with
    | zero => intro _; rw [h0]; exact hV d (Nat.le_refl d)
    | succ j ih =>
      intro hj
      rw [(hs j (by omega)).1]
      exact VS_step hO (ih (by omega)) (hs j (by omega)).2.1 (hs j (by omega)).2.2
  have eW : ∀ j, exW d ws st (d + j) = st j := fun j => by
    unfold exW
    by_cases q : d + j ≤ d
    · rw [if_pos q, show j = 0 by omega, Nat.add_zero, h0]
    · rw [if_neg q, show d + j - d = j by omega]
  have eN : ∀ (f g : Nat → Nat) j, exN d f g (d + j) = g j := fun f g j => by
    unfold exN
    rw [if_neg (by omega), show d + j - d = j by omega]
  have eT : ∀ (f g : Nat → Nat) i, i < d → exN d f g i = f i := fun f g i hi => if_pos hi
  have spl : ∀ i, i < d + k → i < d ∨ ∃ j, j < k ∧ i = d + j := fun i hi => by
    by_cases q : i < d
    · exact Or.inl q
    · exact Or.inr ⟨i - d, by omega, by omega⟩
  refine ⟨⟨hL, fun i hi => ?_, hk, fun i hi => ?_⟩, ⟨by rw [eW]; exact h1, h2, h3, fun i hi => ?_, fun i hi => ?_⟩, fun t ht => by rw [eW]; exact g1 t ht, g2, g3, fun i hi => ?_, fun i hi => ?_⟩
  · by_cases q : i ≤ d
    · show VS I (if i ≤ d then ws i else st (i - d)) L
      rw [if_pos q]; exact hV i q
    · rw [show i = d + (i - d) by omega, eW]; exact hvs _ (by omega)
  · rcases spl i hi with q | ⟨j, hj, rfl⟩
    · have e1 : exW d ws st i = ws i := if_pos (by omega)
      have e2 : exW d ws st (i + 1) = ws (i + 1) := if_pos (by omega)
      rw [e1, e2, eT _ _ i q, eT _ _ i q]
      exact hU i q
    · rw [eW, show d + j + 1 = d + (j + 1) by omega, eW, eN, eN, (hs j hj).1]
      have hw := (hvs j (by omega)).ok hO
      refine ⟨?_, (hs j hj).2.1, hw.w7 hO _ (hs j hj).2.1, hw⟩
      funext u
      by_cases z : u = tt j
      · rw [z, upW_eq]
      · rw [upW_ne z, upW_ne z]
  · rcases spl i hi with q | ⟨j, hj, rfl⟩
    · rw [eT _ _ i q]; exact (h4 i q).1.trans (a4 i q)
    · rw [eN]; exact (h5 j hj).1
  · rcases spl i hi with q | ⟨j, hj, rfl⟩
    · rw [eT _ _ i q]; exact (h4 i q).2.trans (a5 i q)
    · rw [eN]; exact (h5 j hj).2
  · rcases spl i hi with q | ⟨j, hj, rfl⟩
    · rw [eT _ _ i q]; exact (g4 i q).1.trans (b4 i q)
    · rw [eN]; exact (g5 j hj).1
  · rcases spl i hi with q | ⟨j, hj, rfl⟩
    · rw [eT _ _ i q]; exact (g4 i q).2.trans (b5 i q)
    · rw [eN]; exact (g5 j hj).2
/-- places alone have changed -/
theorem RelP.plc {I : Isl} {L d c : Nat} {ws : Nat → Nat → Nat} {T F sw si kc kl : Nat → Nat} {S S' : St} (h : RelP I L d c ws T F sw si kc kl S) (e : ∀ a b, ¬ Scr a b → ¬ ((35 ≤ a ∧ a ≤ 39) ∨ (60 ≤ a ∧ a ≤ 62) ∨ (a = 83 ∧ (b = 17 ∨ b = 29)) ∨ a = 93 ∨ a = 98 ∨ a = 99) → S'.1 a b = S.1 a b) (es : ∀ a b, (a = 45 ∨ (68 ≤ a ∧ a ≤ 77)) → S'.1 a b = S.1 a b) (el : S'.2 = S.2) {L' d' : Nat} {ws' : Nat → Nat → Nat} {T' F' : Nat → Nat} (hp : GP I L' d' ws' T' F' S') : Rel S' := by
  obtain ⟨h1, h2, h3, h4, h5, h6, h7, h8⟩ := h
  have e' : ∀ a b, (¬ Scr a b ∧ ¬ ((35 ≤ a ∧ a ≤ 39) ∨ (60 ≤ a ∧ a ≤ 62) ∨ (a = 83 ∧ (b = 17 ∨ b = 29)) ∨ a = 93 ∨ a = 98 ∨ a = 99)) → S'.1 a b = S.1 a b := fun a b k => e a b k.1 k.2
  unfold Scr at e'
  exact ⟨I, L', d', c, ws', T', F', sw, si, kc, kl, h1.keep (fun a b k => e' a b (by omega)), hp, h3.keep (fun a b k => e' a b (by omega)), h4.keep (fun a b k => e' a b (by omega)), h5.kp es, h6.keep (fun a b k => e' a b (by omega)) (fun b _ => by rw [el]; exact ⟨rfl, rfl⟩), h7.keep (fun a b k => e' a b (by omega)), h8.keep (fun a b k => e' a b (by omega))⟩

set_option maxHeartbeats 1000000 in
theorem pr_step {S : St} (h : Rel S) {x y : Int32} : C 5 150 yX10_step mX10_step [.ref 0, .int x, .int y] S (qi (Nx 4 120 yX11_step mX11_step [.ref 83, .int x, .int y])) := by
  obtain ⟨I, L, d, c, ws, T, F, sw, si, kc, kl, hR⟩ := h
  obtain ⟨⟨hO, hI, hT, hIM⟩, ⟨⟨⟨hL1, hL7⟩, hVs, hd, hU⟩, ⟨hP, hL, h60, h61, h62⟩, hmp⟩, ⟨hc8, ⟨h63, hs⟩, hmn⟩, ⟨hk, hmk⟩, hsr, htd, hrw, htx⟩ := id hR
  have hv := hVs d (Nat.le_refl d)
  have hok := hv.okc hO
  refine cl4 ((c_X10_step hI hO hP hL hL7 hv h60 hd (fun t to ht _ hm => (VS_step hO hv ht hm).ok hO))) ?_ ?_ ?_ ?_
  · intro q0 r S1 hc
    obtain ⟨rfl, hS⟩ := hc
    have e1 : ∀ a b, 83 ≤ a → S1.1 a b = S.1 a b := by rw [hS]; exact (fun _ _ _ => rfl)
    obtain ⟨mI, ⟨m93, m17, m29, m98, m99⟩, ⟨m42, mN⟩, mK, mW, mB⟩ := hR.mod (S' := S1) e1
    refine md4_0 (u4 (c_X11_step mI hO m93 m17 hL7 hv m29 hd)) q0 (fun r' S2 hm => ?_)
    obtain ⟨rfl, hS2⟩ := hm
    subst hS2
    subst hS
    first | exact ⟨rfl, hR.rel⟩ | exact ⟨rfl, (hR.lk _).rel⟩
  · intro q0 q1 r S1 hc
    obtain ⟨rfl, hS⟩ := hc
    have e1 : ∀ a b, 83 ≤ a → S1.1 a b = S.1 a b := by rw [hS]; exact (fun _ _ _ => rfl)
    obtain ⟨mI, ⟨m93, m17, m29, m98, m99⟩, ⟨m42, mN⟩, mK, mW, mB⟩ := hR.mod (S' := S1) e1
    refine md4_1 (u4 (c_X11_step mI hO m93 m17 hL7 hv m29 hd)) q0 q1 (fun r' S2 hm => ?_)
    obtain ⟨rfl, hS2⟩ := hm
    subst hS2
    subst hS
    first | exact ⟨rfl, hR.rel⟩ | exact ⟨rfl, (hR.lk _).rel⟩
  · intro q0 q1 q2 r S1 hc
    obtain ⟨rfl, hS⟩ := hc
    have e1 : ∀ a b, 83 ≤ a → S1.1 a b = S.1 a b := by rw [hS]; exact (fun _ _ _ => rfl)
    obtain ⟨mI, ⟨m93, m17, m29, m98, m99⟩, ⟨m42, mN⟩, mK, mW, mB⟩ := hR.mod (S' := S1) e1
    refine md4_2 (u4 (c_X11_step mI hO m93 m17 hL7 hv m29 hd)) q0 q1 q2 (fun r' S2 hm => ?_)
    obtain ⟨rfl, hS2⟩ := hm
    subst hS2
    subst hS
    first | exact ⟨rfl, hR.rel⟩ | exact ⟨rfl, (hR.lk _).rel⟩
  · intro q0 q1 q2 r S1 hc
    have hc0 := hc
    obtain ⟨rfl, hc'⟩ := hc
    obtain ⟨-, hf, hp⟩ := hc'
    have hc : nI 1 = nI 1 ∧ Fr (fun a => 36 ≤ a ∧ a ≤ 39) (dnS S (tn x) (ws d (tn x)) d) S1 ∧ PlT 35 I (upW (ws d) (tn x) (tn y)) S1 ∧ S1.2 = S.2 ∧ ∀ a b, 83 ≤ a → S1.1 a b = S.1 a b := ⟨rfl, hf, hp, hf.1, fun a b h => (hf.2 a (by omega) b).trans (dnS_k (by omega))⟩
    have e1 : ∀ a b, 83 ≤ a → S1.1 a b = S.1 a b := (fun a b h => (hc.2.2.2.2 a b h))
    obtain ⟨mI, ⟨m93, m17, m29, m98, m99⟩, ⟨m42, mN⟩, mK, mW, mB⟩ := hR.mod (S' := S1) e1
    refine md4_3 (u4 (c_X11_step mI hO m93 m17 hL7 hv m29 hd)) q0 q1 q2 (fun r' S2 hm => ?_)
    obtain ⟨rfl, hS2⟩ := hm
    obtain ⟨-, hf, hp, hf2, -⟩ := hc
    refine ⟨rfl, ?_⟩
    obtain ⟨t, ht, rfl⟩ := nI_ex (x := x) (n := iM I) (by omega) (by omega)
    obtain ⟨to, hto, rfl⟩ : ∃ to : Nat, to < 7 ∧ y = nI to := by
      have hB := hO.2.2.2.1
      have hP4 := hO.1
      have hpl : plcI I y := by
        refine Classical.byContradiction fun k => q0 (fun z => k z.2)
      unfold plcI at hpl
      exact nI_ex (by omega) (by omega)
    rw [tnN (show t < 2147483648 by have := hO.2.1; omega), tnN (show to < 2147483648 by omega)] at hS2 hp q1
    rw [tnN (show t < 2147483648 by have := hO.2.1; omega)] at hf
    have hm := Classical.not_not.mp q1
    have eL : ∀ a b, 83 ≤ a → ¬ a = 97 → (lkS S1 (iM I)).1 a b = S.1 a b := fun a b h1 h2 => (lkS_k h2).trans (e1 a b h1)
    have eX : ∀ a b, a < 83 → S2.1 a b = S1.1 a b := fun a b h1 => by
      rw [hS2]
      exact (fc_set (by omega)).trans ((fc_set (by omega)).trans ((fc_set (by omega)).trans ((fc_set (by omega)).trans (lkS_k (by omega)))))
    have eM : ∀ a b, 83 ≤ a → ¬ a = 97 → ¬ (a = 98 ∧ b = d) → ¬ (a = 99 ∧ b = d) → ¬ (a = 83 ∧ b = 29) → ¬ (a = 93 ∧ b = t) → S2.1 a b = S.1 a b := fun a b h1 h2 h3 h4 h5 h6 => by
      rw [hS2]
      exact (fc_set h6).trans ((fc_set h5).trans ((fc_set h4).trans ((fc_set h3).trans (eL a b h1 h2))))
    have eF : ∀ a b, a < 83 → ¬ (36 ≤ a ∧ a ≤ 39) → ¬ (60 ≤ a ∧ a ≤ 62) → S2.1 a b = S.1 a b := fun a b h1 h2 h3 => (eX a b h1).trans ((hf.2 a (by omega) b).trans (dnS_k (by omega)))
    have d61 : S2.1 61 d = nI t := (eX 61 d (by decide)).trans ((hf.2 61 (by decide) d).trans ((rdI_k (by decide)).trans ((rdI_k (by decide)).trans rdI_eq)))
    have d62 : S2.1 62 d = nI (ws d t) := (eX 62 d (by decide)).trans ((hf.2 62 (by decide) d).trans ((rdI_k (by decide)).trans rdI_eq))
    have d60 : S2.1 60 0 = nI (d + 1) := (eX 60 0 (by decide)).trans ((hf.2 60 (by decide) 0).trans rdI_eq)
    have o61 : ∀ i, i < d → S2.1 61 i = S.1 61 i := fun i hi => (eX 61 i (by decide)).trans ((hf.2 61 (by decide) i).trans ((rdI_k (by decide)).trans ((rdI_k (by decide)).trans (rdI_j (by omega)))))
    have o62 : ∀ i, i < d → S2.1 62 i = S.1 62 i := fun i hi => (eX 62 i (by decide)).trans ((hf.2 62 (by decide) i).trans ((rdI_k (by decide)).trans ((rdI_j (by omega)).trans (rdI_k (by decide)))))
    refine hR.plc (fun a b k1 k2 => ?_) (fun a b k => eF a b (by omega) (by omega) (by omega)) ?_ (GP.steps (k := 1) (st := fun j => if j = 0 then ws d else upW (ws d) t to) (tt := fun _ => t) (to := fun _ => to) hO hR.2.1 (by omega) rfl (fun j hj => ?_) ?_ ((eF 35 5 (by decide) (by omega) (by omega)).trans hL) d60 (fun i hi => ⟨o61 i hi, o62 i hi⟩) (fun j hj => ?_) (fun u hu => ?_) ((eM 83 17 (by decide) (by decide) (by omega) (by omega) (by omega) (by omega)).trans hmp.2.1) ?_ (fun i hi => ⟨eM 98 i (by decide) (by decide) (by omega) (by omega) (by omega) (by omega), eM 99 i (by decide) (by decide) (by omega) (by omega) (by omega) (by omega)⟩) (fun j hj => ?_))
    · unfold Scr at k1
      by_cases k : 83 ≤ a
      · exact eM a b k (by omega) (by omega) (by omega) (by omega) (by omega)
      · exact eF a b (by omega) (by omega) (by omega)
    · rw [hS2]; exact hf2
    · obtain rfl : j = 0 := by omega
      exact ⟨rfl, ht, hm⟩
    · exact hp.keep (fun a h1 h2 b => eX a b (by omega))
    · obtain rfl : j = 0 := by omega
      exact ⟨d61, d62⟩
    · rw [hS2]
      show _ = nI (upW (ws d) t to u)
      by_cases z : u = t
      · rw [z, upW_eq]; exact rdI_eq
      · rw [upW_ne z]
        exact (rdI_j z).trans ((rdI_k (by decide)).trans ((rdI_k (by decide)).trans ((rdI_k (by decide)).trans ((eL 93 u (by decide) (by decide)).trans (hmp.1 u hu)))))
    · rw [hS2]; exact (rdI_k (by decide)).trans rdI_eq
    · obtain rfl : j = 0 := by omega
      rw [hS2]
      exact ⟨(rdI_k (by decide)).trans ((rdI_k (by decide)).trans ((rdI_k (by decide)).trans rdI_eq)), (rdI_k (by decide)).trans ((rdI_k (by decide)).trans rdI_eq)⟩

set_option maxHeartbeats 1000000 in
theorem pr_undo {S : St} (h : Rel S) {x : Int32} : C 4 120 yX10_undo mX10_undo [.ref 0, .int x] S (qi (Nx 1 30 yX11_undo mX11_undo [.ref 83, .int x])) := by
  obtain ⟨I, L, d, c, ws, T, F, sw, si, kc, kl, hR⟩ := h
  obtain ⟨⟨hO, hI, hT, hIM⟩, ⟨⟨⟨hL1, hL7⟩, hVs, hd, hU⟩, ⟨hP, hL, h60, h61, h62⟩, hmp⟩, ⟨hc8, ⟨h63, hs⟩, hmn⟩, ⟨hk, hmk⟩, hsr, htd, hrw, htx⟩ := id hR
  have hv := hVs d (Nat.le_refl d)
  have hok := hv.okc hO
  refine cl2 ((c_X10_undo hI hO hd hU h61 h62 (fun i hi => by have h := ((hVs i (Nat.le_of_lt hi)).1 (T i) (hU i hi).2.1).1; rwa [(hU i hi).1, upW_eq] at h) h60 hP)) ?_ ?_
  · intro q0 r S1 hc
    obtain ⟨rfl, hS⟩ := hc
    have e1 : ∀ a b, 83 ≤ a → S1.1 a b = S.1 a b := by rw [hS]; exact (fun _ _ _ => rfl)
    obtain ⟨mI, ⟨m93, m17, m29, m98, m99⟩, ⟨m42, mN⟩, mK, mW, mB⟩ := hR.mod (S' := S1) e1
    refine md2_0 (u2 (c_X11_undo mI hO hd hU m98 m99 m29 m93)) q0 (fun r' S2 hm => ?_)
    obtain ⟨rfl, hS2⟩ := hm
    subst hS2
    subst hS
    first | exact ⟨rfl, hR.rel⟩ | exact ⟨rfl, (hR.lk _).rel⟩
  · intro q0 r S1 hc
    obtain ⟨rfl, hc'⟩ := hc
    have hc : (∃ S3, Fr (fun a => 36 ≤ a ∧ a ≤ 39) S S3 ∧ PlT 35 I (ws (tn x)) S3 ∧ S1 = setI S3 60 0 (nI (tn x))) ∧ ∀ a b, 83 ≤ a → S1.1 a b = S.1 a b := ⟨hc', fun a b h => by
      obtain ⟨S3, f3, -, hS⟩ := hc'
      rw [hS]; exact (fc_set (by omega)).trans (f3.2 a (by omega) b)⟩
    have e1 : ∀ a b, 83 ≤ a → S1.1 a b = S.1 a b := (fun a b h => hc.2 a b h)
    obtain ⟨mI, ⟨m93, m17, m29, m98, m99⟩, ⟨m42, mN⟩, mK, mW, mB⟩ := hR.mod (S' := S1) e1
    refine md2_1 (u2 (c_X11_undo mI hO hd hU m98 m99 m29 m93)) q0 (fun r' S2 hm => ?_)
    obtain ⟨rfl, hS2⟩ := hm
    obtain ⟨⟨S3, f3, p3, hS⟩, -⟩ := hc
    refine ⟨rfl, ?_⟩
    obtain ⟨n, hn, rfl⟩ := nI_ex (x := x) (n := d + 1) (by omega) (by omega)
    rw [tnN (show n < 2147483648 by omega)] at hS2 p3 hS
    have eX : ∀ a b, a < 83 → S2.1 a b = S1.1 a b := fun a b h1 => by rw [hS2]; exact unS_k (by omega)
    have eS : ∀ a b, ¬ (36 ≤ a ∧ a ≤ 39) → ¬ (a = 60 ∧ b = 0) → S1.1 a b = S.1 a b := fun a b h1 h2 => by rw [hS]; exact (fc_set h2).trans (f3.2 a h1 b)
    have eM : ∀ a b, 83 ≤ a → ¬ a = 93 → ¬ (a = 83 ∧ b = 29) → S2.1 a b = S.1 a b := fun a b h1 h2 h3 => by
      rw [hS2, unS_d, if_neg (by omega), if_neg (by omega)]
      exact e1 a b h1
    refine hR.plc (L' := L) (d' := n) (ws' := ws) (T' := T) (F' := F) (fun a b k1 k2 => ?_) (fun a b k => (eX a b (by omega)).trans (eS a b (by omega) (by omega))) ?_ ⟨⟨⟨hL1, hL7⟩, fun i hi => hVs i (by omega), by omega, fun i hi => hU i (by omega)⟩, ⟨?_, ((eX 35 5 (by decide)).trans (eS 35 5 (by decide) (by omega))).trans hL, ?_, fun i hi => ((eX 61 i (by decide)).trans (eS 61 i (by decide) (by omega))).trans (h61 i (by omega)), fun i hi => ((eX 62 i (by decide)).trans (eS 62 i (by decide) (by omega))).trans (h62 i (by omega))⟩, fun t ht => ?_, (eM 83 17 (by decide) (by decide) (by omega)).trans hmp.2.1, ?_, fun i hi => (eM 98 i (by decide) (by decide) (by omega)).trans (hmp.2.2.2.1 i (by omega)), fun i hi => (eM 99 i (by decide) (by decide) (by omega)).trans (hmp.2.2.2.2 i (by omega))⟩
    · unfold Scr at k1
      by_cases k : 83 ≤ a
      · exact eM a b k (by omega) (by omega)
      · exact (eX a b (by omega)).trans (eS a b (by omega) (by omega))
    · have h9 : S2.2 = S1.2 := by rw [hS2]; rfl
      rw [h9, hS]; exact f3.1
    · refine p3.keep (fun a h1 h2 b => (eX a b (by omega)).trans ?_)
      rw [hS]; exact fc_set (by omega)
    · refine (eX 60 0 (by decide)).trans ?_
      rw [hS]; exact rdI_eq
    · rw [hS2, unS_d, if_pos ⟨rfl, ht⟩]
    · rw [hS2]; exact unS_29

theorem stD_congr {w v v' : Nat → Nat} : ∀ {k : Nat}, (∀ j, j < k → v j = v' j) → stD w v k = stD w v' k
  | 0, _ => rfl
  | k + 1, h => by rw [stD, stD, stD_congr (fun j hj => h j (Nat.lt_succ_of_lt hj)), h k (Nat.lt_succ_self k)]
theorem howD_congr {I : Isl} {L : Nat} {w v v' : Nat → Nat} {n k : Nat} (e : ∀ j, j < n → v j = v' j) (h : howD I L w v n k) : howD I L w v' n k := by
  obtain ⟨h1, h2, h3⟩ := h
  refine ⟨h1, fun j hj => ?_, ?_⟩
  · rw [← stD_congr (fun i hi => e i (by omega)), ← e j (by omega)]; exact h2 j hj
  · by_cases q : k = n
    · exact Or.inl q
    · right
      rw [← stD_congr (fun i hi => e i (by omega)), ← e k (by omega)]
      exact h3.resolve_left q

set_option maxHeartbeats 1000000 in
theorem pr_does {S : St} (h : Rel S) {x : Int32} : C 5 150 yX10_does mX10_does [.ref 0, .int x] S (qi (Nx 4 120 yX11_does mX11_does [.ref 83, .int x])) := by
  obtain ⟨I, L, d, c, ws, T, F, sw, si, kc, kl, hR⟩ := h
  obtain ⟨⟨hO, hI, hT, hIM⟩, ⟨⟨⟨hL1, hL7⟩, hVs, hd, hU⟩, ⟨hP, hL, h60, h61, h62⟩, hmp⟩, ⟨hc8, ⟨h63, hs⟩, hmn⟩, ⟨hk, hmk⟩, hsr, htd, hrw, htx⟩ := id hR
  have hv := hVs d (Nat.le_refl d)
  have hok := hv.okc hO
  refine cl5 ((c_X10_does hI hO hP hL hL7 hv hrw.1 h60 hd)) ?_ ?_ ?_ ?_ ?_
  · intro q0 r S1 hc
    obtain ⟨rfl, hS⟩ := hc
    have e1 : ∀ a b, 83 ≤ a → S1.1 a b = S.1 a b := by rw [hS]; exact (fun _ _ _ => rfl)
    obtain ⟨mI, ⟨m93, m17, m29, m98, m99⟩, ⟨m42, mN⟩, mK, mW, mB⟩ := hR.mod (S' := S1) e1
    refine md5_0 ((c_X11_does mI hO m93 m17 hL7 hv mW m29 hd)) q0 (fun r' S2 hm => ?_)
    obtain ⟨rfl, hS2⟩ := hm
    subst hS2
    subst hS
    first | exact ⟨rfl, hR.rel⟩ | exact ⟨rfl, (hR.lk _).rel⟩
  · intro q0 q1 r S1 hc
    obtain ⟨rfl, hS⟩ := hc
    have e1 : ∀ a b, 83 ≤ a → S1.1 a b = S.1 a b := by rw [hS]; exact (fun a b h => fndS_k (by omega) (by omega))
    obtain ⟨mI, ⟨m93, m17, m29, m98, m99⟩, ⟨m42, mN⟩, mK, mW, mB⟩ := hR.mod (S' := S1) e1
    refine md5_1 ((c_X11_does mI hO m93 m17 hL7 hv mW m29 hd)) q0 (by rw [e1 85 _ (by decide), hrw.2.1 _ (by unfold tn; omega)]; exact q1) (fun r' S2 hm => ?_)
    obtain ⟨rfl, hS2⟩ := hm
    subst hS2
    subst hS
    exact ⟨rfl, (hR.lf (by decide)).rel⟩
  · intro q0 q1 q2 r S1 hc
    obtain ⟨rfl, hS⟩ := hc
    have e1 : ∀ a b, 83 ≤ a → S1.1 a b = S.1 a b := by rw [hS]; exact (fun a b h => fndS_k (by omega) (by omega))
    obtain ⟨mI, ⟨m93, m17, m29, m98, m99⟩, ⟨m42, mN⟩, mK, mW, mB⟩ := hR.mod (S' := S1) e1
    refine md5_2 ((c_X11_does mI hO m93 m17 hL7 hv mW m29 hd)) q0 (by rw [e1 85 _ (by decide), hrw.2.1 _ (by unfold tn; omega)]; exact q1) (by have e85 : S1.1 85 (tn x) = S.1 4 (tn x) := (e1 85 _ (by decide)).trans (hrw.2.1 _ (by unfold tn; omega)); rw [e85]; exact fun k => q2 (fun j hj => by have h9 := k j hj; rw [(e1 86 _ (by decide)).trans (hrw.2.2 _ (by unfold tn; omega) j hj)] at h9; exact h9)) (fun r' S2 hm => ?_)
    obtain ⟨rfl, hS2⟩ := hm
    subst hS2
    subst hS
    exact ⟨rfl, (hR.lf (by decide)).rel⟩
  · intro q0 q1 q2 q3 r S1 hc
    obtain ⟨rfl, hS⟩ := hc
    have e1 : ∀ a b, 83 ≤ a → S1.1 a b = S.1 a b := by rw [hS]; exact (fun _ _ _ => rfl)
    obtain ⟨mI, ⟨m93, m17, m29, m98, m99⟩, ⟨m42, mN⟩, mK, mW, mB⟩ := hR.mod (S' := S1) e1
    refine md5_3 ((c_X11_does mI hO m93 m17 hL7 hv mW m29 hd)) q0 (by rw [e1 85 _ (by decide), hrw.2.1 _ (by unfold tn; omega)]; exact q1) (by have e85 : S1.1 85 (tn x) = S.1 4 (tn x) := (e1 85 _ (by decide)).trans (hrw.2.1 _ (by unfold tn; omega)); rw [e85]; exact fun k => q2 (fun h9 => k (fun j hj => by rw [(e1 86 _ (by decide)).trans (hrw.2.2 _ (by unfold tn; omega) j hj)]; exact h9 j hj))) (by rw [e1 85 _ (by decide), hrw.2.1 _ (by unfold tn; omega)]; exact q3) (fun r' S2 hm => ?_)
    obtain ⟨rfl, hS2⟩ := hm
    subst hS2
    subst hS
    first | exact ⟨rfl, hR.rel⟩ | exact ⟨rfl, (hR.lk _).rel⟩
  · intro q0 q1 q2 q3 r S1 hc
    have hc' := hc
    have hc : (∃ k, r = nI k ∧ howD I L (ws d) (fun j => tn (S.1 5 (tn x * 60 + j))) (tn (S.1 4 (tn x))) k ∧ DoX I S S1 d k (ws d) (fun j => tn (S.1 5 (tn x * 60 + j)))) ∧ ∀ a b, 83 ≤ a → S1.1 a b = S.1 a b := ⟨hc', fun a b h => by
      obtain ⟨k, -, -, h3⟩ := hc'
      exact h3.1.2 a (by omega) b⟩
    have e1 : ∀ a b, 83 ≤ a → S1.1 a b = S.1 a b := (fun a b h => hc.2 a b h)
    obtain ⟨mI, ⟨m93, m17, m29, m98, m99⟩, ⟨m42, mN⟩, mK, mW, mB⟩ := hR.mod (S' := S1) e1
    refine md5_4 ((c_X11_does mI hO m93 m17 hL7 hv mW m29 hd)) q0 (by rw [e1 85 _ (by decide), hrw.2.1 _ (by unfold tn; omega)]; exact q1) (by have e85 : S1.1 85 (tn x) = S.1 4 (tn x) := (e1 85 _ (by decide)).trans (hrw.2.1 _ (by unfold tn; omega)); rw [e85]; exact fun k => q2 (fun h9 => k (fun j hj => by rw [(e1 86 _ (by decide)).trans (hrw.2.2 _ (by unfold tn; omega) j hj)]; exact h9 j hj))) (by rw [e1 85 _ (by decide), hrw.2.1 _ (by unfold tn; omega)]; exact q3) (fun r' S2 hm => ?_)
    have e85 : S1.1 85 (tn x) = S.1 4 (tn x) := (e1 85 _ (by decide)).trans (hrw.2.1 _ (by unfold tn; omega))
    have e86 : ∀ j, j < tn (S.1 4 (tn x)) → S1.1 86 (60 * tn x + j) = S.1 5 (tn x * 60 + j) := fun j hj => (e1 86 _ (by decide)).trans (hrw.2.2 _ (by unfold tn; omega) j hj)
    obtain ⟨k', g1, g2, g3⟩ := hm
    obtain ⟨⟨k, rfl, h2, h3⟩, -⟩ := hc
    rw [e85] at g2
    have hv' : ∀ j, j < tn (S.1 4 (tn x)) → (fun j => tn (S1.1 86 (60 * tn x + j))) j = (fun j => tn (S.1 5 (tn x * 60 + j))) j := fun j hj => by show tn _ = tn _; rw [e86 j hj]
    have hkk := howD_one h2 (howD_congr hv' g2)
    subst hkk
    have hkn := h2.1
    have hsv : ∀ j, j ≤ k → stD (ws d) (fun j => tn (S1.1 86 (60 * tn x + j))) j = stD (ws d) (fun j => tn (S.1 5 (tn x * 60 + j))) j := fun j hj => stD_congr (fun i hi => hv' i (by omega))
    refine ⟨g1, ?_⟩
    obtain ⟨f1, f2, f3, f4, f5⟩ := h3
    obtain ⟨m1, m2, m3, m4, m5, m6⟩ := g3
    have hnum := Classical.not_not.mp q2
    generalize hvv : (fun j => tn (S.1 5 (tn x * 60 + j))) = v at h2 f2 f5 hsv hv'
    have hvt : ∀ j, j < k → v j / 7 < iM I := fun j hj => by
      have := (hnum j (by omega)).2.1
      rw [← hvv]
      exact this
    have eX : ∀ a b, a < 83 → S2.1 a b = S1.1 a b := fun a b h => m2 a (by omega) b (by omega)
    have eF : ∀ a b, a < 83 → ¬ (36 ≤ a ∧ a ≤ 39) → ¬ (60 ≤ a ∧ a ≤ 62) → S2.1 a b = S.1 a b := fun a b h1 h2 h3 => (eX a b h1).trans (f1.2 a (by omega) b)
    have eM : ∀ a b, 83 ≤ a → ¬ (a = 93 ∨ a = 97 ∨ a = 98 ∨ a = 99) → ¬ (a = 83 ∧ b = 29) → S2.1 a b = S.1 a b := fun a b h1 h2 h3 => (m2 a h2 b h3).trans (e1 a b h1)
    refine hR.plc (fun a b k1 k2 => ?_) (fun a b k => eF a b (by omega) (by omega) (by omega)) (m1.trans f1.1) (GP.steps (k := k) (st := stD (ws d) v) (tt := fun j => v j / 7) (to := fun j => v j % 7) hO hR.2.1 (by omega) rfl (fun j hj => ⟨rfl, hvt j hj, h2.2.1 j hj⟩) (f2.keep (fun a h1 h2 b => eX a b (by omega))) ((eF 35 5 (by decide) (by omega) (by omega)).trans hL) ((eX 60 0 (by decide)).trans f3) (fun i hi => ⟨(eX 61 i (by decide)).trans (f4 i hi).1, (eX 62 i (by decide)).trans (f4 i hi).2⟩) (fun j hj => ⟨(eX 61 _ (by decide)).trans (f5 j hj).1, (eX 62 _ (by decide)).trans (f5 j hj).2⟩) (fun t ht => ?_) ((eM 83 17 (by decide) (by decide) (by omega)).trans hmp.2.1) m4 (fun i hi => ⟨(m5 i hi).1.trans (e1 98 i (by decide)), (m5 i hi).2.trans (e1 99 i (by decide))⟩) (fun j hj => ?_))
    · unfold Scr at k1
      by_cases k : 83 ≤ a
      · exact eM a b k (by omega) (by omega)
      · exact eF a b (by omega) (by omega) (by omega)
    · rw [← hsv k (Nat.le_refl k)]; exact m3 t ht
    · have h9 := m6 j hj
      rw [hsv j (by omega), hv' j (by omega)] at h9
      exact h9
