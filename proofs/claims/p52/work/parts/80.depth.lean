/-! ===== no state that can be come to is farther than 60 steps ===== -/
theorem dq_mono {f g : Nat → Nat} : ∀ {n : Nat}, (∀ i, i < n → f i ≤ g i) → sm f n ≤ sm g n
  | 0, _ => Nat.le_refl _
  | n + 1, h => Nat.add_le_add (dq_mono (fun i hi => h i (Nat.lt_succ_of_lt hi))) (h n (Nat.lt_succ_self n))
theorem dq_lt {f g : Nat → Nat} {u d : Nat} : ∀ {n : Nat}, (∀ i, i < n → f i ≤ g i) → u < n → f u + d ≤ g u → sm f n + d ≤ sm g n
  | 0, _, hu, _ => absurd hu (Nat.not_lt_zero u)
  | n + 1, h, hu, hd => by
    rw [sm_s, sm_s]
    have hn := h n (Nat.lt_succ_self n)
    by_cases q : u = n
    · subst q
      have := dq_mono (f := f) (g := g) (n := u) (fun i hi => h i (Nat.lt_succ_of_lt hi))
      omega
    · have := dq_lt (f := f) (g := g) (u := u) (d := d) (n := n) (fun i hi => h i (Nat.lt_succ_of_lt hi)) (by omega) hd
      omega
theorem dq_pos {f : Nat → Nat} : ∀ {n : Nat}, 0 < sm f n → ∃ i, i < n ∧ 0 < f i
  | 0, h => absurd h (Nat.lt_irrefl 0)
  | n + 1, h => by
    rw [sm_s] at h
    by_cases q : 0 < f n
    · exact ⟨n, Nat.lt_succ_self n, q⟩
    · obtain ⟨i, hi, k⟩ := dq_pos (f := f) (n := n) (by omega)
      exact ⟨i, Nat.lt_succ_of_lt hi, k⟩
theorem dq_ge {f : Nat → Nat} {c : Nat} : ∀ {n : Nat}, (∀ i, i < n → c ≤ f i) → c * n ≤ sm f n
  | 0, _ => Nat.zero_le _
  | n + 1, h => by
    rw [sm_s, Nat.mul_succ]
    exact Nat.add_le_add (dq_ge (fun i hi => h i (Nat.lt_succ_of_lt hi))) (h n (Nat.lt_succ_self n))
theorem dq_plus (f g : Nat → Nat) : ∀ n : Nat, sm (fun i => f i + g i) n = sm f n + sm g n
  | 0 => rfl
  | n + 1 => by
    rw [sm_s, sm_s, sm_s, dq_plus f g n]
    omega
theorem dq_one (a k : Nat) : ∀ n : Nat, sm (fun p => if a = p then k else 0) n = if a < n then k else 0
  | 0 => rfl
  | n + 1 => by
    rw [sm_s, dq_one a k n]
    by_cases q : a = n
    · rw [if_pos q, if_neg (by omega), if_pos (by omega), Nat.zero_add]
    · rw [if_neg q]
      by_cases r : a < n
      · rw [if_pos r, if_pos (by omega), Nat.add_zero]
      · rw [if_neg r, if_neg (by omega)]
/-- what all the first P have together is what all have -/
theorem dq_tot {g x : Nat → Nat} {P : Nat} : ∀ {m : Nat}, (∀ t, t < m → 0 < g t → x t < P) → sm (fun p => sm (fun t => if x t = p then g t else 0) m) P = sm g m
  | 0, _ => sm_zero (fun _ _ => rfl)
  | m + 1, h => by
    have ih := dq_tot (g := g) (x := x) (P := P) (m := m) (fun t ht => h t (Nat.lt_succ_of_lt ht))
    rw [show (fun p => sm (fun t => if x t = p then g t else 0) (m + 1)) = (fun p => sm (fun t => if x t = p then g t else 0) m + (if x m = p then g m else 0)) from rfl, dq_plus, ih, dq_one, sm_s]
    by_cases q : x m < P
    · rw [if_pos q]
    · rw [if_neg q]
      have : ¬ 0 < g m := fun k => q (h m (Nat.lt_succ_self m) k)
      omega
theorem dq_pig {f : Nat → Nat} {c n : Nat} (h : sm f n + 1 ≤ c * n) : ∃ p, p < n ∧ f p + 1 ≤ c := Classical.byContradiction fun q => by
  have := dq_ge (f := f) (c := c) (n := n) (fun i hi => Classical.byContradiction fun k => q ⟨i, hi, by omega⟩)
  omega
/-- rows of steps -/
def pth (I : Isl) (L : Nat) : Nat → (Nat → Nat) → (Nat → Nat) → Prop
  | 0, w, w' => ∀ t, t < iM I → w' t = w t
  | n + 1, w, w' => ∃ t to, t < iM I ∧ mayF I w L t to ∧ pth I L n (upW w t to) w'
def dst (I : Isl) (L n : Nat) (w w' : Nat → Nat) : Prop := ∃ k, k ≤ n ∧ pth I L k w w'
theorem pth.congr {I : Isl} {L : Nat} (hO : IOK I) {w' : Nat → Nat} : ∀ {n : Nat} {w v : Nat → Nat}, VS I w L → (∀ u, u < iM I → v u = w u) → pth I L n w w' → pth I L n v w'
  | 0, w, v, _, h, hp => fun t ht => (hp t ht).trans (h t ht).symm
  | n + 1, w, v, hv, h, hp => by
    obtain ⟨t, to, ht, hm, hp⟩ := hp
    refine ⟨t, to, ht, (mayF_congr hO h ht (hv.ok hO)).mpr hm, pth.congr hO (VS_step hO hv ht hm) (fun u hu => ?_) hp⟩
    by_cases q : u = t
    · rw [q, upW_eq, upW_eq]
    · rw [upW_ne q, upW_ne q]; exact h u hu
theorem pth.vs {I : Isl} {L : Nat} (hO : IOK I) {w' : Nat → Nat} : ∀ {n : Nat} {w : Nat → Nat}, VS I w L → pth I L n w w' → VS I w' L
  | 0, w, hv, hp => hv.congr hO hp
  | n + 1, w, hv, hp => by
    obtain ⟨t, to, ht, hm, hp⟩ := hp
    exact pth.vs hO (VS_step hO hv ht hm) hp
theorem pth.trans {I : Isl} {L : Nat} (hO : IOK I) {k : Nat} {v u : Nat → Nat} : ∀ {n : Nat} {w : Nat → Nat}, VS I w L → pth I L n w v → pth I L k v u → pth I L (n + k) w u
  | 0, w, hv, h1, h2 => by
    rw [Nat.zero_add]
    exact pth.congr hO (hv.congr hO h1) (fun u hu => (h1 u hu).symm) h2
  | n + 1, w, hv, h1, h2 => by
    obtain ⟨t, to, ht, hm, hp⟩ := h1
    rw [show n + 1 + k = (n + k) + 1 by omega]
    exact ⟨t, to, ht, hm, pth.trans hO (VS_step hO hv ht hm) hp h2⟩
theorem pth.one {I : Isl} {L t to : Nat} {w : Nat → Nat} (ht : t < iM I) (hm : mayF I w L t to) : pth I L 1 w (upW w t to) := ⟨t, to, ht, hm, fun _ _ => rfl⟩
theorem pth.back {I : Isl} {L : Nat} (hO : IOK I) {w' : Nat → Nat} : ∀ {n : Nat} {w : Nat → Nat}, VS I w L → pth I L n w w' → pth I L n w' w
  | 0, w, hv, hp => fun t ht => (hp t ht).symm
  | n + 1, w, hv, hp => by
    obtain ⟨t, to, ht, hm, hp⟩ := hp
    have hv1 := VS_step hO hv ht hm
    have h1 : pth I L 1 (upW w t to) w := ⟨t, w t, ht, may_back hO hv ht hm, fun u hu => by
      by_cases q : u = t
      · rw [q, upW_eq]
      · rw [upW_ne q, upW_ne q]⟩
    exact pth.trans hO (pth.vs hO hv1 hp) (pth.back hO hv1 hp) h1
theorem dst.zero {I : Isl} {L n : Nat} {w w' : Nat → Nat} (h : ∀ t, t < iM I → w' t = w t) : dst I L n w w' := ⟨0, Nat.zero_le _, h⟩
theorem dst.one {I : Isl} {L t to : Nat} {w : Nat → Nat} (ht : t < iM I) (hm : mayF I w L t to) : dst I L 1 w (upW w t to) := ⟨1, Nat.le_refl _, pth.one ht hm⟩
theorem dst.le {I : Isl} {L n n' : Nat} {w w' : Nat → Nat} (h : dst I L n w w') (hn : n ≤ n') : dst I L n' w w' := by
  obtain ⟨k, h1, h2⟩ := h
  exact ⟨k, Nat.le_trans h1 hn, h2⟩
theorem dst.vs {I : Isl} {L n : Nat} (hO : IOK I) {w w' : Nat → Nat} (hv : VS I w L) (h : dst I L n w w') : VS I w' L := by
  obtain ⟨k, h1, h2⟩ := h
  exact h2.vs hO hv
theorem dst.trans {I : Isl} {L n k : Nat} (hO : IOK I) {w v u : Nat → Nat} (hv : VS I w L) (h : dst I L n w v) (h' : dst I L k v u) : dst I L (n + k) w u := by
  obtain ⟨a, a1, a2⟩ := h
  obtain ⟨b, b1, b2⟩ := h'
  exact ⟨a + b, Nat.add_le_add a1 b1, a2.trans hO hv b2⟩
theorem dst.back {I : Isl} {L n : Nat} (hO : IOK I) {w v : Nat → Nat} (hv : VS I w L) (h : dst I L n w v) : dst I L n v w := by
  obtain ⟨a, a1, a2⟩ := h
  exact ⟨a, a1, a2.back hO hv⟩
theorem bag_nliv {k : Nat} (h : bagK k) : ¬ livK k := fun q => by
  rcases h with h | h <;> rcases q with q | q <;> omega
/-- to the beach -/
theorem may_beach {I : Isl} {L t : Nat} {v : Nat → Nat} (hO : IOK I) (hv : VS I v L) (ht : t < iM I) (hl : ¬ livK (iK I t)) (hb : ∀ b, b < iB I → v t = 5 + b → v (iG I b) = 4) (h4 : ¬ v t = 4) : mayF I v L t 4 := by
  refine ⟨Or.inr ⟨Nat.le_refl _, by omega⟩, fun e => h4 e.symm, ?_⟩
  by_cases h5 : 5 ≤ v t
  · rw [if_pos h5]
    have hbb : v t - 5 < iB I := by have := (hv.ok hO).1 t ht; omega
    refine ⟨?_, Or.inl rfl⟩
    unfold whomF
    rw [if_neg (by omega)]
    exact (hb _ hbb (by omega)).symm
  · rw [if_neg h5, if_neg (by decide), if_pos rfl]
    exact hl
theorem sweep {I : Isl} {L : Nat} (hO : IOK I) {P : Nat → Prop} {G : (Nat → Nat) → Prop} (hP : ∀ v, VS I v L → G v → ∀ t, t < iM I → P t → ¬ v t = 4 → mayF I v L t 4) (hG : ∀ v t, G v → P t → G (upW v t 4)) {w : Nat → Nat} (hv : VS I w L) (hw : G w) : ∀ k, k ≤ iM I → ∃ v, dst I L k w v ∧ VS I v L ∧ G v ∧ (∀ t, ¬ (t < k ∧ P t) → v t = w t) ∧ ∀ t, t < k → P t → v t = 4
  | 0, _ => ⟨w, dst.zero (fun _ _ => rfl), hv, hw, fun _ _ => rfl, fun t h => absurd h (Nat.not_lt_zero t)⟩
  | k + 1, hk => by
    obtain ⟨v, h1, h2, h3, h4, h5⟩ := sweep hO hP hG hv hw k (by omega)
    by_cases q : P k ∧ ¬ v k = 4
    · have hm := hP v h2 h3 k (by omega) q.1 q.2
      refine ⟨upW v k 4, h1.trans hO hv (dst.one (by omega) hm), VS_step hO h2 (by omega) hm, hG v k h3 q.1, fun t ht => ?_, fun t ht hp => ?_⟩
      · have : ¬ t = k := fun e => ht ⟨by omega, by rw [e]; exact q.1⟩
        rw [upW_ne this]
        exact h4 t (fun r => ht ⟨by omega, r.2⟩)
      · by_cases e : t = k
        · rw [e, upW_eq]
        · rw [upW_ne e]; exact h5 t (by omega) hp
    · refine ⟨v, h1.le (Nat.le_succ k), h2, h3, fun t ht => h4 t (fun r => ht ⟨by omega, r.2⟩), fun t ht hp => ?_⟩
      by_cases e : t = k
      · subst e
        exact Classical.byContradiction fun r => q ⟨hp, r⟩
      · exact h5 t (by omega) hp
/-- a state with all that does not live on the beach -/
def BS (I : Isl) (L : Nat) (x : Nat → Nat) : Prop := VS I x L ∧ ∀ t, t < iM I → ¬ livK (iK I t) → x t = 4
theorem to_beach {I : Isl} {L : Nat} (hO : IOK I) {w : Nat → Nat} (hv : VS I w L) : ∃ x, dst I L 10 w x ∧ BS I L x ∧ ∀ t, livK (iK I t) → x t = w t := by
  obtain ⟨v, a1, a2, _, a4, a5⟩ := sweep hO (P := fun t => bagK (iK I t)) (G := fun _ => True) (fun v hv _ t ht hp h4 => may_beach hO hv ht (bag_nliv hp) (fun b hb e => by have := (hv.1 t ht).2.2 hp; omega) h4) (fun _ _ _ _ => trivial) hv trivial (iM I) (Nat.le_refl _)
  obtain ⟨x, b1, b2, _, b4, b5⟩ := sweep hO (P := fun t => ¬ bagK (iK I t) ∧ ¬ livK (iK I t)) (G := fun v => ∀ t, t < iM I → bagK (iK I t) → v t = 4) (fun v hv hg t ht hp h4 => may_beach hO hv ht hp.2 (fun b hb e => hg _ (hO.2.2.2.2.2.1 b hb).1 (hO.2.2.2.2.2.1 b hb).2) h4) (fun v t hg hp u hu hb => by
    by_cases e : u = t
    · rw [e, upW_eq]
    · rw [upW_ne e]; exact hg u hu hb) a2 (fun t ht hb => a5 t ht hb) (iM I) (Nat.le_refl _)
  have hm := hO.2.1
  refine ⟨x, (a1.trans hO hv b1).le (by omega), ⟨b2, fun t ht hl => ?_⟩, fun t hl => ?_⟩
  · by_cases q : bagK (iK I t)
    · rw [b4 t (fun r => r.2.1 q)]; exact a5 t ht q
    · exact b5 t ht ⟨q, hl⟩
  · rw [b4 t (fun r => r.2.2 hl), a4 t (fun r => bag_nliv r.2 hl)]
theorem liv_pl {I : Isl} {L t : Nat} {x : Nat → Nat} (hO : IOK I) (hv : VS I x L) (ht : t < iM I) (hl : livK (iK I t)) : x t < iP I := by
  have h := hv.1 t ht
  have h4 := h.2.1 hl
  have := h.1
  unfold plcF at this
  omega
theorem mv_may {I : Isl} {L t p : Nat} {x : Nat → Nat} (hO : IOK I) (hv : VS I x L) (ht : t < iM I) (hl : livK (iK I t)) (hp : p < iP I) (hne : ¬ p = x t) (hL : loadF I x p + wt (iK I t) ≤ L) : mayF I x L t p := by
  have hx := liv_pl hO hv ht hl
  have hP := hO.1
  refine ⟨Or.inl hp, hne, ?_⟩
  rw [if_neg (by omega), if_neg (by omega), if_neg (by omega)]
  exact Or.inr hL
theorem may_mv {I : Isl} {L t p : Nat} {x : Nat → Nat} (hO : IOK I) (hv : VS I x L) (ht : t < iM I) (hl : livK (iK I t)) (hm : mayF I x L t p) : p < iP I ∧ loadF I x p + wt (iK I t) ≤ L := by
  obtain ⟨h1, h2, h3⟩ := hm
  have hx := liv_pl hO hv ht hl
  have hP := hO.1
  rw [if_neg (by omega)] at h3
  by_cases h5 : 5 ≤ p
  · rw [if_pos h5] at h3; exact absurd hl h3.2.1
  · rw [if_neg h5] at h3
    by_cases h4 : p = 4
    · rw [if_pos h4] at h3; exact absurd hl h3
    · rw [if_neg h4] at h3
      unfold plcF at h1
      rcases h3 with h3 | h3
      · exact absurd h3 h4
      · exact ⟨by omega, h3⟩
theorem BS.up {I : Isl} {L t p : Nat} {x : Nat → Nat} (hO : IOK I) (h : BS I L x) (ht : t < iM I) (hl : livK (iK I t)) (hm : mayF I x L t p) : BS I L (upW x t p) :=
  ⟨VS_step hO h.1 ht hm, fun u hu hn => by
    rw [upW_ne (fun e => hn (by rw [e]; exact hl))]
    exact h.2 u hu hn⟩
noncomputable def gLv (I : Isl) (t : Nat) : Nat := i2 (livK (iK I t)) (wt (iK I t)) 0
def gHv (I : Isl) (t : Nat) : Nat := if iK I t = 5 then 1 else 0
noncomputable def WL (I : Isl) : Nat := sm (gLv I) (iM I)
def JL (I : Isl) : Nat := sm (gHv I) (iM I)
def hF (I : Isl) (x : Nat → Nat) (p : Nat) : Nat := sm (fun t => if x t = p then gHv I t else 0) (iM I)
theorem load_liv {I : Isl} {L p : Nat} {x : Nat → Nat} (hO : IOK I) (h : BS I L x) (hp : p < iP I) : loadF I x p = sm (fun t => if x t = p then gLv I t else 0) (iM I) := sm_congr fun t ht => by
  have hP := hO.1
  by_cases q : x t = p
  · rw [if_pos q, if_pos q]
    have : livK (iK I t) := Classical.byContradiction fun r => by have := h.2 t ht r; omega
    unfold gLv
    rw [e2_0 this]
  · rw [if_neg q, if_neg q]
theorem load_tot {I : Isl} {L : Nat} {x : Nat → Nat} (hO : IOK I) (h : BS I L x) : sm (fun p => loadF I x p) (iP I) = WL I := by
  rw [sm_congr (g := fun p => sm (fun t => if x t = p then gLv I t else 0) (iM I)) (fun p hp => load_liv hO h hp)]
  exact dq_tot (fun t ht hg => liv_pl hO h.1 ht (Classical.byContradiction fun r => by
    unfold gLv at hg
    rw [e2_1 r] at hg
    omega))
theorem gHv5 {I : Isl} {t : Nat} (h : iK I t = 5) : gHv I t = 1 := if_pos h
theorem h_tot {I : Isl} {L : Nat} {x : Nat → Nat} (hO : IOK I) (h : BS I L x) : sm (fun p => hF I x p) (iP I) = JL I :=
  dq_tot (fun t ht hg => liv_pl hO h.1 ht (Or.inr (Classical.byContradiction fun r => by
    unfold gHv at hg
    rw [if_neg r] at hg
    omega)))
theorem sm_two (f : Nat → Nat) (n : Nat) : sm (fun i => f i + f i) n = 2 * sm f n := by
  rw [dq_plus]; omega
theorem h_le {I : Isl} {x : Nat → Nat} {p : Nat} : 2 * hF I x p ≤ loadF I x p := by
  unfold hF loadF
  rw [← sm_two]
  refine dq_mono fun t ht => ?_
  by_cases q : x t = p
  · rw [if_pos q, if_pos q]
    unfold gHv
    by_cases r : iK I t = 5
    · rw [if_pos r, r]; decide
    · rw [if_neg r]; omega
  · rw [if_neg q, if_neg q]; omega
/-- who has more than beasts has a light one -/
theorem light_at {I : Isl} {L p : Nat} {x : Nat → Nat} (hO : IOK I) (h : BS I L x) (hp : p < iP I) (hg : 2 * hF I x p < loadF I x p) : ∃ t, t < iM I ∧ iK I t = 2 ∧ x t = p := Classical.byContradiction fun q => by
  have : loadF I x p ≤ 2 * hF I x p := by
    rw [load_liv hO h hp]
    unfold hF
    rw [← sm_two]
    refine dq_mono fun t ht => ?_
    by_cases k : x t = p
    · rw [if_pos k, if_pos k]
      unfold gLv gHv
      by_cases r : iK I t = 5
      · rw [if_pos r, e2_0 (show livK (iK I t) from Or.inr r), r]; decide
      · have : ¬ livK (iK I t) := fun z => z.elim (fun z => q ⟨t, ht, z, k⟩) r
        rw [if_neg r, e2_1 this]; omega
    · rw [if_neg k, if_neg k]; omega
  omega
theorem h_up {I : Isl} {x x' : Nat → Nat} {p : Nat} (h : ∀ t, t < iM I → iK I t = 5 → x' t = x t) : hF I x' p = hF I x p := sm_congr fun t ht => by
  unfold gHv
  by_cases r : iK I t = 5
  · rw [h t ht r]
  · rw [if_neg r]
    by_cases k : x t = p
    · rw [if_pos k]
      by_cases k' : x' t = p
      · rw [if_pos k']
      · rw [if_neg k']
    · rw [if_neg k]
      by_cases k' : x' t = p
      · rw [if_pos k']
      · rw [if_neg k']
theorem lv5 {I : Isl} {t : Nat} (h : iK I t = 5) : livK (iK I t) := Or.inr h
theorem lv2 {I : Isl} {t : Nat} (h : iK I t = 2) : livK (iK I t) := Or.inl h
theorem wt2 {I : Isl} {t : Nat} (h : iK I t = 2) : wt (iK I t) = 1 := by rw [h]; decide
theorem wt5 {I : Isl} {t : Nat} (h : iK I t = 5) : wt (iK I t) = 2 := by rw [h]; decide
/-- a beast goes to p, what is light there goes ahead of it -/
theorem mv_beast {I : Isl} {L v p : Nat} (hO : IOK I) (hF2 : WL I + 2 ≤ L * iP I) (hvt : v < iM I) (hv5 : iK I v = 5) (hp : p < iP I) : ∀ (d : Nat) (x : Nat → Nat), BS I L x → ¬ p = x v → 2 * hF I x p + 2 ≤ L → loadF I x p + 2 ≤ L + d →
    ∃ x', dst I L (d + 1) x x' ∧ BS I L x' ∧ x' v = p ∧ ∀ t, t < iM I → iK I t = 5 → ¬ t = v → x' t = x t := by
  intro d
  induction d with
  | zero =>
    intro x hb hne _ hl
    have hm := mv_may hO hb.1 hvt (lv5 hv5) hp hne (by rw [wt5 hv5]; omega)
    exact ⟨upW x v p, dst.one hvt hm, hb.up hO hvt (lv5 hv5) hm, upW_eq _ _ _, fun t _ _ e => upW_ne e⟩
  | succ d ih =>
    intro x hb hne hh hl
    by_cases q : loadF I x p + 2 ≤ L
    · have hm := mv_may hO hb.1 hvt (lv5 hv5) hp hne (by rw [wt5 hv5]; omega)
      exact ⟨upW x v p, (dst.one hvt hm).le (by omega), hb.up hO hvt (lv5 hv5) hm, upW_eq _ _ _, fun t _ _ e => upW_ne e⟩
    · obtain ⟨t, ht, ht2, htp⟩ := light_at hO hb hp (by omega)
      have htot := load_tot hO hb
      have hex : ∃ r, r < iP I ∧ ¬ r = p ∧ loadF I x r + 1 ≤ L := Classical.byContradiction fun z => by
        have h1 := dq_ge (f := fun r => if r = p then loadF I x r + 1 else loadF I x r) (c := L) (n := iP I) (fun i hi => by
          by_cases e : i = p
          · rw [if_pos e, e]; omega
          · rw [if_neg e]
            exact Classical.byContradiction fun k => z ⟨i, hi, e, by omega⟩)
        have h2 := sm_up (f := fun r => if r = p then loadF I x r + 1 else loadF I x r) (g := fun r => loadF I x r) (t := p) (fun i e => if_neg e) hp
        rw [if_pos rfl] at h2
        omega
      obtain ⟨r, hr, hrp, hrl⟩ := hex
      have hm := mv_may hO hb.1 ht (lv2 ht2) hr (by rw [htp]; exact hrp) (by rw [wt2 ht2]; exact hrl)
      have htv : ¬ t = v := fun e => by rw [e, hv5] at ht2; omega
      have hb1 := hb.up hO ht (lv2 ht2) hm
      have k1 := load_up (I := I) (w := x) (to := r) ht p
      rw [if_pos htp, if_neg hrp, wt2 ht2] at k1
      have hsame : ∀ u, u < iM I → iK I u = 5 → upW x t r u = x u := fun u _ h5 => upW_ne (fun e => by rw [e, ht2] at h5; omega)
      have k2 : hF I (upW x t r) p = hF I x p := h_up hsame
      obtain ⟨x', c1, c2, c3, c4⟩ := ih (upW x t r) hb1 (by rw [hsame v hvt hv5]; exact hne) (by rw [k2]; exact hh) (by omega)
      exact ⟨x', ((dst.one ht hm).trans hO hb.1 c1).le (by omega), c2, c3, fun u hu h5 e => (c4 u hu h5 e).trans (hsame u hu h5)⟩
theorem mv_beast3 {I : Isl} {L v p : Nat} (hO : IOK I) (hF2 : WL I + 2 ≤ L * iP I) (hvt : v < iM I) (hv5 : iK I v = 5) (hp : p < iP I) {x : Nat → Nat} (hb : BS I L x) (hne : ¬ p = x v) (hh : 2 * hF I x p + 2 ≤ L) :
    ∃ x', dst I L 3 x x' ∧ BS I L x' ∧ x' v = p ∧ ∀ t, t < iM I → iK I t = 5 → ¬ t = v → x' t = x t :=
  mv_beast hO hF2 hvt hv5 hp 2 x hb hne hh (by have := hb.1.2.2 p hp; omega)
/-- how many of a kind are elsewhere -/
def mis (I : Isl) (k : Nat) (x y : Nat → Nat) : Nat := sm (fun t => if iK I t = k ∧ ¬ x t = y t then 1 else 0) (iM I)
theorem mis_le {I : Isl} (hO : IOK I) {k : Nat} {x y : Nat → Nat} : mis I k x y ≤ 5 := by
  have h : mis I k x y ≤ 1 * iM I := sm_le (fun i _ => by
    by_cases q : iK I i = k ∧ ¬ x i = y i
    · rw [if_pos q]; exact Nat.le_refl _
    · rw [if_neg q]; exact Nat.zero_le _)
  have := hO.2.1
  omega
theorem mis_ex {I : Isl} {k : Nat} {x y : Nat → Nat} (h : 0 < mis I k x y) : ∃ t, t < iM I ∧ iK I t = k ∧ ¬ x t = y t := by
  obtain ⟨t, ht, hp⟩ := dq_pos h
  by_cases q : iK I t = k ∧ ¬ x t = y t
  · exact ⟨t, ht, q.1, q.2⟩
  · rw [if_neg q] at hp; omega
theorem mis_0 {I : Isl} {k : Nat} {x y : Nat → Nat} (h : mis I k x y = 0) : ∀ t, t < iM I → iK I t = k → x t = y t := fun t ht hk => Classical.byContradiction fun q => by
  have := dq_lt (f := fun _ => 0) (g := fun t => if iK I t = k ∧ ¬ x t = y t then 1 else 0) (u := t) (d := 1) (n := iM I) (fun _ _ => Nat.zero_le _) ht (by rw [if_pos ⟨hk, q⟩]; omega)
  unfold mis at h
  omega
theorem mis_lt {I : Isl} {k u : Nat} {x x' y : Nat → Nat} (hu : u < iM I) (hk : iK I u = k) (h1 : ¬ x u = y u) (h2 : x' u = y u) (h : ∀ t, t < iM I → iK I t = k → x t = y t → x' t = y t) : mis I k x' y + 1 ≤ mis I k x y := by
  refine dq_lt (u := u) (fun t ht => ?_) hu ?_
  · by_cases q : iK I t = k ∧ ¬ x' t = y t
    · rw [if_pos q, if_pos ⟨q.1, fun e => q.2 (h t ht q.1 e)⟩]; exact Nat.le_refl _
    · rw [if_neg q]; exact Nat.zero_le _
  · rw [if_neg (fun q => q.2 h2), if_pos ⟨hk, h1⟩]; exact Nat.le_refl _
theorem hF_lt {I : Isl} {u p : Nat} {x x' : Nat → Nat} (hu : u < iM I) (hk : iK I u = 5) (h1 : ¬ x u = p) (h2 : x' u = p) (h : ∀ t, t < iM I → iK I t = 5 → x t = p → x' t = p) : hF I x p + 1 ≤ hF I x' p := by
  refine dq_lt (u := u) (fun t ht => ?_) hu ?_
  · unfold gHv
    by_cases q : x t = p
    · rw [if_pos q]
      by_cases r : iK I t = 5
      · rw [if_pos r, if_pos (h t ht r q)]; exact Nat.le_refl _
      · rw [if_neg r]; exact Nat.zero_le _
    · rw [if_neg q]; exact Nat.zero_le _
  · rw [if_neg h1, if_pos h2, gHv5 hk]; exact Nat.le_refl _
theorem beast_step {I : Isl} {L : Nat} (hO : IOK I) (hF2 : WL I + 2 ≤ L * iP I) (hFh : JL I + 1 ≤ L / 2 * iP I) {x y : Nat → Nat} (hb : BS I L x) (hy : BS I L y) (h : 0 < mis I 5 x y) : ∃ x', dst I L 6 x x' ∧ BS I L x' ∧ mis I 5 x' y + 1 ≤ mis I 5 x y := by
  obtain ⟨u, hu, hu5, hne⟩ := mis_ex h
  have hr := liv_pl hO hy.1 hu (lv5 hu5)
  by_cases q : 2 * hF I x (y u) + 2 ≤ L
  · obtain ⟨x', c1, c2, c3, c4⟩ := mv_beast3 hO hF2 hu hu5 hr hb (fun e => hne e.symm) q
    refine ⟨x', c1.le (by decide), c2, mis_lt hu hu5 hne c3 (fun t ht h5 e => ?_)⟩
    rw [c4 t ht h5 (fun z => hne (by rw [← z]; exact e))]; exact e
  · have hev : ∃ v, v < iM I ∧ iK I v = 5 ∧ x v = y u ∧ ¬ y v = y u := Classical.byContradiction fun z => by
      have k := hF_lt (x := x) (x' := y) (p := y u) hu hu5 hne rfl (fun t ht h5 e => Classical.byContradiction fun r => z ⟨t, ht, h5, e, r⟩)
      have k2 := h_le (I := I) (x := y) (p := y u)
      have k3 := hy.1.2.2 (y u) hr
      omega
    obtain ⟨v, hv, hv5, hvx, hvy⟩ := hev
    obtain ⟨p, hp, hpl⟩ := dq_pig (f := fun p => hF I x p) (c := L / 2) (n := iP I) (by rw [h_tot hO hb]; exact hFh)
    have hpr : ¬ p = x v := fun e => q (by rw [← hvx, ← e]; omega)
    obtain ⟨x1, c1, c2, c3, c4⟩ := mv_beast3 hO hF2 hv hv5 hp hb hpr (by omega)
    have huv : ¬ u = v := fun e => hne (by rw [e, hvx, e])
    have hx1u : x1 u = x u := c4 u hu hu5 huv
    have k := hF_lt (x := x1) (x' := x) (p := y u) hv hv5 (by rw [c3, ← hvx]; exact hpr) hvx (fun t ht h5 e => by
      by_cases z : t = v
      · rw [z]; exact hvx
      · rw [← c4 t ht h5 z]; exact e)
    have k2 := h_le (I := I) (x := x) (p := y u)
    have k3 := hb.1.2.2 (y u) hr
    obtain ⟨x2, d1, d2, d3, d4⟩ := mv_beast3 hO hF2 hu hu5 hr c2 (by rw [hx1u]; exact fun e => hne e.symm) (by omega)
    refine ⟨x2, c1.trans hO hb.1 d1, d2, mis_lt hu hu5 hne d3 (fun t ht h5 e => ?_)⟩
    by_cases z : t = u
    · rw [z] at e; exact absurd e hne
    · have zv : ¬ t = v := fun z => hvy (by rw [← z, ← e, z]; exact hvx)
      rw [d4 t ht h5 z, c4 t ht h5 zv]; exact e
theorem beasts_go {I : Isl} {L : Nat} (hO : IOK I) (hF2 : WL I + 2 ≤ L * iP I) (hFh : JL I + 1 ≤ L / 2 * iP I) {y : Nat → Nat} (hy : BS I L y) : ∀ (n : Nat) (x : Nat → Nat), BS I L x → mis I 5 x y ≤ n → ∃ x', dst I L (6 * n) x x' ∧ BS I L x' ∧ mis I 5 x' y = 0
  | 0, x, hb, h => ⟨x, dst.zero (fun _ _ => rfl), hb, by omega⟩
  | n + 1, x, hb, h => by
    by_cases q : 0 < mis I 5 x y
    · obtain ⟨x1, c1, c2, c3⟩ := beast_step hO hF2 hFh hb hy q
      obtain ⟨x2, d1, d2, d3⟩ := beasts_go hO hF2 hFh hy n x1 c2 (by omega)
      exact ⟨x2, (c1.trans hO hb.1 d1).le (by omega), d2, d3⟩
    · exact ⟨x, dst.zero (fun _ _ => rfl), hb, by omega⟩
theorem light_step {I : Isl} {L : Nat} (hO : IOK I) (hF1 : WL I + 1 ≤ L * iP I) {x y : Nat → Nat} (hb : BS I L x) (hy : BS I L y) (h5 : mis I 5 x y = 0) (h : 0 < mis I 2 x y) : ∃ x', dst I L 2 x x' ∧ BS I L x' ∧ mis I 5 x' y = 0 ∧ mis I 2 x' y + 1 ≤ mis I 2 x y := by
  obtain ⟨u, hu, hu2, hne⟩ := mis_ex h
  have hr := liv_pl hO hy.1 hu (lv2 hu2)
  have hP := hO.1
  have h5' := mis_0 h5
  have keep5 : ∀ {z : Nat → Nat}, (∀ t, t < iM I → iK I t = 5 → z t = x t) → mis I 5 z y = 0 := fun {z} hz => sm_zero fun t ht => if_neg fun q => q.2 ((hz t ht q.1).trans (h5' t ht q.1))
  by_cases q : loadF I x (y u) + 1 ≤ L
  · have hm := mv_may hO hb.1 hu (lv2 hu2) hr (fun e => hne e.symm) (by rw [wt2 hu2]; exact q)
    refine ⟨upW x u (y u), (dst.one hu hm).le (by decide), hb.up hO hu (lv2 hu2) hm, keep5 (fun t ht k5 => upW_ne (fun e => by rw [e, hu2] at k5; omega)), mis_lt hu hu2 hne (upW_eq _ _ _) (fun t ht _ e => ?_)⟩
    rw [upW_ne (fun z => hne (by rw [← z]; exact e))]; exact e
  · have hev : ∃ v, v < iM I ∧ iK I v = 2 ∧ x v = y u ∧ ¬ y v = y u := Classical.byContradiction fun z => by
      have k : loadF I x (y u) + 1 ≤ loadF I y (y u) := by
        refine dq_lt (u := u) (fun t ht => ?_) hu ?_
        · by_cases e : x t = y u
          · have hlv : livK (iK I t) := Classical.byContradiction fun r => by have := hb.2 t ht r; omega
            have : y t = y u := by
              rcases hlv with k2 | k5
              · exact Classical.byContradiction fun r => z ⟨t, ht, k2, e, r⟩
              · rw [← h5' t ht k5]; exact e
            rw [if_pos e, if_pos this]; exact Nat.le_refl _
          · rw [if_neg e]; exact Nat.zero_le _
        · rw [if_neg hne, if_pos rfl, wt2 hu2]; exact Nat.le_refl _
      have k3 := hy.1.2.2 (y u) hr
      omega
    obtain ⟨v, hv, hv2, hvx, hvy⟩ := hev
    obtain ⟨p, hp, hpl⟩ := dq_pig (f := fun p => loadF I x p) (c := L) (n := iP I) (by rw [load_tot hO hb]; exact hF1)
    have hpr : ¬ p = x v := fun e => q (by rw [← hvx, ← e]; exact hpl)
    have hm := mv_may hO hb.1 hv (lv2 hv2) hp hpr (by rw [wt2 hv2]; exact hpl)
    have hb1 := hb.up hO hv (lv2 hv2) hm
    have huv : ¬ u = v := fun e => hne (by rw [e, hvx, e])
    have k1 := load_up (I := I) (w := x) (to := p) hv (y u)
    rw [if_pos hvx, if_neg (by rw [← hvx]; exact hpr), wt2 hv2] at k1
    have k3 := hb.1.2.2 (y u) hr
    have hm2 := mv_may hO hb1.1 hu (lv2 hu2) hr (by rw [upW_ne huv]; exact fun e => hne e.symm) (by rw [wt2 hu2]; omega)
    refine ⟨upW (upW x v p) u (y u), (dst.one hv hm).trans hO hb.1 (dst.one hu hm2), hb1.up hO hu (lv2 hu2) hm2, keep5 (fun t ht k5 => ?_), mis_lt hu hu2 hne (upW_eq _ _ _) (fun t ht _ e => ?_)⟩
    · rw [upW_ne (fun e => by rw [e, hu2] at k5; omega), upW_ne (fun e => by rw [e, hv2] at k5; omega)]
    · rw [upW_ne (fun z => hne (by rw [← z]; exact e)), upW_ne (fun z => hvy (by rw [← z, ← e, z]; exact hvx))]; exact e
theorem lights_go {I : Isl} {L : Nat} (hO : IOK I) (hF1 : WL I + 1 ≤ L * iP I) {y : Nat → Nat} (hy : BS I L y) : ∀ (n : Nat) (x : Nat → Nat), BS I L x → mis I 5 x y = 0 → mis I 2 x y ≤ n → dst I L (2 * n) x y
  | 0, x, hb, h5, h => dst.zero (fun t ht => by
    by_cases q : livK (iK I t)
    · rcases q with q | q
      · exact (mis_0 (show mis I 2 x y = 0 by omega) t ht q).symm
      · exact (mis_0 h5 t ht q).symm
    · rw [hb.2 t ht q, hy.2 t ht q])
  | n + 1, x, hb, h5, h => by
    by_cases q : 0 < mis I 2 x y
    · obtain ⟨x1, c1, c2, c3, c4⟩ := light_step hO hF1 hb hy h5 q
      exact (c1.trans hO hb.1 (lights_go hO hF1 hy n x1 c2 c3 (by omega))).le (by omega)
    · exact (lights_go hO hF1 hy n x hb h5 (by omega)).le (by omega)
/-- what a step of a living one shows of the room there is -/
theorem room_of {I : Isl} {L t p : Nat} {w : Nat → Nat} (hO : IOK I) (hv : VS I w L) (ht : t < iM I) (hl : livK (iK I t)) (hm : mayF I w L t p) : WL I + wt (iK I t) ≤ L * iP I ∧ (iK I t = 5 → JL I + 1 ≤ L / 2 * iP I) := by
  obtain ⟨x, -, hb, hx⟩ := to_beach hO hv
  obtain ⟨hp, hpl⟩ := may_mv hO hv ht hl hm
  have hP := hO.1
  have hle : loadF I x p ≤ loadF I w p := dq_mono fun u hu => by
    by_cases q : x u = p
    · have hlu : livK (iK I u) := Classical.byContradiction fun r => by have := hb.2 u hu r; omega
      rw [if_pos q, if_pos (by rw [← hx u hlu]; exact q)]; exact Nat.le_refl _
    · rw [if_neg q]; exact Nat.zero_le _
  have hc : ∀ n c, sm (fun _ => c) n = c * n := fun n c => Nat.le_antisymm (sm_le (fun _ _ => Nat.le_refl _)) (dq_ge (fun _ _ => Nat.le_refl _))
  refine ⟨?_, fun h5 => ?_⟩
  · rw [← load_tot hO hb, ← hc (iP I) L]
    exact dq_lt (u := p) (fun i hi => hb.1.2.2 i hi) hp (by omega)
  · rw [← h_tot hO hb, ← hc (iP I) (L / 2)]
    refine dq_lt (u := p) (fun i hi => ?_) hp ?_
    · have a := h_le (I := I) (x := x) (p := i)
      have b := hb.1.2.2 i hi
      omega
    · have a := h_le (I := I) (x := x) (p := p)
      rw [wt5 h5] at hpl
      omega
theorem stay {I : Isl} {L : Nat} (hO : IOK I) {P : Nat → Prop} (hP : ∀ t, P t → livK (iK I t)) (hn : ∀ t, t < iM I → P t → ∀ w p, VS I w L → ¬ mayF I w L t p) {w' : Nat → Nat} : ∀ (n : Nat) (w : Nat → Nat), VS I w L → pth I L n w w' → ∀ t, t < iM I → P t → w' t = w t
  | 0, w, _, h, t, ht, _ => h t ht
  | n + 1, w, hv, h, t, ht, hp => by
    obtain ⟨u, to, hu, hm, h⟩ := h
    rw [stay hO hP hn n _ (VS_step hO hv hu hm) h t ht hp]
    exact upW_ne (fun e => hn u hu (by rw [← e]; exact hp) w to hv hm)
theorem geo {I : Isl} {L n : Nat} (hO : IOK I) {w w' : Nat → Nat} (hv : VS I w L) (h : pth I L n w w') : dst I L 60 w w' := by
  have hv' := h.vs hO hv
  obtain ⟨x, a1, a2, a3⟩ := to_beach hO hv
  obtain ⟨y, b1, b2, b3⟩ := to_beach hO hv'
  have key : dst I L 40 x y := by
    by_cases q : WL I + 2 ≤ L * iP I ∧ JL I + 1 ≤ L / 2 * iP I
    · obtain ⟨x1, c1, c2, c3⟩ := beasts_go hO q.1 q.2 b2 5 x a2 (mis_le hO)
      exact c1.trans hO a2.1 (lights_go hO (by omega) b2 5 x1 c2 c3 (mis_le hO))
    · have h5 : ∀ t, t < iM I → iK I t = 5 → w' t = w t := stay hO (P := fun t => iK I t = 5) (fun t k => lv5 k) (fun t ht k v p hv hm => q (by
        have := room_of hO hv ht (lv5 k) hm
        rw [wt5 k] at this
        exact ⟨this.1, this.2 k⟩)) n w hv h
      have h5' : mis I 5 x y = 0 := sm_zero fun t ht => if_neg fun r => r.2 (by rw [a3 t (lv5 r.1), b3 t (lv5 r.1), h5 t ht r.1])
      by_cases r : WL I + 1 ≤ L * iP I
      · exact (lights_go hO r b2 5 x a2 h5' (mis_le hO)).le (by decide)
      · have h2 : ∀ t, t < iM I → livK (iK I t) → w' t = w t := stay hO (P := fun t => livK (iK I t)) (fun t k => k) (fun t ht k v p hv hm => r (by
          have := (room_of hO hv ht k hm).1
          have := wt_pos (iK I t)
          omega)) n w hv h
        exact dst.zero (fun t ht => by
          by_cases z : livK (iK I t)
          · rw [a3 t z, b3 t z, h2 t ht z]
          · rw [a2.2 t ht z, b2.2 t ht z])
  exact (a1.trans hO hv (key.trans hO a2.1 (b1.back hO hv'))).le (by decide)
/-- a row of steps leads through the search's states -/
theorem pth_R {I : Isl} {L c0 : Nat} (hO : IOK I) (h0 : OKc I L c0) {w' : Nat → Nat} : ∀ (n : Nat) (w : Nat → Nat) (j0 : Nat), j0 < rC (fR I L c0) → (∀ t, t < iM I → w t = digF (rK (fR I L c0) j0) t) → pth I L n w w' → ∃ j, j < rC (fR I L c0) ∧ (∀ t, t < iM I → w' t = digF (rK (fR I L c0) j) t) ∧ rD (fR I L c0) j ≤ rD (fR I L c0) j0 + n
  | 0, w, j0, hj, hw, h => ⟨j0, hj, fun t ht => (h t ht).trans (hw t ht), Nat.le_refl _⟩
  | n + 1, w, j0, hj, hw, h => by
    obtain ⟨t, to, ht, hm, h⟩ := h
    have hinv := fR_inv hO h0
    have hok := hinv.2.2.1 j0 hj
    have hm1 := (mayF_congr hO hw ht (hok.2.ok hO)).mp hm
    have hto : to < 7 := by
      have := hm1.1
      have := hO.1
      have := hO.2.2.2.1
      unfold plcF at *
      omega
    have e1 : (7 * t + to) / 7 = t := by omega
    have e2 : (7 * t + to) % 7 = to := by omega
    have hmb : mb I L (rK (fR I L c0) j0) (7 * t + to) = true := mb_iff.mpr (by rw [e1, e2]; exact hm1)
    obtain ⟨k, k1, k2, -⟩ := hinv.2.2.2.2.1 j0 (7 * t + to) hj (Or.inl (by have := (bN_ok hO h0).2; omega)) (by omega) hmb
    have hdep := adj_depth hO h0 hj k1 ⟨7 * t + to, by omega, hmb, k2.symm⟩
    have hv2 := VS_step hO hok.2 ht hm1
    obtain ⟨j, j1, j2, j3⟩ := pth_R hO h0 n (upW w t to) k k1 (fun u hu => by
      rw [k2]
      unfold nx
      rw [e1, e2]
      rw [show digF (codeF I (upW (digF (rK (fR I L c0) j0)) t to)) u = upW (digF (rK (fR I L c0) j0)) t to u from dig_code ((hv2.ok hO).w7 hO) u hu]
      by_cases z : u = t
      · rw [z, upW_eq, upW_eq]
      · rw [upW_ne z, upW_ne z]; exact hw u hu) h
    exact ⟨j, j1, j2, by omega⟩
theorem R_pth {I : Isl} {L c0 : Nat} (hO : IOK I) (h0 : OKc I L c0) : ∀ j, j < rC (fR I L c0) → ∃ n, pth I L n (digF c0) (digF (rK (fR I L c0) j)) := by
  intro j
  induction j using Nat.strongRecOn with
  | _ j ih =>
    intro hj
    have hinv := fR_inv hO h0
    by_cases q : j = 0
    · rw [q, hinv.1.2.1]
      exact ⟨0, fun _ _ => rfl⟩
    · obtain ⟨a, b, c, d, -, -⟩ := hinv.2.2.2.1 j (by omega) hj
      obtain ⟨n, hn⟩ := ih _ a (by omega)
      have hok := hinv.2.2.1 (rB (fR I L c0) j) (by omega)
      have hm := mb_iff.mp c
      have ht : rY (fR I L c0) j / 7 < iM I := by omega
      have hv2 := VS_step hO hok.2 ht hm
      refine ⟨n + 1, hn.trans hO h0.2 ⟨_, _, ht, hm, fun u hu => ?_⟩⟩
      rw [← d]
      exact dig_code ((hv2.ok hO).w7 hO) u hu
theorem depth60 {I : Isl} {L c0 : Nat} (hO : IOK I) (h0 : OKc I L c0) : ∀ j, j < rC (fR I L c0) → rD (fR I L c0) j ≤ 60 := fun j hj => by
  have hinv := fR_inv hO h0
  obtain ⟨n, hn⟩ := R_pth hO h0 j hj
  obtain ⟨k, k1, k2⟩ := geo hO h0.2 hn
  obtain ⟨j', a, b, c⟩ := pth_R hO h0 k (digF c0) 0 hinv.1.1 (fun t ht => by rw [hinv.1.2.1]) k2
  have hc1 := code_dig (hinv.2.2.1 j hj).1
  have hc2 := code_dig (hinv.2.2.1 j' a).1
  have e : codeN (iM I) (digF (rK (fR I L c0) j)) = codeN (iM I) (digF (rK (fR I L c0) j')) := sm_congr fun t ht => by rw [b t ht]
  have : j = j' := hinv.2.1 j j' hj a (by rw [← hc1, ← hc2]; exact e)
  rw [hinv.1.2.2] at c
  rw [this]
  omega

