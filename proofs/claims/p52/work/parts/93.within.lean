/-! ===== within ===== -/
/-- what is told alone has changed -/
def As (S S1 : St) : Prop := S1.2 = S.2 ∧ ∀ a b, ¬ (a = 1 ∧ b = 0) → S1.1 a b = S.1 a b
theorem As.refl {S : St} : As S S := ⟨rfl, fun _ _ _ => rfl⟩
theorem As.trans {S S1 S2 : St} (h : As S S1) (h' : As S1 S2) : As S S2 := ⟨h'.1.trans h.1, fun a b q => (h'.2 a b q).trans (h.2 a b q)⟩
theorem As.set {S S1 : St} {v : Int32} (h : As S S1) : As S (setI S1 1 0 v) := ⟨h.1, fun a b q => by
  by_cases z : a = 1
  · subst z
    rw [rdI_j (by omega)]; exact h.2 1 b q
  · rw [rdI_k z]; exact h.2 a b q⟩
theorem As.I {I : Isl} {S S1 : St} (h : As S S1) (hI : IsX 11 I S) : IsX 11 I S1 := hI.keep (fun a h1 h2 b => h.2 a b (by omega))
theorem As.T {I : Isl} {S S1 : St} (h : As S S1) (hT : IsT I S) : IsT I S1 := hT.keep (fun a b hab => h.2 a b (by omega))
theorem As.P {I : Isl} {w : Nat → Nat} {S S1 : St} (h : As S S1) (hP : PlT 35 I w S) : PlT 35 I w S1 := hP.keep (fun a h1 h2 b => h.2 a b (by omega))
theorem c_loadA {S S1 : St} {I : Isl} {w : Nat → Nat} {p : Nat} (h : As S S1) (hI : IsX 11 I S) (hO : IOK I) (hP : PlT 35 I w S) (hp : p < iP I) : C 1 30 yX10_load mX10_load [.ref 0, .int (nI p)] S1 (qi (fun r S' => r = nI (loadF I w p) ∧ S'.1 1 0 = nI (heldF I w p) ∧ As S S')) := by
  have hO1 := hO.1
  have ep : (nI p).toInt = (p : Int) := tiN (by omega)
  have tp : tn (nI p) = p := tnN (by omega)
  refine (c_X10_load (x := nI p) (h.I hI) hO (h.P hP)).mono (fun v S' hq => ?_)
  obtain ⟨rfl, rfl⟩ := hq
  rw [e2_1 (by omega), e2_1 (by omega), tp]
  exact ⟨_, rfl, rfl, rdI_eq, h.set⟩
theorem c_thingA {S S1 : St} {I : Isl} {w : Nat → Nat} {L t k : Nat} {x : Int32} (h : As S S1) (hI : IsX 11 I S) (hO : IOK I) (hP : PlT 35 I w S) (hL : S.1 35 5 = nI L) (hL7 : L ≤ 6) (hv : VS I w L) (hx : x = nI t) (ht : t < iM I) (hk : k ≤ 3) {v : Nat} (hvv : thA I w t k = v) : C 2 60 yX10_thing mX10_thing [.ref 0, .int x, .int (nI k)] S1 (qi (fun r S' => r = nI 1 ∧ S'.1 1 0 = nI v ∧ As S S')) := by
  subst hx
  subst hvv
  have hO2 := hO.2.1
  have et : (nI t).toInt = (t : Int) := tiN (by omega)
  have ek : (nI k).toInt = (k : Int) := tiN (by omega)
  have tt : tn (nI t) = t := tnN (by omega)
  have tk : tn (nI k) = k := tnN (by omega)
  refine (c_X10_thing (x := nI t) (y := nI k) (h.I hI) hO (h.P hP) ((h.2 35 5 (by omega)).trans hL) hL7 hv).mono (fun v S' hq => ?_)
  obtain ⟨rfl, rfl⟩ := hq
  rw [e2_1 (fun q => q ⟨⟨by omega, by omega⟩, by omega, by omega⟩), e2_1 (fun q => q ⟨⟨by omega, by omega⟩, by omega, by omega⟩), tt, tk]
  exact ⟨_, rfl, rfl, rdI_eq, h.set⟩
theorem c_tellsA {S1 : St} {v : Int32} (h : S1.1 1 0 = v) : C 1 30 yL_tells mL_tells [.ref 0, .int (nI 1)] S1 (pu (.int v) S1) := by
  subst h
  exact c_L_tells
theorem c_askedA {S1 : St} {v : Int32} (h : S1.1 1 0 = v) : C 0 0 yX10_asked mX10_asked [.ref 0] S1 (pu (.int v) S1) := by
  subst h
  exact c_X10_asked
/-- what the first people have -/
def alF (I : Isl) (w : Nat → Nat) (p : Nat) : Nat := oo (fun q => heldF I w q) p
theorem al_bit {I : Isl} {w : Nat → Nat} {p t : Nat} : (alF I w p).testBit t = true ↔ t < iM I ∧ whomF I w t < p := by
  unfold alF
  rw [oo_bit]
  constructor
  · rintro ⟨q, hq, h⟩
    have := held_bit.mp h
    exact ⟨this.1, by omega⟩
  · rintro ⟨ht, h⟩
    exact ⟨_, h, held_bit.mpr ⟨ht, rfl⟩⟩
theorem al_dis {I : Isl} {w : Nat → Nat} {p : Nat} : heldF I w p &&& alF I w p = 0 := Nat.eq_of_testBit_eq fun t => by
  rw [Nat.zero_testBit]
  cases h : (heldF I w p &&& alF I w p).testBit t with
  | false => rfl
  | true =>
    rw [Nat.testBit_and, Bool.and_eq_true] at h
    have a := held_bit.mp h.1
    have b := al_bit.mp h.2
    omega
theorem held_lt {I : Isl} (hO : IOK I) {w : Nat → Nat} {p : Nat} : heldF I w p < 32 := mk_lt32 hO.2.1
theorem al_lt {I : Isl} (hO : IOK I) {w : Nat → Nat} {p : Nat} : alF I w p < 32 := oo_lt (e := 5) fun q _ => held_lt hO
theorem held_b1 {I : Isl} {w : Nat → Nat} {p t : Nat} (ht : t < iM I) : heldF I w p / 2 ^ t % 2 = 1 ↔ whomF I w t = p := has_iff.trans (held_bit.trans ⟨fun h => h.2, fun h => ⟨ht, h⟩⟩)
theorem al_b1 {I : Isl} {w : Nat → Nat} {p t : Nat} (ht : t < iM I) : alF I w p / 2 ^ t % 2 = 1 ↔ whomF I w t < p := has_iff.trans (al_bit.trans ⟨fun h => h.2, fun h => ⟨ht, h⟩⟩)
/-- the b-th bag, when it is among the first things -/
def bgF (I : Isl) (b t : Nat) : Int32 := if b < iB I ∧ iG I b < t then nI (iG I b) else -1
theorem bg_0 {I : Isl} {b : Nat} : bgF I b 0 = -1 := if_neg (by omega)
theorem bg_pos {I : Isl} {b t : Nat} (ht : t ≤ 5) : (0 ≤ (bgF I b t).toInt ↔ (b < iB I ∧ iG I b < t)) ∧ ((bgF I b t).toInt < 0 ↔ ¬ (b < iB I ∧ iG I b < t)) := by
  unfold bgF
  by_cases q : b < iB I ∧ iG I b < t
  · rw [if_pos q, tiN (by omega)]
    exact ⟨⟨fun _ => q, fun _ => by omega⟩, ⟨fun h => by omega, fun h => absurd q h⟩⟩
  · rw [if_neg q]
    have e : (-1 : Int32).toInt = -1 := by decide
    rw [e]
    exact ⟨⟨fun h => absurd h (by decide), fun h => absurd h q⟩, ⟨fun _ => q, fun _ => by decide⟩⟩
theorem bg_step {I : Isl} (hO : IOK I) {t : Nat} (ht : t < iM I) :
    (bagK (iK I t) → (bgF I 0 t).toInt < 0 → nI t = bgF I 0 (t + 1)) ∧ (¬ (bagK (iK I t) ∧ (bgF I 0 t).toInt < 0) → bgF I 0 t = bgF I 0 (t + 1)) ∧
    (bagK (iK I t) → 0 ≤ (bgF I 0 t).toInt → (bgF I 1 t).toInt < 0 → nI t = bgF I 1 (t + 1)) ∧ (¬ (bagK (iK I t) ∧ 0 ≤ (bgF I 0 t).toInt ∧ (bgF I 1 t).toInt < 0) → bgF I 1 t = bgF I 1 (t + 1)) := by
  have hO2 := hO.2.1
  have hO4 := hO.2.2.2.1
  obtain ⟨p1, p2⟩ := bg_pos (I := I) (b := 0) (t := t) (by omega)
  obtain ⟨r1, r2⟩ := bg_pos (I := I) (b := 1) (t := t) (by omega)
  have hb : bagK (iK I t) → ∃ b, b < iB I ∧ iG I b = t := fun h => hO.2.2.2.2.2.2.2.1 t ht h
  have hg := hO.2.2.2.2.2.1
  have hlt := hO.2.2.2.2.2.2.1
  rw [p1, p2, r2]
  refine ⟨fun h1 h2 => ?_, fun h => ?_, fun h1 h2 h3 => ?_, fun h => ?_⟩
  · obtain ⟨b, b1, b2⟩ := hb h1
    have b0 : b = 0 := Classical.byContradiction fun z => by
      have e1 : b = 1 := by omega
      subst e1
      have := hlt (by omega)
      exact h2 ⟨by omega, by omega⟩
    subst b0
    unfold bgF
    rw [if_pos ⟨b1, by omega⟩, b2]
  · unfold bgF
    by_cases q : 0 < iB I ∧ iG I 0 < t
    · rw [if_pos q, if_pos ⟨q.1, by omega⟩]
    · rw [if_neg q]
      by_cases z : 0 < iB I ∧ iG I 0 < t + 1
      · have e : iG I 0 = t := by omega
        have hk := (hg 0 z.1).2
        rw [e] at hk
        exact absurd ⟨hk, q⟩ h
      · rw [if_neg z]
  · obtain ⟨b, b1, b2⟩ := hb h1
    have b0 : b = 1 := Classical.byContradiction fun z => by
      have e1 : b = 0 := by omega
      subst e1
      omega
    subst b0
    unfold bgF
    rw [if_pos ⟨b1, by omega⟩, b2]
  · unfold bgF
    by_cases q : 1 < iB I ∧ iG I 1 < t
    · rw [if_pos q, if_pos ⟨q.1, by omega⟩]
    · rw [if_neg q]
      by_cases z : 1 < iB I ∧ iG I 1 < t + 1
      · have e : iG I 1 = t := by omega
        have hk := (hg 1 z.1).2
        rw [e] at hk
        have hB := z.1
        have := hlt (by omega)
        exact absurd ⟨hk, ⟨by omega, by omega⟩, q⟩ h
      · rw [if_neg z]
theorem bg_all {I : Isl} (hO : IOK I) {b : Nat} (hb : b < iB I) : bgF I b (iM I) = nI (iG I b) := if_pos ⟨hb, (hO.2.2.2.2.2.1 b hb).1⟩

set_option maxHeartbeats 4000000 in
set_option maxRecDepth 100000 in
theorem wi_310 {S : St} {I : Isl} (hI : IsX 11 I S) (hO : IOK I) {w : Nat → Nat} (hP : PlT 35 I w S) (hL : S.1 35 5 = nI 3) (hv : VS I w 3) {t : Nat} (ht : t < iM I) {S1 : St} (hx : As S S1) {Q : Option Value → St → Prop} (H : ∀ S1, As S S1 → X 3 90 mL_within Q 203 [(7, .int (nI ((t + 1)))), (5, .int (bgF I 0 (iM I))), (6, .int (bgF I 1 (iM I))), (4, .int (nI ((alF I w (iP I))))), (0, .ref 0), (1, .int (nI ((iP I)))), (2, .int (nI ((iM I)))), (3, .int (nI 3))] [] S1)  : X 3 90 mL_within (Q) 310 [(9, .int (nI ((whomF I w t)))), (8, .int (nI ((w t)))), (7, .int (nI t)), (5, .int (bgF I 0 (iM I))), (6, .int (bgF I 1 (iM I))), (4, .int (nI ((alF I w (iP I))))), (0, .ref 0), (1, .int (nI ((iP I)))), (2, .int (nI ((iM I)))), (3, .int (nI 3))] [] S1 := by
  have hO1 := hO.1
  have hO2 := hO.2.1
  have hO4 := hO.2.2.2.1
  have hwt := (hv.ok hO).1 t ht
  have hw7 : w t < 7 := (hv.ok hO).w7 hO t ht
  have hw4 := whomF_le (I := I) (w := w) (hv.ok hO) ht
  have hk5 := hO.2.2.2.2.1 t ht
  have h3 := (hv.1 t ht).2.1
  refine x_aload_n 6 dL_within_310 rfl rfl ?_
  refine x_aload_n 6 dL_within_311 rfl rfl ?_
  refine x_iload 2 dL_within_312 rfl ?_
  refine x_iconst (v := nI 0) dL_within_314 (by decide) ?_
  refine x_callVqi (as := [_, _]) (rest := [_]) vL_87 (c_thingA hx hI hO hP hL (by decide) hv rfl ht (by decide) (k := 0) (v := iK I t) rfl) dL_within_315 l0 rfl rfl rfl (Nat.le_of_ble_eq_true rfl) (Nat.le_of_ble_eq_true rfl) (Nat.le_of_ble_eq_true rfl) (fun r_315 S_315 q_315 => ?_)
  obtain ⟨rfl, e_315, x_315⟩ := q_315
  refine x_callSu (as := [_, _]) (rest := []) sL_90 (c_tellsA e_315) dL_within_318 rfl rfl (Nat.le_of_ble_eq_true rfl) (Nat.le_of_ble_eq_true rfl) (Nat.le_of_ble_eq_true rfl) ?_
  refine x_callSb (as := [_]) (rest := []) sL_28 (c_L_living (k := iK I t) (by omega)) dL_within_321 rfl rfl (Nat.le_of_ble_eq_true rfl) (Nat.le_of_ble_eq_true rfl) (Nat.le_of_ble_eq_true rfl) (fun c_321 => ?_) (fun c_321 => ?_)
  · refine u_if_eq 335 dL_within_324 (by decide) (by decide) ?_
    refine x_iload 1 dL_within_327 rfl ?_
    refine x_iconst (v := nI 3) dL_within_329 (by decide) ?_
    refine y_ic_le 335 dL_within_330 (by decide) (by omega) (by omega) (fun c_330 => ?_) (fun c_330 => ?_)
    · refine y_iinc (lv' := [(7, _), (9, _), (8, _), (5, _), (6, _), (4, _), (0, _), (1, _), (2, _), (3, _)]) 2 dL_within_335 rfl (lt_ok rfl) rfl ?_
      refine x_goto 203 dL_within_338 (by decide) ?_
      refine x_pick (lv' := [(7, _), (5, _), (6, _), (4, _), (0, _), (1, _), (2, _), (3, _)]) [0, 3, 4, 5, 6, 7, 8, 9] rfl ?_
      exact H _ x_315
    · refine x_iconst (v := nI 0) dL_within_333 (by decide) ?_
      refine x_zret rfl dL_within_334 (by decide) (by exfalso; have := h3 (by assumption); omega)
  · refine t_if_eq 335 dL_within_324 (by decide) (by decide) ?_
    refine y_iinc (lv' := [(7, _), (9, _), (8, _), (5, _), (6, _), (4, _), (0, _), (1, _), (2, _), (3, _)]) 2 dL_within_335 rfl (lt_ok rfl) rfl ?_
    refine x_goto 203 dL_within_338 (by decide) ?_
    refine x_pick (lv' := [(7, _), (5, _), (6, _), (4, _), (0, _), (1, _), (2, _), (3, _)]) [0, 3, 4, 5, 6, 7, 8, 9] rfl ?_
    exact H _ x_315

set_option maxHeartbeats 4000000 in
set_option maxRecDepth 100000 in
theorem wi_287 {S : St} {I : Isl} (hI : IsX 11 I S) (hO : IOK I) {w : Nat → Nat} (hP : PlT 35 I w S) (hL : S.1 35 5 = nI 3) (hv : VS I w 3) {t : Nat} (ht : t < iM I) {S1 : St} (hx : As S S1) {Q : Option Value → St → Prop} (H : ∀ S1, As S S1 → X 3 90 mL_within Q 203 [(7, .int (nI ((t + 1)))), (5, .int (bgF I 0 (iM I))), (6, .int (bgF I 1 (iM I))), (4, .int (nI ((alF I w (iP I))))), (0, .ref 0), (1, .int (nI ((iP I)))), (2, .int (nI ((iM I)))), (3, .int (nI 3))] [] S1)  : X 3 90 mL_within (Q) 287 [(9, .int (nI ((whomF I w t)))), (8, .int (nI ((w t)))), (7, .int (nI t)), (5, .int (bgF I 0 (iM I))), (6, .int (bgF I 1 (iM I))), (4, .int (nI ((alF I w (iP I))))), (0, .ref 0), (1, .int (nI ((iP I)))), (2, .int (nI ((iM I)))), (3, .int (nI 3))] [] S1 := by
  have hO1 := hO.1
  have hO2 := hO.2.1
  have hO4 := hO.2.2.2.1
  have hwt := (hv.ok hO).1 t ht
  have hw7 : w t < 7 := (hv.ok hO).w7 hO t ht
  have hw4 := whomF_le (I := I) (w := w) (hv.ok hO) ht
  have hk5 := hO.2.2.2.2.1 t ht
  have hwh : w t = 6 → whomF I w t = w (iG I 1) := fun q => by
    unfold whomF
    rw [if_neg (by omega), show w t - 5 = 1 by omega]
  refine x_iload 1 dL_within_287 rfl ?_
  refine x_bipush (v := nI 6) dL_within_289 (by decide) ?_
  refine y_ic_ne 310 dL_within_291 (by decide) (by omega) (by omega) (fun c_291 => ?_) (fun c_291 => ?_)
  · refine x_pick (lv' := [(9, _), (8, _), (7, _), (5, _), (6, _), (4, _), (0, _), (1, _), (2, _), (3, _)]) [0, 1, 2, 3, 4, 5, 6, 7, 8, 9] rfl ?_
    exact wi_310 hI hO hP hL hv ht hx H
  · refine x_aload_n 6 dL_within_294 rfl rfl ?_
    refine x_aload_n 6 dL_within_295 rfl rfl ?_
    refine x_iload 4 dL_within_296 rfl ?_
    refine x_iconst (v := nI 1) dL_within_298 (by decide) ?_
    refine x_callVqi (as := [_, _]) (rest := [_]) vL_87 (c_thingA hx hI hO hP hL (by decide) hv (bg_all hO (show 1 < iB I by omega)) (hO.2.2.2.2.2.1 1 (by omega)).1 (by decide) (k := 1) (v := w (iG I 1)) rfl) dL_within_299 l0 rfl rfl rfl (Nat.le_of_ble_eq_true rfl) (Nat.le_of_ble_eq_true rfl) (Nat.le_of_ble_eq_true rfl) (fun r_299 S_299 q_299 => ?_)
    obtain ⟨rfl, e_299, x_299⟩ := q_299
    have hg7 := (hv.ok hO).w7 hO (iG I 1) (hO.2.2.2.2.2.1 1 (by omega)).1
    refine x_callSu (as := [_, _]) (rest := []) sL_90 (c_tellsA e_299) dL_within_302 rfl rfl (Nat.le_of_ble_eq_true rfl) (Nat.le_of_ble_eq_true rfl) (Nat.le_of_ble_eq_true rfl) ?_
    refine x_iload 0 dL_within_305 rfl ?_
    refine y_ic_ne 333 dL_within_307 (by decide) (by omega) (by omega) (fun c_307 => ?_) (fun c_307 => ?_)
    · refine x_iconst (v := nI 0) dL_within_333 (by decide) ?_
      refine x_zret rfl dL_within_334 (by decide) (by exfalso; have := hwh (by omega); omega)
    · refine x_pick (lv' := [(9, _), (8, _), (7, _), (5, _), (6, _), (4, _), (0, _), (1, _), (2, _), (3, _)]) [0, 1, 2, 3, 4, 5, 6, 7, 8, 9] rfl ?_
      exact wi_310 hI hO hP hL hv ht x_299 H

set_option maxHeartbeats 4000000 in
set_option maxRecDepth 100000 in
theorem wi_265 {S : St} {I : Isl} (hI : IsX 11 I S) (hO : IOK I) {w : Nat → Nat} (hP : PlT 35 I w S) (hL : S.1 35 5 = nI 3) (hv : VS I w 3) {t : Nat} (ht : t < iM I) {S1 : St} (hx : As S S1) {Q : Option Value → St → Prop} (H : ∀ S1, As S S1 → X 3 90 mL_within Q 203 [(7, .int (nI ((t + 1)))), (5, .int (bgF I 0 (iM I))), (6, .int (bgF I 1 (iM I))), (4, .int (nI ((alF I w (iP I))))), (0, .ref 0), (1, .int (nI ((iP I)))), (2, .int (nI ((iM I)))), (3, .int (nI 3))] [] S1)  : X 3 90 mL_within (Q) 265 [(9, .int (nI ((whomF I w t)))), (8, .int (nI ((w t)))), (7, .int (nI t)), (5, .int (bgF I 0 (iM I))), (6, .int (bgF I 1 (iM I))), (4, .int (nI ((alF I w (iP I))))), (0, .ref 0), (1, .int (nI ((iP I)))), (2, .int (nI ((iM I)))), (3, .int (nI 3))] [] S1 := by
  have hO1 := hO.1
  have hO2 := hO.2.1
  have hO4 := hO.2.2.2.1
  have hwt := (hv.ok hO).1 t ht
  have hw7 : w t < 7 := (hv.ok hO).w7 hO t ht
  have hw4 := whomF_le (I := I) (w := w) (hv.ok hO) ht
  have hk5 := hO.2.2.2.2.1 t ht
  have hwh : w t = 5 → whomF I w t = w (iG I 0) := fun q => by
    unfold whomF
    rw [if_neg (by omega), show w t - 5 = 0 by omega]
  refine x_iload 1 dL_within_265 rfl ?_
  refine x_iconst (v := nI 5) dL_within_267 (by decide) ?_
  refine y_ic_ne 287 dL_within_268 (by decide) (by omega) (by omega) (fun c_268 => ?_) (fun c_268 => ?_)
  · refine x_pick (lv' := [(9, _), (8, _), (7, _), (5, _), (6, _), (4, _), (0, _), (1, _), (2, _), (3, _)]) [0, 1, 2, 3, 4, 5, 6, 7, 8, 9] rfl ?_
    exact wi_287 hI hO hP hL hv ht hx H
  · refine x_aload_n 6 dL_within_271 rfl rfl ?_
    refine x_aload_n 6 dL_within_272 rfl rfl ?_
    refine x_iload 3 dL_within_273 rfl ?_
    refine x_iconst (v := nI 1) dL_within_275 (by decide) ?_
    refine x_callVqi (as := [_, _]) (rest := [_]) vL_87 (c_thingA hx hI hO hP hL (by decide) hv (bg_all hO (show 0 < iB I by omega)) (hO.2.2.2.2.2.1 0 (by omega)).1 (by decide) (k := 1) (v := w (iG I 0)) rfl) dL_within_276 l0 rfl rfl rfl (Nat.le_of_ble_eq_true rfl) (Nat.le_of_ble_eq_true rfl) (Nat.le_of_ble_eq_true rfl) (fun r_276 S_276 q_276 => ?_)
    obtain ⟨rfl, e_276, x_276⟩ := q_276
    have hg7 := (hv.ok hO).w7 hO (iG I 0) (hO.2.2.2.2.2.1 0 (by omega)).1
    refine x_callSu (as := [_, _]) (rest := []) sL_90 (c_tellsA e_276) dL_within_279 rfl rfl (Nat.le_of_ble_eq_true rfl) (Nat.le_of_ble_eq_true rfl) (Nat.le_of_ble_eq_true rfl) ?_
    refine x_iload 0 dL_within_282 rfl ?_
    refine y_ic_ne 333 dL_within_284 (by decide) (by omega) (by omega) (fun c_284 => ?_) (fun c_284 => ?_)
    · refine x_iconst (v := nI 0) dL_within_333 (by decide) ?_
      refine x_zret rfl dL_within_334 (by decide) (by exfalso; have := hwh (by omega); omega)
    · refine x_pick (lv' := [(9, _), (8, _), (7, _), (5, _), (6, _), (4, _), (0, _), (1, _), (2, _), (3, _)]) [0, 1, 2, 3, 4, 5, 6, 7, 8, 9] rfl ?_
      exact wi_287 hI hO hP hL hv ht x_276 H

set_option maxHeartbeats 4000000 in
set_option maxRecDepth 100000 in
theorem wi_252 {S : St} {I : Isl} (hI : IsX 11 I S) (hO : IOK I) {w : Nat → Nat} (hP : PlT 35 I w S) (hL : S.1 35 5 = nI 3) (hv : VS I w 3) {t : Nat} (ht : t < iM I) {S1 : St} (hx : As S S1) {Q : Option Value → St → Prop} (H : ∀ S1, As S S1 → X 3 90 mL_within Q 203 [(7, .int (nI ((t + 1)))), (5, .int (bgF I 0 (iM I))), (6, .int (bgF I 1 (iM I))), (4, .int (nI ((alF I w (iP I))))), (0, .ref 0), (1, .int (nI ((iP I)))), (2, .int (nI ((iM I)))), (3, .int (nI 3))] [] S1)  : X 3 90 mL_within (Q) 252 [(9, .int (nI ((whomF I w t)))), (8, .int (nI ((w t)))), (7, .int (nI t)), (5, .int (bgF I 0 (iM I))), (6, .int (bgF I 1 (iM I))), (4, .int (nI ((alF I w (iP I))))), (0, .ref 0), (1, .int (nI ((iP I)))), (2, .int (nI ((iM I)))), (3, .int (nI 3))] [] S1 := by
  have hO1 := hO.1
  have hO2 := hO.2.1
  have hO4 := hO.2.2.2.1
  have hwt := (hv.ok hO).1 t ht
  have hw7 : w t < 7 := (hv.ok hO).w7 hO t ht
  have hw4 := whomF_le (I := I) (w := w) (hv.ok hO) ht
  have hk5 := hO.2.2.2.2.1 t ht
  have hwl : w t ≤ 4 → whomF I w t = w t := fun q => if_pos q
  refine x_iload 1 dL_within_252 rfl ?_
  refine x_iconst (v := nI 5) dL_within_254 (by decide) ?_
  refine y_ic_ge 265 dL_within_255 (by decide) (by omega) (by omega) (fun c_255 => ?_) (fun c_255 => ?_)
  · refine x_pick (lv' := [(9, _), (8, _), (7, _), (5, _), (6, _), (4, _), (0, _), (1, _), (2, _), (3, _)]) [0, 1, 2, 3, 4, 5, 6, 7, 8, 9] rfl ?_
    exact wi_265 hI hO hP hL hv ht hx H
  · refine x_iload 1 dL_within_258 rfl ?_
    refine x_iload 0 dL_within_260 rfl ?_
    refine y_ic_ne 333 dL_within_262 (by decide) (by omega) (by omega) (fun c_262 => ?_) (fun c_262 => ?_)
    · refine x_iconst (v := nI 0) dL_within_333 (by decide) ?_
      refine x_zret rfl dL_within_334 (by decide) (by exfalso; have := hwl (by omega); omega)
    · refine x_pick (lv' := [(9, _), (8, _), (7, _), (5, _), (6, _), (4, _), (0, _), (1, _), (2, _), (3, _)]) [0, 1, 2, 3, 4, 5, 6, 7, 8, 9] rfl ?_
      exact wi_265 hI hO hP hL hv ht hx H

set_option maxHeartbeats 4000000 in
set_option maxRecDepth 100000 in
theorem wi_235 {S : St} {I : Isl} (hI : IsX 11 I S) (hO : IOK I) {w : Nat → Nat} (hP : PlT 35 I w S) (hL : S.1 35 5 = nI 3) (hv : VS I w 3) {t : Nat} (ht : t < iM I) {S1 : St} (hx : As S S1) {Q : Option Value → St → Prop} (H : ∀ S1, As S S1 → X 3 90 mL_within Q 203 [(7, .int (nI ((t + 1)))), (5, .int (bgF I 0 (iM I))), (6, .int (bgF I 1 (iM I))), (4, .int (nI ((alF I w (iP I))))), (0, .ref 0), (1, .int (nI ((iP I)))), (2, .int (nI ((iM I)))), (3, .int (nI 3))] [] S1)  : X 3 90 mL_within (Q) 235 [(9, .int (nI ((whomF I w t)))), (8, .int (nI ((w t)))), (7, .int (nI t)), (5, .int (bgF I 0 (iM I))), (6, .int (bgF I 1 (iM I))), (4, .int (nI ((alF I w (iP I))))), (0, .ref 0), (1, .int (nI ((iP I)))), (2, .int (nI ((iM I)))), (3, .int (nI 3))] [] S1 := by
  have hO1 := hO.1
  have hO2 := hO.2.1
  have hO4 := hO.2.2.2.1
  have hwt := (hv.ok hO).1 t ht
  have hw7 : w t < 7 := (hv.ok hO).w7 hO t ht
  have hw4 := whomF_le (I := I) (w := w) (hv.ok hO) ht
  have hk5 := hO.2.2.2.2.1 t ht
  have hal := al_lt hO (w := w) (p := iP I)
  have hab := al_b1 (I := I) (w := w) (p := iP I) ht
  refine x_iload 0 dL_within_235 rfl ?_
  refine x_iconst (v := nI 4) dL_within_237 (by decide) ?_
  refine y_ic_ne 252 dL_within_238 (by decide) (by omega) (by omega) (fun c_238 => ?_) (fun c_238 => ?_)
  · refine x_pick (lv' := [(9, _), (8, _), (7, _), (5, _), (6, _), (4, _), (0, _), (1, _), (2, _), (3, _)]) [0, 1, 2, 3, 4, 5, 6, 7, 8, 9] rfl ?_
    exact wi_252 hI hO hP hL hv ht hx H
  · refine x_iload 5 dL_within_241 rfl ?_
    refine x_iload 2 dL_within_243 rfl ?_
    refine y_ishr dL_within_245 (by omega) (by omega) ?_
    refine x_iconst (v := nI 1) dL_within_246 (by decide) ?_
    refine y_iand dL_within_247 ?_
    rw [show (((alF I w (iP I)) / 2 ^ t) &&& 1) = (alF I w (iP I) / 2 ^ t % 2) from by rw [Nat.and_one_is_mod]]
    refine x_iconst (v := nI 1) dL_within_248 (by decide) ?_
    refine y_ic_eq 333 dL_within_249 (by decide) (by omega) (by omega) (fun c_249 => ?_) (fun c_249 => ?_)
    · refine x_iconst (v := nI 0) dL_within_333 (by decide) ?_
      refine x_zret rfl dL_within_334 (by decide) (by exfalso; omega)
    · refine x_pick (lv' := [(9, _), (8, _), (7, _), (5, _), (6, _), (4, _), (0, _), (1, _), (2, _), (3, _)]) [0, 1, 2, 3, 4, 5, 6, 7, 8, 9] rfl ?_
      exact wi_252 hI hO hP hL hv ht hx H

set_option maxHeartbeats 4000000 in
set_option maxRecDepth 100000 in
theorem wi_C {S : St} {I : Isl} (hI : IsX 11 I S) (hO : IOK I) {w : Nat → Nat} (hP : PlT 35 I w S) (hL : S.1 35 5 = nI 3) (hv : VS I w 3)  : ∀ (t : Nat) (S1 : St), (t ≤ iM I) → (As S S1) → X 3 90 mL_within (qi (fun r S' => r = nI 1 ∧ As S S')) 203 [(7, .int (nI t)), (5, .int (bgF I 0 (iM I))), (6, .int (bgF I 1 (iM I))), (4, .int (nI ((alF I w (iP I))))), (0, .ref 0), (1, .int (nI ((iP I)))), (2, .int (nI ((iM I)))), (3, .int (nI 3))] [] S1 := by
  intro t S1
  induction hm : iM I - t using Nat.strongRecOn generalizing t S1 with
  | _ mm ih =>
    intro ht hx
    have hO1 := hO.1
    have hO2 := hO.2.1
    have hO4 := hO.2.2.2.1
    refine x_iload 0 dL_within_203 rfl ?_
    refine x_iload_n 6 dL_within_205 rfl rfl ?_
    refine y_ic_ge 341 dL_within_206 (by decide) (by omega) (by omega) (fun c_206 => ?_) (fun c_206 => ?_)
    · refine x_iconst (v := nI 1) dL_within_341 (by decide) ?_
      refine x_zret rfl dL_within_342 (by decide) ⟨_, rfl, rfl, hx⟩
    · refine x_aload_n 4 dL_within_209 rfl rfl ?_
      refine x_aload_n 4 dL_within_210 rfl rfl ?_
      refine x_iload 0 dL_within_211 rfl ?_
      refine x_iconst (v := nI 1) dL_within_213 (by decide) ?_
      refine x_callVqi (as := [_, _]) (rest := [_]) vL_87 (c_thingA hx hI hO hP hL (by decide) hv rfl (show t < iM I by omega) (by decide) (k := 1) (v := w t) rfl) dL_within_214 l0 rfl rfl rfl (Nat.le_of_ble_eq_true rfl) (Nat.le_of_ble_eq_true rfl) (Nat.le_of_ble_eq_true rfl) (fun r_214 S_214 q_214 => ?_)
      obtain ⟨rfl, e_214, x_214⟩ := q_214
      refine x_callSu (as := [_, _]) (rest := []) sL_90 (c_tellsA e_214) dL_within_217 rfl rfl (Nat.le_of_ble_eq_true rfl) (Nat.le_of_ble_eq_true rfl) (Nat.le_of_ble_eq_true rfl) ?_
      refine x_istore (lv' := [(8, _), (7, _), (5, _), (6, _), (4, _), (0, _), (1, _), (2, _), (3, _)]) dL_within_220 (lt_ok rfl) rfl ?_
      refine x_aload_n 5 dL_within_222 rfl rfl ?_
      refine x_aload_n 5 dL_within_223 rfl rfl ?_
      refine x_iload 1 dL_within_224 rfl ?_
      refine x_iconst (v := nI 3) dL_within_226 (by decide) ?_
      refine x_callVqi (as := [_, _]) (rest := [_]) vL_87 (c_thingA x_214 hI hO hP hL (by decide) hv rfl (show t < iM I by omega) (by decide) (k := 3) (v := whomF I w t) rfl) dL_within_227 l0 rfl rfl rfl (Nat.le_of_ble_eq_true rfl) (Nat.le_of_ble_eq_true rfl) (Nat.le_of_ble_eq_true rfl) (fun r_227 S_227 q_227 => ?_)
      obtain ⟨rfl, e_227, x_227⟩ := q_227
      refine x_callSu (as := [_, _]) (rest := []) sL_90 (c_tellsA e_227) dL_within_230 rfl rfl (Nat.le_of_ble_eq_true rfl) (Nat.le_of_ble_eq_true rfl) (Nat.le_of_ble_eq_true rfl) ?_
      refine x_istore (lv' := [(9, _), (8, _), (7, _), (5, _), (6, _), (4, _), (0, _), (1, _), (2, _), (3, _)]) dL_within_233 (lt_ok rfl) rfl ?_
      refine x_pick (lv' := [(9, _), (8, _), (7, _), (5, _), (6, _), (4, _), (0, _), (1, _), (2, _), (3, _)]) [0, 1, 2, 3, 4, 5, 6, 7, 8, 9] rfl ?_
      exact wi_235 hI hO hP hL hv (show t < iM I by omega) x_227 (fun S1 z => ih (iM I - (t + 1)) (by omega) (t + 1) S1 rfl (by omega) z)

set_option maxHeartbeats 4000000 in
set_option maxRecDepth 100000 in
theorem wi_B {S : St} {I : Isl} (hI : IsX 11 I S) (hO : IOK I) {w : Nat → Nat} (hP : PlT 35 I w S) (hL : S.1 35 5 = nI 3) (hv : VS I w 3)  : ∀ (t : Nat) (S1 : St), (t ≤ iM I) → (As S S1) → X 3 90 mL_within (qi (fun r S' => r = nI 1 ∧ As S S')) 126 [(7, .int (nI t)), (5, .int (bgF I 0 t)), (6, .int (bgF I 1 t)), (4, .int (nI ((alF I w (iP I))))), (0, .ref 0), (1, .int (nI ((iP I)))), (2, .int (nI ((iM I)))), (3, .int (nI 3))] [] S1 := by
  intro t S1
  induction hm : iM I - t using Nat.strongRecOn generalizing t S1 with
  | _ mm ih =>
    intro ht hx
    have hO1 := hO.1
    have hO2 := hO.2.1
    have hO4 := hO.2.2.2.1
    have hk5 := fun q => hO.2.2.2.2.1 t q
    have hst := fun q => bg_step hO (t := t) q
    refine x_iload 0 dL_within_126 rfl ?_
    refine x_iload_n 6 dL_within_128 rfl rfl ?_
    refine y_ic_ge 200 dL_within_129 (by decide) (by omega) (by omega) (fun c_129 => ?_) (fun c_129 => ?_)
    · refine x_iconst (v := nI 0) dL_within_200 (by decide) ?_
      refine x_istore (lv' := [(7, _), (5, _), (6, _), (4, _), (0, _), (1, _), (2, _), (3, _)]) dL_within_201 (lt_ok rfl) rfl ?_
      refine x_pick (lv' := [(7, _), (5, _), (6, _), (4, _), (0, _), (1, _), (2, _), (3, _)]) [0, 1, 2, 3, 4, 5, 6, 7] rfl ?_
      (obtain rfl : t = iM I := (by omega)); exact wi_C hI hO hP hL hv 0 S1 (Nat.zero_le _) hx
    · refine x_aload_n 4 dL_within_132 rfl rfl ?_
      refine x_aload_n 4 dL_within_133 rfl rfl ?_
      refine x_iload 0 dL_within_134 rfl ?_
      refine x_iconst (v := nI 0) dL_within_136 (by decide) ?_
      refine x_callVqi (as := [_, _]) (rest := [_]) vL_87 (c_thingA hx hI hO hP hL (by decide) hv rfl (show t < iM I by omega) (by decide) (k := 0) (v := iK I t) rfl) dL_within_137 l0 rfl rfl rfl (Nat.le_of_ble_eq_true rfl) (Nat.le_of_ble_eq_true rfl) (Nat.le_of_ble_eq_true rfl) (fun r_137 S_137 q_137 => ?_)
      obtain ⟨rfl, e_137, x_137⟩ := q_137
      refine x_callSu (as := [_, _]) (rest := []) sL_90 (c_tellsA e_137) dL_within_140 rfl rfl (Nat.le_of_ble_eq_true rfl) (Nat.le_of_ble_eq_true rfl) (Nat.le_of_ble_eq_true rfl) ?_
      obtain ⟨b1, b2, b3, b4⟩ := hst (by omega)
      refine x_istore (lv' := [(8, _), (7, _), (5, _), (6, _), (4, _), (0, _), (1, _), (2, _), (3, _)]) dL_within_143 (lt_ok rfl) rfl ?_
      refine x_iload 0 dL_within_145 rfl ?_
      refine x_callSb (as := [_]) (rest := []) sL_20 (c_L_bag (k := iK I t) (by have := hk5 (by omega); omega)) dL_within_147 rfl rfl (Nat.le_of_ble_eq_true rfl) (Nat.le_of_ble_eq_true rfl) (Nat.le_of_ble_eq_true rfl) (fun c_147 => ?_) (fun c_147 => ?_)
      · refine u_if_eq 168 dL_within_150 (by decide) (by decide) ?_
        refine x_iload 2 dL_within_153 rfl ?_
        refine x_if_lt 168 dL_within_155 (by decide) (fun c_155 => ?_) (fun c_155 => ?_)
        · refine x_iload 3 dL_within_168 rfl ?_
          refine x_istore (lv' := [(6, _), (8, _), (7, _), (5, _), (4, _), (0, _), (1, _), (2, _), (3, _)]) dL_within_170 (lt_ok rfl) rfl ?_
          refine x_iload 1 dL_within_172 rfl ?_
          refine x_callSb (as := [_]) (rest := []) sL_20 (c_L_bag (k := iK I t) (by have := hk5 (by omega); omega)) dL_within_174 rfl rfl (Nat.le_of_ble_eq_true rfl) (Nat.le_of_ble_eq_true rfl) (Nat.le_of_ble_eq_true rfl) (fun c_174 => ?_) (fun c_174 => ?_)
          · refine u_if_eq 190 dL_within_177 (by decide) (by decide) ?_
            refine x_iload 3 dL_within_180 rfl ?_
            refine x_if_ge 190 dL_within_182 (by decide) (fun c_182 => ?_) (fun c_182 => ?_)
            · refine x_iload 3 dL_within_190 rfl ?_
              refine x_istore (lv' := [(5, _), (6, _), (8, _), (7, _), (4, _), (0, _), (1, _), (2, _), (3, _)]) dL_within_192 (lt_ok rfl) rfl ?_
              refine y_iinc (lv' := [(7, _), (5, _), (6, _), (8, _), (4, _), (0, _), (1, _), (2, _), (3, _)]) 3 dL_within_194 rfl (lt_ok rfl) rfl ?_
              refine x_goto 126 dL_within_197 (by decide) ?_
              refine x_pick (lv' := [(7, _), (5, _), (6, _), (4, _), (0, _), (1, _), (2, _), (3, _)]) [0, 1, 2, 4, 5, 6, 7, 8] rfl ?_
              rw [show ((5, Value.int (bgF I 0 t)) : Nat × Value) = (5, Value.int (bgF I 0 (t + 1))) from by rw [show bgF I 0 t = bgF I 0 (t + 1) from by first | exact b1 (by assumption) (by omega) | exact b2 (fun z => by first | exact absurd z.1 (by assumption) | omega)], show ((6, Value.int (bgF I 1 t)) : Nat × Value) = (6, Value.int (bgF I 1 (t + 1))) from by rw [show bgF I 1 t = bgF I 1 (t + 1) from by first | exact b3 (by assumption) (by omega) (by omega) | exact b4 (fun z => by first | exact absurd z.1 (by assumption) | omega)]]
              exact ih (iM I - (t + 1)) (by omega) (t + 1) _ rfl (by omega) x_137
            · refine x_iload 2 dL_within_185 rfl ?_
              refine x_goto 192 dL_within_187 (by decide) ?_
              refine x_istore (lv' := [(5, _), (6, _), (8, _), (7, _), (4, _), (0, _), (1, _), (2, _), (3, _)]) dL_within_192 (lt_ok rfl) rfl ?_
              refine y_iinc (lv' := [(7, _), (5, _), (6, _), (8, _), (4, _), (0, _), (1, _), (2, _), (3, _)]) 3 dL_within_194 rfl (lt_ok rfl) rfl ?_
              refine x_goto 126 dL_within_197 (by decide) ?_
              refine x_pick (lv' := [(7, _), (5, _), (6, _), (4, _), (0, _), (1, _), (2, _), (3, _)]) [0, 1, 2, 4, 5, 6, 7, 8] rfl ?_
              rw [show ((5, Value.int (nI t)) : Nat × Value) = (5, Value.int (bgF I 0 (t + 1))) from by rw [show nI t = bgF I 0 (t + 1) from by first | exact b1 (by assumption) (by omega) | exact b2 (fun z => by first | exact absurd z.1 (by assumption) | omega)], show ((6, Value.int (bgF I 1 t)) : Nat × Value) = (6, Value.int (bgF I 1 (t + 1))) from by rw [show bgF I 1 t = bgF I 1 (t + 1) from by first | exact b3 (by assumption) (by omega) (by omega) | exact b4 (fun z => by first | exact absurd z.1 (by assumption) | omega)]]
              exact ih (iM I - (t + 1)) (by omega) (t + 1) _ rfl (by omega) x_137
          · refine t_if_eq 190 dL_within_177 (by decide) (by decide) ?_
            refine x_iload 3 dL_within_190 rfl ?_
            refine x_istore (lv' := [(5, _), (6, _), (8, _), (7, _), (4, _), (0, _), (1, _), (2, _), (3, _)]) dL_within_192 (lt_ok rfl) rfl ?_
            refine y_iinc (lv' := [(7, _), (5, _), (6, _), (8, _), (4, _), (0, _), (1, _), (2, _), (3, _)]) 3 dL_within_194 rfl (lt_ok rfl) rfl ?_
            refine x_goto 126 dL_within_197 (by decide) ?_
            refine x_pick (lv' := [(7, _), (5, _), (6, _), (4, _), (0, _), (1, _), (2, _), (3, _)]) [0, 1, 2, 4, 5, 6, 7, 8] rfl ?_
            rw [show ((5, Value.int (bgF I 0 t)) : Nat × Value) = (5, Value.int (bgF I 0 (t + 1))) from by rw [show bgF I 0 t = bgF I 0 (t + 1) from by first | exact b1 (by assumption) (by omega) | exact b2 (fun z => by first | exact absurd z.1 (by assumption) | omega)], show ((6, Value.int (bgF I 1 t)) : Nat × Value) = (6, Value.int (bgF I 1 (t + 1))) from by rw [show bgF I 1 t = bgF I 1 (t + 1) from by first | exact b3 (by assumption) (by omega) (by omega) | exact b4 (fun z => by first | exact absurd z.1 (by assumption) | omega)]]
            exact ih (iM I - (t + 1)) (by omega) (t + 1) _ rfl (by omega) x_137
        · refine x_iload 3 dL_within_158 rfl ?_
          refine x_if_ge 168 dL_within_160 (by decide) (fun c_160 => ?_) (fun c_160 => ?_)
          · refine x_iload 3 dL_within_168 rfl ?_
            refine x_istore (lv' := [(6, _), (8, _), (7, _), (5, _), (4, _), (0, _), (1, _), (2, _), (3, _)]) dL_within_170 (lt_ok rfl) rfl ?_
            refine x_iload 1 dL_within_172 rfl ?_
            refine x_callSb (as := [_]) (rest := []) sL_20 (c_L_bag (k := iK I t) (by have := hk5 (by omega); omega)) dL_within_174 rfl rfl (Nat.le_of_ble_eq_true rfl) (Nat.le_of_ble_eq_true rfl) (Nat.le_of_ble_eq_true rfl) (fun c_174 => ?_) (fun c_174 => ?_)
            · refine u_if_eq 190 dL_within_177 (by decide) (by decide) ?_
              refine x_iload 3 dL_within_180 rfl ?_
              refine x_if_ge 190 dL_within_182 (by decide) (fun c_182 => ?_) (fun c_182 => ?_)
              · refine x_iload 3 dL_within_190 rfl ?_
                refine x_istore (lv' := [(5, _), (6, _), (8, _), (7, _), (4, _), (0, _), (1, _), (2, _), (3, _)]) dL_within_192 (lt_ok rfl) rfl ?_
                refine y_iinc (lv' := [(7, _), (5, _), (6, _), (8, _), (4, _), (0, _), (1, _), (2, _), (3, _)]) 3 dL_within_194 rfl (lt_ok rfl) rfl ?_
                refine x_goto 126 dL_within_197 (by decide) ?_
                refine x_pick (lv' := [(7, _), (5, _), (6, _), (4, _), (0, _), (1, _), (2, _), (3, _)]) [0, 1, 2, 4, 5, 6, 7, 8] rfl ?_
                rw [show ((5, Value.int (bgF I 0 t)) : Nat × Value) = (5, Value.int (bgF I 0 (t + 1))) from by rw [show bgF I 0 t = bgF I 0 (t + 1) from by first | exact b1 (by assumption) (by omega) | exact b2 (fun z => by first | exact absurd z.1 (by assumption) | omega)], show ((6, Value.int (bgF I 1 t)) : Nat × Value) = (6, Value.int (bgF I 1 (t + 1))) from by rw [show bgF I 1 t = bgF I 1 (t + 1) from by first | exact b3 (by assumption) (by omega) (by omega) | exact b4 (fun z => by first | exact absurd z.1 (by assumption) | omega)]]
                exact ih (iM I - (t + 1)) (by omega) (t + 1) _ rfl (by omega) x_137
              · refine x_iload 2 dL_within_185 rfl ?_
                refine x_goto 192 dL_within_187 (by decide) ?_
                refine x_istore (lv' := [(5, _), (6, _), (8, _), (7, _), (4, _), (0, _), (1, _), (2, _), (3, _)]) dL_within_192 (lt_ok rfl) rfl ?_
                refine y_iinc (lv' := [(7, _), (5, _), (6, _), (8, _), (4, _), (0, _), (1, _), (2, _), (3, _)]) 3 dL_within_194 rfl (lt_ok rfl) rfl ?_
                refine x_goto 126 dL_within_197 (by decide) ?_
                refine x_pick (lv' := [(7, _), (5, _), (6, _), (4, _), (0, _), (1, _), (2, _), (3, _)]) [0, 1, 2, 4, 5, 6, 7, 8] rfl ?_
                rw [show ((5, Value.int (nI t)) : Nat × Value) = (5, Value.int (bgF I 0 (t + 1))) from by rw [show nI t = bgF I 0 (t + 1) from by first | exact b1 (by assumption) (by omega) | exact b2 (fun z => by first | exact absurd z.1 (by assumption) | omega)], show ((6, Value.int (bgF I 1 t)) : Nat × Value) = (6, Value.int (bgF I 1 (t + 1))) from by rw [show bgF I 1 t = bgF I 1 (t + 1) from by first | exact b3 (by assumption) (by omega) (by omega) | exact b4 (fun z => by first | exact absurd z.1 (by assumption) | omega)]]
                exact ih (iM I - (t + 1)) (by omega) (t + 1) _ rfl (by omega) x_137
            · refine t_if_eq 190 dL_within_177 (by decide) (by decide) ?_
              refine x_iload 3 dL_within_190 rfl ?_
              refine x_istore (lv' := [(5, _), (6, _), (8, _), (7, _), (4, _), (0, _), (1, _), (2, _), (3, _)]) dL_within_192 (lt_ok rfl) rfl ?_
              refine y_iinc (lv' := [(7, _), (5, _), (6, _), (8, _), (4, _), (0, _), (1, _), (2, _), (3, _)]) 3 dL_within_194 rfl (lt_ok rfl) rfl ?_
              refine x_goto 126 dL_within_197 (by decide) ?_
              refine x_pick (lv' := [(7, _), (5, _), (6, _), (4, _), (0, _), (1, _), (2, _), (3, _)]) [0, 1, 2, 4, 5, 6, 7, 8] rfl ?_
              rw [show ((5, Value.int (bgF I 0 t)) : Nat × Value) = (5, Value.int (bgF I 0 (t + 1))) from by rw [show bgF I 0 t = bgF I 0 (t + 1) from by first | exact b1 (by assumption) (by omega) | exact b2 (fun z => by first | exact absurd z.1 (by assumption) | omega)], show ((6, Value.int (bgF I 1 t)) : Nat × Value) = (6, Value.int (bgF I 1 (t + 1))) from by rw [show bgF I 1 t = bgF I 1 (t + 1) from by first | exact b3 (by assumption) (by omega) (by omega) | exact b4 (fun z => by first | exact absurd z.1 (by assumption) | omega)]]
              exact ih (iM I - (t + 1)) (by omega) (t + 1) _ rfl (by omega) x_137
          · refine x_iload 1 dL_within_163 rfl ?_
            refine x_goto 170 dL_within_165 (by decide) ?_
            refine x_istore (lv' := [(6, _), (8, _), (7, _), (5, _), (4, _), (0, _), (1, _), (2, _), (3, _)]) dL_within_170 (lt_ok rfl) rfl ?_
            refine x_iload 1 dL_within_172 rfl ?_
            refine x_callSb (as := [_]) (rest := []) sL_20 (c_L_bag (k := iK I t) (by have := hk5 (by omega); omega)) dL_within_174 rfl rfl (Nat.le_of_ble_eq_true rfl) (Nat.le_of_ble_eq_true rfl) (Nat.le_of_ble_eq_true rfl) (fun c_174 => ?_) (fun c_174 => ?_)
            · refine u_if_eq 190 dL_within_177 (by decide) (by decide) ?_
              refine x_iload 3 dL_within_180 rfl ?_
              refine x_if_ge 190 dL_within_182 (by decide) (fun c_182 => ?_) (fun c_182 => ?_)
              · refine x_iload 3 dL_within_190 rfl ?_
                refine x_istore (lv' := [(5, _), (6, _), (8, _), (7, _), (4, _), (0, _), (1, _), (2, _), (3, _)]) dL_within_192 (lt_ok rfl) rfl ?_
                refine y_iinc (lv' := [(7, _), (5, _), (6, _), (8, _), (4, _), (0, _), (1, _), (2, _), (3, _)]) 3 dL_within_194 rfl (lt_ok rfl) rfl ?_
                refine x_goto 126 dL_within_197 (by decide) ?_
                refine x_pick (lv' := [(7, _), (5, _), (6, _), (4, _), (0, _), (1, _), (2, _), (3, _)]) [0, 1, 2, 4, 5, 6, 7, 8] rfl ?_
                rw [show ((5, Value.int (bgF I 0 t)) : Nat × Value) = (5, Value.int (bgF I 0 (t + 1))) from by rw [show bgF I 0 t = bgF I 0 (t + 1) from by first | exact b1 (by assumption) (by omega) | exact b2 (fun z => by first | exact absurd z.1 (by assumption) | omega)], show ((6, Value.int (nI t)) : Nat × Value) = (6, Value.int (bgF I 1 (t + 1))) from by rw [show nI t = bgF I 1 (t + 1) from by first | exact b3 (by assumption) (by omega) (by omega) | exact b4 (fun z => by first | exact absurd z.1 (by assumption) | omega)]]
                exact ih (iM I - (t + 1)) (by omega) (t + 1) _ rfl (by omega) x_137
              · refine x_iload 2 dL_within_185 rfl ?_
                refine x_goto 192 dL_within_187 (by decide) ?_
                refine x_istore (lv' := [(5, _), (6, _), (8, _), (7, _), (4, _), (0, _), (1, _), (2, _), (3, _)]) dL_within_192 (lt_ok rfl) rfl ?_
                refine y_iinc (lv' := [(7, _), (5, _), (6, _), (8, _), (4, _), (0, _), (1, _), (2, _), (3, _)]) 3 dL_within_194 rfl (lt_ok rfl) rfl ?_
                refine x_goto 126 dL_within_197 (by decide) ?_
                refine x_pick (lv' := [(7, _), (5, _), (6, _), (4, _), (0, _), (1, _), (2, _), (3, _)]) [0, 1, 2, 4, 5, 6, 7, 8] rfl ?_
                rw [show ((5, Value.int (nI t)) : Nat × Value) = (5, Value.int (bgF I 0 (t + 1))) from by rw [show nI t = bgF I 0 (t + 1) from by first | exact b1 (by assumption) (by omega) | exact b2 (fun z => by first | exact absurd z.1 (by assumption) | omega)], show ((6, Value.int (nI t)) : Nat × Value) = (6, Value.int (bgF I 1 (t + 1))) from by rw [show nI t = bgF I 1 (t + 1) from by first | exact b3 (by assumption) (by omega) (by omega) | exact b4 (fun z => by first | exact absurd z.1 (by assumption) | omega)]]
                exact ih (iM I - (t + 1)) (by omega) (t + 1) _ rfl (by omega) x_137
            · refine t_if_eq 190 dL_within_177 (by decide) (by decide) ?_
              refine x_iload 3 dL_within_190 rfl ?_
              refine x_istore (lv' := [(5, _), (6, _), (8, _), (7, _), (4, _), (0, _), (1, _), (2, _), (3, _)]) dL_within_192 (lt_ok rfl) rfl ?_
              refine y_iinc (lv' := [(7, _), (5, _), (6, _), (8, _), (4, _), (0, _), (1, _), (2, _), (3, _)]) 3 dL_within_194 rfl (lt_ok rfl) rfl ?_
              refine x_goto 126 dL_within_197 (by decide) ?_
              refine x_pick (lv' := [(7, _), (5, _), (6, _), (4, _), (0, _), (1, _), (2, _), (3, _)]) [0, 1, 2, 4, 5, 6, 7, 8] rfl ?_
              rw [show ((5, Value.int (bgF I 0 t)) : Nat × Value) = (5, Value.int (bgF I 0 (t + 1))) from by rw [show bgF I 0 t = bgF I 0 (t + 1) from by first | exact b1 (by assumption) (by omega) | exact b2 (fun z => by first | exact absurd z.1 (by assumption) | omega)], show ((6, Value.int (nI t)) : Nat × Value) = (6, Value.int (bgF I 1 (t + 1))) from by rw [show nI t = bgF I 1 (t + 1) from by first | exact b3 (by assumption) (by omega) (by omega) | exact b4 (fun z => by first | exact absurd z.1 (by assumption) | omega)]]
              exact ih (iM I - (t + 1)) (by omega) (t + 1) _ rfl (by omega) x_137
      · refine t_if_eq 168 dL_within_150 (by decide) (by decide) ?_
        refine x_iload 3 dL_within_168 rfl ?_
        refine x_istore (lv' := [(6, _), (8, _), (7, _), (5, _), (4, _), (0, _), (1, _), (2, _), (3, _)]) dL_within_170 (lt_ok rfl) rfl ?_
        refine x_iload 1 dL_within_172 rfl ?_
        refine x_callSb (as := [_]) (rest := []) sL_20 (c_L_bag (k := iK I t) (by have := hk5 (by omega); omega)) dL_within_174 rfl rfl (Nat.le_of_ble_eq_true rfl) (Nat.le_of_ble_eq_true rfl) (Nat.le_of_ble_eq_true rfl) (fun c_174 => ?_) (fun c_174 => ?_)
        · refine u_if_eq 190 dL_within_177 (by decide) (by decide) ?_
          refine x_iload 3 dL_within_180 rfl ?_
          refine x_if_ge 190 dL_within_182 (by decide) (fun c_182 => ?_) (fun c_182 => ?_)
          · refine x_iload 3 dL_within_190 rfl ?_
            refine x_istore (lv' := [(5, _), (6, _), (8, _), (7, _), (4, _), (0, _), (1, _), (2, _), (3, _)]) dL_within_192 (lt_ok rfl) rfl ?_
            refine y_iinc (lv' := [(7, _), (5, _), (6, _), (8, _), (4, _), (0, _), (1, _), (2, _), (3, _)]) 3 dL_within_194 rfl (lt_ok rfl) rfl ?_
            refine x_goto 126 dL_within_197 (by decide) ?_
            refine x_pick (lv' := [(7, _), (5, _), (6, _), (4, _), (0, _), (1, _), (2, _), (3, _)]) [0, 1, 2, 4, 5, 6, 7, 8] rfl ?_
            rw [show ((5, Value.int (bgF I 0 t)) : Nat × Value) = (5, Value.int (bgF I 0 (t + 1))) from by rw [show bgF I 0 t = bgF I 0 (t + 1) from by first | exact b1 (by assumption) (by omega) | exact b2 (fun z => by first | exact absurd z.1 (by assumption) | omega)], show ((6, Value.int (bgF I 1 t)) : Nat × Value) = (6, Value.int (bgF I 1 (t + 1))) from by rw [show bgF I 1 t = bgF I 1 (t + 1) from by first | exact b3 (by assumption) (by omega) (by omega) | exact b4 (fun z => by first | exact absurd z.1 (by assumption) | omega)]]
            exact ih (iM I - (t + 1)) (by omega) (t + 1) _ rfl (by omega) x_137
          · refine x_iload 2 dL_within_185 rfl ?_
            refine x_goto 192 dL_within_187 (by decide) ?_
            refine x_istore (lv' := [(5, _), (6, _), (8, _), (7, _), (4, _), (0, _), (1, _), (2, _), (3, _)]) dL_within_192 (lt_ok rfl) rfl ?_
            refine y_iinc (lv' := [(7, _), (5, _), (6, _), (8, _), (4, _), (0, _), (1, _), (2, _), (3, _)]) 3 dL_within_194 rfl (lt_ok rfl) rfl ?_
            refine x_goto 126 dL_within_197 (by decide) ?_
            refine x_pick (lv' := [(7, _), (5, _), (6, _), (4, _), (0, _), (1, _), (2, _), (3, _)]) [0, 1, 2, 4, 5, 6, 7, 8] rfl ?_
            rw [show ((5, Value.int (nI t)) : Nat × Value) = (5, Value.int (bgF I 0 (t + 1))) from by rw [show nI t = bgF I 0 (t + 1) from by first | exact b1 (by assumption) (by omega) | exact b2 (fun z => by first | exact absurd z.1 (by assumption) | omega)], show ((6, Value.int (bgF I 1 t)) : Nat × Value) = (6, Value.int (bgF I 1 (t + 1))) from by rw [show bgF I 1 t = bgF I 1 (t + 1) from by first | exact b3 (by assumption) (by omega) (by omega) | exact b4 (fun z => by first | exact absurd z.1 (by assumption) | omega)]]
            exact ih (iM I - (t + 1)) (by omega) (t + 1) _ rfl (by omega) x_137
        · refine t_if_eq 190 dL_within_177 (by decide) (by decide) ?_
          refine x_iload 3 dL_within_190 rfl ?_
          refine x_istore (lv' := [(5, _), (6, _), (8, _), (7, _), (4, _), (0, _), (1, _), (2, _), (3, _)]) dL_within_192 (lt_ok rfl) rfl ?_
          refine y_iinc (lv' := [(7, _), (5, _), (6, _), (8, _), (4, _), (0, _), (1, _), (2, _), (3, _)]) 3 dL_within_194 rfl (lt_ok rfl) rfl ?_
          refine x_goto 126 dL_within_197 (by decide) ?_
          refine x_pick (lv' := [(7, _), (5, _), (6, _), (4, _), (0, _), (1, _), (2, _), (3, _)]) [0, 1, 2, 4, 5, 6, 7, 8] rfl ?_
          rw [show ((5, Value.int (bgF I 0 t)) : Nat × Value) = (5, Value.int (bgF I 0 (t + 1))) from by rw [show bgF I 0 t = bgF I 0 (t + 1) from by first | exact b1 (by assumption) (by omega) | exact b2 (fun z => by first | exact absurd z.1 (by assumption) | omega)], show ((6, Value.int (bgF I 1 t)) : Nat × Value) = (6, Value.int (bgF I 1 (t + 1))) from by rw [show bgF I 1 t = bgF I 1 (t + 1) from by first | exact b3 (by assumption) (by omega) (by omega) | exact b4 (fun z => by first | exact absurd z.1 (by assumption) | omega)]]
          exact ih (iM I - (t + 1)) (by omega) (t + 1) _ rfl (by omega) x_137

set_option maxHeartbeats 4000000 in
set_option maxRecDepth 100000 in
theorem wi_A2 {S : St} {I : Isl} (hI : IsX 11 I S) (hO : IOK I) {w : Nat → Nat} (hP : PlT 35 I w S) (hL : S.1 35 5 = nI 3) (hv : VS I w 3) {p : Nat} (hp : p < iP I) {Q : Option Value → St → Prop} (H : ∀ S1, As S S1 → X 3 90 mL_within Q 6 [(5, .int (nI (p + 1))), (4, .int (nI (alF I w (p + 1)))), (0, .ref 0), (1, .int (nI (iP I))), (2, .int (nI (iM I))), (3, .int (nI 3))] [] S1)  : ∀ (t : Nat) (S1 : St), (t ≤ iM I) → (As S S1) → X 3 90 mL_within (Q) 57 [(8, .int (nI t)), (7, .int (nI ((heldF I w p)))), (5, .int (nI p)), (4, .int (nI ((alF I w (p + 1))))), (0, .ref 0), (1, .int (nI ((iP I)))), (2, .int (nI ((iM I)))), (3, .int (nI 3))] [] S1 := by
  intro t S1
  induction hm : iM I - t using Nat.strongRecOn generalizing t S1 with
  | _ mm ih =>
    intro ht hx
    have hO1 := hO.1
    have hO2 := hO.2.1
    have hO4 := hO.2.2.2.1
    have hh := held_lt hO (w := w) (p := p)
    have hw4 := fun q => whomF_le (I := I) (w := w) (hv.ok hO) (t := t) q
    have hb1 := fun q => held_b1 (I := I) (w := w) (p := p) (t := t) q
    refine x_iload 0 dL_within_57 rfl ?_
    refine x_iload_n 6 dL_within_59 rfl rfl ?_
    refine y_ic_ge 111 dL_within_60 (by decide) (by omega) (by omega) (fun c_60 => ?_) (fun c_60 => ?_)
    · refine y_iinc (lv' := [(5, _), (8, _), (7, _), (4, _), (0, _), (1, _), (2, _), (3, _)]) 2 dL_within_111 rfl (lt_ok rfl) rfl ?_
      refine x_goto 6 dL_within_114 (by decide) ?_
      refine x_pick (lv' := [(5, _), (4, _), (0, _), (1, _), (2, _), (3, _)]) [0, 3, 4, 5, 6, 7] rfl ?_
      exact H _ hx
    · refine x_aload_n 4 dL_within_63 rfl rfl ?_
      refine x_aload_n 4 dL_within_64 rfl rfl ?_
      refine x_iload 0 dL_within_65 rfl ?_
      refine x_iconst (v := nI 3) dL_within_67 (by decide) ?_
      refine x_callVqi (as := [_, _]) (rest := [_]) vL_87 (c_thingA hx hI hO hP hL (by decide) hv rfl (show t < iM I by omega) (by decide) (k := 3) (v := whomF I w t) rfl) dL_within_68 l0 rfl rfl rfl (Nat.le_of_ble_eq_true rfl) (Nat.le_of_ble_eq_true rfl) (Nat.le_of_ble_eq_true rfl) (fun r_68 S_68 q_68 => ?_)
      obtain ⟨rfl, e_68, x_68⟩ := q_68
      refine x_callSu (as := [_, _]) (rest := []) sL_90 (c_tellsA e_68) dL_within_71 rfl rfl (Nat.le_of_ble_eq_true rfl) (Nat.le_of_ble_eq_true rfl) (Nat.le_of_ble_eq_true rfl) ?_
      have k1 := hb1 (by omega)
      have k2 := hw4 (by omega)
      refine x_iload 2 dL_within_74 rfl ?_
      refine y_ic_ne 83 dL_within_76 (by decide) (by omega) (by omega) (fun c_76 => ?_) (fun c_76 => ?_)
      · refine x_iconst (v := nI 0) dL_within_83 (by decide) ?_
        refine x_iload 1 dL_within_84 rfl ?_
        refine x_iload 0 dL_within_86 rfl ?_
        refine y_ishr dL_within_88 (by omega) (by omega) ?_
        refine x_iconst (v := nI 1) dL_within_89 (by decide) ?_
        refine y_iand dL_within_90 ?_
        rw [show (((heldF I w p) / 2 ^ t) &&& 1) = (heldF I w p / 2 ^ t % 2) from by rw [Nat.and_one_is_mod]]
        refine x_iconst (v := nI 1) dL_within_91 (by decide) ?_
        refine y_ic_ne 99 dL_within_92 (by decide) (by omega) (by omega) (fun c_92 => ?_) (fun c_92 => ?_)
        · refine x_iconst (v := nI 0) dL_within_99 (by decide) ?_
          refine y_ic_eq 105 dL_within_100 (by decide) (by omega) (by omega) (fun c_100 => ?_) (fun c_100 => ?_)
          · refine y_iinc (lv' := [(8, _), (7, _), (5, _), (4, _), (0, _), (1, _), (2, _), (3, _)]) 0 dL_within_105 rfl (lt_ok rfl) rfl ?_
            refine x_goto 57 dL_within_108 (by decide) ?_
            refine x_pick (lv' := [(8, _), (7, _), (5, _), (4, _), (0, _), (1, _), (2, _), (3, _)]) [0, 1, 2, 3, 4, 5, 6, 7] rfl ?_
            exact ih (iM I - (t + 1)) (by omega) (t + 1) _ rfl (by omega) x_68
          · refine x_iconst (v := nI 0) dL_within_103 (by decide) ?_
            refine x_zret rfl dL_within_104 (by decide) (by exfalso; omega)
        · refine x_iconst (v := nI 1) dL_within_95 (by decide) ?_
          refine x_goto 100 dL_within_96 (by decide) ?_
          refine y_ic_eq 105 dL_within_100 (by decide) (by omega) (by omega) (fun c_100 => ?_) (fun c_100 => ?_)
          · refine y_iinc (lv' := [(8, _), (7, _), (5, _), (4, _), (0, _), (1, _), (2, _), (3, _)]) 0 dL_within_105 rfl (lt_ok rfl) rfl ?_
            refine x_goto 57 dL_within_108 (by decide) ?_
            refine x_pick (lv' := [(8, _), (7, _), (5, _), (4, _), (0, _), (1, _), (2, _), (3, _)]) [0, 1, 2, 3, 4, 5, 6, 7] rfl ?_
            exact ih (iM I - (t + 1)) (by omega) (t + 1) _ rfl (by omega) x_68
          · refine x_iconst (v := nI 0) dL_within_103 (by decide) ?_
            refine x_zret rfl dL_within_104 (by decide) (by exfalso; omega)
      · refine x_iconst (v := nI 1) dL_within_79 (by decide) ?_
        refine x_goto 84 dL_within_80 (by decide) ?_
        refine x_iload 1 dL_within_84 rfl ?_
        refine x_iload 0 dL_within_86 rfl ?_
        refine y_ishr dL_within_88 (by omega) (by omega) ?_
        refine x_iconst (v := nI 1) dL_within_89 (by decide) ?_
        refine y_iand dL_within_90 ?_
        rw [show (((heldF I w p) / 2 ^ t) &&& 1) = (heldF I w p / 2 ^ t % 2) from by rw [Nat.and_one_is_mod]]
        refine x_iconst (v := nI 1) dL_within_91 (by decide) ?_
        refine y_ic_ne 99 dL_within_92 (by decide) (by omega) (by omega) (fun c_92 => ?_) (fun c_92 => ?_)
        · refine x_iconst (v := nI 0) dL_within_99 (by decide) ?_
          refine y_ic_eq 105 dL_within_100 (by decide) (by omega) (by omega) (fun c_100 => ?_) (fun c_100 => ?_)
          · refine y_iinc (lv' := [(8, _), (7, _), (5, _), (4, _), (0, _), (1, _), (2, _), (3, _)]) 0 dL_within_105 rfl (lt_ok rfl) rfl ?_
            refine x_goto 57 dL_within_108 (by decide) ?_
            refine x_pick (lv' := [(8, _), (7, _), (5, _), (4, _), (0, _), (1, _), (2, _), (3, _)]) [0, 1, 2, 3, 4, 5, 6, 7] rfl ?_
            exact ih (iM I - (t + 1)) (by omega) (t + 1) _ rfl (by omega) x_68
          · refine x_iconst (v := nI 0) dL_within_103 (by decide) ?_
            refine x_zret rfl dL_within_104 (by decide) (by exfalso; omega)
        · refine x_iconst (v := nI 1) dL_within_95 (by decide) ?_
          refine x_goto 100 dL_within_96 (by decide) ?_
          refine y_ic_eq 105 dL_within_100 (by decide) (by omega) (by omega) (fun c_100 => ?_) (fun c_100 => ?_)
          · refine y_iinc (lv' := [(8, _), (7, _), (5, _), (4, _), (0, _), (1, _), (2, _), (3, _)]) 0 dL_within_105 rfl (lt_ok rfl) rfl ?_
            refine x_goto 57 dL_within_108 (by decide) ?_
            refine x_pick (lv' := [(8, _), (7, _), (5, _), (4, _), (0, _), (1, _), (2, _), (3, _)]) [0, 1, 2, 3, 4, 5, 6, 7] rfl ?_
            exact ih (iM I - (t + 1)) (by omega) (t + 1) _ rfl (by omega) x_68
          · refine x_iconst (v := nI 0) dL_within_103 (by decide) ?_
            refine x_zret rfl dL_within_104 (by decide) (by exfalso; omega)

set_option maxHeartbeats 4000000 in
set_option maxRecDepth 100000 in
theorem wi_A {S : St} {I : Isl} (hI : IsX 11 I S) (hO : IOK I) {w : Nat → Nat} (hP : PlT 35 I w S) (hL : S.1 35 5 = nI 3) (hv : VS I w 3)  : ∀ (p : Nat) (S1 : St), (p ≤ iP I) → (As S S1) → X 3 90 mL_within (qi (fun r S' => r = nI 1 ∧ As S S')) 6 [(5, .int (nI p)), (4, .int (nI ((alF I w p)))), (0, .ref 0), (1, .int (nI ((iP I)))), (2, .int (nI ((iM I)))), (3, .int (nI 3))] [] S1 := by
  intro p S1
  induction hm : iP I - p using Nat.strongRecOn generalizing p S1 with
  | _ mm ih =>
    intro hp hx
    have hO1 := hO.1
    have hO2 := hO.2.1
    have hO4 := hO.2.2.2.1
    have hh := held_lt hO (w := w) (p := p)
    have ha := al_lt hO (w := w) (p := p)
    have hd := al_dis (I := I) (w := w) (p := p)
    have hl := hv.2.2 p
    have hl2 := loadF_le I hO w p
    refine x_iload 0 dL_within_6 rfl ?_
    refine x_iload_n 3 dL_within_8 rfl rfl ?_
    refine y_ic_ge 117 dL_within_9 (by decide) (by omega) (by omega) (fun c_9 => ?_) (fun c_9 => ?_)
    · refine x_iconst (v := -1) dL_within_117 (by decide) ?_
      refine x_istore (lv' := [(5, _), (4, _), (0, _), (1, _), (2, _), (3, _)]) dL_within_118 (lt_ok rfl) rfl ?_
      refine x_iconst (v := -1) dL_within_120 (by decide) ?_
      refine x_istore (lv' := [(6, _), (5, _), (4, _), (0, _), (1, _), (2, _), (3, _)]) dL_within_121 (lt_ok rfl) rfl ?_
      refine x_iconst (v := nI 0) dL_within_123 (by decide) ?_
      refine x_istore (lv' := [(7, _), (6, _), (5, _), (4, _), (0, _), (1, _), (2, _), (3, _)]) dL_within_124 (lt_ok rfl) rfl ?_
      refine x_pick (lv' := [(7, _), (5, _), (6, _), (4, _), (0, _), (1, _), (2, _), (3, _)]) [0, 2, 1, 3, 4, 5, 6, 7] rfl ?_
      obtain rfl : p = iP I := (by omega)
      have hh := wi_B hI hO hP hL hv 0 S1 (Nat.zero_le _) hx
      rw [show bgF I 0 0 = -1 from bg_0, show bgF I 1 0 = -1 from bg_0] at hh
      exact hh
    · refine x_aload_n 2 dL_within_12 rfl rfl ?_
      refine x_iload 0 dL_within_13 rfl ?_
      refine x_callVqi (as := [_]) (rest := []) vL_94 (c_loadA hx hI hO hP (show p < iP I by omega)) dL_within_15 l0 rfl rfl rfl (Nat.le_of_ble_eq_true rfl) (Nat.le_of_ble_eq_true rfl) (Nat.le_of_ble_eq_true rfl) (fun r_15 S_15 q_15 => ?_)
      obtain ⟨rfl, e_15, x_15⟩ := q_15
      refine x_istore (lv' := [(6, _), (5, _), (4, _), (0, _), (1, _), (2, _), (3, _)]) dL_within_18 (lt_ok rfl) rfl ?_
      refine x_aload_n 3 dL_within_20 rfl rfl ?_
      refine x_callVu (as := []) (rest := []) vL_83 (c_askedA e_15) dL_within_21 l0 rfl rfl rfl (Nat.le_of_ble_eq_true rfl) (Nat.le_of_ble_eq_true rfl) (Nat.le_of_ble_eq_true rfl) ?_
      refine x_istore (lv' := [(7, _), (6, _), (5, _), (4, _), (0, _), (1, _), (2, _), (3, _)]) dL_within_24 (lt_ok rfl) rfl ?_
      refine x_iload 1 dL_within_26 rfl ?_
      have hl3 := hl (by omega)
      refine y_if_lt 45 dL_within_28 (by decide) (by omega) (fun c_28 => ?_) (fun c_28 => ?_)
      · refine x_iconst (v := nI 0) dL_within_45 (by decide) ?_
        refine x_zret rfl dL_within_46 (by decide) (by exfalso; omega)
      · refine x_iload 1 dL_within_31 rfl ?_
        refine x_iload_n 7 dL_within_33 rfl rfl ?_
        refine y_ic_gt 45 dL_within_34 (by decide) (by omega) (by omega) (fun c_34 => ?_) (fun c_34 => ?_)
        · refine x_iconst (v := nI 0) dL_within_45 (by decide) ?_
          refine x_zret rfl dL_within_46 (by decide) (by exfalso; omega)
        · refine x_iload 0 dL_within_37 rfl ?_
          refine x_iload 3 dL_within_39 rfl ?_
          refine y_iand dL_within_41 ?_
          refine y_if_eq 47 dL_within_42 (by decide) (by omega) (fun c_42 => ?_) (fun c_42 => ?_)
          · refine x_iload 3 dL_within_47 rfl ?_
            refine x_iload 0 dL_within_49 rfl ?_
            refine y_ior dL_within_51 ?_
            refine x_istore (lv' := [(4, _), (7, _), (6, _), (5, _), (0, _), (1, _), (2, _), (3, _)]) dL_within_52 (lt_ok rfl) rfl ?_
            refine x_iconst (v := nI 0) dL_within_54 (by decide) ?_
            refine x_istore (lv' := [(8, _), (4, _), (7, _), (6, _), (5, _), (0, _), (1, _), (2, _), (3, _)]) dL_within_55 (lt_ok rfl) rfl ?_
            refine x_pick (lv' := [(8, _), (7, _), (5, _), (4, _), (0, _), (1, _), (2, _), (3, _)]) [0, 2, 4, 1, 5, 6, 7, 8] rfl ?_
            exact wi_A2 hI hO hP hL hv (show p < iP I by omega) (fun S1 z => ih (iP I - (p + 1)) (by omega) (p + 1) S1 rfl (by omega) z) 0 _ (Nat.zero_le _) x_15
          · refine x_iconst (v := nI 0) dL_within_45 (by decide) ?_
            refine x_zret rfl dL_within_46 (by decide) (by exfalso; omega)

set_option maxHeartbeats 4000000 in
set_option maxRecDepth 100000 in
theorem c_L_within {S : St} {I : Isl} (hI : IsX 11 I S) (hO : IOK I) {w : Nat → Nat} (hP : PlT 35 I w S) (hL : S.1 35 5 = nI 3) (hv : VS I w 3)  : C 3 90 yL_within mL_within [.ref 0, .int (nI ((iP I))), .int (nI ((iM I))), .int (nI 3)] S (qi (fun r S' => r = nI 1 ∧ As S S')) := by
  refine C.ofX (by decide) rfl (Nat.le_of_ble_eq_true rfl) ?_
  show X 3 90 mL_within (qi (fun r S' => r = nI 1 ∧ As S S')) 0 [(0, .ref 0), (1, .int (nI ((iP I)))), (2, .int (nI ((iM I)))), (3, .int (nI 3))] [] S
  refine x_iconst (v := nI 0) dL_within_0 (by decide) ?_
  refine x_istore (lv' := [(4, _), (0, _), (1, _), (2, _), (3, _)]) dL_within_1 (lt_ok rfl) rfl ?_
  refine x_iconst (v := nI 0) dL_within_3 (by decide) ?_
  refine x_istore (lv' := [(5, _), (4, _), (0, _), (1, _), (2, _), (3, _)]) dL_within_4 (lt_ok rfl) rfl ?_
  refine x_pick (lv' := [(5, _), (4, _), (0, _), (1, _), (2, _), (3, _)]) [0, 1, 2, 3, 4, 5] rfl ?_
  exact wi_A hI hO hP hL hv 0 S (Nat.zero_le _) As.refl
