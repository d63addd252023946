/-! ===== island ===== -/
def F78 (a : Nat) : Prop := a = 7 ∨ a = 8
theorem RwS.keep {k c ρ : Nat} {S S' : St} (h : RwS k c ρ S) (e0 : S'.1 k 0 = S.1 k 0) (e : ∀ r, r < c → S'.1 (k + 1) r = S.1 (k + 1) r) : RwS k c ρ S' := ⟨e0.trans h.1, fun r hr => by rw [e r hr]; exact h.2 r hr⟩
theorem NUM.V {n0 m k : Nat} {kd pl : Nat → Nat} {V : Nat → Nat → Nat} {S : St} (hN : NUM n0 m kd pl k V S) {w j i : Nat} (hw : w < k) (hj : j < 4) (hi : i = 13 + 4 * w + j) : S.1 83 i = nI (V w j) := by
  subst hi
  exact hN.2.2 w hw j hj
def TXL (l : List Nat) (S S1 : St) : Prop := Fr F78 S S1 ∧ RwS 6 4 100 S1 ∧ S1.1 7 3 = nI 100 ∧ (∀ i, i < 100 → S1.1 8 (300 + i) = nI (l.getD i 32)) ∧ ByX S1
theorem TXL.g {l : List Nat} {S S1 : St} (h : TXL l S S1) (j : Nat) : S1.1 83 j = S.1 83 j := h.1.2 83 (by unfold F78; omega) j
theorem gd_end (l : List Nat) (b i : Nat) : (l ++ [b]).getD i 32 = if i = l.length then b else l.getD i 32 := by
  by_cases q : i = l.length
  · rw [if_pos q, q]; exact gd_app (j := 0)
  · rw [if_neg q]
    by_cases z : i < l.length
    · exact gd_left z
    · rw [gd_out (by rw [List.length_append]; show l.length + 1 ≤ i; omega), gd_out (by omega)]
theorem TXL.put {l : List Nat} {S S1 : St} {b : Nat} (h : TXL l S S1) (hl : l.length < 100) (hb : b < 128) : TXL (l ++ [b]) S (setI S1 8 (300 + l.length) (nI b)) := by
  obtain ⟨h1, h2, h3, h4, h5⟩ := h
  refine ⟨⟨h1.1, fun a ha c => (rdI_k (fun q => ha (Or.inr q))).trans (h1.2 a ha c)⟩, h2.keep (rdI_k (by decide)) (fun r _ => rdI_k (by decide)), (rdI_k (by decide)).trans h3, fun i hi => ?_, fun j hj => ?_⟩
  · rw [gd_end]
    by_cases q : i = l.length
    · rw [if_pos q, q, rdI_eq]
    · rw [if_neg q, rdI_j (by omega)]; exact h4 i hi
  · by_cases q : j = 300 + l.length
    · rw [q, rdI_eq, tiN (by omega)]; omega
    · rw [rdI_j q]; exact h5 j hj
theorem c_putL {l : List Nat} {S S1 : St} (h : TXL l S S1) (hl : l.length < 100) {a b : Nat} (ha : a = l.length) (hb : b < 128) : C 4 120 yL_put mL_put [.ref 0, .int (nI a), .int (nI b)] S1 (qi (fun r S' => r = nI (a + 1) ∧ TXL (l ++ [b]) S S')) := by
  subst ha
  refine (c_L_put h.2.1 h.2.2.1 hl ((h.2.2.2.1 _ hl).trans (by rw [gd_out (Nat.le_refl _)])) hb).mono (fun v S' hq => ?_)
  obtain ⟨rfl, rfl⟩ := hq
  exact ⟨_, rfl, rfl, h.put hl hb⟩
theorem c_text3 {S : St} (hS : RwS 6 4 100 S) (hB : ByX S) : C 3 90 yX10_text mX10_text [.ref 0, .int (nI 3), .int (nI 100)] S (qi (fun r S' => r = nI 100 ∧ TXL [32] S S')) := by
  have h := c_X10_text (x := nI 3) (y := nI 100) hS
  have e3 : (nI 3).toInt = 3 := by decide
  have t3 : tn (nI 3) = 3 := by decide
  have t100 : tn (nI 100) = 100 := by decide
  have e100 : (nI 100).toInt = 100 := by decide
  refine h.mono (fun v S' hq => ?_)
  obtain ⟨rfl, rfl⟩ := hq
  have e1 : rowA 4 100 (nI 3) (nI 100) = nI 100 := by decide
  have e2 : textX S (nI 3) (nI 100) = fillA (setI S 7 3 (nI 100)) 8 300 400 (nI 32) := by
    unfold textX
    rw [if_neg (by rw [e3, e100]; omega), if_neg (by rw [e100]; omega), t3, t100]
  rw [e1, e2]
  refine ⟨_, rfl, rfl, ⟨rfl, fun a ha b => ?_⟩, ⟨?_, fun r hr => ?_⟩, ?_, fun i hi => ?_, fun j hj => ?_⟩
  · rw [fillA_k (fun q => ha (Or.inr q)), rdI_k (fun q => ha (Or.inl q))]
  · rw [fillA_k (by decide), rdI_k (by decide)]; exact hS.1
  · by_cases q : r = 3
    · rw [q, fillA_k (by decide), rdI_eq]; exact Or.inr ⟨100, Nat.le_refl _, rfl⟩
    · rw [fillA_k (by decide), rdI_j q]; exact hS.2 r hr
  · rw [fillA_k (by decide), rdI_eq]
  · rw [fillA_in (by omega) (by omega)]
    by_cases q : i = 0
    · rw [q]; rfl
    · rw [gd_out (by show 1 ≤ i; omega)]
  · by_cases q : 300 ≤ j
    · rw [fillA_in q (by omega)]; decide
    · rw [fillA_o (by omega), rdI_k (by decide)]; exact hB j hj
theorem LW_b {n0 m k : Nat} {kd pl : Nat → Nat} {V : Nat → Nat → Nat} (hm : m ≤ 4) : (LW (LT n0 kd pl m) m V k).length ≤ 11 + 9 * k := by
  have h2 := LW_len (l0 := LT n0 kd pl m) (m := m) (V := V) k
  have h3 : (5 + m) * k ≤ 9 * k := Nat.mul_le_mul_right _ (by omega)
  rw [LT_len] at h2
  omega
theorem LW_s2 {l0 : List Nat} {m w : Nat} {V : Nat → Nat → Nat} : LW l0 m V (w + 1) = (((((LW l0 m V w ++ [119]) ++ [48 + V w 0]) ++ [48 + V w 1]) ++ FG (V w 2) m) ++ [58]) ++ [48 + V w 3] := by
  rw [LW_s]
  simp only [List.append_assoc, List.cons_append, List.nil_append]
/-- what stands behind the island's telling -/
def ILP (n0 m k : Nat) (V : Nat → Nat → Nat) (I : Isl) (S S' : St) : Prop :=
  (iP I = n0 ∧ iM I = m ∧ iW I = k ∧ ∀ w, w < k → iV I w 3 = V w 3) ∧ PI I ∧ IsX 11 I S' ∧ IsT I S' ∧ PlT 35 I (iS I) S' ∧ (S'.1 35 5 = nI 3 ∧ S'.1 74 9 = nI 0 ∧ S'.1 60 0 = nI 0 ∧ S'.1 63 0 = nI 0 ∧ ∀ k, k < 3 → S'.1 67 k = nI 0) ∧
  S'.2 = S.2 ∧ (∀ a b, ¬ FIs a → ¬ F78 a → ¬ (a = 60 ∧ b = 0) → ¬ (a = 63 ∧ b = 0) → ¬ (a = 74 ∧ b = 9) → S'.1 a b = S.1 a b) ∧ RwS 6 4 100 S' ∧ ByX S'

theorem c_fault3 {S S1 : St} {n0 m k : Nat} {kd pl : Nat → Nat} {V : Nat → Nat → Nat} (h1 : 1 ≤ n0) (h4 : n0 ≤ 4) (hm : m ≤ 4) (hk : k ≤ 6) (hv : VT n0 kd pl m) (hV : VW n0 m V k) (hx : TXL (LW (LT n0 kd pl m) m V k) S S1) : C 6 180 yX10_fault mX10_fault [.ref 0, .int (nI 3)] S1 (qi (fun r S' => r = -9 ∧ Fr FRe S1 S')) := by
  have t3 : tn (nI 3) = 3 := by decide
  have e3 : (nI 3).toInt = 3 := by decide
  have en : tnX S1 (nI 3) = 100 := by unfold tnX; rw [t3, hx.2.2.1]; decide
  have et : txF (tnX S1 (nI 3)) (tbX S1 (nI 3)) = (0, VG (TG n0 kd pl m) V k) := by
    rw [en]
    exact tx_ok h1 h4 hm hk hv hV (fun i hi => by unfold tbX; rw [t3]; exact hx.2.2.2.1 i hi)
  refine (c_X10_fault (x := nI 3) hx.2.1 hx.2.2.2.2).mono (fun v S' hq => ?_)
  obtain ⟨r, rfl, hr⟩ := hq
  rw [e3_2 (by rw [e3]; omega) (by rw [t3, hx.2.2.1]; decide)] at hr
  refine ⟨r, rfl, hr.1.trans ?_, hr.2⟩
  unfold ftF
  rw [et]
  rfl
theorem c_island3 {S S1 S2 : St} {n0 m k : Nat} {kd pl : Nat → Nat} {V : Nat → Nat → Nat} (h1 : 1 ≤ n0) (h4 : n0 ≤ 4) (hm : m ≤ 4) (hk : k ≤ 6) (hv : VT n0 kd pl m) (hV : VW n0 m V k) (hx : TXL (LW (LT n0 kd pl m) m V k) S S1) (hf : Fr FRe S1 S2) : C 6 180 yX10_island mX10_island [.ref 0, .int (nI 3)] S2 (qi (fun r S' => r = nI m ∧ ∃ I, ILP n0 m k V I S S')) := by
  have t3 : tn (nI 3) = 3 := by decide
  have e3 : (nI 3).toInt = 3 := by decide
  have e67 : ∀ a b, a = 6 ∨ a = 7 ∨ a = 8 → S2.1 a b = S1.1 a b := fun a b ha => hf.2 a (by unfold FRe; omega) b
  have h7 : S2.1 7 3 = nI 100 := (e67 7 3 (by omega)).trans hx.2.2.1
  have hS2 : RwS 6 4 100 S2 := hx.2.1.keep (e67 6 0 (by omega)) (fun r _ => e67 7 r (by omega))
  have hB2 : ByX S2 := fun j hj => by rw [e67 8 j (by omega)]; exact hx.2.2.2.2 j hj
  have en : tnX S2 (nI 3) = 100 := by unfold tnX; rw [t3, h7]; decide
  have et : txF (tnX S2 (nI 3)) (tbX S2 (nI 3)) = (0, VG (TG n0 kd pl m) V k) := by
    rw [en]
    exact tx_ok h1 h4 hm hk hv hV (fun i hi => by unfold tbX; rw [t3]; exact (e67 8 _ (by omega)).trans (hx.2.2.2.1 i hi))
  obtain ⟨a1, a2, a3⟩ := TG_n (n0 := n0) (kd := kd) (pl := pl) m
  obtain ⟨b1, b2, b3⟩ := VG_n (I0 := TG n0 kd pl m) (V := V) k
  have hPI := (tx_PI (n := tnX S2 (nI 3)) (β := tbX S2 (nI 3)) (by rw [et])).1
  refine (c_X10_island (x := nI 3) hS2 hB2).mono (fun v S' hq => ?_)
  obtain ⟨r, rfl, hr⟩ := hq
  rw [e4_3 (by rw [e3]; omega) (by rw [t3, h7]; decide) (by rw [et]; exact fun q => q rfl)] at hr
  rw [et] at hr hPI
  obtain ⟨r1, r2, r3, r4, r5, r6, r7, r8, r9, r10, r11⟩ := hr
  have e78 : ∀ a b, a = 6 ∨ a = 7 ∨ a = 8 → S'.1 a b = S2.1 a b := fun a b ha => r3 a b (by unfold FIs FRe; omega) (by omega) (by omega) (by omega)
  refine ⟨r, rfl, r1.trans (congrArg nI (b2.trans a2)), _, ⟨b1.trans a1, b2.trans a2, b3.trans (by rw [a3, Nat.zero_add]), fun w hw => VG_V a3 k w hw⟩, hPI, r4, r5, r6, ⟨r7, r8, r9, r10, r11⟩, r2.trans (hf.1.trans hx.1.1), fun a b q1 q2 q3 q4 q5 => (r3 a b q1 q3 q4 q5).trans ((hf.2 a (fun z => q1 (Or.inl z)) b).trans (hx.1.2 a q2 b)), hS2.keep (e78 6 0 (by omega)) (fun r _ => e78 7 r (by omega)), fun j hj => by rw [e78 8 j (by omega)]; exact hB2 j hj⟩

set_option maxHeartbeats 4000000 in
set_option maxRecDepth 100000 in
theorem isl_Z {S : St} {n0 m k : Nat} {kd pl : Nat → Nat} {V : Nat → Nat → Nat} (h1 : 1 ≤ n0) (h4 : n0 ≤ 4) (hm4 : m ≤ 4) (hk : k ≤ 6) (hv : VT n0 kd pl m) (hV : VW n0 m V k) (hN : NUM n0 m kd pl k V S) {a : Nat} {S1 : St} (hx : TXL (LW (LT n0 kd pl m) m V k) S S1) (ha : a = (LW (LT n0 kd pl m) m V k).length)  : X 7 210 mL_island (qi (fun r S' => r = nI 1 ∧ ∃ I, ILP n0 m k V I S S')) 272 [(2, .int (nI a)), (0, .ref 0), (1, .ref 83)] [] S1 := by
  have hlb := LW_b (n0 := n0) (kd := kd) (pl := pl) (V := V) (k := k) hm4
  have hl0 : 3 ≤ a := by
    have key : ∀ w, 3 ≤ (LW (LT n0 kd pl m) m V w).length := fun w => by
      induction w with
      | zero => show 3 ≤ (LT n0 kd pl m).length; rw [LT_len]; omega
      | succ w ih => rw [LW_s, List.length_append]; omega
    rw [ha]; exact key k
  refine x_iload_n 0 dL_island_272 rfl rfl ?_
  refine y_if_le 301 dL_island_273 (by decide) (by omega) (fun c_273 => ?_) (fun c_273 => ?_)
  · refine x_iconst (v := nI 0) dL_island_301 (by decide) ?_
    refine x_zret rfl dL_island_302 (by decide) (by first | (exfalso; omega) | exact absurd rfl c_283 | exact absurd rfl c_294)
  · refine x_aload_n 1 dL_island_276 rfl rfl ?_
    refine x_iconst (v := nI 3) dL_island_277 (by decide) ?_
    refine x_callVqi (as := [_]) (rest := []) vL_38 (c_fault3 h1 h4 hm4 hk hv hV hx) dL_island_278 l0 rfl rfl rfl (Nat.le_of_ble_eq_true rfl) (Nat.le_of_ble_eq_true rfl) (Nat.le_of_ble_eq_true rfl) (fun r_278 S_278 q_278 => ?_)
    obtain ⟨rfl, k_278⟩ := q_278
    refine x_bipush (v := -9) dL_island_281 (by decide) ?_
    refine x_ic_ne 301 dL_island_283 (by decide) (fun c_283 => ?_) (fun c_283 => ?_)
    · refine x_iconst (v := nI 0) dL_island_301 (by decide) ?_
      refine x_zret rfl dL_island_302 (by decide) (by first | (exfalso; omega) | exact absurd rfl c_283 | exact absurd rfl c_294)
    · refine x_aload_n 1 dL_island_286 rfl rfl ?_
      refine x_iconst (v := nI 3) dL_island_287 (by decide) ?_
      refine x_callVqi (as := [_]) (rest := []) vL_41 (c_island3 h1 h4 hm4 hk hv hV hx k_278) dL_island_288 l0 rfl rfl rfl (Nat.le_of_ble_eq_true rfl) (Nat.le_of_ble_eq_true rfl) (Nat.le_of_ble_eq_true rfl) (fun r_288 S_288 q_288 => ?_)
      obtain ⟨rfl, I, k_288⟩ := q_288
      refine x_aload_n 2 dL_island_291 rfl rfl ?_
      refine x_iconst (v := nI 1) dL_island_292 (by decide) ?_
      refine y_iald dL_island_293 l83 (by omega) (by decide) ((k_288.2.2.2.2.2.2.2.1 83 1 (by unfold FIs FRe; omega) (by unfold F78; omega) (by omega) (by omega) (by omega)).trans hN.1.2.1) ?_
      refine y_ic_ne 301 dL_island_294 (by decide) (by omega) (by omega) (fun c_294 => ?_) (fun c_294 => ?_)
      · refine x_iconst (v := nI 0) dL_island_301 (by decide) ?_
        refine x_zret rfl dL_island_302 (by decide) (by first | (exfalso; omega) | exact absurd rfl c_283 | exact absurd rfl c_294)
      · refine x_iconst (v := nI 1) dL_island_297 (by decide) ?_
        refine x_goto 302 dL_island_298 (by decide) ?_
        refine x_zret rfl dL_island_302 (by decide) ⟨_, rfl, rfl, I, k_288⟩

set_option maxHeartbeats 4000000 in
set_option maxRecDepth 100000 in
theorem isl_W3 {S : St} {n0 m k : Nat} {kd pl : Nat → Nat} {V : Nat → Nat → Nat} (h1 : 1 ≤ n0) (h4 : n0 ≤ 4) (hm4 : m ≤ 4) (hk : k ≤ 6) (hv : VT n0 kd pl m) (hV : VW n0 m V k) (hN : NUM n0 m kd pl k V S) {w : Nat} (hw : w < k) {Q : Option Value → St → Prop} (H : ∀ (a : Nat) (S1 : St), TXL (LW (LT n0 kd pl m) m V (w + 1)) S S1 → a = (LW (LT n0 kd pl m) m V (w + 1)).length → X 7 210 mL_island Q 148 [(3, .int (nI (w + 1))), (2, .int (nI a)), (0, .ref 0), (1, .ref 83)] [] S1)  : ∀ (j : Nat) (a : Nat) (S1 : St), (j ≤ m) → (TXL (((((LW (LT n0 kd pl m) m V w) ++ [119]) ++ [48 + V w 0]) ++ [48 + V w 1]) ++ FG (V w 2) j) S S1) → (a = (((((LW (LT n0 kd pl m) m V w) ++ [119]) ++ [48 + V w 0]) ++ [48 + V w 1]) ++ FG (V w 2) j).length) → X 7 210 mL_island (Q) 197 [(4, .int (nI j)), (3, .int (nI w)), (2, .int (nI a)), (0, .ref 0), (1, .ref 83)] [] S1 := by
  intro j a S1
  induction hm : m - j using Nat.strongRecOn generalizing j a S1 with
  | _ mm ih =>
    intro hj hx ha
    have hlb := LW_b (n0 := n0) (kd := kd) (pl := pl) (V := V) (k := w) hm4
    have hfl := FG_len (V w 2) m
    obtain ⟨v1, v2, v3, v4, v5, v6⟩ := hV w hw
    have hfj := FG_len (V w 2) j
    have hal : a = (LW (LT n0 kd pl m) m V w).length + 3 + (FG (V w 2) j).length := by
      rw [ha]
      simp only [List.length_append, List.length_cons, List.length_nil]
    have hp4 : 2 ^ m ≤ 2 ^ 4 := Nat.pow_le_pow_right (by decide) hm4
    refine x_iload 0 dL_island_197 rfl ?_
    refine x_aload_n 4 dL_island_199 rfl rfl ?_
    refine x_iconst (v := nI 1) dL_island_200 (by decide) ?_
    refine y_iald dL_island_201 l83 (by omega) (by decide) ((hx.g 1).trans hN.1.2.1) ?_
    refine y_ic_ge 243 dL_island_202 (by decide) (by omega) (by omega) (fun c_202 => ?_) (fun c_202 => ?_)
    · refine x_aload_n 3 dL_island_243 rfl rfl ?_
      refine x_aload_n 3 dL_island_244 rfl rfl ?_
      refine x_iload_n 2 dL_island_245 rfl rfl ?_
      refine x_bipush (v := nI 58) dL_island_246 (by decide) ?_
      refine x_callSqi (as := [_, _, _]) (rest := [_]) sL_35 (c_putL (b := 58) hx (by omega) ha (by omega)) dL_island_248 rfl rfl (Nat.le_of_ble_eq_true rfl) (Nat.le_of_ble_eq_true rfl) (Nat.le_of_ble_eq_true rfl) (fun r_248 S_248 q_248 => ?_)
      obtain ⟨rfl, k_248⟩ := q_248
      refine x_bipush (v := nI 48) dL_island_251 (by decide) ?_
      refine x_aload_n 4 dL_island_253 rfl rfl ?_
      refine x_bipush (v := nI 16) dL_island_254 (by decide) ?_
      refine x_iconst (v := nI 4) dL_island_256 (by decide) ?_
      refine x_iload_n 1 dL_island_257 rfl rfl ?_
      refine y_imul dL_island_258 ?_
      refine y_iadd dL_island_259 ?_
      refine y_iald dL_island_260 l83 (by omega) (by decide) ((k_248.g _).trans (hN.V hw (j := 3) (by decide) (by omega))) ?_
      refine y_iadd dL_island_261 ?_
      refine x_callSqi (as := [_, _, _]) (rest := []) sL_35 (c_putL (b := 48 + V w 3) k_248 (by rw [List.length_append, ← ha]; show a + 1 < 100; omega) (by rw [List.length_append, ← ha]; rfl) (by omega)) dL_island_262 rfl rfl (Nat.le_of_ble_eq_true rfl) (Nat.le_of_ble_eq_true rfl) (Nat.le_of_ble_eq_true rfl) (fun r_262 S_262 q_262 => ?_)
      obtain ⟨rfl, k_262⟩ := q_262
      refine x_istore_n (lv' := [(2, _), (4, _), (3, _), (0, _), (1, _)]) dL_island_265 rfl (lt_ok rfl) rfl ?_
      refine y_iinc (lv' := [(3, _), (2, _), (4, _), (0, _), (1, _)]) 2 dL_island_266 rfl (lt_ok rfl) rfl ?_
      refine x_goto 148 dL_island_269 (by decide) ?_
      refine x_pick (lv' := [(3, _), (2, _), (0, _), (1, _)]) [0, 1, 3, 4] rfl ?_
      obtain rfl : j = m := (by omega)
      exact H _ _ (by rw [LW_s2]; exact k_262) (by rw [LW_s2, List.length_append, List.length_append, ← ha]; rfl)
    · refine x_aload_n 4 dL_island_205 rfl rfl ?_
      refine x_bipush (v := nI 15) dL_island_206 (by decide) ?_
      refine x_iconst (v := nI 4) dL_island_208 (by decide) ?_
      refine x_iload_n 1 dL_island_209 rfl rfl ?_
      refine y_imul dL_island_210 ?_
      refine y_iadd dL_island_211 ?_
      refine y_iald dL_island_212 l83 (by omega) (by decide) ((hx.g _).trans (hN.V hw (j := 2) (by decide) (by omega))) ?_
      refine x_iload 0 dL_island_213 rfl ?_
      refine y_ishr dL_island_215 (by omega) (by omega) ?_
      refine x_iconst (v := nI 1) dL_island_216 (by decide) ?_
      refine y_iand dL_island_217 ?_
      rw [show (((V w 2) / 2 ^ j) &&& 1) = (V w 2 / 2 ^ j % 2) from by rw [Nat.and_one_is_mod]]
      refine x_iconst (v := nI 1) dL_island_218 (by decide) ?_
      refine y_ic_ne 235 dL_island_219 (by decide) (by omega) (by omega) (fun c_219 => ?_) (fun c_219 => ?_)
      · refine x_iload_n 2 dL_island_235 rfl rfl ?_
        refine x_istore_n (lv' := [(2, _), (4, _), (3, _), (0, _), (1, _)]) dL_island_236 rfl (lt_ok rfl) rfl ?_
        refine y_iinc (lv' := [(4, _), (2, _), (3, _), (0, _), (1, _)]) 1 dL_island_237 rfl (lt_ok rfl) rfl ?_
        refine x_goto 197 dL_island_240 (by decide) ?_
        refine x_pick (lv' := [(4, _), (3, _), (2, _), (0, _), (1, _)]) [0, 2, 1, 3, 4] rfl ?_
        have e : FG (V w 2) (j + 1) = FG (V w 2) j := by
          show FG (V w 2) j ++ _ = _
          rw [if_neg (fun z => by have := has_iff.mpr z; omega), List.append_nil]
        exact ih (m - (j + 1)) (by omega) (j + 1) a _ rfl (by omega) (by rw [e]; exact hx) (by rw [e]; exact ha)
      · refine x_aload_n 3 dL_island_222 rfl rfl ?_
        refine x_iload_n 2 dL_island_223 rfl rfl ?_
        refine x_bipush (v := nI 48) dL_island_224 (by decide) ?_
        refine x_iload 0 dL_island_226 rfl ?_
        refine y_iadd dL_island_228 ?_
        refine x_callSqi (as := [_, _, _]) (rest := []) sL_35 (c_putL (b := 48 + j) hx (by omega) ha (by omega)) dL_island_229 rfl rfl (Nat.le_of_ble_eq_true rfl) (Nat.le_of_ble_eq_true rfl) (Nat.le_of_ble_eq_true rfl) (fun r_229 S_229 q_229 => ?_)
        obtain ⟨rfl, k_229⟩ := q_229
        refine x_goto 236 dL_island_232 (by decide) ?_
        refine x_istore_n (lv' := [(2, _), (4, _), (3, _), (0, _), (1, _)]) dL_island_236 rfl (lt_ok rfl) rfl ?_
        refine y_iinc (lv' := [(4, _), (2, _), (3, _), (0, _), (1, _)]) 1 dL_island_237 rfl (lt_ok rfl) rfl ?_
        refine x_goto 197 dL_island_240 (by decide) ?_
        refine x_pick (lv' := [(4, _), (3, _), (2, _), (0, _), (1, _)]) [0, 2, 1, 3, 4] rfl ?_
        have e : FG (V w 2) (j + 1) = FG (V w 2) j ++ [48 + j] := by
          show FG (V w 2) j ++ _ = _
          rw [if_pos (has_iff.mp (by omega))]
        have hl2 := k_229
        rw [List.append_assoc, ← e] at hl2
        exact ih (m - (j + 1)) (by omega) (j + 1) (a + 1) _ rfl (by omega) hl2 (by rw [e, ← List.append_assoc, List.length_append, ← ha]; rfl)

set_option maxHeartbeats 4000000 in
set_option maxRecDepth 100000 in
theorem isl_W {S : St} {n0 m k : Nat} {kd pl : Nat → Nat} {V : Nat → Nat → Nat} (h1 : 1 ≤ n0) (h4 : n0 ≤ 4) (hm4 : m ≤ 4) (hk : k ≤ 6) (hv : VT n0 kd pl m) (hV : VW n0 m V k) (hN : NUM n0 m kd pl k V S)  : ∀ (w : Nat) (a : Nat) (S1 : St), (w ≤ k) → (TXL (LW (LT n0 kd pl m) m V w) S S1) → (a = (LW (LT n0 kd pl m) m V w).length) → X 7 210 mL_island (qi (fun r S' => r = nI 1 ∧ ∃ I, ILP n0 m k V I S S')) 148 [(3, .int (nI w)), (2, .int (nI a)), (0, .ref 0), (1, .ref 83)] [] S1 := by
  intro w a S1
  induction hm : k - w using Nat.strongRecOn generalizing w a S1 with
  | _ mm ih =>
    intro hw2 hx ha
    have hlb := LW_b (n0 := n0) (kd := kd) (pl := pl) (V := V) (k := w) hm4
    have hVw := hV w
    refine x_iload_n 0 dL_island_148 rfl rfl ?_
    refine x_aload_n 3 dL_island_149 rfl rfl ?_
    refine x_bipush (v := nI 12) dL_island_150 (by decide) ?_
    refine y_iald dL_island_152 l83 (by omega) (by decide) ((hx.g 12).trans hN.2.1) ?_
    refine y_ic_ge 272 dL_island_153 (by decide) (by omega) (by omega) (fun c_153 => ?_) (fun c_153 => ?_)
    · refine x_pick (lv' := [(2, _), (0, _), (1, _)]) [1, 2, 3] rfl ?_
      (obtain rfl : w = k := (by omega)); exact isl_Z h1 h4 hm4 hk hv hV hN hx ha
    · refine x_aload_n 2 dL_island_156 rfl rfl ?_
      refine x_aload_n 2 dL_island_157 rfl rfl ?_
      refine x_aload_n 2 dL_island_158 rfl rfl ?_
      refine x_iload_n 1 dL_island_159 rfl rfl ?_
      refine x_bipush (v := nI 119) dL_island_160 (by decide) ?_
      refine x_callSqi (as := [_, _, _]) (rest := [_, _]) sL_35 (c_putL (b := 119) hx (by omega) ha (by omega)) dL_island_162 rfl rfl (Nat.le_of_ble_eq_true rfl) (Nat.le_of_ble_eq_true rfl) (Nat.le_of_ble_eq_true rfl) (fun r_162 S_162 q_162 => ?_)
      obtain ⟨rfl, k_162⟩ := q_162
      have b1 : a + 1 = (LW (LT n0 kd pl m) m V w ++ [119]).length := by rw [List.length_append, ← ha]; rfl
      refine x_bipush (v := nI 48) dL_island_165 (by decide) ?_
      refine x_aload_n 3 dL_island_167 rfl rfl ?_
      refine x_bipush (v := nI 13) dL_island_168 (by decide) ?_
      refine x_iconst (v := nI 4) dL_island_170 (by decide) ?_
      refine x_iload_n 0 dL_island_171 rfl rfl ?_
      refine y_imul dL_island_172 ?_
      refine y_iadd dL_island_173 ?_
      refine y_iald dL_island_174 l83 (by omega) (by decide) ((k_162.g _).trans (hN.V (w := w) (by omega) (j := 0) (by decide) (by omega))) ?_
      refine y_iadd dL_island_175 ?_
      refine x_callSqi (as := [_, _, _]) (rest := [_]) sL_35 (c_putL (b := 48 + V w 0) k_162 (by rw [← b1]; omega) b1 (by have := (hVw (by omega)).1; omega)) dL_island_176 rfl rfl (Nat.le_of_ble_eq_true rfl) (Nat.le_of_ble_eq_true rfl) (Nat.le_of_ble_eq_true rfl) (fun r_176 S_176 q_176 => ?_)
      obtain ⟨rfl, k_176⟩ := q_176
      have b2 : a + 1 + 1 = ((LW (LT n0 kd pl m) m V w ++ [119]) ++ [48 + V w 0]).length := by rw [List.length_append, ← b1]; rfl
      refine x_bipush (v := nI 48) dL_island_179 (by decide) ?_
      refine x_aload_n 3 dL_island_181 rfl rfl ?_
      refine x_bipush (v := nI 14) dL_island_182 (by decide) ?_
      refine x_iconst (v := nI 4) dL_island_184 (by decide) ?_
      refine x_iload_n 0 dL_island_185 rfl rfl ?_
      refine y_imul dL_island_186 ?_
      refine y_iadd dL_island_187 ?_
      refine y_iald dL_island_188 l83 (by omega) (by decide) ((k_176.g _).trans (hN.V (w := w) (by omega) (j := 1) (by decide) (by omega))) ?_
      refine y_iadd dL_island_189 ?_
      refine x_callSqi (as := [_, _, _]) (rest := []) sL_35 (c_putL (b := 48 + V w 1) k_176 (by rw [← b2]; omega) b2 (by have := (hVw (by omega)).2.1; omega)) dL_island_190 rfl rfl (Nat.le_of_ble_eq_true rfl) (Nat.le_of_ble_eq_true rfl) (Nat.le_of_ble_eq_true rfl) (fun r_190 S_190 q_190 => ?_)
      obtain ⟨rfl, k_190⟩ := q_190
      have b3 : a + 1 + 1 + 1 = (((LW (LT n0 kd pl m) m V w ++ [119]) ++ [48 + V w 0]) ++ [48 + V w 1]).length := by rw [List.length_append, ← b2]; rfl
      refine x_istore_n (lv' := [(2, _), (3, _), (0, _), (1, _)]) dL_island_193 rfl (lt_ok rfl) rfl ?_
      refine x_iconst (v := nI 0) dL_island_194 (by decide) ?_
      refine x_istore (lv' := [(4, _), (2, _), (3, _), (0, _), (1, _)]) dL_island_195 (lt_ok rfl) rfl ?_
      refine x_pick (lv' := [(4, _), (3, _), (2, _), (0, _), (1, _)]) [0, 2, 1, 3, 4] rfl ?_
      exact isl_W3 h1 h4 hm4 hk hv hV hN (show w < k by omega) (fun a1 S1 z1 z2 => ih (k - (w + 1)) (by omega) (w + 1) a1 S1 rfl (by omega) z1 z2) 0 _ _ (Nat.zero_le _) (by rw [show FG (V w 2) 0 = [] from rfl, List.append_nil]; exact k_190) (by rw [show FG (V w 2) 0 = [] from rfl, List.append_nil]; exact b3)

set_option maxHeartbeats 4000000 in
set_option maxRecDepth 100000 in
theorem isl_C {S : St} {n0 m k : Nat} {kd pl : Nat → Nat} {V : Nat → Nat → Nat} (h1 : 1 ≤ n0) (h4 : n0 ≤ 4) (hm4 : m ≤ 4) (hk : k ≤ 6) (hv : VT n0 kd pl m) (hV : VW n0 m V k) (hN : NUM n0 m kd pl k V S) {t : Nat} (ht : t < m) {S1 : St} {Q : Option Value → St → Prop} (H : ∀ (a : Nat) (S1 : St), TXL (LT n0 kd pl (t + 1)) S S1 → a = (LT n0 kd pl (t + 1)).length → X 7 210 mL_island Q 34 [(3, .int (nI (t + 1))), (2, .int (nI a)), (0, .ref 0), (1, .ref 83)] [] S1) {c a s : Nat} (hc : c = ltr (kd t)) (hs : s = sgP (pl t)) (hx : TXL (LT n0 kd pl t ++ [c]) S S1) (ha : a = (LT n0 kd pl t ++ [c]).length)  : X 7 210 mL_island (Q) 136 [(3, .int (nI t)), (2, .int (nI a)), (0, .ref 0), (1, .ref 83)] [.int (nI s), .int (nI a), .ref 0] S1 := by
  have hll := LT_len (n0 := n0) (kd := kd) (pl := pl) t
  have hal : a = 4 + 2 * t := by rw [ha, List.length_append, hll]; show 3 + 2 * t + 1 = _; omega
  obtain ⟨v1, v2, v3, v4⟩ := hv t ht
  have hs8 : s < 128 := by rw [hs]; unfold sgP; split <;> omega
  refine x_callSqi (as := [_, _, _]) (rest := []) sL_35 (c_putL (b := s) hx (by omega) ha hs8) dL_island_136 rfl rfl (Nat.le_of_ble_eq_true rfl) (Nat.le_of_ble_eq_true rfl) (Nat.le_of_ble_eq_true rfl) (fun r_136 S_136 q_136 => ?_)
  obtain ⟨rfl, k_136⟩ := q_136
  refine x_istore_n (lv' := [(2, _), (3, _), (0, _), (1, _)]) dL_island_139 rfl (lt_ok rfl) rfl ?_
  refine y_iinc (lv' := [(3, _), (2, _), (0, _), (1, _)]) 1 dL_island_140 rfl (lt_ok rfl) rfl ?_
  refine x_goto 34 dL_island_143 (by decide) ?_
  refine x_pick (lv' := [(3, _), (2, _), (0, _), (1, _)]) [0, 1, 2, 3] rfl ?_
  have e : LT n0 kd pl (t + 1) = (LT n0 kd pl t ++ [c]) ++ [s] := by
    show LT n0 kd pl t ++ [ltr (kd t), sgP (pl t)] = _
    rw [hc, hs, List.append_assoc]
    rfl
  exact H _ _ (by rw [e]; exact k_136) (by rw [e, List.length_append, ← ha]; rfl)

set_option maxHeartbeats 4000000 in
set_option maxRecDepth 100000 in
theorem isl_B {S : St} {n0 m k : Nat} {kd pl : Nat → Nat} {V : Nat → Nat → Nat} (h1 : 1 ≤ n0) (h4 : n0 ≤ 4) (hm4 : m ≤ 4) (hk : k ≤ 6) (hv : VT n0 kd pl m) (hV : VW n0 m V k) (hN : NUM n0 m kd pl k V S) {t : Nat} (ht : t < m) {S1 : St} {Q : Option Value → St → Prop} (H : ∀ (a : Nat) (S1 : St), TXL (LT n0 kd pl (t + 1)) S S1 → a = (LT n0 kd pl (t + 1)).length → X 7 210 mL_island Q 34 [(3, .int (nI (t + 1))), (2, .int (nI a)), (0, .ref 0), (1, .ref 83)] [] S1) {c a : Nat} (hc : c = ltr (kd t)) (hx : TXL (LT n0 kd pl t) S S1) (ha : a = (LT n0 kd pl t).length)  : X 7 210 mL_island (Q) 106 [(3, .int (nI t)), (2, .int (nI a)), (0, .ref 0), (1, .ref 83)] [.int (nI c), .int (nI a), .ref 0] S1 := by
  have hll := LT_len (n0 := n0) (kd := kd) (pl := pl) t
  obtain ⟨v1, v2, v3, v4⟩ := hv t ht
  have hc8 : c < 128 := by rw [hc]; exact (ltr_ok _ (by omega)).2.2.2
  refine x_callSqi (as := [_, _, _]) (rest := []) sL_35 (c_putL (b := c) hx (by omega) ha hc8) dL_island_106 rfl rfl (Nat.le_of_ble_eq_true rfl) (Nat.le_of_ble_eq_true rfl) (Nat.le_of_ble_eq_true rfl) (fun r_106 S_106 q_106 => ?_)
  obtain ⟨rfl, k_106⟩ := q_106
  refine x_istore_n (lv' := [(2, _), (3, _), (0, _), (1, _)]) dL_island_109 rfl (lt_ok rfl) rfl ?_
  refine x_aload_n 2 dL_island_110 rfl rfl ?_
  refine x_iload_n 0 dL_island_111 rfl rfl ?_
  refine x_aload_n 3 dL_island_112 rfl rfl ?_
  refine x_bipush (v := nI 7) dL_island_113 (by decide) ?_
  refine x_iload_n 1 dL_island_115 rfl rfl ?_
  refine y_iadd dL_island_116 ?_
  refine y_iald dL_island_117 l83 (by omega) (by decide) ((k_106.g _).trans (hN.1.2.2 t ht).2) ?_
  refine x_iconst (v := nI 4) dL_island_118 (by decide) ?_
  refine y_ic_ne 127 dL_island_119 (by decide) (by omega) (by omega) (fun c_119 => ?_) (fun c_119 => ?_)
  · refine x_bipush (v := nI 48) dL_island_127 (by decide) ?_
    refine x_aload_n 3 dL_island_129 rfl rfl ?_
    refine x_bipush (v := nI 7) dL_island_130 (by decide) ?_
    refine x_iload_n 1 dL_island_132 rfl rfl ?_
    refine y_iadd dL_island_133 ?_
    refine y_iald dL_island_134 l83 (by omega) (by decide) ((k_106.g _).trans (hN.1.2.2 t ht).2) ?_
    refine y_iadd dL_island_135 ?_
    refine x_pick (lv' := [(3, _), (2, _), (0, _), (1, _)]) [1, 0, 2, 3] rfl ?_
    exact isl_C h1 h4 hm4 hk hv hV hN ht H hc (by unfold sgP; first | rw [if_pos (by omega)] | rw [if_neg (by omega)]) k_106 (by rw [List.length_append, ← ha]; rfl)
  · refine x_bipush (v := nI 122) dL_island_122 (by decide) ?_
    refine x_goto 136 dL_island_124 (by decide) ?_
    refine x_pick (lv' := [(3, _), (2, _), (0, _), (1, _)]) [1, 0, 2, 3] rfl ?_
    exact isl_C h1 h4 hm4 hk hv hV hN ht H hc (by unfold sgP; first | rw [if_pos (by omega)] | rw [if_neg (by omega)]) k_106 (by rw [List.length_append, ← ha]; rfl)

set_option maxHeartbeats 4000000 in
set_option maxRecDepth 100000 in
theorem isl_A {S : St} {n0 m k : Nat} {kd pl : Nat → Nat} {V : Nat → Nat → Nat} (h1 : 1 ≤ n0) (h4 : n0 ≤ 4) (hm4 : m ≤ 4) (hk : k ≤ 6) (hv : VT n0 kd pl m) (hV : VW n0 m V k) (hN : NUM n0 m kd pl k V S)  : ∀ (t : Nat) (a : Nat) (S1 : St), (t ≤ m) → (TXL (LT n0 kd pl t) S S1) → (a = (LT n0 kd pl t).length) → X 7 210 mL_island (qi (fun r S' => r = nI 1 ∧ ∃ I, ILP n0 m k V I S S')) 34 [(3, .int (nI t)), (2, .int (nI a)), (0, .ref 0), (1, .ref 83)] [] S1 := by
  intro t a S1
  induction hm : m - t using Nat.strongRecOn generalizing t a S1 with
  | _ mm ih =>
    intro ht hx ha
    have hvt := hv t
    refine x_iload_n 0 dL_island_34 rfl rfl ?_
    refine x_aload_n 3 dL_island_35 rfl rfl ?_
    refine x_iconst (v := nI 1) dL_island_36 (by decide) ?_
    refine y_iald dL_island_37 l83 (by omega) (by decide) ((hx.g 1).trans hN.1.2.1) ?_
    refine y_ic_ge 146 dL_island_38 (by decide) (by omega) (by omega) (fun c_38 => ?_) (fun c_38 => ?_)
    · refine x_iconst (v := nI 0) dL_island_146 (by decide) ?_
      refine x_istore_n (lv' := [(3, _), (2, _), (0, _), (1, _)]) dL_island_147 rfl (lt_ok rfl) rfl ?_
      refine x_pick (lv' := [(3, _), (2, _), (0, _), (1, _)]) [0, 1, 2, 3] rfl ?_
      (obtain rfl : t = m := (by omega)); exact isl_W h1 h4 hm4 hk hv hV hN 0 a S1 (Nat.zero_le _) hx ha
    · refine x_aload_n 3 dL_island_41 rfl rfl ?_
      refine x_iconst (v := nI 2) dL_island_42 (by decide) ?_
      refine x_iload_n 0 dL_island_43 rfl rfl ?_
      refine y_iadd dL_island_44 ?_
      refine y_iald dL_island_45 l83 (by omega) (by decide) ((hx.g _).trans (hN.1.2.2 t (by omega)).1) ?_
      refine x_istore (lv' := [(4, _), (3, _), (2, _), (0, _), (1, _)]) dL_island_46 (lt_ok rfl) rfl ?_
      have hkt := (hvt (by omega)).1
      refine x_aload_n 3 dL_island_48 rfl rfl ?_
      refine x_iload_n 2 dL_island_49 rfl rfl ?_
      refine x_iload 0 dL_island_50 rfl ?_
      refine y_if_ne 60 dL_island_52 (by decide) (by omega) (fun c_52 => ?_) (fun c_52 => ?_)
      · refine x_iload 0 dL_island_60 rfl ?_
        refine x_iconst (v := nI 1) dL_island_62 (by decide) ?_
        refine y_ic_ne 71 dL_island_63 (by decide) (by omega) (by omega) (fun c_63 => ?_) (fun c_63 => ?_)
        · refine x_iload 0 dL_island_71 rfl ?_
          refine x_iconst (v := nI 2) dL_island_73 (by decide) ?_
          refine y_ic_ne 82 dL_island_74 (by decide) (by omega) (by omega) (fun c_74 => ?_) (fun c_74 => ?_)
          · refine x_iload 0 dL_island_82 rfl ?_
            refine x_iconst (v := nI 3) dL_island_84 (by decide) ?_
            refine y_ic_ne 93 dL_island_85 (by decide) (by omega) (by omega) (fun c_85 => ?_) (fun c_85 => ?_)
            · refine x_iload 0 dL_island_93 rfl ?_
              refine x_iconst (v := nI 4) dL_island_95 (by decide) ?_
              refine y_ic_ne 104 dL_island_96 (by decide) (by omega) (by omega) (fun c_96 => ?_) (fun c_96 => ?_)
              · refine x_bipush (v := nI 101) dL_island_104 (by decide) ?_
                refine x_pick (lv' := [(3, _), (2, _), (0, _), (1, _)]) [1, 2, 3, 4] rfl ?_
                exact isl_B h1 h4 hm4 hk hv hV hN (show t < m by omega) (fun a1 S1 z1 z2 => ih (m - (t + 1)) (by omega) (t + 1) a1 S1 rfl (by omega) z1 z2) (by unfold ltr; first | rw [if_pos (by omega)] | rw [if_neg (by omega), if_pos (by omega)] | rw [if_neg (by omega), if_neg (by omega), if_pos (by omega)] | rw [if_neg (by omega), if_neg (by omega), if_neg (by omega), if_pos (by omega)] | rw [if_neg (by omega), if_neg (by omega), if_neg (by omega), if_neg (by omega), if_pos (by omega)] | rw [if_neg (by omega), if_neg (by omega), if_neg (by omega), if_neg (by omega), if_neg (by omega)]) hx ha
              · refine x_bipush (v := nI 115) dL_island_99 (by decide) ?_
                refine x_goto 106 dL_island_101 (by decide) ?_
                refine x_pick (lv' := [(3, _), (2, _), (0, _), (1, _)]) [1, 2, 3, 4] rfl ?_
                exact isl_B h1 h4 hm4 hk hv hV hN (show t < m by omega) (fun a1 S1 z1 z2 => ih (m - (t + 1)) (by omega) (t + 1) a1 S1 rfl (by omega) z1 z2) (by unfold ltr; first | rw [if_pos (by omega)] | rw [if_neg (by omega), if_pos (by omega)] | rw [if_neg (by omega), if_neg (by omega), if_pos (by omega)] | rw [if_neg (by omega), if_neg (by omega), if_neg (by omega), if_pos (by omega)] | rw [if_neg (by omega), if_neg (by omega), if_neg (by omega), if_neg (by omega), if_pos (by omega)] | rw [if_neg (by omega), if_neg (by omega), if_neg (by omega), if_neg (by omega), if_neg (by omega)]) hx ha
            · refine x_bipush (v := nI 104) dL_island_88 (by decide) ?_
              refine x_goto 106 dL_island_90 (by decide) ?_
              refine x_pick (lv' := [(3, _), (2, _), (0, _), (1, _)]) [1, 2, 3, 4] rfl ?_
              exact isl_B h1 h4 hm4 hk hv hV hN (show t < m by omega) (fun a1 S1 z1 z2 => ih (m - (t + 1)) (by omega) (t + 1) a1 S1 rfl (by omega) z1 z2) (by unfold ltr; first | rw [if_pos (by omega)] | rw [if_neg (by omega), if_pos (by omega)] | rw [if_neg (by omega), if_neg (by omega), if_pos (by omega)] | rw [if_neg (by omega), if_neg (by omega), if_neg (by omega), if_pos (by omega)] | rw [if_neg (by omega), if_neg (by omega), if_neg (by omega), if_neg (by omega), if_pos (by omega)] | rw [if_neg (by omega), if_neg (by omega), if_neg (by omega), if_neg (by omega), if_neg (by omega)]) hx ha
          · refine x_bipush (v := nI 108) dL_island_77 (by decide) ?_
            refine x_goto 106 dL_island_79 (by decide) ?_
            refine x_pick (lv' := [(3, _), (2, _), (0, _), (1, _)]) [1, 2, 3, 4] rfl ?_
            exact isl_B h1 h4 hm4 hk hv hV hN (show t < m by omega) (fun a1 S1 z1 z2 => ih (m - (t + 1)) (by omega) (t + 1) a1 S1 rfl (by omega) z1 z2) (by unfold ltr; first | rw [if_pos (by omega)] | rw [if_neg (by omega), if_pos (by omega)] | rw [if_neg (by omega), if_neg (by omega), if_pos (by omega)] | rw [if_neg (by omega), if_neg (by omega), if_neg (by omega), if_pos (by omega)] | rw [if_neg (by omega), if_neg (by omega), if_neg (by omega), if_neg (by omega), if_pos (by omega)] | rw [if_neg (by omega), if_neg (by omega), if_neg (by omega), if_neg (by omega), if_neg (by omega)]) hx ha
        · refine x_bipush (v := nI 98) dL_island_66 (by decide) ?_
          refine x_goto 106 dL_island_68 (by decide) ?_
          refine x_pick (lv' := [(3, _), (2, _), (0, _), (1, _)]) [1, 2, 3, 4] rfl ?_
          exact isl_B h1 h4 hm4 hk hv hV hN (show t < m by omega) (fun a1 S1 z1 z2 => ih (m - (t + 1)) (by omega) (t + 1) a1 S1 rfl (by omega) z1 z2) (by unfold ltr; first | rw [if_pos (by omega)] | rw [if_neg (by omega), if_pos (by omega)] | rw [if_neg (by omega), if_neg (by omega), if_pos (by omega)] | rw [if_neg (by omega), if_neg (by omega), if_neg (by omega), if_pos (by omega)] | rw [if_neg (by omega), if_neg (by omega), if_neg (by omega), if_neg (by omega), if_pos (by omega)] | rw [if_neg (by omega), if_neg (by omega), if_neg (by omega), if_neg (by omega), if_neg (by omega)]) hx ha
      · refine x_bipush (v := nI 116) dL_island_55 (by decide) ?_
        refine x_goto 106 dL_island_57 (by decide) ?_
        refine x_pick (lv' := [(3, _), (2, _), (0, _), (1, _)]) [1, 2, 3, 4] rfl ?_
        exact isl_B h1 h4 hm4 hk hv hV hN (show t < m by omega) (fun a1 S1 z1 z2 => ih (m - (t + 1)) (by omega) (t + 1) a1 S1 rfl (by omega) z1 z2) (by unfold ltr; first | rw [if_pos (by omega)] | rw [if_neg (by omega), if_pos (by omega)] | rw [if_neg (by omega), if_neg (by omega), if_pos (by omega)] | rw [if_neg (by omega), if_neg (by omega), if_neg (by omega), if_pos (by omega)] | rw [if_neg (by omega), if_neg (by omega), if_neg (by omega), if_neg (by omega), if_pos (by omega)] | rw [if_neg (by omega), if_neg (by omega), if_neg (by omega), if_neg (by omega), if_neg (by omega)]) hx ha

set_option maxHeartbeats 4000000 in
set_option maxRecDepth 100000 in
theorem c_L_island {S : St} {n0 m k : Nat} {kd pl : Nat → Nat} {V : Nat → Nat → Nat} (h1 : 1 ≤ n0) (h4 : n0 ≤ 4) (hm4 : m ≤ 4) (hk : k ≤ 6) (hv : VT n0 kd pl m) (hV : VW n0 m V k) (hN : NUM n0 m kd pl k V S) (hS : RwS 6 4 100 S) (hB : ByX S)  : C 7 210 yL_island mL_island [.ref 0, .ref 83] S (qi (fun r S' => r = nI 1 ∧ ∃ I, ILP n0 m k V I S S')) := by
  refine C.ofX (by decide) rfl (Nat.le_of_ble_eq_true rfl) ?_
  show X 7 210 mL_island (qi (fun r S' => r = nI 1 ∧ ∃ I, ILP n0 m k V I S S')) 0 [(0, .ref 0), (1, .ref 83)] [] S
  refine x_aload_n 0 dL_island_0 rfl rfl ?_
  refine x_iconst (v := nI 3) dL_island_1 (by decide) ?_
  refine x_bipush (v := nI 100) dL_island_2 (by decide) ?_
  refine x_callVqi (as := [_, _]) (rest := []) vL_31 (c_text3 hS hB) dL_island_4 l0 rfl rfl rfl (Nat.le_of_ble_eq_true rfl) (Nat.le_of_ble_eq_true rfl) (Nat.le_of_ble_eq_true rfl) (fun r_4 S_4 q_4 => ?_)
  obtain ⟨rfl, k_4⟩ := q_4
  refine x_bipush (v := nI 100) dL_island_7 (by decide) ?_
  refine y_ic_eq 14 dL_island_9 (by decide) (by omega) (by omega) (fun c_9 => ?_) (fun c_9 => ?_)
  · refine x_aload_n 0 dL_island_14 rfl rfl ?_
    refine x_aload_n 0 dL_island_15 rfl rfl ?_
    refine x_iconst (v := nI 1) dL_island_16 (by decide) ?_
    refine x_bipush (v := nI 112) dL_island_17 (by decide) ?_
    refine x_callSqi (as := [_, _, _]) (rest := [_]) sL_35 (c_putL (b := 112) k_4 (by decide) (a := 1) rfl (by decide)) dL_island_19 rfl rfl (Nat.le_of_ble_eq_true rfl) (Nat.le_of_ble_eq_true rfl) (Nat.le_of_ble_eq_true rfl) (fun r_19 S_19 q_19 => ?_)
    obtain ⟨rfl, k_19⟩ := q_19
    refine x_bipush (v := nI 48) dL_island_22 (by decide) ?_
    refine x_aload_n 1 dL_island_24 rfl rfl ?_
    refine x_iconst (v := nI 0) dL_island_25 (by decide) ?_
    refine y_iald dL_island_26 l83 (by omega) (by decide) ((k_19.g 0).trans hN.1.1) ?_
    refine y_iadd dL_island_27 ?_
    refine x_callSqi (as := [_, _, _]) (rest := []) sL_35 (c_putL (b := 48 + n0) k_19 (by decide) (a := 1 + 1) rfl (by omega)) dL_island_28 rfl rfl (Nat.le_of_ble_eq_true rfl) (Nat.le_of_ble_eq_true rfl) (Nat.le_of_ble_eq_true rfl) (fun r_28 S_28 q_28 => ?_)
    obtain ⟨rfl, k_28⟩ := q_28
    refine x_istore_n (lv' := [(2, _), (0, _), (1, _)]) dL_island_31 rfl (lt_ok rfl) rfl ?_
    refine x_iconst (v := nI 0) dL_island_32 (by decide) ?_
    refine x_istore_n (lv' := [(3, _), (2, _), (0, _), (1, _)]) dL_island_33 rfl (lt_ok rfl) rfl ?_
    refine x_pick (lv' := [(3, _), (2, _), (0, _), (1, _)]) [0, 1, 2, 3] rfl ?_
    exact isl_A h1 h4 hm4 hk hv hV hN 0 _ _ (Nat.zero_le _) k_28 rfl
  · refine x_iconst (v := nI 0) dL_island_12 (by decide) ?_
    refine x_zret rfl dL_island_13 (by decide) (by first | (exfalso; omega) | exact absurd rfl c_9)
