/-! ===== numbers ===== -/
def F83 (a : Nat) : Prop := a = 83
def GNs (n0 m : Nat) (kd pl : Nat → Nat) (S : St) : Prop := S.1 83 0 = nI n0 ∧ S.1 83 1 = nI m ∧ ∀ t, t < m → S.1 83 (2 + t) = nI (kd t) ∧ S.1 83 (7 + t) = nI (pl t)
theorem TG_congr {n0 : Nat} {kd pl kd' pl' : Nat → Nat} : ∀ {t : Nat}, (∀ u, u < t → kd' u = kd u ∧ pl' u = pl u) → TG n0 kd' pl' t = TG n0 kd pl t
  | 0, _ => rfl
  | t + 1, h => by
    have ih := TG_congr (n0 := n0) (kd := kd) (pl := pl) (kd' := kd') (pl' := pl') (t := t) (fun u hu => h u (by omega))
    have hk := h t (Nat.lt_succ_self t)
    show addT (TG n0 kd' pl' t) (kd' t) (pl' t) = addT (TG n0 kd pl t) (kd t) (pl t)
    rw [ih, hk.1, hk.2]
theorem TG_load {n0 : Nat} {kd pl : Nat → Nat} {p : Nat} : ∀ t, loadF (TG n0 kd pl t) (iS (TG n0 kd pl t)) p = sm (fun u => if pl u = p then wt (kd u) else 0) t
  | 0 => rfl
  | t + 1 => by
    have ih := TG_load (n0 := n0) (kd := kd) (pl := pl) (p := p) t
    show loadF (addT (TG n0 kd pl t) (kd t) (pl t)) (iS (addT (TG n0 kd pl t) (kd t) (pl t))) p = _
    rw [load_addT, ih, sm_s]
theorem TG_add {n0 m q a : Nat} {kd pl : Nat → Nat} : TG n0 (upW kd m q) (upW pl m a) (m + 1) = addT (TG n0 kd pl m) q a := by
  show addT (TG n0 (upW kd m q) (upW pl m a) m) (upW kd m q m) (upW pl m a m) = _
  rw [upW_eq, upW_eq, TG_congr (fun u hu => ⟨upW_ne (by omega), upW_ne (by omega)⟩)]
theorem VT_add {n0 m q a : Nat} {kd pl : Nat → Nat} (h : VT n0 kd pl m) (h1 : q ≤ 5) (h2 : bagK q → iB (TG n0 kd pl m) < 2) (h3 : a < n0 ∨ (a = 4 ∧ ¬ livK q)) (h4 : ¬ a = 4 → sm (fun u => if pl u = a then wt (kd u) else 0) m + wt q ≤ 3) : VT n0 (upW kd m q) (upW pl m a) (m + 1) := fun u hu => by
  by_cases e : u = m
  · subst e
    rw [upW_eq, upW_eq, TG_congr (kd := kd) (pl := pl) (fun v hv => ⟨upW_ne (by omega), upW_ne (by omega)⟩), TG_load]
    exact ⟨h1, h2, h3, h4⟩
  · rw [upW_ne e, upW_ne e, TG_congr (kd := kd) (pl := pl) (fun v hv => ⟨upW_ne (by omega), upW_ne (by omega)⟩)]
    exact h u (by omega)
theorem GNs_add {n0 m q a : Nat} {kd pl : Nat → Nat} {S : St} (h : GNs n0 m kd pl S) (hm : m ≤ 3) : GNs n0 (m + 1) (upW kd m q) (upW pl m a) (setI (setI (setI S 83 (2 + m) (nI q)) 83 (7 + m) (nI a)) 83 1 (nI (m + 1))) := by
  obtain ⟨h1, h2, h3⟩ := h
  refine ⟨?_, rdI_eq, fun t ht => ?_⟩
  · rw [rdI_j (by omega), rdI_j (by omega), rdI_j (by omega)]; exact h1
  · by_cases e : t = m
    · subst e
      rw [upW_eq, upW_eq, rdI_j (by omega), rdI_j (by omega), rdI_eq, rdI_j (by omega), rdI_eq]
      exact ⟨rfl, rfl⟩
    · rw [upW_ne e, upW_ne e, rdI_j (by omega), rdI_j (by omega), rdI_j (by omega), rdI_j (by omega), rdI_j (by omega), rdI_j (by omega)]
      exact h3 t (by omega)
theorem Fr83 {S S1 : St} {j : Nat} {v : Int32} (h : Fr F83 S S1) : Fr F83 S (setI S1 83 j v) := ⟨h.1, fun a ha b => (rdI_k (fun q => ha q)).trans (h.2 a ha b)⟩
theorem VT.b2 {n0 m : Nat} {kd pl : Nat → Nat} (h0 : n0 ≤ 4) (hm : m ≤ 4) (h : VT n0 kd pl m) : iB (TG n0 kd pl m) ≤ 2 := (TG_PI h0 hm h m (Nat.le_refl m)).1.2.2.2.1

set_option maxHeartbeats 4000000 in
set_option maxRecDepth 100000 in
theorem num_E {S : St} {sc : Sc} (hsc : sc.1 ≤ 260) {n0 : Nat} (h1 : 1 ≤ n0) (h4 : n0 ≤ 4) {want : Nat} (hw : want ≤ 4) {t m : Nat} {kd pl : Nat → Nat} {S1 : St} (ht : t < want) (hmt : m ≤ t) (hf : Fr F83 S S1) (hg : GNs n0 m kd pl S1) (hv : VT n0 kd pl m) {Q : Option Value → St → Prop} (H : ∀ (m' : Nat) (kd' pl' : Nat → Nat) (S' : St), m' ≤ t + 1 → Fr F83 S S' → GNs n0 m' kd' pl' S' → VT n0 kd' pl' m' → X 1 30 (mL_numbers sc) Q 40 [(6, .int (nI ((t + 1)))), (5, .int (nI ((iB (TG n0 kd' pl' m'))))), (4, .int (nI want)), (0, .ref 201), (1, .int (nI 10)), (2, .int (nI 4)), (3, .ref 83)] [] S') {q x : Nat} (hx : x < 268435456) (hq : q ≤ 5) (hqb : bagK q → iB (TG n0 kd pl m) < 2) {a : Nat} (ha : a < n0 ∨ a = 4)  : X 1 30 (mL_numbers sc) (Q) 184 [(6, .int (nI t)), (5, .int (nI ((iB (TG n0 kd pl m))))), (4, .int (nI want)), (0, .ref 201), (1, .int (nI 10)), (2, .int (nI 4)), (3, .ref 83), (8, .int (nI q)), (9, .int (nI a)), (10, .int (nI ((wt q + sm (fun u => if pl u = a then wt (kd u) else 0) m))))] [] S1 := by
  have hb2 := hv.b2 h4 (by omega)
  have hld : sm (fun u => if pl u = a then wt (kd u) else 0) m ≤ 2 * m := sm_le fun u _ => by
    have := wt_le (kd u)
    split <;> omega
  have hwq := wt_le q
  refine x_iload 8 dL_numbers_184 rfl ?_
  refine x_iconst (v := nI 4) dL_numbers_186 (by decide) ?_
  refine y_ic_ne 198 dL_numbers_187 (by decide) (by omega) (by omega) (fun c_187 => ?_) (fun c_187 => ?_)
  · refine x_iload 8 dL_numbers_198 rfl ?_
    refine x_iconst (v := nI 4) dL_numbers_200 (by decide) ?_
    refine y_ic_ge 210 dL_numbers_201 (by decide) (by omega) (by omega) (fun c_201 => ?_) (fun c_201 => ?_)
    · refine x_iload 1 dL_numbers_210 rfl ?_
      refine x_iload 7 dL_numbers_212 rfl ?_
      refine x_callSb (as := [_]) (rest := [_]) sL_20 (c_L_bag (k := q) (by omega)) dL_numbers_214 rfl rfl (Nat.le_of_ble_eq_true rfl) (Nat.le_of_ble_eq_true rfl) (Nat.le_of_ble_eq_true rfl) (fun c_214 => ?_) (fun c_214 => ?_)
      · refine u_if_eq 224 dL_numbers_217 (by decide) (by decide) ?_
        refine x_iconst (v := nI 1) dL_numbers_220 (by decide) ?_
        refine x_goto 225 dL_numbers_221 (by decide) ?_
        refine y_iadd dL_numbers_225 ?_
        refine x_istore (lv' := [(5, _), (6, _), (4, _), (0, _), (1, _), (2, _), (3, _), (8, _), (9, _), (10, _)]) dL_numbers_226 (lt_ok rfl) rfl ?_
        refine x_aload_n 6 dL_numbers_228 rfl rfl ?_
        refine x_iconst (v := nI 2) dL_numbers_229 (by decide) ?_
        refine x_aload_n 6 dL_numbers_230 rfl rfl ?_
        refine x_iconst (v := nI 1) dL_numbers_231 (by decide) ?_
        refine y_iald dL_numbers_232 l83 (by omega) (by decide) hg.2.1 ?_
        refine y_iadd dL_numbers_233 ?_
        refine x_iload 7 dL_numbers_234 rfl ?_
        refine y_iast dL_numbers_236 l83 (by omega) (by decide) ?_
        refine x_aload_n 6 dL_numbers_237 rfl rfl ?_
        refine x_bipush (v := nI 7) dL_numbers_238 (by decide) ?_
        refine x_aload_n 6 dL_numbers_240 rfl rfl ?_
        refine x_iconst (v := nI 1) dL_numbers_241 (by decide) ?_
        refine y_iald dL_numbers_242 l83 (by omega) (by decide) (((rdI_j (by omega))).trans hg.2.1) ?_
        refine y_iadd dL_numbers_243 ?_
        refine x_iload 8 dL_numbers_244 rfl ?_
        refine y_iast dL_numbers_246 l83 (by omega) (by decide) ?_
        refine x_aload_n 6 dL_numbers_247 rfl rfl ?_
        refine x_iconst (v := nI 1) dL_numbers_248 (by decide) ?_
        refine x_dup2 dL_numbers_249 rfl rfl ?_
        refine y_iald dL_numbers_250 l83 (by omega) (by decide) ((((rdI_j (by omega))).trans (rdI_j (by omega))).trans hg.2.1) ?_
        refine x_iconst (v := nI 1) dL_numbers_251 (by decide) ?_
        refine y_iadd dL_numbers_252 ?_
        refine y_iast dL_numbers_253 l83 (by omega) (by decide) ?_
        refine y_iinc (lv' := [(6, _), (5, _), (4, _), (0, _), (1, _), (2, _), (3, _), (8, _), (9, _), (10, _)]) 1 dL_numbers_254 rfl (lt_ok rfl) rfl ?_
        refine x_goto 40 dL_numbers_257 (by decide) ?_
        refine x_pick (lv' := [(6, _), (5, _), (4, _), (0, _), (1, _), (2, _), (3, _)]) [0, 1, 2, 3, 4, 5, 6] rfl ?_
        have e : ((iB (TG n0 kd pl m)) + 1) = iB (TG n0 (upW kd m q) (upW pl m a) (m + 1)) := by
          rw [TG_add]
          show _ = if 0 < rm q then iB (TG n0 kd pl m) + 1 else iB (TG n0 kd pl m)
          first | rw [if_pos ((rm_pos q).mpr c_214)] | rw [if_neg (fun z => c_214 ((rm_pos q).mp z)), Nat.add_zero]
        rw [e]
        exact H (m + 1) (upW kd m q) (upW pl m a) _ (by omega) (Fr83 (Fr83 (Fr83 hf))) (GNs_add hg (by omega)) (VT_add hv hq hqb (by first | exact ha.imp id (fun z => ⟨z, by assumption⟩) | exact Or.inl (by omega)) (fun z => by first | omega | exact absurd (by omega) z))
      · refine t_if_eq 224 dL_numbers_217 (by decide) (by decide) ?_
        refine x_iconst (v := nI 0) dL_numbers_224 (by decide) ?_
        refine y_iadd dL_numbers_225 ?_
        refine x_istore (lv' := [(5, _), (6, _), (4, _), (0, _), (1, _), (2, _), (3, _), (8, _), (9, _), (10, _)]) dL_numbers_226 (lt_ok rfl) rfl ?_
        refine x_aload_n 6 dL_numbers_228 rfl rfl ?_
        refine x_iconst (v := nI 2) dL_numbers_229 (by decide) ?_
        refine x_aload_n 6 dL_numbers_230 rfl rfl ?_
        refine x_iconst (v := nI 1) dL_numbers_231 (by decide) ?_
        refine y_iald dL_numbers_232 l83 (by omega) (by decide) hg.2.1 ?_
        refine y_iadd dL_numbers_233 ?_
        refine x_iload 7 dL_numbers_234 rfl ?_
        refine y_iast dL_numbers_236 l83 (by omega) (by decide) ?_
        refine x_aload_n 6 dL_numbers_237 rfl rfl ?_
        refine x_bipush (v := nI 7) dL_numbers_238 (by decide) ?_
        refine x_aload_n 6 dL_numbers_240 rfl rfl ?_
        refine x_iconst (v := nI 1) dL_numbers_241 (by decide) ?_
        refine y_iald dL_numbers_242 l83 (by omega) (by decide) (((rdI_j (by omega))).trans hg.2.1) ?_
        refine y_iadd dL_numbers_243 ?_
        refine x_iload 8 dL_numbers_244 rfl ?_
        refine y_iast dL_numbers_246 l83 (by omega) (by decide) ?_
        refine x_aload_n 6 dL_numbers_247 rfl rfl ?_
        refine x_iconst (v := nI 1) dL_numbers_248 (by decide) ?_
        refine x_dup2 dL_numbers_249 rfl rfl ?_
        refine y_iald dL_numbers_250 l83 (by omega) (by decide) ((((rdI_j (by omega))).trans (rdI_j (by omega))).trans hg.2.1) ?_
        refine x_iconst (v := nI 1) dL_numbers_251 (by decide) ?_
        refine y_iadd dL_numbers_252 ?_
        refine y_iast dL_numbers_253 l83 (by omega) (by decide) ?_
        refine y_iinc (lv' := [(6, _), (5, _), (4, _), (0, _), (1, _), (2, _), (3, _), (8, _), (9, _), (10, _)]) 1 dL_numbers_254 rfl (lt_ok rfl) rfl ?_
        refine x_goto 40 dL_numbers_257 (by decide) ?_
        refine x_pick (lv' := [(6, _), (5, _), (4, _), (0, _), (1, _), (2, _), (3, _)]) [0, 1, 2, 3, 4, 5, 6] rfl ?_
        have e : ((iB (TG n0 kd pl m)) + 0) = iB (TG n0 (upW kd m q) (upW pl m a) (m + 1)) := by
          rw [TG_add]
          show _ = if 0 < rm q then iB (TG n0 kd pl m) + 1 else iB (TG n0 kd pl m)
          first | rw [if_pos ((rm_pos q).mpr c_214)] | rw [if_neg (fun z => c_214 ((rm_pos q).mp z)), Nat.add_zero]
        rw [e]
        exact H (m + 1) (upW kd m q) (upW pl m a) _ (by omega) (Fr83 (Fr83 (Fr83 hf))) (GNs_add hg (by omega)) (VT_add hv hq hqb (by first | exact ha.imp id (fun z => ⟨z, by assumption⟩) | exact Or.inl (by omega)) (fun z => by first | omega | exact absurd (by omega) z))
    · refine x_iload 9 dL_numbers_204 rfl ?_
      refine x_iconst (v := nI 3) dL_numbers_206 (by decide) ?_
      refine y_ic_gt 254 dL_numbers_207 (by decide) (by omega) (by omega) (fun c_207 => ?_) (fun c_207 => ?_)
      · refine y_iinc (lv' := [(6, _), (5, _), (4, _), (0, _), (1, _), (2, _), (3, _), (8, _), (9, _), (10, _)]) 0 dL_numbers_254 rfl (lt_ok rfl) rfl ?_
        refine x_goto 40 dL_numbers_257 (by decide) ?_
        refine x_pick (lv' := [(6, _), (5, _), (4, _), (0, _), (1, _), (2, _), (3, _)]) [0, 1, 2, 3, 4, 5, 6] rfl ?_
        exact H m kd pl S1 (by omega) hf hg hv
      · refine x_iload 1 dL_numbers_210 rfl ?_
        refine x_iload 7 dL_numbers_212 rfl ?_
        refine x_callSb (as := [_]) (rest := [_]) sL_20 (c_L_bag (k := q) (by omega)) dL_numbers_214 rfl rfl (Nat.le_of_ble_eq_true rfl) (Nat.le_of_ble_eq_true rfl) (Nat.le_of_ble_eq_true rfl) (fun c_214 => ?_) (fun c_214 => ?_)
        · refine u_if_eq 224 dL_numbers_217 (by decide) (by decide) ?_
          refine x_iconst (v := nI 1) dL_numbers_220 (by decide) ?_
          refine x_goto 225 dL_numbers_221 (by decide) ?_
          refine y_iadd dL_numbers_225 ?_
          refine x_istore (lv' := [(5, _), (6, _), (4, _), (0, _), (1, _), (2, _), (3, _), (8, _), (9, _), (10, _)]) dL_numbers_226 (lt_ok rfl) rfl ?_
          refine x_aload_n 6 dL_numbers_228 rfl rfl ?_
          refine x_iconst (v := nI 2) dL_numbers_229 (by decide) ?_
          refine x_aload_n 6 dL_numbers_230 rfl rfl ?_
          refine x_iconst (v := nI 1) dL_numbers_231 (by decide) ?_
          refine y_iald dL_numbers_232 l83 (by omega) (by decide) hg.2.1 ?_
          refine y_iadd dL_numbers_233 ?_
          refine x_iload 7 dL_numbers_234 rfl ?_
          refine y_iast dL_numbers_236 l83 (by omega) (by decide) ?_
          refine x_aload_n 6 dL_numbers_237 rfl rfl ?_
          refine x_bipush (v := nI 7) dL_numbers_238 (by decide) ?_
          refine x_aload_n 6 dL_numbers_240 rfl rfl ?_
          refine x_iconst (v := nI 1) dL_numbers_241 (by decide) ?_
          refine y_iald dL_numbers_242 l83 (by omega) (by decide) (((rdI_j (by omega))).trans hg.2.1) ?_
          refine y_iadd dL_numbers_243 ?_
          refine x_iload 8 dL_numbers_244 rfl ?_
          refine y_iast dL_numbers_246 l83 (by omega) (by decide) ?_
          refine x_aload_n 6 dL_numbers_247 rfl rfl ?_
          refine x_iconst (v := nI 1) dL_numbers_248 (by decide) ?_
          refine x_dup2 dL_numbers_249 rfl rfl ?_
          refine y_iald dL_numbers_250 l83 (by omega) (by decide) ((((rdI_j (by omega))).trans (rdI_j (by omega))).trans hg.2.1) ?_
          refine x_iconst (v := nI 1) dL_numbers_251 (by decide) ?_
          refine y_iadd dL_numbers_252 ?_
          refine y_iast dL_numbers_253 l83 (by omega) (by decide) ?_
          refine y_iinc (lv' := [(6, _), (5, _), (4, _), (0, _), (1, _), (2, _), (3, _), (8, _), (9, _), (10, _)]) 1 dL_numbers_254 rfl (lt_ok rfl) rfl ?_
          refine x_goto 40 dL_numbers_257 (by decide) ?_
          refine x_pick (lv' := [(6, _), (5, _), (4, _), (0, _), (1, _), (2, _), (3, _)]) [0, 1, 2, 3, 4, 5, 6] rfl ?_
          have e : ((iB (TG n0 kd pl m)) + 1) = iB (TG n0 (upW kd m q) (upW pl m a) (m + 1)) := by
            rw [TG_add]
            show _ = if 0 < rm q then iB (TG n0 kd pl m) + 1 else iB (TG n0 kd pl m)
            first | rw [if_pos ((rm_pos q).mpr c_214)] | rw [if_neg (fun z => c_214 ((rm_pos q).mp z)), Nat.add_zero]
          rw [e]
          exact H (m + 1) (upW kd m q) (upW pl m a) _ (by omega) (Fr83 (Fr83 (Fr83 hf))) (GNs_add hg (by omega)) (VT_add hv hq hqb (by first | exact ha.imp id (fun z => ⟨z, by assumption⟩) | exact Or.inl (by omega)) (fun z => by first | omega | exact absurd (by omega) z))
        · refine t_if_eq 224 dL_numbers_217 (by decide) (by decide) ?_
          refine x_iconst (v := nI 0) dL_numbers_224 (by decide) ?_
          refine y_iadd dL_numbers_225 ?_
          refine x_istore (lv' := [(5, _), (6, _), (4, _), (0, _), (1, _), (2, _), (3, _), (8, _), (9, _), (10, _)]) dL_numbers_226 (lt_ok rfl) rfl ?_
          refine x_aload_n 6 dL_numbers_228 rfl rfl ?_
          refine x_iconst (v := nI 2) dL_numbers_229 (by decide) ?_
          refine x_aload_n 6 dL_numbers_230 rfl rfl ?_
          refine x_iconst (v := nI 1) dL_numbers_231 (by decide) ?_
          refine y_iald dL_numbers_232 l83 (by omega) (by decide) hg.2.1 ?_
          refine y_iadd dL_numbers_233 ?_
          refine x_iload 7 dL_numbers_234 rfl ?_
          refine y_iast dL_numbers_236 l83 (by omega) (by decide) ?_
          refine x_aload_n 6 dL_numbers_237 rfl rfl ?_
          refine x_bipush (v := nI 7) dL_numbers_238 (by decide) ?_
          refine x_aload_n 6 dL_numbers_240 rfl rfl ?_
          refine x_iconst (v := nI 1) dL_numbers_241 (by decide) ?_
          refine y_iald dL_numbers_242 l83 (by omega) (by decide) (((rdI_j (by omega))).trans hg.2.1) ?_
          refine y_iadd dL_numbers_243 ?_
          refine x_iload 8 dL_numbers_244 rfl ?_
          refine y_iast dL_numbers_246 l83 (by omega) (by decide) ?_
          refine x_aload_n 6 dL_numbers_247 rfl rfl ?_
          refine x_iconst (v := nI 1) dL_numbers_248 (by decide) ?_
          refine x_dup2 dL_numbers_249 rfl rfl ?_
          refine y_iald dL_numbers_250 l83 (by omega) (by decide) ((((rdI_j (by omega))).trans (rdI_j (by omega))).trans hg.2.1) ?_
          refine x_iconst (v := nI 1) dL_numbers_251 (by decide) ?_
          refine y_iadd dL_numbers_252 ?_
          refine y_iast dL_numbers_253 l83 (by omega) (by decide) ?_
          refine y_iinc (lv' := [(6, _), (5, _), (4, _), (0, _), (1, _), (2, _), (3, _), (8, _), (9, _), (10, _)]) 1 dL_numbers_254 rfl (lt_ok rfl) rfl ?_
          refine x_goto 40 dL_numbers_257 (by decide) ?_
          refine x_pick (lv' := [(6, _), (5, _), (4, _), (0, _), (1, _), (2, _), (3, _)]) [0, 1, 2, 3, 4, 5, 6] rfl ?_
          have e : ((iB (TG n0 kd pl m)) + 0) = iB (TG n0 (upW kd m q) (upW pl m a) (m + 1)) := by
            rw [TG_add]
            show _ = if 0 < rm q then iB (TG n0 kd pl m) + 1 else iB (TG n0 kd pl m)
            first | rw [if_pos ((rm_pos q).mpr c_214)] | rw [if_neg (fun z => c_214 ((rm_pos q).mp z)), Nat.add_zero]
          rw [e]
          exact H (m + 1) (upW kd m q) (upW pl m a) _ (by omega) (Fr83 (Fr83 (Fr83 hf))) (GNs_add hg (by omega)) (VT_add hv hq hqb (by first | exact ha.imp id (fun z => ⟨z, by assumption⟩) | exact Or.inl (by omega)) (fun z => by first | omega | exact absurd (by omega) z))
  · refine x_iload 7 dL_numbers_190 rfl ?_
    refine x_callSb (as := [_]) (rest := []) sL_28 (c_L_living (k := q) (by omega)) dL_numbers_192 rfl rfl (Nat.le_of_ble_eq_true rfl) (Nat.le_of_ble_eq_true rfl) (Nat.le_of_ble_eq_true rfl) (fun c_192 => ?_) (fun c_192 => ?_)
    · refine t_if_ne 254 dL_numbers_195 (by decide) (by decide) ?_
      refine y_iinc (lv' := [(6, _), (5, _), (4, _), (0, _), (1, _), (2, _), (3, _), (8, _), (9, _), (10, _)]) 0 dL_numbers_254 rfl (lt_ok rfl) rfl ?_
      refine x_goto 40 dL_numbers_257 (by decide) ?_
      refine x_pick (lv' := [(6, _), (5, _), (4, _), (0, _), (1, _), (2, _), (3, _)]) [0, 1, 2, 3, 4, 5, 6] rfl ?_
      exact H m kd pl S1 (by omega) hf hg hv
    · refine u_if_ne 254 dL_numbers_195 (by decide) (by decide) ?_
      refine x_iload 8 dL_numbers_198 rfl ?_
      refine x_iconst (v := nI 4) dL_numbers_200 (by decide) ?_
      refine y_ic_ge 210 dL_numbers_201 (by decide) (by omega) (by omega) (fun c_201 => ?_) (fun c_201 => ?_)
      · refine x_iload 1 dL_numbers_210 rfl ?_
        refine x_iload 7 dL_numbers_212 rfl ?_
        refine x_callSb (as := [_]) (rest := [_]) sL_20 (c_L_bag (k := q) (by omega)) dL_numbers_214 rfl rfl (Nat.le_of_ble_eq_true rfl) (Nat.le_of_ble_eq_true rfl) (Nat.le_of_ble_eq_true rfl) (fun c_214 => ?_) (fun c_214 => ?_)
        · refine u_if_eq 224 dL_numbers_217 (by decide) (by decide) ?_
          refine x_iconst (v := nI 1) dL_numbers_220 (by decide) ?_
          refine x_goto 225 dL_numbers_221 (by decide) ?_
          refine y_iadd dL_numbers_225 ?_
          refine x_istore (lv' := [(5, _), (6, _), (4, _), (0, _), (1, _), (2, _), (3, _), (8, _), (9, _), (10, _)]) dL_numbers_226 (lt_ok rfl) rfl ?_
          refine x_aload_n 6 dL_numbers_228 rfl rfl ?_
          refine x_iconst (v := nI 2) dL_numbers_229 (by decide) ?_
          refine x_aload_n 6 dL_numbers_230 rfl rfl ?_
          refine x_iconst (v := nI 1) dL_numbers_231 (by decide) ?_
          refine y_iald dL_numbers_232 l83 (by omega) (by decide) hg.2.1 ?_
          refine y_iadd dL_numbers_233 ?_
          refine x_iload 7 dL_numbers_234 rfl ?_
          refine y_iast dL_numbers_236 l83 (by omega) (by decide) ?_
          refine x_aload_n 6 dL_numbers_237 rfl rfl ?_
          refine x_bipush (v := nI 7) dL_numbers_238 (by decide) ?_
          refine x_aload_n 6 dL_numbers_240 rfl rfl ?_
          refine x_iconst (v := nI 1) dL_numbers_241 (by decide) ?_
          refine y_iald dL_numbers_242 l83 (by omega) (by decide) (((rdI_j (by omega))).trans hg.2.1) ?_
          refine y_iadd dL_numbers_243 ?_
          refine x_iload 8 dL_numbers_244 rfl ?_
          refine y_iast dL_numbers_246 l83 (by omega) (by decide) ?_
          refine x_aload_n 6 dL_numbers_247 rfl rfl ?_
          refine x_iconst (v := nI 1) dL_numbers_248 (by decide) ?_
          refine x_dup2 dL_numbers_249 rfl rfl ?_
          refine y_iald dL_numbers_250 l83 (by omega) (by decide) ((((rdI_j (by omega))).trans (rdI_j (by omega))).trans hg.2.1) ?_
          refine x_iconst (v := nI 1) dL_numbers_251 (by decide) ?_
          refine y_iadd dL_numbers_252 ?_
          refine y_iast dL_numbers_253 l83 (by omega) (by decide) ?_
          refine y_iinc (lv' := [(6, _), (5, _), (4, _), (0, _), (1, _), (2, _), (3, _), (8, _), (9, _), (10, _)]) 1 dL_numbers_254 rfl (lt_ok rfl) rfl ?_
          refine x_goto 40 dL_numbers_257 (by decide) ?_
          refine x_pick (lv' := [(6, _), (5, _), (4, _), (0, _), (1, _), (2, _), (3, _)]) [0, 1, 2, 3, 4, 5, 6] rfl ?_
          have e : ((iB (TG n0 kd pl m)) + 1) = iB (TG n0 (upW kd m q) (upW pl m a) (m + 1)) := by
            rw [TG_add]
            show _ = if 0 < rm q then iB (TG n0 kd pl m) + 1 else iB (TG n0 kd pl m)
            first | rw [if_pos ((rm_pos q).mpr c_214)] | rw [if_neg (fun z => c_214 ((rm_pos q).mp z)), Nat.add_zero]
          rw [e]
          exact H (m + 1) (upW kd m q) (upW pl m a) _ (by omega) (Fr83 (Fr83 (Fr83 hf))) (GNs_add hg (by omega)) (VT_add hv hq hqb (by first | exact ha.imp id (fun z => ⟨z, by assumption⟩) | exact Or.inl (by omega)) (fun z => by first | omega | exact absurd (by omega) z))
        · refine t_if_eq 224 dL_numbers_217 (by decide) (by decide) ?_
          refine x_iconst (v := nI 0) dL_numbers_224 (by decide) ?_
          refine y_iadd dL_numbers_225 ?_
          refine x_istore (lv' := [(5, _), (6, _), (4, _), (0, _), (1, _), (2, _), (3, _), (8, _), (9, _), (10, _)]) dL_numbers_226 (lt_ok rfl) rfl ?_
          refine x_aload_n 6 dL_numbers_228 rfl rfl ?_
          refine x_iconst (v := nI 2) dL_numbers_229 (by decide) ?_
          refine x_aload_n 6 dL_numbers_230 rfl rfl ?_
          refine x_iconst (v := nI 1) dL_numbers_231 (by decide) ?_
          refine y_iald dL_numbers_232 l83 (by omega) (by decide) hg.2.1 ?_
          refine y_iadd dL_numbers_233 ?_
          refine x_iload 7 dL_numbers_234 rfl ?_
          refine y_iast dL_numbers_236 l83 (by omega) (by decide) ?_
          refine x_aload_n 6 dL_numbers_237 rfl rfl ?_
          refine x_bipush (v := nI 7) dL_numbers_238 (by decide) ?_
          refine x_aload_n 6 dL_numbers_240 rfl rfl ?_
          refine x_iconst (v := nI 1) dL_numbers_241 (by decide) ?_
          refine y_iald dL_numbers_242 l83 (by omega) (by decide) (((rdI_j (by omega))).trans hg.2.1) ?_
          refine y_iadd dL_numbers_243 ?_
          refine x_iload 8 dL_numbers_244 rfl ?_
          refine y_iast dL_numbers_246 l83 (by omega) (by decide) ?_
          refine x_aload_n 6 dL_numbers_247 rfl rfl ?_
          refine x_iconst (v := nI 1) dL_numbers_248 (by decide) ?_
          refine x_dup2 dL_numbers_249 rfl rfl ?_
          refine y_iald dL_numbers_250 l83 (by omega) (by decide) ((((rdI_j (by omega))).trans (rdI_j (by omega))).trans hg.2.1) ?_
          refine x_iconst (v := nI 1) dL_numbers_251 (by decide) ?_
          refine y_iadd dL_numbers_252 ?_
          refine y_iast dL_numbers_253 l83 (by omega) (by decide) ?_
          refine y_iinc (lv' := [(6, _), (5, _), (4, _), (0, _), (1, _), (2, _), (3, _), (8, _), (9, _), (10, _)]) 1 dL_numbers_254 rfl (lt_ok rfl) rfl ?_
          refine x_goto 40 dL_numbers_257 (by decide) ?_
          refine x_pick (lv' := [(6, _), (5, _), (4, _), (0, _), (1, _), (2, _), (3, _)]) [0, 1, 2, 3, 4, 5, 6] rfl ?_
          have e : ((iB (TG n0 kd pl m)) + 0) = iB (TG n0 (upW kd m q) (upW pl m a) (m + 1)) := by
            rw [TG_add]
            show _ = if 0 < rm q then iB (TG n0 kd pl m) + 1 else iB (TG n0 kd pl m)
            first | rw [if_pos ((rm_pos q).mpr c_214)] | rw [if_neg (fun z => c_214 ((rm_pos q).mp z)), Nat.add_zero]
          rw [e]
          exact H (m + 1) (upW kd m q) (upW pl m a) _ (by omega) (Fr83 (Fr83 (Fr83 hf))) (GNs_add hg (by omega)) (VT_add hv hq hqb (by first | exact ha.imp id (fun z => ⟨z, by assumption⟩) | exact Or.inl (by omega)) (fun z => by first | omega | exact absurd (by omega) z))
      · refine x_iload 9 dL_numbers_204 rfl ?_
        refine x_iconst (v := nI 3) dL_numbers_206 (by decide) ?_
        refine y_ic_gt 254 dL_numbers_207 (by decide) (by omega) (by omega) (fun c_207 => ?_) (fun c_207 => ?_)
        · refine y_iinc (lv' := [(6, _), (5, _), (4, _), (0, _), (1, _), (2, _), (3, _), (8, _), (9, _), (10, _)]) 0 dL_numbers_254 rfl (lt_ok rfl) rfl ?_
          refine x_goto 40 dL_numbers_257 (by decide) ?_
          refine x_pick (lv' := [(6, _), (5, _), (4, _), (0, _), (1, _), (2, _), (3, _)]) [0, 1, 2, 3, 4, 5, 6] rfl ?_
          exact H m kd pl S1 (by omega) hf hg hv
        · refine x_iload 1 dL_numbers_210 rfl ?_
          refine x_iload 7 dL_numbers_212 rfl ?_
          refine x_callSb (as := [_]) (rest := [_]) sL_20 (c_L_bag (k := q) (by omega)) dL_numbers_214 rfl rfl (Nat.le_of_ble_eq_true rfl) (Nat.le_of_ble_eq_true rfl) (Nat.le_of_ble_eq_true rfl) (fun c_214 => ?_) (fun c_214 => ?_)
          · refine u_if_eq 224 dL_numbers_217 (by decide) (by decide) ?_
            refine x_iconst (v := nI 1) dL_numbers_220 (by decide) ?_
            refine x_goto 225 dL_numbers_221 (by decide) ?_
            refine y_iadd dL_numbers_225 ?_
            refine x_istore (lv' := [(5, _), (6, _), (4, _), (0, _), (1, _), (2, _), (3, _), (8, _), (9, _), (10, _)]) dL_numbers_226 (lt_ok rfl) rfl ?_
            refine x_aload_n 6 dL_numbers_228 rfl rfl ?_
            refine x_iconst (v := nI 2) dL_numbers_229 (by decide) ?_
            refine x_aload_n 6 dL_numbers_230 rfl rfl ?_
            refine x_iconst (v := nI 1) dL_numbers_231 (by decide) ?_
            refine y_iald dL_numbers_232 l83 (by omega) (by decide) hg.2.1 ?_
            refine y_iadd dL_numbers_233 ?_
            refine x_iload 7 dL_numbers_234 rfl ?_
            refine y_iast dL_numbers_236 l83 (by omega) (by decide) ?_
            refine x_aload_n 6 dL_numbers_237 rfl rfl ?_
            refine x_bipush (v := nI 7) dL_numbers_238 (by decide) ?_
            refine x_aload_n 6 dL_numbers_240 rfl rfl ?_
            refine x_iconst (v := nI 1) dL_numbers_241 (by decide) ?_
            refine y_iald dL_numbers_242 l83 (by omega) (by decide) (((rdI_j (by omega))).trans hg.2.1) ?_
            refine y_iadd dL_numbers_243 ?_
            refine x_iload 8 dL_numbers_244 rfl ?_
            refine y_iast dL_numbers_246 l83 (by omega) (by decide) ?_
            refine x_aload_n 6 dL_numbers_247 rfl rfl ?_
            refine x_iconst (v := nI 1) dL_numbers_248 (by decide) ?_
            refine x_dup2 dL_numbers_249 rfl rfl ?_
            refine y_iald dL_numbers_250 l83 (by omega) (by decide) ((((rdI_j (by omega))).trans (rdI_j (by omega))).trans hg.2.1) ?_
            refine x_iconst (v := nI 1) dL_numbers_251 (by decide) ?_
            refine y_iadd dL_numbers_252 ?_
            refine y_iast dL_numbers_253 l83 (by omega) (by decide) ?_
            refine y_iinc (lv' := [(6, _), (5, _), (4, _), (0, _), (1, _), (2, _), (3, _), (8, _), (9, _), (10, _)]) 1 dL_numbers_254 rfl (lt_ok rfl) rfl ?_
            refine x_goto 40 dL_numbers_257 (by decide) ?_
            refine x_pick (lv' := [(6, _), (5, _), (4, _), (0, _), (1, _), (2, _), (3, _)]) [0, 1, 2, 3, 4, 5, 6] rfl ?_
            have e : ((iB (TG n0 kd pl m)) + 1) = iB (TG n0 (upW kd m q) (upW pl m a) (m + 1)) := by
              rw [TG_add]
              show _ = if 0 < rm q then iB (TG n0 kd pl m) + 1 else iB (TG n0 kd pl m)
              first | rw [if_pos ((rm_pos q).mpr c_214)] | rw [if_neg (fun z => c_214 ((rm_pos q).mp z)), Nat.add_zero]
            rw [e]
            exact H (m + 1) (upW kd m q) (upW pl m a) _ (by omega) (Fr83 (Fr83 (Fr83 hf))) (GNs_add hg (by omega)) (VT_add hv hq hqb (by first | exact ha.imp id (fun z => ⟨z, by assumption⟩) | exact Or.inl (by omega)) (fun z => by first | omega | exact absurd (by omega) z))
          · refine t_if_eq 224 dL_numbers_217 (by decide) (by decide) ?_
            refine x_iconst (v := nI 0) dL_numbers_224 (by decide) ?_
            refine y_iadd dL_numbers_225 ?_
            refine x_istore (lv' := [(5, _), (6, _), (4, _), (0, _), (1, _), (2, _), (3, _), (8, _), (9, _), (10, _)]) dL_numbers_226 (lt_ok rfl) rfl ?_
            refine x_aload_n 6 dL_numbers_228 rfl rfl ?_
            refine x_iconst (v := nI 2) dL_numbers_229 (by decide) ?_
            refine x_aload_n 6 dL_numbers_230 rfl rfl ?_
            refine x_iconst (v := nI 1) dL_numbers_231 (by decide) ?_
            refine y_iald dL_numbers_232 l83 (by omega) (by decide) hg.2.1 ?_
            refine y_iadd dL_numbers_233 ?_
            refine x_iload 7 dL_numbers_234 rfl ?_
            refine y_iast dL_numbers_236 l83 (by omega) (by decide) ?_
            refine x_aload_n 6 dL_numbers_237 rfl rfl ?_
            refine x_bipush (v := nI 7) dL_numbers_238 (by decide) ?_
            refine x_aload_n 6 dL_numbers_240 rfl rfl ?_
            refine x_iconst (v := nI 1) dL_numbers_241 (by decide) ?_
            refine y_iald dL_numbers_242 l83 (by omega) (by decide) (((rdI_j (by omega))).trans hg.2.1) ?_
            refine y_iadd dL_numbers_243 ?_
            refine x_iload 8 dL_numbers_244 rfl ?_
            refine y_iast dL_numbers_246 l83 (by omega) (by decide) ?_
            refine x_aload_n 6 dL_numbers_247 rfl rfl ?_
            refine x_iconst (v := nI 1) dL_numbers_248 (by decide) ?_
            refine x_dup2 dL_numbers_249 rfl rfl ?_
            refine y_iald dL_numbers_250 l83 (by omega) (by decide) ((((rdI_j (by omega))).trans (rdI_j (by omega))).trans hg.2.1) ?_
            refine x_iconst (v := nI 1) dL_numbers_251 (by decide) ?_
            refine y_iadd dL_numbers_252 ?_
            refine y_iast dL_numbers_253 l83 (by omega) (by decide) ?_
            refine y_iinc (lv' := [(6, _), (5, _), (4, _), (0, _), (1, _), (2, _), (3, _), (8, _), (9, _), (10, _)]) 1 dL_numbers_254 rfl (lt_ok rfl) rfl ?_
            refine x_goto 40 dL_numbers_257 (by decide) ?_
            refine x_pick (lv' := [(6, _), (5, _), (4, _), (0, _), (1, _), (2, _), (3, _)]) [0, 1, 2, 3, 4, 5, 6] rfl ?_
            have e : ((iB (TG n0 kd pl m)) + 0) = iB (TG n0 (upW kd m q) (upW pl m a) (m + 1)) := by
              rw [TG_add]
              show _ = if 0 < rm q then iB (TG n0 kd pl m) + 1 else iB (TG n0 kd pl m)
              first | rw [if_pos ((rm_pos q).mpr c_214)] | rw [if_neg (fun z => c_214 ((rm_pos q).mp z)), Nat.add_zero]
            rw [e]
            exact H (m + 1) (upW kd m q) (upW pl m a) _ (by omega) (Fr83 (Fr83 (Fr83 hf))) (GNs_add hg (by omega)) (VT_add hv hq hqb (by first | exact ha.imp id (fun z => ⟨z, by assumption⟩) | exact Or.inl (by omega)) (fun z => by first | omega | exact absurd (by omega) z))

set_option maxHeartbeats 4000000 in
set_option maxRecDepth 100000 in
theorem num_D1 {S : St} {sc : Sc} (hsc : sc.1 ≤ 260) {n0 : Nat} (h1 : 1 ≤ n0) (h4 : n0 ≤ 4) {want : Nat} (hw : want ≤ 4) {t m : Nat} {kd pl : Nat → Nat} {S1 : St} (ht : t < want) (hmt : m ≤ t) (hf : Fr F83 S S1) (hg : GNs n0 m kd pl S1) (hv : VT n0 kd pl m) {Q : Option Value → St → Prop} (H : ∀ (m' : Nat) (kd' pl' : Nat → Nat) (S' : St), m' ≤ t + 1 → Fr F83 S S' → GNs n0 m' kd' pl' S' → VT n0 kd' pl' m' → X 1 30 (mL_numbers sc) Q 40 [(6, .int (nI ((t + 1)))), (5, .int (nI ((iB (TG n0 kd' pl' m'))))), (4, .int (nI want)), (0, .ref 201), (1, .int (nI 10)), (2, .int (nI 4)), (3, .ref 83)] [] S') {q x : Nat} (hx : x < 268435456) (hq : q ≤ 5) (hqb : bagK q → iB (TG n0 kd pl m) < 2) {a : Nat} (ha : a < n0 ∨ a = 4)  : ∀ (k : Nat), (k ≤ m) → X 1 30 (mL_numbers sc) (Q) 140 [(6, .int (nI t)), (5, .int (nI ((iB (TG n0 kd pl m))))), (4, .int (nI want)), (0, .ref 201), (1, .int (nI 10)), (2, .int (nI 4)), (3, .ref 83), (8, .int (nI q)), (9, .int (nI a)), (10, .int (nI ((wt q + sm (fun u => if pl u = a then wt (kd u) else 0) k)))), (11, .int (nI k))] [] S1 := by
  intro k
  induction hm : m - k using Nat.strongRecOn generalizing k with
  | _ mm ih =>
    intro hk
    have hld : sm (fun u => if pl u = a then wt (kd u) else 0) k ≤ 2 * k := sm_le fun u _ => by
      have := wt_le (kd u)
      split <;> omega
    have hwq := wt_le q
    have hvk := hv k
    refine x_iload 10 dL_numbers_140 rfl ?_
    refine x_aload_n 6 dL_numbers_142 rfl rfl ?_
    refine x_iconst (v := nI 1) dL_numbers_143 (by decide) ?_
    refine y_iald dL_numbers_144 l83 (by omega) (by decide) hg.2.1 ?_
    refine y_ic_ge 184 dL_numbers_145 (by decide) (by omega) (by omega) (fun c_145 => ?_) (fun c_145 => ?_)
    · refine x_pick (lv' := [(6, _), (5, _), (4, _), (0, _), (1, _), (2, _), (3, _), (8, _), (9, _), (10, _)]) [0, 1, 2, 3, 4, 5, 6, 7, 8, 9] rfl ?_
      (obtain rfl : k = m := (by omega)); exact num_E hsc h1 h4 hw ht hmt hf hg hv H hx hq hqb ha
    · refine x_iload 9 dL_numbers_148 rfl ?_
      refine x_aload_n 6 dL_numbers_150 rfl rfl ?_
      refine x_bipush (v := nI 7) dL_numbers_151 (by decide) ?_
      refine x_iload 10 dL_numbers_153 rfl ?_
      refine y_iadd dL_numbers_155 ?_
      refine y_iald dL_numbers_156 l83 (by omega) (by decide) (hg.2.2 k (by omega)).2 ?_
      refine x_iload 8 dL_numbers_157 rfl ?_
      refine y_ic_ne 174 dL_numbers_159 (by decide) (by have := hvk (by omega); omega) (by omega) (fun c_159 => ?_) (fun c_159 => ?_)
      · refine x_iconst (v := nI 0) dL_numbers_174 (by decide) ?_
        refine y_iadd dL_numbers_175 ?_
        refine x_istore (lv' := [(10, _), (6, _), (5, _), (4, _), (0, _), (1, _), (2, _), (3, _), (8, _), (9, _), (11, _)]) dL_numbers_176 (lt_ok rfl) rfl ?_
        rw [show ((wt q + sm (fun u => if pl u = a then wt (kd u) else 0) k) + 0) = (wt q + sm (fun u => if pl u = a then wt (kd u) else 0) (k + 1)) from by rw [sm_s]; first | (rw [if_pos (by omega)]; omega) | (rw [if_neg (by omega)]; omega)]
        refine y_iinc (lv' := [(11, _), (10, _), (6, _), (5, _), (4, _), (0, _), (1, _), (2, _), (3, _), (8, _), (9, _)]) 10 dL_numbers_178 rfl (lt_ok rfl) rfl ?_
        refine x_goto 140 dL_numbers_181 (by decide) ?_
        refine x_pick (lv' := [(6, _), (5, _), (4, _), (0, _), (1, _), (2, _), (3, _), (8, _), (9, _), (10, _), (11, _)]) [2, 3, 4, 5, 6, 7, 8, 9, 10, 1, 0] rfl ?_
        exact ih (m - (k + 1)) (by omega) (k + 1) rfl (by omega)
      · refine x_aload_n 6 dL_numbers_162 rfl rfl ?_
        refine x_iconst (v := nI 2) dL_numbers_163 (by decide) ?_
        refine x_iload 10 dL_numbers_164 rfl ?_
        refine y_iadd dL_numbers_166 ?_
        refine y_iald dL_numbers_167 l83 (by omega) (by decide) (hg.2.2 k (by omega)).1 ?_
        refine x_callSu (as := [_]) (rest := [_]) sL_24 (c_L_counts (k := kd k) (by have := (hvk (by omega)).1; omega)) dL_numbers_168 rfl rfl (Nat.le_of_ble_eq_true rfl) (Nat.le_of_ble_eq_true rfl) (Nat.le_of_ble_eq_true rfl) ?_
        refine x_goto 175 dL_numbers_171 (by decide) ?_
        refine y_iadd dL_numbers_175 ?_
        refine x_istore (lv' := [(10, _), (6, _), (5, _), (4, _), (0, _), (1, _), (2, _), (3, _), (8, _), (9, _), (11, _)]) dL_numbers_176 (lt_ok rfl) rfl ?_
        rw [show ((wt q + sm (fun u => if pl u = a then wt (kd u) else 0) k) + (wt (kd k))) = (wt q + sm (fun u => if pl u = a then wt (kd u) else 0) (k + 1)) from by rw [sm_s]; first | (rw [if_pos (by omega)]; omega) | (rw [if_neg (by omega)]; omega)]
        refine y_iinc (lv' := [(11, _), (10, _), (6, _), (5, _), (4, _), (0, _), (1, _), (2, _), (3, _), (8, _), (9, _)]) 10 dL_numbers_178 rfl (lt_ok rfl) rfl ?_
        refine x_goto 140 dL_numbers_181 (by decide) ?_
        refine x_pick (lv' := [(6, _), (5, _), (4, _), (0, _), (1, _), (2, _), (3, _), (8, _), (9, _), (10, _), (11, _)]) [2, 3, 4, 5, 6, 7, 8, 9, 10, 1, 0] rfl ?_
        exact ih (m - (k + 1)) (by omega) (k + 1) rfl (by omega)

set_option maxHeartbeats 4000000 in
set_option maxRecDepth 100000 in
theorem num_D {S : St} {sc : Sc} (hsc : sc.1 ≤ 260) {n0 : Nat} (h1 : 1 ≤ n0) (h4 : n0 ≤ 4) {want : Nat} (hw : want ≤ 4) {t m : Nat} {kd pl : Nat → Nat} {S1 : St} (ht : t < want) (hmt : m ≤ t) (hf : Fr F83 S S1) (hg : GNs n0 m kd pl S1) (hv : VT n0 kd pl m) {Q : Option Value → St → Prop} (H : ∀ (m' : Nat) (kd' pl' : Nat → Nat) (S' : St), m' ≤ t + 1 → Fr F83 S S' → GNs n0 m' kd' pl' S' → VT n0 kd' pl' m' → X 1 30 (mL_numbers sc) Q 40 [(6, .int (nI ((t + 1)))), (5, .int (nI ((iB (TG n0 kd' pl' m'))))), (4, .int (nI want)), (0, .ref 201), (1, .int (nI 10)), (2, .int (nI 4)), (3, .ref 83)] [] S') {q x : Nat} (hx : x < 268435456) (hq : q ≤ 5) (hqb : bagK q → iB (TG n0 kd pl m) < 2) {a : Nat} (ha : a < n0 ∨ a = 4)  : X 1 30 (mL_numbers sc) (Q) 128 [(6, .int (nI t)), (5, .int (nI ((iB (TG n0 kd pl m))))), (4, .int (nI want)), (0, .ref 201), (1, .int (nI 10)), (2, .int (nI 4)), (3, .ref 83), (8, .int (nI q))] [.int (nI a)] S1 := by
  have hwq := wt_le q
  refine x_istore (lv' := [(9, _), (6, _), (5, _), (4, _), (0, _), (1, _), (2, _), (3, _), (8, _)]) dL_numbers_128 (lt_ok rfl) rfl ?_
  refine x_iload 8 dL_numbers_130 rfl ?_
  refine x_callSu (as := [_]) (rest := []) sL_24 (c_L_counts (k := q) (by omega)) dL_numbers_132 rfl rfl (Nat.le_of_ble_eq_true rfl) (Nat.le_of_ble_eq_true rfl) (Nat.le_of_ble_eq_true rfl) ?_
  refine x_istore (lv' := [(10, _), (9, _), (6, _), (5, _), (4, _), (0, _), (1, _), (2, _), (3, _), (8, _)]) dL_numbers_135 (lt_ok rfl) rfl ?_
  refine x_iconst (v := nI 0) dL_numbers_137 (by decide) ?_
  refine x_istore (lv' := [(11, _), (10, _), (9, _), (6, _), (5, _), (4, _), (0, _), (1, _), (2, _), (3, _), (8, _)]) dL_numbers_138 (lt_ok rfl) rfl ?_
  refine x_pick (lv' := [(6, _), (5, _), (4, _), (0, _), (1, _), (2, _), (3, _), (8, _), (9, _), (10, _), (11, _)]) [3, 4, 5, 6, 7, 8, 9, 10, 2, 1, 0] rfl ?_
  exact num_D1 hsc h1 h4 hw ht hmt hf hg hv H hx hq hqb ha 0 (Nat.zero_le _)

set_option maxHeartbeats 4000000 in
set_option maxRecDepth 100000 in
theorem num_C {S : St} {sc : Sc} (hsc : sc.1 ≤ 260) {n0 : Nat} (h1 : 1 ≤ n0) (h4 : n0 ≤ 4) {want : Nat} (hw : want ≤ 4) {t m : Nat} {kd pl : Nat → Nat} {S1 : St} (ht : t < want) (hmt : m ≤ t) (hf : Fr F83 S S1) (hg : GNs n0 m kd pl S1) (hv : VT n0 kd pl m) {Q : Option Value → St → Prop} (H : ∀ (m' : Nat) (kd' pl' : Nat → Nat) (S' : St), m' ≤ t + 1 → Fr F83 S S' → GNs n0 m' kd' pl' S' → VT n0 kd' pl' m' → X 1 30 (mL_numbers sc) Q 40 [(6, .int (nI ((t + 1)))), (5, .int (nI ((iB (TG n0 kd' pl' m'))))), (4, .int (nI want)), (0, .ref 201), (1, .int (nI 10)), (2, .int (nI 4)), (3, .ref 83)] [] S') {q x : Nat} (hx : x < 268435456) (hq : q ≤ 5) (hqb : bagK q → iB (TG n0 kd pl m) < 2)  : X 1 30 (mL_numbers sc) (Q) 99 [(6, .int (nI t)), (5, .int (nI ((iB (TG n0 kd pl m))))), (4, .int (nI want)), (0, .ref 201), (1, .int (nI 10)), (2, .int (nI 4)), (3, .ref 83), (7, .int (nI x))] [.int (nI q)] S1 := by
  have hmod : x / 8 % (n0 + 1) < n0 + 1 := Nat.mod_lt _ (by omega)
  refine x_istore (lv' := [(8, _), (6, _), (5, _), (4, _), (0, _), (1, _), (2, _), (3, _), (7, _)]) dL_numbers_99 (lt_ok rfl) rfl ?_
  refine x_iload 8 dL_numbers_101 rfl ?_
  refine x_bipush (v := nI 8) dL_numbers_103 (by decide) ?_
  refine y_idiv dL_numbers_105 (by omega) (by omega) (by omega) ?_
  refine x_aload_n 7 dL_numbers_106 rfl rfl ?_
  refine x_iconst (v := nI 0) dL_numbers_107 (by decide) ?_
  refine y_iald dL_numbers_108 l83 (by omega) (by decide) hg.1 ?_
  refine x_iconst (v := nI 1) dL_numbers_109 (by decide) ?_
  refine y_iadd dL_numbers_110 ?_
  refine y_irem dL_numbers_111 (by omega) (by omega) (by omega) ?_
  refine x_istore (lv' := [(9, _), (8, _), (6, _), (5, _), (4, _), (0, _), (1, _), (2, _), (3, _), (7, _)]) dL_numbers_112 (lt_ok rfl) rfl ?_
  refine x_iload 0 dL_numbers_114 rfl ?_
  refine x_aload_n 8 dL_numbers_116 rfl rfl ?_
  refine x_iconst (v := nI 0) dL_numbers_117 (by decide) ?_
  refine y_iald dL_numbers_118 l83 (by omega) (by decide) hg.1 ?_
  refine y_ic_ne 126 dL_numbers_119 (by decide) (by omega) (by omega) (fun c_119 => ?_) (fun c_119 => ?_)
  · refine x_iload 0 dL_numbers_126 rfl ?_
    refine x_pick (lv' := [(6, _), (5, _), (4, _), (0, _), (1, _), (2, _), (3, _), (8, _)]) [2, 3, 4, 5, 6, 7, 8, 1] rfl ?_
    exact num_D hsc h1 h4 hw ht hmt hf hg hv H hx hq hqb (by omega)
  · refine x_iconst (v := nI 4) dL_numbers_122 (by decide) ?_
    refine x_goto 128 dL_numbers_123 (by decide) ?_
    refine x_pick (lv' := [(6, _), (5, _), (4, _), (0, _), (1, _), (2, _), (3, _), (8, _)]) [2, 3, 4, 5, 6, 7, 8, 1] rfl ?_
    exact num_D hsc h1 h4 hw ht hmt hf hg hv H hx hq hqb (by omega)

set_option maxHeartbeats 4000000 in
set_option maxRecDepth 100000 in
theorem num_B {S : St} {sc : Sc} (hsc : sc.1 ≤ 260) {n0 : Nat} (h1 : 1 ≤ n0) (h4 : n0 ≤ 4) {want : Nat} (hw : want ≤ 4) {t m : Nat} {kd pl : Nat → Nat} {S1 : St} (ht : t < want) (hmt : m ≤ t) (hf : Fr F83 S S1) (hg : GNs n0 m kd pl S1) (hv : VT n0 kd pl m) {Q : Option Value → St → Prop} (H : ∀ (m' : Nat) (kd' pl' : Nat → Nat) (S' : St), m' ≤ t + 1 → Fr F83 S S' → GNs n0 m' kd' pl' S' → VT n0 kd' pl' m' → X 1 30 (mL_numbers sc) Q 40 [(6, .int (nI ((t + 1)))), (5, .int (nI ((iB (TG n0 kd' pl' m'))))), (4, .int (nI want)), (0, .ref 201), (1, .int (nI 10)), (2, .int (nI 4)), (3, .ref 83)] [] S') {q x : Nat} (hx : x < 268435456) (hq : q ≤ 5)  : X 1 30 (mL_numbers sc) (Q) 77 [(6, .int (nI t)), (5, .int (nI ((iB (TG n0 kd pl m))))), (4, .int (nI want)), (0, .ref 201), (1, .int (nI 10)), (2, .int (nI 4)), (3, .ref 83), (7, .int (nI x))] [.int (nI q)] S1 := by
  have hb2 := hv.b2 h4 (by omega)
  refine x_istore (lv' := [(8, _), (6, _), (5, _), (4, _), (0, _), (1, _), (2, _), (3, _), (7, _)]) dL_numbers_77 (lt_ok rfl) rfl ?_
  refine x_iload 0 dL_numbers_79 rfl ?_
  refine x_callSb (as := [_]) (rest := []) sL_20 (c_L_bag (k := q) (by omega)) dL_numbers_81 rfl rfl (Nat.le_of_ble_eq_true rfl) (Nat.le_of_ble_eq_true rfl) (Nat.le_of_ble_eq_true rfl) (fun c_81 => ?_) (fun c_81 => ?_)
  · refine u_if_eq 97 dL_numbers_84 (by decide) (by decide) ?_
    refine x_iload 2 dL_numbers_87 rfl ?_
    refine x_iconst (v := nI 2) dL_numbers_89 (by decide) ?_
    refine y_ic_ne 97 dL_numbers_90 (by decide) (by omega) (by omega) (fun c_90 => ?_) (fun c_90 => ?_)
    · refine x_iload 0 dL_numbers_97 rfl ?_
      refine x_pick (lv' := [(6, _), (5, _), (4, _), (0, _), (1, _), (2, _), (3, _), (7, _)]) [1, 2, 3, 4, 5, 6, 7, 8] rfl ?_
      exact num_C hsc h1 h4 hw ht hmt hf hg hv H hx (by omega) (fun z => by first | omega | (unfold bagK at z; omega) | exact absurd z c_81)
    · refine x_iconst (v := nI 0) dL_numbers_93 (by decide) ?_
      refine x_goto 99 dL_numbers_94 (by decide) ?_
      refine x_pick (lv' := [(6, _), (5, _), (4, _), (0, _), (1, _), (2, _), (3, _), (7, _)]) [1, 2, 3, 4, 5, 6, 7, 8] rfl ?_
      exact num_C hsc h1 h4 hw ht hmt hf hg hv H hx (by omega) (fun z => by first | omega | (unfold bagK at z; omega) | exact absurd z c_81)
  · refine t_if_eq 97 dL_numbers_84 (by decide) (by decide) ?_
    refine x_iload 0 dL_numbers_97 rfl ?_
    refine x_pick (lv' := [(6, _), (5, _), (4, _), (0, _), (1, _), (2, _), (3, _), (7, _)]) [1, 2, 3, 4, 5, 6, 7, 8] rfl ?_
    exact num_C hsc h1 h4 hw ht hmt hf hg hv H hx (by omega) (fun z => by first | omega | (unfold bagK at z; omega) | exact absurd z c_81)

set_option maxHeartbeats 4000000 in
set_option maxRecDepth 100000 in
theorem num_A {S : St} {sc : Sc} (hsc : sc.1 ≤ 260) {n0 : Nat} (h1 : 1 ≤ n0) (h4 : n0 ≤ 4) {want : Nat} (hw : want ≤ 4) {Q : Option Value → St → Prop} (K : ∀ (m : Nat) (kd pl : Nat → Nat) (S1 : St), m ≤ 4 → Fr F83 S S1 → GNs n0 m kd pl S1 → VT n0 kd pl m → X 1 30 (mL_numbers sc) Q 260 [(0, .ref 201), (1, .int (nI 10)), (2, .int (nI 4)), (3, .ref 83)] [] S1)  : ∀ (t : Nat) (m : Nat) (kd : Nat → Nat) (pl : Nat → Nat) (S1 : St), (t ≤ want) → (m ≤ t) → (Fr F83 S S1) → (GNs n0 m kd pl S1) → (VT n0 kd pl m) → X 1 30 (mL_numbers sc) (Q) 40 [(6, .int (nI t)), (5, .int (nI ((iB (TG n0 kd pl m))))), (4, .int (nI want)), (0, .ref 201), (1, .int (nI 10)), (2, .int (nI 4)), (3, .ref 83)] [] S1 := by
  intro t m kd pl S1
  induction hm : want - t using Nat.strongRecOn generalizing t m kd pl S1 with
  | _ mm ih =>
    intro ht hmt hf hg hv
    have hc := cel_lt (sc := sc) (k := 10 + 2 + t) (by omega)
    refine x_iload 0 dL_numbers_40 rfl ?_
    refine x_iload 2 dL_numbers_42 rfl ?_
    refine y_ic_ge 260 dL_numbers_44 (by decide) (by omega) (by omega) (fun c_44 => ?_) (fun c_44 => ?_)
    · refine x_pick (lv' := [(0, _), (1, _), (2, _), (3, _)]) [3, 4, 5, 6] rfl ?_
      exact K m kd pl S1 (by omega) hf hg hv
    · refine x_aload_n 3 dL_numbers_47 rfl rfl ?_
      refine x_iload_n 4 dL_numbers_48 rfl rfl ?_
      refine x_iconst (v := nI 2) dL_numbers_49 (by decide) ?_
      refine y_iadd dL_numbers_50 ?_
      refine x_iload 0 dL_numbers_51 rfl ?_
      refine y_iadd dL_numbers_53 ?_
      refine x_callSu (as := [_, _]) (rest := []) sL_14 (c_L_cell hsc (k := 10 + 2 + t) (by omega)) dL_numbers_54 rfl rfl (Nat.le_of_ble_eq_true rfl) (Nat.le_of_ble_eq_true rfl) (Nat.le_of_ble_eq_true rfl) ?_
      refine x_istore (lv' := [(7, _), (6, _), (5, _), (4, _), (0, _), (1, _), (2, _), (3, _)]) dL_numbers_57 (lt_ok rfl) rfl ?_
      refine x_iload 0 dL_numbers_59 rfl ?_
      refine x_bipush (v := nI 8) dL_numbers_61 (by decide) ?_
      refine y_irem dL_numbers_63 (by omega) (by omega) (by omega) ?_
      refine x_iconst (v := nI 5) dL_numbers_64 (by decide) ?_
      refine y_ic_le 72 dL_numbers_65 (by decide) (by omega) (by omega) (fun c_65 => ?_) (fun c_65 => ?_)
      · refine x_iload 0 dL_numbers_72 rfl ?_
        refine x_bipush (v := nI 8) dL_numbers_74 (by decide) ?_
        refine y_irem dL_numbers_76 (by omega) (by omega) (by omega) ?_
        refine x_pick (lv' := [(6, _), (5, _), (4, _), (0, _), (1, _), (2, _), (3, _), (7, _)]) [1, 2, 3, 4, 5, 6, 7, 0] rfl ?_
        exact num_B hsc h1 h4 hw (by omega) hmt hf hg hv (fun m' kd' pl' S' a1 a2 a3 a4 => ih (want - (t + 1)) (by omega) (t + 1) m' kd' pl' S' rfl (by omega) a1 a2 a3 a4) hc (by omega)
      · refine x_iconst (v := nI 0) dL_numbers_68 (by decide) ?_
        refine x_goto 77 dL_numbers_69 (by decide) ?_
        refine x_pick (lv' := [(6, _), (5, _), (4, _), (0, _), (1, _), (2, _), (3, _), (7, _)]) [1, 2, 3, 4, 5, 6, 7, 0] rfl ?_
        exact num_B hsc h1 h4 hw (by omega) hmt hf hg hv (fun m' kd' pl' S' a1 a2 a3 a4 => ih (want - (t + 1)) (by omega) (t + 1) m' kd' pl' S' rfl (by omega) a1 a2 a3 a4) hc (by omega)

def NUM (n0 m : Nat) (kd pl : Nat → Nat) (k : Nat) (V : Nat → Nat → Nat) (S : St) : Prop := GNs n0 m kd pl S ∧ S.1 83 12 = nI k ∧ ∀ w, w < k → ∀ j, j < 4 → S.1 83 (13 + 4 * w + j) = nI (V w j)
def NUMP (S : St) : Prop := ∃ (n0 m : Nat) (kd pl : Nat → Nat) (k : Nat) (V : Nat → Nat → Nat), (1 ≤ n0 ∧ n0 ≤ 4) ∧ m ≤ 4 ∧ k ≤ 6 ∧ VT n0 kd pl m ∧ VW n0 m V k ∧ NUM n0 m kd pl k V S
/-- the numbers of one more work -/
def wkV (V : Nat → Nat → Nat) (w a b c d : Nat) : Nat → Nat → Nat := fun w' j => if w' = w then (if j = 0 then a else if j = 1 then b else if j = 2 then c else d) else V w' j
theorem VW_add {n0 m w a b c d : Nat} {V : Nat → Nat → Nat} (h : VW n0 m V w) (h1 : a < 6) (h2 : b < n0) (h3 : c < 2 ^ m) (h4 : 0 < c) (h5 : 1 ≤ d) (h6 : d ≤ 9) : VW n0 m (wkV V w a b c d) (w + 1) := fun u hu => by
  unfold wkV
  by_cases e : u = w
  · rw [if_pos e, if_pos e, if_pos e, if_pos e]
    exact ⟨h1, h2, h3, h4, h5, h6⟩
  · rw [if_neg e, if_neg e, if_neg e, if_neg e]
    exact h u (by omega)
def wkS (S : St) (w a b c d : Nat) : St := setI (setI (setI (setI S 83 (13 + 4 * w) (nI a)) 83 (14 + 4 * w) (nI b)) 83 (15 + 4 * w) (nI c)) 83 (16 + 4 * w) (nI d)
theorem wkS_o {S : St} {w a b c d j : Nat} (h : j < 13) : (wkS S w a b c d).1 83 j = S.1 83 j := by
  unfold wkS
  rw [rdI_j (by omega), rdI_j (by omega), rdI_j (by omega), rdI_j (by omega)]
theorem wkS_add {w a b c d : Nat} {V : Nat → Nat → Nat} {S : St} (h : ∀ u, u < w → ∀ j, j < 4 → S.1 83 (13 + 4 * u + j) = nI (V u j)) : ∀ u, u < w + 1 → ∀ j, j < 4 → (wkS S w a b c d).1 83 (13 + 4 * u + j) = nI (wkV V w a b c d u j) := fun u hu j hj => by
  unfold wkS wkV
  by_cases e : u = w
  · subst e
    rw [if_pos rfl]
    rcases (show j = 0 ∨ j = 1 ∨ j = 2 ∨ j = 3 by omega) with rfl | rfl | rfl | rfl
    · rw [rdI_j (by omega), rdI_j (by omega), rdI_j (by omega), if_pos rfl, Nat.add_zero, rdI_eq]
    · rw [rdI_j (by omega), rdI_j (by omega), show 13 + 4 * u + 1 = 14 + 4 * u by omega, rdI_eq]; rfl
    · rw [rdI_j (by omega), show 13 + 4 * u + 2 = 15 + 4 * u by omega, rdI_eq]; rfl
    · rw [show 13 + 4 * u + 3 = 16 + 4 * u by omega, rdI_eq]; rfl
  · rw [if_neg e, rdI_j (by omega), rdI_j (by omega), rdI_j (by omega), rdI_j (by omega)]
    exact h u (by omega) j hj

set_option maxHeartbeats 4000000 in
set_option maxRecDepth 100000 in
theorem num_W {S : St} {sc : Sc} (hsc : sc.1 ≤ 260) {n0 m k : Nat} {kd pl : Nat → Nat} (h1 : 1 ≤ n0) (h4 : n0 ≤ 4) (hm4 : m ≤ 4) (hk : k ≤ 6) (hkm : 0 < k → 0 < m) (hv : VT n0 kd pl m)  : ∀ (w : Nat) (V : Nat → Nat → Nat) (S1 : St), (w ≤ k) → (Fr F83 S S1) → (GNs n0 m kd pl S1) → (S1.1 83 12 = nI k) → (VW n0 m V w) → (∀ u, u < w → ∀ j, j < 4 → S1.1 83 (13 + 4 * u + j) = nI (V u j)) → X 1 30 (mL_numbers sc) (qv (fun S' => Fr F83 S S' ∧ NUMP S')) 288 [(6, .int (nI w)), (0, .ref 201), (1, .int (nI 10)), (2, .int (nI 4)), (3, .ref 83)] [] S1 := by
  intro w V S1
  induction hm : k - w using Nat.strongRecOn generalizing w V S1 with
  | _ mm ih =>
    intro hw hf hg h12 hV hc
    have hcl := cel_lt (sc := sc) (k := 10 + 9 + w) (by omega)
    have hp16 : 2 ^ m ≤ 2 ^ 4 := Nat.pow_le_pow_right (by decide) hm4
    have hp1 : 1 ≤ 2 ^ m := Nat.two_pow_pos m
    have hp2 : w < k → 2 ≤ 2 ^ m := fun q => by
      have := Nat.pow_le_pow_right (n := 2) (by decide) (show 1 ≤ m from hkm (by omega))
      omega
    have hr1 : w < k → celF sc (10 + 9 + w) / 64 % (1 * 2 ^ m - 1) < 1 * 2 ^ m - 1 := fun q => Nat.mod_lt _ (by have := hp2 q; omega)
    have hr2 : celF sc (10 + 9 + w) / 8 % n0 < n0 := Nat.mod_lt _ (by omega)
    refine x_iload 0 dL_numbers_288 rfl ?_
    refine x_aload_n 4 dL_numbers_290 rfl rfl ?_
    refine x_bipush (v := nI 12) dL_numbers_291 (by decide) ?_
    refine y_iald dL_numbers_293 l83 (by omega) (by decide) h12 ?_
    refine y_ic_ge 392 dL_numbers_294 (by decide) (by omega) (by omega) (fun c_294 => ?_) (fun c_294 => ?_)
    · refine x_vret rfl dL_numbers_392 (by obtain rfl : w = k := (by omega); exact ⟨rfl, hf, n0, m, kd, pl, w, V, ⟨h1, h4⟩, hm4, hk, hv, hV, hg, h12, hc⟩)
    · refine x_aload_n 1 dL_numbers_297 rfl rfl ?_
      refine x_iload_n 2 dL_numbers_298 rfl rfl ?_
      refine x_bipush (v := nI 9) dL_numbers_299 (by decide) ?_
      refine y_iadd dL_numbers_301 ?_
      refine x_iload 0 dL_numbers_302 rfl ?_
      refine y_iadd dL_numbers_304 ?_
      refine x_callSu (as := [_, _]) (rest := []) sL_14 (c_L_cell hsc (k := 10 + 9 + w) (by omega)) dL_numbers_305 rfl rfl (Nat.le_of_ble_eq_true rfl) (Nat.le_of_ble_eq_true rfl) (Nat.le_of_ble_eq_true rfl) ?_
      refine x_istore (lv' := [(7, _), (6, _), (0, _), (1, _), (2, _), (3, _)]) dL_numbers_308 (lt_ok rfl) rfl ?_
      refine x_aload_n 5 dL_numbers_310 rfl rfl ?_
      refine x_bipush (v := nI 13) dL_numbers_311 (by decide) ?_
      refine x_iconst (v := nI 4) dL_numbers_313 (by decide) ?_
      refine x_iload 1 dL_numbers_314 rfl ?_
      refine y_imul dL_numbers_316 ?_
      refine y_iadd dL_numbers_317 ?_
      refine x_iload 0 dL_numbers_318 rfl ?_
      refine x_bipush (v := nI 6) dL_numbers_320 (by decide) ?_
      refine y_irem dL_numbers_322 (by omega) (by omega) (by omega) ?_
      refine y_iast dL_numbers_323 l83 (by omega) (by decide) ?_
      refine x_aload_n 5 dL_numbers_324 rfl rfl ?_
      refine x_bipush (v := nI 14) dL_numbers_325 (by decide) ?_
      refine x_iconst (v := nI 4) dL_numbers_327 (by decide) ?_
      refine x_iload 1 dL_numbers_328 rfl ?_
      refine y_imul dL_numbers_330 ?_
      refine y_iadd dL_numbers_331 ?_
      refine x_iload 0 dL_numbers_332 rfl ?_
      refine x_bipush (v := nI 8) dL_numbers_334 (by decide) ?_
      refine y_idiv dL_numbers_336 (by omega) (by omega) (by omega) ?_
      refine x_aload_n 5 dL_numbers_337 rfl rfl ?_
      refine x_iconst (v := nI 0) dL_numbers_338 (by decide) ?_
      refine y_iald dL_numbers_339 l83 (by omega) (by decide) (((rdI_j (by omega))).trans hg.1) ?_
      refine y_irem dL_numbers_340 (by omega) (by omega) (by omega) ?_
      refine y_iast dL_numbers_341 l83 (by omega) (by decide) ?_
      refine x_aload_n 5 dL_numbers_342 rfl rfl ?_
      refine x_bipush (v := nI 15) dL_numbers_343 (by decide) ?_
      refine x_iconst (v := nI 4) dL_numbers_345 (by decide) ?_
      refine x_iload 1 dL_numbers_346 rfl ?_
      refine y_imul dL_numbers_348 ?_
      refine y_iadd dL_numbers_349 ?_
      refine x_iconst (v := nI 1) dL_numbers_350 (by decide) ?_
      refine x_iload 0 dL_numbers_351 rfl ?_
      refine x_bipush (v := nI 64) dL_numbers_353 (by decide) ?_
      refine y_idiv dL_numbers_355 (by omega) (by omega) (by omega) ?_
      refine x_iconst (v := nI 1) dL_numbers_356 (by decide) ?_
      refine x_aload_n 5 dL_numbers_357 rfl rfl ?_
      refine x_iconst (v := nI 1) dL_numbers_358 (by decide) ?_
      refine y_iald dL_numbers_359 l83 (by omega) (by decide) ((((rdI_j (by omega))).trans (rdI_j (by omega))).trans hg.2.1) ?_
      refine y_ishl dL_numbers_360 (by omega) ?_
      refine x_iconst (v := nI 1) dL_numbers_361 (by decide) ?_
      refine y_isub dL_numbers_362 (by omega) ?_
      refine y_irem dL_numbers_363 (by omega) (by omega) (by have := hp2 (by omega); omega) ?_
      refine y_iadd dL_numbers_364 ?_
      refine y_iast dL_numbers_365 l83 (by omega) (by decide) ?_
      refine x_aload_n 5 dL_numbers_366 rfl rfl ?_
      refine x_bipush (v := nI 16) dL_numbers_367 (by decide) ?_
      refine x_iconst (v := nI 4) dL_numbers_369 (by decide) ?_
      refine x_iload 1 dL_numbers_370 rfl ?_
      refine y_imul dL_numbers_372 ?_
      refine y_iadd dL_numbers_373 ?_
      refine x_iconst (v := nI 1) dL_numbers_374 (by decide) ?_
      refine x_iload 0 dL_numbers_375 rfl ?_
      refine x_sipush (v := nI 4096) dL_numbers_377 (by decide +kernel) ?_
      refine y_idiv dL_numbers_380 (by omega) (by omega) (by omega) ?_
      refine x_bipush (v := nI 9) dL_numbers_381 (by decide) ?_
      refine y_irem dL_numbers_383 (by omega) (by omega) (by omega) ?_
      refine y_iadd dL_numbers_384 ?_
      refine y_iast dL_numbers_385 l83 (by omega) (by decide) ?_
      refine y_iinc (lv' := [(6, _), (7, _), (0, _), (1, _), (2, _), (3, _)]) 1 dL_numbers_386 rfl (lt_ok rfl) rfl ?_
      refine x_goto 288 dL_numbers_389 (by decide) ?_
      refine x_pick (lv' := [(6, _), (0, _), (1, _), (2, _), (3, _)]) [0, 2, 3, 4, 5] rfl ?_
      have hwk : w < k := by omega
      have hr3 := hr1 hwk
      have hW := VW_add (w := w) (a := (celF sc ((10 + 9) + w)) % 6) (b := (celF sc ((10 + 9) + w)) / 8 % n0) (c := 1 + (celF sc ((10 + 9) + w)) / 64 % (1 * 2 ^ m - 1)) (d := 1 + (celF sc ((10 + 9) + w)) / 4096 % 9) hV (by omega) hr2 (by omega) (by omega) (by omega) (by omega)
      exact ih (k - (w + 1)) (by omega) (w + 1) _ _ rfl (by omega) (Fr83 (Fr83 (Fr83 (Fr83 hf)))) ⟨(wkS_o (by omega)).trans hg.1, (wkS_o (by omega)).trans hg.2.1, fun t ht => ⟨(wkS_o (by omega)).trans (hg.2.2 t ht).1, (wkS_o (by omega)).trans (hg.2.2 t ht).2⟩⟩ ((wkS_o (by omega)).trans h12) hW (wkS_add hc)

set_option maxHeartbeats 4000000 in
set_option maxRecDepth 100000 in
theorem num_V {S : St} {sc : Sc} (hsc : sc.1 ≤ 260) {n0 m : Nat} {kd pl : Nat → Nat} {S1 : St} (h1 : 1 ≤ n0) (h4 : n0 ≤ 4) (hm4 : m ≤ 4) (hf : Fr F83 S S1) (hg : GNs n0 m kd pl S1) (hv : VT n0 kd pl m)  : X 1 30 (mL_numbers sc) (qv (fun S' => Fr F83 S S' ∧ NUMP S')) 260 [(0, .ref 201), (1, .int (nI 10)), (2, .int (nI 4)), (3, .ref 83)] [] S1 := by
  have hcl := cel_lt (sc := sc) (k := 10 + 8) (by decide)
  have hmod : celF sc (10 + 8) % 7 < 7 := Nat.mod_lt _ (by decide)
  have hgk : ∀ z, GNs n0 m kd pl (setI S1 83 12 z) := fun z => ⟨(rdI_j (by omega)).trans hg.1, (rdI_j (by omega)).trans hg.2.1, fun t ht => ⟨(rdI_j (by omega)).trans (hg.2.2 t ht).1, (rdI_j (by omega)).trans (hg.2.2 t ht).2⟩⟩
  refine x_aload_n 3 dL_numbers_260 rfl rfl ?_
  refine x_bipush (v := nI 12) dL_numbers_261 (by decide) ?_
  refine x_aload_n 3 dL_numbers_263 rfl rfl ?_
  refine x_iconst (v := nI 1) dL_numbers_264 (by decide) ?_
  refine y_iald dL_numbers_265 l83 (by omega) (by decide) hg.2.1 ?_
  refine y_if_ne 273 dL_numbers_266 (by decide) (by omega) (fun c_266 => ?_) (fun c_266 => ?_)
  · refine x_aload_n 0 dL_numbers_273 rfl rfl ?_
    refine x_iload_n 1 dL_numbers_274 rfl rfl ?_
    refine x_bipush (v := nI 8) dL_numbers_275 (by decide) ?_
    refine y_iadd dL_numbers_277 ?_
    refine x_callSu (as := [_, _]) (rest := [_, _]) sL_14 (c_L_cell hsc (k := 10 + 8) (by decide)) dL_numbers_278 rfl rfl (Nat.le_of_ble_eq_true rfl) (Nat.le_of_ble_eq_true rfl) (Nat.le_of_ble_eq_true rfl) ?_
    refine x_bipush (v := nI 7) dL_numbers_281 (by decide) ?_
    refine y_irem dL_numbers_283 (by omega) (by omega) (by omega) ?_
    refine y_iast dL_numbers_284 l83 (by omega) (by decide) ?_
    refine x_iconst (v := nI 0) dL_numbers_285 (by decide) ?_
    refine x_istore (lv' := [(6, _), (0, _), (1, _), (2, _), (3, _)]) dL_numbers_286 (lt_ok rfl) rfl ?_
    refine x_pick (lv' := [(6, _), (0, _), (1, _), (2, _), (3, _)]) [0, 1, 2, 3, 4] rfl ?_
    exact num_W hsc h1 h4 hm4 (by omega) (fun z => by omega) hv 0 (fun _ _ => 0) _ (Nat.zero_le _) (Fr83 hf) (hgk _) rdI_eq (fun u hu => absurd hu (Nat.not_lt_zero u)) (fun u hu => absurd hu (Nat.not_lt_zero u))
  · refine x_iconst (v := nI 0) dL_numbers_269 (by decide) ?_
    refine x_goto 284 dL_numbers_270 (by decide) ?_
    refine y_iast dL_numbers_284 l83 (by omega) (by decide) ?_
    refine x_iconst (v := nI 0) dL_numbers_285 (by decide) ?_
    refine x_istore (lv' := [(6, _), (0, _), (1, _), (2, _), (3, _)]) dL_numbers_286 (lt_ok rfl) rfl ?_
    refine x_pick (lv' := [(6, _), (0, _), (1, _), (2, _), (3, _)]) [0, 1, 2, 3, 4] rfl ?_
    exact num_W hsc h1 h4 hm4 (by omega) (fun z => by omega) hv 0 (fun _ _ => 0) _ (Nat.zero_le _) (Fr83 hf) (hgk _) rdI_eq (fun u hu => absurd hu (Nat.not_lt_zero u)) (fun u hu => absurd hu (Nat.not_lt_zero u))

set_option maxHeartbeats 4000000 in
set_option maxRecDepth 100000 in
theorem c_L_numbers {S : St} {sc : Sc} (hsc : sc.1 ≤ 260) : C 1 30 yL_numbers (mL_numbers sc) [.ref 201, .int (nI 10), .int (nI 4), .ref 83] S (qv (fun S' => Fr F83 S S' ∧ NUMP S')) := by
  have hc1 := cel_lt (sc := sc) (k := 10) (by decide)
  have hc2 := cel_lt (sc := sc) (k := 10 + 1) (by decide)
  refine C.ofX (by decide) rfl (Nat.le_of_ble_eq_true rfl) ?_
  show X 1 30 (mL_numbers sc) (qv (fun S' => Fr F83 S S' ∧ NUMP S')) 0 [(0, .ref 201), (1, .int (nI 10)), (2, .int (nI 4)), (3, .ref 83)] [] S
  refine x_aload_n 3 dL_numbers_0 rfl rfl ?_
  refine x_iconst (v := nI 0) dL_numbers_1 (by decide) ?_
  refine x_iconst (v := nI 1) dL_numbers_2 (by decide) ?_
  refine x_aload_n 0 dL_numbers_3 rfl rfl ?_
  refine x_iload_n 1 dL_numbers_4 rfl rfl ?_
  refine x_callSu (as := [_, _]) (rest := [_, _, _]) sL_14 (c_L_cell hsc (k := 10) (by decide)) dL_numbers_5 rfl rfl (Nat.le_of_ble_eq_true rfl) (Nat.le_of_ble_eq_true rfl) (Nat.le_of_ble_eq_true rfl) ?_
  refine x_iconst (v := nI 4) dL_numbers_8 (by decide) ?_
  refine y_irem dL_numbers_9 (by omega) (by omega) (by omega) ?_
  refine y_iadd dL_numbers_10 ?_
  refine y_iast dL_numbers_11 l83 (by omega) (by decide) ?_
  refine x_aload_n 3 dL_numbers_12 rfl rfl ?_
  refine x_iconst (v := nI 1) dL_numbers_13 (by decide) ?_
  refine x_iconst (v := nI 0) dL_numbers_14 (by decide) ?_
  refine y_iast dL_numbers_15 l83 (by omega) (by decide) ?_
  refine x_aload_n 3 dL_numbers_16 rfl rfl ?_
  refine x_bipush (v := nI 50) dL_numbers_17 (by decide) ?_
  refine x_iconst (v := nI 3) dL_numbers_19 (by decide) ?_
  refine y_iast dL_numbers_20 l83 (by omega) (by decide) ?_
  refine x_iconst (v := nI 1) dL_numbers_21 (by decide) ?_
  refine x_aload_n 0 dL_numbers_22 rfl rfl ?_
  refine x_iload_n 1 dL_numbers_23 rfl rfl ?_
  refine x_iconst (v := nI 1) dL_numbers_24 (by decide) ?_
  refine y_iadd dL_numbers_25 ?_
  refine x_callSu (as := [_, _]) (rest := [_]) sL_14 (c_L_cell hsc (k := 10 + 1) (by decide)) dL_numbers_26 rfl rfl (Nat.le_of_ble_eq_true rfl) (Nat.le_of_ble_eq_true rfl) (Nat.le_of_ble_eq_true rfl) ?_
  refine x_iload_n 2 dL_numbers_29 rfl rfl ?_
  refine y_irem dL_numbers_30 (by omega) (by omega) (by omega) ?_
  refine y_iadd dL_numbers_31 ?_
  refine x_istore (lv' := [(4, _), (0, _), (1, _), (2, _), (3, _)]) dL_numbers_32 (lt_ok rfl) rfl ?_
  refine x_iconst (v := nI 0) dL_numbers_34 (by decide) ?_
  refine x_istore (lv' := [(5, _), (4, _), (0, _), (1, _), (2, _), (3, _)]) dL_numbers_35 (lt_ok rfl) rfl ?_
  refine x_iconst (v := nI 0) dL_numbers_37 (by decide) ?_
  refine x_istore (lv' := [(6, _), (5, _), (4, _), (0, _), (1, _), (2, _), (3, _)]) dL_numbers_38 (lt_ok rfl) rfl ?_
  refine x_pick (lv' := [(6, _), (5, _), (4, _), (0, _), (1, _), (2, _), (3, _)]) [0, 1, 2, 3, 4, 5, 6] rfl ?_
  exact num_A hsc (n0 := 1 + celF sc 10 % 4) (by omega) (by omega) (by omega) (fun m kd pl S1 a1 a2 a3 a4 => num_V hsc (by omega) (by omega) a1 a2 a3 a4) 0 0 (fun _ => 0) (fun _ => 0) _ (Nat.zero_le _) (Nat.zero_le _) (Fr83 (Fr83 (Fr83 Fr.refl))) ⟨(rdI_j (by decide)).trans ((rdI_j (by decide)).trans rdI_eq), (rdI_j (by decide)).trans rdI_eq, fun t ht => absurd ht (Nat.not_lt_zero t)⟩ (fun u hu => absurd hu (Nat.not_lt_zero u))
