/-! ===== law: the walk ===== -/
set_option maxHeartbeats 4000000 in
set_option maxRecDepth 100000 in
theorem lw_M {sc : Sc} (hsc : sc.1 ≤ 260) {I : Isl} (hO : IOK I) (h4 : iM I ≤ 4) (h1 : 1 ≤ iP I) {Q : Option Value → St → Prop} {turn d : Nat} {w : Nat → Nat} {S1 : St} (hb : LB I w d S1) (H : X 10 388 (mL_law sc) Q 127 [(8, .int (fb (mayB I w 3) (7 * iM I))), (7, .int (nI ((cb (mayB I w 3) (7 * iM I))))), (6, .int (nI turn)), (5, .int (nI 3)), (4, .int (nI ((iM I)))), (3, .int (nI ((iP I)))), (2, .ref 83), (1, .ref 0), (0, .ref 201)] [] S1)  : ∀ (k : Nat), (k ≤ (7 * iM I)) → X 10 388 (mL_law sc) (Q) 69 [(9, .int (vI k)), (8, .int (frD (mayB I w 3) (7 * iM I) ((7 * iM I) - k))), (7, .int (nI ((cb (mayB I w 3) (7 * iM I) - cb (mayB I w 3) k)))), (6, .int (nI turn)), (5, .int (nI 3)), (4, .int (nI ((iM I)))), (3, .int (nI ((iP I)))), (2, .ref 83), (1, .ref 0), (0, .ref 201)] [] S1 := by
  intro k
  induction hm : k + 1 using Nat.strongRecOn generalizing k with
  | _ mm ih =>
    intro hk
    have hO1 := hO.1
    have hO2 := hO.2.1
    have hvk := vI_i (n := k) (by omega)
    have hcb := cb_le (b := mayB I w 3) (7 * iM I)
    refine x_iload 0 dL_law_69 rfl ?_
    refine x_if_lt 127 dL_law_71 (by decide) (fun c_71 => ?_) (fun c_71 => ?_)
    · refine x_pick (lv' := [(8, _), (7, _), (6, _), (5, _), (4, _), (3, _), (2, _), (1, _), (0, _)]) [1, 2, 3, 4, 5, 6, 7, 8, 9] rfl ?_
      obtain rfl : k = 0 := by omega
      rw [fr_all (by omega), show cb (mayB I w 3) (7 * iM I) - cb (mayB I w 3) 0 = cb (mayB I w 3) (7 * iM I) from Nat.sub_zero _]
      exact H
    · obtain ⟨s, rfl⟩ : ∃ s, k = s + 1 := ⟨k - 1, by omega⟩
      rw [show ((9, Value.int (vI (s + 1))) : Nat × Value) = (9, Value.int (nI s)) from by rw [vI_p]]
      refine x_aload_n 8 dL_law_74 rfl rfl ?_
      refine x_iload 0 dL_law_75 rfl ?_
      refine x_bipush (v := nI 7) dL_law_77 (by decide) ?_
      refine y_idiv dL_law_79 (by omega) (by omega) (by omega) ?_
      refine x_iload 0 dL_law_80 rfl ?_
      refine x_bipush (v := nI 7) dL_law_82 (by decide) ?_
      refine y_irem dL_law_84 (by omega) (by omega) (by omega) ?_
      refine x_callVqi (as := [_, _]) (rest := []) vL_107 (c_mayL hb hO (show s < 7 * iM I by omega)) dL_law_85 l0 rfl rfl rfl (Nat.le_of_ble_eq_true rfl) (Nat.le_of_ble_eq_true rfl) (Nat.le_of_ble_eq_true rfl) (fun r_85 S_85 q_85 => ?_)
      obtain ⟨k_85, rfl⟩ := q_85
      refine x_istore (lv' := [(10, _), (9, _), (8, _), (7, _), (6, _), (5, _), (4, _), (3, _), (2, _), (1, _), (0, _)]) dL_law_88 (lt_ok rfl) rfl ?_
      refine x_iload 3 dL_law_90 rfl ?_
      refine x_iload 0 dL_law_92 rfl ?_
      refine x_iconst (v := nI 1) dL_law_94 (by decide) ?_
      refine x_ic_ne 102 dL_law_95 (by decide) (fun c_95 => ?_) (fun c_95 => ?_)
      · refine x_iconst (v := nI 0) dL_law_102 (by decide) ?_
        refine y_iadd dL_law_103 ?_
        refine x_istore (lv' := [(7, _), (10, _), (9, _), (8, _), (6, _), (5, _), (4, _), (3, _), (2, _), (1, _), (0, _)]) dL_law_104 (lt_ok rfl) rfl ?_
        refine x_iload 1 dL_law_106 rfl ?_
        refine x_iconst (v := nI 1) dL_law_108 (by decide) ?_
        refine x_ic_ne 117 dL_law_109 (by decide) (fun c_109 => ?_) (fun c_109 => ?_)
        · refine x_iload 3 dL_law_117 rfl ?_
          refine x_istore (lv' := [(8, _), (7, _), (10, _), (9, _), (6, _), (5, _), (4, _), (3, _), (2, _), (1, _), (0, _)]) dL_law_119 (lt_ok rfl) rfl ?_
          refine x_iinc (lv' := [(9, _), (8, _), (7, _), (10, _), (6, _), (5, _), (4, _), (3, _), (2, _), (1, _), (0, _)]) 3 dL_law_121 rfl rfl (lt_ok rfl) rfl ?_
          rw [show ((9, Value.int (nI s + Int32.ofInt (-1))) : Nat × Value) = (9, Value.int (vI s)) from by rw [nI_m1]; rfl]
          refine x_goto 69 dL_law_124 (by decide) ?_
          refine x_pick (lv' := [(9, _), (8, _), (7, _), (6, _), (5, _), (4, _), (3, _), (2, _), (1, _), (0, _)]) [0, 1, 2, 4, 5, 6, 7, 8, 9, 10] rfl ?_
          first
          | exact absurd c_109 c_95
          | exact absurd c_95 c_109
          | (have hx := mayB_i.mpr (k_85.mp c_95)
             have kk := ih (s + 1) (by omega) s rfl (by omega)
             rw [fr_t hx (by omega), cs_t hx (by omega)] at kk
             exact kk)
          | (have hx : ¬ mayB I w 3 s = true := fun z => c_95 (k_85.mpr (mayB_i.mp z))
             have kk := ih (s + 1) (by omega) s rfl (by omega)
             rw [fr_f hx (by omega), cs_f hx] at kk
             exact kk)
        · refine x_iload 2 dL_law_112 rfl ?_
          refine x_goto 119 dL_law_114 (by decide) ?_
          refine x_istore (lv' := [(8, _), (7, _), (10, _), (9, _), (6, _), (5, _), (4, _), (3, _), (2, _), (1, _), (0, _)]) dL_law_119 (lt_ok rfl) rfl ?_
          refine x_iinc (lv' := [(9, _), (8, _), (7, _), (10, _), (6, _), (5, _), (4, _), (3, _), (2, _), (1, _), (0, _)]) 3 dL_law_121 rfl rfl (lt_ok rfl) rfl ?_
          rw [show ((9, Value.int (nI s + Int32.ofInt (-1))) : Nat × Value) = (9, Value.int (vI s)) from by rw [nI_m1]; rfl]
          refine x_goto 69 dL_law_124 (by decide) ?_
          refine x_pick (lv' := [(9, _), (8, _), (7, _), (6, _), (5, _), (4, _), (3, _), (2, _), (1, _), (0, _)]) [0, 1, 2, 4, 5, 6, 7, 8, 9, 10] rfl ?_
          first
          | exact absurd c_109 c_95
          | exact absurd c_95 c_109
          | (have hx := mayB_i.mpr (k_85.mp c_95)
             have kk := ih (s + 1) (by omega) s rfl (by omega)
             rw [fr_t hx (by omega), cs_t hx (by omega)] at kk
             exact kk)
          | (have hx : ¬ mayB I w 3 s = true := fun z => c_95 (k_85.mpr (mayB_i.mp z))
             have kk := ih (s + 1) (by omega) s rfl (by omega)
             rw [fr_f hx (by omega), cs_f hx] at kk
             exact kk)
      · refine x_iconst (v := nI 1) dL_law_98 (by decide) ?_
        refine x_goto 103 dL_law_99 (by decide) ?_
        refine y_iadd dL_law_103 ?_
        refine x_istore (lv' := [(7, _), (10, _), (9, _), (8, _), (6, _), (5, _), (4, _), (3, _), (2, _), (1, _), (0, _)]) dL_law_104 (lt_ok rfl) rfl ?_
        refine x_iload 1 dL_law_106 rfl ?_
        refine x_iconst (v := nI 1) dL_law_108 (by decide) ?_
        refine x_ic_ne 117 dL_law_109 (by decide) (fun c_109 => ?_) (fun c_109 => ?_)
        · refine x_iload 3 dL_law_117 rfl ?_
          refine x_istore (lv' := [(8, _), (7, _), (10, _), (9, _), (6, _), (5, _), (4, _), (3, _), (2, _), (1, _), (0, _)]) dL_law_119 (lt_ok rfl) rfl ?_
          refine x_iinc (lv' := [(9, _), (8, _), (7, _), (10, _), (6, _), (5, _), (4, _), (3, _), (2, _), (1, _), (0, _)]) 3 dL_law_121 rfl rfl (lt_ok rfl) rfl ?_
          rw [show ((9, Value.int (nI s + Int32.ofInt (-1))) : Nat × Value) = (9, Value.int (vI s)) from by rw [nI_m1]; rfl]
          refine x_goto 69 dL_law_124 (by decide) ?_
          refine x_pick (lv' := [(9, _), (8, _), (7, _), (6, _), (5, _), (4, _), (3, _), (2, _), (1, _), (0, _)]) [0, 1, 2, 4, 5, 6, 7, 8, 9, 10] rfl ?_
          first
          | exact absurd c_109 c_95
          | exact absurd c_95 c_109
          | (have hx := mayB_i.mpr (k_85.mp c_95)
             have kk := ih (s + 1) (by omega) s rfl (by omega)
             rw [fr_t hx (by omega), cs_t hx (by omega)] at kk
             exact kk)
          | (have hx : ¬ mayB I w 3 s = true := fun z => c_95 (k_85.mpr (mayB_i.mp z))
             have kk := ih (s + 1) (by omega) s rfl (by omega)
             rw [fr_f hx (by omega), cs_f hx] at kk
             exact kk)
        · refine x_iload 2 dL_law_112 rfl ?_
          refine x_goto 119 dL_law_114 (by decide) ?_
          refine x_istore (lv' := [(8, _), (7, _), (10, _), (9, _), (6, _), (5, _), (4, _), (3, _), (2, _), (1, _), (0, _)]) dL_law_119 (lt_ok rfl) rfl ?_
          refine x_iinc (lv' := [(9, _), (8, _), (7, _), (10, _), (6, _), (5, _), (4, _), (3, _), (2, _), (1, _), (0, _)]) 3 dL_law_121 rfl rfl (lt_ok rfl) rfl ?_
          rw [show ((9, Value.int (nI s + Int32.ofInt (-1))) : Nat × Value) = (9, Value.int (vI s)) from by rw [nI_m1]; rfl]
          refine x_goto 69 dL_law_124 (by decide) ?_
          refine x_pick (lv' := [(9, _), (8, _), (7, _), (6, _), (5, _), (4, _), (3, _), (2, _), (1, _), (0, _)]) [0, 1, 2, 4, 5, 6, 7, 8, 9, 10] rfl ?_
          first
          | exact absurd c_109 c_95
          | exact absurd c_95 c_109
          | (have hx := mayB_i.mpr (k_85.mp c_95)
             have kk := ih (s + 1) (by omega) s rfl (by omega)
             rw [fr_t hx (by omega), cs_t hx (by omega)] at kk
             exact kk)
          | (have hx : ¬ mayB I w 3 s = true := fun z => c_95 (k_85.mpr (mayB_i.mp z))
             have kk := ih (s + 1) (by omega) s rfl (by omega)
             rw [fr_f hx (by omega), cs_f hx] at kk
             exact kk)

set_option maxHeartbeats 4000000 in
set_option maxRecDepth 100000 in
theorem lw_W {sc : Sc} (hsc : sc.1 ≤ 260) {I : Isl} (hO : IOK I) (h4 : iM I ≤ 4) (h1 : 1 ≤ iP I) {Q : Option Value → St → Prop} {turn d : Nat} (ht : turn < 6) {w : Nat → Nat} {S1 : St} (hg : GP I w d S1) (H : ∀ S1, GP I w d S1 → X 10 388 (mL_law sc) Q 46 [(6, .int (nI ((turn + 1)))), (5, .int (nI 3)), (4, .int (nI ((iM I)))), (3, .int (nI ((iP I)))), (2, .ref 83), (1, .ref 0), (0, .ref 201)] [] S1)  : X 10 388 (mL_law sc) (Q) 336 [(6, .int (nI turn)), (5, .int (nI 3)), (4, .int (nI ((iM I)))), (3, .int (nI ((iP I)))), (2, .ref 83), (1, .ref 0), (0, .ref 201)] [] S1 := by
  have hO1 := hO.1
  have hO2 := hO.2.1
  refine x_aload_n 5 dL_law_336 rfl rfl ?_
  refine x_iload_n 3 dL_law_337 rfl rfl ?_
  refine x_iload 2 dL_law_338 rfl ?_
  refine x_iload 1 dL_law_340 rfl ?_
  refine x_callSqi (as := [_, _, _, _]) (rest := []) sL_125 (c_L_within hg.1.1 hO hg.1.2.2.1.2.1 hg.1.2.2.1.2.2.1 hg.1.2.2.1.1) dL_law_342 rfl rfl (Nat.le_of_ble_eq_true rfl) (Nat.le_of_ble_eq_true rfl) (Nat.le_of_ble_eq_true rfl) (fun r_342 S_342 q_342 => ?_)
  obtain ⟨rfl, x_342⟩ := q_342
  refine y_if_ne 350 dL_law_345 (by decide) (by omega) (fun c_345 => ?_) (fun c_345 => ?_)
  · refine y_iinc (lv' := [(6, _), (5, _), (4, _), (3, _), (2, _), (1, _), (0, _)]) 0 dL_law_350 rfl (lt_ok rfl) rfl ?_
    refine x_goto 46 dL_law_353 (by decide) ?_
    refine x_pick (lv' := [(6, _), (5, _), (4, _), (3, _), (2, _), (1, _), (0, _)]) [0, 1, 2, 3, 4, 5, 6] rfl ?_
    exact H _ (hg.as x_342)
  · refine x_iconst (v := nI 0) dL_law_348 (by decide) ?_
    refine x_zret rfl dL_law_349 (by decide) (by exfalso; omega)

set_option maxHeartbeats 4000000 in
set_option maxRecDepth 100000 in
theorem lw_S {sc : Sc} (hsc : sc.1 ≤ 260) {I : Isl} (hO : IOK I) (h4 : iM I ≤ 4) (h1 : 1 ≤ iP I) {Q : Option Value → St → Prop} {turn d x : Nat} (hd : d < 40) (hx : x < 7 * iM I) {w : Nat → Nat} (hm : mayF I w 3 (x / 7) (x % 7)) {S1 : St} (hg : GP I w d S1) (H : ∀ w d1 S1, d1 ≤ d + 1 → GP I w d1 S1 → X 10 388 (mL_law sc) Q 336 [(6, .int (nI turn)), (5, .int (nI 3)), (4, .int (nI ((iM I)))), (3, .int (nI ((iP I)))), (2, .ref 83), (1, .ref 0), (0, .ref 201)] [] S1)  : X 10 388 (mL_law sc) (Q) 196 [(9, .int (nI x)), (6, .int (nI turn)), (5, .int (nI 3)), (4, .int (nI ((iM I)))), (3, .int (nI ((iP I)))), (2, .ref 83), (1, .ref 0), (0, .ref 201)] [] S1 := by
  have hO1 := hO.1
  have hO2 := hO.2.1
  have h7 := Nat.mod_lt x (show 0 < 7 by decide)
  have hxt : x / 7 < iM I := by omega
  have hw7 := (hg.1.2.2.1.1.ok hO).w7 hO (x / 7) hxt
  refine x_aload_n 6 dL_law_196 rfl rfl ?_
  refine x_callVql (as := []) (rest := []) vL_112 (c_digL hg hO) dL_law_197 l0 rfl rfl rfl (Nat.le_of_ble_eq_true rfl) (Nat.le_of_ble_eq_true rfl) (Nat.le_of_ble_eq_true rfl) (fun r_197 S_197 q_197 => ?_)
  obtain ⟨rfl, g_197, t_197⟩ := q_197
  refine x_lstore (lv' := [(10, _), (9, _), (6, _), (5, _), (4, _), (3, _), (2, _), (1, _), (0, _)]) dL_law_200 (lt_ok rfl) rfl ?_
  refine x_aload_n 7 dL_law_202 rfl rfl ?_
  refine x_aload_n 7 dL_law_203 rfl rfl ?_
  refine x_iload 1 dL_law_204 rfl ?_
  refine x_bipush (v := nI 7) dL_law_206 (by decide) ?_
  refine y_idiv dL_law_208 (by omega) (by omega) (by omega) ?_
  refine x_iconst (v := nI 1) dL_law_209 (by decide) ?_
  refine x_callVqi (as := [_, _]) (rest := [_]) vL_87 (c_thingG g_197.1 hO hxt rfl) dL_law_210 l0 rfl rfl rfl (Nat.le_of_ble_eq_true rfl) (Nat.le_of_ble_eq_true rfl) (Nat.le_of_ble_eq_true rfl) (fun r_210 S_210 q_210 => ?_)
  obtain ⟨rfl, e_210, x_210⟩ := q_210
  refine x_callSu (as := [_, _]) (rest := []) sL_90 (c_tellsA e_210) dL_law_213 rfl rfl (Nat.le_of_ble_eq_true rfl) (Nat.le_of_ble_eq_true rfl) (Nat.le_of_ble_eq_true rfl) ?_
  refine x_istore (lv' := [(12, _), (10, _), (9, _), (6, _), (5, _), (4, _), (3, _), (2, _), (1, _), (0, _)]) dL_law_216 (lt_ok rfl) rfl ?_
  refine x_aload_n 8 dL_law_218 rfl rfl ?_
  refine x_iconst (v := nI 3) dL_law_219 (by decide) ?_
  refine x_callVu (as := [_]) (rest := []) vL_116 (c_countL (g_197.as x_210).1.1 hO (g_197.as x_210).1.2.2.1.2.2.2) dL_law_220 l0 rfl rfl rfl (Nat.le_of_ble_eq_true rfl) (Nat.le_of_ble_eq_true rfl) (Nat.le_of_ble_eq_true rfl) ?_
  refine x_istore (lv' := [(13, _), (12, _), (10, _), (9, _), (6, _), (5, _), (4, _), (3, _), (2, _), (1, _), (0, _)]) dL_law_223 (lt_ok rfl) rfl ?_
  refine x_aload_n 9 dL_law_225 rfl rfl ?_
  refine x_iload 3 dL_law_226 rfl ?_
  refine x_bipush (v := nI 7) dL_law_228 (by decide) ?_
  refine y_idiv dL_law_230 (by omega) (by omega) (by omega) ?_
  refine x_iload 3 dL_law_231 rfl ?_
  refine x_bipush (v := nI 7) dL_law_233 (by decide) ?_
  refine y_irem dL_law_235 (by omega) (by omega) (by omega) ?_
  refine x_callVqi (as := [_, _]) (rest := []) vL_119 (c_stepL (g_197.as x_210) hO hd hx hm) dL_law_236 l0 rfl rfl rfl (Nat.le_of_ble_eq_true rfl) (Nat.le_of_ble_eq_true rfl) (Nat.le_of_ble_eq_true rfl) (fun r_236 S_236 q_236 => ?_)
  obtain ⟨rfl, u_236, t_236⟩ := q_236
  refine x_iconst (v := nI 1) dL_law_239 (by decide) ?_
  refine y_ic_ne 334 dL_law_240 (by decide) (by omega) (by omega) (fun c_240 => ?_) (fun c_240 => ?_)
  · refine x_iconst (v := nI 0) dL_law_334 (by decide) ?_
    refine x_zret rfl dL_law_335 (by decide) (by exfalso; omega)
  · refine x_aload_n 9 dL_law_243 rfl rfl ?_
    refine x_aload_n 9 dL_law_244 rfl rfl ?_
    refine x_iload 3 dL_law_245 rfl ?_
    refine x_bipush (v := nI 7) dL_law_247 (by decide) ?_
    refine y_idiv dL_law_249 (by omega) (by omega) (by omega) ?_
    refine x_iconst (v := nI 1) dL_law_250 (by decide) ?_
    refine x_callVqi (as := [_, _]) (rest := [_]) vL_87 (c_thingG u_236.1 hO hxt (upW_eq _ _ _)) dL_law_251 l0 rfl rfl rfl (Nat.le_of_ble_eq_true rfl) (Nat.le_of_ble_eq_true rfl) (Nat.le_of_ble_eq_true rfl) (fun r_251 S_251 q_251 => ?_)
    obtain ⟨rfl, e_251, x_251⟩ := q_251
    refine x_callSu (as := [_, _]) (rest := []) sL_90 (c_tellsA e_251) dL_law_254 rfl rfl (Nat.le_of_ble_eq_true rfl) (Nat.le_of_ble_eq_true rfl) (Nat.le_of_ble_eq_true rfl) ?_
    refine x_iload 3 dL_law_257 rfl ?_
    refine x_bipush (v := nI 7) dL_law_259 (by decide) ?_
    refine y_irem dL_law_261 (by omega) (by omega) (by omega) ?_
    refine y_ic_ne 334 dL_law_262 (by decide) (by omega) (by omega) (fun c_262 => ?_) (fun c_262 => ?_)
    · refine x_iconst (v := nI 0) dL_law_334 (by decide) ?_
      refine x_zret rfl dL_law_335 (by decide) (by exfalso; omega)
    · refine x_aload_n 9 dL_law_265 rfl rfl ?_
      refine x_iconst (v := nI 3) dL_law_266 (by decide) ?_
      refine x_callVu (as := [_]) (rest := []) vL_116 (c_countL (u_236.as x_251).1.1 hO (u_236.as x_251).1.2.2.1.2.2.2) dL_law_267 l0 rfl rfl rfl (Nat.le_of_ble_eq_true rfl) (Nat.le_of_ble_eq_true rfl) (Nat.le_of_ble_eq_true rfl) ?_
      refine x_iload 0 dL_law_270 rfl ?_
      refine x_iconst (v := nI 1) dL_law_272 (by decide) ?_
      refine y_iadd dL_law_273 ?_
      refine y_ic_ne 334 dL_law_274 (by decide) (by omega) (by omega) (fun c_274 => ?_) (fun c_274 => ?_)
      · refine x_iconst (v := nI 0) dL_law_334 (by decide) ?_
        refine x_zret rfl dL_law_335 (by decide) (by exfalso; omega)
      · refine x_aload_n 9 dL_law_277 rfl rfl ?_
        refine x_iload 0 dL_law_278 rfl ?_
        refine x_callVqi (as := [_]) (rest := []) vL_122 (c_undoL (u_236.as x_251) hO hd) dL_law_280 l0 rfl rfl rfl (Nat.le_of_ble_eq_true rfl) (Nat.le_of_ble_eq_true rfl) (Nat.le_of_ble_eq_true rfl) (fun r_280 S_280 q_280 => ?_)
        obtain ⟨rfl, g_280, t_280⟩ := q_280
        refine x_iconst (v := nI 1) dL_law_283 (by decide) ?_
        refine y_ic_ne 334 dL_law_284 (by decide) (by omega) (by omega) (fun c_284 => ?_) (fun c_284 => ?_)
        · refine x_iconst (v := nI 0) dL_law_334 (by decide) ?_
          refine x_zret rfl dL_law_335 (by decide) (by exfalso; omega)
        · refine x_aload_n 9 dL_law_287 rfl rfl ?_
          refine x_callVql (as := []) (rest := []) vL_112 (c_digL g_280 hO) dL_law_288 l0 rfl rfl rfl (Nat.le_of_ble_eq_true rfl) (Nat.le_of_ble_eq_true rfl) (Nat.le_of_ble_eq_true rfl) (fun r_288 S_288 q_288 => ?_)
          obtain ⟨rfl, g_288, t_288⟩ := q_288
          refine x_lload 2 dL_law_291 rfl ?_
          refine x_lcmp dL_law_293 ?_
          refine u_if_ne 334 dL_law_294 (by decide) (cmp_eq (dgL_c ((((t_197.trans x_210.tf).trans t_236).trans x_251.tf).trans t_280))) ?_
          refine x_aload_n 9 dL_law_297 rfl rfl ?_
          refine x_aload_n 9 dL_law_298 rfl rfl ?_
          refine x_iload 3 dL_law_299 rfl ?_
          refine x_bipush (v := nI 7) dL_law_301 (by decide) ?_
          refine y_idiv dL_law_303 (by omega) (by omega) (by omega) ?_
          refine x_iconst (v := nI 1) dL_law_304 (by decide) ?_
          refine x_callVqi (as := [_, _]) (rest := [_]) vL_87 (c_thingG g_288.1 hO hxt rfl) dL_law_305 l0 rfl rfl rfl (Nat.le_of_ble_eq_true rfl) (Nat.le_of_ble_eq_true rfl) (Nat.le_of_ble_eq_true rfl) (fun r_305 S_305 q_305 => ?_)
          obtain ⟨rfl, e_305, x_305⟩ := q_305
          refine x_callSu (as := [_, _]) (rest := []) sL_90 (c_tellsA e_305) dL_law_308 rfl rfl (Nat.le_of_ble_eq_true rfl) (Nat.le_of_ble_eq_true rfl) (Nat.le_of_ble_eq_true rfl) ?_
          refine x_iload 1 dL_law_311 rfl ?_
          refine y_ic_ne 334 dL_law_313 (by decide) (by omega) (by omega) (fun c_313 => ?_) (fun c_313 => ?_)
          · refine x_iconst (v := nI 0) dL_law_334 (by decide) ?_
            refine x_zret rfl dL_law_335 (by decide) (by exfalso; omega)
          · refine x_aload_n 9 dL_law_316 rfl rfl ?_
            refine x_iload 3 dL_law_317 rfl ?_
            refine x_bipush (v := nI 7) dL_law_319 (by decide) ?_
            refine y_idiv dL_law_321 (by omega) (by omega) (by omega) ?_
            refine x_iload 3 dL_law_322 rfl ?_
            refine x_bipush (v := nI 7) dL_law_324 (by decide) ?_
            refine y_irem dL_law_326 (by omega) (by omega) (by omega) ?_
            refine x_callVqi (as := [_, _]) (rest := []) vL_119 (c_stepL (g_288.as x_305) hO hd hx hm) dL_law_327 l0 rfl rfl rfl (Nat.le_of_ble_eq_true rfl) (Nat.le_of_ble_eq_true rfl) (Nat.le_of_ble_eq_true rfl) (fun r_327 S_327 q_327 => ?_)
            obtain ⟨rfl, u_327, t_327⟩ := q_327
            refine x_iconst (v := nI 1) dL_law_330 (by decide) ?_
            refine y_ic_eq 336 dL_law_331 (by decide) (by omega) (by omega) (fun c_331 => ?_) (fun c_331 => ?_)
            · refine x_pick (lv' := [(6, _), (5, _), (4, _), (3, _), (2, _), (1, _), (0, _)]) [4, 5, 6, 7, 8, 9, 10] rfl ?_
              exact H _ _ _ (Nat.le_refl _) u_327.gp
            · refine x_iconst (v := nI 0) dL_law_334 (by decide) ?_
              refine x_zret rfl dL_law_335 (by decide) (by exfalso; omega)

set_option maxHeartbeats 4000000 in
set_option maxRecDepth 100000 in
theorem lw_C {sc : Sc} (hsc : sc.1 ≤ 260) {I : Isl} (hO : IOK I) (h4 : iM I ≤ 4) (h1 : 1 ≤ iP I) {Q : Option Value → St → Prop} {turn d x : Nat} (hd : d < 40) (hx : 0 < iM I → x < 7 * iM I) {w : Nat → Nat} {S1 : St} (hg : GP I w d S1) (H : ∀ w d1 S1, d1 ≤ d + 1 → GP I w d1 S1 → X 10 388 (mL_law sc) Q 336 [(6, .int (nI turn)), (5, .int (nI 3)), (4, .int (nI ((iM I)))), (3, .int (nI ((iP I)))), (2, .ref 83), (1, .ref 0), (0, .ref 201)] [] S1)  : X 10 388 (mL_law sc) (Q) 173 [(9, .int (nI x)), (6, .int (nI turn)), (5, .int (nI 3)), (4, .int (nI ((iM I)))), (3, .int (nI ((iP I)))), (2, .ref 83), (1, .ref 0), (0, .ref 201)] [] S1 := by
  have hO1 := hO.1
  have hO2 := hO.2.1
  refine x_iload 3 dL_law_173 rfl ?_
  refine y_if_le 336 dL_law_175 (by decide) (by omega) (fun c_175 => ?_) (fun c_175 => ?_)
  · refine x_pick (lv' := [(6, _), (5, _), (4, _), (3, _), (2, _), (1, _), (0, _)]) [1, 2, 3, 4, 5, 6, 7] rfl ?_
    exact H _ _ _ (Nat.le_succ _) hg
  · refine x_aload_n 6 dL_law_178 rfl rfl ?_
    refine x_iload 0 dL_law_179 rfl ?_
    refine x_bipush (v := nI 7) dL_law_181 (by decide) ?_
    refine y_idiv dL_law_183 (by omega) (by omega) (by omega) ?_
    refine x_iload 0 dL_law_184 rfl ?_
    refine x_bipush (v := nI 7) dL_law_186 (by decide) ?_
    refine y_irem dL_law_188 (by omega) (by omega) (by omega) ?_
    refine x_callVqi (as := [_, _]) (rest := []) vL_107 (c_mayL hg.1 hO (hx c_175)) dL_law_189 l0 rfl rfl rfl (Nat.le_of_ble_eq_true rfl) (Nat.le_of_ble_eq_true rfl) (Nat.le_of_ble_eq_true rfl) (fun r_189 S_189 q_189 => ?_)
    obtain ⟨k_189, rfl⟩ := q_189
    refine x_iconst (v := nI 1) dL_law_192 (by decide) ?_
    refine x_ic_ne 336 dL_law_193 (by decide) (fun c_193 => ?_) (fun c_193 => ?_)
    · refine x_pick (lv' := [(6, _), (5, _), (4, _), (3, _), (2, _), (1, _), (0, _)]) [1, 2, 3, 4, 5, 6, 7] rfl ?_
      exact H _ _ _ (Nat.le_succ _) hg
    · refine x_pick (lv' := [(9, _), (6, _), (5, _), (4, _), (3, _), (2, _), (1, _), (0, _)]) [0, 1, 2, 3, 4, 5, 6, 7] rfl ?_
      exact lw_S hsc hO h4 h1 hd (hx c_175) (k_189.mp c_193) hg H

set_option maxHeartbeats 4000000 in
set_option maxRecDepth 100000 in
theorem lw_B {sc : Sc} (hsc : sc.1 ≤ 260) {I : Isl} (hO : IOK I) (h4 : iM I ≤ 4) (h1 : 1 ≤ iP I) {Q : Option Value → St → Prop} {turn d : Nat} (ht : turn < 6) (hd : d < 40) {w : Nat → Nat} {S1 : St} (hg : GP I w d S1) (H : ∀ w d1 S1, d1 ≤ d + 1 → GP I w d1 S1 → X 10 388 (mL_law sc) Q 336 [(6, .int (nI turn)), (5, .int (nI 3)), (4, .int (nI ((iM I)))), (3, .int (nI ((iP I)))), (2, .ref 83), (1, .ref 0), (0, .ref 201)] [] S1)  : X 10 388 (mL_law sc) (Q) 127 [(8, .int (fb (mayB I w 3) (7 * iM I))), (7, .int (nI ((cb (mayB I w 3) (7 * iM I))))), (6, .int (nI turn)), (5, .int (nI 3)), (4, .int (nI ((iM I)))), (3, .int (nI ((iP I)))), (2, .ref 83), (1, .ref 0), (0, .ref 201)] [] S1 := by
  have hO1 := hO.1
  have hO2 := hO.2.1
  have hcb := cb_le (b := mayB I w 3) (7 * iM I)
  have hcl := cel_lt (sc := sc) (k := 60 + turn) (by omega)
  refine x_aload_n 7 dL_law_127 rfl rfl ?_
  refine x_callVqi (as := []) (rest := []) vL_109 (c_stepsL hg.1 hO) dL_law_128 l0 rfl rfl rfl (Nat.le_of_ble_eq_true rfl) (Nat.le_of_ble_eq_true rfl) (Nat.le_of_ble_eq_true rfl) (fun r_128 S_128 q_128 => ?_)
  obtain ⟨rfl, e_128, x_128⟩ := q_128
  refine x_iload 1 dL_law_131 rfl ?_
  refine y_ic_ne 145 dL_law_133 (by decide) (by omega) (by omega) (fun c_133 => ?_) (fun c_133 => ?_)
  · refine x_iconst (v := nI 0) dL_law_145 (by decide) ?_
    refine x_zret rfl dL_law_146 (by decide) (by exfalso; first | omega | exact c_142 rfl)
  · refine x_aload_n 7 dL_law_136 rfl rfl ?_
    refine x_callVu (as := []) (rest := []) vL_83 (c_askedA e_128) dL_law_137 l0 rfl rfl rfl (Nat.le_of_ble_eq_true rfl) (Nat.le_of_ble_eq_true rfl) (Nat.le_of_ble_eq_true rfl) ?_
    refine x_iload 0 dL_law_140 rfl ?_
    refine x_ic_eq 147 dL_law_142 (by decide) (fun c_142 => ?_) (fun c_142 => ?_)
    · refine x_iload 4 dL_law_147 rfl ?_
      refine y_if_le 170 dL_law_149 (by decide) (by omega) (fun c_149 => ?_) (fun c_149 => ?_)
      · refine x_iconst (v := nI 0) dL_law_170 (by decide) ?_
        refine x_istore (lv' := [(9, _), (8, _), (7, _), (6, _), (5, _), (4, _), (3, _), (2, _), (1, _), (0, _)]) dL_law_171 (lt_ok rfl) rfl ?_
        refine x_pick (lv' := [(9, _), (6, _), (5, _), (4, _), (3, _), (2, _), (1, _), (0, _)]) [0, 3, 4, 5, 6, 7, 8, 9] rfl ?_
        exact lw_C hsc hO h4 h1 hd (fun _ => by first | exact Nat.mod_lt _ (by omega) | omega) (hg.as x_128) H
      · refine x_aload_n 8 dL_law_152 rfl rfl ?_
        refine x_bipush (v := nI 60) dL_law_153 (by decide) ?_
        refine x_iload 2 dL_law_155 rfl ?_
        refine y_iadd dL_law_157 ?_
        refine x_callSu (as := [_, _]) (rest := []) sL_14 (c_L_cell hsc (k := 60 + turn) (by omega)) dL_law_158 rfl rfl (Nat.le_of_ble_eq_true rfl) (Nat.le_of_ble_eq_true rfl) (Nat.le_of_ble_eq_true rfl) ?_
        refine x_bipush (v := nI 7) dL_law_161 (by decide) ?_
        refine x_iload 4 dL_law_163 rfl ?_
        refine y_imul dL_law_165 ?_
        refine y_irem dL_law_166 (by omega) (by omega) (by omega) ?_
        refine x_goto 171 dL_law_167 (by decide) ?_
        refine x_istore (lv' := [(9, _), (8, _), (7, _), (6, _), (5, _), (4, _), (3, _), (2, _), (1, _), (0, _)]) dL_law_171 (lt_ok rfl) rfl ?_
        refine x_pick (lv' := [(9, _), (6, _), (5, _), (4, _), (3, _), (2, _), (1, _), (0, _)]) [0, 3, 4, 5, 6, 7, 8, 9] rfl ?_
        exact lw_C hsc hO h4 h1 hd (fun _ => by first | exact Nat.mod_lt _ (by omega) | omega) (hg.as x_128) H
    · refine x_iconst (v := nI 0) dL_law_145 (by decide) ?_
      refine x_zret rfl dL_law_146 (by decide) (by exfalso; first | omega | exact c_142 rfl)

set_option maxHeartbeats 4000000 in
set_option maxRecDepth 100000 in
theorem lw_T {sc : Sc} (hsc : sc.1 ≤ 260) {I : Isl} (hO : IOK I) (h4 : iM I ≤ 4) (h1 : 1 ≤ iP I) {Q : Option Value → St → Prop} (H : ∀ w d S1, d ≤ 6 → GP I w d S1 → X 10 388 (mL_law sc) Q 356 [(5, .int (nI 3)), (4, .int (nI ((iM I)))), (3, .int (nI ((iP I)))), (2, .ref 83), (1, .ref 0), (0, .ref 201)] [] S1)  : ∀ (turn : Nat) (w : Nat → Nat) (d : Nat) (S1 : St), (turn ≤ 6) → (d ≤ turn) → (GP I w d S1) → X 10 388 (mL_law sc) (Q) 46 [(6, .int (nI turn)), (5, .int (nI 3)), (4, .int (nI ((iM I)))), (3, .int (nI ((iP I)))), (2, .ref 83), (1, .ref 0), (0, .ref 201)] [] S1 := by
  intro turn w d S1
  induction hm : 6 - turn using Nat.strongRecOn generalizing turn w d S1 with
  | _ mm ih =>
    intro ht hd hg
    have hO1 := hO.1
    have hO2 := hO.2.1
    refine x_iload 0 dL_law_46 rfl ?_
    refine x_bipush (v := nI 6) dL_law_48 (by decide) ?_
    refine y_ic_ge 356 dL_law_50 (by decide) (by omega) (by omega) (fun c_50 => ?_) (fun c_50 => ?_)
    · refine x_pick (lv' := [(5, _), (4, _), (3, _), (2, _), (1, _), (0, _)]) [1, 2, 3, 4, 5, 6] rfl ?_
      exact H _ _ _ (by omega) hg
    · refine x_iconst (v := nI 0) dL_law_53 (by decide) ?_
      refine x_istore (lv' := [(7, _), (6, _), (5, _), (4, _), (3, _), (2, _), (1, _), (0, _)]) dL_law_54 (lt_ok rfl) rfl ?_
      refine x_bipush (v := -9) dL_law_56 (by decide) ?_
      refine x_istore (lv' := [(8, _), (7, _), (6, _), (5, _), (4, _), (3, _), (2, _), (1, _), (0, _)]) dL_law_58 (lt_ok rfl) rfl ?_
      refine x_bipush (v := nI 7) dL_law_60 (by decide) ?_
      refine x_iload 4 dL_law_62 rfl ?_
      refine y_imul dL_law_64 ?_
      refine x_iconst (v := nI 1) dL_law_65 (by decide) ?_
      refine x_isub dL_law_66 ?_
      refine x_istore (lv' := [(9, _), (8, _), (7, _), (6, _), (5, _), (4, _), (3, _), (2, _), (1, _), (0, _)]) dL_law_67 (lt_ok rfl) rfl ?_
      have kk := lw_M hsc hO h4 h1 (turn := turn) hg.1 (lw_B hsc hO h4 h1 (show turn < 6 by omega) (show d < 40 by omega) hg (fun w1 d1 S2 q1 q2 => lw_W hsc hO h4 h1 (show turn < 6 by omega) q2 (fun S3 q3 => ih (6 - (turn + 1)) (by omega) (turn + 1) w1 d1 S3 rfl (by omega) (by omega) q3))) (7 * iM I) (Nat.le_refl _)
      rw [Nat.sub_self, Nat.sub_self] at kk
      refine x_pick (lv' := [(9, _), (8, _), (7, _), (6, _), (5, _), (4, _), (3, _), (2, _), (1, _), (0, _)]) [0, 1, 2, 3, 4, 5, 6, 7, 8, 9] rfl ?_
      exact kk

set_option maxHeartbeats 4000000 in
set_option maxRecDepth 100000 in
theorem lw_E {sc : Sc} (hsc : sc.1 ≤ 260) {I : Isl} (hO : IOK I) (h4 : iM I ≤ 4) (h1 : 1 ≤ iP I) {c0 d : Nat} {S1 : St} (hb : LB I (digF c0) d S1) (hk : KP I c0 S1)  : X 10 388 (mL_law2 sc) (qi (fun r S' => r = nI 1)) 628 [(5, .int (nI 3)), (4, .int (nI ((iM I)))), (3, .int (nI ((iP I)))), (2, .ref 83), (1, .ref 0), (0, .ref 201)] [] S1 := by
  have hO1 := hO.1
  have hO2 := hO.2.1
  have hO3 := hO.2.2.1
  refine x_aload_n 4 dL_law_628 rfl rfl ?_
  refine x_iload_n 2 dL_law_629 rfl rfl ?_
  refine x_iload 1 dL_law_630 rfl ?_
  refine x_callSqi (as := [_, _, _]) (rest := []) sL_160 (c_L_thefts hb.1 hO hb.2.2.1.2.1 hb.2.2.1.2.2.1 hb.2.2.1.1 (show ¬ iP I = 0 by omega) hb.2.2.2.2.2.1) dL_law_632 rfl rfl (Nat.le_of_ble_eq_true rfl) (Nat.le_of_ble_eq_true rfl) (Nat.le_of_ble_eq_true rfl) (fun r_632 S_632 q_632 => ?_)
  obtain ⟨rfl, t_632⟩ := q_632
  obtain ⟨b_632, k_632⟩ := t_632.lb hb hk
  refine y_if_eq 684 dL_law_635 (by decide) (by omega) (fun c_635 => ?_) (fun c_635 => ?_)
  · refine x_iconst (v := nI 0) dL_law_684 (by decide) ?_
    refine x_zret rfl dL_law_685 (by decide) (by exfalso; omega)
  · refine x_aload_n 4 dL_law_638 rfl rfl ?_
    refine x_aload_n 5 dL_law_639 rfl rfl ?_
    refine x_iload 1 dL_law_640 rfl ?_
    refine x_aload_n 3 dL_law_642 rfl rfl ?_
    refine x_bipush (v := nI 12) dL_law_643 (by decide) ?_
    refine y_iald dL_law_645 l83 (by omega) (by decide) b_632.2.2.2.1.2.2.1 ?_
    refine x_callSqi (as := [_, _, _, _]) (rest := []) sL_164 (c_L_drowned hsc b_632.1 hO b_632.2.2.1.2.2.1 h4 b_632.2.2.2.2.2.2) dL_law_646 rfl rfl (Nat.le_of_ble_eq_true rfl) (Nat.le_of_ble_eq_true rfl) (Nat.le_of_ble_eq_true rfl) (fun r_646 S_646 q_646 => ?_)
    obtain ⟨rfl, t_646, z_646⟩ := q_646
    obtain ⟨w_646, i_646, k_646⟩ := t_646.wb b_632 k_632
    refine y_if_eq 684 dL_law_649 (by decide) (by omega) (fun c_649 => ?_) (fun c_649 => ?_)
    · refine x_iconst (v := nI 0) dL_law_684 (by decide) ?_
      refine x_zret rfl dL_law_685 (by decide) (by exfalso; omega)
    · refine x_aload_n 4 dL_law_652 rfl rfl ?_
      refine x_iconst (v := nI 0) dL_law_653 (by decide) ?_
      refine x_callVqi (as := [_]) (rest := []) vL_168 (c_onW w_646 i_646 hO k_646) dL_law_654 l0 rfl rfl rfl (Nat.le_of_ble_eq_true rfl) (Nat.le_of_ble_eq_true rfl) (Nat.le_of_ble_eq_true rfl) (fun r_654 S_654 q_654 => ?_)
      obtain ⟨rfl, b_654, p_654, y_654⟩ := q_654
      have i_654 := b_654.I i_646
      refine x_iconst (v := nI 1) dL_law_657 (by decide) ?_
      refine y_ic_ne 684 dL_law_658 (by decide) (by omega) (by omega) (fun c_658 => ?_) (fun c_658 => ?_)
      · refine x_iconst (v := nI 0) dL_law_684 (by decide) ?_
        refine x_zret rfl dL_law_685 (by decide) (by exfalso; omega)
      · refine x_aload_n 4 dL_law_661 rfl rfl ?_
        refine x_iconst (v := nI 3) dL_law_662 (by decide) ?_
        refine x_callVu (as := [_]) (rest := []) vL_116 (c_countL i_654 hO p_654.2.2.2) dL_law_663 l0 rfl rfl rfl (Nat.le_of_ble_eq_true rfl) (Nat.le_of_ble_eq_true rfl) (Nat.le_of_ble_eq_true rfl) ?_
        refine y_if_ne 684 dL_law_666 (by decide) (by omega) (fun c_666 => ?_) (fun c_666 => ?_)
        · refine x_iconst (v := nI 0) dL_law_684 (by decide) ?_
          refine x_zret rfl dL_law_685 (by decide) (by exfalso; omega)
        · refine x_aload_n 4 dL_law_669 rfl rfl ?_
          refine x_iload_n 2 dL_law_670 rfl rfl ?_
          refine x_iload 1 dL_law_671 rfl ?_
          refine x_iconst (v := nI 3) dL_law_673 (by decide) ?_
          refine x_callSqi (as := [_, _, _, _]) (rest := []) sL_125 (c_L_within i_654 hO p_654.2.1 p_654.2.2.1 p_654.1) dL_law_674 rfl rfl (Nat.le_of_ble_eq_true rfl) (Nat.le_of_ble_eq_true rfl) (Nat.le_of_ble_eq_true rfl) (fun r_674 S_674 q_674 => ?_)
          obtain ⟨rfl, x_674⟩ := q_674
          refine y_if_eq 684 dL_law_677 (by decide) (by omega) (fun c_677 => ?_) (fun c_677 => ?_)
          · refine x_iconst (v := nI 0) dL_law_684 (by decide) ?_
            refine x_zret rfl dL_law_685 (by decide) (by exfalso; omega)
          · refine x_iconst (v := nI 1) dL_law_680 (by decide) ?_
            refine x_goto 685 dL_law_681 (by decide) ?_
            refine x_zret rfl dL_law_685 (by decide) ⟨_, rfl, rfl⟩

set_option maxHeartbeats 4000000 in
set_option maxRecDepth 100000 in
theorem lw_D {sc : Sc} (hsc : sc.1 ≤ 260) {I : Isl} (hO : IOK I) (h4 : iM I ≤ 4) (h1 : 1 ≤ iP I) {c0 : Nat}  : ∀ (a : Nat) (was : Int32) (d : Nat) (S1 : St), (a ≤ 3) → (was.toInt ≤ (vI (dyA I 3 c0 a)).toInt) → (LB I (digF c0) d S1) → (KP I c0 S1) → X 10 388 (mL_law2 sc) (qi (fun r S' => r = nI 1)) 538 [(10, .int (nI a)), (9, .int was), (8, .int (nI ((sm (fun v => iV I v 3) (iW I))))), (5, .int (nI 3)), (4, .int (nI ((iM I)))), (3, .int (nI ((iP I)))), (2, .ref 83), (1, .ref 0), (0, .ref 201)] [] S1 := by
  intro a was d S1
  induction hm : 3 - a using Nat.strongRecOn generalizing a was d S1 with
  | _ mm ih =>
    intro ha hw hb hk
    have hO1 := hO.1
    have hO2 := hO.2.1
    have htot := tot_le hO
    have hA := dyA_all (I := I) (L := 3) (c0 := c0) (a := a) hO
    have hA1 := dyA_all (I := I) (L := 3) (c0 := c0) (a := a + 1) hO
    have hB := dyA_all (I := I) (L := 4) (c0 := c0) (a := a) hO
    have hD := dyA_all (I := I) (L := 6) (c0 := c0) (a := a) hO
    have eA := vI_i (n := dyA I 3 c0 a) (by omega)
    have eA1 := vI_i (n := dyA I 3 c0 (a + 1)) (by omega)
    have eB := vI_i (n := dyA I 4 c0 a) (by omega)
    have eD := vI_i (n := dyA I 6 c0 a) (by omega)
    have hk4 : OKc I 4 c0 := hk.1.up (by decide)
    have hk6 : OKc I 6 c0 := hk.1.up (by decide)
    have u1 := dyA_up (a := a) (d := 1) hO (Nat.le_refl 3) hk.1 hk.1
    have u4 := dyA_up (a := a) (d := 0) hO (show 3 ≤ 4 by decide) hk.1 hk4
    have u6 := dyA_up (a := a) (d := 0) hO (show 4 ≤ 6 by decide) hk4 hk6
    rw [Nat.add_zero] at u4 u6
    have hback := vI_back u4
    refine x_iload 0 dL_law_538 rfl ?_
    refine x_iconst (v := nI 3) dL_law_540 (by decide) ?_
    refine y_ic_ge 628 dL_law_541 (by decide) (by omega) (by omega) (fun c_541 => ?_) (fun c_541 => ?_)
    · refine x_pick (lv' := [(5, _), (4, _), (3, _), (2, _), (1, _), (0, _)]) [3, 4, 5, 6, 7, 8] rfl ?_
      exact lw_E hsc hO h4 h1 hb hk
    · refine x_aload_n 7 dL_law_544 rfl rfl ?_
      refine x_iload 0 dL_law_545 rfl ?_
      refine x_callVqi (as := [_]) (rest := []) vL_151 (c_mostL hb hO hk (show a ≤ 2 by omega)) dL_law_547 l0 rfl rfl rfl (Nat.le_of_ble_eq_true rfl) (Nat.le_of_ble_eq_true rfl) (Nat.le_of_ble_eq_true rfl) (fun r_547 S_547 q_547 => ?_)
      obtain ⟨rfl, e_547, b_547, k_547⟩ := q_547
      refine x_istore (lv' := [(11, _), (10, _), (9, _), (8, _), (5, _), (4, _), (3, _), (2, _), (1, _), (0, _)]) dL_law_550 (lt_ok rfl) rfl ?_
      refine x_aload_n 8 dL_law_552 rfl rfl ?_
      refine x_callVu (as := []) (rest := []) vL_83 (c_askedA e_547) dL_law_553 l0 rfl rfl rfl (Nat.le_of_ble_eq_true rfl) (Nat.le_of_ble_eq_true rfl) (Nat.le_of_ble_eq_true rfl) ?_
      refine x_iload 3 dL_law_556 rfl ?_
      refine y_ic_ne 616 dL_law_558 (by decide) (by omega) (by omega) (fun c_558 => ?_) (fun c_558 => ?_)
      · refine x_iconst (v := nI 0) dL_law_616 (by decide) ?_
        refine x_zret rfl dL_law_617 (by decide) (by exfalso; first | omega | exact c_593 rfl)
      · refine x_iload 0 dL_law_561 rfl ?_
        refine x_iload 2 dL_law_563 rfl ?_
        refine x_ic_lt 616 dL_law_565 (by decide) (fun c_565 => ?_) (fun c_565 => ?_)
        · refine x_iconst (v := nI 0) dL_law_616 (by decide) ?_
          refine x_zret rfl dL_law_617 (by decide) (by exfalso; first | omega | exact c_593 rfl)
        · refine x_iload 0 dL_law_568 rfl ?_
          refine x_iload 3 dL_law_570 rfl ?_
          refine z_ic_gt 616 dL_law_572 (by decide) (by omega) (fun c_572 => ?_) (fun c_572 => ?_)
          · refine x_iconst (v := nI 0) dL_law_616 (by decide) ?_
            refine x_zret rfl dL_law_617 (by decide) (by exfalso; first | omega | exact c_593 rfl)
          · refine x_aload_n 8 dL_law_575 rfl rfl ?_
            refine x_iload 1 dL_law_576 rfl ?_
            refine x_callVqi (as := [_]) (rest := []) vL_154 (c_handL b_547 hO k_547 (show a ≤ 2 by omega)) dL_law_578 l0 rfl rfl rfl (Nat.le_of_ble_eq_true rfl) (Nat.le_of_ble_eq_true rfl) (Nat.le_of_ble_eq_true rfl) (fun r_578 S_578 q_578 => ?_)
            obtain ⟨rfl, b_578, k_578⟩ := q_578
            refine y_if_lt 616 dL_law_581 (by decide) (by omega) (fun c_581 => ?_) (fun c_581 => ?_)
            · refine x_iconst (v := nI 0) dL_law_616 (by decide) ?_
              refine x_zret rfl dL_law_617 (by decide) (by exfalso; first | omega | exact c_593 rfl)
            · refine x_aload_n 8 dL_law_584 rfl rfl ?_
              refine x_iconst (v := nI 3) dL_law_585 (by decide) ?_
              refine x_iload 1 dL_law_586 rfl ?_
              refine x_callVqi (as := [_, _]) (rest := []) vL_157 (c_creedL b_578 hO k_578 (show a ≤ 2 by omega) (by decide) (by decide)) dL_law_588 l0 rfl rfl rfl (Nat.le_of_ble_eq_true rfl) (Nat.le_of_ble_eq_true rfl) (Nat.le_of_ble_eq_true rfl) (fun r_588 S_588 q_588 => ?_)
              obtain ⟨rfl, b_588, k_588⟩ := q_588
              refine x_iload 0 dL_law_591 rfl ?_
              refine x_ic_ne 616 dL_law_593 (by decide) (fun c_593 => ?_) (fun c_593 => ?_)
              · refine x_iconst (v := nI 0) dL_law_616 (by decide) ?_
                refine x_zret rfl dL_law_617 (by decide) (by exfalso; first | omega | exact c_593 rfl)
              · refine x_aload_n 8 dL_law_596 rfl rfl ?_
                refine x_bipush (v := nI 6) dL_law_597 (by decide) ?_
                refine x_iload 1 dL_law_599 rfl ?_
                refine x_callVqi (as := [_, _]) (rest := []) vL_157 (c_creedL b_588 hO k_588 (show a ≤ 2 by omega) (by decide) (by decide)) dL_law_601 l0 rfl rfl rfl (Nat.le_of_ble_eq_true rfl) (Nat.le_of_ble_eq_true rfl) (Nat.le_of_ble_eq_true rfl) (fun r_601 S_601 q_601 => ?_)
                obtain ⟨rfl, b_601, k_601⟩ := q_601
                refine x_iload 0 dL_law_604 rfl ?_
                refine x_aload_n 8 dL_law_606 rfl rfl ?_
                refine x_iload 1 dL_law_607 rfl ?_
                refine x_callVqi (as := [_]) (rest := [_, _]) vL_154 (c_handL b_601 hO k_601 (show a ≤ 2 by omega)) dL_law_609 l0 rfl rfl rfl (Nat.le_of_ble_eq_true rfl) (Nat.le_of_ble_eq_true rfl) (Nat.le_of_ble_eq_true rfl) (fun r_609 S_609 q_609 => ?_)
                obtain ⟨rfl, b_609, k_609⟩ := q_609
                refine x_iadd dL_law_612 ?_
                rw [hback]
                refine x_ic_ge 618 dL_law_613 (by decide) (fun c_613 => ?_) (fun c_613 => ?_)
                · refine x_iload 0 dL_law_618 rfl ?_
                  refine x_istore (lv' := [(9, _), (11, _), (10, _), (8, _), (5, _), (4, _), (3, _), (2, _), (1, _), (0, _)]) dL_law_620 (lt_ok rfl) rfl ?_
                  refine y_iinc (lv' := [(10, _), (9, _), (11, _), (8, _), (5, _), (4, _), (3, _), (2, _), (1, _), (0, _)]) 2 dL_law_622 rfl (lt_ok rfl) rfl ?_
                  refine x_goto 538 dL_law_625 (by decide) ?_
                  refine x_pick (lv' := [(10, _), (9, _), (8, _), (5, _), (4, _), (3, _), (2, _), (1, _), (0, _)]) [0, 1, 3, 4, 5, 6, 7, 8, 9] rfl ?_
                  exact ih (3 - (a + 1)) (by omega) (a + 1) _ _ _ rfl (by omega) (by omega) b_609 k_609
                · refine x_iconst (v := nI 0) dL_law_616 (by decide) ?_
                  refine x_zret rfl dL_law_617 (by decide) (by exfalso; first | omega | exact c_593 rfl)

set_option maxHeartbeats 4000000 in
set_option maxRecDepth 100000 in
theorem lw_V {sc : Sc} (hsc : sc.1 ≤ 260) {I : Isl} (hO : IOK I) (h4 : iM I ≤ 4) (h1 : 1 ≤ iP I) {c0 d : Nat} (hdp : (rD (fR I 3 c0) (rC (fR I 3 c0) - 1)) ≤ 100)  : ∀ (v : Nat) (S1 : St), (v ≤ iW I) → (LB I (digF c0) d S1) → (KP I c0 S1) → X 10 388 (mL_law2 sc) (qi (fun r S' => r = nI 1)) 451 [(9, .int (nI v)), (8, .int (nI ((sm (fun v => iV I v 3) v)))), (7, .int (nI ((rD (fR I 3 c0) (rC (fR I 3 c0) - 1))))), (5, .int (nI 3)), (4, .int (nI ((iM I)))), (3, .int (nI ((iP I)))), (2, .ref 83), (1, .ref 0), (0, .ref 201)] [] S1 := by
  intro v S1
  induction hm : iW I - v using Nat.strongRecOn generalizing v S1 with
  | _ mm ih =>
    intro hv hb hk
    have hO1 := hO.1
    have hO2 := hO.2.1
    have hO3 := hO.2.2.1
    have hdb := dbF_lt (I := I) (w := digF c0) (n := iW I) (by omega)
    have hbit : v < iW I → (dbF I (digF c0) (iW I) / 2 ^ v % 2 = 1 ↔ canF I (digF c0) v) := fun q => has_iff.trans (dbF_bit.trans ⟨fun z => z.2, fun z => ⟨q, z⟩⟩)
    have htot : sm (fun v => iV I v 3) v ≤ 9 * v := sm_le (fun i hi => (hO.2.2.2.2.2.2.2.2 i (by omega)).2.2.2.2.2)
    have hiv := fun q => (hO.2.2.2.2.2.2.2.2 v q).2.2.2.2.2
    have hneg : (-1 : Int32).toInt = -1 := by decide
    refine x_iload 0 dL_law_451 rfl ?_
    refine x_aload_n 6 dL_law_453 rfl rfl ?_
    refine x_bipush (v := nI 12) dL_law_454 (by decide) ?_
    refine y_iald dL_law_456 l83 (by omega) (by decide) hb.2.2.2.1.2.2.1 ?_
    refine y_ic_ge 532 dL_law_457 (by decide) (by omega) (by omega) (fun c_457 => ?_) (fun c_457 => ?_)
    · refine x_iconst (v := -1) dL_law_532 (by decide) ?_
      refine x_istore (lv' := [(9, _), (8, _), (7, _), (5, _), (4, _), (3, _), (2, _), (1, _), (0, _)]) dL_law_533 (lt_ok rfl) rfl ?_
      refine x_iconst (v := nI 0) dL_law_535 (by decide) ?_
      refine x_istore (lv' := [(10, _), (9, _), (8, _), (7, _), (5, _), (4, _), (3, _), (2, _), (1, _), (0, _)]) dL_law_536 (lt_ok rfl) rfl ?_
      refine x_pick (lv' := [(10, _), (9, _), (8, _), (5, _), (4, _), (3, _), (2, _), (1, _), (0, _)]) [0, 1, 2, 4, 5, 6, 7, 8, 9] rfl ?_
      obtain rfl : v = iW I := by omega
      exact lw_D hsc hO h4 h1 0 _ _ _ (by decide) (by rw [hneg]; have := vI_i (n := dyA I 3 c0 0) (by have := dyA_all (I := I) (L := 3) (c0 := c0) (a := 0) hO; have := tot_le hO; omega); omega) hb hk
    · refine x_aload_n 7 dL_law_460 rfl rfl ?_
      refine x_iload 0 dL_law_461 rfl ?_
      refine x_callVqi (as := [_]) (rest := []) vL_145 (c_tillL hb hO hk (show v < iW I by omega)) dL_law_463 l0 rfl rfl rfl (Nat.le_of_ble_eq_true rfl) (Nat.le_of_ble_eq_true rfl) (Nat.le_of_ble_eq_true rfl) (fun r_463 S_463 q_463 => ?_)
      obtain ⟨p_463, q2_463, b_463, k_463⟩ := q_463
      have hbt := hbit (by omega)
      have hi9 := hiv (by omega)
      refine x_istore (lv' := [(10, _), (9, _), (8, _), (7, _), (5, _), (4, _), (3, _), (2, _), (1, _), (0, _)]) dL_law_466 (lt_ok rfl) rfl ?_
      refine x_iload 2 dL_law_468 rfl ?_
      refine x_aload_n 7 dL_law_470 rfl rfl ?_
      refine x_bipush (v := nI 16) dL_law_471 (by decide) ?_
      refine x_iconst (v := nI 4) dL_law_473 (by decide) ?_
      refine x_iload 1 dL_law_474 rfl ?_
      refine y_imul dL_law_476 ?_
      refine y_iadd dL_law_477 ?_
      refine y_iald dL_law_478 l83 (by omega) (by decide) (b_463.2.2.2.1.2.2.2 v (by omega)) ?_
      refine y_iadd dL_law_479 ?_
      refine x_istore (lv' := [(8, _), (10, _), (9, _), (7, _), (5, _), (4, _), (3, _), (2, _), (1, _), (0, _)]) dL_law_480 (lt_ok rfl) rfl ?_
      refine x_aload_n 8 dL_law_482 rfl rfl ?_
      refine x_callVqi (as := []) (rest := []) vL_148 (c_canL b_463 hO) dL_law_483 l0 rfl rfl rfl (Nat.le_of_ble_eq_true rfl) (Nat.le_of_ble_eq_true rfl) (Nat.le_of_ble_eq_true rfl) (fun r_483 S_483 q_483 => ?_)
      obtain ⟨rfl, x_483⟩ := q_483
      refine x_istore (lv' := [(11, _), (8, _), (10, _), (9, _), (7, _), (5, _), (4, _), (3, _), (2, _), (1, _), (0, _)]) dL_law_486 (lt_ok rfl) rfl ?_
      refine x_iload 2 dL_law_488 rfl ?_
      refine x_if_ne 497 dL_law_490 (by decide) (fun c_490 => ?_) (fun c_490 => ?_)
      · refine x_iconst (v := nI 0) dL_law_497 (by decide) ?_
        refine x_iload 0 dL_law_498 rfl ?_
        refine x_iload 3 dL_law_500 rfl ?_
        refine y_ishr dL_law_502 (by omega) (by omega) ?_
        refine x_iconst (v := nI 1) dL_law_503 (by decide) ?_
        refine y_iand dL_law_504 ?_
        rw [show (((dbF I (digF c0) (iW I)) / 2 ^ v) &&& 1) = (dbF I (digF c0) (iW I) / 2 ^ v % 2) from by rw [Nat.and_one_is_mod]]
        refine x_iconst (v := nI 1) dL_law_505 (by decide) ?_
        refine y_ic_ne 513 dL_law_506 (by decide) (by omega) (by omega) (fun c_506 => ?_) (fun c_506 => ?_)
        · refine x_iconst (v := nI 0) dL_law_513 (by decide) ?_
          refine y_ic_ne 524 dL_law_514 (by decide) (by omega) (by omega) (fun c_514 => ?_) (fun c_514 => ?_)
          · refine x_iconst (v := nI 0) dL_law_524 (by decide) ?_
            refine x_zret rfl dL_law_525 (by decide) (by exfalso; first | omega | exact c_490 (p_463.mpr (hbt.mp c_506)) | exact c_506 (hbt.mpr (p_463.mp c_490)))
          · refine x_iload 2 dL_law_517 rfl ?_
            refine x_iload 4 dL_law_519 rfl ?_
            refine z_ic_le 526 dL_law_521 (by decide) (by omega) (fun c_521 => ?_) (fun c_521 => ?_)
            · refine y_iinc (lv' := [(9, _), (11, _), (8, _), (10, _), (7, _), (5, _), (4, _), (3, _), (2, _), (1, _), (0, _)]) 3 dL_law_526 rfl (lt_ok rfl) rfl ?_
              refine x_goto 451 dL_law_529 (by decide) ?_
              refine x_pick (lv' := [(9, _), (8, _), (7, _), (5, _), (4, _), (3, _), (2, _), (1, _), (0, _)]) [0, 2, 4, 5, 6, 7, 8, 9, 10] rfl ?_
              exact ih (iW I - (v + 1)) (by omega) (v + 1) _ rfl (by omega) (b_463.as x_483) (k_463.keep (fun a b q => x_483.2 a b (by omega)))
            · refine x_iconst (v := nI 0) dL_law_524 (by decide) ?_
              refine x_zret rfl dL_law_525 (by decide) (by exfalso; first | omega | exact c_490 (p_463.mpr (hbt.mp c_506)) | exact c_506 (hbt.mpr (p_463.mp c_490)))
        · refine x_iconst (v := nI 1) dL_law_509 (by decide) ?_
          refine x_goto 514 dL_law_510 (by decide) ?_
          refine y_ic_ne 524 dL_law_514 (by decide) (by omega) (by omega) (fun c_514 => ?_) (fun c_514 => ?_)
          · refine x_iconst (v := nI 0) dL_law_524 (by decide) ?_
            refine x_zret rfl dL_law_525 (by decide) (by exfalso; first | omega | exact c_490 (p_463.mpr (hbt.mp c_506)) | exact c_506 (hbt.mpr (p_463.mp c_490)))
          · refine x_iload 2 dL_law_517 rfl ?_
            refine x_iload 4 dL_law_519 rfl ?_
            refine z_ic_le 526 dL_law_521 (by decide) (by omega) (fun c_521 => ?_) (fun c_521 => ?_)
            · refine y_iinc (lv' := [(9, _), (11, _), (8, _), (10, _), (7, _), (5, _), (4, _), (3, _), (2, _), (1, _), (0, _)]) 3 dL_law_526 rfl (lt_ok rfl) rfl ?_
              refine x_goto 451 dL_law_529 (by decide) ?_
              refine x_pick (lv' := [(9, _), (8, _), (7, _), (5, _), (4, _), (3, _), (2, _), (1, _), (0, _)]) [0, 2, 4, 5, 6, 7, 8, 9, 10] rfl ?_
              exact ih (iW I - (v + 1)) (by omega) (v + 1) _ rfl (by omega) (b_463.as x_483) (k_463.keep (fun a b q => x_483.2 a b (by omega)))
            · refine x_iconst (v := nI 0) dL_law_524 (by decide) ?_
              refine x_zret rfl dL_law_525 (by decide) (by exfalso; first | omega | exact c_490 (p_463.mpr (hbt.mp c_506)) | exact c_506 (hbt.mpr (p_463.mp c_490)))
      · refine x_iconst (v := nI 1) dL_law_493 (by decide) ?_
        refine x_goto 498 dL_law_494 (by decide) ?_
        refine x_iload 0 dL_law_498 rfl ?_
        refine x_iload 3 dL_law_500 rfl ?_
        refine y_ishr dL_law_502 (by omega) (by omega) ?_
        refine x_iconst (v := nI 1) dL_law_503 (by decide) ?_
        refine y_iand dL_law_504 ?_
        rw [show (((dbF I (digF c0) (iW I)) / 2 ^ v) &&& 1) = (dbF I (digF c0) (iW I) / 2 ^ v % 2) from by rw [Nat.and_one_is_mod]]
        refine x_iconst (v := nI 1) dL_law_505 (by decide) ?_
        refine y_ic_ne 513 dL_law_506 (by decide) (by omega) (by omega) (fun c_506 => ?_) (fun c_506 => ?_)
        · refine x_iconst (v := nI 0) dL_law_513 (by decide) ?_
          refine y_ic_ne 524 dL_law_514 (by decide) (by omega) (by omega) (fun c_514 => ?_) (fun c_514 => ?_)
          · refine x_iconst (v := nI 0) dL_law_524 (by decide) ?_
            refine x_zret rfl dL_law_525 (by decide) (by exfalso; first | omega | exact c_490 (p_463.mpr (hbt.mp c_506)) | exact c_506 (hbt.mpr (p_463.mp c_490)))
          · refine x_iload 2 dL_law_517 rfl ?_
            refine x_iload 4 dL_law_519 rfl ?_
            refine z_ic_le 526 dL_law_521 (by decide) (by omega) (fun c_521 => ?_) (fun c_521 => ?_)
            · refine y_iinc (lv' := [(9, _), (11, _), (8, _), (10, _), (7, _), (5, _), (4, _), (3, _), (2, _), (1, _), (0, _)]) 3 dL_law_526 rfl (lt_ok rfl) rfl ?_
              refine x_goto 451 dL_law_529 (by decide) ?_
              refine x_pick (lv' := [(9, _), (8, _), (7, _), (5, _), (4, _), (3, _), (2, _), (1, _), (0, _)]) [0, 2, 4, 5, 6, 7, 8, 9, 10] rfl ?_
              exact ih (iW I - (v + 1)) (by omega) (v + 1) _ rfl (by omega) (b_463.as x_483) (k_463.keep (fun a b q => x_483.2 a b (by omega)))
            · refine x_iconst (v := nI 0) dL_law_524 (by decide) ?_
              refine x_zret rfl dL_law_525 (by decide) (by exfalso; first | omega | exact c_490 (p_463.mpr (hbt.mp c_506)) | exact c_506 (hbt.mpr (p_463.mp c_490)))
        · refine x_iconst (v := nI 1) dL_law_509 (by decide) ?_
          refine x_goto 514 dL_law_510 (by decide) ?_
          refine y_ic_ne 524 dL_law_514 (by decide) (by omega) (by omega) (fun c_514 => ?_) (fun c_514 => ?_)
          · refine x_iconst (v := nI 0) dL_law_524 (by decide) ?_
            refine x_zret rfl dL_law_525 (by decide) (by exfalso; first | omega | exact c_490 (p_463.mpr (hbt.mp c_506)) | exact c_506 (hbt.mpr (p_463.mp c_490)))
          · refine x_iload 2 dL_law_517 rfl ?_
            refine x_iload 4 dL_law_519 rfl ?_
            refine z_ic_le 526 dL_law_521 (by decide) (by omega) (fun c_521 => ?_) (fun c_521 => ?_)
            · refine y_iinc (lv' := [(9, _), (11, _), (8, _), (10, _), (7, _), (5, _), (4, _), (3, _), (2, _), (1, _), (0, _)]) 3 dL_law_526 rfl (lt_ok rfl) rfl ?_
              refine x_goto 451 dL_law_529 (by decide) ?_
              refine x_pick (lv' := [(9, _), (8, _), (7, _), (5, _), (4, _), (3, _), (2, _), (1, _), (0, _)]) [0, 2, 4, 5, 6, 7, 8, 9, 10] rfl ?_
              exact ih (iW I - (v + 1)) (by omega) (v + 1) _ rfl (by omega) (b_463.as x_483) (k_463.keep (fun a b q => x_483.2 a b (by omega)))
            · refine x_iconst (v := nI 0) dL_law_524 (by decide) ?_
              refine x_zret rfl dL_law_525 (by decide) (by exfalso; first | omega | exact c_490 (p_463.mpr (hbt.mp c_506)) | exact c_506 (hbt.mpr (p_463.mp c_490)))

set_option maxHeartbeats 4000000 in
set_option maxRecDepth 100000 in
theorem lw_G {sc : Sc} (hsc : sc.1 ≤ 260) {I : Isl} (hO : IOK I) (h4 : iM I ≤ 4) (h1 : 1 ≤ iP I) {c0 d : Nat} {w v : Nat → Nat} (hns : (rC (fR I 3 c0)) ≤ 8525) (hdp : (rD (fR I 3 c0) (rC (fR I 3 c0) - 1)) ≤ 100) (hvv : VS I v 3) (hc : codeF I v = c0) {S1 : St} (hb : LB I w d S1) (hk : KP I c0 S1) (hm : IM I v S1)  : X 10 388 (mL_law2 sc) (qi (fun r S' => r = nI 1)) 413 [(7, .int (nI ((rD (fR I 3 c0) (rC (fR I 3 c0) - 1))))), (6, .int (nI ((rC (fR I 3 c0))))), (5, .int (nI 3)), (4, .int (nI ((iM I)))), (3, .int (nI ((iP I)))), (2, .ref 83), (1, .ref 0), (0, .ref 201)] [.int (nI 1)] S1 := by
  have hO1 := hO.1
  have hO2 := hO.2.1
  refine y_if_eq 443 dL_law_413 (by decide) (by omega) (fun c_413 => ?_) (fun c_413 => ?_)
  · refine x_iconst (v := nI 0) dL_law_443 (by decide) ?_
    refine x_zret rfl dL_law_444 (by decide) (by exfalso; omega)
  · refine x_aload_n 6 dL_law_416 rfl rfl ?_
    refine x_iconst (v := nI 4) dL_law_417 (by decide) ?_
    refine x_callVqi (as := [_]) (rest := []) vL_142 (c_goneL hb hO hk hm hvv hc) dL_law_418 l0 rfl rfl rfl (Nat.le_of_ble_eq_true rfl) (Nat.le_of_ble_eq_true rfl) (Nat.le_of_ble_eq_true rfl) (fun r_418 S_418 q_418 => ?_)
    obtain ⟨rfl, b_418, k_418, m_418⟩ := q_418
    refine x_iconst (v := nI 1) dL_law_421 (by decide) ?_
    refine y_ic_ne 443 dL_law_422 (by decide) (by omega) (by omega) (fun c_422 => ?_) (fun c_422 => ?_)
    · refine x_iconst (v := nI 0) dL_law_443 (by decide) ?_
      refine x_zret rfl dL_law_444 (by decide) (by exfalso; omega)
    · refine x_aload_n 6 dL_law_425 rfl rfl ?_
      refine x_callVqi (as := []) (rest := []) vL_135 (c_allL b_418 hO k_418 m_418 (code_dig hk.1.1)) dL_law_426 l0 rfl rfl rfl (Nat.le_of_ble_eq_true rfl) (Nat.le_of_ble_eq_true rfl) (Nat.le_of_ble_eq_true rfl) (fun r_426 S_426 q_426 => ?_)
      obtain ⟨rfl, e_426, b_426, k_426, m_426⟩ := q_426
      refine x_iload 1 dL_law_429 rfl ?_
      refine y_ic_ne 443 dL_law_431 (by decide) (by omega) (by omega) (fun c_431 => ?_) (fun c_431 => ?_)
      · refine x_iconst (v := nI 0) dL_law_443 (by decide) ?_
        refine x_zret rfl dL_law_444 (by decide) (by exfalso; omega)
      · refine x_aload_n 6 dL_law_434 rfl rfl ?_
        refine x_callVu (as := []) (rest := []) vL_83 (c_askedA e_426) dL_law_435 l0 rfl rfl rfl (Nat.le_of_ble_eq_true rfl) (Nat.le_of_ble_eq_true rfl) (Nat.le_of_ble_eq_true rfl) ?_
        refine x_iload 0 dL_law_438 rfl ?_
        refine y_ic_eq 445 dL_law_440 (by decide) (by omega) (by omega) (fun c_440 => ?_) (fun c_440 => ?_)
        · refine x_iconst (v := nI 0) dL_law_445 (by decide) ?_
          refine x_istore (lv' := [(8, _), (7, _), (6, _), (5, _), (4, _), (3, _), (2, _), (1, _), (0, _)]) dL_law_446 (lt_ok rfl) rfl ?_
          refine x_iconst (v := nI 0) dL_law_448 (by decide) ?_
          refine x_istore (lv' := [(9, _), (8, _), (7, _), (6, _), (5, _), (4, _), (3, _), (2, _), (1, _), (0, _)]) dL_law_449 (lt_ok rfl) rfl ?_
          refine x_pick (lv' := [(9, _), (8, _), (7, _), (5, _), (4, _), (3, _), (2, _), (1, _), (0, _)]) [0, 1, 2, 4, 5, 6, 7, 8, 9] rfl ?_
          exact lw_V hsc hO h4 h1 hdp 0 _ (Nat.zero_le _) b_426 k_426
        · refine x_iconst (v := nI 0) dL_law_443 (by decide) ?_
          refine x_zret rfl dL_law_444 (by decide) (by exfalso; omega)

set_option maxHeartbeats 4000000 in
set_option maxRecDepth 100000 in
theorem lw_K {sc : Sc} (hsc : sc.1 ≤ 260) {I : Isl} (hO : IOK I) (h4 : iM I ≤ 4) (h1 : 1 ≤ iP I) {w : Nat → Nat} {d : Nat} (hd : d ≤ 6) {S1 : St} (hg : GP I w d S1)  : X 10 388 (mL_law sc) (qi (fun r S' => r = nI 1)) 356 [(5, .int (nI 3)), (4, .int (nI ((iM I)))), (3, .int (nI ((iP I)))), (2, .ref 83), (1, .ref 0), (0, .ref 201)] [] S1 := by
  have hO1 := hO.1
  have hO2 := hO.2.1
  have h0 := OKc.code hO hg.1.2.2.1.1
  have hns : rC (fR I 3 (codeF I w)) ≤ 8525 := (roomy hO h0).1 _ (bN_ok hO h0).1
  have hinv := fR_inv hO h0
  have hpos := hinv.1.1
  have hdp := depth60 hO h0 (rC (fR I 3 (codeF I w)) - 1) (by omega)
  have hdl := hinv.dle (rC (fR I 3 (codeF I w)) - 1) (by omega)
  refine x_aload_n 4 dL_law_356 rfl rfl ?_
  refine x_iconst (v := nI 0) dL_law_357 (by decide) ?_
  refine x_callVqi (as := [_]) (rest := []) vL_129 (c_keepL hg hO h1) dL_law_358 l0 rfl rfl rfl (Nat.le_of_ble_eq_true rfl) (Nat.le_of_ble_eq_true rfl) (Nat.le_of_ble_eq_true rfl) (fun r_358 S_358 q_358 => ?_)
  obtain ⟨rfl, b_358, k_358⟩ := q_358
  refine y_if_lt 376 dL_law_361 (by decide) (by omega) (fun c_361 => ?_) (fun c_361 => ?_)
  · refine x_iconst (v := nI 0) dL_law_376 (by decide) ?_
    refine x_zret rfl dL_law_377 (by decide) (by exfalso; omega)
  · refine x_aload_n 4 dL_law_364 rfl rfl ?_
    refine x_iconst (v := nI 4) dL_law_365 (by decide) ?_
    refine x_callVqi (as := [_]) (rest := []) vL_132 (c_imageL b_358 hO k_358) dL_law_366 l0 rfl rfl rfl (Nat.le_of_ble_eq_true rfl) (Nat.le_of_ble_eq_true rfl) (Nat.le_of_ble_eq_true rfl) (fun r_366 S_366 q_366 => ?_)
    obtain ⟨rfl, b_366, k_366, m_366⟩ := q_366
    refine x_iload 1 dL_law_369 rfl ?_
    refine x_iconst (v := nI 1) dL_law_371 (by decide) ?_
    refine y_iadd dL_law_372 ?_
    refine y_ic_eq 378 dL_law_373 (by decide) (by omega) (by omega) (fun c_373 => ?_) (fun c_373 => ?_)
    · refine x_aload_n 4 dL_law_378 rfl rfl ?_
      refine x_callVqi (as := []) (rest := []) vL_135 (c_allL b_366 hO k_366 m_366 rfl) dL_law_379 l0 rfl rfl rfl (Nat.le_of_ble_eq_true rfl) (Nat.le_of_ble_eq_true rfl) (Nat.le_of_ble_eq_true rfl) (fun r_379 S_379 q_379 => ?_)
      obtain ⟨rfl, e_379, b_379, k_379, m_379⟩ := q_379
      refine x_istore (lv' := [(6, _), (5, _), (4, _), (3, _), (2, _), (1, _), (0, _)]) dL_law_382 (lt_ok rfl) rfl ?_
      refine x_aload_n 5 dL_law_384 rfl rfl ?_
      refine x_callVu (as := []) (rest := []) vL_83 (c_askedA e_379) dL_law_385 l0 rfl rfl rfl (Nat.le_of_ble_eq_true rfl) (Nat.le_of_ble_eq_true rfl) (Nat.le_of_ble_eq_true rfl) ?_
      refine x_istore (lv' := [(7, _), (6, _), (5, _), (4, _), (3, _), (2, _), (1, _), (0, _)]) dL_law_388 (lt_ok rfl) rfl ?_
      refine x_iload 1 dL_law_390 rfl ?_
      refine x_iconst (v := nI 1) dL_law_392 (by decide) ?_
      refine y_ic_lt 443 dL_law_393 (by decide) (by omega) (by omega) (fun c_393 => ?_) (fun c_393 => ?_)
      · refine x_iconst (v := nI 0) dL_law_443 (by decide) ?_
        refine x_zret rfl dL_law_444 (by decide) (by exfalso; omega)
      · refine x_iload 0 dL_law_396 rfl ?_
        refine x_iload 1 dL_law_398 rfl ?_
        refine y_ic_ge 443 dL_law_400 (by decide) (by omega) (by omega) (fun c_400 => ?_) (fun c_400 => ?_)
        · refine x_iconst (v := nI 0) dL_law_443 (by decide) ?_
          refine x_zret rfl dL_law_444 (by decide) (by exfalso; omega)
        · refine x_aload_n 6 dL_law_403 rfl rfl ?_
          refine x_aload_n 7 dL_law_404 rfl rfl ?_
          refine x_iload_n 4 dL_law_405 rfl rfl ?_
          refine x_iload 3 dL_law_406 rfl ?_
          refine x_iload 0 dL_law_408 rfl ?_
          refine x_callW (M' := mL_wanted sc) (as := [_, _, _, _, _]) (rest := []) rfl rfl rfl rfl sL_138 (c_L_wanted hsc b_379.1 hO h4 hd k_379 rfl (by omega) b_379.2.2.1 b_379.2.2.2.2.1 b_379.2.2.2.2.2.1) dL_law_410 rfl rfl (Nat.le_of_ble_eq_true rfl) (Nat.le_of_ble_eq_true rfl) (Nat.le_of_ble_eq_true rfl) (fun v_410 S_410 q_410 => ?_)
          obtain ⟨r_410, rfl, rfl, wb_410, w2, d2, p_410⟩ := q_410
          obtain ⟨b_410, k_410, m_410⟩ := wb_410.lb b_379 k_379 m_379 p_410
          exact lw_G hsc hO h4 h1 hns (by omega) hg.1.2.2.1.1 rfl b_410 k_410 m_410
    · refine x_iconst (v := nI 0) dL_law_376 (by decide) ?_
      refine x_zret rfl dL_law_377 (by decide) (by exfalso; omega)

set_option maxHeartbeats 4000000 in
set_option maxRecDepth 100000 in
theorem c_law {sc : Sc} (hsc : sc.1 ≤ 260) {S : St} (hS4 : RwS 6 4 100 S) (hS3 : RwS 3 6 60 S) (hB : ByX S) (hR : ∃ R, StX R S)  : X 10 388 (mL_law sc) (qi (fun r S' => r = nI 1)) 13 [(2, .ref 83), (1, .ref 0), (0, .ref 201)] [] S := by
  refine x_aload_n 2 dL_law_13 rfl rfl ?_
  refine x_bipush (v := nI 10) dL_law_14 (by decide) ?_
  refine x_iconst (v := nI 4) dL_law_16 (by decide) ?_
  refine x_aload_n 0 dL_law_17 rfl rfl ?_
  refine x_callSqv (as := [_, _, _, _]) (rest := []) sL_100 (c_L_numbers hsc) dL_law_18 rfl rfl (Nat.le_of_ble_eq_true rfl) (Nat.le_of_ble_eq_true rfl) (Nat.le_of_ble_eq_true rfl) (fun S_18 q_18 => ?_)
  obtain ⟨f_18, n0, m, kd, pl, k, V, ⟨h1, h2⟩, h3, h5, h6, h7, h8⟩ := q_18
  have e_18 : ∀ a b, ¬ a = 83 → S_18.1 a b = S.1 a b := fun a b q => f_18.2 a q b
  refine x_aload_n 1 dL_law_21 rfl rfl ?_
  refine x_aload_n 0 dL_law_22 rfl rfl ?_
  refine x_callSqi (as := [_, _]) (rest := []) sL_104 (c_L_island h1 h2 h3 h5 h6 h7 h8 (hS4.keep (e_18 6 0 (by decide)) (fun r _ => e_18 7 r (by decide))) (fun j hj => by rw [e_18 8 j (by decide)]; exact hB j hj)) dL_law_23 rfl rfl (Nat.le_of_ble_eq_true rfl) (Nat.le_of_ble_eq_true rfl) (Nat.le_of_ble_eq_true rfl) (fun r_23 S_23 q_23 => ?_)
  obtain ⟨rfl, I, ⟨rfl, rfl, rfl, hV⟩, hPI, i_I, i_T, i_P, ⟨i_L, i_9, i_0, i_3, i_K⟩, i_2, i_f, i_w, i_b⟩ := q_23
  have hf : ∀ a b, (3 ≤ a ∧ a ≤ 5) ∨ (40 ≤ a ∧ a ≤ 59) ∨ (68 ≤ a ∧ a ≤ 73) ∨ a = 83 → S_23.1 a b = S_18.1 a b := fun a b q => i_f a b (by unfold FIs FRe; omega) (by unfold F78; omega) (by omega) (by omega) (by omega)
  obtain ⟨R, hR⟩ := hR
  have hsr : SrX I S_23 := ⟨⟨R, hR.fr (fun a a1 a2 b => (hf a b (by omega)).trans (e_18 a b (by omega)))⟩, Or.inl i_9⟩
  have hg83 : G83 I S_23 := ⟨(hf 83 0 (by omega)).trans h8.1.1, (hf 83 1 (by omega)).trans h8.1.2.1, (hf 83 12 (by omega)).trans h8.2.1, fun w hw => (hf 83 _ (by omega)).trans ((h8.V hw (j := 3) (by decide) (by omega)).trans (by rw [hV w hw]))⟩
  have hgp : GP I (iS I) 0 S_23 := ⟨⟨i_I, i_T, ⟨hPI.VS, i_P, i_L, i_0⟩, hg83, hS3.keep ((hf 3 0 (by omega)).trans (e_18 3 0 (by decide))) (fun r _ => (hf 4 r (by omega)).trans (e_18 4 r (by decide))), hsr, i_3⟩, ⟨fun _ => iS I, fun _ => 0, fun _ => 0, rfl, fun i hi => absurd hi (Nat.not_lt_zero i), fun i hi => absurd hi (Nat.not_lt_zero i)⟩, i_K, i_w⟩
  have hO := hPI.1
  have hO1 := hO.1
  refine y_if_ne 31 dL_law_26 (by decide) (by omega) (fun c_26 => ?_) (fun c_26 => ?_)
  · refine x_aload_n 0 dL_law_31 rfl rfl ?_
    refine x_iconst (v := nI 0) dL_law_32 (by decide) ?_
    refine y_iald dL_law_33 l83 (by omega) (by decide) hg83.1 ?_
    refine x_istore_n (lv' := [(3, _), (2, _), (1, _), (0, _)]) dL_law_34 rfl (lt_ok rfl) rfl ?_
    refine x_aload_n 1 dL_law_35 rfl rfl ?_
    refine x_iconst (v := nI 1) dL_law_36 (by decide) ?_
    refine y_iald dL_law_37 l83 (by omega) (by decide) hg83.2.1 ?_
    refine x_istore (lv' := [(4, _), (3, _), (2, _), (1, _), (0, _)]) dL_law_38 (lt_ok rfl) rfl ?_
    refine x_iconst (v := nI 3) dL_law_40 (by decide) ?_
    refine x_istore (lv' := [(5, _), (4, _), (3, _), (2, _), (1, _), (0, _)]) dL_law_41 (lt_ok rfl) rfl ?_
    refine x_iconst (v := nI 0) dL_law_43 (by decide) ?_
    refine x_istore (lv' := [(6, _), (5, _), (4, _), (3, _), (2, _), (1, _), (0, _)]) dL_law_44 (lt_ok rfl) rfl ?_
    refine x_pick (lv' := [(6, _), (5, _), (4, _), (3, _), (2, _), (1, _), (0, _)]) [0, 1, 2, 3, 4, 5, 6] rfl ?_
    exact lw_T hsc hO h3 h1 (fun w d S1 q1 q2 => lw_K hsc hO h3 h1 q1 q2) 0 (iS I) 0 _ (by decide) (Nat.le_refl _) hgp
  · refine x_iconst (v := nI 0) dL_law_29 (by decide) ?_
    refine x_zret rfl dL_law_30 (by decide) (by exfalso; omega)
