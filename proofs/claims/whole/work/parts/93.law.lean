/-! ===== the law's loop ===== -/
abbrev LwM : MD := (RL, code, 4, ret)
abbrev LwA (s : State) : Nat → Prop := fun q => s.heap.size ≤ q
/-- what holds all along the law -/
def LwC (p : Program) (s : State) (m : MethodId) (meth : Method) (c : Code) (b L : Nat) (xs : Nat → Int32) (cells slots : Nat) (Γ : Gm) : Prop :=
  Cx 10 366 LwM p room_1 s m #[Value.ref b] meth c cells slots Γ (LwA s) ∧ va_X b L xs s s.heap ∧ b < s.heap.size ∧ Γ.2.1 201 = b ∧ L ≤ 3072
def LwX (p : Program) (l : Launch) (e : Env) (s : State) (m : MethodId) (below : List Frame) (meth : Method) (c : Code) (b cells slots : Nat) (Γ : Gm) (Z : State → Prop) (pc : Nat) (lv : List (Nat × Value)) (st : List Value) (S : St) : Prop :=
  ∀ (H : Heap) (locs : List Loc) (ls : Array Slot), Wd Γ (LwA s) S s.heap H locs → lv_has ls 4 (lvm Γ.2.1 lv) → W p l e room_1 s m #[Value.ref b] below meth c H locs cells slots Z (F0 m pc ls (st.map (cv Γ.2.1)))
section LW
variable {p : Program} {l : Launch} {e : Env} {s : State} {m : MethodId} {below : List Frame} {meth : Method} {c : Code} {b L cells slots : Nat} {xs : Nat → Int32} {Γ : Gm} {Z : State → Prop} {pc : Nat} {lv : List (Nat × Value)} {st : List Value} {S : St}
theorem l_iconst (hC : LwC p s m meth c b L xs cells slots Γ) {n : Int} {v : Int32} (hd : decode code pc = .ok (.iconst n, 1)) (hv : Int32.ofInt n = v) (kk : LwX p l e s m below meth c b cells slots Γ Z (pc + 1) lv (.int v :: st) S) : LwX p l e s m below meth c b cells slots Γ Z pc lv st S := fun H locs ls hW hL => lv_iconst hC.1.1 hC.1.2.1 hd hv (kk H locs ls hW hL)
theorem l_bipush (hC : LwC p s m meth c b L xs cells slots Γ) {n : Int} {v : Int32} (hd : decode code pc = .ok (.bipush n, 2)) (hv : (Int8.ofInt n).toInt32 = v) (kk : LwX p l e s m below meth c b cells slots Γ Z (pc + 2) lv (.int v :: st) S) : LwX p l e s m below meth c b cells slots Γ Z pc lv st S := fun H locs ls hW hL => lv_bipush hC.1.1 hC.1.2.1 hd hv (kk H locs ls hW hL)
theorem l_iload_n (hC : LwC p s m meth c b L xs cells slots Γ) {k : Fin 4} {i : Nat} {v : Int32} (n : Nat) (hd : decode code pc = .ok (.iload_n k, 1)) (hi : (k : Nat) = i) (h : lv[n]? = some (i, .int v)) (kk : LwX p l e s m below meth c b cells slots Γ Z (pc + 1) lv (.int v :: st) S) : LwX p l e s m below meth c b cells slots Γ Z pc lv st S := fun H locs ls hW hL => lv_iload_n hC.1.1 hC.1.2.1 hd hi (lv_at hL n (lvm_at h)) (kk H locs ls hW hL)
theorem l_aload_n (hC : LwC p s m meth c b L xs cells slots Γ) {k : Fin 4} {i : Nat} {v : Nat} (n : Nat) (hd : decode code pc = .ok (.aload_n k, 1)) (hi : (k : Nat) = i) (h : lv[n]? = some (i, .ref v)) (kk : LwX p l e s m below meth c b cells slots Γ Z (pc + 1) lv (.ref v :: st) S) : LwX p l e s m below meth c b cells slots Γ Z pc lv st S := fun H locs ls hW hL => lv_aload_n hC.1.1 hC.1.2.1 hd hi (lv_at hL n (lvm_at h)) (kk H locs ls hW hL)
theorem l_iadd (hC : LwC p s m meth c b L xs cells slots Γ) {x y : Int32} (hd : decode code pc = .ok (.iadd, 1)) (kk : LwX p l e s m below meth c b cells slots Γ Z (pc + 1) lv (.int (x + y) :: st) S) : LwX p l e s m below meth c b cells slots Γ Z pc lv (.int y :: .int x :: st) S := fun H locs ls hW hL => lv_iadd hC.1.1 hC.1.2.1 hd (kk H locs ls hW hL)
theorem l_isub (hC : LwC p s m meth c b L xs cells slots Γ) {x y : Int32} (hd : decode code pc = .ok (.isub, 1)) (kk : LwX p l e s m below meth c b cells slots Γ Z (pc + 1) lv (.int (x - y) :: st) S) : LwX p l e s m below meth c b cells slots Γ Z pc lv (.int y :: .int x :: st) S := fun H locs ls hW hL => lv_isub hC.1.1 hC.1.2.1 hd (kk H locs ls hW hL)
theorem l_iand (hC : LwC p s m meth c b L xs cells slots Γ) {x y : Int32} (hd : decode code pc = .ok (.iand, 1)) (kk : LwX p l e s m below meth c b cells slots Γ Z (pc + 1) lv (.int (x &&& y) :: st) S) : LwX p l e s m below meth c b cells slots Γ Z pc lv (.int y :: .int x :: st) S := fun H locs ls hW hL => lv_iand hC.1.1 hC.1.2.1 hd (kk H locs ls hW hL)
theorem l_lcmp (hC : LwC p s m meth c b L xs cells slots Γ) {x y : Int64} (hd : decode code pc = .ok (.lcmp, 1)) (kk : LwX p l e s m below meth c b cells slots Γ Z (pc + 1) lv (.int (lg_cmp x y) :: st) S) : LwX p l e s m below meth c b cells slots Γ Z pc lv (.long y :: .long x :: st) S := fun H locs ls hW hL => W.lcmp hC.1.1 hC.1.2.1 hd (kk H locs ls hW hL)
theorem l_goto (hC : LwC p s m meth c b L xs cells slots Γ) {off : Int} (tgt : Nat) (hd : decode code pc = .ok (.goto off, 3)) (ht : (pc : Int) + off = (tgt : Int)) (kk : LwX p l e s m below meth c b cells slots Γ Z tgt lv st S) : LwX p l e s m below meth c b cells slots Γ Z pc lv st S := fun H locs ls hW hL => lv_goto hC.1.1 hC.1.2.1 hd ht (kk H locs ls hW hL)
theorem l_iinc (hC : LwC p s m meth c b L xs cells slots Γ) {i : Nat} {z : Int} {x v : Int32} {lv' : List (Nat × Value)} (n : Nat) (hd : decode code pc = .ok (.iinc i z, 3)) (h : lv[n]? = some (i, .int x)) (hv : x + Int32.ofInt z = v) (hn : i < 4) (h' : st1 lv i (.int v) = lv') (kk : LwX p l e s m below meth c b cells slots Γ Z (pc + 3) lv' st S) : LwX p l e s m below meth c b cells slots Γ Z pc lv st S := fun H locs ls hW hL => lv_iinc (nL := 4) hC.1.1 hC.1.2.1 hd hL (lvm_at h) hv hn ((lvm_st1 Γ.2.1 lv i (.int v)).trans (by rw [h'])) (fun ls' hL' => kk H locs ls' hW hL')
theorem l_istore_n (hC : LwC p s m meth c b L xs cells slots Γ) {k : Fin 4} {i : Nat} {v : Int32} {lv' : List (Nat × Value)} (hd : decode code pc = .ok (.istore_n k, 1)) (hi : (k : Nat) = i) (hn : i < 4) (h : st1 lv i (.int v) = lv') (kk : LwX p l e s m below meth c b cells slots Γ Z (pc + 1) lv' st S) : LwX p l e s m below meth c b cells slots Γ Z pc lv (.int v :: st) S := fun H locs ls hW hL => lv_istore_n (nL := 4) hC.1.1 hC.1.2.1 hd hi hL hn ((lvm_st1 Γ.2.1 lv i (.int v)).trans (by rw [h])) (fun ls' hL' => kk H locs ls' hW hL')
theorem l_ic_eq (hC : LwC p s m meth c b L xs cells slots Γ) {x y : Int32} {off : Int} (tgt : Nat) (hd : decode code pc = .ok (.if_icmp .eq off, 3)) (ht : (pc : Int) + off = (tgt : Int)) (h : x = y) (kk : LwX p l e s m below meth c b cells slots Γ Z tgt lv st S) : LwX p l e s m below meth c b cells slots Γ Z pc lv (.int y :: .int x :: st) S := fun H locs ls hW hL => lv_icmp_eq hC.1.1 hC.1.2.1 hd ht (fun _ => kk H locs ls hW hL) (fun q => absurd h q)
theorem l_if_eq (hC : LwC p s m meth c b L xs cells slots Γ) {x : Int32} {off : Int} (tgt : Nat) (hd : decode code pc = .ok (.ifCond .eq off, 3)) (ht : (pc : Int) + off = (tgt : Int)) (h : x = 0) (kk : LwX p l e s m below meth c b cells slots Γ Z tgt lv st S) : LwX p l e s m below meth c b cells slots Γ Z pc lv (.int x :: st) S := fun H locs ls hW hL => lv_if_eq hC.1.1 hC.1.2.1 hd ht (fun _ => kk H locs ls hW hL) (fun q => absurd h q)
theorem l_ic_gt (hC : LwC p s m meth c b L xs cells slots Γ) {x y : Int32} {off : Int} (tgt : Nat) (hd : decode code pc = .ok (.if_icmp .gt off, 3)) (ht : (pc : Int) + off = (tgt : Int)) (kt : y.toInt < x.toInt → LwX p l e s m below meth c b cells slots Γ Z tgt lv st S) (kf : x.toInt ≤ y.toInt → LwX p l e s m below meth c b cells slots Γ Z (pc + 3) lv st S) : LwX p l e s m below meth c b cells slots Γ Z pc lv (.int y :: .int x :: st) S := fun H locs ls hW hL => lv_icmp_gt hC.1.1 hC.1.2.1 hd ht (fun q => kt (c_gt q) H locs ls hW hL) (fun q => kf (c_ngt q) H locs ls hW hL)
theorem l_tin (hC : LwC p s m meth c b L xs cells slots Γ) {x : Int32} {dflt lo' hi off : Int} {offs : Array Int} {len : Nat} (tgt : Nat) (hd : decode code pc = .ok (.tableswitch dflt lo' hi offs, len)) (h1 : ¬ x.toInt < lo') (h2 : ¬ hi < x.toInt) (ho : offs[(x.toInt - lo').toNat]? = some off) (ht : (pc : Int) + off = (tgt : Int)) (kk : LwX p l e s m below meth c b cells slots Γ Z tgt lv st S) : LwX p l e s m below meth c b cells slots Γ Z pc lv (.int x :: st) S := fun H locs ls hW hL => lv_tableIn hC.1.1 hC.1.2.1 hd h1 h2 ho ht (kk H locs ls hW hL)
theorem l_tout (hC : LwC p s m meth c b L xs cells slots Γ) {x : Int32} {dflt lo' hi : Int} {offs : Array Int} {len : Nat} (tgt : Nat) (hd : decode code pc = .ok (.tableswitch dflt lo' hi offs, len)) (h : x.toInt < lo' ∨ hi < x.toInt) (ht : (pc : Int) + dflt = (tgt : Int)) (kk : LwX p l e s m below meth c b cells slots Γ Z tgt lv st S) : LwX p l e s m below meth c b cells slots Γ Z pc lv (.int x :: st) S := fun H locs ls hW hL => lv_tableOut hC.1.1 hC.1.2.1 hd h ht (kk H locs ls hW hL)
theorem LwA_b (hC : LwC p s m meth c b L xs cells slots Γ) : ¬ LwA s b := fun q => Nat.not_lt.mpr q hC.2.2.1
theorem l_sld (hC : LwC p s m meth c b L xs cells slots Γ) {i : Nat} (hi : i < L) (hd : decode code pc = .ok (.iaload, 1)) (kk : LwX p l e s m below meth c b cells slots Γ Z (pc + 1) lv (.int (xs i) :: st) S) : LwX p l e s m below meth c b cells slots Γ Z pc lv (.int (nI i) :: .ref 201 :: st) S := fun H locs ls hW hL => by
  have hL9 := hC.2.2.2.2
  have ei : (nI i).toNatClampNeg = i := tcN (by omega)
  have kk2 := kk H locs ls hW hL
  show W p l e room_1 s m #[Value.ref b] below meth c H locs cells slots Z (F0 m pc ls (.int (nI i) :: .ref (Γ.2.1 201) :: st.map (cv Γ.2.1)))
  rw [hC.2.2.2.1]
  refine va_sld hC.1.1 hC.1.2.1 hC.2.1 hC.2.2.1 (LwA_b hC) hW.2.2 (fun q => ?_) hd (by rw [ei]; exact kk2)
  rcases q with q | q
  · have := c_lt0 q
    rw [tiN (by omega)] at this
    omega
  · rw [ei] at q; omega
theorem l_slen (hC : LwC p s m meth c b L xs cells slots Γ) (hd : decode code pc = .ok (.arraylength, 1)) (kk : LwX p l e s m below meth c b cells slots Γ Z (pc + 1) lv (.int (nI L) :: st) S) : LwX p l e s m below meth c b cells slots Γ Z pc lv (.ref 201 :: st) S := fun H locs ls hW hL => by
  have kk2 := kk H locs ls hW hL
  show W p l e room_1 s m #[Value.ref b] below meth c H locs cells slots Z (F0 m pc ls (.ref (Γ.2.1 201) :: st.map (cv Γ.2.1)))
  rw [hC.2.2.2.1]
  exact va_slen hC.1.1 hC.1.2.1 hC.2.1 hC.2.2.1 (LwA_b hC) hW.2.2 hd kk2
theorem l_core {Q' : Option Value → St → Prop} {a : Array Value} {stc rest : List Value} (hC : LwC p s m meth c b L xs cells slots Γ) {H : Heap} {locs : List Loc} {ls : Array Slot} (hW : Wd Γ (LwA s) S s.heap H locs) (hL : lv_has ls 4 (lvm Γ.2.1 lv))
    (hr : va_Run p l e room_1 s m #[Value.ref b] below meth c H locs cells slots 0 0 (F0 m pc ls stc) (rest.map (cv Γ.2.1)) (QA Γ (LwA s) Q' a) (LwA s))
    (kk : ∀ v S', Q' v S' → LwX p l e s m below meth c b cells slots Γ Z (pc + 3) lv (v.toList ++ rest) S') : W p l e room_1 s m #[Value.ref b] below meth c H locs cells slots Z (F0 m pc ls stc) := by
  intro T hT X
  obtain ⟨v, st₀, t, T', L', h0, X', hLf, e1, e2, ⟨⟨w, S', hv, hq, hP, hD⟩, hz, hk⟩, st⟩ := hr T hT X
  cases hv
  rw [h0] at hz hk
  have hS : va_S (LwA s) s.heap T'.heap (locs ++ L') := by
    refine ⟨Nat.le_trans hW.2.2.1 (by rw [e1]; exact hz), fun q h1 h2 => ?_, fun q hq => ?_⟩
    · rw [e1, hk q (Nat.lt_of_lt_of_le h1 hW.2.2.1) h2]
      exact hW.2.2.2.1 q h1 h2
    · rcases List.mem_append.mp hq with h | h
      · exact hW.2.2.2.2 q h
      · exact hLf q h
  obtain ⟨t2, a1, b1⟩ := kk w S' hq T'.heap (locs ++ L') ls ⟨by rw [e1]; exact hP, hD, hS⟩ hL T' rfl X'
  refine ⟨t2, st t2 ?_, b1⟩
  have e3 : (w.map (cv Γ.2.1)).toList ++ rest.map (cv Γ.2.1) = (w.toList ++ rest).map (cv Γ.2.1) := by cases w <;> simp
  rw [e3]
  exact a1
theorem l_callV (hC : LwC p s m meth c b L xs cells slots Γ) {fr' lo' idx n k ci : Nat} {y : MethodName} {M' : MD} {as rest : List Value} {fs : List FdX} {T : u_T} {N : Nat} {Q' : Option Value → St → Prop} (hm : CV RL idx y M' n) (hc : C fr' lo' y M' (.ref k :: as) S Q') (hd : decode code pc = .ok (.invokevirtual idx, 3)) (hl : LAY[k]? = some (.inl (ci, fs))) (hcl : vwCl[ci]? = some (y.cls, T, N)) (hn : as.length = n) (hst : st = as.reverse ++ .ref k :: rest) (hr : (rest.map fun v => v.category).sum ≤ 8) (hfr : fr' + 1 ≤ 10) (hlo : 8 + (M'.2.2.1 + 11) + lo' ≤ 366) (kk : ∀ v S', Q' v S' → LwX p l e s m below meth c b cells slots Γ Z (pc + 3) lv (v.toList ++ rest) S') : LwX p l e s m below meth c b cells slots Γ Z pc lv st S := by
  intro H locs ls hW hL
  subst hst
  have hC1 := hC.1
  obtain ⟨m1, m2, m3, m4, m5, m6⟩ := hm
  have hx := hC1.2.2.2.2.2.2.2
  have hG : GoodIn TB (wsV RL idx y.cls y (.code y M'.2.1 M'.2.2.1 M'.2.2.2 :: TB)) := by
    unfold wsV
    refine goodIn_app (fun w hw => ?_) (GI_code m5)
    simp only [List.mem_cons, List.not_mem_nil, or_false] at hw
    rcases hw with rfl | rfl | rfl | rfl
    · exact TB_good _ m1
    · exact TB_good _ m2
    · exact TB_good _ m3
    · exact TB_good _ m4
  refine l_core hC hW hL (va_runV (C := y.cls) (As := as.map (cv Γ.2.1)) (b := Γ.2.1 k) (n := n) (rest := rest.map (cv Γ.2.1)) ⟨hC1.1, hC1.2.1, hC1.2.2.1, hC1.2.2.2.2.2.1, hC1.2.2.2.2.2.2.1⟩ (hc l Γ (LwA s)) (cwV n hC1.2.2.2.2.2.2.1 hG rfl rfl rfl ⟨rfl, m6⟩ ⟨Nat.le_trans hfr hx.1, Nat.le_trans hlo hx.2.1⟩) ⟨xc_blind, va_recv hC1.2.2.2.2.2.2.2.2.2.2.2.1 hW.1 hcl (wsO_at hl), xc_pre hC1 hW⟩ rfl (by rw [List.length_map]; exact hn) hL.1 ?_ (lv_room (by rw [cat_map]; exact hr)) hd ⟨hx.2.2.1, hx.2.2.2.1⟩) kk
  show List.map _ _ = _
  rw [List.map_append, List.map_reverse]
  rfl
/-- the locals along the loop -/
abbrev lvL (i : Nat) : List (Nat × Value) := [(3, .int (nI i)), (2, .ref 83), (1, .ref 0), (0, .ref 201)]
/-- an argument: the j-th behind i -/
theorem l_arg (hC : LwC p s m meth c b L xs cells slots Γ) {i : Nat} {j : Int} (n : Nat) (hj : Int32.ofInt j = nI n) (hi : i + n < L) (d0 : decode code pc = .ok (.aload_n 0, 1)) (d1 : decode code (pc + 1) = .ok (.iload_n 3, 1)) (d2 : decode code (pc + 2) = .ok (.iconst j, 1)) (d3 : decode code (pc + 3) = .ok (.iadd, 1)) (d4 : decode code (pc + 4) = .ok (.iaload, 1)) (kk : LwX p l e s m below meth c b cells slots Γ Z (pc + 5) (lvL i) (.int (xs (i + n)) :: st) S) : LwX p l e s m below meth c b cells slots Γ Z pc (lvL i) st S := by
  refine l_aload_n hC 3 d0 rfl rfl ?_
  refine l_iload_n hC 0 d1 rfl rfl ?_
  refine l_iconst hC d2 hj ?_
  refine l_iadd hC d3 ?_
  rw [nI_add]
  exact l_sld hC hi d4 kk
theorem cmp_self (x : Int64) : lg_cmp x x = 0 := by
  unfold lg_cmp
  simp
set_option maxHeartbeats 1000000 in
set_option maxRecDepth 100000 in
theorem law_0 (hC : LwC p s m meth c b L xs cells slots Γ) {i : Nat} (hi : i + 6 ≤ L) (hR : Rel S) (kk : ∀ S2, Rel S2 → LwX p l e s m below meth c b cells slots Γ Z 1504 (lvL i) [] S2) : LwX p l e s m below meth c b cells slots Γ Z 244 (lvL i) [] S := by
  refine l_aload_n hC 2 dL_law_244 rfl rfl ?_
  refine l_arg hC 1 rfl (by omega) dL_law_245 dL_law_246 dL_law_247 dL_law_248 dL_law_249 ?_
  refine l_arg hC 2 rfl (by omega) dL_law_250 dL_law_251 dL_law_252 dL_law_253 dL_law_254 ?_
  refine l_callV hC (as := [.int (xs (i + 1)), .int (xs (i + 2))]) (rest := []) vL_13 (pr_row hR) dL_law_255 l0 rfl rfl rfl (Nat.le_of_ble_eq_true rfl) (Nat.le_of_ble_eq_true rfl) (Nat.le_of_ble_eq_true rfl) (fun v S1 h1 => ?_)
  obtain ⟨r, rfl, h1⟩ := h1
  refine l_aload_n hC 1 dL_law_258 rfl rfl ?_
  refine l_arg hC 1 rfl (by omega) dL_law_259 dL_law_260 dL_law_261 dL_law_262 dL_law_263 ?_
  refine l_arg hC 2 rfl (by omega) dL_law_264 dL_law_265 dL_law_266 dL_law_267 dL_law_268 ?_
  refine l_callV hC (as := [.int (xs (i + 1)), .int (xs (i + 2))]) (rest := [.int r]) vL_17 h1 dL_law_269 l83 rfl rfl rfl (Nat.le_of_ble_eq_true rfl) (Nat.le_of_ble_eq_true rfl) (Nat.le_of_ble_eq_true rfl) (fun v2 S2 h2 => ?_)
  obtain ⟨r', rfl, rfl, h2⟩ := h2
  exact l_ic_eq hC 1504 dL_law_272 (by decide) rfl (kk S2 h2)
set_option maxHeartbeats 1000000 in
set_option maxRecDepth 100000 in
theorem law_1 (hC : LwC p s m meth c b L xs cells slots Γ) {i : Nat} (hi : i + 6 ≤ L) (hR : Rel S) (kk : ∀ S2, Rel S2 → LwX p l e s m below meth c b cells slots Γ Z 1504 (lvL i) [] S2) : LwX p l e s m below meth c b cells slots Γ Z 277 (lvL i) [] S := by
  refine l_aload_n hC 2 dL_law_277 rfl rfl ?_
  refine l_arg hC 1 rfl (by omega) dL_law_278 dL_law_279 dL_law_280 dL_law_281 dL_law_282 ?_
  refine l_arg hC 2 rfl (by omega) dL_law_283 dL_law_284 dL_law_285 dL_law_286 dL_law_287 ?_
  refine l_arg hC 3 rfl (by omega) dL_law_288 dL_law_289 dL_law_290 dL_law_291 dL_law_292 ?_
  refine l_callV hC (as := [.int (xs (i + 1)), .int (xs (i + 2)), .int (xs (i + 3))]) (rest := []) vL_18 (pr_lay hR) dL_law_293 l0 rfl rfl rfl (Nat.le_of_ble_eq_true rfl) (Nat.le_of_ble_eq_true rfl) (Nat.le_of_ble_eq_true rfl) (fun v S1 h1 => ?_)
  obtain ⟨r, rfl, h1⟩ := h1
  refine l_aload_n hC 1 dL_law_296 rfl rfl ?_
  refine l_arg hC 1 rfl (by omega) dL_law_297 dL_law_298 dL_law_299 dL_law_300 dL_law_301 ?_
  refine l_arg hC 2 rfl (by omega) dL_law_302 dL_law_303 dL_law_304 dL_law_305 dL_law_306 ?_
  refine l_arg hC 3 rfl (by omega) dL_law_307 dL_law_308 dL_law_309 dL_law_310 dL_law_311 ?_
  refine l_callV hC (as := [.int (xs (i + 1)), .int (xs (i + 2)), .int (xs (i + 3))]) (rest := [.int r]) vL_22 h1 dL_law_312 l83 rfl rfl rfl (Nat.le_of_ble_eq_true rfl) (Nat.le_of_ble_eq_true rfl) (Nat.le_of_ble_eq_true rfl) (fun v2 S2 h2 => ?_)
  obtain ⟨r', rfl, rfl, h2⟩ := h2
  exact l_ic_eq hC 1504 dL_law_315 (by decide) rfl (kk S2 h2)
set_option maxHeartbeats 1000000 in
set_option maxRecDepth 100000 in
theorem law_2 (hC : LwC p s m meth c b L xs cells slots Γ) {i : Nat} (hi : i + 6 ≤ L) (hR : Rel S) (kk : ∀ S2, Rel S2 → LwX p l e s m below meth c b cells slots Γ Z 1504 (lvL i) [] S2) : LwX p l e s m below meth c b cells slots Γ Z 320 (lvL i) [] S := by
  refine l_aload_n hC 2 dL_law_320 rfl rfl ?_
  refine l_arg hC 1 rfl (by omega) dL_law_321 dL_law_322 dL_law_323 dL_law_324 dL_law_325 ?_
  refine l_arg hC 2 rfl (by omega) dL_law_326 dL_law_327 dL_law_328 dL_law_329 dL_law_330 ?_
  refine l_callV hC (as := [.int (xs (i + 1)), .int (xs (i + 2))]) (rest := []) vL_23 (pr_at hR) dL_law_331 l0 rfl rfl rfl (Nat.le_of_ble_eq_true rfl) (Nat.le_of_ble_eq_true rfl) (Nat.le_of_ble_eq_true rfl) (fun v S1 h1 => ?_)
  obtain ⟨r, rfl, h1⟩ := h1
  refine l_aload_n hC 1 dL_law_334 rfl rfl ?_
  refine l_arg hC 1 rfl (by omega) dL_law_335 dL_law_336 dL_law_337 dL_law_338 dL_law_339 ?_
  refine l_arg hC 2 rfl (by omega) dL_law_340 dL_law_341 dL_law_342 dL_law_343 dL_law_344 ?_
  refine l_callV hC (as := [.int (xs (i + 1)), .int (xs (i + 2))]) (rest := [.int r]) vL_26 h1 dL_law_345 l83 rfl rfl rfl (Nat.le_of_ble_eq_true rfl) (Nat.le_of_ble_eq_true rfl) (Nat.le_of_ble_eq_true rfl) (fun v2 S2 h2 => ?_)
  obtain ⟨r', rfl, rfl, h2⟩ := h2
  exact l_ic_eq hC 1504 dL_law_348 (by decide) rfl (kk S2 h2)
set_option maxHeartbeats 1000000 in
set_option maxRecDepth 100000 in
theorem law_3 (hC : LwC p s m meth c b L xs cells slots Γ) {i : Nat} (hi : i + 6 ≤ L) (hR : Rel S) (kk : ∀ S2, Rel S2 → LwX p l e s m below meth c b cells slots Γ Z 1504 (lvL i) [] S2) : LwX p l e s m below meth c b cells slots Γ Z 353 (lvL i) [] S := by
  refine l_aload_n hC 2 dL_law_353 rfl rfl ?_
  refine l_arg hC 1 rfl (by omega) dL_law_354 dL_law_355 dL_law_356 dL_law_357 dL_law_358 ?_
  refine l_callV hC (as := [.int (xs (i + 1))]) (rest := []) vL_27 (pr_tear hR) dL_law_359 l0 rfl rfl rfl (Nat.le_of_ble_eq_true rfl) (Nat.le_of_ble_eq_true rfl) (Nat.le_of_ble_eq_true rfl) (fun v S1 h1 => ?_)
  obtain ⟨r, rfl, h1⟩ := h1
  refine l_aload_n hC 1 dL_law_362 rfl rfl ?_
  refine l_arg hC 1 rfl (by omega) dL_law_363 dL_law_364 dL_law_365 dL_law_366 dL_law_367 ?_
  refine l_callV hC (as := [.int (xs (i + 1))]) (rest := [.int r]) vL_31 h1 dL_law_368 l83 rfl rfl rfl (Nat.le_of_ble_eq_true rfl) (Nat.le_of_ble_eq_true rfl) (Nat.le_of_ble_eq_true rfl) (fun v2 S2 h2 => ?_)
  obtain ⟨r', rfl, rfl, h2⟩ := h2
  exact l_ic_eq hC 1504 dL_law_371 (by decide) rfl (kk S2 h2)
set_option maxHeartbeats 1000000 in
set_option maxRecDepth 100000 in
theorem law_4 (hC : LwC p s m meth c b L xs cells slots Γ) {i : Nat} (hi : i + 6 ≤ L) (hR : Rel S) (kk : ∀ S2, Rel S2 → LwX p l e s m below meth c b cells slots Γ Z 1504 (lvL i) [] S2) : LwX p l e s m below meth c b cells slots Γ Z 376 (lvL i) [] S := by
  refine l_aload_n hC 2 dL_law_376 rfl rfl ?_
  refine l_arg hC 1 rfl (by omega) dL_law_377 dL_law_378 dL_law_379 dL_law_380 dL_law_381 ?_
  refine l_arg hC 2 rfl (by omega) dL_law_382 dL_law_383 dL_law_384 dL_law_385 dL_law_386 ?_
  refine l_arg hC 3 rfl (by omega) dL_law_387 dL_law_388 dL_law_389 dL_law_390 dL_law_391 ?_
  refine l_arg hC 4 rfl (by omega) dL_law_392 dL_law_393 dL_law_394 dL_law_395 dL_law_396 ?_
  refine l_arg hC 5 rfl (by omega) dL_law_397 dL_law_398 dL_law_399 dL_law_400 dL_law_401 ?_
  refine l_callV hC (as := [.int (xs (i + 1)), .int (xs (i + 2)), .int (xs (i + 3)), .int (xs (i + 4)), .int (xs (i + 5))]) (rest := []) vL_32 (pr_copy hR) dL_law_402 l0 rfl rfl rfl (Nat.le_of_ble_eq_true rfl) (Nat.le_of_ble_eq_true rfl) (Nat.le_of_ble_eq_true rfl) (fun v S1 h1 => ?_)
  obtain ⟨r, rfl, h1⟩ := h1
  refine l_aload_n hC 1 dL_law_405 rfl rfl ?_
  refine l_arg hC 1 rfl (by omega) dL_law_406 dL_law_407 dL_law_408 dL_law_409 dL_law_410 ?_
  refine l_arg hC 2 rfl (by omega) dL_law_411 dL_law_412 dL_law_413 dL_law_414 dL_law_415 ?_
  refine l_arg hC 3 rfl (by omega) dL_law_416 dL_law_417 dL_law_418 dL_law_419 dL_law_420 ?_
  refine l_arg hC 4 rfl (by omega) dL_law_421 dL_law_422 dL_law_423 dL_law_424 dL_law_425 ?_
  refine l_arg hC 5 rfl (by omega) dL_law_426 dL_law_427 dL_law_428 dL_law_429 dL_law_430 ?_
  refine l_callV hC (as := [.int (xs (i + 1)), .int (xs (i + 2)), .int (xs (i + 3)), .int (xs (i + 4)), .int (xs (i + 5))]) (rest := [.int r]) vL_36 h1 dL_law_431 l83 rfl rfl rfl (Nat.le_of_ble_eq_true rfl) (Nat.le_of_ble_eq_true rfl) (Nat.le_of_ble_eq_true rfl) (fun v2 S2 h2 => ?_)
  obtain ⟨r', rfl, rfl, h2⟩ := h2
  exact l_ic_eq hC 1504 dL_law_434 (by decide) rfl (kk S2 h2)
set_option maxHeartbeats 1000000 in
set_option maxRecDepth 100000 in
theorem law_5 (hC : LwC p s m meth c b L xs cells slots Γ) {i : Nat} (hi : i + 6 ≤ L) (hR : Rel S) (kk : ∀ S2, Rel S2 → LwX p l e s m below meth c b cells slots Γ Z 1504 (lvL i) [] S2) : LwX p l e s m below meth c b cells slots Γ Z 439 (lvL i) [] S := by
  refine l_aload_n hC 2 dL_law_439 rfl rfl ?_
  refine l_arg hC 1 rfl (by omega) dL_law_440 dL_law_441 dL_law_442 dL_law_443 dL_law_444 ?_
  refine l_callV hC (as := [.int (xs (i + 1))]) (rest := []) vL_37 (pr_mean hR) dL_law_445 l0 rfl rfl rfl (Nat.le_of_ble_eq_true rfl) (Nat.le_of_ble_eq_true rfl) (Nat.le_of_ble_eq_true rfl) (fun v S1 h1 => ?_)
  obtain ⟨r, rfl, h1⟩ := h1
  refine l_aload_n hC 1 dL_law_448 rfl rfl ?_
  refine l_arg hC 1 rfl (by omega) dL_law_449 dL_law_450 dL_law_451 dL_law_452 dL_law_453 ?_
  refine l_callV hC (as := [.int (xs (i + 1))]) (rest := [.int r]) vL_40 h1 dL_law_454 l83 rfl rfl rfl (Nat.le_of_ble_eq_true rfl) (Nat.le_of_ble_eq_true rfl) (Nat.le_of_ble_eq_true rfl) (fun v2 S2 h2 => ?_)
  obtain ⟨r', rfl, rfl, h2⟩ := h2
  exact l_ic_eq hC 1504 dL_law_457 (by decide) rfl (kk S2 h2)
set_option maxHeartbeats 1000000 in
set_option maxRecDepth 100000 in
theorem law_6 (hC : LwC p s m meth c b L xs cells slots Γ) {i : Nat} (hi : i + 6 ≤ L) (hR : Rel S) (kk : ∀ S2, Rel S2 → LwX p l e s m below meth c b cells slots Γ Z 1504 (lvL i) [] S2) : LwX p l e s m below meth c b cells slots Γ Z 462 (lvL i) [] S := by
  refine l_aload_n hC 2 dL_law_462 rfl rfl ?_
  refine l_arg hC 1 rfl (by omega) dL_law_463 dL_law_464 dL_law_465 dL_law_466 dL_law_467 ?_
  refine l_arg hC 2 rfl (by omega) dL_law_468 dL_law_469 dL_law_470 dL_law_471 dL_law_472 ?_
  refine l_callV hC (as := [.int (xs (i + 1)), .int (xs (i + 2))]) (rest := []) vL_41 (pr_text hR) dL_law_473 l0 rfl rfl rfl (Nat.le_of_ble_eq_true rfl) (Nat.le_of_ble_eq_true rfl) (Nat.le_of_ble_eq_true rfl) (fun v S1 h1 => ?_)
  obtain ⟨r, rfl, h1⟩ := h1
  refine l_aload_n hC 1 dL_law_476 rfl rfl ?_
  refine l_arg hC 1 rfl (by omega) dL_law_477 dL_law_478 dL_law_479 dL_law_480 dL_law_481 ?_
  refine l_arg hC 2 rfl (by omega) dL_law_482 dL_law_483 dL_law_484 dL_law_485 dL_law_486 ?_
  refine l_callV hC (as := [.int (xs (i + 1)), .int (xs (i + 2))]) (rest := [.int r]) vL_44 h1 dL_law_487 l83 rfl rfl rfl (Nat.le_of_ble_eq_true rfl) (Nat.le_of_ble_eq_true rfl) (Nat.le_of_ble_eq_true rfl) (fun v2 S2 h2 => ?_)
  obtain ⟨r', rfl, rfl, h2⟩ := h2
  exact l_ic_eq hC 1504 dL_law_490 (by decide) rfl (kk S2 h2)
set_option maxHeartbeats 1000000 in
set_option maxRecDepth 100000 in
theorem law_7 (hC : LwC p s m meth c b L xs cells slots Γ) {i : Nat} (hi : i + 6 ≤ L) (hR : Rel S) (kk : ∀ S2, Rel S2 → LwX p l e s m below meth c b cells slots Γ Z 1504 (lvL i) [] S2) : LwX p l e s m below meth c b cells slots Γ Z 495 (lvL i) [] S := by
  refine l_aload_n hC 2 dL_law_495 rfl rfl ?_
  refine l_arg hC 1 rfl (by omega) dL_law_496 dL_law_497 dL_law_498 dL_law_499 dL_law_500 ?_
  refine l_arg hC 2 rfl (by omega) dL_law_501 dL_law_502 dL_law_503 dL_law_504 dL_law_505 ?_
  refine l_arg hC 3 rfl (by omega) dL_law_506 dL_law_507 dL_law_508 dL_law_509 dL_law_510 ?_
  refine l_callV hC (as := [.int (xs (i + 1)), .int (xs (i + 2)), .int (xs (i + 3))]) (rest := []) vL_45 (pr_put hR) dL_law_511 l0 rfl rfl rfl (Nat.le_of_ble_eq_true rfl) (Nat.le_of_ble_eq_true rfl) (Nat.le_of_ble_eq_true rfl) (fun v S1 h1 => ?_)
  obtain ⟨r, rfl, h1⟩ := h1
  refine l_aload_n hC 1 dL_law_514 rfl rfl ?_
  refine l_arg hC 1 rfl (by omega) dL_law_515 dL_law_516 dL_law_517 dL_law_518 dL_law_519 ?_
  refine l_arg hC 2 rfl (by omega) dL_law_520 dL_law_521 dL_law_522 dL_law_523 dL_law_524 ?_
  refine l_arg hC 3 rfl (by omega) dL_law_525 dL_law_526 dL_law_527 dL_law_528 dL_law_529 ?_
  refine l_callV hC (as := [.int (xs (i + 1)), .int (xs (i + 2)), .int (xs (i + 3))]) (rest := [.int r]) vL_48 h1 dL_law_530 l83 rfl rfl rfl (Nat.le_of_ble_eq_true rfl) (Nat.le_of_ble_eq_true rfl) (Nat.le_of_ble_eq_true rfl) (fun v2 S2 h2 => ?_)
  obtain ⟨r', rfl, rfl, h2⟩ := h2
  exact l_ic_eq hC 1504 dL_law_533 (by decide) rfl (kk S2 h2)
set_option maxHeartbeats 1000000 in
set_option maxRecDepth 100000 in
theorem law_8 (hC : LwC p s m meth c b L xs cells slots Γ) {i : Nat} (hi : i + 6 ≤ L) (hR : Rel S) (kk : ∀ S2, Rel S2 → LwX p l e s m below meth c b cells slots Γ Z 1504 (lvL i) [] S2) : LwX p l e s m below meth c b cells slots Γ Z 538 (lvL i) [] S := by
  refine l_aload_n hC 2 dL_law_538 rfl rfl ?_
  refine l_arg hC 1 rfl (by omega) dL_law_539 dL_law_540 dL_law_541 dL_law_542 dL_law_543 ?_
  refine l_callV hC (as := [.int (xs (i + 1))]) (rest := []) vL_49 (pr_fault hR) dL_law_544 l0 rfl rfl rfl (Nat.le_of_ble_eq_true rfl) (Nat.le_of_ble_eq_true rfl) (Nat.le_of_ble_eq_true rfl) (fun v S1 h1 => ?_)
  obtain ⟨r, rfl, h1⟩ := h1
  refine l_aload_n hC 1 dL_law_547 rfl rfl ?_
  refine l_arg hC 1 rfl (by omega) dL_law_548 dL_law_549 dL_law_550 dL_law_551 dL_law_552 ?_
  refine l_callV hC (as := [.int (xs (i + 1))]) (rest := [.int r]) vL_52 h1 dL_law_553 l83 rfl rfl rfl (Nat.le_of_ble_eq_true rfl) (Nat.le_of_ble_eq_true rfl) (Nat.le_of_ble_eq_true rfl) (fun v2 S2 h2 => ?_)
  obtain ⟨r', rfl, rfl, h2⟩ := h2
  exact l_ic_eq hC 1504 dL_law_556 (by decide) rfl (kk S2 h2)
set_option maxHeartbeats 1000000 in
set_option maxRecDepth 100000 in
theorem law_9 (hC : LwC p s m meth c b L xs cells slots Γ) {i : Nat} (hi : i + 6 ≤ L) (hR : Rel S) (kk : ∀ S2, Rel S2 → LwX p l e s m below meth c b cells slots Γ Z 1504 (lvL i) [] S2) : LwX p l e s m below meth c b cells slots Γ Z 561 (lvL i) [] S := by
  refine l_aload_n hC 2 dL_law_561 rfl rfl ?_
  refine l_arg hC 1 rfl (by omega) dL_law_562 dL_law_563 dL_law_564 dL_law_565 dL_law_566 ?_
  refine l_callV hC (as := [.int (xs (i + 1))]) (rest := []) vL_53 (pr_island hR) dL_law_567 l0 rfl rfl rfl (Nat.le_of_ble_eq_true rfl) (Nat.le_of_ble_eq_true rfl) (Nat.le_of_ble_eq_true rfl) (fun v S1 h1 => ?_)
  obtain ⟨r, rfl, h1⟩ := h1
  refine l_aload_n hC 1 dL_law_570 rfl rfl ?_
  refine l_arg hC 1 rfl (by omega) dL_law_571 dL_law_572 dL_law_573 dL_law_574 dL_law_575 ?_
  refine l_callV hC (as := [.int (xs (i + 1))]) (rest := [.int r]) vL_56 h1 dL_law_576 l83 rfl rfl rfl (Nat.le_of_ble_eq_true rfl) (Nat.le_of_ble_eq_true rfl) (Nat.le_of_ble_eq_true rfl) (fun v2 S2 h2 => ?_)
  obtain ⟨r', rfl, rfl, h2⟩ := h2
  exact l_ic_eq hC 1504 dL_law_579 (by decide) rfl (kk S2 h2)
set_option maxHeartbeats 1000000 in
set_option maxRecDepth 100000 in
theorem law_10 (hC : LwC p s m meth c b L xs cells slots Γ) {i : Nat} (hi : i + 6 ≤ L) (hR : Rel S) (kk : ∀ S2, Rel S2 → LwX p l e s m below meth c b cells slots Γ Z 1504 (lvL i) [] S2) : LwX p l e s m below meth c b cells slots Γ Z 584 (lvL i) [] S := by
  refine l_aload_n hC 2 dL_law_584 rfl rfl ?_
  refine l_arg hC 1 rfl (by omega) dL_law_585 dL_law_586 dL_law_587 dL_law_588 dL_law_589 ?_
  refine l_arg hC 2 rfl (by omega) dL_law_590 dL_law_591 dL_law_592 dL_law_593 dL_law_594 ?_
  refine l_callV hC (as := [.int (xs (i + 1)), .int (xs (i + 2))]) (rest := []) vL_57 (pr_thing hR) dL_law_595 l0 rfl rfl rfl (Nat.le_of_ble_eq_true rfl) (Nat.le_of_ble_eq_true rfl) (Nat.le_of_ble_eq_true rfl) (fun v S1 h1 => ?_)
  obtain ⟨r, rfl, h1⟩ := h1
  refine l_aload_n hC 1 dL_law_598 rfl rfl ?_
  refine l_arg hC 1 rfl (by omega) dL_law_599 dL_law_600 dL_law_601 dL_law_602 dL_law_603 ?_
  refine l_arg hC 2 rfl (by omega) dL_law_604 dL_law_605 dL_law_606 dL_law_607 dL_law_608 ?_
  refine l_callV hC (as := [.int (xs (i + 1)), .int (xs (i + 2))]) (rest := [.int r]) vL_60 h1 dL_law_609 l83 rfl rfl rfl (Nat.le_of_ble_eq_true rfl) (Nat.le_of_ble_eq_true rfl) (Nat.le_of_ble_eq_true rfl) (fun v2 S2 h2 => ?_)
  obtain ⟨r', rfl, rfl, h2⟩ := h2
  exact l_ic_eq hC 1504 dL_law_612 (by decide) rfl (kk S2 h2)
set_option maxHeartbeats 1000000 in
set_option maxRecDepth 100000 in
theorem law_11 (hC : LwC p s m meth c b L xs cells slots Γ) {i : Nat} (hi : i + 6 ≤ L) (hR : Rel S) (kk : ∀ S2, Rel S2 → LwX p l e s m below meth c b cells slots Γ Z 1504 (lvL i) [] S2) : LwX p l e s m below meth c b cells slots Γ Z 617 (lvL i) [] S := by
  refine l_aload_n hC 2 dL_law_617 rfl rfl ?_
  refine l_arg hC 1 rfl (by omega) dL_law_618 dL_law_619 dL_law_620 dL_law_621 dL_law_622 ?_
  refine l_arg hC 2 rfl (by omega) dL_law_623 dL_law_624 dL_law_625 dL_law_626 dL_law_627 ?_
  refine l_callV hC (as := [.int (xs (i + 1)), .int (xs (i + 2))]) (rest := []) vL_61 (pr_mark hR) dL_law_628 l0 rfl rfl rfl (Nat.le_of_ble_eq_true rfl) (Nat.le_of_ble_eq_true rfl) (Nat.le_of_ble_eq_true rfl) (fun v S1 h1 => ?_)
  obtain ⟨r, rfl, h1⟩ := h1
  refine l_aload_n hC 1 dL_law_631 rfl rfl ?_
  refine l_arg hC 1 rfl (by omega) dL_law_632 dL_law_633 dL_law_634 dL_law_635 dL_law_636 ?_
  refine l_arg hC 2 rfl (by omega) dL_law_637 dL_law_638 dL_law_639 dL_law_640 dL_law_641 ?_
  refine l_callV hC (as := [.int (xs (i + 1)), .int (xs (i + 2))]) (rest := [.int r]) vL_64 h1 dL_law_642 l83 rfl rfl rfl (Nat.le_of_ble_eq_true rfl) (Nat.le_of_ble_eq_true rfl) (Nat.le_of_ble_eq_true rfl) (fun v2 S2 h2 => ?_)
  obtain ⟨r', rfl, rfl, h2⟩ := h2
  exact l_ic_eq hC 1504 dL_law_645 (by decide) rfl (kk S2 h2)
set_option maxHeartbeats 1000000 in
set_option maxRecDepth 100000 in
theorem law_12 (hC : LwC p s m meth c b L xs cells slots Γ) {i : Nat} (hi : i + 6 ≤ L) (hR : Rel S) (kk : ∀ S2, Rel S2 → LwX p l e s m below meth c b cells slots Γ Z 1504 (lvL i) [] S2) : LwX p l e s m below meth c b cells slots Γ Z 650 (lvL i) [] S := by
  refine l_aload_n hC 2 dL_law_650 rfl rfl ?_
  refine l_arg hC 1 rfl (by omega) dL_law_651 dL_law_652 dL_law_653 dL_law_654 dL_law_655 ?_
  refine l_arg hC 2 rfl (by omega) dL_law_656 dL_law_657 dL_law_658 dL_law_659 dL_law_660 ?_
  refine l_callV hC (as := [.int (xs (i + 1)), .int (xs (i + 2))]) (rest := []) vL_65 (pr_work hR) dL_law_661 l0 rfl rfl rfl (Nat.le_of_ble_eq_true rfl) (Nat.le_of_ble_eq_true rfl) (Nat.le_of_ble_eq_true rfl) (fun v S1 h1 => ?_)
  obtain ⟨r, rfl, h1⟩ := h1
  refine l_aload_n hC 1 dL_law_664 rfl rfl ?_
  refine l_arg hC 1 rfl (by omega) dL_law_665 dL_law_666 dL_law_667 dL_law_668 dL_law_669 ?_
  refine l_arg hC 2 rfl (by omega) dL_law_670 dL_law_671 dL_law_672 dL_law_673 dL_law_674 ?_
  refine l_callV hC (as := [.int (xs (i + 1)), .int (xs (i + 2))]) (rest := [.int r]) vL_68 h1 dL_law_675 l83 rfl rfl rfl (Nat.le_of_ble_eq_true rfl) (Nat.le_of_ble_eq_true rfl) (Nat.le_of_ble_eq_true rfl) (fun v2 S2 h2 => ?_)
  obtain ⟨r', rfl, rfl, h2⟩ := h2
  exact l_ic_eq hC 1504 dL_law_678 (by decide) rfl (kk S2 h2)
set_option maxHeartbeats 1000000 in
set_option maxRecDepth 100000 in
theorem law_13 (hC : LwC p s m meth c b L xs cells slots Γ) {i : Nat} (hi : i + 6 ≤ L) (hR : Rel S) (kk : ∀ S2, Rel S2 → LwX p l e s m below meth c b cells slots Γ Z 1504 (lvL i) [] S2) : LwX p l e s m below meth c b cells slots Γ Z 683 (lvL i) [] S := by
  refine l_aload_n hC 2 dL_law_683 rfl rfl ?_
  refine l_arg hC 1 rfl (by omega) dL_law_684 dL_law_685 dL_law_686 dL_law_687 dL_law_688 ?_
  refine l_callV hC (as := [.int (xs (i + 1))]) (rest := []) vL_69 (pr_load hR) dL_law_689 l0 rfl rfl rfl (Nat.le_of_ble_eq_true rfl) (Nat.le_of_ble_eq_true rfl) (Nat.le_of_ble_eq_true rfl) (fun v S1 h1 => ?_)
  obtain ⟨r, rfl, h1⟩ := h1
  refine l_aload_n hC 1 dL_law_692 rfl rfl ?_
  refine l_arg hC 1 rfl (by omega) dL_law_693 dL_law_694 dL_law_695 dL_law_696 dL_law_697 ?_
  refine l_callV hC (as := [.int (xs (i + 1))]) (rest := [.int r]) vL_72 h1 dL_law_698 l83 rfl rfl rfl (Nat.le_of_ble_eq_true rfl) (Nat.le_of_ble_eq_true rfl) (Nat.le_of_ble_eq_true rfl) (fun v2 S2 h2 => ?_)
  obtain ⟨r', rfl, rfl, h2⟩ := h2
  exact l_ic_eq hC 1504 dL_law_701 (by decide) rfl (kk S2 h2)
set_option maxHeartbeats 1000000 in
set_option maxRecDepth 100000 in
theorem law_14 (hC : LwC p s m meth c b L xs cells slots Γ) {i : Nat} (hi : i + 6 ≤ L) (hR : Rel S) (kk : ∀ S2, Rel S2 → LwX p l e s m below meth c b cells slots Γ Z 1504 (lvL i) [] S2) : LwX p l e s m below meth c b cells slots Γ Z 706 (lvL i) [] S := by
  refine l_aload_n hC 2 dL_law_706 rfl rfl ?_
  refine l_arg hC 1 rfl (by omega) dL_law_707 dL_law_708 dL_law_709 dL_law_710 dL_law_711 ?_
  refine l_callV hC (as := [.int (xs (i + 1))]) (rest := []) vL_73 (pr_limit hR) dL_law_712 l0 rfl rfl rfl (Nat.le_of_ble_eq_true rfl) (Nat.le_of_ble_eq_true rfl) (Nat.le_of_ble_eq_true rfl) (fun v S1 h1 => ?_)
  obtain ⟨r, rfl, h1⟩ := h1
  refine l_aload_n hC 1 dL_law_715 rfl rfl ?_
  refine l_arg hC 1 rfl (by omega) dL_law_716 dL_law_717 dL_law_718 dL_law_719 dL_law_720 ?_
  refine l_callV hC (as := [.int (xs (i + 1))]) (rest := [.int r]) vL_76 h1 dL_law_721 l83 rfl rfl rfl (Nat.le_of_ble_eq_true rfl) (Nat.le_of_ble_eq_true rfl) (Nat.le_of_ble_eq_true rfl) (fun v2 S2 h2 => ?_)
  obtain ⟨r', rfl, rfl, h2⟩ := h2
  exact l_ic_eq hC 1504 dL_law_724 (by decide) rfl (kk S2 h2)
set_option maxHeartbeats 1000000 in
set_option maxRecDepth 100000 in
theorem law_15 (hC : LwC p s m meth c b L xs cells slots Γ) {i : Nat} (hi : i + 6 ≤ L) (hR : Rel S) (kk : ∀ S2, Rel S2 → LwX p l e s m below meth c b cells slots Γ Z 1504 (lvL i) [] S2) : LwX p l e s m below meth c b cells slots Γ Z 729 (lvL i) [] S := by
  refine l_aload_n hC 2 dL_law_729 rfl rfl ?_
  refine l_arg hC 1 rfl (by omega) dL_law_730 dL_law_731 dL_law_732 dL_law_733 dL_law_734 ?_
  refine l_arg hC 2 rfl (by omega) dL_law_735 dL_law_736 dL_law_737 dL_law_738 dL_law_739 ?_
  refine l_callV hC (as := [.int (xs (i + 1)), .int (xs (i + 2))]) (rest := []) vL_77 (pr_step hR) dL_law_740 l0 rfl rfl rfl (Nat.le_of_ble_eq_true rfl) (Nat.le_of_ble_eq_true rfl) (Nat.le_of_ble_eq_true rfl) (fun v S1 h1 => ?_)
  obtain ⟨r, rfl, h1⟩ := h1
  refine l_aload_n hC 1 dL_law_743 rfl rfl ?_
  refine l_arg hC 1 rfl (by omega) dL_law_744 dL_law_745 dL_law_746 dL_law_747 dL_law_748 ?_
  refine l_arg hC 2 rfl (by omega) dL_law_749 dL_law_750 dL_law_751 dL_law_752 dL_law_753 ?_
  refine l_callV hC (as := [.int (xs (i + 1)), .int (xs (i + 2))]) (rest := [.int r]) vL_80 h1 dL_law_754 l83 rfl rfl rfl (Nat.le_of_ble_eq_true rfl) (Nat.le_of_ble_eq_true rfl) (Nat.le_of_ble_eq_true rfl) (fun v2 S2 h2 => ?_)
  obtain ⟨r', rfl, rfl, h2⟩ := h2
  exact l_ic_eq hC 1504 dL_law_757 (by decide) rfl (kk S2 h2)
set_option maxHeartbeats 1000000 in
set_option maxRecDepth 100000 in
theorem law_16 (hC : LwC p s m meth c b L xs cells slots Γ) {i : Nat} (hi : i + 6 ≤ L) (hR : Rel S) (kk : ∀ S2, Rel S2 → LwX p l e s m below meth c b cells slots Γ Z 1504 (lvL i) [] S2) : LwX p l e s m below meth c b cells slots Γ Z 762 (lvL i) [] S := by
  refine l_aload_n hC 2 dL_law_762 rfl rfl ?_
  refine l_arg hC 1 rfl (by omega) dL_law_763 dL_law_764 dL_law_765 dL_law_766 dL_law_767 ?_
  refine l_arg hC 2 rfl (by omega) dL_law_768 dL_law_769 dL_law_770 dL_law_771 dL_law_772 ?_
  refine l_callV hC (as := [.int (xs (i + 1)), .int (xs (i + 2))]) (rest := []) vL_81 (pr_may hR) dL_law_773 l0 rfl rfl rfl (Nat.le_of_ble_eq_true rfl) (Nat.le_of_ble_eq_true rfl) (Nat.le_of_ble_eq_true rfl) (fun v S1 h1 => ?_)
  obtain ⟨r, rfl, h1⟩ := h1
  refine l_aload_n hC 1 dL_law_776 rfl rfl ?_
  refine l_arg hC 1 rfl (by omega) dL_law_777 dL_law_778 dL_law_779 dL_law_780 dL_law_781 ?_
  refine l_arg hC 2 rfl (by omega) dL_law_782 dL_law_783 dL_law_784 dL_law_785 dL_law_786 ?_
  refine l_callV hC (as := [.int (xs (i + 1)), .int (xs (i + 2))]) (rest := [.int r]) vL_84 h1 dL_law_787 l83 rfl rfl rfl (Nat.le_of_ble_eq_true rfl) (Nat.le_of_ble_eq_true rfl) (Nat.le_of_ble_eq_true rfl) (fun v2 S2 h2 => ?_)
  obtain ⟨r', rfl, rfl, h2⟩ := h2
  exact l_ic_eq hC 1504 dL_law_790 (by decide) rfl (kk S2 h2)
set_option maxHeartbeats 1000000 in
set_option maxRecDepth 100000 in
theorem law_17 (hC : LwC p s m meth c b L xs cells slots Γ) {i : Nat} (hi : i + 6 ≤ L) (hR : Rel S) (kk : ∀ S2, Rel S2 → LwX p l e s m below meth c b cells slots Γ Z 1504 (lvL i) [] S2) : LwX p l e s m below meth c b cells slots Γ Z 795 (lvL i) [] S := by
  refine l_aload_n hC 2 dL_law_795 rfl rfl ?_
  refine l_callV hC (as := []) (rest := []) vL_85 (pr_steps hR) dL_law_796 l0 rfl rfl rfl (Nat.le_of_ble_eq_true rfl) (Nat.le_of_ble_eq_true rfl) (Nat.le_of_ble_eq_true rfl) (fun v S1 h1 => ?_)
  obtain ⟨r, rfl, h1⟩ := h1
  refine l_aload_n hC 1 dL_law_799 rfl rfl ?_
  refine l_callV hC (as := []) (rest := [.int r]) vL_89 h1 dL_law_800 l83 rfl rfl rfl (Nat.le_of_ble_eq_true rfl) (Nat.le_of_ble_eq_true rfl) (Nat.le_of_ble_eq_true rfl) (fun v2 S2 h2 => ?_)
  obtain ⟨r', rfl, rfl, h2⟩ := h2
  exact l_ic_eq hC 1504 dL_law_803 (by decide) rfl (kk S2 h2)
set_option maxHeartbeats 1000000 in
set_option maxRecDepth 100000 in
theorem law_18 (hC : LwC p s m meth c b L xs cells slots Γ) {i : Nat} (hi : i + 6 ≤ L) (hR : Rel S) (kk : ∀ S2, Rel S2 → LwX p l e s m below meth c b cells slots Γ Z 1504 (lvL i) [] S2) : LwX p l e s m below meth c b cells slots Γ Z 808 (lvL i) [] S := by
  refine l_aload_n hC 2 dL_law_808 rfl rfl ?_
  refine l_arg hC 1 rfl (by omega) dL_law_809 dL_law_810 dL_law_811 dL_law_812 dL_law_813 ?_
  refine l_callV hC (as := [.int (xs (i + 1))]) (rest := []) vL_90 (pr_undo hR) dL_law_814 l0 rfl rfl rfl (Nat.le_of_ble_eq_true rfl) (Nat.le_of_ble_eq_true rfl) (Nat.le_of_ble_eq_true rfl) (fun v S1 h1 => ?_)
  obtain ⟨r, rfl, h1⟩ := h1
  refine l_aload_n hC 1 dL_law_817 rfl rfl ?_
  refine l_arg hC 1 rfl (by omega) dL_law_818 dL_law_819 dL_law_820 dL_law_821 dL_law_822 ?_
  refine l_callV hC (as := [.int (xs (i + 1))]) (rest := [.int r]) vL_93 h1 dL_law_823 l83 rfl rfl rfl (Nat.le_of_ble_eq_true rfl) (Nat.le_of_ble_eq_true rfl) (Nat.le_of_ble_eq_true rfl) (fun v2 S2 h2 => ?_)
  obtain ⟨r', rfl, rfl, h2⟩ := h2
  exact l_ic_eq hC 1504 dL_law_826 (by decide) rfl (kk S2 h2)
set_option maxHeartbeats 1000000 in
set_option maxRecDepth 100000 in
theorem law_19 (hC : LwC p s m meth c b L xs cells slots Γ) {i : Nat} (hi : i + 6 ≤ L) (hR : Rel S) (kk : ∀ S2, Rel S2 → LwX p l e s m below meth c b cells slots Γ Z 1504 (lvL i) [] S2) : LwX p l e s m below meth c b cells slots Γ Z 831 (lvL i) [] S := by
  refine l_aload_n hC 2 dL_law_831 rfl rfl ?_
  refine l_arg hC 1 rfl (by omega) dL_law_832 dL_law_833 dL_law_834 dL_law_835 dL_law_836 ?_
  refine l_callV hC (as := [.int (xs (i + 1))]) (rest := []) vL_94 (pr_does hR) dL_law_837 l0 rfl rfl rfl (Nat.le_of_ble_eq_true rfl) (Nat.le_of_ble_eq_true rfl) (Nat.le_of_ble_eq_true rfl) (fun v S1 h1 => ?_)
  obtain ⟨r, rfl, h1⟩ := h1
  refine l_aload_n hC 1 dL_law_840 rfl rfl ?_
  refine l_arg hC 1 rfl (by omega) dL_law_841 dL_law_842 dL_law_843 dL_law_844 dL_law_845 ?_
  refine l_callV hC (as := [.int (xs (i + 1))]) (rest := [.int r]) vL_97 h1 dL_law_846 l83 rfl rfl rfl (Nat.le_of_ble_eq_true rfl) (Nat.le_of_ble_eq_true rfl) (Nat.le_of_ble_eq_true rfl) (fun v2 S2 h2 => ?_)
  obtain ⟨r', rfl, rfl, h2⟩ := h2
  exact l_ic_eq hC 1504 dL_law_849 (by decide) rfl (kk S2 h2)
set_option maxHeartbeats 1000000 in
set_option maxRecDepth 100000 in
theorem law_20 (hC : LwC p s m meth c b L xs cells slots Γ) {i : Nat} (hi : i + 6 ≤ L) (hR : Rel S) (kk : ∀ S2, Rel S2 → LwX p l e s m below meth c b cells slots Γ Z 1504 (lvL i) [] S2) : LwX p l e s m below meth c b cells slots Γ Z 854 (lvL i) [] S := by
  refine l_aload_n hC 2 dL_law_854 rfl rfl ?_
  refine l_arg hC 1 rfl (by omega) dL_law_855 dL_law_856 dL_law_857 dL_law_858 dL_law_859 ?_
  refine l_callV hC (as := [.int (xs (i + 1))]) (rest := []) vL_98 (pr_keep hR) dL_law_860 l0 rfl rfl rfl (Nat.le_of_ble_eq_true rfl) (Nat.le_of_ble_eq_true rfl) (Nat.le_of_ble_eq_true rfl) (fun v S1 h1 => ?_)
  obtain ⟨r, rfl, h1⟩ := h1
  refine l_aload_n hC 1 dL_law_863 rfl rfl ?_
  refine l_arg hC 1 rfl (by omega) dL_law_864 dL_law_865 dL_law_866 dL_law_867 dL_law_868 ?_
  refine l_callV hC (as := [.int (xs (i + 1))]) (rest := [.int r]) vL_101 h1 dL_law_869 l83 rfl rfl rfl (Nat.le_of_ble_eq_true rfl) (Nat.le_of_ble_eq_true rfl) (Nat.le_of_ble_eq_true rfl) (fun v2 S2 h2 => ?_)
  obtain ⟨r', rfl, rfl, h2⟩ := h2
  exact l_ic_eq hC 1504 dL_law_872 (by decide) rfl (kk S2 h2)
set_option maxHeartbeats 1000000 in
set_option maxRecDepth 100000 in
theorem law_21 (hC : LwC p s m meth c b L xs cells slots Γ) {i : Nat} (hi : i + 6 ≤ L) (hR : Rel S) (kk : ∀ S2, Rel S2 → LwX p l e s m below meth c b cells slots Γ Z 1504 (lvL i) [] S2) : LwX p l e s m below meth c b cells slots Γ Z 877 (lvL i) [] S := by
  refine l_aload_n hC 2 dL_law_877 rfl rfl ?_
  refine l_arg hC 1 rfl (by omega) dL_law_878 dL_law_879 dL_law_880 dL_law_881 dL_law_882 ?_
  refine l_callV hC (as := [.int (xs (i + 1))]) (rest := []) vL_102 (pr_on hR) dL_law_883 l0 rfl rfl rfl (Nat.le_of_ble_eq_true rfl) (Nat.le_of_ble_eq_true rfl) (Nat.le_of_ble_eq_true rfl) (fun v S1 h1 => ?_)
  obtain ⟨r, rfl, h1⟩ := h1
  refine l_aload_n hC 1 dL_law_886 rfl rfl ?_
  refine l_arg hC 1 rfl (by omega) dL_law_887 dL_law_888 dL_law_889 dL_law_890 dL_law_891 ?_
  refine l_callV hC (as := [.int (xs (i + 1))]) (rest := [.int r]) vL_105 h1 dL_law_892 l83 rfl rfl rfl (Nat.le_of_ble_eq_true rfl) (Nat.le_of_ble_eq_true rfl) (Nat.le_of_ble_eq_true rfl) (fun v2 S2 h2 => ?_)
  obtain ⟨r', rfl, rfl, h2⟩ := h2
  exact l_ic_eq hC 1504 dL_law_895 (by decide) rfl (kk S2 h2)
set_option maxHeartbeats 1000000 in
set_option maxRecDepth 100000 in
theorem law_22 (hC : LwC p s m meth c b L xs cells slots Γ) {i : Nat} (hi : i + 6 ≤ L) (hR : Rel S) (kk : ∀ S2, Rel S2 → LwX p l e s m below meth c b cells slots Γ Z 1504 (lvL i) [] S2) : LwX p l e s m below meth c b cells slots Γ Z 900 (lvL i) [] S := by
  refine l_aload_n hC 2 dL_law_900 rfl rfl ?_
  refine l_callV hC (as := []) (rest := []) vL_106 (pr_can hR) dL_law_901 l0 rfl rfl rfl (Nat.le_of_ble_eq_true rfl) (Nat.le_of_ble_eq_true rfl) (Nat.le_of_ble_eq_true rfl) (fun v S1 h1 => ?_)
  obtain ⟨r, rfl, h1⟩ := h1
  refine l_aload_n hC 1 dL_law_904 rfl rfl ?_
  refine l_callV hC (as := []) (rest := [.int r]) vL_109 h1 dL_law_905 l83 rfl rfl rfl (Nat.le_of_ble_eq_true rfl) (Nat.le_of_ble_eq_true rfl) (Nat.le_of_ble_eq_true rfl) (fun v2 S2 h2 => ?_)
  obtain ⟨r', rfl, rfl, h2⟩ := h2
  exact l_ic_eq hC 1504 dL_law_908 (by decide) rfl (kk S2 h2)
set_option maxHeartbeats 1000000 in
set_option maxRecDepth 100000 in
theorem law_23 (hC : LwC p s m meth c b L xs cells slots Γ) {i : Nat} (hi : i + 6 ≤ L) (hR : Rel S) (kk : ∀ S2, Rel S2 → LwX p l e s m below meth c b cells slots Γ Z 1504 (lvL i) [] S2) : LwX p l e s m below meth c b cells slots Γ Z 913 (lvL i) [] S := by
  refine l_aload_n hC 2 dL_law_913 rfl rfl ?_
  refine l_arg hC 1 rfl (by omega) dL_law_914 dL_law_915 dL_law_916 dL_law_917 dL_law_918 ?_
  refine l_callV hC (as := [.int (xs (i + 1))]) (rest := []) vL_110 (pr_day hR) dL_law_919 l0 rfl rfl rfl (Nat.le_of_ble_eq_true rfl) (Nat.le_of_ble_eq_true rfl) (Nat.le_of_ble_eq_true rfl) (fun v S1 h1 => ?_)
  obtain ⟨r, rfl, h1⟩ := h1
  refine l_aload_n hC 1 dL_law_922 rfl rfl ?_
  refine l_arg hC 1 rfl (by omega) dL_law_923 dL_law_924 dL_law_925 dL_law_926 dL_law_927 ?_
  refine l_callV hC (as := [.int (xs (i + 1))]) (rest := [.int r]) vL_113 h1 dL_law_928 l83 rfl rfl rfl (Nat.le_of_ble_eq_true rfl) (Nat.le_of_ble_eq_true rfl) (Nat.le_of_ble_eq_true rfl) (fun v2 S2 h2 => ?_)
  obtain ⟨r', rfl, rfl, h2⟩ := h2
  exact l_ic_eq hC 1504 dL_law_931 (by decide) rfl (kk S2 h2)
set_option maxHeartbeats 1000000 in
set_option maxRecDepth 100000 in
theorem law_24 (hC : LwC p s m meth c b L xs cells slots Γ) {i : Nat} (hi : i + 6 ≤ L) (hR : Rel S) (kk : ∀ S2, Rel S2 → LwX p l e s m below meth c b cells slots Γ Z 1504 (lvL i) [] S2) : LwX p l e s m below meth c b cells slots Γ Z 936 (lvL i) [] S := by
  refine l_aload_n hC 2 dL_law_936 rfl rfl ?_
  refine l_arg hC 1 rfl (by omega) dL_law_937 dL_law_938 dL_law_939 dL_law_940 dL_law_941 ?_
  refine l_callV hC (as := [.int (xs (i + 1))]) (rest := []) vL_114 (pr_fewest hR) dL_law_942 l0 rfl rfl rfl (Nat.le_of_ble_eq_true rfl) (Nat.le_of_ble_eq_true rfl) (Nat.le_of_ble_eq_true rfl) (fun v S1 h1 => ?_)
  obtain ⟨r, rfl, h1⟩ := h1
  refine l_aload_n hC 1 dL_law_945 rfl rfl ?_
  refine l_arg hC 1 rfl (by omega) dL_law_946 dL_law_947 dL_law_948 dL_law_949 dL_law_950 ?_
  refine l_callV hC (as := [.int (xs (i + 1))]) (rest := [.int r]) vL_117 h1 dL_law_951 l83 rfl rfl rfl (Nat.le_of_ble_eq_true rfl) (Nat.le_of_ble_eq_true rfl) (Nat.le_of_ble_eq_true rfl) (fun v2 S2 h2 => ?_)
  obtain ⟨r', rfl, rfl, h2⟩ := h2
  exact l_ic_eq hC 1504 dL_law_954 (by decide) rfl (kk S2 h2)
set_option maxHeartbeats 1000000 in
set_option maxRecDepth 100000 in
theorem law_25 (hC : LwC p s m meth c b L xs cells slots Γ) {i : Nat} (hi : i + 6 ≤ L) (hR : Rel S) (kk : ∀ S2, Rel S2 → LwX p l e s m below meth c b cells slots Γ Z 1504 (lvL i) [] S2) : LwX p l e s m below meth c b cells slots Γ Z 959 (lvL i) [] S := by
  refine l_aload_n hC 2 dL_law_959 rfl rfl ?_
  refine l_arg hC 1 rfl (by omega) dL_law_960 dL_law_961 dL_law_962 dL_law_963 dL_law_964 ?_
  refine l_arg hC 2 rfl (by omega) dL_law_965 dL_law_966 dL_law_967 dL_law_968 dL_law_969 ?_
  refine l_callV hC (as := [.int (xs (i + 1)), .int (xs (i + 2))]) (rest := []) vL_118 (pr_way hR) dL_law_970 l0 rfl rfl rfl (Nat.le_of_ble_eq_true rfl) (Nat.le_of_ble_eq_true rfl) (Nat.le_of_ble_eq_true rfl) (fun v S1 h1 => ?_)
  obtain ⟨r, rfl, h1⟩ := h1
  refine l_aload_n hC 1 dL_law_973 rfl rfl ?_
  refine l_arg hC 1 rfl (by omega) dL_law_974 dL_law_975 dL_law_976 dL_law_977 dL_law_978 ?_
  refine l_arg hC 2 rfl (by omega) dL_law_979 dL_law_980 dL_law_981 dL_law_982 dL_law_983 ?_
  refine l_callV hC (as := [.int (xs (i + 1)), .int (xs (i + 2))]) (rest := [.int r]) vL_121 h1 dL_law_984 l83 rfl rfl rfl (Nat.le_of_ble_eq_true rfl) (Nat.le_of_ble_eq_true rfl) (Nat.le_of_ble_eq_true rfl) (fun v2 S2 h2 => ?_)
  obtain ⟨r', rfl, rfl, h2⟩ := h2
  exact l_ic_eq hC 1504 dL_law_987 (by decide) rfl (kk S2 h2)
set_option maxHeartbeats 1000000 in
set_option maxRecDepth 100000 in
theorem law_26 (hC : LwC p s m meth c b L xs cells slots Γ) {i : Nat} (hi : i + 6 ≤ L) (hR : Rel S) (kk : ∀ S2, Rel S2 → LwX p l e s m below meth c b cells slots Γ Z 1504 (lvL i) [] S2) : LwX p l e s m below meth c b cells slots Γ Z 992 (lvL i) [] S := by
  refine l_aload_n hC 2 dL_law_992 rfl rfl ?_
  refine l_callV hC (as := []) (rest := []) vL_122 (pr_all hR) dL_law_993 l0 rfl rfl rfl (Nat.le_of_ble_eq_true rfl) (Nat.le_of_ble_eq_true rfl) (Nat.le_of_ble_eq_true rfl) (fun v S1 h1 => ?_)
  obtain ⟨r, rfl, h1⟩ := h1
  refine l_aload_n hC 1 dL_law_996 rfl rfl ?_
  refine l_callV hC (as := []) (rest := [.int r]) vL_125 h1 dL_law_997 l83 rfl rfl rfl (Nat.le_of_ble_eq_true rfl) (Nat.le_of_ble_eq_true rfl) (Nat.le_of_ble_eq_true rfl) (fun v2 S2 h2 => ?_)
  obtain ⟨r', rfl, rfl, h2⟩ := h2
  exact l_ic_eq hC 1504 dL_law_1000 (by decide) rfl (kk S2 h2)
set_option maxHeartbeats 1000000 in
set_option maxRecDepth 100000 in
theorem law_27 (hC : LwC p s m meth c b L xs cells slots Γ) {i : Nat} (hi : i + 6 ≤ L) (hR : Rel S) (kk : ∀ S2, Rel S2 → LwX p l e s m below meth c b cells slots Γ Z 1504 (lvL i) [] S2) : LwX p l e s m below meth c b cells slots Γ Z 1005 (lvL i) [] S := by
  refine l_aload_n hC 2 dL_law_1005 rfl rfl ?_
  refine l_arg hC 1 rfl (by omega) dL_law_1006 dL_law_1007 dL_law_1008 dL_law_1009 dL_law_1010 ?_
  refine l_callV hC (as := [.int (xs (i + 1))]) (rest := []) vL_126 (pr_till hR) dL_law_1011 l0 rfl rfl rfl (Nat.le_of_ble_eq_true rfl) (Nat.le_of_ble_eq_true rfl) (Nat.le_of_ble_eq_true rfl) (fun v S1 h1 => ?_)
  obtain ⟨r, rfl, h1⟩ := h1
  refine l_aload_n hC 1 dL_law_1014 rfl rfl ?_
  refine l_arg hC 1 rfl (by omega) dL_law_1015 dL_law_1016 dL_law_1017 dL_law_1018 dL_law_1019 ?_
  refine l_callV hC (as := [.int (xs (i + 1))]) (rest := [.int r]) vL_129 h1 dL_law_1020 l83 rfl rfl rfl (Nat.le_of_ble_eq_true rfl) (Nat.le_of_ble_eq_true rfl) (Nat.le_of_ble_eq_true rfl) (fun v2 S2 h2 => ?_)
  obtain ⟨r', rfl, rfl, h2⟩ := h2
  exact l_ic_eq hC 1504 dL_law_1023 (by decide) rfl (kk S2 h2)
set_option maxHeartbeats 1000000 in
set_option maxRecDepth 100000 in
theorem law_28 (hC : LwC p s m meth c b L xs cells slots Γ) {i : Nat} (hi : i + 6 ≤ L) (hR : Rel S) (kk : ∀ S2, Rel S2 → LwX p l e s m below meth c b cells slots Γ Z 1504 (lvL i) [] S2) : LwX p l e s m below meth c b cells slots Γ Z 1028 (lvL i) [] S := by
  refine l_aload_n hC 2 dL_law_1028 rfl rfl ?_
  refine l_arg hC 1 rfl (by omega) dL_law_1029 dL_law_1030 dL_law_1031 dL_law_1032 dL_law_1033 ?_
  refine l_callV hC (as := [.int (xs (i + 1))]) (rest := []) vL_130 (pr_most hR) dL_law_1034 l0 rfl rfl rfl (Nat.le_of_ble_eq_true rfl) (Nat.le_of_ble_eq_true rfl) (Nat.le_of_ble_eq_true rfl) (fun v S1 h1 => ?_)
  obtain ⟨r, rfl, h1⟩ := h1
  refine l_aload_n hC 1 dL_law_1037 rfl rfl ?_
  refine l_arg hC 1 rfl (by omega) dL_law_1038 dL_law_1039 dL_law_1040 dL_law_1041 dL_law_1042 ?_
  refine l_callV hC (as := [.int (xs (i + 1))]) (rest := [.int r]) vL_133 h1 dL_law_1043 l83 rfl rfl rfl (Nat.le_of_ble_eq_true rfl) (Nat.le_of_ble_eq_true rfl) (Nat.le_of_ble_eq_true rfl) (fun v2 S2 h2 => ?_)
  obtain ⟨r', rfl, rfl, h2⟩ := h2
  exact l_ic_eq hC 1504 dL_law_1046 (by decide) rfl (kk S2 h2)
set_option maxHeartbeats 1000000 in
set_option maxRecDepth 100000 in
theorem law_29 (hC : LwC p s m meth c b L xs cells slots Γ) {i : Nat} (hi : i + 6 ≤ L) (hR : Rel S) (kk : ∀ S2, Rel S2 → LwX p l e s m below meth c b cells slots Γ Z 1504 (lvL i) [] S2) : LwX p l e s m below meth c b cells slots Γ Z 1051 (lvL i) [] S := by
  refine l_aload_n hC 2 dL_law_1051 rfl rfl ?_
  refine l_arg hC 1 rfl (by omega) dL_law_1052 dL_law_1053 dL_law_1054 dL_law_1055 dL_law_1056 ?_
  refine l_callV hC (as := [.int (xs (i + 1))]) (rest := []) vL_134 (pr_hand hR) dL_law_1057 l0 rfl rfl rfl (Nat.le_of_ble_eq_true rfl) (Nat.le_of_ble_eq_true rfl) (Nat.le_of_ble_eq_true rfl) (fun v S1 h1 => ?_)
  obtain ⟨r, rfl, h1⟩ := h1
  refine l_aload_n hC 1 dL_law_1060 rfl rfl ?_
  refine l_arg hC 1 rfl (by omega) dL_law_1061 dL_law_1062 dL_law_1063 dL_law_1064 dL_law_1065 ?_
  refine l_callV hC (as := [.int (xs (i + 1))]) (rest := [.int r]) vL_137 h1 dL_law_1066 l83 rfl rfl rfl (Nat.le_of_ble_eq_true rfl) (Nat.le_of_ble_eq_true rfl) (Nat.le_of_ble_eq_true rfl) (fun v2 S2 h2 => ?_)
  obtain ⟨r', rfl, rfl, h2⟩ := h2
  exact l_ic_eq hC 1504 dL_law_1069 (by decide) rfl (kk S2 h2)
set_option maxHeartbeats 1000000 in
set_option maxRecDepth 100000 in
theorem law_30 (hC : LwC p s m meth c b L xs cells slots Γ) {i : Nat} (hi : i + 6 ≤ L) (hR : Rel S) (kk : ∀ S2, Rel S2 → LwX p l e s m below meth c b cells slots Γ Z 1504 (lvL i) [] S2) : LwX p l e s m below meth c b cells slots Γ Z 1074 (lvL i) [] S := by
  refine l_aload_n hC 2 dL_law_1074 rfl rfl ?_
  refine l_arg hC 1 rfl (by omega) dL_law_1075 dL_law_1076 dL_law_1077 dL_law_1078 dL_law_1079 ?_
  refine l_arg hC 2 rfl (by omega) dL_law_1080 dL_law_1081 dL_law_1082 dL_law_1083 dL_law_1084 ?_
  refine l_callV hC (as := [.int (xs (i + 1)), .int (xs (i + 2))]) (rest := []) vL_138 (pr_creed hR) dL_law_1085 l0 rfl rfl rfl (Nat.le_of_ble_eq_true rfl) (Nat.le_of_ble_eq_true rfl) (Nat.le_of_ble_eq_true rfl) (fun v S1 h1 => ?_)
  obtain ⟨r, rfl, h1⟩ := h1
  refine l_aload_n hC 1 dL_law_1088 rfl rfl ?_
  refine l_arg hC 1 rfl (by omega) dL_law_1089 dL_law_1090 dL_law_1091 dL_law_1092 dL_law_1093 ?_
  refine l_arg hC 2 rfl (by omega) dL_law_1094 dL_law_1095 dL_law_1096 dL_law_1097 dL_law_1098 ?_
  refine l_callV hC (as := [.int (xs (i + 1)), .int (xs (i + 2))]) (rest := [.int r]) vL_141 h1 dL_law_1099 l83 rfl rfl rfl (Nat.le_of_ble_eq_true rfl) (Nat.le_of_ble_eq_true rfl) (Nat.le_of_ble_eq_true rfl) (fun v2 S2 h2 => ?_)
  obtain ⟨r', rfl, rfl, h2⟩ := h2
  exact l_ic_eq hC 1504 dL_law_1102 (by decide) rfl (kk S2 h2)
set_option maxHeartbeats 1000000 in
set_option maxRecDepth 100000 in
theorem law_31 (hC : LwC p s m meth c b L xs cells slots Γ) {i : Nat} (hi : i + 6 ≤ L) (hR : Rel S) (kk : ∀ S2, Rel S2 → LwX p l e s m below meth c b cells slots Γ Z 1504 (lvL i) [] S2) : LwX p l e s m below meth c b cells slots Γ Z 1107 (lvL i) [] S := by
  refine l_aload_n hC 2 dL_law_1107 rfl rfl ?_
  refine l_arg hC 1 rfl (by omega) dL_law_1108 dL_law_1109 dL_law_1110 dL_law_1111 dL_law_1112 ?_
  refine l_arg hC 2 rfl (by omega) dL_law_1113 dL_law_1114 dL_law_1115 dL_law_1116 dL_law_1117 ?_
  refine l_callV hC (as := [.int (xs (i + 1)), .int (xs (i + 2))]) (rest := []) vL_142 (pr_theft hR) dL_law_1118 l0 rfl rfl rfl (Nat.le_of_ble_eq_true rfl) (Nat.le_of_ble_eq_true rfl) (Nat.le_of_ble_eq_true rfl) (fun v S1 h1 => ?_)
  obtain ⟨r, rfl, h1⟩ := h1
  refine l_aload_n hC 1 dL_law_1121 rfl rfl ?_
  refine l_arg hC 1 rfl (by omega) dL_law_1122 dL_law_1123 dL_law_1124 dL_law_1125 dL_law_1126 ?_
  refine l_arg hC 2 rfl (by omega) dL_law_1127 dL_law_1128 dL_law_1129 dL_law_1130 dL_law_1131 ?_
  refine l_callV hC (as := [.int (xs (i + 1)), .int (xs (i + 2))]) (rest := [.int r]) vL_145 h1 dL_law_1132 l83 rfl rfl rfl (Nat.le_of_ble_eq_true rfl) (Nat.le_of_ble_eq_true rfl) (Nat.le_of_ble_eq_true rfl) (fun v2 S2 h2 => ?_)
  obtain ⟨r', rfl, rfl, h2⟩ := h2
  exact l_ic_eq hC 1504 dL_law_1135 (by decide) rfl (kk S2 h2)
set_option maxHeartbeats 1000000 in
set_option maxRecDepth 100000 in
theorem law_32 (hC : LwC p s m meth c b L xs cells slots Γ) {i : Nat} (hi : i + 6 ≤ L) (hR : Rel S) (kk : ∀ S2, Rel S2 → LwX p l e s m below meth c b cells slots Γ Z 1504 (lvL i) [] S2) : LwX p l e s m below meth c b cells slots Γ Z 1140 (lvL i) [] S := by
  refine l_aload_n hC 2 dL_law_1140 rfl rfl ?_
  refine l_arg hC 1 rfl (by omega) dL_law_1141 dL_law_1142 dL_law_1143 dL_law_1144 dL_law_1145 ?_
  refine l_arg hC 2 rfl (by omega) dL_law_1146 dL_law_1147 dL_law_1148 dL_law_1149 dL_law_1150 ?_
  refine l_callV hC (as := [.int (xs (i + 1)), .int (xs (i + 2))]) (rest := []) vL_146 (pr_thefts hR) dL_law_1151 l0 rfl rfl rfl (Nat.le_of_ble_eq_true rfl) (Nat.le_of_ble_eq_true rfl) (Nat.le_of_ble_eq_true rfl) (fun v S1 h1 => ?_)
  obtain ⟨r, rfl, h1⟩ := h1
  refine l_aload_n hC 1 dL_law_1154 rfl rfl ?_
  refine l_arg hC 1 rfl (by omega) dL_law_1155 dL_law_1156 dL_law_1157 dL_law_1158 dL_law_1159 ?_
  refine l_arg hC 2 rfl (by omega) dL_law_1160 dL_law_1161 dL_law_1162 dL_law_1163 dL_law_1164 ?_
  refine l_callV hC (as := [.int (xs (i + 1)), .int (xs (i + 2))]) (rest := [.int r]) vL_149 h1 dL_law_1165 l83 rfl rfl rfl (Nat.le_of_ble_eq_true rfl) (Nat.le_of_ble_eq_true rfl) (Nat.le_of_ble_eq_true rfl) (fun v2 S2 h2 => ?_)
  obtain ⟨r', rfl, rfl, h2⟩ := h2
  exact l_ic_eq hC 1504 dL_law_1168 (by decide) rfl (kk S2 h2)
set_option maxHeartbeats 1000000 in
set_option maxRecDepth 100000 in
theorem law_33 (hC : LwC p s m meth c b L xs cells slots Γ) {i : Nat} (hi : i + 6 ≤ L) (hR : Rel S) (kk : ∀ S2, Rel S2 → LwX p l e s m below meth c b cells slots Γ Z 1504 (lvL i) [] S2) : LwX p l e s m below meth c b cells slots Γ Z 1173 (lvL i) [] S := by
  refine l_aload_n hC 2 dL_law_1173 rfl rfl ?_
  refine l_arg hC 1 rfl (by omega) dL_law_1174 dL_law_1175 dL_law_1176 dL_law_1177 dL_law_1178 ?_
  refine l_arg hC 2 rfl (by omega) dL_law_1179 dL_law_1180 dL_law_1181 dL_law_1182 dL_law_1183 ?_
  refine l_callV hC (as := [.int (xs (i + 1)), .int (xs (i + 2))]) (rest := []) vL_150 (pr_drops hR) dL_law_1184 l0 rfl rfl rfl (Nat.le_of_ble_eq_true rfl) (Nat.le_of_ble_eq_true rfl) (Nat.le_of_ble_eq_true rfl) (fun v S1 h1 => ?_)
  obtain ⟨r, rfl, h1⟩ := h1
  refine l_aload_n hC 1 dL_law_1187 rfl rfl ?_
  refine l_arg hC 1 rfl (by omega) dL_law_1188 dL_law_1189 dL_law_1190 dL_law_1191 dL_law_1192 ?_
  refine l_arg hC 2 rfl (by omega) dL_law_1193 dL_law_1194 dL_law_1195 dL_law_1196 dL_law_1197 ?_
  refine l_callV hC (as := [.int (xs (i + 1)), .int (xs (i + 2))]) (rest := [.int r]) vL_153 h1 dL_law_1198 l83 rfl rfl rfl (Nat.le_of_ble_eq_true rfl) (Nat.le_of_ble_eq_true rfl) (Nat.le_of_ble_eq_true rfl) (fun v2 S2 h2 => ?_)
  obtain ⟨r', rfl, rfl, h2⟩ := h2
  exact l_ic_eq hC 1504 dL_law_1201 (by decide) rfl (kk S2 h2)
set_option maxHeartbeats 1000000 in
set_option maxRecDepth 100000 in
theorem law_34 (hC : LwC p s m meth c b L xs cells slots Γ) {i : Nat} (hi : i + 6 ≤ L) (hR : Rel S) (kk : ∀ S2, Rel S2 → LwX p l e s m below meth c b cells slots Γ Z 1504 (lvL i) [] S2) : LwX p l e s m below meth c b cells slots Γ Z 1206 (lvL i) [] S := by
  refine l_aload_n hC 2 dL_law_1206 rfl rfl ?_
  refine l_arg hC 1 rfl (by omega) dL_law_1207 dL_law_1208 dL_law_1209 dL_law_1210 dL_law_1211 ?_
  refine l_arg hC 2 rfl (by omega) dL_law_1212 dL_law_1213 dL_law_1214 dL_law_1215 dL_law_1216 ?_
  refine l_callV hC (as := [.int (xs (i + 1)), .int (xs (i + 2))]) (rest := []) vL_154 (pr_beside hR) dL_law_1217 l0 rfl rfl rfl (Nat.le_of_ble_eq_true rfl) (Nat.le_of_ble_eq_true rfl) (Nat.le_of_ble_eq_true rfl) (fun v S1 h1 => ?_)
  obtain ⟨r, rfl, h1⟩ := h1
  refine l_aload_n hC 1 dL_law_1220 rfl rfl ?_
  refine l_arg hC 1 rfl (by omega) dL_law_1221 dL_law_1222 dL_law_1223 dL_law_1224 dL_law_1225 ?_
  refine l_arg hC 2 rfl (by omega) dL_law_1226 dL_law_1227 dL_law_1228 dL_law_1229 dL_law_1230 ?_
  refine l_callV hC (as := [.int (xs (i + 1)), .int (xs (i + 2))]) (rest := [.int r]) vL_157 h1 dL_law_1231 l83 rfl rfl rfl (Nat.le_of_ble_eq_true rfl) (Nat.le_of_ble_eq_true rfl) (Nat.le_of_ble_eq_true rfl) (fun v2 S2 h2 => ?_)
  obtain ⟨r', rfl, rfl, h2⟩ := h2
  exact l_ic_eq hC 1504 dL_law_1234 (by decide) rfl (kk S2 h2)
set_option maxHeartbeats 1000000 in
set_option maxRecDepth 100000 in
theorem law_35 (hC : LwC p s m meth c b L xs cells slots Γ) {i : Nat} (hi : i + 6 ≤ L) (hR : Rel S) (kk : ∀ S2, Rel S2 → LwX p l e s m below meth c b cells slots Γ Z 1504 (lvL i) [] S2) : LwX p l e s m below meth c b cells slots Γ Z 1239 (lvL i) [] S := by
  refine l_aload_n hC 2 dL_law_1239 rfl rfl ?_
  refine l_callV hC (as := []) (rest := []) vL_158 (pr_pair hR) dL_law_1240 l0 rfl rfl rfl (Nat.le_of_ble_eq_true rfl) (Nat.le_of_ble_eq_true rfl) (Nat.le_of_ble_eq_true rfl) (fun v S1 h1 => ?_)
  obtain ⟨r, rfl, h1⟩ := h1
  refine l_aload_n hC 1 dL_law_1243 rfl rfl ?_
  refine l_callV hC (as := []) (rest := [.int r]) vL_161 h1 dL_law_1244 l83 rfl rfl rfl (Nat.le_of_ble_eq_true rfl) (Nat.le_of_ble_eq_true rfl) (Nat.le_of_ble_eq_true rfl) (fun v2 S2 h2 => ?_)
  obtain ⟨r', rfl, rfl, h2⟩ := h2
  exact l_ic_eq hC 1504 dL_law_1247 (by decide) rfl (kk S2 h2)
set_option maxHeartbeats 1000000 in
set_option maxRecDepth 100000 in
theorem law_36 (hC : LwC p s m meth c b L xs cells slots Γ) {i : Nat} (hi : i + 6 ≤ L) (hR : Rel S) (kk : ∀ S2, Rel S2 → LwX p l e s m below meth c b cells slots Γ Z 1504 (lvL i) [] S2) : LwX p l e s m below meth c b cells slots Γ Z 1252 (lvL i) [] S := by
  refine l_aload_n hC 2 dL_law_1252 rfl rfl ?_
  refine l_arg hC 1 rfl (by omega) dL_law_1253 dL_law_1254 dL_law_1255 dL_law_1256 dL_law_1257 ?_
  refine l_arg hC 2 rfl (by omega) dL_law_1258 dL_law_1259 dL_law_1260 dL_law_1261 dL_law_1262 ?_
  refine l_callV hC (as := [.int (xs (i + 1)), .int (xs (i + 2))]) (rest := []) vL_162 (pr_saw hR) dL_law_1263 l0 rfl rfl rfl (Nat.le_of_ble_eq_true rfl) (Nat.le_of_ble_eq_true rfl) (Nat.le_of_ble_eq_true rfl) (fun v S1 h1 => ?_)
  obtain ⟨r, rfl, h1⟩ := h1
  refine l_aload_n hC 1 dL_law_1266 rfl rfl ?_
  refine l_arg hC 1 rfl (by omega) dL_law_1267 dL_law_1268 dL_law_1269 dL_law_1270 dL_law_1271 ?_
  refine l_arg hC 2 rfl (by omega) dL_law_1272 dL_law_1273 dL_law_1274 dL_law_1275 dL_law_1276 ?_
  refine l_callV hC (as := [.int (xs (i + 1)), .int (xs (i + 2))]) (rest := [.int r]) vL_165 h1 dL_law_1277 l83 rfl rfl rfl (Nat.le_of_ble_eq_true rfl) (Nat.le_of_ble_eq_true rfl) (Nat.le_of_ble_eq_true rfl) (fun v2 S2 h2 => ?_)
  obtain ⟨r', rfl, rfl, h2⟩ := h2
  exact l_ic_eq hC 1504 dL_law_1280 (by decide) rfl (kk S2 h2)
set_option maxHeartbeats 1000000 in
set_option maxRecDepth 100000 in
theorem law_37 (hC : LwC p s m meth c b L xs cells slots Γ) {i : Nat} (hi : i + 6 ≤ L) (hR : Rel S) (kk : ∀ S2, Rel S2 → LwX p l e s m below meth c b cells slots Γ Z 1504 (lvL i) [] S2) : LwX p l e s m below meth c b cells slots Γ Z 1285 (lvL i) [] S := by
  refine l_aload_n hC 2 dL_law_1285 rfl rfl ?_
  refine l_arg hC 1 rfl (by omega) dL_law_1286 dL_law_1287 dL_law_1288 dL_law_1289 dL_law_1290 ?_
  refine l_callV hC (as := [.int (xs (i + 1))]) (rest := []) vL_166 (pr_forget hR) dL_law_1291 l0 rfl rfl rfl (Nat.le_of_ble_eq_true rfl) (Nat.le_of_ble_eq_true rfl) (Nat.le_of_ble_eq_true rfl) (fun v S1 h1 => ?_)
  obtain ⟨r, rfl, h1⟩ := h1
  refine l_aload_n hC 1 dL_law_1294 rfl rfl ?_
  refine l_arg hC 1 rfl (by omega) dL_law_1295 dL_law_1296 dL_law_1297 dL_law_1298 dL_law_1299 ?_
  refine l_callV hC (as := [.int (xs (i + 1))]) (rest := [.int r]) vL_169 h1 dL_law_1300 l83 rfl rfl rfl (Nat.le_of_ble_eq_true rfl) (Nat.le_of_ble_eq_true rfl) (Nat.le_of_ble_eq_true rfl) (fun v2 S2 h2 => ?_)
  obtain ⟨r', rfl, rfl, h2⟩ := h2
  exact l_ic_eq hC 1504 dL_law_1303 (by decide) rfl (kk S2 h2)
set_option maxHeartbeats 1000000 in
set_option maxRecDepth 100000 in
theorem law_38 (hC : LwC p s m meth c b L xs cells slots Γ) {i : Nat} (hi : i + 6 ≤ L) (hR : Rel S) (kk : ∀ S2, Rel S2 → LwX p l e s m below meth c b cells slots Γ Z 1504 (lvL i) [] S2) : LwX p l e s m below meth c b cells slots Γ Z 1308 (lvL i) [] S := by
  refine l_aload_n hC 2 dL_law_1308 rfl rfl ?_
  refine l_callV hC (as := []) (rest := []) vL_170 (pr_drowned hR) dL_law_1309 l0 rfl rfl rfl (Nat.le_of_ble_eq_true rfl) (Nat.le_of_ble_eq_true rfl) (Nat.le_of_ble_eq_true rfl) (fun v S1 h1 => ?_)
  obtain ⟨r, rfl, h1⟩ := h1
  refine l_aload_n hC 1 dL_law_1312 rfl rfl ?_
  refine l_callV hC (as := []) (rest := [.int r]) vL_173 h1 dL_law_1313 l83 rfl rfl rfl (Nat.le_of_ble_eq_true rfl) (Nat.le_of_ble_eq_true rfl) (Nat.le_of_ble_eq_true rfl) (fun v2 S2 h2 => ?_)
  obtain ⟨r', rfl, rfl, h2⟩ := h2
  exact l_ic_eq hC 1504 dL_law_1316 (by decide) rfl (kk S2 h2)
set_option maxHeartbeats 1000000 in
set_option maxRecDepth 100000 in
theorem law_39 (hC : LwC p s m meth c b L xs cells slots Γ) {i : Nat} (hi : i + 6 ≤ L) (hR : Rel S) (kk : ∀ S2, Rel S2 → LwX p l e s m below meth c b cells slots Γ Z 1504 (lvL i) [] S2) : LwX p l e s m below meth c b cells slots Γ Z 1321 (lvL i) [] S := by
  refine l_aload_n hC 2 dL_law_1321 rfl rfl ?_
  refine l_arg hC 1 rfl (by omega) dL_law_1322 dL_law_1323 dL_law_1324 dL_law_1325 dL_law_1326 ?_
  refine l_callV hC (as := [.int (xs (i + 1))]) (rest := []) vL_174 (pr_odds hR) dL_law_1327 l0 rfl rfl rfl (Nat.le_of_ble_eq_true rfl) (Nat.le_of_ble_eq_true rfl) (Nat.le_of_ble_eq_true rfl) (fun v S1 h1 => ?_)
  obtain ⟨r, rfl, h1⟩ := h1
  refine l_aload_n hC 1 dL_law_1330 rfl rfl ?_
  refine l_arg hC 1 rfl (by omega) dL_law_1331 dL_law_1332 dL_law_1333 dL_law_1334 dL_law_1335 ?_
  refine l_callV hC (as := [.int (xs (i + 1))]) (rest := [.int r]) vL_177 h1 dL_law_1336 l83 rfl rfl rfl (Nat.le_of_ble_eq_true rfl) (Nat.le_of_ble_eq_true rfl) (Nat.le_of_ble_eq_true rfl) (fun v2 S2 h2 => ?_)
  obtain ⟨r', rfl, rfl, h2⟩ := h2
  exact l_ic_eq hC 1504 dL_law_1339 (by decide) rfl (kk S2 h2)
set_option maxHeartbeats 1000000 in
set_option maxRecDepth 100000 in
theorem law_40 (hC : LwC p s m meth c b L xs cells slots Γ) {i : Nat} (hi : i + 6 ≤ L) (hR : Rel S) (kk : ∀ S2, Rel S2 → LwX p l e s m below meth c b cells slots Γ Z 1504 (lvL i) [] S2) : LwX p l e s m below meth c b cells slots Γ Z 1344 (lvL i) [] S := by
  refine l_aload_n hC 2 dL_law_1344 rfl rfl ?_
  refine l_arg hC 1 rfl (by omega) dL_law_1345 dL_law_1346 dL_law_1347 dL_law_1348 dL_law_1349 ?_
  refine l_callV hC (as := [.int (xs (i + 1))]) (rest := []) vL_178 (pr_image hR) dL_law_1350 l0 rfl rfl rfl (Nat.le_of_ble_eq_true rfl) (Nat.le_of_ble_eq_true rfl) (Nat.le_of_ble_eq_true rfl) (fun v S1 h1 => ?_)
  obtain ⟨r, rfl, h1⟩ := h1
  refine l_aload_n hC 1 dL_law_1353 rfl rfl ?_
  refine l_arg hC 1 rfl (by omega) dL_law_1354 dL_law_1355 dL_law_1356 dL_law_1357 dL_law_1358 ?_
  refine l_callV hC (as := [.int (xs (i + 1))]) (rest := [.int r]) vL_181 h1 dL_law_1359 l83 rfl rfl rfl (Nat.le_of_ble_eq_true rfl) (Nat.le_of_ble_eq_true rfl) (Nat.le_of_ble_eq_true rfl) (fun v2 S2 h2 => ?_)
  obtain ⟨r', rfl, rfl, h2⟩ := h2
  exact l_ic_eq hC 1504 dL_law_1362 (by decide) rfl (kk S2 h2)
set_option maxHeartbeats 1000000 in
set_option maxRecDepth 100000 in
theorem law_41 (hC : LwC p s m meth c b L xs cells slots Γ) {i : Nat} (hi : i + 6 ≤ L) (hR : Rel S) (kk : ∀ S2, Rel S2 → LwX p l e s m below meth c b cells slots Γ Z 1504 (lvL i) [] S2) : LwX p l e s m below meth c b cells slots Γ Z 1367 (lvL i) [] S := by
  refine l_aload_n hC 2 dL_law_1367 rfl rfl ?_
  refine l_arg hC 1 rfl (by omega) dL_law_1368 dL_law_1369 dL_law_1370 dL_law_1371 dL_law_1372 ?_
  refine l_callV hC (as := [.int (xs (i + 1))]) (rest := []) vL_182 (pr_gone hR) dL_law_1373 l0 rfl rfl rfl (Nat.le_of_ble_eq_true rfl) (Nat.le_of_ble_eq_true rfl) (Nat.le_of_ble_eq_true rfl) (fun v S1 h1 => ?_)
  obtain ⟨r, rfl, h1⟩ := h1
  refine l_aload_n hC 1 dL_law_1376 rfl rfl ?_
  refine l_arg hC 1 rfl (by omega) dL_law_1377 dL_law_1378 dL_law_1379 dL_law_1380 dL_law_1381 ?_
  refine l_callV hC (as := [.int (xs (i + 1))]) (rest := [.int r]) vL_185 h1 dL_law_1382 l83 rfl rfl rfl (Nat.le_of_ble_eq_true rfl) (Nat.le_of_ble_eq_true rfl) (Nat.le_of_ble_eq_true rfl) (fun v2 S2 h2 => ?_)
  obtain ⟨r', rfl, rfl, h2⟩ := h2
  exact l_ic_eq hC 1504 dL_law_1385 (by decide) rfl (kk S2 h2)
set_option maxHeartbeats 1000000 in
set_option maxRecDepth 100000 in
theorem law_42 (hC : LwC p s m meth c b L xs cells slots Γ) {i : Nat} (hi : i + 6 ≤ L) (hR : Rel S) (kk : ∀ S2, Rel S2 → LwX p l e s m below meth c b cells slots Γ Z 1504 (lvL i) [] S2) : LwX p l e s m below meth c b cells slots Γ Z 1390 (lvL i) [] S := by
  refine l_aload_n hC 2 dL_law_1390 rfl rfl ?_
  refine l_callV hC (as := []) (rest := []) vL_186 (pr_asked hR) dL_law_1391 l0 rfl rfl rfl (Nat.le_of_ble_eq_true rfl) (Nat.le_of_ble_eq_true rfl) (Nat.le_of_ble_eq_true rfl) (fun v S1 h1 => ?_)
  obtain ⟨r, rfl, h1⟩ := h1
  refine l_aload_n hC 1 dL_law_1394 rfl rfl ?_
  refine l_callV hC (as := []) (rest := [.int r]) vL_189 h1 dL_law_1395 l83 rfl rfl rfl (Nat.le_of_ble_eq_true rfl) (Nat.le_of_ble_eq_true rfl) (Nat.le_of_ble_eq_true rfl) (fun v2 S2 h2 => ?_)
  obtain ⟨r', rfl, rfl, h2⟩ := h2
  exact l_ic_eq hC 1504 dL_law_1398 (by decide) rfl (kk S2 h2)
set_option maxHeartbeats 1000000 in
set_option maxRecDepth 100000 in
theorem law_43 (hC : LwC p s m meth c b L xs cells slots Γ) {i : Nat} (hi : i + 6 ≤ L) (hR : Rel S) (kk : ∀ S2, Rel S2 → LwX p l e s m below meth c b cells slots Γ Z 1504 (lvL i) [] S2) : LwX p l e s m below meth c b cells slots Γ Z 1403 (lvL i) [] S := by
  refine l_aload_n hC 2 dL_law_1403 rfl rfl ?_
  refine l_callV hC (as := []) (rest := []) vL_190 (pr_upper hR) dL_law_1404 l0 rfl rfl rfl (Nat.le_of_ble_eq_true rfl) (Nat.le_of_ble_eq_true rfl) (Nat.le_of_ble_eq_true rfl) (fun v S1 h1 => ?_)
  obtain ⟨r, rfl, h1⟩ := h1
  refine l_aload_n hC 1 dL_law_1407 rfl rfl ?_
  refine l_callV hC (as := []) (rest := [.long r]) vL_194 h1 dL_law_1408 l83 rfl rfl rfl (Nat.le_of_ble_eq_true rfl) (Nat.le_of_ble_eq_true rfl) (Nat.le_of_ble_eq_true rfl) (fun v2 S2 h2 => ?_)
  obtain ⟨r', rfl, rfl, h2⟩ := h2
  refine l_lcmp hC dL_law_1411 ?_
  exact l_if_eq hC 1504 dL_law_1412 (by decide) (cmp_self r') (kk S2 h2)
set_option maxHeartbeats 1000000 in
set_option maxRecDepth 100000 in
theorem law_44 (hC : LwC p s m meth c b L xs cells slots Γ) {i : Nat} (hi : i + 6 ≤ L) (hR : Rel S) (kk : ∀ S2, Rel S2 → LwX p l e s m below meth c b cells slots Γ Z 1504 (lvL i) [] S2) : LwX p l e s m below meth c b cells slots Γ Z 1417 (lvL i) [] S := by
  refine l_aload_n hC 2 dL_law_1417 rfl rfl ?_
  refine l_callV hC (as := []) (rest := []) vL_195 (pr_lower hR) dL_law_1418 l0 rfl rfl rfl (Nat.le_of_ble_eq_true rfl) (Nat.le_of_ble_eq_true rfl) (Nat.le_of_ble_eq_true rfl) (fun v S1 h1 => ?_)
  obtain ⟨r, rfl, h1⟩ := h1
  refine l_aload_n hC 1 dL_law_1421 rfl rfl ?_
  refine l_callV hC (as := []) (rest := [.long r]) vL_198 h1 dL_law_1422 l83 rfl rfl rfl (Nat.le_of_ble_eq_true rfl) (Nat.le_of_ble_eq_true rfl) (Nat.le_of_ble_eq_true rfl) (fun v2 S2 h2 => ?_)
  obtain ⟨r', rfl, rfl, h2⟩ := h2
  refine l_lcmp hC dL_law_1425 ?_
  exact l_if_eq hC 1504 dL_law_1426 (by decide) (cmp_self r') (kk S2 h2)
set_option maxHeartbeats 1000000 in
set_option maxRecDepth 100000 in
theorem law_45 (hC : LwC p s m meth c b L xs cells slots Γ) {i : Nat} (hi : i + 6 ≤ L) (hR : Rel S) (kk : ∀ S2, Rel S2 → LwX p l e s m below meth c b cells slots Γ Z 1504 (lvL i) [] S2) : LwX p l e s m below meth c b cells slots Γ Z 1431 (lvL i) [] S := by
  refine l_aload_n hC 2 dL_law_1431 rfl rfl ?_
  refine l_arg hC 1 rfl (by omega) dL_law_1432 dL_law_1433 dL_law_1434 dL_law_1435 dL_law_1436 ?_
  refine l_callV hC (as := [.int (xs (i + 1))]) (rest := []) vL_199 (pr_count hR) dL_law_1437 l0 rfl rfl rfl (Nat.le_of_ble_eq_true rfl) (Nat.le_of_ble_eq_true rfl) (Nat.le_of_ble_eq_true rfl) (fun v S1 h1 => ?_)
  obtain ⟨r, rfl, h1⟩ := h1
  refine l_aload_n hC 1 dL_law_1440 rfl rfl ?_
  refine l_arg hC 1 rfl (by omega) dL_law_1441 dL_law_1442 dL_law_1443 dL_law_1444 dL_law_1445 ?_
  refine l_callV hC (as := [.int (xs (i + 1))]) (rest := [.int r]) vL_202 h1 dL_law_1446 l83 rfl rfl rfl (Nat.le_of_ble_eq_true rfl) (Nat.le_of_ble_eq_true rfl) (Nat.le_of_ble_eq_true rfl) (fun v2 S2 h2 => ?_)
  obtain ⟨r', rfl, rfl, h2⟩ := h2
  exact l_ic_eq hC 1504 dL_law_1449 (by decide) rfl (kk S2 h2)
set_option maxHeartbeats 1000000 in
set_option maxRecDepth 100000 in
theorem law_46 (hC : LwC p s m meth c b L xs cells slots Γ) {i : Nat} (hi : i + 6 ≤ L) (hR : Rel S) (kk : ∀ S2, Rel S2 → LwX p l e s m below meth c b cells slots Γ Z 1504 (lvL i) [] S2) : LwX p l e s m below meth c b cells slots Γ Z 1454 (lvL i) [] S := by
  refine l_aload_n hC 2 dL_law_1454 rfl rfl ?_
  refine l_callV hC (as := []) (rest := []) vL_203 (pr_finding hR) dL_law_1455 l0 rfl rfl rfl (Nat.le_of_ble_eq_true rfl) (Nat.le_of_ble_eq_true rfl) (Nat.le_of_ble_eq_true rfl) (fun v S1 h1 => ?_)
  obtain ⟨r, rfl, h1⟩ := h1
  refine l_aload_n hC 1 dL_law_1458 rfl rfl ?_
  refine l_callV hC (as := []) (rest := [.int r]) vL_206 h1 dL_law_1459 l83 rfl rfl rfl (Nat.le_of_ble_eq_true rfl) (Nat.le_of_ble_eq_true rfl) (Nat.le_of_ble_eq_true rfl) (fun v2 S2 h2 => ?_)
  obtain ⟨r', rfl, rfl, h2⟩ := h2
  exact l_ic_eq hC 1504 dL_law_1462 (by decide) rfl (kk S2 h2)
set_option maxHeartbeats 1000000 in
set_option maxRecDepth 100000 in
theorem law_47 (hC : LwC p s m meth c b L xs cells slots Γ) {i : Nat} (hi : i + 6 ≤ L) (hR : Rel S) (kk : ∀ S2, Rel S2 → LwX p l e s m below meth c b cells slots Γ Z 1504 (lvL i) [] S2) : LwX p l e s m below meth c b cells slots Γ Z 1467 (lvL i) [] S := by
  refine l_aload_n hC 2 dL_law_1467 rfl rfl ?_
  refine l_arg hC 1 rfl (by omega) dL_law_1468 dL_law_1469 dL_law_1470 dL_law_1471 dL_law_1472 ?_
  refine l_callV hC (as := [.int (xs (i + 1))]) (rest := []) vL_207 (pr_findings hR) dL_law_1473 l0 rfl rfl rfl (Nat.le_of_ble_eq_true rfl) (Nat.le_of_ble_eq_true rfl) (Nat.le_of_ble_eq_true rfl) (fun v S1 h1 => ?_)
  obtain ⟨r, rfl, h1⟩ := h1
  refine l_aload_n hC 1 dL_law_1476 rfl rfl ?_
  refine l_arg hC 1 rfl (by omega) dL_law_1477 dL_law_1478 dL_law_1479 dL_law_1480 dL_law_1481 ?_
  refine l_callV hC (as := [.int (xs (i + 1))]) (rest := [.int r]) vL_210 h1 dL_law_1482 l83 rfl rfl rfl (Nat.le_of_ble_eq_true rfl) (Nat.le_of_ble_eq_true rfl) (Nat.le_of_ble_eq_true rfl) (fun v2 S2 h2 => ?_)
  obtain ⟨r', rfl, rfl, h2⟩ := h2
  exact l_ic_eq hC 1504 dL_law_1485 (by decide) rfl (kk S2 h2)
set_option maxHeartbeats 1000000 in
set_option maxRecDepth 100000 in
theorem law_48 (hC : LwC p s m meth c b L xs cells slots Γ) {i : Nat} (hi : i + 6 ≤ L) (hR : Rel S) (kk : ∀ S2, Rel S2 → LwX p l e s m below meth c b cells slots Γ Z 1504 (lvL i) [] S2) : LwX p l e s m below meth c b cells slots Γ Z 1490 (lvL i) [] S := by
  refine l_aload_n hC 2 dL_law_1490 rfl rfl ?_
  refine l_callV hC (as := []) (rest := []) vL_211 (pr_digest hR) dL_law_1491 l0 rfl rfl rfl (Nat.le_of_ble_eq_true rfl) (Nat.le_of_ble_eq_true rfl) (Nat.le_of_ble_eq_true rfl) (fun v S1 h1 => ?_)
  obtain ⟨r, rfl, h1⟩ := h1
  refine l_aload_n hC 1 dL_law_1494 rfl rfl ?_
  refine l_callV hC (as := []) (rest := [.long r]) vL_214 h1 dL_law_1495 l83 rfl rfl rfl (Nat.le_of_ble_eq_true rfl) (Nat.le_of_ble_eq_true rfl) (Nat.le_of_ble_eq_true rfl) (fun v2 S2 h2 => ?_)
  obtain ⟨r', rfl, rfl, h2⟩ := h2
  refine l_lcmp hC dL_law_1498 ?_
  exact l_if_eq hC 1504 dL_law_1499 (by decide) (cmp_self r') (kk S2 h2)
/-- one round of the loop -/
theorem and63 (x : Int32) : ∃ k, k < 64 ∧ x &&& nI 63 = nI k := by
  have e : x = nI x.toBitVec.toNat := by
    apply Int32.toBitVec_inj.1
    show x.toBitVec = BitVec.ofNat 32 x.toBitVec.toNat
    exact BitVec.eq_of_toNat_eq (by rw [BitVec.toNat_ofNat, Nat.mod_eq_of_lt x.toBitVec.isLt])
  refine ⟨x.toBitVec.toNat &&& 63, ?_, ?_⟩
  · have := Nat.and_le_right (n := x.toBitVec.toNat) (m := 63)
    omega
  · rw [← nb_and, ← e]
set_option maxHeartbeats 1000000 in
set_option maxRecDepth 100000 in
theorem law_body (hC : LwC p s m meth c b L xs cells slots Γ) {i : Nat} (hi : i + 6 ≤ L) (hR : Rel S) (kk : ∀ S2, Rel S2 → LwX p l e s m below meth c b cells slots Γ Z 1504 (lvL i) [] S2) : LwX p l e s m below meth c b cells slots Γ Z 27 (lvL i) [] S := by
  refine l_aload_n hC 3 dL_law_27 rfl rfl ?_
  refine l_iload_n hC 0 dL_law_28 rfl rfl ?_
  refine l_sld hC (by omega) dL_law_29 ?_
  refine l_bipush hC (v := nI 63) dL_law_30 (by decide) ?_
  refine l_iand hC dL_law_32 ?_
  obtain ⟨k, hk, e⟩ := and63 (xs i)
  rw [e]
  by_cases h0 : k = 0
  · subst h0
    exact l_tin hC (off := 211) 244 dL_law_33 (by decide) (by decide) (by decide) (by decide) (law_0 hC hi hR kk)
  by_cases h1 : k = 1
  · subst h1
    exact l_tin hC (off := 244) 277 dL_law_33 (by decide) (by decide) (by decide) (by decide) (law_1 hC hi hR kk)
  by_cases h2 : k = 2
  · subst h2
    exact l_tin hC (off := 287) 320 dL_law_33 (by decide) (by decide) (by decide) (by decide) (law_2 hC hi hR kk)
  by_cases h3 : k = 3
  · subst h3
    exact l_tin hC (off := 320) 353 dL_law_33 (by decide) (by decide) (by decide) (by decide) (law_3 hC hi hR kk)
  by_cases h4 : k = 4
  · subst h4
    exact l_tin hC (off := 343) 376 dL_law_33 (by decide) (by decide) (by decide) (by decide) (law_4 hC hi hR kk)
  by_cases h5 : k = 5
  · subst h5
    exact l_tin hC (off := 406) 439 dL_law_33 (by decide) (by decide) (by decide) (by decide) (law_5 hC hi hR kk)
  by_cases h6 : k = 6
  · subst h6
    exact l_tin hC (off := 429) 462 dL_law_33 (by decide) (by decide) (by decide) (by decide) (law_6 hC hi hR kk)
  by_cases h7 : k = 7
  · subst h7
    exact l_tin hC (off := 462) 495 dL_law_33 (by decide) (by decide) (by decide) (by decide) (law_7 hC hi hR kk)
  by_cases h8 : k = 8
  · subst h8
    exact l_tin hC (off := 505) 538 dL_law_33 (by decide) (by decide) (by decide) (by decide) (law_8 hC hi hR kk)
  by_cases h9 : k = 9
  · subst h9
    exact l_tin hC (off := 528) 561 dL_law_33 (by decide) (by decide) (by decide) (by decide) (law_9 hC hi hR kk)
  by_cases h10 : k = 10
  · subst h10
    exact l_tin hC (off := 551) 584 dL_law_33 (by decide) (by decide) (by decide) (by decide) (law_10 hC hi hR kk)
  by_cases h11 : k = 11
  · subst h11
    exact l_tin hC (off := 584) 617 dL_law_33 (by decide) (by decide) (by decide) (by decide) (law_11 hC hi hR kk)
  by_cases h12 : k = 12
  · subst h12
    exact l_tin hC (off := 617) 650 dL_law_33 (by decide) (by decide) (by decide) (by decide) (law_12 hC hi hR kk)
  by_cases h13 : k = 13
  · subst h13
    exact l_tin hC (off := 650) 683 dL_law_33 (by decide) (by decide) (by decide) (by decide) (law_13 hC hi hR kk)
  by_cases h14 : k = 14
  · subst h14
    exact l_tin hC (off := 673) 706 dL_law_33 (by decide) (by decide) (by decide) (by decide) (law_14 hC hi hR kk)
  by_cases h15 : k = 15
  · subst h15
    exact l_tin hC (off := 696) 729 dL_law_33 (by decide) (by decide) (by decide) (by decide) (law_15 hC hi hR kk)
  by_cases h16 : k = 16
  · subst h16
    exact l_tin hC (off := 729) 762 dL_law_33 (by decide) (by decide) (by decide) (by decide) (law_16 hC hi hR kk)
  by_cases h17 : k = 17
  · subst h17
    exact l_tin hC (off := 762) 795 dL_law_33 (by decide) (by decide) (by decide) (by decide) (law_17 hC hi hR kk)
  by_cases h18 : k = 18
  · subst h18
    exact l_tin hC (off := 775) 808 dL_law_33 (by decide) (by decide) (by decide) (by decide) (law_18 hC hi hR kk)
  by_cases h19 : k = 19
  · subst h19
    exact l_tin hC (off := 798) 831 dL_law_33 (by decide) (by decide) (by decide) (by decide) (law_19 hC hi hR kk)
  by_cases h20 : k = 20
  · subst h20
    exact l_tin hC (off := 821) 854 dL_law_33 (by decide) (by decide) (by decide) (by decide) (law_20 hC hi hR kk)
  by_cases h21 : k = 21
  · subst h21
    exact l_tin hC (off := 844) 877 dL_law_33 (by decide) (by decide) (by decide) (by decide) (law_21 hC hi hR kk)
  by_cases h22 : k = 22
  · subst h22
    exact l_tin hC (off := 867) 900 dL_law_33 (by decide) (by decide) (by decide) (by decide) (law_22 hC hi hR kk)
  by_cases h23 : k = 23
  · subst h23
    exact l_tin hC (off := 880) 913 dL_law_33 (by decide) (by decide) (by decide) (by decide) (law_23 hC hi hR kk)
  by_cases h24 : k = 24
  · subst h24
    exact l_tin hC (off := 903) 936 dL_law_33 (by decide) (by decide) (by decide) (by decide) (law_24 hC hi hR kk)
  by_cases h25 : k = 25
  · subst h25
    exact l_tin hC (off := 926) 959 dL_law_33 (by decide) (by decide) (by decide) (by decide) (law_25 hC hi hR kk)
  by_cases h26 : k = 26
  · subst h26
    exact l_tin hC (off := 959) 992 dL_law_33 (by decide) (by decide) (by decide) (by decide) (law_26 hC hi hR kk)
  by_cases h27 : k = 27
  · subst h27
    exact l_tin hC (off := 972) 1005 dL_law_33 (by decide) (by decide) (by decide) (by decide) (law_27 hC hi hR kk)
  by_cases h28 : k = 28
  · subst h28
    exact l_tin hC (off := 995) 1028 dL_law_33 (by decide) (by decide) (by decide) (by decide) (law_28 hC hi hR kk)
  by_cases h29 : k = 29
  · subst h29
    exact l_tin hC (off := 1018) 1051 dL_law_33 (by decide) (by decide) (by decide) (by decide) (law_29 hC hi hR kk)
  by_cases h30 : k = 30
  · subst h30
    exact l_tin hC (off := 1041) 1074 dL_law_33 (by decide) (by decide) (by decide) (by decide) (law_30 hC hi hR kk)
  by_cases h31 : k = 31
  · subst h31
    exact l_tin hC (off := 1074) 1107 dL_law_33 (by decide) (by decide) (by decide) (by decide) (law_31 hC hi hR kk)
  by_cases h32 : k = 32
  · subst h32
    exact l_tin hC (off := 1107) 1140 dL_law_33 (by decide) (by decide) (by decide) (by decide) (law_32 hC hi hR kk)
  by_cases h33 : k = 33
  · subst h33
    exact l_tin hC (off := 1140) 1173 dL_law_33 (by decide) (by decide) (by decide) (by decide) (law_33 hC hi hR kk)
  by_cases h34 : k = 34
  · subst h34
    exact l_tin hC (off := 1173) 1206 dL_law_33 (by decide) (by decide) (by decide) (by decide) (law_34 hC hi hR kk)
  by_cases h35 : k = 35
  · subst h35
    exact l_tin hC (off := 1206) 1239 dL_law_33 (by decide) (by decide) (by decide) (by decide) (law_35 hC hi hR kk)
  by_cases h36 : k = 36
  · subst h36
    exact l_tin hC (off := 1219) 1252 dL_law_33 (by decide) (by decide) (by decide) (by decide) (law_36 hC hi hR kk)
  by_cases h37 : k = 37
  · subst h37
    exact l_tin hC (off := 1252) 1285 dL_law_33 (by decide) (by decide) (by decide) (by decide) (law_37 hC hi hR kk)
  by_cases h38 : k = 38
  · subst h38
    exact l_tin hC (off := 1275) 1308 dL_law_33 (by decide) (by decide) (by decide) (by decide) (law_38 hC hi hR kk)
  by_cases h39 : k = 39
  · subst h39
    exact l_tin hC (off := 1288) 1321 dL_law_33 (by decide) (by decide) (by decide) (by decide) (law_39 hC hi hR kk)
  by_cases h40 : k = 40
  · subst h40
    exact l_tin hC (off := 1311) 1344 dL_law_33 (by decide) (by decide) (by decide) (by decide) (law_40 hC hi hR kk)
  by_cases h41 : k = 41
  · subst h41
    exact l_tin hC (off := 1334) 1367 dL_law_33 (by decide) (by decide) (by decide) (by decide) (law_41 hC hi hR kk)
  by_cases h42 : k = 42
  · subst h42
    exact l_tin hC (off := 1357) 1390 dL_law_33 (by decide) (by decide) (by decide) (by decide) (law_42 hC hi hR kk)
  by_cases h43 : k = 43
  · subst h43
    exact l_tin hC (off := 1370) 1403 dL_law_33 (by decide) (by decide) (by decide) (by decide) (law_43 hC hi hR kk)
  by_cases h44 : k = 44
  · subst h44
    exact l_tin hC (off := 1384) 1417 dL_law_33 (by decide) (by decide) (by decide) (by decide) (law_44 hC hi hR kk)
  by_cases h45 : k = 45
  · subst h45
    exact l_tin hC (off := 1398) 1431 dL_law_33 (by decide) (by decide) (by decide) (by decide) (law_45 hC hi hR kk)
  by_cases h46 : k = 46
  · subst h46
    exact l_tin hC (off := 1421) 1454 dL_law_33 (by decide) (by decide) (by decide) (by decide) (law_46 hC hi hR kk)
  by_cases h47 : k = 47
  · subst h47
    exact l_tin hC (off := 1434) 1467 dL_law_33 (by decide) (by decide) (by decide) (by decide) (law_47 hC hi hR kk)
  by_cases h48 : k = 48
  · subst h48
    exact l_tin hC (off := 1457) 1490 dL_law_33 (by decide) (by decide) (by decide) (by decide) (law_48 hC hi hR kk)
  refine l_tout hC 1504 dL_law_33 (Or.inr ?_) (by decide) (kk S hR)
  rw [tiN (by omega)]
  omega
set_option maxHeartbeats 1000000 in
set_option maxRecDepth 100000 in
theorem law_loop (hC : LwC p s m meth c b L xs cells slots Γ) (hend : ∀ lv S, LwX p l e s m below meth c b cells slots Γ Z 1510 lv [] S) : ∀ (n i : Nat) (S : St), L + 6 ≤ i + n → i ≤ L → Rel S → LwX p l e s m below meth c b cells slots Γ Z 18 (lvL i) [] S := by
  intro n
  have hL9 := hC.2.2.2.2
  have e6 : (nI L - nI 6).toInt = (L : Int) - 6 := by
    rw [Int32.toInt_sub, tiN (by omega), tiN (by decide), Int.bmod_eq_of_le (by omega) (by omega)]
    rfl
  induction n with
  | zero => intro i S h1 h2; omega
  | succ n ih =>
    intro i S h1 h2 hR
    refine l_iload_n hC 0 dL_law_18 rfl rfl ?_
    refine l_aload_n hC 3 dL_law_19 rfl rfl ?_
    refine l_slen hC dL_law_20 ?_
    refine l_bipush hC (v := nI 6) dL_law_21 (by decide) ?_
    refine l_isub hC dL_law_23 ?_
    refine l_ic_gt hC 1510 dL_law_24 (by decide) (fun _ => hend _ S) (fun q => ?_)
    rw [e6, tiN (by omega)] at q
    refine law_body hC (by omega) hR (fun S2 h => ?_)
    refine l_iinc hC (v := nI (i + 6)) (lv' := lvL (i + 6)) 0 dL_law_1504 rfl (by rw [← nI_add]; rfl) (by decide) rfl ?_
    refine l_goto hC 18 dL_law_1507 (by decide) ?_
    exact ih (i + 6) S2 (by omega) (by omega) h
end LW
