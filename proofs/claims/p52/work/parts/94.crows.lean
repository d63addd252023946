/-! ===== the constructors: rows over worlds ===== -/
abbrev nwA : Cond := .methodLinkNest RX4 11 yX1_init RX10
abbrev nwB : Cond := .methodLinkNest RX10 9 yX9_init RX10
abbrev nwC : Cond := .methodLinkNest RX10 39 yX1_init RX10
abbrev nwD : Cond := .methodLinkNest RX10 77 yX7_init RX10
def NW (U : State) : Prop := va_Nw nwA U ∧ va_Nw nwB U ∧ va_Nw nwC U ∧ va_Nw nwD U
theorem NW.warm {s U : State} (hW : s.WarmedH U.vm) (h : NW s) : NW U := ⟨va_Nw.warmM hW h.1, va_Nw.warmM hW h.2.1, va_Nw.warmM hW h.2.2.1, va_Nw.warmM hW h.2.2.2⟩
theorem NW.same {s U : State} (hv : s.vm = U.vm) (h : NW s) : NW U := ⟨va_Nw.same rfl hv h.1, va_Nw.same rfl hv h.2.1, va_Nw.same rfl hv h.2.2.1, va_Nw.same rfl hv h.2.2.2⟩
abbrev tyC (CA : Nat → ClassId) : List (ClassId × FieldType) := [(CA 0, .int)]
def YK (D : va_G) (CA : Nat → ClassId) (U : State) : Prop := va_K D vwCl (tyC CA) U ∧ NW U
/-- what holds all along a constructor -/
def YC (own : String) (cc : ByteArray) (nL fr lo mc ms : Nat) (p : Program) (R : Room) (s : State) (m : MethodId) (args : Array Value) (c : Code) (D : va_G) (CA : Nat → ClassId) (A : Nat → Prop) : Prop :=
  p.tables.exec = Jvm.exec ∧ c.code = cc ∧ c.maxLocals = nL ∧ s.vm.findClass own = some m.cls ∧ (∀ w ∈ TB, w.before args s = true) ∧ (fr ≤ R.frames ∧ lo ≤ R.locals ∧ mc ≤ R.cells ∧ ms ≤ R.slots) ∧ YK D CA s ∧ ∀ q, s.heap.size ≤ q → A q
def YX (p : Program) (l : Launch) (e : Env) (R : Room) (s : State) (m : MethodId) (args : Array Value) (below : List Frame) (meth : Method) (c : Code) (D : va_G) (A : Nat → Prop) (nL : Nat) (Z : State → Prop) (k n pc : Nat) (lv : List (Nat × Value)) (st : List Value) (ws : va_W) : Prop :=
  ∀ (H : Heap) (locs : List Loc) (ls : Array Slot), va_P D vwCl ws H → va_D A ws → va_S A s.heap H locs → lv_has ls nL lv → W p l e R s m args below meth c H locs k n Z (F0 m pc ls st)
/-- a constructor's contract (or that of another method that answers nothing): from the world w0 to a world that Ψ says -/
def KI (y : MethodName) (cc : ByteArray) (nL fr lo mc ms : Nat) (as : List Value) (D : va_G) (CA : Nat → ClassId) (w0 : va_W) (Ψ : va_W → Prop) : Prop :=
  ∀ (l : Launch) (sz : Nat), Met l y (.code y cc nL none :: TB) ({ frames := fr, cells := mc, slots := ms, locals := lo }) (va_Pc as (fun U => U.heap.size = sz ∧ va_P D vwCl w0 U.heap ∧ YK D CA U ∧ va_D (fun _ => True) w0)) (va_Qv Ψ (fun w t => va_P D vwCl w t.heap ∧ va_D (va_A w0 sz) w) (va_A w0 sz)) mc ms (va_A w0 sz)
def CF (ci : Nat) (C : String) (T : u_T) (N : Nat) (ty : Nat → FieldType) : Prop := vwCl[ci]? = some (C, T, N) ∧ (∀ w ∈ u_ws C T N, w ∈ TB) ∧ (∀ k, k < N → parseFieldDescriptor (T k).2.2.1 = some (ty k)) ∧ ∀ a, a < N → ∀ b, b < N → a ≠ b → (T a).2.1 ≠ (T b).2.1
theorem FL.mem {own C : String} {idx ci j N : Nat} {T : u_T} (h : FL own idx ci j) (hc : vwCl[ci]? = some (C, T, N)) : Cond.fieldLink own idx (T j).1 (T j).2.1 (T j).2.2.1 ∈ TB ∧ j < N := by
  obtain ⟨C', T', N', h1, h2, h3, h4⟩ := h
  obtain ⟨rfl, rfl, rfl⟩ : C' = C ∧ T' = T ∧ N' = N := by
    have := h1.symm.trans hc
    have := Option.some.inj this
    exact ⟨congrArg (fun q => q.1) this, congrArg (fun q => q.2.1) this, congrArg (fun q => q.2.2) this⟩
  exact ⟨h4, h2⟩
def CI (own : String) (idx : Nat) (y : MethodName) (cc : ByteArray) (nL n : Nat) : Prop := Cond.methodLink own idx y ∈ TB ∧ Cond.instanceMethod y ∈ TB ∧ Cond.initialized y.cls ∈ TB ∧ Cond.code y cc nL none ∈ TB ∧ y.name = "<init>" ∧ (y.cls ≠ "java/lang/invoke/MethodHandle" ∧ y.cls ≠ "java/lang/invoke/VarHandle" ∧ (parseMethodDescriptor y.desc).map (fun d => d.parameters.length) = some n)
theorem joinL {A0 : Nat → Prop} {D : va_G} {cl : List vw_C} {X wc w1 : va_W} {H H1 : Heap} (hP : va_P D cl (X ++ wc) H) (hD : va_D A0 (X ++ wc)) (hk : ∀ q : Nat, q < H.size → ¬ va_A wc H.size q → H1[q]? = H[q]?) (hF : ∀ q, va_A wc H.size q → A0 q) (hP1 : va_P D cl w1 H1) (hD1 : va_D (va_A wc H.size) w1) : va_P D cl (X ++ w1) H1 ∧ va_D A0 (X ++ w1) := by
  have hX : ∀ (k : Nat) (q : Nat × va_E), X[k]? = some q → (X ++ wc)[k]? = some q := fun k q h => by
    rw [List.getElem?_append_left (List.getElem?_eq_some_iff.mp h).1]
    exact h
  have hw : ∀ (k : Nat) (q : Nat × va_E), wc[k]? = some q → (X ++ wc)[X.length + k]? = some q := fun k q h => by
    rw [List.getElem?_append_right (by omega), Nat.add_sub_cancel_left]
    exact h
  have apart : ∀ (k : Nat) (q : Nat × va_E), X[k]? = some q → q.1 < H.size ∧ ¬ va_A wc H.size q.1 := by
    intro k q h
    have hl := (hP k q (hX k q h)).lt
    refine ⟨hl, fun hA => ?_⟩
    rcases hA with ⟨j, e, hj⟩ | hj
    · have h1 := hD.1 k (X.length + j) q (q.1, e) (hX k q h) (hw j _ hj) rfl
      have h2 := (List.getElem?_eq_some_iff.mp h).1
      omega
    · omega
  refine ⟨va_P.app (fun k q h => (hP k q (hX k q h)).kept (hk q.1 (apart k q h).1 (apart k q h).2)) hP1, ?_⟩
  refine va_D.app ⟨fun i j p q hi hj hpq => hD.1 i j p q (hX i p hi) (hX j q hj) hpq, fun k q h => hD.2 k q (hX k q h)⟩ (hD1.weaken (fun k q _ h => hF q.1 h)) ?_
  intro i j p q hi hj hpq
  exact (apart i p hi).2 (by rw [hpq]; exact hD1.2 j q hj)
theorem freeL {A0 : Nat → Prop} {X wc : va_W} {H0 H : Heap} {locs : List Loc} (hD : va_D A0 (X ++ wc)) (hS : va_S A0 H0 H locs) (hA : ∀ q, H0.size ≤ q → A0 q) : ∀ q, va_A wc H.size q → A0 q := by
  intro q h
  rcases h with ⟨k, e, h⟩ | h
  · exact hD.2 (X.length + k) (q, e) (by rw [List.getElem?_append_right (by omega), Nat.add_sub_cancel_left]; exact h)
  · exact hA q (Nat.le_trans hS.1 h)
theorem arr_eq {cA : ClassId} {N : Nat} {f f' : Nat → Int32} (h : ∀ j, j < N → f j = f' j) : vp_cell cA (N, .inl f) = vp_cell cA (N, .inl f') := by
  rw [vp_cell_i, vp_cell_i]
  unfold arrV
  congr 1
  congr 1
  funext j
  show Value.int _ = Value.int _
  rw [h j.1 j.2]
section YR
variable {own : String} {cc : ByteArray} {nL fr lo mc ms : Nat} {p : Program} {l : Launch} {e : Env} {R : Room} {s : State} {m : MethodId} {args : Array Value} {below : List Frame} {meth : Method} {c : Code} {D : va_G} {CA : Nat → ClassId} {A : Nat → Prop} {Z : State → Prop} {k n pc : Nat} {lv : List (Nat × Value)} {st : List Value} {ws : va_W}
theorem cz_at {pc' : Nat} {ws' : va_W} (h1 : pc = pc') (h2 : ws = ws') (kk : YX p l e R s m args below meth c D A nL Z k n pc' lv st ws') : YX p l e R s m args below meth c D A nL Z k n pc lv st ws := by
  subst h1
  subst h2
  exact kk
theorem cz_iconst (hC : YC own cc nL fr lo mc ms p R s m args c D CA A) {z : Int} {v : Int32} (hd : decode cc pc = .ok (.iconst z, 1)) (hv : Int32.ofInt z = v) (kk : YX p l e R s m args below meth c D A nL Z k n (pc + 1) lv (.int v :: st) ws) : YX p l e R s m args below meth c D A nL Z k n pc lv st ws := fun H locs ls hP hD hS hL => lv_iconst hC.1 hC.2.1 hd hv (kk H locs ls hP hD hS hL)
theorem cz_bipush (hC : YC own cc nL fr lo mc ms p R s m args c D CA A) {z : Int} {v : Int32} (hd : decode cc pc = .ok (.bipush z, 2)) (hv : (Int8.ofInt z).toInt32 = v) (kk : YX p l e R s m args below meth c D A nL Z k n (pc + 2) lv (.int v :: st) ws) : YX p l e R s m args below meth c D A nL Z k n pc lv st ws := fun H locs ls hP hD hS hL => lv_bipush hC.1 hC.2.1 hd hv (kk H locs ls hP hD hS hL)
theorem cz_sipush (hC : YC own cc nL fr lo mc ms p R s m args c D CA A) {z : Int} {v : Int32} (hd : decode cc pc = .ok (.sipush z, 3)) (hv : (Int16.ofInt z).toInt32 = v) (kk : YX p l e R s m args below meth c D A nL Z k n (pc + 3) lv (.int v :: st) ws) : YX p l e R s m args below meth c D A nL Z k n pc lv st ws := fun H locs ls hP hD hS hL => lv_sipush hC.1 hC.2.1 hd hv (kk H locs ls hP hD hS hL)
theorem cz_lconst (hC : YC own cc nL fr lo mc ms p R s m args c D CA A) {z : Fin 2} {v : Int64} (hd : decode cc pc = .ok (.lconst z, 1)) (hv : Int64.ofNat (z : Nat) = v) (kk : YX p l e R s m args below meth c D A nL Z k n (pc + 1) lv (.long v :: st) ws) : YX p l e R s m args below meth c D A nL Z k n pc lv st ws := fun H locs ls hP hD hS hL => lv_lconst hC.1 hC.2.1 hd hv (kk H locs ls hP hD hS hL)
theorem cz_ldc (hC : YC own cc nL fr lo mc ms p R s m args c D CA A) {idx : Nat} {v : Int32} (hc : Cond.constant own idx v ∈ TB) (hd : decode cc pc = .ok (.ldc idx, 2)) (kk : YX p l e R s m args below meth c D A nL Z k n (pc + 2) lv (.int v :: st) ws) : YX p l e R s m args below meth c D A nL Z k n pc lv st ws := fun H locs ls hP hD hS hL => lv_ldc hC.1 hC.2.1 hC.2.2.2.1 (hC.2.2.2.2.1 _ hc) hd (kk H locs ls hP hD hS hL)
theorem cz_imul (hC : YC own cc nL fr lo mc ms p R s m args c D CA A) {x y v : Int32} (hd : decode cc pc = .ok (.imul, 1)) (hv : x * y = v) (kk : YX p l e R s m args below meth c D A nL Z k n (pc + 1) lv (.int v :: st) ws) : YX p l e R s m args below meth c D A nL Z k n pc lv (.int y :: .int x :: st) ws := fun H locs ls hP hD hS hL => lv_imul hC.1 hC.2.1 hd (by rw [hv]; exact kk H locs ls hP hD hS hL)
theorem cz_dup (hC : YC own cc nL fr lo mc ms p R s m args c D CA A) {v : Nat} (hd : decode cc pc = .ok (.dup, 1)) (kk : YX p l e R s m args below meth c D A nL Z k n (pc + 1) lv (.ref v :: .ref v :: st) ws) : YX p l e R s m args below meth c D A nL Z k n pc lv (.ref v :: st) ws := fun H locs ls hP hD hS hL => lv_dup hC.1 hC.2.1 hd rfl (kk H locs ls hP hD hS hL)
theorem cz_goto (hC : YC own cc nL fr lo mc ms p R s m args c D CA A) {off : Int} (tgt : Nat) (hd : decode cc pc = .ok (.goto off, 3)) (ht : (pc : Int) + off = (tgt : Int)) (kk : YX p l e R s m args below meth c D A nL Z k n tgt lv st ws) : YX p l e R s m args below meth c D A nL Z k n pc lv st ws := fun H locs ls hP hD hS hL => lv_goto hC.1 hC.2.1 hd ht (kk H locs ls hP hD hS hL)
theorem cz_iload_n (hC : YC own cc nL fr lo mc ms p R s m args c D CA A) {z : Fin 4} {i : Nat} {v : Int32} (j : Nat) (hd : decode cc pc = .ok (.iload_n z, 1)) (hi : (z : Nat) = i) (h : lv[j]? = some (i, .int v)) (kk : YX p l e R s m args below meth c D A nL Z k n (pc + 1) lv (.int v :: st) ws) : YX p l e R s m args below meth c D A nL Z k n pc lv st ws := fun H locs ls hP hD hS hL => lv_iload_n hC.1 hC.2.1 hd hi (lv_at hL j h) (kk H locs ls hP hD hS hL)
theorem cz_aload_n (hC : YC own cc nL fr lo mc ms p R s m args c D CA A) {z : Fin 4} {i : Nat} {v : Nat} (j : Nat) (hd : decode cc pc = .ok (.aload_n z, 1)) (hi : (z : Nat) = i) (h : lv[j]? = some (i, .ref v)) (kk : YX p l e R s m args below meth c D A nL Z k n (pc + 1) lv (.ref v :: st) ws) : YX p l e R s m args below meth c D A nL Z k n pc lv st ws := fun H locs ls hP hD hS hL => lv_aload_n hC.1 hC.2.1 hd hi (lv_at hL j h) (kk H locs ls hP hD hS hL)
theorem cz_istore_n (hC : YC own cc nL fr lo mc ms p R s m args c D CA A) {z : Fin 4} {i : Nat} {v : Int32} {lv' : List (Nat × Value)} (hd : decode cc pc = .ok (.istore_n z, 1)) (hi : (z : Nat) = i) (hn : i < nL) (h : st1 lv i (.int v) = lv') (kk : YX p l e R s m args below meth c D A nL Z k n (pc + 1) lv' st ws) : YX p l e R s m args below meth c D A nL Z k n pc lv (.int v :: st) ws := fun H locs ls hP hD hS hL => lv_istore_n hC.1 hC.2.1 hd hi hL hn h (fun ls' hL' => kk H locs ls' hP hD hS hL')
theorem cz_astore_n (hC : YC own cc nL fr lo mc ms p R s m args c D CA A) {z : Fin 4} {i : Nat} {v : Nat} {lv' : List (Nat × Value)} (hd : decode cc pc = .ok (.astore_n z, 1)) (hi : (z : Nat) = i) (hn : i < nL) (h : st1 lv i (.ref v) = lv') (kk : YX p l e R s m args below meth c D A nL Z k n (pc + 1) lv' st ws) : YX p l e R s m args below meth c D A nL Z k n pc lv (.ref v :: st) ws := fun H locs ls hP hD hS hL => lv_astore_n hC.1 hC.2.1 hd hi hL hn h (fun ls' hL' => kk H locs ls' hP hD hS hL')
theorem cz_iinc (hC : YC own cc nL fr lo mc ms p R s m args c D CA A) {i : Nat} {z : Int} {x v : Int32} {lv' : List (Nat × Value)} (j : Nat) (hd : decode cc pc = .ok (.iinc i z, 3)) (h : lv[j]? = some (i, .int x)) (hv : x + Int32.ofInt z = v) (hn : i < nL) (h' : st1 lv i (.int v) = lv') (kk : YX p l e R s m args below meth c D A nL Z k n (pc + 3) lv' st ws) : YX p l e R s m args below meth c D A nL Z k n pc lv st ws := fun H locs ls hP hD hS hL => lv_iinc hC.1 hC.2.1 hd hL h hv hn h' (fun ls' hL' => kk H locs ls' hP hD hS hL')
theorem cz_ge (hC : YC own cc nL fr lo mc ms p R s m args c D CA A) {x y : Int32} {off : Int} (tgt : Nat) (hd : decode cc pc = .ok (.if_icmp .ge off, 3)) (ht : (pc : Int) + off = (tgt : Int)) (h : y ≤ x) (kk : YX p l e R s m args below meth c D A nL Z k n tgt lv st ws) : YX p l e R s m args below meth c D A nL Z k n pc lv (.int y :: .int x :: st) ws := fun H locs ls hP hD hS hL => lv_icmp_ge hC.1 hC.2.1 hd ht (fun _ => kk H locs ls hP hD hS hL) (fun q => absurd h q)
theorem cz_nge (hC : YC own cc nL fr lo mc ms p R s m args c D CA A) {x y : Int32} {off : Int} (tgt : Nat) (hd : decode cc pc = .ok (.if_icmp .ge off, 3)) (ht : (pc : Int) + off = (tgt : Int)) (h : ¬ y ≤ x) (kk : YX p l e R s m args below meth c D A nL Z k n (pc + 3) lv st ws) : YX p l e R s m args below meth c D A nL Z k n pc lv (.int y :: .int x :: st) ws := fun H locs ls hP hD hS hL => lv_icmp_ge hC.1 hC.2.1 hd ht (fun q => absurd q h) (fun _ => kk H locs ls hP hD hS hL)
theorem cz_obj (hC : YC own cc nL fr lo mc ms p R s m args c D CA A) {idx a : Nat} (hl : Cond.methodLink own idx Lib.objectInit ∈ TB) (h1 : Cond.instanceMethod Lib.objectInit ∈ TB) (h2 : Cond.code Lib.objectInit ⟨#[0xb1]⟩ 1 none ∈ TB) (hd : decode cc pc = .ok (.invokespecial idx, 3)) (hfr : 1 ≤ fr) (hlo : 12 ≤ lo) (kk : YX p l e R s m args below meth c D A nL Z k n (pc + 3) lv [] ws) : YX p l e R s m args below meth c D A nL Z k n pc lv [.ref a] ws := fun H locs ls hP hD hS hL => by
  have hx := hC.2.2.2.2.2.1
  refine W.objInit hC.1 hC.2.1 hC.2.2.2.1 (hC.2.2.2.2.1 _ hl) (hC.2.2.2.2.1 _ h1) (hC.2.2.2.2.1 _ h2) rfl (by rw [hC.2.2.1]; exact hL.1) rfl hd (Nat.le_trans hfr hx.1) ?_ (kk H locs ls hP hD hS hL)
  show 2 * 0 + 0 + 12 ≤ R.locals
  have := hx.2.1
  omega
theorem cz_newa (hC : YC own cc nL fr lo mc ms p R s m args c D CA A) {atp : ArrayType} {ty : FieldType} {N k' n' : Nat} {x : Int32} (t : Nat) (hd : decode cc pc = .ok (.newarray atp, 2)) (hty : newarray.typeOf atp = ty) (harr : Cond.arrayClass (newarray.typeOf atp) ∈ TB) (ht : (tyC CA)[t]? = some (CA t, ty)) (hnm : ∀ (U : State) (a b : ClassId), va_RA U a ty → va_RA U b ty → a = b) (hx : x.toNatClampNeg = N) (hx0 : ¬ x < 0) (hby : N * componentBytes ty ≤ 536870912) (hdf : defaultValue ty = .int 0) (hk : k + 1 ≤ k') (hn : n + N ≤ n') (hk2 : k' ≤ mc) (hn2 : n' ≤ ms)
    (kk : ∀ q, YX p l e R s m args below meth c D A nL Z k' n' (pc + 2) lv (.ref q :: st) (ws ++ [(q, .inl (CA t, N, .inl (fun _ => 0)))])) : YX p l e R s m args below meth c D A nL Z k n pc lv (.int x :: st) ws := fun H locs ls hP hD hS hL => by
  obtain ⟨c1, c2, c3, c4, c5, ⟨c6, c7, c8, c9⟩, ⟨hK, hN⟩, hA⟩ := hC
  refine va_newa (D := D) (cl := vwCl) (tys := tyC CA) c1 c2 (c5 _ harr) hty hK hP hD hS hA (a0 := (N, .inl (fun _ => 0))) (fun cA => by rw [vp_cell_i, hdf]) hx0 hx hby (by omega) (by omega) hd (fun q cA H1 hK1 hP1 hD1 hS1 => ?_)
  have e1 : va_RA s cA ty := (hK1.2 1 (cA, ty) rfl).2
  have e2 : va_RA s (CA t) ty := (hK.2 t _ ht).2
  have e3 := hnm s _ _ e1 e2
  subst e3
  exact W.widen hk hn (kk q H1 locs ls hP1 hD1 hS1 hL)
theorem cz_new (hC : YC own cc nL fr lo mc ms p R s m args c D CA A) {C : String} {T : u_T} {N ci idx k' n' : Nat} {ty : Nat → FieldType} {fs : List Value} (hF : CF ci C T N ty) (hd : decode cc pc = .ok (.new idx, 3)) (h1 : Cond.classLink own idx C ∈ TB) (h2 : Cond.instantiable C N ∈ TB) (h3 : Cond.initialized C ∈ TB) (hfs : ∀ j, j < N → defaultValue (ty j) = vp_V fs j) (hk : k + 1 ≤ k') (hn : n + N ≤ n') (hk2 : k' ≤ mc) (hn2 : n' ≤ ms)
    (kk : ∀ q, YX p l e R s m args below meth c D A nL Z k' n' (pc + 3) lv (.ref q :: st) (ws ++ [(q, .inr (ci, fs))])) : YX p l e R s m args below meth c D A nL Z k n pc lv st ws := fun H locs ls hP hD hS hL => by
  obtain ⟨c1, c2, c3, c4, c5, ⟨c6, c7, c8, c9⟩, ⟨hK, hN⟩, hA⟩ := hC
  exact va_new (D := D) (cl := vwCl) (tys := tyC CA) (ci := ci) (fs := fs) c1 c2 c5 hF.2.1 ty hF.2.2.1 c4 (c5 _ h1) (c5 _ h2) (c5 _ h3) hK hP hD hS hA hF.1 hfs (by omega) (by omega) hd (fun q H1 hP1 hD1 hS1 => W.widen hk hn (kk q H1 locs ls hP1 hD1 hS1 hL))
theorem cz_putF (hC : YC own cc nL fr lo mc ms p R s m args c D CA A) (hin : meth.name = "<init>") {C : String} {T : u_T} {N ci idx h : Nat} {ty : Nat → FieldType} {t : FieldType} {v : Value} {fs fs' : List Value} {Y : va_W} (j : Nat) (hF : CF ci C T N ty) (hl : FL own idx ci j) (hd : decode cc pc = .ok (.putfield idx, 3)) (hfin : (T j).2.2.2 = true) (hdecl : (T j).1 = own) (ht : parseFieldDescriptor (T j).2.2.1 = some t) (hn : narrow t v = v) (hfit : fits t v = true) (hlen : j < fs.length) (hset : fs.set j v = fs')
    (kk : YX p l e R s m args below meth c D A nL Z k n (pc + 3) lv st ((h, .inr (ci, fs')) :: Y)) : YX p l e R s m args below meth c D A nL Z k n pc lv (v :: .ref h :: st) ((h, .inr (ci, fs)) :: Y) := fun H locs ls hP hD hS hL => by
  subst hset
  exact va_putF (D := D) (cl := vwCl) (tys := tyC CA) hC.1 hC.2.1 hC.2.2.2.2.1 hF.2.1 ty hF.2.2.1 hF.2.2.2 hC.2.2.2.1 hC.2.2.2.2.2.2.1.1 hP hD hS 0 rfl hF.1 j (hl.mem hF.1).2 (hC.2.2.2.2.1 _ (hl.mem hF.1).1) (fun _ h9 => h9) hfin hin hdecl ht hn hfit hlen hd (fun H1 locs1 hP1 hD1 hS1 => kk H1 locs1 ls hP1 hD1 hS1 hL)
theorem cz_put (hC : YC own cc nL fr lo mc ms p R s m args c D CA A) {C : String} {T : u_T} {N ci idx h : Nat} {ty : Nat → FieldType} {t : FieldType} {v : Value} {fs fs' : List Value} {Y : va_W} (j : Nat) (hF : CF ci C T N ty) (hl : FL own idx ci j) (hd : decode cc pc = .ok (.putfield idx, 3)) (hfin : (T j).2.2.2 = false) (ht : parseFieldDescriptor (T j).2.2.1 = some t) (hn : narrow t v = v) (hfit : fits t v = true) (hlen : j < fs.length) (hset : fs.set j v = fs')
    (kk : YX p l e R s m args below meth c D A nL Z k n (pc + 3) lv st ((h, .inr (ci, fs')) :: Y)) : YX p l e R s m args below meth c D A nL Z k n pc lv (v :: .ref h :: st) ((h, .inr (ci, fs)) :: Y) := fun H locs ls hP hD hS hL => by
  subst hset
  exact va_put (D := D) (cl := vwCl) (tys := tyC CA) hC.1 hC.2.1 hC.2.2.2.2.1 hF.2.1 ty hF.2.2.1 hF.2.2.2 hC.2.2.2.1 hC.2.2.2.2.2.2.1.1 hP hD hS 0 rfl hF.1 j (hl.mem hF.1).2 (hC.2.2.2.2.1 _ (hl.mem hF.1).1) (fun _ h9 => h9) hfin ht hn hfit hlen hd (fun H1 locs1 hP1 hD1 hS1 => kk H1 locs1 ls hP1 hD1 hS1 hL)
theorem cz_get (hC : YC own cc nL fr lo mc ms p R s m args c D CA A) {C : String} {T : u_T} {N ci idx h : Nat} {ty : Nat → FieldType} {v : Value} {fs : List Value} {Y : va_W} (j : Nat) (hF : CF ci C T N ty) (hl : FL own idx ci j) (hd : decode cc pc = .ok (.getfield idx, 3)) (hv : fs[j]? = some v)
    (kk : YX p l e R s m args below meth c D A nL Z k n (pc + 3) lv (v :: st) ((h, .inr (ci, fs)) :: Y)) : YX p l e R s m args below meth c D A nL Z k n pc lv (.ref h :: st) ((h, .inr (ci, fs)) :: Y) := fun H locs ls hP hD hS hL =>
  va_get (D := D) (cl := vwCl) (tys := tyC CA) hC.1 hC.2.1 hC.2.2.2.2.1 hF.2.1 hC.2.2.2.1 hC.2.2.2.2.2.2.1.1 hP 0 rfl hF.1 j (hl.mem hF.1).2 (hC.2.2.2.2.1 _ (hl.mem hF.1).1) (fun _ h9 => h9) hv hd (kk H locs ls hP hD hS hL)
theorem cz_iast (hC : YC own cc nL fr lo mc ms p R s m args c D CA A) {a N q : Nat} {f : Nat → Int32} {i x : Int32} (ha : ws[q]? = some (a, .inl (CA 0, N, .inl f))) (hi : vp_in i N) (hd : decode cc pc = .ok (.iastore, 1)) (kk : YX p l e R s m args below meth c D A nL Z k n (pc + 1) lv st (ws.set q (a, .inl (CA 0, N, .inl (upd f i.toNatClampNeg x))))) : YX p l e R s m args below meth c D A nL Z k n pc lv (.int x :: .int i :: .ref a :: st) ws := fun H locs ls hP hD hS hL =>
  va_iast (D := D) (cl := vwCl) (tys := tyC CA) hC.1 hC.2.1 hC.2.2.2.2.2.2.1.1 hP hD hS q 0 ha rfl hi hd (fun H1 locs1 hP1 hD1 hS1 => kk H1 locs1 ls hP1 hD1 hS1 hL)
theorem cz_same {a N q : Nat} {cA : ClassId} {f f' : Nat → Int32} (ha : ws[q]? = some (a, .inl (cA, N, .inl f))) (hf : ∀ j, j < N → f j = f' j) (kk : YX p l e R s m args below meth c D A nL Z k n pc lv st (ws.set q (a, .inl (cA, N, .inl f')))) : YX p l e R s m args below meth c D A nL Z k n pc lv st ws := fun H locs ls hP hD hS hL =>
  kk H locs ls (hP.set hD ha (show H[a]? = some (vp_cell cA (N, .inl f')) from (hP q _ ha).trans (congrArg some (arr_eq hf))) (fun _ _ => rfl)) (hD.set ha) hS hL
theorem cz_alen (hC : YC own cc nL fr lo mc ms p R s m args c D CA A) {a N q : Nat} {f : Nat → Int32} {v : Int32} (ha : ws[q]? = some (a, .inl (CA 0, N, .inl f))) (hv : Int32.ofNat N = v) (hd : decode cc pc = .ok (.arraylength, 1)) (kk : YX p l e R s m args below meth c D A nL Z k n (pc + 1) lv (.int v :: st) ws) : YX p l e R s m args below meth c D A nL Z k n pc lv (.ref a :: st) ws := fun H locs ls hP hD hS hL =>
  va_alen (D := D) (cl := vwCl) (tys := tyC CA) hC.1 hC.2.1 hC.2.2.2.2.2.2.1.1 hP q 0 ha rfl hv hd (kk H locs ls hP hD hS hL)
theorem ki_blind {as : List Value} {w0 : va_W} {sz : Nat} : FrameBlind (va_Pc as (fun U => U.heap.size = sz ∧ va_P D vwCl w0 U.heap ∧ YK D CA U ∧ va_D (fun _ => True) w0)) := by
  intro a U g mk q
  obtain ⟨q0, q1, qP, qK, qD⟩ := q
  exact ⟨q0, q1, qP, ⟨va_K.moved (u := U) (U := U.calling g mk a) (Vm.Alike.refl U.vm) qK.1, qK.2.same rfl⟩, qD⟩
theorem cz_callI (hC : YC own cc nL fr lo mc ms p R s m args c D CA A) {X wc : va_W} {q idx nA nL' fr' lo' mc' ms' k' n' : Nat} {y : MethodName} {cc' : ByteArray} {As rest : List Value} {Ψ : va_W → Prop} (hci : CI own idx y cc' nL' nA) (hK : KI y cc' nL' fr' lo' mc' ms' (.ref q :: As) D CA wc Ψ) (hd : decode cc pc = .ok (.invokespecial idx, 3)) (hst : st = As.reverse ++ .ref q :: rest) (hnA : As.length = nA) (hr : (rest.map fun v => v.category).sum ≤ 8) (hfr : fr' + 1 ≤ fr) (hlo : 8 + (nL' + 11) + lo' ≤ lo) (hk : k + mc' = k') (hn : n + ms' = n') (hk2 : k' ≤ mc) (hn2 : n' ≤ ms)
    (kk : ∀ w1, Ψ w1 → YX p l e R s m args below meth c D A nL Z k' n' (pc + 3) lv rest (X ++ w1)) : YX p l e R s m args below meth c D A nL Z k n pc lv st (X ++ wc) := fun H locs ls hP hD hS hL => by
  obtain ⟨m1, m2, m3, m4, m5, m6⟩ := hci
  obtain ⟨c1, c2, c3, c4, c5, ⟨c6, c7, c8, c9⟩, ⟨hKs, hN⟩, hA⟩ := hC
  subst hk
  subst hn
  have hF := freeL hD hS hA
  have hDc : va_D (fun _ => True) wc := ⟨fun i j p q hi hj hpq => by
    have := hD.1 (X.length + i) (X.length + j) p q (by rw [List.getElem?_append_right (by omega), Nat.add_sub_cancel_left]; exact hi) (by rw [List.getElem?_append_right (by omega), Nat.add_sub_cancel_left]; exact hj) hpq
    omega, fun _ _ _ => trivial⟩
  have hPc : va_P D vwCl wc H := fun i q hq => hP (X.length + i) q (by rw [List.getElem?_append_right (by omega), Nat.add_sub_cancel_left]; exact hq)
  refine va_callv (va_runI (As := As) (n := nA) (rest := rest) ⟨c1, c2, c3, c4, c5⟩ (hK l H.size) (cwI nA c5 (GI_code m4) rfl rfl rfl (c5 _ m3) (c5 _ m1) (c5 _ m2) m5 m6 ⟨Nat.le_trans hfr c6, Nat.le_trans hlo c7⟩) ⟨ki_blind, fun U hU hW => ⟨rfl, by rw [hU], by rw [hU]; exact hPc, ⟨va_K.moved hW.alike hKs, hN.warm hW⟩, hDc⟩⟩ rfl hnA hL.1 hst (lv_room hr) hd ⟨by omega, by omega⟩) hS (fun q _ h => hF q h) hF (fun u t H1 locs1 ht hvm hw hB hz1 hk1 hS1 => ?_)
  obtain ⟨hP1, hD1⟩ := hB
  rw [ht] at hP1
  obtain ⟨hP2, hD2⟩ := joinL hP hD hk1 hF hP1 hD1
  exact kk u hw H1 locs1 ls hP2 hD2 hS1 hL
theorem cz_callN (hC : YC own cc nL fr lo mc ms p R s m args c D CA A) {X wc : va_W} {q idx nA nL' fr' lo' mc' ms' k' n' : Nat} {y : MethodName} {cc' : ByteArray} {As rest : List Value} {Ψ : va_W → Prop} (hci : (∀ U, NW U → va_Nw (.methodLinkNest own idx y RX10) U) ∧ Cond.instanceMethod y ∈ TB ∧ Cond.initialized y.cls ∈ TB ∧ Cond.code y cc' nL' none ∈ TB ∧ y.name = "<init>" ∧ (y.cls ≠ "java/lang/invoke/MethodHandle" ∧ y.cls ≠ "java/lang/invoke/VarHandle" ∧ (parseMethodDescriptor y.desc).map (fun d => d.parameters.length) = some nA)) (hK : KI y cc' nL' fr' lo' mc' ms' (.ref q :: As) D CA wc Ψ) (hd : decode cc pc = .ok (.invokespecial idx, 3)) (hst : st = As.reverse ++ .ref q :: rest) (hnA : As.length = nA) (hr : (rest.map fun v => v.category).sum ≤ 8) (hfr : fr' + 1 ≤ fr) (hlo : 8 + (nL' + 11) + lo' ≤ lo) (hk : k + mc' = k') (hn : n + ms' = n') (hk2 : k' ≤ mc) (hn2 : n' ≤ ms)
    (kk : ∀ w1, Ψ w1 → YX p l e R s m args below meth c D A nL Z k' n' (pc + 3) lv rest (X ++ w1)) : YX p l e R s m args below meth c D A nL Z k n pc lv st (X ++ wc) := fun H locs ls hP hD hS hL => by
  obtain ⟨m1, m2, m3, m4, m5, m6⟩ := hci
  obtain ⟨c1, c2, c3, c4, c5, ⟨c6, c7, c8, c9⟩, ⟨hKs, hN⟩, hA⟩ := hC
  subst hk
  subst hn
  have hF := freeL hD hS hA
  have hDc : va_D (fun _ => True) wc := ⟨fun i j p q hi hj hpq => by
    have := hD.1 (X.length + i) (X.length + j) p q (by rw [List.getElem?_append_right (by omega), Nat.add_sub_cancel_left]; exact hi) (by rw [List.getElem?_append_right (by omega), Nat.add_sub_cancel_left]; exact hj) hpq
    omega, fun _ _ _ => trivial⟩
  have hPc : va_P D vwCl wc H := fun i q hq => hP (X.length + i) q (by rw [List.getElem?_append_right (by omega), Nat.add_sub_cancel_left]; exact hq)
  refine va_callv (va_runIN (host := RX10) (As := As) (n := nA) (rest := rest) ⟨c1, c2, c3, c4, c5⟩ (hK l H.size) ⟨va_cnB nA c5 (GI_code m4) rfl rfl rfl (m1 s hN) (c5 _ m3) m6 ⟨Nat.le_trans hfr c6, Nat.le_trans hlo c7⟩, m5, c5 _ m2⟩ ⟨ki_blind, fun U hU hW => ⟨rfl, by rw [hU], by rw [hU]; exact hPc, ⟨va_K.moved hW.alike hKs, hN.warm hW⟩, hDc⟩⟩ rfl hnA hL.1 hst (lv_room hr) hd ⟨by omega, by omega⟩) hS (fun q _ h => hF q h) hF (fun u t H1 locs1 ht hvm hw hB hz1 hk1 hS1 => ?_)
  obtain ⟨hP1, hD1⟩ := hB
  rw [ht] at hP1
  obtain ⟨hP2, hD2⟩ := joinL hP hD hk1 hF hP1 hD1
  exact kk u hw H1 locs1 ls hP2 hD2 hS1 hL
theorem cz_callS (hC : YC own cc nL fr lo mc ms p R s m args c D CA A) {wc wr : va_W} {idx nA nL' fr' lo' : Nat} {y : MethodName} {cc' : ByteArray} {As rest : List Value} {Ψ : va_W → Prop} (isC isR : List Nat) (hci : CS own idx y (own, cc', nL', none, none, false, false) nA) (hK : KI y cc' nL' fr' lo' 0 0 As D CA wc Ψ) (hd : decode cc pc = .ok (.invokestatic idx, 3)) (hst : st = As.reverse ++ rest) (hnA : As.length = nA) (hr : (rest.map fun v => v.category).sum ≤ 8) (hfr : fr' + 1 ≤ fr) (hlo : 8 + (nL' + 11) + lo' ≤ lo) (hk2 : k ≤ mc) (hn2 : n ≤ ms)
    (hc1 : isC.map (fun i => ws[i]?) = wc.map some) (hc2 : isR.map (fun i => ws[i]?) = wr.map some) (hc3 : va_nd isR = true) (hc4 : ∀ i ∈ isR, i ∉ isC) (hc5 : va_nd isC = true) (kk : ∀ w1, Ψ w1 → YX p l e R s m args below meth c D A nL Z k n (pc + 3) lv rest (wr ++ w1)) : YX p l e R s m args below meth c D A nL Z k n pc lv st ws := fun H locs ls hP hD hS hL => by
  obtain ⟨m1, m2, m4, m5, m6⟩ := hci
  obtain ⟨c1, c2, c3, c4, c5, ⟨c6, c7, c8, c9⟩, ⟨hKs, hN⟩, hA⟩ := hC
  have hF := va_free (wc := wc) hD hS hA isC hc1
  have hDc : va_D (fun _ => True) wc := (hD.sub isC hc5 hc1).weaken (fun _ _ _ _ => trivial)
  have hPc : va_P D vwCl wc H := fun i q hq => by
    have h1 : (isC.map (fun i => ws[i]?))[i]? = some (some q) := by rw [hc1, List.getElem?_map, hq]; rfl
    rw [List.getElem?_map] at h1
    cases hi : isC[i]? with
    | none => rw [hi] at h1; cases h1
    | some i2 => rw [hi] at h1; exact hP i2 q (Option.some.inj h1)
  have hG : GoodIn TB (va_wsS own idx y (.code y cc' nL' none :: TB)) := by
    unfold va_wsS
    refine goodIn_app (fun w hw => ?_) (GI_code m5)
    simp only [List.mem_cons, List.not_mem_nil, or_false] at hw
    rcases hw with rfl | rfl | rfl
    · exact TB_good _ m1
    · exact TB_good _ m2
    · exact TB_good _ m4
  refine va_callv (va_runS (As := As) (n := nA) (rest := rest) ⟨c1, c2, c3, c4, c5⟩ (hK l H.size) (va_cwS nA c5 hG rfl rfl rfl m6 ⟨Nat.le_trans hfr c6, Nat.le_trans hlo c7⟩) ⟨ki_blind, fun U hU hW => ⟨rfl, by rw [hU], by rw [hU]; exact hPc, ⟨va_K.moved hW.alike hKs, hN.warm hW⟩, hDc⟩⟩ rfl hnA hL.1 hst (lv_room hr) hd ⟨by omega, by omega⟩) hS (fun q _ h => hF q h) hF (fun u t H1 locs1 ht hvm hw hB hz1 hk1 hS1 => ?_)
  obtain ⟨hP1, hD1⟩ := hB
  rw [ht] at hP1
  obtain ⟨hP2, hD2⟩ := va_join hP hD isC isR hc1 hc2 hc3 hc4 hk1 hF hP1 hD1
  exact kk u hw H1 locs1 ls hP2 hD2 hS1 hL
theorem cz_ret (hC : YC own cc nL fr lo mc ms p R s m args c D CA A) {Ψ : va_W → Prop} (hr : meth.sig.returnType = none) (hlk : meth.locks = false) (hd : decode cc pc = .ok (.return_, 1)) (hk : k ≤ mc) (hn : n ≤ ms) (hΨ : Ψ ws) : YX p l e R s m args below meth c D A nL (MQ below (va_Qv Ψ (fun w t => va_P D vwCl w t.heap ∧ va_D A w) A) args s mc ms A) k n pc lv [] ws := fun H locs ls hP hD hS hL =>
  W.widen hk hn (W.vret hC.1 hC.2.1 hr (fun t ht hW => ⟨⟨ws, rfl, hΨ, by rw [ht]; exact hP, hD⟩, hS.F ht⟩) hS.2.2 hd hlk)
end YR
theorem KI.of {y : MethodName} {cc : ByteArray} {nL fr lo mc ms : Nat} {as : List Value} {D : va_G} {CA : Nat → ClassId} {w0 : va_W} {Ψ : va_W → Prop} (hy : plainName y.cls = true) (hl : (lg_sl as).length ≤ nL)
    (h : ∀ (p : Program) (l : Launch) (e : Env) (R : Room) (s : State) (m : MethodId) (args : Array Value) (below : List Frame) (meth : Method) (c : Code) (A : Nat → Prop), YC y.cls cc nL fr lo mc ms p R s m args c D CA A → meth.sig.returnType = none → meth.locks = false → meth.name = y.name → YX p l e R s m args below meth c D A nL (MQ below (va_Qv Ψ (fun w t => va_P D vwCl w t.heap ∧ va_D A w) A) args s mc ms A) 0 0 0 (lv_args 0 as) [] w0) : KI y cc nL fr lo mc ms as D CA w0 Ψ := by
  intro l sz
  refine Met.ofW (cc := cc) (maxL := nL) (ret := none) hy rfl ?_
  intro p e s m args below meth c s₁ B hml hv
  obtain ⟨rfl, hsz, hP, hK, hD0⟩ := hv
  subst hsz
  have hts := atoms_spec (ws := .code y cc nL none :: TB) B.pre
  have hown : s.vm.findClass y.cls = some m.cls := findClass_of_methodNamed B.named
  have hin : meth.name = y.name := (name_of_methodNamed B.named B.method).1
  rw [lg_entry_eq]
  exact h p l e _ s m _ below meth c _ ⟨B.exec, B.bytes, hml, hown, fun w hw => hts w (List.mem_cons_of_mem _ hw), ⟨Nat.le_refl _, Nat.le_refl _, Nat.le_refl _, Nat.le_refl _⟩, hK, fun q h => Or.inr h⟩ B.returns B.notSynchronized hin s.heap [] _ hP hD0.self va_S.rf (lv_entry as hl)
theorem RA_int (U : State) (a b : ClassId) (h1 : va_RA U a .int) (h2 : va_RA U b .int) : a = b := Option.some.inj ((show U.vm.findClass _ = some a from h1).symm.trans h2)
theorem RA_byte (U : State) (a b : ClassId) (h1 : va_RA U a .byte) (h2 : va_RA U b .byte) : a = b := Option.some.inj ((show U.vm.findClass _ = some a from h1).symm.trans h2)
theorem RA_bool (U : State) (a b : ClassId) (h1 : va_RA U a .boolean) (h2 : va_RA U b .boolean) : a = b := Option.some.inj ((show U.vm.findClass _ = some a from h1).symm.trans h2)
