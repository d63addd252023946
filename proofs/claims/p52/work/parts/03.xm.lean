/-! THE ABSTRACT MACHINE: a state is the ints and longs of the cells of a fixed layout; X: a walk inside a method; C: a method's contract -/
abbrev St : Type := (Nat → Nat → Int32) × (Nat → Nat → Int64)
abbrev FdX : Type := Nat ⊕ Bool
abbrev Ds : Type := (Nat × List FdX) ⊕ (Nat × Nat)
def LAY : List Ds := [.inl (10, [.inl 1, .inl 3, .inl 6, .inl 9, .inl 11, .inl 35, .inl 40, .inl 60, .inl 63, .inl 66, .inl 67, .inl 74, .inl 78, .inl 82]),
  .inl (9, [.inr false, .inr true, .inr true, .inr false, .inl 2]),
  .inr (0, 6),
  .inl (5, [.inr false, .inl 4, .inl 5]),
  .inr (0, 6),
  .inr (0, 360),
  .inl (5, [.inr false, .inl 7, .inl 8]),
  .inr (0, 4),
  .inr (0, 400),
  .inl (4, [.inl 6, .inl 23, .inl 10, .inr false, .inr false]),
  .inr (0, 4),
  .inl (1, [.inr false, .inr false, .inr false, .inr false, .inl 12, .inl 13, .inl 14, .inl 15, .inl 16, .inl 17, .inl 18, .inl 19, .inl 20, .inl 21, .inl 22]),
  .inr (0, 5),
  .inr (0, 5),
  .inr (0, 5),
  .inr (0, 5),
  .inr (0, 2),
  .inr (0, 8),
  .inr (0, 8),
  .inr (0, 8),
  .inr (0, 8),
  .inr (0, 6),
  .inr (0, 256),
  .inl (1, [.inr false, .inr false, .inr false, .inr false, .inl 24, .inl 25, .inl 26, .inl 27, .inl 28, .inl 29, .inl 30, .inl 31, .inl 32, .inl 33, .inl 34]),
  .inr (0, 5),
  .inr (0, 5),
  .inr (0, 5),
  .inr (0, 5),
  .inr (0, 2),
  .inr (0, 8),
  .inr (0, 8),
  .inr (0, 8),
  .inr (0, 8),
  .inr (0, 6),
  .inr (0, 256),
  .inl (3, [.inl 11, .inl 36, .inl 37, .inl 38, .inl 39, .inr false]),
  .inr (0, 5),
  .inr (0, 5),
  .inr (0, 5),
  .inr (0, 2),
  .inl (3, [.inl 11, .inl 41, .inl 42, .inl 43, .inl 44, .inr false]),
  .inr (0, 5),
  .inr (0, 5),
  .inr (0, 5),
  .inr (0, 2),
  .inl (3, [.inl 11, .inl 46, .inl 47, .inl 48, .inl 49, .inr false]),
  .inr (0, 5),
  .inr (0, 5),
  .inr (0, 5),
  .inr (0, 2),
  .inl (3, [.inl 11, .inl 51, .inl 52, .inl 53, .inl 54, .inr false]),
  .inr (0, 5),
  .inr (0, 5),
  .inr (0, 5),
  .inr (0, 2),
  .inl (3, [.inl 11, .inl 56, .inl 57, .inl 58, .inl 59, .inr false]),
  .inr (0, 5),
  .inr (0, 5),
  .inr (0, 5),
  .inr (0, 2),
  .inl (2, [.inr false, .inl 61, .inl 62]),
  .inr (0, 40),
  .inr (0, 40),
  .inl (2, [.inr false, .inl 64, .inl 65]),
  .inr (0, 8),
  .inr (0, 8),
  .inr (0, 3),
  .inr (0, 3),
  .inl (7, [.inr false, .inl 69, .inl 70, .inl 71, .inl 72, .inl 73]),
  .inr (0, 8525),
  .inr (0, 8525),
  .inr (0, 8525),
  .inr (0, 8525),
  .inr (0, 16807),
  .inl (6, [.inl 11, .inl 68, .inl 45, .inl 75, .inl 76, .inl 77, .inr false, .inr false, .inr false, .inr false]),
  .inr (0, 5),
  .inr (0, 80000),
  .inr (0, 8525),
  .inl (0, [.inl 11, .inl 74, .inl 50, .inl 79, .inl 80, .inl 81]),
  .inr (0, 8525),
  .inr (0, 8525),
  .inr (0, 8525),
  .inl (8, [.inl 11, .inl 68, .inl 74, .inl 55]),
  .inr (0, 64)]
abbrev Sc : Type := Nat × (Nat → Int32)
abbrev Gm : Type := va_G × (Nat → Nat) × (Nat → ClassId) × Sc × Bool
def cv (ad : Nat → Nat) : Value → Value
  | .ref k => .ref (ad k)
  | v => v
theorem cv_cat (ad : Nat → Nat) (v : Value) : (cv ad v).category = v.category := by cases v <;> rfl
def fdV (ad : Nat → Nat) (S : St) (k j : Nat) : FdX → Value
  | .inl r => .ref (ad r)
  | .inr false => .int (S.1 k j)
  | .inr true => .long (S.2 k j)
def clE (Γ : Gm) (S : St) (k : Nat) : Ds → va_E
  | .inl q => .inr (q.1, q.2.mapIdx (fun j f => fdV Γ.2.1 S k j f))
  | .inr q => .inl (Γ.2.2.1 q.1, q.2, .inl (S.1 k))
/-- the row of five that one method makes -/
def wsE (Γ : Gm) (S : St) : va_W := if Γ.2.2.2.2 then [(Γ.2.1 84, .inl (Γ.2.2.1 0, 5, .inl (S.1 84)))] else []
def wsB (Γ : Gm) (S : St) : va_W := LAY.mapIdx (fun k d => (Γ.2.1 k, clE Γ S k d))
def wsO (Γ : Gm) (S : St) : va_W := wsB Γ S ++ wsE Γ S
theorem wsB_len (Γ : Gm) (S : St) : (wsB Γ S).length = 84 := by
  unfold wsB
  rw [List.length_mapIdx]
  rfl
theorem wsB_get (Γ : Gm) (S : St) (k : Nat) : (wsB Γ S)[k]? = (LAY[k]?).map (fun d => (Γ.2.1 k, clE Γ S k d)) := by
  unfold wsB
  rw [List.getElem?_mapIdx]
theorem wsO_get (Γ : Gm) (S : St) {k : Nat} (hk : k < 84) : (wsO Γ S)[k]? = (LAY[k]?).map (fun d => (Γ.2.1 k, clE Γ S k d)) := by
  unfold wsO
  rw [List.getElem?_append_left (by rw [wsB_len]; exact hk)]
  unfold wsB
  rw [List.getElem?_mapIdx]
theorem LAY_lt {k : Nat} {d : Ds} (h : LAY[k]? = some d) : k < 84 := (List.getElem?_eq_some_iff.mp h).1
theorem wsO_at {Γ : Gm} {S : St} {k : Nat} {d : Ds} (h : LAY[k]? = some d) : (wsO Γ S)[k]? = some (Γ.2.1 k, clE Γ S k d) := by
  rw [wsO_get Γ S (LAY_lt h), h]
  rfl
def setI (S : St) (k j : Nat) (v : Int32) : St := (fun a b => if a = k ∧ b = j then v else S.1 a b, S.2)
def setL (S : St) (k j : Nat) (v : Int64) : St := (S.1, fun a b => if a = k ∧ b = j then v else S.2 a b)
theorem clE_ne {Γ : Gm} {S S' : St} {i : Nat} (h1 : ∀ b, S'.1 i b = S.1 i b) (h2 : ∀ b, S'.2 i b = S.2 i b) (d : Ds) : clE Γ S' i d = clE Γ S i d := by
  cases d with
  | inl q =>
    have e : (fun j f => fdV Γ.2.1 S' i j f) = (fun j f => fdV Γ.2.1 S i j f) := by
      funext j f
      rcases f with r | _ | _
      · rfl
      · show Value.int _ = Value.int _
        rw [h1]
      · show Value.long _ = Value.long _
        rw [h2]
    show (Sum.inr (q.1, q.2.mapIdx (fun j f => fdV Γ.2.1 S' i j f)) : va_E) = Sum.inr (q.1, q.2.mapIdx (fun j f => fdV Γ.2.1 S i j f))
    rw [e]
  | inr q =>
    unfold clE
    have e : S'.1 i = S.1 i := funext h1
    rw [e]
theorem wsE_ne {Γ : Gm} {S S' : St} (h : ∀ b, S'.1 84 b = S.1 84 b) : wsE Γ S' = wsE Γ S := by
  unfold wsE
  rw [show S'.1 84 = S.1 84 from funext h]
theorem wsB_set {Γ : Gm} {S S' : St} {k : Nat} {d : Ds} (h : LAY[k]? = some d) {E : va_E} (hE : E = clE Γ S' k d) (h1 : ∀ i, i ≠ k → ∀ b, S'.1 i b = S.1 i b) (h2 : ∀ i, i ≠ k → ∀ b, S'.2 i b = S.2 i b) : (wsB Γ S).set k (Γ.2.1 k, E) = wsB Γ S' := by
  have hl : k < (wsB Γ S).length := by rw [wsB_len]; exact LAY_lt h
  apply List.ext_getElem?
  intro i
  by_cases hi : i = k
  · subst hi
    rw [List.getElem?_set_self hl, wsB_get, h, hE]
    rfl
  · rw [List.getElem?_set_ne (fun q => hi q.symm), wsB_get, wsB_get]
    cases LAY[i]? with
    | none => rfl
    | some d' => simp only [Option.map_some, clE_ne (h1 i hi) (h2 i hi)]
theorem wsO_set {Γ : Gm} {S S' : St} {k : Nat} {d : Ds} (h : LAY[k]? = some d) {E : va_E} (hE : E = clE Γ S' k d) (h1 : ∀ i, i ≠ k → ∀ b, S'.1 i b = S.1 i b) (h2 : ∀ i, i ≠ k → ∀ b, S'.2 i b = S.2 i b) : (wsO Γ S).set k (Γ.2.1 k, E) = wsO Γ S' := by
  have hk : k < 84 := LAY_lt h
  have hl : k < (wsB Γ S).length := by rw [wsB_len]; exact hk
  have e1 : wsE Γ S' = wsE Γ S := wsE_ne (h1 84 (fun q => Nat.lt_irrefl 84 (by rw [← q] at hk; exact hk)))
  unfold wsO
  rw [List.set_append_left _ _ hl, e1, wsB_set h hE h1 h2]
theorem wsO_setF {Γ : Gm} {S : St} {k ci j : Nat} {fs : List FdX} (h : LAY[k]? = some (.inl (ci, fs))) (hj : fs[j]? = some (.inr false)) (v : Int32) : (wsO Γ S).set k (Γ.2.1 k, .inr (ci, (fs.mapIdx (fun j f => fdV Γ.2.1 S k j f)).set j (.int v))) = wsO Γ (setI S k j v) := by
  refine wsO_set h ?_ (fun i hi b => by simp [setI, hi]) (fun i hi b => rfl)
  show _ = Sum.inr (ci, _)
  congr 2
  apply List.ext_getElem?
  intro i
  by_cases hi : j = i
  · subst hi
    have hl : j < (fs.mapIdx (fun j f => fdV Γ.2.1 S k j f)).length := by
      rw [List.length_mapIdx]
      exact (List.getElem?_eq_some_iff.mp hj).1
    rw [List.getElem?_set_self hl, List.getElem?_mapIdx, hj]
    simp [fdV, setI]
  · rw [List.getElem?_set_ne hi, List.getElem?_mapIdx, List.getElem?_mapIdx]
    cases fs[i]? with
    | none => rfl
    | some f =>
      rcases f with r | _ | _
      · rfl
      · simp [fdV, setI]
        exact fun q => absurd q.symm hi
      · rfl
theorem wsO_setL {Γ : Gm} {S : St} {k ci j : Nat} {fs : List FdX} (h : LAY[k]? = some (.inl (ci, fs))) (hj : fs[j]? = some (.inr true)) (v : Int64) : (wsO Γ S).set k (Γ.2.1 k, .inr (ci, (fs.mapIdx (fun j f => fdV Γ.2.1 S k j f)).set j (.long v))) = wsO Γ (setL S k j v) := by
  refine wsO_set h ?_ (fun i hi b => rfl) (fun i hi b => by simp [setL, hi])
  show _ = Sum.inr (ci, _)
  congr 2
  apply List.ext_getElem?
  intro i
  by_cases hi : j = i
  · subst hi
    have hl : j < (fs.mapIdx (fun j f => fdV Γ.2.1 S k j f)).length := by
      rw [List.length_mapIdx]
      exact (List.getElem?_eq_some_iff.mp hj).1
    rw [List.getElem?_set_self hl, List.getElem?_mapIdx, hj]
    simp [fdV, setL]
  · rw [List.getElem?_set_ne hi, List.getElem?_mapIdx, List.getElem?_mapIdx]
    cases fs[i]? with
    | none => rfl
    | some f =>
      rcases f with r | _ | _
      · rfl
      · rfl
      · simp [fdV, setL]
        exact fun q => absurd q.symm hi
theorem wsO_setA {Γ : Gm} {S : St} {k t n j : Nat} (h : LAY[k]? = some (.inr (t, n))) (v : Int32) : (wsO Γ S).set k (Γ.2.1 k, .inl (Γ.2.2.1 t, n, .inl (upd (S.1 k) j v))) = wsO Γ (setI S k j v) := by
  refine wsO_set h ?_ (fun i hi b => by simp [setI, hi]) (fun i hi b => rfl)
  show _ = Sum.inl (Γ.2.2.1 t, n, Sum.inl _)
  congr 4
  funext q
  simp [upd, setI]
def TB : List Cond := wsL_law
theorem wsL_law_good : ∀ w ∈ wsL_law, (w.onTables && w.keeps) = true ∨ ∃ ty, w = .arrayClass ty := fun w hw => good_of_word (List.all_eq_true.mp (show wsL_law.all goodWord = true by decide +kernel) w hw)
theorem TB_good : GoodIn TB TB := fun w hw => ⟨hw, wsL_law_good w hw⟩
def sev : Nat → Int32 := fun j => match j with
  | 0 => 1
  | 1 => 7
  | 2 => 49
  | 3 => 343
  | _ => 2401
abbrev nwP : Cond := .fieldLinkNest RX3 49 RX10 "SEVENS" "[I" RX10
abbrev nwS : Cond := .fieldLinkNest RX6 88 RX10 "SEVENS" "[I" RX10
abbrev nwT : Cond := .fieldLinkNest RX8 110 RX10 "SEVENS" "[I" RX10
abbrev nwF : Cond := .methodLinkNest RX8 103 yX3_fits RX10
def Kn (Γ : Gm) (A : Nat → Prop) (U : State) : Prop :=
  va_K Γ.1 vwCl [(Γ.2.2.1 0, .int)] U ∧ va_Z RX10 "SEVENS" "[I" (.ref (Γ.2.1 200)) A U U.heap ∧ va_T .int (Γ.2.1 200) 5 (fun j => .int (sev j)) A U U.heap ∧
  va_T .int (Γ.2.1 201) Γ.2.2.2.1.1 (fun j => .int (Γ.2.2.2.1.2 j)) A U U.heap ∧
  va_Nw nwP U ∧ va_Nw nwS U ∧ va_Nw nwT U ∧ va_Nw nwF U
theorem Kn.go {Γ : Gm} {A : Nat → Prop} {s U : State} {H : Heap} {locs : List Loc} (h : Kn Γ A s) (hS : va_S A s.heap H locs) (hU : U.heap = H) (hW : s.WarmedH U.vm) : Kn Γ A U := by
  obtain ⟨h1, h2, h3, h8, h4, h5, h6, h7⟩ := h
  refine ⟨va_K.moved hW.alike h1, ?_, ?_, ?_, va_Nw.warmF hW h4, va_Nw.warmF hW h5, va_Nw.warmF hW h6, va_Nw.warmM hW h7⟩
  · rw [hU]
    exact (va_Z.moved hW.alike h2).kept (fun a ha hn => hS.2.1 a ha hn)
  · rw [hU]
    exact (va_T.moved hW.alike h3).kept (fun a ha hn => hS.2.1 a ha hn)
  · rw [hU]
    exact (va_T.moved hW.alike h8).kept (fun a ha hn => hS.2.1 a ha hn)
theorem Kn.call {Γ : Gm} {A : Nat → Prop} {U : State} (h : Kn Γ A U) (g : JFrame) (mk : MethodId) (a : Array Value) : Kn Γ A (U.calling g mk a) := by
  obtain ⟨h1, h2, h3, h8, h4, h5, h6, h7⟩ := h
  exact ⟨va_K.moved (u := U) (U := U.calling g mk a) (Vm.Alike.refl U.vm) h1, va_Z.moved (u := U) (U := U.calling g mk a) (Vm.Alike.refl U.vm) h2, va_T.moved (u := U) (U := U.calling g mk a) (Vm.Alike.refl U.vm) h3, va_T.moved (u := U) (U := U.calling g mk a) (Vm.Alike.refl U.vm) h8, va_Nw.same rfl rfl h4, va_Nw.same rfl rfl h5, va_Nw.same rfl rfl h6, va_Nw.same rfl rfl h7⟩
/-- class, code, locals, what is answered; the script, if the method reads it; whether it may make the row of five; whether that is there -/
abbrev MD : Type := String × ByteArray × Nat × Option FieldType × Option Sc × Bool × Bool
def mcOf (M : MD) : Nat := if M.2.2.2.2.2.1 then 1 else 0
def msOf (M : MD) : Nat := if M.2.2.2.2.2.1 then 5 else 0
def Sok (M : MD) (Γ : Gm) : Prop := (∀ sc, M.2.2.2.2.1 = some sc → Γ.2.2.2.1 = sc) ∧ (M.2.2.2.2.2.2 = true → Γ.2.2.2.2 = true) ∧ (M.2.2.2.2.2.1 = true → Γ.2.2.2.2 = false)
def Sak (M : MD) (A : Nat → Prop) (U : State) : Prop := M.2.2.2.2.2.1 = true → ∀ q, U.heap.size ≤ q → A q
def QA (Γ : Gm) (A : Nat → Prop) (Q : Option Value → St → Prop) : Array Value → State → Outcome → State → Prop := fun _ st oc t =>
  (∃ (v : Option Value) (S' : St), oc = .returned (v.map (cv Γ.2.1)) ∧ Q v S' ∧ va_P Γ.1 vwCl (wsO Γ S') t.heap ∧ va_D A (wsO Γ S')) ∧ va_F A st t
def Cx (fr lo : Nat) (M : MD) (p : Program) (R : Room) (s : State) (m : MethodId) (args : Array Value) (meth : Method) (c : Code) (cells slots : Nat) (Γ : Gm) (A : Nat → Prop) : Prop :=
  p.tables.exec = Jvm.exec ∧ c.code = M.2.1 ∧ c.maxLocals = M.2.2.1 ∧ meth.sig.returnType = M.2.2.2.1 ∧ (meth.locks = false ∧ Sok M Γ ∧ Sak M A s) ∧ s.vm.findClass M.1 = some m.cls ∧ (∀ w ∈ TB, w.before args s = true) ∧ fr ≤ R.frames ∧ lo ≤ R.locals ∧ mcOf M + cells ≤ R.cells ∧ msOf M + slots ≤ R.slots ∧ Kn Γ A s
def Wd (Γ : Gm) (A : Nat → Prop) (S : St) (H0 H : Heap) (locs : List Loc) : Prop := va_P Γ.1 vwCl (wsO Γ S) H ∧ va_D A (wsO Γ S) ∧ va_S A H0 H locs
def lvm (ad : Nat → Nat) (lv : List (Nat × Value)) : List (Nat × Value) := lv.map (fun q => (q.1, cv ad q.2))
theorem lvm_at {ad : Nat → Nat} {lv : List (Nat × Value)} {n i : Nat} {v : Value} (h : lv[n]? = some (i, v)) : (lvm ad lv)[n]? = some (i, cv ad v) := by
  unfold lvm
  rw [List.getElem?_map, h]
  rfl
def st1 (lv : List (Nat × Value)) (i : Nat) (v : Value) : List (Nat × Value) := (i, v) :: lv.filter (fun q => !(q.1 == i) && !(q.1 + 1 == i && q.2.category == 2))
def st2 (lv : List (Nat × Value)) (i : Nat) (v : Value) : List (Nat × Value) := (i, v) :: lv.filter (fun q => !(q.1 == i) && (!(q.1 == i + 1) && !(q.1 + 1 == i && q.2.category == 2)))
theorem lvm_st1 (ad : Nat → Nat) (lv : List (Nat × Value)) (i : Nat) (v : Value) : (i, cv ad v) :: (lvm ad lv).filter (fun q => !(q.1 == i) && !(q.1 + 1 == i && q.2.category == 2)) = lvm ad (st1 lv i v) := by
  unfold lvm st1
  rw [List.map_cons, List.filter_map]
  congr 3
  funext q
  simp only [Function.comp, cv_cat]
theorem lvm_st2 (ad : Nat → Nat) (lv : List (Nat × Value)) (i : Nat) (v : Value) : (i, cv ad v) :: (lvm ad lv).filter (fun q => !(q.1 == i) && (!(q.1 == i + 1) && !(q.1 + 1 == i && q.2.category == 2))) = lvm ad (st2 lv i v) := by
  unfold lvm st2
  rw [List.map_cons, List.filter_map]
  congr 3
  funext q
  simp only [Function.comp, cv_cat]
def X (fr lo : Nat) (M : MD) (Q : Option Value → St → Prop) (pc : Nat) (lv : List (Nat × Value)) (st : List Value) (S : St) : Prop :=
  ∀ (p : Program) (l : Launch) (e : Env) (R : Room) (s : State) (m : MethodId) (args : Array Value) (below : List Frame) (meth : Method) (c : Code) (H : Heap) (locs : List Loc) (cells slots : Nat) (Γ : Gm) (A : Nat → Prop) (ls : Array Slot),
    Cx fr lo M p R s m args meth c cells slots Γ A → Wd Γ A S s.heap H locs → lv_has ls M.2.2.1 (lvm Γ.2.1 lv) →
    W p l e R s m args below meth c H locs cells slots (MQ below (QA Γ A Q) args s (mcOf M + cells) (msOf M + slots) A) (F0 m pc ls (st.map (cv Γ.2.1)))
def C (fr lo : Nat) (y : MethodName) (M : MD) (as : List Value) (S : St) (Q : Option Value → St → Prop) : Prop :=
  ∀ (l : Launch) (Γ : Gm) (A : Nat → Prop), Sok M Γ → Met l y (.code y M.2.1 M.2.2.1 M.2.2.2.1 :: TB) ({ frames := fr, cells := mcOf M, slots := msOf M, locals := lo }) (va_Pc (as.map (cv Γ.2.1)) (fun U => va_P Γ.1 vwCl (wsO Γ S) U.heap ∧ va_D A (wsO Γ S) ∧ Kn Γ A U ∧ Sak M A U)) (QA Γ A Q) (mcOf M) (msOf M) A
theorem lv_args_cv (ad : Nat → Nat) (as : List Value) : ∀ i : Nat, lv_args i (as.map (cv ad)) = lvm ad (lv_args i as) := by
  induction as with
  | nil => intro i; rfl
  | cons v vs ih =>
    intro i
    show (i, cv ad v) :: lv_args (if (cv ad v).category = 2 then i + 2 else i + 1) (vs.map (cv ad)) = (i, cv ad v) :: lvm ad (lv_args (if v.category = 2 then i + 2 else i + 1) vs)
    rw [cv_cat, ih]
theorem lg_sl_cv (ad : Nat → Nat) (as : List Value) : (lg_sl (as.map (cv ad))).length = (lg_sl as).length := by
  induction as with
  | nil => rfl
  | cons v vs ih =>
    unfold lg_sl at ih ⊢
    rw [List.map_cons, List.flatMap_cons, List.flatMap_cons, List.length_append, List.length_append, ih]
    congr 1
    have h := cv_cat ad v
    by_cases h2 : v.category = 2
    · rw [if_pos h2, if_pos (h.trans h2)]
      rfl
    · rw [if_neg h2, if_neg (fun q => h2 (h.symm.trans q))]
      rfl
theorem C.ofX {fr lo : Nat} {y : MethodName} {M : MD} {as : List Value} {S : St} {Q : Option Value → St → Prop} (hy : plainName y.cls = true) (hM : M.1 = y.cls) (hl : (lg_sl as).length ≤ M.2.2.1) (h : X fr lo M Q 0 (lv_args 0 as) [] S) : C fr lo y M as S Q := by
  intro l Γ A hsk
  refine Met.ofW (cc := M.2.1) (maxL := M.2.2.1) (ret := M.2.2.2.1) hy rfl ?_
  intro p e s m args below meth c s₁ B hml hv
  obtain ⟨rfl, hP, hD, hK, hA⟩ := hv
  have hts := atoms_spec (ws := .code y M.2.1 M.2.2.1 M.2.2.2.1 :: TB) B.pre
  have hown : s.vm.findClass y.cls = some m.cls := findClass_of_methodNamed B.named
  rw [lg_entry_eq]
  refine h p l e _ s m _ below meth c s.heap [] 0 0 Γ A _ ⟨B.exec, B.bytes, hml, B.returns, ⟨B.notSynchronized, hsk, hA⟩, by rw [hM]; exact hown, fun w hw => hts w (List.mem_cons_of_mem _ hw), Nat.le_refl _, Nat.le_refl _, Nat.le_refl _, Nat.le_refl _, hK⟩ ⟨hP, hD, va_S.rf⟩ ?_
  have hl' : (lg_sl (as.map (cv Γ.2.1))).length ≤ M.2.2.1 := by rw [lg_sl_cv]; exact hl
  have := lv_entry (as.map (cv Γ.2.1)) hl'
  rw [lv_args_cv] at this
  exact this
theorem C.mono {fr lo : Nat} {y : MethodName} {M : MD} {as : List Value} {S : St} {Q Q' : Option Value → St → Prop} (h : C fr lo y M as S Q) (hQ : ∀ v S', Q v S' → Q' v S') : C fr lo y M as S Q' := by
  intro l Γ A hsk
  refine MetFree.mono (h l Γ A hsk) (fun _ _ h => h) (fun _ _ _ _ _ h => h) ?_
  · intro a st o t _ hq
    obtain ⟨⟨⟨v, S', h1, h2, h3⟩, h4⟩, h5⟩ := hq
    exact ⟨⟨⟨v, S', h1, hQ v S' h2, h3⟩, h4⟩, h5⟩
theorem X.mono {fr lo : Nat} {M : MD} {Q Q' : Option Value → St → Prop} {pc : Nat} {lv : List (Nat × Value)} {st : List Value} {S : St} (h : X fr lo M Q pc lv st S) (hQ : ∀ v S', Q v S' → Q' v S') : X fr lo M Q' pc lv st S := by
  intro p l e R s m args below meth c H locs cells slots Γ A ls hC hW hL T hT hX
  obtain ⟨t, ht, o, h1, h2, ⟨⟨v, S', q1, q2, q3⟩, h4⟩, h5⟩ := h p l e R s m args below meth c H locs cells slots Γ A ls hC hW hL T hT hX
  exact ⟨t, ht, o, h1, h2, ⟨⟨v, S', q1, hQ v S' q2, q3⟩, h4⟩, h5⟩
theorem c_lt {x y : Int32} (h : x < y) : x.toInt < y.toInt := Int32.lt_iff_toInt_lt.mp h
theorem c_nlt {x y : Int32} (h : ¬ x < y) : y.toInt ≤ x.toInt := Int.not_lt.mp fun q => h (Int32.lt_iff_toInt_lt.mpr q)
theorem c_le {x y : Int32} (h : x ≤ y) : x.toInt ≤ y.toInt := Int32.le_iff_toInt_le.mp h
theorem c_nle {x y : Int32} (h : ¬ x ≤ y) : y.toInt < x.toInt := Int.not_le.mp fun q => h (Int32.le_iff_toInt_le.mpr q)
theorem c_ge {x y : Int32} (h : y ≤ x) : y.toInt ≤ x.toInt := c_le h
theorem c_nge {x y : Int32} (h : ¬ y ≤ x) : x.toInt < y.toInt := c_nle h
theorem c_gt {x y : Int32} (h : y < x) : y.toInt < x.toInt := c_lt h
theorem c_ngt {x y : Int32} (h : ¬ y < x) : x.toInt ≤ y.toInt := c_nlt h
theorem c_lt0 {x : Int32} (h : x < 0) : x.toInt < 0 := by have := c_lt h; simpa using this
theorem c_nlt0 {x : Int32} (h : ¬ x < 0) : 0 ≤ x.toInt := by have := c_nlt h; simpa using this
theorem c_le0 {x : Int32} (h : x ≤ 0) : x.toInt ≤ 0 := by have := c_le h; simpa using this
theorem c_nle0 {x : Int32} (h : ¬ x ≤ 0) : 0 < x.toInt := by have := c_nle h; simpa using this
theorem c_ge0 {x : Int32} (h : 0 ≤ x) : 0 ≤ x.toInt := by have := c_ge h; simpa using this
theorem c_nge0 {x : Int32} (h : ¬ 0 ≤ x) : x.toInt < 0 := by have := c_nge h; simpa using this
theorem c_gt0 {x : Int32} (h : 0 < x) : 0 < x.toInt := by have := c_gt h; simpa using this
theorem c_ngt0 {x : Int32} (h : ¬ 0 < x) : x.toInt ≤ 0 := by have := c_ngt h; simpa using this
section XR
variable {fr lo : Nat} {M : MD} {Q : Option Value → St → Prop} {pc : Nat} {lv : List (Nat × Value)} {st : List Value} {S : St}
theorem x_iconst {n : Int} {v : Int32} (hd : decode M.2.1 pc = .ok (.iconst n, 1)) (hv : Int32.ofInt n = v) (kk : X fr lo M Q (pc + 1) lv (.int v :: st) S) : X fr lo M Q pc lv (st) S := by
  intro p l e R s m args below meth c H locs cells slots Γ A ls hC hW hL
  exact lv_iconst hC.1 hC.2.1 hd hv (kk p l e R s m args below meth c H locs cells slots Γ A ls hC hW hL)
theorem x_bipush {n : Int} {v : Int32} (hd : decode M.2.1 pc = .ok (.bipush n, 2)) (hv : (Int8.ofInt n).toInt32 = v) (kk : X fr lo M Q (pc + 2) lv (.int v :: st) S) : X fr lo M Q pc lv (st) S := by
  intro p l e R s m args below meth c H locs cells slots Γ A ls hC hW hL
  exact lv_bipush hC.1 hC.2.1 hd hv (kk p l e R s m args below meth c H locs cells slots Γ A ls hC hW hL)
theorem x_sipush {n : Int} {v : Int32} (hd : decode M.2.1 pc = .ok (.sipush n, 3)) (hv : (Int16.ofInt n).toInt32 = v) (kk : X fr lo M Q (pc + 3) lv (.int v :: st) S) : X fr lo M Q pc lv (st) S := by
  intro p l e R s m args below meth c H locs cells slots Γ A ls hC hW hL
  exact lv_sipush hC.1 hC.2.1 hd hv (kk p l e R s m args below meth c H locs cells slots Γ A ls hC hW hL)
theorem x_lconst {n : Fin 2} {v : Int64} (hd : decode M.2.1 pc = .ok (.lconst n, 1)) (hv : Int64.ofNat (n : Nat) = v) (kk : X fr lo M Q (pc + 1) lv (.long v :: st) S) : X fr lo M Q pc lv (st) S := by
  intro p l e R s m args below meth c H locs cells slots Γ A ls hC hW hL
  exact lv_lconst hC.1 hC.2.1 hd hv (kk p l e R s m args below meth c H locs cells slots Γ A ls hC hW hL)
theorem x_iload_n {k : Fin 4} {i : Nat} {v : Int32} (n : Nat) (hd : decode M.2.1 pc = .ok (.iload_n k, 1)) (hi : (k : Nat) = i) (h : lv[n]? = some (i, .int v)) (kk : X fr lo M Q (pc + 1) lv (.int v :: st) S) : X fr lo M Q pc lv (st) S := by
  intro p l e R s m args below meth c H locs cells slots Γ A ls hC hW hL
  exact lv_iload_n hC.1 hC.2.1 hd hi (lv_at hL n (lvm_at h)) (kk p l e R s m args below meth c H locs cells slots Γ A ls hC hW hL)
theorem x_iload {i : Nat} {v : Int32} (n : Nat) (hd : decode M.2.1 pc = .ok (.iload i, 2)) (h : lv[n]? = some (i, .int v)) (kk : X fr lo M Q (pc + 2) lv (.int v :: st) S) : X fr lo M Q pc lv (st) S := by
  intro p l e R s m args below meth c H locs cells slots Γ A ls hC hW hL
  exact lv_iload hC.1 hC.2.1 hd (lv_at hL n (lvm_at h)) (kk p l e R s m args below meth c H locs cells slots Γ A ls hC hW hL)
theorem x_lload_n {k : Fin 4} {i : Nat} {v : Int64} (n : Nat) (hd : decode M.2.1 pc = .ok (.lload_n k, 1)) (hi : (k : Nat) = i) (h : lv[n]? = some (i, .long v)) (kk : X fr lo M Q (pc + 1) lv (.long v :: st) S) : X fr lo M Q pc lv (st) S := by
  intro p l e R s m args below meth c H locs cells slots Γ A ls hC hW hL
  exact lv_lload_n hC.1 hC.2.1 hd hi (lv_at hL n (lvm_at h)) (kk p l e R s m args below meth c H locs cells slots Γ A ls hC hW hL)
theorem x_lload {i : Nat} {v : Int64} (n : Nat) (hd : decode M.2.1 pc = .ok (.lload i, 2)) (h : lv[n]? = some (i, .long v)) (kk : X fr lo M Q (pc + 2) lv (.long v :: st) S) : X fr lo M Q pc lv (st) S := by
  intro p l e R s m args below meth c H locs cells slots Γ A ls hC hW hL
  exact lv_lload hC.1 hC.2.1 hd (lv_at hL n (lvm_at h)) (kk p l e R s m args below meth c H locs cells slots Γ A ls hC hW hL)
theorem x_aload_n {k : Fin 4} {i : Nat} {v : Nat} (n : Nat) (hd : decode M.2.1 pc = .ok (.aload_n k, 1)) (hi : (k : Nat) = i) (h : lv[n]? = some (i, .ref v)) (kk : X fr lo M Q (pc + 1) lv (.ref v :: st) S) : X fr lo M Q pc lv (st) S := by
  intro p l e R s m args below meth c H locs cells slots Γ A ls hC hW hL
  exact lv_aload_n hC.1 hC.2.1 hd hi (lv_at hL n (lvm_at h)) (kk p l e R s m args below meth c H locs cells slots Γ A ls hC hW hL)
theorem x_aload {i : Nat} {v : Nat} (n : Nat) (hd : decode M.2.1 pc = .ok (.aload i, 2)) (h : lv[n]? = some (i, .ref v)) (kk : X fr lo M Q (pc + 2) lv (.ref v :: st) S) : X fr lo M Q pc lv (st) S := by
  intro p l e R s m args below meth c H locs cells slots Γ A ls hC hW hL
  exact lv_aload hC.1 hC.2.1 hd (lv_at hL n (lvm_at h)) (kk p l e R s m args below meth c H locs cells slots Γ A ls hC hW hL)
theorem x_istore_n {k : Fin 4} {i : Nat} {v : Int32} {lv' : List (Nat × Value)} (hd : decode M.2.1 pc = .ok (.istore_n k, 1)) (hi : (k : Nat) = i) (hn : i < M.2.2.1) (h : st1 lv i (.int v) = lv') (kk : X fr lo M Q (pc + 1) lv' st S) : X fr lo M Q pc lv (.int v :: st) S := by
  intro p l e R s m args below meth c H locs cells slots Γ A ls hC hW hL
  exact lv_istore_n (nL := M.2.2.1) hC.1 hC.2.1 hd hi hL hn ((lvm_st1 Γ.2.1 lv i (.int v)).trans (by rw [h])) (fun ls' hL' => kk p l e R s m args below meth c H locs cells slots Γ A ls' hC hW hL')
theorem x_istore {i : Nat} {v : Int32} {lv' : List (Nat × Value)} (hd : decode M.2.1 pc = .ok (.istore i, 2)) (hn : i < M.2.2.1) (h : st1 lv i (.int v) = lv') (kk : X fr lo M Q (pc + 2) lv' st S) : X fr lo M Q pc lv (.int v :: st) S := by
  intro p l e R s m args below meth c H locs cells slots Γ A ls hC hW hL
  exact lv_istore (nL := M.2.2.1) hC.1 hC.2.1 hd hL hn ((lvm_st1 Γ.2.1 lv i (.int v)).trans (by rw [h])) (fun ls' hL' => kk p l e R s m args below meth c H locs cells slots Γ A ls' hC hW hL')
theorem x_lstore_n {k : Fin 4} {i : Nat} {v : Int64} {lv' : List (Nat × Value)} (hd : decode M.2.1 pc = .ok (.lstore_n k, 1)) (hi : (k : Nat) = i) (hn : i + 1 < M.2.2.1) (h : st2 lv i (.long v) = lv') (kk : X fr lo M Q (pc + 1) lv' st S) : X fr lo M Q pc lv (.long v :: st) S := by
  intro p l e R s m args below meth c H locs cells slots Γ A ls hC hW hL
  exact lv_lstore_n (nL := M.2.2.1) hC.1 hC.2.1 hd hi hL hn ((lvm_st2 Γ.2.1 lv i (.long v)).trans (by rw [h])) (fun ls' hL' => kk p l e R s m args below meth c H locs cells slots Γ A ls' hC hW hL')
theorem x_lstore {i : Nat} {v : Int64} {lv' : List (Nat × Value)} (hd : decode M.2.1 pc = .ok (.lstore i, 2)) (hn : i + 1 < M.2.2.1) (h : st2 lv i (.long v) = lv') (kk : X fr lo M Q (pc + 2) lv' st S) : X fr lo M Q pc lv (.long v :: st) S := by
  intro p l e R s m args below meth c H locs cells slots Γ A ls hC hW hL
  exact lv_lstore (nL := M.2.2.1) hC.1 hC.2.1 hd hL hn ((lvm_st2 Γ.2.1 lv i (.long v)).trans (by rw [h])) (fun ls' hL' => kk p l e R s m args below meth c H locs cells slots Γ A ls' hC hW hL')
theorem x_astore_n {k : Fin 4} {i : Nat} {v : Nat} {lv' : List (Nat × Value)} (hd : decode M.2.1 pc = .ok (.astore_n k, 1)) (hi : (k : Nat) = i) (hn : i < M.2.2.1) (h : st1 lv i (.ref v) = lv') (kk : X fr lo M Q (pc + 1) lv' st S) : X fr lo M Q pc lv (.ref v :: st) S := by
  intro p l e R s m args below meth c H locs cells slots Γ A ls hC hW hL
  exact lv_astore_n (nL := M.2.2.1) hC.1 hC.2.1 hd hi hL hn ((lvm_st1 Γ.2.1 lv i (.ref v)).trans (by rw [h])) (fun ls' hL' => kk p l e R s m args below meth c H locs cells slots Γ A ls' hC hW hL')
theorem x_astore {i : Nat} {v : Nat} {lv' : List (Nat × Value)} (hd : decode M.2.1 pc = .ok (.astore i, 2)) (hn : i < M.2.2.1) (h : st1 lv i (.ref v) = lv') (kk : X fr lo M Q (pc + 2) lv' st S) : X fr lo M Q pc lv (.ref v :: st) S := by
  intro p l e R s m args below meth c H locs cells slots Γ A ls hC hW hL
  exact lv_astore (nL := M.2.2.1) hC.1 hC.2.1 hd hL hn ((lvm_st1 Γ.2.1 lv i (.ref v)).trans (by rw [h])) (fun ls' hL' => kk p l e R s m args below meth c H locs cells slots Γ A ls' hC hW hL')
theorem x_iinc {i : Nat} {z : Int} {x v : Int32} {lv' : List (Nat × Value)} (n : Nat) (hd : decode M.2.1 pc = .ok (.iinc i z, 3)) (h : lv[n]? = some (i, .int x)) (hv : x + Int32.ofInt z = v) (hn : i < M.2.2.1) (h' : st1 lv i (.int v) = lv') (kk : X fr lo M Q (pc + 3) lv' st S) : X fr lo M Q pc lv st S := by
  intro p l e R s m args below meth c H locs cells slots Γ A ls hC hW hL
  exact lv_iinc (nL := M.2.2.1) hC.1 hC.2.1 hd hL (lvm_at h) hv hn ((lvm_st1 Γ.2.1 lv i (.int v)).trans (by rw [h'])) (fun ls' hL' => kk p l e R s m args below meth c H locs cells slots Γ A ls' hC hW hL')
theorem x_iadd {x y : Int32} (hd : decode M.2.1 pc = .ok (.iadd, 1))  (kk : X fr lo M Q (pc + 1) lv (.int (x + y) :: st) S) : X fr lo M Q pc lv (.int y :: .int x :: st) S := by
  intro p l e R s m args below meth c H locs cells slots Γ A ls hC hW hL
  exact lv_iadd hC.1 hC.2.1 hd (kk p l e R s m args below meth c H locs cells slots Γ A ls hC hW hL)
theorem x_isub {x y : Int32} (hd : decode M.2.1 pc = .ok (.isub, 1))  (kk : X fr lo M Q (pc + 1) lv (.int (x - y) :: st) S) : X fr lo M Q pc lv (.int y :: .int x :: st) S := by
  intro p l e R s m args below meth c H locs cells slots Γ A ls hC hW hL
  exact lv_isub hC.1 hC.2.1 hd (kk p l e R s m args below meth c H locs cells slots Γ A ls hC hW hL)
theorem x_imul {x y : Int32} (hd : decode M.2.1 pc = .ok (.imul, 1))  (kk : X fr lo M Q (pc + 1) lv (.int (x * y) :: st) S) : X fr lo M Q pc lv (.int y :: .int x :: st) S := by
  intro p l e R s m args below meth c H locs cells slots Γ A ls hC hW hL
  exact lv_imul hC.1 hC.2.1 hd (kk p l e R s m args below meth c H locs cells slots Γ A ls hC hW hL)
theorem x_iand {x y : Int32} (hd : decode M.2.1 pc = .ok (.iand, 1))  (kk : X fr lo M Q (pc + 1) lv (.int (x &&& y) :: st) S) : X fr lo M Q pc lv (.int y :: .int x :: st) S := by
  intro p l e R s m args below meth c H locs cells slots Γ A ls hC hW hL
  exact lv_iand hC.1 hC.2.1 hd (kk p l e R s m args below meth c H locs cells slots Γ A ls hC hW hL)
theorem x_ior {x y : Int32} (hd : decode M.2.1 pc = .ok (.ior, 1))  (kk : X fr lo M Q (pc + 1) lv (.int (x ||| y) :: st) S) : X fr lo M Q pc lv (.int y :: .int x :: st) S := by
  intro p l e R s m args below meth c H locs cells slots Γ A ls hC hW hL
  exact lv_ior hC.1 hC.2.1 hd (kk p l e R s m args below meth c H locs cells slots Γ A ls hC hW hL)
theorem x_ixor {x y : Int32} (hd : decode M.2.1 pc = .ok (.ixor, 1))  (kk : X fr lo M Q (pc + 1) lv (.int (x ^^^ y) :: st) S) : X fr lo M Q pc lv (.int y :: .int x :: st) S := by
  intro p l e R s m args below meth c H locs cells slots Γ A ls hC hW hL
  exact lv_ixor hC.1 hC.2.1 hd (kk p l e R s m args below meth c H locs cells slots Γ A ls hC hW hL)
theorem x_ishl {x y : Int32} (hd : decode M.2.1 pc = .ok (.ishl, 1))  (kk : X fr lo M Q (pc + 1) lv (.int (x <<< (y &&& 31)) :: st) S) : X fr lo M Q pc lv (.int y :: .int x :: st) S := by
  intro p l e R s m args below meth c H locs cells slots Γ A ls hC hW hL
  exact lv_ishl hC.1 hC.2.1 hd (kk p l e R s m args below meth c H locs cells slots Γ A ls hC hW hL)
theorem x_ishr {x y : Int32} (hd : decode M.2.1 pc = .ok (.ishr, 1))  (kk : X fr lo M Q (pc + 1) lv (.int (x >>> (y &&& 31)) :: st) S) : X fr lo M Q pc lv (.int y :: .int x :: st) S := by
  intro p l e R s m args below meth c H locs cells slots Γ A ls hC hW hL
  exact lv_ishr hC.1 hC.2.1 hd (kk p l e R s m args below meth c H locs cells slots Γ A ls hC hW hL)
theorem x_idiv {x y : Int32} (hd : decode M.2.1 pc = .ok (.idiv, 1)) (hne : ¬ y = 0) (kk : X fr lo M Q (pc + 1) lv (.int (x / y) :: st) S) : X fr lo M Q pc lv (.int y :: .int x :: st) S := by
  intro p l e R s m args below meth c H locs cells slots Γ A ls hC hW hL
  exact lv_idiv hC.1 hC.2.1 hd hne (kk p l e R s m args below meth c H locs cells slots Γ A ls hC hW hL)
theorem x_irem {x y : Int32} (hd : decode M.2.1 pc = .ok (.irem, 1)) (hne : ¬ y = 0) (kk : X fr lo M Q (pc + 1) lv (.int (x - x / y * y) :: st) S) : X fr lo M Q pc lv (.int y :: .int x :: st) S := by
  intro p l e R s m args below meth c H locs cells slots Γ A ls hC hW hL
  exact lv_irem hC.1 hC.2.1 hd hne (kk p l e R s m args below meth c H locs cells slots Γ A ls hC hW hL)
theorem x_ladd {x y : Int64} (hd : decode M.2.1 pc = .ok (.ladd, 1))  (kk : X fr lo M Q (pc + 1) lv (.long (x + y) :: st) S) : X fr lo M Q pc lv (.long y :: .long x :: st) S := by
  intro p l e R s m args below meth c H locs cells slots Γ A ls hC hW hL
  exact lv_ladd hC.1 hC.2.1 hd (kk p l e R s m args below meth c H locs cells slots Γ A ls hC hW hL)
theorem x_lsub {x y : Int64} (hd : decode M.2.1 pc = .ok (.lsub, 1))  (kk : X fr lo M Q (pc + 1) lv (.long (x - y) :: st) S) : X fr lo M Q pc lv (.long y :: .long x :: st) S := by
  intro p l e R s m args below meth c H locs cells slots Γ A ls hC hW hL
  exact lv_lsub hC.1 hC.2.1 hd (kk p l e R s m args below meth c H locs cells slots Γ A ls hC hW hL)
theorem x_lmul {x y : Int64} (hd : decode M.2.1 pc = .ok (.lmul, 1))  (kk : X fr lo M Q (pc + 1) lv (.long (x * y) :: st) S) : X fr lo M Q pc lv (.long y :: .long x :: st) S := by
  intro p l e R s m args below meth c H locs cells slots Γ A ls hC hW hL
  exact lv_lmul hC.1 hC.2.1 hd (kk p l e R s m args below meth c H locs cells slots Γ A ls hC hW hL)
theorem x_ldiv {x y : Int64} (hd : decode M.2.1 pc = .ok (.ldiv, 1)) (hne : ¬ y = 0) (kk : X fr lo M Q (pc + 1) lv (.long (x / y) :: st) S) : X fr lo M Q pc lv (.long y :: .long x :: st) S := by
  intro p l e R s m args below meth c H locs cells slots Γ A ls hC hW hL
  exact lv_ldiv hC.1 hC.2.1 hd hne (kk p l e R s m args below meth c H locs cells slots Γ A ls hC hW hL)
theorem x_lrem {x y : Int64} (hd : decode M.2.1 pc = .ok (.lrem, 1)) (hne : ¬ y = 0) (kk : X fr lo M Q (pc + 1) lv (.long (x - x / y * y) :: st) S) : X fr lo M Q pc lv (.long y :: .long x :: st) S := by
  intro p l e R s m args below meth c H locs cells slots Γ A ls hC hW hL
  exact lv_lrem hC.1 hC.2.1 hd hne (kk p l e R s m args below meth c H locs cells slots Γ A ls hC hW hL)
theorem x_lcmp {x y : Int64} (hd : decode M.2.1 pc = .ok (.lcmp, 1))  (kk : X fr lo M Q (pc + 1) lv (.int (lg_cmp x y) :: st) S) : X fr lo M Q pc lv (.long y :: .long x :: st) S := by
  intro p l e R s m args below meth c H locs cells slots Γ A ls hC hW hL
  exact W.lcmp hC.1 hC.2.1 hd (kk p l e R s m args below meth c H locs cells slots Γ A ls hC hW hL)
theorem x_i2l {x : Int32} (hd : decode M.2.1 pc = .ok (.i2l, 1))  (kk : X fr lo M Q (pc + 1) lv (.long x.toInt64 :: st) S) : X fr lo M Q pc lv (.int x :: st) S := by
  intro p l e R s m args below meth c H locs cells slots Γ A ls hC hW hL
  exact lv_i2l hC.1 hC.2.1 hd rfl (kk p l e R s m args below meth c H locs cells slots Γ A ls hC hW hL)
theorem x_l2i {x : Int64} (hd : decode M.2.1 pc = .ok (.l2i, 1))  (kk : X fr lo M Q (pc + 1) lv (.int x.toInt32 :: st) S) : X fr lo M Q pc lv (.long x :: st) S := by
  intro p l e R s m args below meth c H locs cells slots Γ A ls hC hW hL
  exact lv_l2i hC.1 hC.2.1 hd rfl (kk p l e R s m args below meth c H locs cells slots Γ A ls hC hW hL)
theorem x_i2b {x : Int32} (hd : decode M.2.1 pc = .ok (.i2b, 1))  (kk : X fr lo M Q (pc + 1) lv (.int x.toInt8.toInt32 :: st) S) : X fr lo M Q pc lv (.int x :: st) S := by
  intro p l e R s m args below meth c H locs cells slots Γ A ls hC hW hL
  exact lv_i2b hC.1 hC.2.1 hd rfl (kk p l e R s m args below meth c H locs cells slots Γ A ls hC hW hL)
theorem x_iushr {x y : Int32} (hd : decode M.2.1 pc = .ok (.iushr, 1))  (kk : X fr lo M Q (pc + 1) lv (.int (x.toUInt32 >>> (y.toUInt32 &&& Int32.toUInt32 31)).toInt32 :: st) S) : X fr lo M Q pc lv (.int y :: .int x :: st) S := by
  intro p l e R s m args below meth c H locs cells slots Γ A ls hC hW hL
  exact lv_iushr hC.1 hC.2.1 hd rfl (kk p l e R s m args below meth c H locs cells slots Γ A ls hC hW hL)
theorem x_dup {a : Value} (hd : decode M.2.1 pc = .ok (.dup, 1)) (ha : a.category = 1) (kk : X fr lo M Q (pc + 1) lv (a :: a :: st) S) : X fr lo M Q pc lv (a :: st) S := by
  intro p l e R s m args below meth c H locs cells slots Γ A ls hC hW hL
  exact lv_dup hC.1 hC.2.1 hd ((cv_cat _ _).trans ha) (kk p l e R s m args below meth c H locs cells slots Γ A ls hC hW hL)
theorem x_pop {a : Value} (hd : decode M.2.1 pc = .ok (.pop, 1)) (ha : a.category = 1) (kk : X fr lo M Q (pc + 1) lv (st) S) : X fr lo M Q pc lv (a :: st) S := by
  intro p l e R s m args below meth c H locs cells slots Γ A ls hC hW hL
  exact lv_pop hC.1 hC.2.1 hd ((cv_cat _ _).trans ha) (kk p l e R s m args below meth c H locs cells slots Γ A ls hC hW hL)
theorem x_dup_x1 {a b : Value} (hd : decode M.2.1 pc = .ok (.dup_x1, 1)) (ha : a.category = 1) (hb : b.category = 1) (kk : X fr lo M Q (pc + 1) lv (a :: b :: a :: st) S) : X fr lo M Q pc lv (a :: b :: st) S := by
  intro p l e R s m args below meth c H locs cells slots Γ A ls hC hW hL
  exact lv_dup_x1 hC.1 hC.2.1 hd ((cv_cat _ _).trans ha) ((cv_cat _ _).trans hb) (kk p l e R s m args below meth c H locs cells slots Γ A ls hC hW hL)
theorem x_dup2 {a b : Value} (hd : decode M.2.1 pc = .ok (.dup2, 1)) (ha : a.category = 1) (hb : b.category = 1) (kk : X fr lo M Q (pc + 1) lv (a :: b :: a :: b :: st) S) : X fr lo M Q pc lv (a :: b :: st) S := by
  intro p l e R s m args below meth c H locs cells slots Γ A ls hC hW hL
  exact lv_dup2_11 hC.1 hC.2.1 hd ((cv_cat _ _).trans ha) ((cv_cat _ _).trans hb) (kk p l e R s m args below meth c H locs cells slots Γ A ls hC hW hL)
theorem x_if_eq {x : Int32} {off : Int} (tgt : Nat) (hd : decode M.2.1 pc = .ok (.ifCond .eq off, 3)) (ht : (pc : Int) + off = (tgt : Int)) (kt : x = 0 → X fr lo M Q tgt lv st S) (kf : ¬ x = 0 → X fr lo M Q (pc + 3) lv st S) : X fr lo M Q pc lv (.int x :: st) S := by
  intro p l e R s m args below meth c H locs cells slots Γ A ls hC hW hL
  exact lv_if_eq hC.1 hC.2.1 hd ht (fun q => kt q p l e R s m args below meth c H locs cells slots Γ A ls hC hW hL) (fun q => kf q p l e R s m args below meth c H locs cells slots Γ A ls hC hW hL)
theorem x_ic_eq {x y : Int32} {off : Int} (tgt : Nat) (hd : decode M.2.1 pc = .ok (.if_icmp .eq off, 3)) (ht : (pc : Int) + off = (tgt : Int)) (kt : x = y → X fr lo M Q tgt lv st S) (kf : ¬ x = y → X fr lo M Q (pc + 3) lv st S) : X fr lo M Q pc lv (.int y :: .int x :: st) S := by
  intro p l e R s m args below meth c H locs cells slots Γ A ls hC hW hL
  exact lv_icmp_eq hC.1 hC.2.1 hd ht (fun q => kt q p l e R s m args below meth c H locs cells slots Γ A ls hC hW hL) (fun q => kf q p l e R s m args below meth c H locs cells slots Γ A ls hC hW hL)
theorem x_if_ne {x : Int32} {off : Int} (tgt : Nat) (hd : decode M.2.1 pc = .ok (.ifCond .ne off, 3)) (ht : (pc : Int) + off = (tgt : Int)) (kt : ¬ x = 0 → X fr lo M Q tgt lv st S) (kf : x = 0 → X fr lo M Q (pc + 3) lv st S) : X fr lo M Q pc lv (.int x :: st) S := by
  intro p l e R s m args below meth c H locs cells slots Γ A ls hC hW hL
  exact lv_if_ne hC.1 hC.2.1 hd ht (fun q => kt q p l e R s m args below meth c H locs cells slots Γ A ls hC hW hL) (fun q => kf q p l e R s m args below meth c H locs cells slots Γ A ls hC hW hL)
theorem x_ic_ne {x y : Int32} {off : Int} (tgt : Nat) (hd : decode M.2.1 pc = .ok (.if_icmp .ne off, 3)) (ht : (pc : Int) + off = (tgt : Int)) (kt : ¬ x = y → X fr lo M Q tgt lv st S) (kf : x = y → X fr lo M Q (pc + 3) lv st S) : X fr lo M Q pc lv (.int y :: .int x :: st) S := by
  intro p l e R s m args below meth c H locs cells slots Γ A ls hC hW hL
  exact lv_icmp_ne hC.1 hC.2.1 hd ht (fun q => kt q p l e R s m args below meth c H locs cells slots Γ A ls hC hW hL) (fun q => kf q p l e R s m args below meth c H locs cells slots Γ A ls hC hW hL)
theorem x_if_lt {x : Int32} {off : Int} (tgt : Nat) (hd : decode M.2.1 pc = .ok (.ifCond .lt off, 3)) (ht : (pc : Int) + off = (tgt : Int)) (kt : x.toInt < 0 → X fr lo M Q tgt lv st S) (kf : 0 ≤ x.toInt → X fr lo M Q (pc + 3) lv st S) : X fr lo M Q pc lv (.int x :: st) S := by
  intro p l e R s m args below meth c H locs cells slots Γ A ls hC hW hL
  exact lv_if_lt hC.1 hC.2.1 hd ht (fun q => kt (c_lt0 q) p l e R s m args below meth c H locs cells slots Γ A ls hC hW hL) (fun q => kf (c_nlt0 q) p l e R s m args below meth c H locs cells slots Γ A ls hC hW hL)
theorem x_ic_lt {x y : Int32} {off : Int} (tgt : Nat) (hd : decode M.2.1 pc = .ok (.if_icmp .lt off, 3)) (ht : (pc : Int) + off = (tgt : Int)) (kt : x.toInt < y.toInt → X fr lo M Q tgt lv st S) (kf : y.toInt ≤ x.toInt → X fr lo M Q (pc + 3) lv st S) : X fr lo M Q pc lv (.int y :: .int x :: st) S := by
  intro p l e R s m args below meth c H locs cells slots Γ A ls hC hW hL
  exact lv_icmp_lt hC.1 hC.2.1 hd ht (fun q => kt (c_lt q) p l e R s m args below meth c H locs cells slots Γ A ls hC hW hL) (fun q => kf (c_nlt q) p l e R s m args below meth c H locs cells slots Γ A ls hC hW hL)
theorem x_if_ge {x : Int32} {off : Int} (tgt : Nat) (hd : decode M.2.1 pc = .ok (.ifCond .ge off, 3)) (ht : (pc : Int) + off = (tgt : Int)) (kt : 0 ≤ x.toInt → X fr lo M Q tgt lv st S) (kf : x.toInt < 0 → X fr lo M Q (pc + 3) lv st S) : X fr lo M Q pc lv (.int x :: st) S := by
  intro p l e R s m args below meth c H locs cells slots Γ A ls hC hW hL
  exact lv_if_ge hC.1 hC.2.1 hd ht (fun q => kt (c_ge0 q) p l e R s m args below meth c H locs cells slots Γ A ls hC hW hL) (fun q => kf (c_nge0 q) p l e R s m args below meth c H locs cells slots Γ A ls hC hW hL)
theorem x_ic_ge {x y : Int32} {off : Int} (tgt : Nat) (hd : decode M.2.1 pc = .ok (.if_icmp .ge off, 3)) (ht : (pc : Int) + off = (tgt : Int)) (kt : y.toInt ≤ x.toInt → X fr lo M Q tgt lv st S) (kf : x.toInt < y.toInt → X fr lo M Q (pc + 3) lv st S) : X fr lo M Q pc lv (.int y :: .int x :: st) S := by
  intro p l e R s m args below meth c H locs cells slots Γ A ls hC hW hL
  exact lv_icmp_ge hC.1 hC.2.1 hd ht (fun q => kt (c_ge q) p l e R s m args below meth c H locs cells slots Γ A ls hC hW hL) (fun q => kf (c_nge q) p l e R s m args below meth c H locs cells slots Γ A ls hC hW hL)
theorem x_if_gt {x : Int32} {off : Int} (tgt : Nat) (hd : decode M.2.1 pc = .ok (.ifCond .gt off, 3)) (ht : (pc : Int) + off = (tgt : Int)) (kt : 0 < x.toInt → X fr lo M Q tgt lv st S) (kf : x.toInt ≤ 0 → X fr lo M Q (pc + 3) lv st S) : X fr lo M Q pc lv (.int x :: st) S := by
  intro p l e R s m args below meth c H locs cells slots Γ A ls hC hW hL
  exact lv_if_gt hC.1 hC.2.1 hd ht (fun q => kt (c_gt0 q) p l e R s m args below meth c H locs cells slots Γ A ls hC hW hL) (fun q => kf (c_ngt0 q) p l e R s m args below meth c H locs cells slots Γ A ls hC hW hL)
theorem x_ic_gt {x y : Int32} {off : Int} (tgt : Nat) (hd : decode M.2.1 pc = .ok (.if_icmp .gt off, 3)) (ht : (pc : Int) + off = (tgt : Int)) (kt : y.toInt < x.toInt → X fr lo M Q tgt lv st S) (kf : x.toInt ≤ y.toInt → X fr lo M Q (pc + 3) lv st S) : X fr lo M Q pc lv (.int y :: .int x :: st) S := by
  intro p l e R s m args below meth c H locs cells slots Γ A ls hC hW hL
  exact lv_icmp_gt hC.1 hC.2.1 hd ht (fun q => kt (c_gt q) p l e R s m args below meth c H locs cells slots Γ A ls hC hW hL) (fun q => kf (c_ngt q) p l e R s m args below meth c H locs cells slots Γ A ls hC hW hL)
theorem x_if_le {x : Int32} {off : Int} (tgt : Nat) (hd : decode M.2.1 pc = .ok (.ifCond .le off, 3)) (ht : (pc : Int) + off = (tgt : Int)) (kt : x.toInt ≤ 0 → X fr lo M Q tgt lv st S) (kf : 0 < x.toInt → X fr lo M Q (pc + 3) lv st S) : X fr lo M Q pc lv (.int x :: st) S := by
  intro p l e R s m args below meth c H locs cells slots Γ A ls hC hW hL
  exact lv_if_le hC.1 hC.2.1 hd ht (fun q => kt (c_le0 q) p l e R s m args below meth c H locs cells slots Γ A ls hC hW hL) (fun q => kf (c_nle0 q) p l e R s m args below meth c H locs cells slots Γ A ls hC hW hL)
theorem x_ic_le {x y : Int32} {off : Int} (tgt : Nat) (hd : decode M.2.1 pc = .ok (.if_icmp .le off, 3)) (ht : (pc : Int) + off = (tgt : Int)) (kt : x.toInt ≤ y.toInt → X fr lo M Q tgt lv st S) (kf : y.toInt < x.toInt → X fr lo M Q (pc + 3) lv st S) : X fr lo M Q pc lv (.int y :: .int x :: st) S := by
  intro p l e R s m args below meth c H locs cells slots Γ A ls hC hW hL
  exact lv_icmp_le hC.1 hC.2.1 hd ht (fun q => kt (c_le q) p l e R s m args below meth c H locs cells slots Γ A ls hC hW hL) (fun q => kf (c_nle q) p l e R s m args below meth c H locs cells slots Γ A ls hC hW hL)
theorem x_goto {off : Int} (tgt : Nat) (hd : decode M.2.1 pc = .ok (.goto off, 3)) (ht : (pc : Int) + off = (tgt : Int)) (kk : X fr lo M Q tgt lv st S) : X fr lo M Q pc lv st S := by
  intro p l e R s m args below meth c H locs cells slots Γ A ls hC hW hL
  exact lv_goto hC.1 hC.2.1 hd ht (kk p l e R s m args below meth c H locs cells slots Γ A ls hC hW hL)
theorem x_tin {x : Int32} {dflt lo' hi off : Int} {offs : Array Int} {len : Nat} (tgt : Nat) (hd : decode M.2.1 pc = .ok (.tableswitch dflt lo' hi offs, len)) (h1 : ¬ x.toInt < lo') (h2 : ¬ hi < x.toInt) (ho : offs[(x.toInt - lo').toNat]? = some off) (ht : (pc : Int) + off = (tgt : Int)) (kk : X fr lo M Q tgt lv st S) : X fr lo M Q pc lv (.int x :: st) S := by
  intro p l e R s m args below meth c H locs cells slots Γ A ls hC hW hL
  exact lv_tableIn hC.1 hC.2.1 hd h1 h2 ho ht (kk p l e R s m args below meth c H locs cells slots Γ A ls hC hW hL)
theorem x_tout {x : Int32} {dflt lo' hi : Int} {offs : Array Int} {len : Nat} (tgt : Nat) (hd : decode M.2.1 pc = .ok (.tableswitch dflt lo' hi offs, len)) (h : x.toInt < lo' ∨ hi < x.toInt) (ht : (pc : Int) + dflt = (tgt : Int)) (kk : X fr lo M Q tgt lv st S) : X fr lo M Q pc lv (.int x :: st) S := by
  intro p l e R s m args below meth c H locs cells slots Γ A ls hC hW hL
  exact lv_tableOut hC.1 hC.2.1 hd h ht (kk p l e R s m args below meth c H locs cells slots Γ A ls hC hW hL)
theorem x_look {x : Int32} {dflt off : Int} {ps : Array (Int × Int)} {len : Nat} (tgt : Nat) (hd : decode M.2.1 pc = .ok (.lookupswitch dflt ps, len)) (hp : (ps.toList.zip (ps.toList.drop 1)).all (fun (a, next) => a.1 < next.1) = true) (ho : Op.lookupswitch.offset ps.toList dflt x.toInt = off) (ht : (pc : Int) + off = (tgt : Int)) (kk : X fr lo M Q tgt lv st S) : X fr lo M Q pc lv (.int x :: st) S := by
  intro p l e R s m args below meth c H locs cells slots Γ A ls hC hW hL
  exact lv_lookup hC.1 hC.2.1 hd hp ho ht (kk p l e R s m args below meth c H locs cells slots Γ A ls hC hW hL)
theorem x_ldc {idx : Nat} {v : Int32} (hc : Cond.constant M.1 idx v ∈ TB) (hd : decode M.2.1 pc = .ok (.ldc idx, 2)) (kk : X fr lo M Q (pc + 2) lv (.int v :: st) S) : X fr lo M Q pc lv st S := by
  intro p l e R s m args below meth c H locs cells slots Γ A ls hC hW hL
  exact lv_ldc hC.1 hC.2.1 hC.2.2.2.2.2.1 (hC.2.2.2.2.2.2.1 _ hc) hd (kk p l e R s m args below meth c H locs cells slots Γ A ls hC hW hL)
theorem x_ldcw {idx : Nat} {v : Int32} (hc : Cond.constant M.1 idx v ∈ TB) (hd : decode M.2.1 pc = .ok (.ldc_w idx, 3)) (kk : X fr lo M Q (pc + 3) lv (.int v :: st) S) : X fr lo M Q pc lv st S := by
  intro p l e R s m args below meth c H locs cells slots Γ A ls hC hW hL
  exact lv_ldcw hC.1 hC.2.1 hC.2.2.2.2.2.1 (hC.2.2.2.2.2.2.1 _ hc) hd (kk p l e R s m args below meth c H locs cells slots Γ A ls hC hW hL)
theorem x_ldc2 {idx : Nat} {v : Int64} (hc : Cond.constantLong M.1 idx v ∈ TB) (hd : decode M.2.1 pc = .ok (.ldc2_w idx, 3)) (kk : X fr lo M Q (pc + 3) lv (.long v :: st) S) : X fr lo M Q pc lv st S := by
  intro p l e R s m args below meth c H locs cells slots Γ A ls hC hW hL
  exact lv_ldc2 hC.1 hC.2.1 hC.2.2.2.2.2.1 (hC.2.2.2.2.2.2.1 _ hc) hd (kk p l e R s m args below meth c H locs cells slots Γ A ls hC hW hL)
def FL (own : String) (idx ci k : Nat) : Prop := ∃ (C : String) (T : u_T) (N : Nat), vwCl[ci]? = some (C, T, N) ∧ k < N ∧ (∀ w ∈ u_ws C T N, w ∈ TB) ∧ Cond.fieldLink own idx (T k).1 (T k).2.1 (T k).2.2.1 ∈ TB
def FW (own : String) (idx ci k : Nat) (t : FieldType) : Prop := ∃ (C : String) (T : u_T) (N : Nat) (ty : Nat → FieldType), vwCl[ci]? = some (C, T, N) ∧ k < N ∧ (∀ w ∈ u_ws C T N, w ∈ TB) ∧ (∀ k, k < N → parseFieldDescriptor (T k).2.2.1 = some (ty k)) ∧ (∀ a, a < N → ∀ b, b < N → a ≠ b → (T a).2.1 ≠ (T b).2.1) ∧ Cond.fieldLink own idx (T k).1 (T k).2.1 (T k).2.2.1 ∈ TB ∧ (T k).2.2.2 = false ∧ parseFieldDescriptor (T k).2.2.1 = some t
theorem x_getI {idx ci j k : Nat} {fs : List FdX} (hf : FL M.1 idx ci j) (hd : decode M.2.1 pc = .ok (.getfield idx, 3)) (hl : LAY[k]? = some (.inl (ci, fs))) (hj : fs[j]? = some (.inr false)) (kk : X fr lo M Q (pc + 3) lv (.int (S.1 k j) :: st) S) : X fr lo M Q pc lv (.ref k :: st) S := by
  intro p l e R s m args below meth c H locs cells slots Γ A ls hC hW hL
  obtain ⟨Cn, T, N, hcl, hkN, hin, hlk⟩ := hf
  exact va_get hC.1 hC.2.1 hC.2.2.2.2.2.2.1 hin hC.2.2.2.2.2.1 hC.2.2.2.2.2.2.2.2.2.2.2.1 hW.1 k (wsO_at hl) hcl j hkN (hC.2.2.2.2.2.2.1 _ hlk) (fun _ h9 => h9) (by rw [List.getElem?_mapIdx, hj]; rfl) hd (kk p l e R s m args below meth c H locs cells slots Γ A ls hC hW hL)
theorem x_getL {idx ci j k : Nat} {fs : List FdX} (hf : FL M.1 idx ci j) (hd : decode M.2.1 pc = .ok (.getfield idx, 3)) (hl : LAY[k]? = some (.inl (ci, fs))) (hj : fs[j]? = some (.inr true)) (kk : X fr lo M Q (pc + 3) lv (.long (S.2 k j) :: st) S) : X fr lo M Q pc lv (.ref k :: st) S := by
  intro p l e R s m args below meth c H locs cells slots Γ A ls hC hW hL
  obtain ⟨Cn, T, N, hcl, hkN, hin, hlk⟩ := hf
  exact va_get hC.1 hC.2.1 hC.2.2.2.2.2.2.1 hin hC.2.2.2.2.2.1 hC.2.2.2.2.2.2.2.2.2.2.2.1 hW.1 k (wsO_at hl) hcl j hkN (hC.2.2.2.2.2.2.1 _ hlk) (fun _ h9 => h9) (by rw [List.getElem?_mapIdx, hj]; rfl) hd (kk p l e R s m args below meth c H locs cells slots Γ A ls hC hW hL)
theorem x_getR {idx ci j k : Nat} {fs : List FdX} {r : Nat} (hf : FL M.1 idx ci j) (hd : decode M.2.1 pc = .ok (.getfield idx, 3)) (hl : LAY[k]? = some (.inl (ci, fs))) (hj : fs[j]? = some (.inl r)) (kk : X fr lo M Q (pc + 3) lv (.ref r :: st) S) : X fr lo M Q pc lv (.ref k :: st) S := by
  intro p l e R s m args below meth c H locs cells slots Γ A ls hC hW hL
  obtain ⟨Cn, T, N, hcl, hkN, hin, hlk⟩ := hf
  exact va_get hC.1 hC.2.1 hC.2.2.2.2.2.2.1 hin hC.2.2.2.2.2.1 hC.2.2.2.2.2.2.2.2.2.2.2.1 hW.1 k (wsO_at hl) hcl j hkN (hC.2.2.2.2.2.2.1 _ hlk) (fun _ h9 => h9) (by rw [List.getElem?_mapIdx, hj]; rfl) hd (kk p l e R s m args below meth c H locs cells slots Γ A ls hC hW hL)
theorem x_putI {idx ci j k : Nat} {fs : List FdX} {v : Int32} (hf : FW M.1 idx ci j .int) (hd : decode M.2.1 pc = .ok (.putfield idx, 3)) (hl : LAY[k]? = some (.inl (ci, fs))) (hj : fs[j]? = some (.inr false)) (kk : X fr lo M Q (pc + 3) lv st (setI S k j v)) : X fr lo M Q pc lv (.int v :: .ref k :: st) S := by
  intro p l e R s m args below meth c H locs cells slots Γ A ls hC hW hL
  obtain ⟨Cn, T, N, ty, hcl, hkN, hin, hty, hnm, hlk, hfin, hpd⟩ := hf
  have hjl : j < (fs.mapIdx (fun j f => fdV Γ.2.1 S k j f)).length := by
    rw [List.length_mapIdx]
    exact (List.getElem?_eq_some_iff.mp hj).1
  refine va_put hC.1 hC.2.1 hC.2.2.2.2.2.2.1 hin ty hty hnm hC.2.2.2.2.2.1 hC.2.2.2.2.2.2.2.2.2.2.2.1 hW.1 hW.2.1 hW.2.2 k (wsO_at hl) hcl j hkN (hC.2.2.2.2.2.2.1 _ hlk) (fun _ h9 => h9) hfin hpd rfl rfl hjl hd (fun H1 locs1 hP hD hS => ?_)
  have eP := wsO_setF (Γ := Γ) (S := S) hl hj v
  exact kk p l e R s m args below meth c H1 locs1 cells slots Γ A ls hC ⟨by rw [← eP]; exact hP, by rw [← eP]; exact hD, hS⟩ hL
theorem x_putL {idx ci j k : Nat} {fs : List FdX} {v : Int64} (hf : FW M.1 idx ci j .long) (hd : decode M.2.1 pc = .ok (.putfield idx, 3)) (hl : LAY[k]? = some (.inl (ci, fs))) (hj : fs[j]? = some (.inr true)) (kk : X fr lo M Q (pc + 3) lv st (setL S k j v)) : X fr lo M Q pc lv (.long v :: .ref k :: st) S := by
  intro p l e R s m args below meth c H locs cells slots Γ A ls hC hW hL
  obtain ⟨Cn, T, N, ty, hcl, hkN, hin, hty, hnm, hlk, hfin, hpd⟩ := hf
  have hjl : j < (fs.mapIdx (fun j f => fdV Γ.2.1 S k j f)).length := by
    rw [List.length_mapIdx]
    exact (List.getElem?_eq_some_iff.mp hj).1
  refine va_put hC.1 hC.2.1 hC.2.2.2.2.2.2.1 hin ty hty hnm hC.2.2.2.2.2.1 hC.2.2.2.2.2.2.2.2.2.2.2.1 hW.1 hW.2.1 hW.2.2 k (wsO_at hl) hcl j hkN (hC.2.2.2.2.2.2.1 _ hlk) (fun _ h9 => h9) hfin hpd rfl rfl hjl hd (fun H1 locs1 hP hD hS => ?_)
  have eP := wsO_setL (Γ := Γ) (S := S) hl hj v
  exact kk p l e R s m args below meth c H1 locs1 cells slots Γ A ls hC ⟨by rw [← eP]; exact hP, by rw [← eP]; exact hD, hS⟩ hL
theorem x_iald {k n : Nat} {i : Int32} (hd : decode M.2.1 pc = .ok (.iaload, 1)) (hl : LAY[k]? = some (.inr (0, n))) (hi : 0 ≤ i.toInt ∧ i.toInt < n) (kk : X fr lo M Q (pc + 1) lv (.int (S.1 k i.toNatClampNeg) :: st) S) : X fr lo M Q pc lv (.int i :: .ref k :: st) S := by
  intro p l e R s m args below meth c H locs cells slots Γ A ls hC hW hL
  exact va_iald hC.1 hC.2.1 hC.2.2.2.2.2.2.2.2.2.2.2.1 hW.1 k 0 (wsO_at hl) rfl (vp_in_iff.mpr hi) hd (kk p l e R s m args below meth c H locs cells slots Γ A ls hC hW hL)
theorem x_iast {k n : Nat} {i v : Int32} (hd : decode M.2.1 pc = .ok (.iastore, 1)) (hl : LAY[k]? = some (.inr (0, n))) (hi : 0 ≤ i.toInt ∧ i.toInt < n) (kk : X fr lo M Q (pc + 1) lv st (setI S k i.toNatClampNeg v)) : X fr lo M Q pc lv (.int v :: .int i :: .ref k :: st) S := by
  intro p l e R s m args below meth c H locs cells slots Γ A ls hC hW hL
  refine va_iast hC.1 hC.2.1 hC.2.2.2.2.2.2.2.2.2.2.2.1 hW.1 hW.2.1 hW.2.2 k 0 (wsO_at hl) rfl (vp_in_iff.mpr hi) hd (fun H1 locs1 hP hD hS => ?_)
  rw [wsO_setA hl] at hP hD
  exact kk p l e R s m args below meth c H1 locs1 cells slots Γ A ls hC ⟨hP, hD, hS⟩ hL
theorem x_alen {k n : Nat} {v : Int32} (hd : decode M.2.1 pc = .ok (.arraylength, 1)) (hl : LAY[k]? = some (.inr (0, n))) (hv : Int32.ofNat n = v) (kk : X fr lo M Q (pc + 1) lv (.int v :: st) S) : X fr lo M Q pc lv (.ref k :: st) S := by
  intro p l e R s m args below meth c H locs cells slots Γ A ls hC hW hL
  exact va_alen hC.1 hC.2.1 hC.2.2.2.2.2.2.2.2.2.2.2.1 hW.1 k 0 (wsO_at hl) rfl hv hd (kk p l e R s m args below meth c H locs cells slots Γ A ls hC hW hL)
theorem x_ti {i : Int32} (hd : decode M.2.1 pc = .ok (.iaload, 1)) (hi : 0 ≤ i.toInt ∧ i.toInt < 5) (kk : X fr lo M Q (pc + 1) lv (.int (sev i.toNatClampNeg) :: st) S) : X fr lo M Q pc lv (.int i :: .ref 200 :: st) S := by
  intro p l e R s m args below meth c H locs cells slots Γ A ls hC hW hL
  exact va_ti hC.1 hC.2.1 hC.2.2.2.2.2.2.2.2.2.2.2.2.2.1 hW.2.2 (vp_in_iff.mpr hi) rfl hd (kk p l e R s m args below meth c H locs cells slots Γ A ls hC hW hL)
theorem x_getsP (hM : M.1 = RX3) (hd : decode M.2.1 pc = .ok (.getstatic 49, 3)) (kk : X fr lo M Q (pc + 3) lv (.ref 200 :: st) S) : X fr lo M Q pc lv st S := by
  intro p l e R s m args below meth c H locs cells slots Γ A ls hC hW hL
  have hK := hC.2.2.2.2.2.2.2.2.2.2.2
  exact va_getsN hC.1 hC.2.1 hK.2.1 hW.2.2 (by have := hC.2.2.2.2.2.1; rw [hM] at this; exact this) (va_Nw.use rfl hK.2.2.2.2.1) (fun _ h9 => h9) hd (kk p l e R s m args below meth c H locs cells slots Γ A ls hC hW hL)
theorem x_getsS (hM : M.1 = RX6) (hd : decode M.2.1 pc = .ok (.getstatic 88, 3)) (kk : X fr lo M Q (pc + 3) lv (.ref 200 :: st) S) : X fr lo M Q pc lv st S := by
  intro p l e R s m args below meth c H locs cells slots Γ A ls hC hW hL
  have hK := hC.2.2.2.2.2.2.2.2.2.2.2
  exact va_getsN hC.1 hC.2.1 hK.2.1 hW.2.2 (by have := hC.2.2.2.2.2.1; rw [hM] at this; exact this) (va_Nw.use rfl hK.2.2.2.2.2.1) (fun _ h9 => h9) hd (kk p l e R s m args below meth c H locs cells slots Γ A ls hC hW hL)
theorem x_getsT (hM : M.1 = RX8) (hd : decode M.2.1 pc = .ok (.getstatic 110, 3)) (kk : X fr lo M Q (pc + 3) lv (.ref 200 :: st) S) : X fr lo M Q pc lv st S := by
  intro p l e R s m args below meth c H locs cells slots Γ A ls hC hW hL
  have hK := hC.2.2.2.2.2.2.2.2.2.2.2
  exact va_getsN hC.1 hC.2.1 hK.2.1 hW.2.2 (by have := hC.2.2.2.2.2.1; rw [hM] at this; exact this) (va_Nw.use rfl hK.2.2.2.2.2.2.1) (fun _ h9 => h9) hd (kk p l e R s m args below meth c H locs cells slots Γ A ls hC hW hL)
theorem x_iret {v : Int32} (hM : M.2.2.2.1 = some .int) (hd : decode M.2.1 pc = .ok (.ireturn, 1)) (hq : Q (some (.int v)) S) : X fr lo M Q pc lv [.int v] S := by
  intro p l e R s m args below meth c H locs cells slots Γ A ls hC hW hL
  exact W.widen (Nat.le_add_left _ _) (Nat.le_add_left _ _) (W.iret (v := v) hC.1 hC.2.1 (hC.2.2.2.1.trans hM) (fun t ht hWt => ⟨⟨some (.int v), S, rfl, hq, by rw [ht]; exact hW.1, hW.2.1⟩, hW.2.2.F ht⟩) hW.2.2.2.2 hd hC.2.2.2.2.1.1)
theorem x_zret {v : Int32} (hM : M.2.2.2.1 = some .boolean) (hd : decode M.2.1 pc = .ok (.ireturn, 1)) (hv : v = 0 ∨ v = 1) (hq : Q (some (.int v)) S) : X fr lo M Q pc lv [.int v] S := by
  intro p l e R s m args below meth c H locs cells slots Γ A ls hC hW hL
  exact W.widen (Nat.le_add_left _ _) (Nat.le_add_left _ _) (W.zret (v := v) hC.1 hC.2.1 (hC.2.2.2.1.trans hM) (by rcases hv with rfl | rfl <;> rfl) (fun t ht hWt => ⟨⟨some (.int v), S, rfl, hq, by rw [ht]; exact hW.1, hW.2.1⟩, hW.2.2.F ht⟩) hW.2.2.2.2 hd hC.2.2.2.2.1.1)
theorem x_lret {v : Int64} (hM : M.2.2.2.1 = some .long) (hd : decode M.2.1 pc = .ok (.lreturn, 1)) (hq : Q (some (.long v)) S) : X fr lo M Q pc lv [.long v] S := by
  intro p l e R s m args below meth c H locs cells slots Γ A ls hC hW hL
  exact W.widen (Nat.le_add_left _ _) (Nat.le_add_left _ _) (W.lret (v := v) hC.1 hC.2.1 (hC.2.2.2.1.trans hM) (fun t ht hWt => ⟨⟨some (.long v), S, rfl, hq, by rw [ht]; exact hW.1, hW.2.1⟩, hW.2.2.F ht⟩) hW.2.2.2.2 hd hC.2.2.2.2.1.1)
theorem x_vret (hM : M.2.2.2.1 = none) (hd : decode M.2.1 pc = .ok (.return_, 1)) (hq : Q none S) : X fr lo M Q pc lv [] S := by
  intro p l e R s m args below meth c H locs cells slots Γ A ls hC hW hL
  exact W.widen (Nat.le_add_left _ _) (Nat.le_add_left _ _) (W.vret hC.1 hC.2.1 (hC.2.2.2.1.trans hM) (fun t ht hWt => ⟨⟨none, S, rfl, hq, by rw [ht]; exact hW.1, hW.2.1⟩, hW.2.2.F ht⟩) hW.2.2.2.2 hd hC.2.2.2.2.1.1)
end XR
theorem acN : Cond.native arraycopyName ∈ TB := List.mem_of_getElem? (i := 318) (by decide +kernel)
theorem acS : Cond.static arraycopyName ∈ TB := List.mem_of_getElem? (i := 319) (by decide +kernel)
theorem acI : Cond.initialized "java/lang/System" ∈ TB := List.mem_of_getElem? (i := 320) (by decide +kernel)
theorem mxS : Cond.static Lib.Math.max.name ∈ TB := List.mem_of_getElem? (i := 257) (by decide +kernel)
theorem mxI : Cond.initialized "java/lang/Math" ∈ TB := List.mem_of_getElem? (i := 258) (by decide +kernel)
theorem mxC : Cond.code Lib.Math.max.name Lib.Math.max.code 2 (some .int) ∈ TB := List.mem_of_getElem? (i := 259) (by decide +kernel)
section XCALL
def CV (own : String) (idx : Nat) (y : MethodName) (M : MD) (n : Nat) : Prop := Cond.methodLink own idx y ∈ TB ∧ Cond.instanceMethod y ∈ TB ∧ Cond.selects y.cls y y ∈ TB ∧ Cond.initialized y.cls ∈ TB ∧ Cond.code y M.2.1 M.2.2.1 M.2.2.2.1 ∈ TB ∧ (y.cls ≠ "java/lang/invoke/MethodHandle" ∧ y.cls ≠ "java/lang/invoke/VarHandle" ∧ (parseMethodDescriptor y.desc).map (fun d => d.parameters.length) = some n)
def CS (own : String) (idx : Nat) (y : MethodName) (M : MD) (n : Nat) : Prop := Cond.methodLink own idx y ∈ TB ∧ Cond.static y ∈ TB ∧ Cond.initialized y.cls ∈ TB ∧ Cond.code y M.2.1 M.2.2.1 M.2.2.2.1 ∈ TB ∧ (y.cls ≠ "java/lang/invoke/MethodHandle" ∧ y.cls ≠ "java/lang/invoke/VarHandle" ∧ (parseMethodDescriptor y.desc).map (fun d => d.parameters.length) = some n)
theorem GI_code {w : Cond} (h : w ∈ TB) : GoodIn TB (w :: TB) := fun z hz => by
  rcases List.mem_cons.mp hz with rfl | hz
  · exact TB_good _ h
  · exact TB_good _ hz
theorem C.zero {fr lo : Nat} {y : MethodName} {M : MD} {as : List Value} {S : St} {Q : Option Value → St → Prop} (h : C fr lo y M as S Q) (hz : M.2.2.2.2.2.1 = false) {Γ : Gm} (hs : Sok M Γ) (l : Launch) (A : Nat → Prop) : Met l y (.code y M.2.1 M.2.2.1 M.2.2.2.1 :: TB) ({ frames := fr, cells := 0, slots := 0, locals := lo }) (va_Pc (as.map (cv Γ.2.1)) (fun U => va_P Γ.1 vwCl (wsO Γ S) U.heap ∧ va_D A (wsO Γ S) ∧ Kn Γ A U)) (QA Γ A Q) 0 0 A := by
  have k := h l Γ A hs
  have e1 : mcOf M = 0 := by unfold mcOf; rw [hz]; rfl
  have e2 : msOf M = 0 := by unfold msOf; rw [hz]; rfl
  rw [e1, e2] at k
  refine MetFree.mono k (fun a st hq => ?_) (fun _ _ _ _ _ h => h) (fun _ _ _ _ _ h => h)
  obtain ⟨q1, q2, q3, q4⟩ := hq
  exact ⟨q1, q2, q3, q4, fun q => by rw [hz] at q; cases q⟩
/-- a callee that reads the caller's script or none, and makes nothing -/
def Csk (M M' : MD) : Prop := (M'.2.2.2.2.1 = none ∨ M'.2.2.2.2.1 = M.2.2.2.2.1) ∧ M'.2.2.2.2.2.1 = false ∧ M'.2.2.2.2.2.2 = false
theorem Csk.ok {M M' : MD} (h : Csk M M') {Γ : Gm} (hs : Sok M Γ) : Sok M' Γ := ⟨fun sc e => by
  rcases h.1 with k | k
  · rw [k] at e; cases e
  · exact hs.1 sc (k.symm.trans e), (fun e => by rw [h.2.2] at e; cases e), fun e => by rw [h.2.1] at e; cases e⟩
theorem xc_core {fr lo : Nat} {M : MD} {Q Q' : Option Value → St → Prop} {pc : Nat} {lv : List (Nat × Value)} {S : St} {p : Program} {l : Launch} {e : Env} {R : Room} {s : State} {m : MethodId} {args : Array Value} {below : List Frame} {meth : Method} {c : Code} {H : Heap} {locs : List Loc} {cells slots : Nat} {Γ : Gm} {A : Nat → Prop} {ls : Array Slot} {a : Array Value} {stc rest : List Value}
    (hC : Cx fr lo M p R s m args meth c cells slots Γ A) (hW : Wd Γ A S s.heap H locs) (hL : lv_has ls M.2.2.1 (lvm Γ.2.1 lv))
    (hr : va_Run p l e R s m args below meth c H locs cells slots 0 0 (F0 m pc ls stc) (rest.map (cv Γ.2.1)) (QA Γ A Q' a) A)
    (kk : ∀ v S', Q' v S' → X fr lo M Q (pc + 3) lv (v.toList ++ rest) S') : W p l e R s m args below meth c H locs cells slots (MQ below (QA Γ A Q) args s (mcOf M + cells) (msOf M + slots) A) (F0 m pc ls stc) := by
  intro T hT X
  obtain ⟨v, st₀, t, T', L, h0, X', hLf, e1, e2, ⟨⟨w, S', hv, hq, hP, hD⟩, hz, hk⟩, st⟩ := hr T hT X
  cases hv
  rw [h0] at hz hk
  have hS : va_S A s.heap T'.heap (locs ++ L) := by
    refine ⟨Nat.le_trans hW.2.2.1 (by rw [e1]; exact hz), fun q h1 h2 => ?_, fun q hq => ?_⟩
    · rw [e1, hk q (Nat.lt_of_lt_of_le h1 hW.2.2.1) h2]
      exact hW.2.2.2.1 q h1 h2
    · rcases List.mem_append.mp hq with h | h
      · exact hW.2.2.2.2 q h
      · exact hLf q h
  obtain ⟨t2, a1, b1⟩ := kk w S' hq p l e R s m args below meth c T'.heap (locs ++ L) cells slots Γ A ls hC ⟨by rw [e1]; exact hP, hD, hS⟩ hL T' rfl X'
  refine ⟨t2, st t2 ?_, b1⟩
  have e3 : (w.map (cv Γ.2.1)).toList ++ rest.map (cv Γ.2.1) = (w.toList ++ rest).map (cv Γ.2.1) := by cases w <;> simp
  rw [e3]
  exact a1
theorem xc_blind {Γ : Gm} {A : Nat → Prop} {S : St} {av : List Value} : FrameBlind (va_Pc av (fun U => va_P Γ.1 vwCl (wsO Γ S) U.heap ∧ va_D A (wsO Γ S) ∧ Kn Γ A U)) := by
  intro a U g mk h
  obtain ⟨h1, h2, h3, h4⟩ := h
  exact ⟨h1, h2, h3, h4.call g mk a⟩
theorem xc_pre {fr lo : Nat} {M : MD} {S : St} {p : Program} {R : Room} {s : State} {m : MethodId} {args : Array Value} {meth : Method} {c : Code} {H : Heap} {locs : List Loc} {cells slots : Nat} {Γ : Gm} {A : Nat → Prop} {av : List Value} (hC : Cx fr lo M p R s m args meth c cells slots Γ A) (hW : Wd Γ A S s.heap H locs) : ∀ U : State, U.heap = H → s.WarmedH U.vm → va_Pc av (fun U => va_P Γ.1 vwCl (wsO Γ S) U.heap ∧ va_D A (wsO Γ S) ∧ Kn Γ A U) av.toArray U := by
  intro U hU hWm
  exact ⟨rfl, by rw [hU]; exact hW.1, hW.2.1, Kn.go hC.2.2.2.2.2.2.2.2.2.2.2 hW.2.2 hU hWm⟩
theorem cat_map (ad : Nat → Nat) (r : List Value) : ((r.map (cv ad)).map fun v => v.category).sum = (r.map fun v => v.category).sum := by
  rw [List.map_map]
  congr 2
  funext v
  exact cv_cat ad v
theorem x_callV {fr lo : Nat} {M : MD} {Q : Option Value → St → Prop} {pc : Nat} {lv : List (Nat × Value)} {st : List Value} {S : St} {fr' lo' idx n k ci : Nat} {y : MethodName} {M' : MD} {as rest : List Value} {fs : List FdX} {T : u_T} {N : Nat} {Q' : Option Value → St → Prop} (hm : CV M.1 idx y M' n) (hc : C fr' lo' y M' (.ref k :: as) S Q') (hd : decode M.2.1 pc = .ok (.invokevirtual idx, 3)) (hl : LAY[k]? = some (.inl (ci, fs))) (hcl : vwCl[ci]? = some (y.cls, T, N)) (hn : as.length = n) (hst : st = as.reverse ++ .ref k :: rest) (hr : (rest.map fun v => v.category).sum ≤ 8) (hfr : fr' + 1 ≤ fr) (hlo : 8 + (M'.2.2.1 + 11) + lo' ≤ lo) (kk : ∀ v S', Q' v S' → X fr lo M Q (pc + 3) lv (v.toList ++ rest) S') (hsc : Csk M M' := by first | exact ⟨Or.inl rfl, rfl, rfl⟩ | exact ⟨Or.inr rfl, rfl, rfl⟩) : X fr lo M Q pc lv st S := by
  intro p l e R s m args below meth c H locs cells slots Γ A ls hC hW hL
  subst hst
  obtain ⟨m1, m2, m3, m4, m5, m6⟩ := hm
  have hx := hC.2.2.2.2.2.2.2
  have hG : GoodIn TB (wsV M.1 idx y.cls y (.code y M'.2.1 M'.2.2.1 M'.2.2.2.1 :: TB)) := by
    unfold wsV
    refine goodIn_app (fun w hw => ?_) (GI_code m5)
    simp only [List.mem_cons, List.not_mem_nil, or_false] at hw
    rcases hw with rfl | rfl | rfl | rfl
    · exact TB_good _ m1
    · exact TB_good _ m2
    · exact TB_good _ m3
    · exact TB_good _ m4
  refine xc_core hC hW hL (va_runV (C := y.cls) (As := as.map (cv Γ.2.1)) (b := Γ.2.1 k) (n := n) (rest := rest.map (cv Γ.2.1)) ⟨hC.1, hC.2.1, hC.2.2.1, hC.2.2.2.2.2.1, hC.2.2.2.2.2.2.1⟩ (hc.zero hsc.2.1 (hsc.ok hC.2.2.2.2.1.2.1) l A) (cwV n hC.2.2.2.2.2.2.1 hG rfl rfl rfl ⟨rfl, m6⟩ ⟨Nat.le_trans hfr hx.1, Nat.le_trans hlo hx.2.1⟩) ⟨xc_blind, va_recv hC.2.2.2.2.2.2.2.2.2.2.2.1 hW.1 hcl (wsO_at hl), xc_pre hC hW⟩ rfl (by rw [List.length_map]; exact hn) hL.1 ?_ (lv_room (by rw [cat_map]; exact hr)) hd ⟨Nat.le_trans (Nat.le_add_left _ _) hx.2.2.1, Nat.le_trans (Nat.le_add_left _ _) hx.2.2.2.1⟩) kk
  show List.map _ _ = _
  rw [List.map_append, List.map_reverse]
  rfl
theorem x_callS {fr lo : Nat} {M : MD} {Q : Option Value → St → Prop} {pc : Nat} {lv : List (Nat × Value)} {st : List Value} {S : St} {fr' lo' idx n : Nat} {y : MethodName} {M' : MD} {as rest : List Value} {Q' : Option Value → St → Prop} (hm : CS M.1 idx y M' n) (hc : C fr' lo' y M' as S Q') (hd : decode M.2.1 pc = .ok (.invokestatic idx, 3)) (hn : as.length = n) (hst : st = as.reverse ++ rest) (hr : (rest.map fun v => v.category).sum ≤ 8) (hfr : fr' + 1 ≤ fr) (hlo : 8 + (M'.2.2.1 + 11) + lo' ≤ lo) (kk : ∀ v S', Q' v S' → X fr lo M Q (pc + 3) lv (v.toList ++ rest) S') (hsc : Csk M M' := by first | exact ⟨Or.inl rfl, rfl, rfl⟩ | exact ⟨Or.inr rfl, rfl, rfl⟩) : X fr lo M Q pc lv st S := by
  intro p l e R s m args below meth c H locs cells slots Γ A ls hC hW hL
  subst hst
  obtain ⟨m1, m2, m4, m5, m6⟩ := hm
  have hx := hC.2.2.2.2.2.2.2
  have hG : GoodIn TB (va_wsS M.1 idx y (.code y M'.2.1 M'.2.2.1 M'.2.2.2.1 :: TB)) := by
    unfold va_wsS
    refine goodIn_app (fun w hw => ?_) (GI_code m5)
    simp only [List.mem_cons, List.not_mem_nil, or_false] at hw
    rcases hw with rfl | rfl | rfl
    · exact TB_good _ m1
    · exact TB_good _ m2
    · exact TB_good _ m4
  refine xc_core hC hW hL (va_runS (As := as.map (cv Γ.2.1)) (n := n) (rest := rest.map (cv Γ.2.1)) ⟨hC.1, hC.2.1, hC.2.2.1, hC.2.2.2.2.2.1, hC.2.2.2.2.2.2.1⟩ (hc.zero hsc.2.1 (hsc.ok hC.2.2.2.2.1.2.1) l A) (va_cwS n hC.2.2.2.2.2.2.1 hG rfl rfl rfl m6 ⟨Nat.le_trans hfr hx.1, Nat.le_trans hlo hx.2.1⟩) ⟨xc_blind, xc_pre hC hW⟩ rfl (by rw [List.length_map]; exact hn) hL.1 ?_ (lv_room (by rw [cat_map]; exact hr)) hd ⟨Nat.le_trans (Nat.le_add_left _ _) hx.2.2.1, Nat.le_trans (Nat.le_add_left _ _) hx.2.2.2.1⟩) kk
  show List.map _ _ = _
  rw [List.map_append, List.map_reverse]
/-- the private method 'fits' of Places, called in Theft -/
theorem x_callF {fr lo : Nat} {M : MD} {Q : Option Value → St → Prop} {pc : Nat} {lv : List (Nat × Value)} {st : List Value} {S : St} {fr' lo' k jf : Nat} {M' : MD} {as rest : List Value} {fs : List FdX} {Q' : Option Value → St → Prop} (hM : M.1 = RX8) (hm : CV RX3 jf yX3_fits M' 2) (hc : C fr' lo' yX3_fits M' (.ref k :: as) S Q') (hd : decode M.2.1 pc = .ok (.invokevirtual 103, 3)) (hl : LAY[k]? = some (.inl (3, fs))) (hn : as.length = 2) (hst : st = as.reverse ++ .ref k :: rest) (hr : (rest.map fun v => v.category).sum ≤ 8) (hfr : fr' + 1 ≤ fr) (hlo : 8 + (M'.2.2.1 + 11) + lo' ≤ lo) (kk : ∀ v S', Q' v S' → X fr lo M Q (pc + 3) lv (v.toList ++ rest) S') (hsc : Csk M M' := by first | exact ⟨Or.inl rfl, rfl, rfl⟩ | exact ⟨Or.inr rfl, rfl, rfl⟩) : X fr lo M Q pc lv st S := by
  intro p l e R s m args below meth c H locs cells slots Γ A ls hC hW hL
  subst hst
  obtain ⟨m1, m2, m3, m4, m5, m6⟩ := hm
  have hx := hC.2.2.2.2.2.2.2
  have hts := hC.2.2.2.2.2.2.1
  have hK := hC.2.2.2.2.2.2.2.2.2.2.2
  refine xc_core hC hW hL (va_runVN (C := RX3) (host := RX10) (As := as.map (cv Γ.2.1)) (b := Γ.2.1 k) (n := 2) (rest := rest.map (cv Γ.2.1)) (own := RX8) ⟨hC.1, hC.2.1, hC.2.2.1, by have := hC.2.2.2.2.2.1; rw [hM] at this; exact this, hts⟩ (hc.zero hsc.2.1 (hsc.ok hC.2.2.2.2.1.2.1) l A) ⟨va_cnB 2 hts (GI_code m5) rfl rfl rfl hK.2.2.2.2.2.2.2 (hts _ m4) m6 ⟨Nat.le_trans hfr hx.1, Nat.le_trans hlo hx.2.1⟩, hts _ m2, hts _ m3⟩ ⟨xc_blind, va_recv hK.1 hW.1 (q := (RX3, TX3, 6)) rfl (wsO_at hl), xc_pre hC hW⟩ rfl (by rw [List.length_map]; exact hn) hL.1 ?_ (lv_room (by rw [cat_map]; exact hr)) hd ⟨Nat.le_trans (Nat.le_add_left _ _) hx.2.2.1, Nat.le_trans (Nat.le_add_left _ _) hx.2.2.2.1⟩) kk
  show List.map _ _ = _
  rw [List.map_append, List.map_reverse]
  rfl
/-- System.arraycopy of ints -/
theorem wsO_setC {Γ : Gm} {S : St} {k n : Nat} (h : LAY[k]? = some (.inr (0, n))) (f : Nat → Int32) : (wsO Γ S).set k (Γ.2.1 k, .inl (Γ.2.2.1 0, n, .inl f)) = wsO Γ (fun a b => if a = k then f b else S.1 a b, S.2) := by
  refine wsO_set h ?_ (fun i hi b => by simp [hi]) (fun i hi b => rfl)
  show _ = Sum.inl (Γ.2.2.1 0, n, Sum.inl _)
  congr 4
  funext q
  simp
def cpA (S : St) (k0 k sp dp n : Nat) : St := (fun a b => if a = k then va_cpy (S.1 k0) (S.1 k) sp dp n b else S.1 a b, S.2)
theorem x_acopy {fr lo : Nat} {M : MD} {Q : Option Value → St → Prop} {pc : Nat} {lv : List (Nat × Value)} {st : List Value} {S : St} {idx k0 k n0 n1 : Nat} {sp dp n : Int32} (hm : Cond.methodLink M.1 idx arraycopyName ∈ TB) (hd : decode M.2.1 pc = .ok (.invokestatic idx, 3)) (hl0 : LAY[k0]? = some (.inr (0, n0))) (hl1 : LAY[k]? = some (.inr (0, n1))) (h1 : 0 ≤ sp.toInt) (h2 : 0 ≤ dp.toInt) (h3 : 0 ≤ n.toInt) (h4 : sp.toNatClampNeg + n.toNatClampNeg ≤ n0) (h5 : dp.toNatClampNeg + n.toNatClampNeg ≤ n1) (hr : (st.map fun v => v.category).sum ≤ 8) (hfr : 1 ≤ fr) (hlo : 8 + (nativeFrameWords "java/lang/System" "arraycopy" 5 + 11) ≤ lo) (kk : X fr lo M Q (pc + 3) lv st (cpA S k0 k sp.toNatClampNeg dp.toNatClampNeg n.toNatClampNeg)) : X fr lo M Q pc lv (.int n :: .int dp :: .ref k :: .int sp :: .ref k0 :: st) S := by
  intro p l e R s m args below meth c H locs cells slots Γ A ls hC hW hL
  have hts := hC.2.2.2.2.2.2.1
  have hx := hC.2.2.2.2.2.2.2
  have nn : ∀ z : Int32, 0 ≤ z.toInt → ¬ z < 0 := fun z hz q => by have := Int32.lt_iff_toInt_lt.mp q; simp at this; omega
  refine va_copyi hC.1 hC.2.1 (hC.2.2.1.trans hL.1.symm) hC.2.2.2.2.2.1 (hts _ hm) (hts _ acN) (hts _ acS) (hts _ acI) hx.2.2.2.2.1 hW.1 hW.2.1 hW.2.2 k0 k 0 0 (wsO_at hl0) (wsO_at hl1) rfl rfl rfl (nn _ h1) (nn _ h2) (nn _ h3) h4 h5 (fun _ _ => rfl) (Nat.le_trans hfr hx.1) ?_ hd (fun H1 locs1 hP hD hS => ?_)
  · rw [cat_map]
    have := hx.2.1
    omega
  · rw [wsO_setC hl1] at hP hD
    exact kk p l e R s m args below meth c H1 locs1 cells slots Γ A ls hC ⟨hP, hD, hS⟩ hL
/-- Math.max -/
theorem x_max {fr lo : Nat} {M : MD} {Q : Option Value → St → Prop} {pc : Nat} {lv : List (Nat × Value)} {st : List Value} {S : St} {idx : Nat} {x y : Int32} (hm : Cond.methodLink M.1 idx Lib.Math.max.name ∈ TB) (hd : decode M.2.1 pc = .ok (.invokestatic idx, 3)) (hr : (st.map fun v => v.category).sum ≤ 8) (hfr : 1 ≤ fr) (hlo : 21 ≤ lo) (kk : X fr lo M Q (pc + 3) lv (.int (if x < y then y else x) :: st) S) : X fr lo M Q pc lv (.int y :: .int x :: st) S := by
  intro p l e R s m args below meth c H locs cells slots Γ A ls hC hW hL
  have hts := hC.2.2.2.2.2.2.1
  have hx := hC.2.2.2.2.2.2.2
  exact va_mmax hC.1 hC.2.1 (hC.2.2.1.trans hL.1.symm) hC.2.2.2.2.2.1 (hts _ hm) (hts _ mxS) (hts _ mxI) (hts _ mxC) (Nat.le_trans hfr hx.1) (by rw [cat_map]; have := hx.2.1; omega) (Nat.le_trans (Nat.le_add_left _ _) hx.2.2.1) (Nat.le_trans (Nat.le_add_left _ _) hx.2.2.2.1) hd (kk p l e R s m args below meth c H locs cells slots Γ A ls hC hW hL)
end XCALL

/-! the script; the row of five -/
theorem va_P.left {D : va_G} {cl : List vw_C} {a b : va_W} {H : Heap} (h : va_P D cl (a ++ b) H) : va_P D cl a H := fun k q hk => h k q (by rw [List.getElem?_append_left (List.getElem?_eq_some_iff.mp hk).1]; exact hk)
theorem va_D.left {A : Nat → Prop} {a b : va_W} (h : va_D A (a ++ b)) : va_D A a :=
  ⟨fun i j p q hi hj e => h.1 i j p q (by rw [List.getElem?_append_left (List.getElem?_eq_some_iff.mp hi).1]; exact hi) (by rw [List.getElem?_append_left (List.getElem?_eq_some_iff.mp hj).1]; exact hj) e, fun k q hk => h.2 k q (by rw [List.getElem?_append_left (List.getElem?_eq_some_iff.mp hk).1]; exact hk)⟩
def mk2 (M : MD) : MD := (M.1, M.2.1, M.2.2.1, M.2.2.2.1, M.2.2.2.2.1, false, true)
def mk1 (M : MD) : MD := (M.1, M.2.1, M.2.2.1, M.2.2.2.1, M.2.2.2.2.1, false, false)
def z84 (S : St) : St := (fun a b => if a = 84 then 0 else S.1 a b, S.2)
def ad84 (ad : Nat → Nat) (q : Nat) : Nat → Nat := fun k => if k = 84 then q else ad k
def G84 (Γ : Gm) (q : Nat) : Gm := (Γ.1, ad84 Γ.2.1 q, Γ.2.2.1, Γ.2.2.2.1, true)
theorem LAY_refs : LAY.all (fun d => match d with
    | .inl q => q.2.all (fun f => match f with
      | .inl r => Nat.blt r 84
      | .inr _ => true)
    | .inr _ => true) = true := by decide +kernel
theorem clE_84 (Γ : Gm) {S S1 : St} (q : Nat) (h1 : ∀ k, k < 84 → S1.1 k = S.1 k) (h2 : S1.2 = S.2) {k : Nat} {d : Ds} (h : LAY[k]? = some d) : clE (G84 Γ q) S1 k d = clE Γ S k d := by
  have hk := LAY_lt h
  have hd := List.all_eq_true.mp LAY_refs d (List.mem_of_getElem? h)
  have e1 := h1 k hk
  cases d with
  | inr x =>
    show (Sum.inl (Γ.2.2.1 x.1, x.2, .inl (S1.1 k)) : va_E) = Sum.inl (Γ.2.2.1 x.1, x.2, .inl (S.1 k))
    rw [e1]
  | inl x =>
    show (Sum.inr (x.1, x.2.mapIdx (fun j f => fdV (ad84 Γ.2.1 q) S1 k j f)) : va_E) = Sum.inr (x.1, x.2.mapIdx (fun j f => fdV Γ.2.1 S k j f))
    congr 2
    apply List.ext_getElem?
    intro i
    rw [List.getElem?_mapIdx, List.getElem?_mapIdx]
    cases hf : x.2[i]? with
    | none => rfl
    | some f =>
      have hr := List.all_eq_true.mp hd f (List.mem_of_getElem? hf)
      simp only [Option.map_some, Option.some.injEq]
      rcases f with r | _ | _
      · have hr2 : r < 84 := by simpa using hr
        show Value.ref (ad84 Γ.2.1 q r) = Value.ref (Γ.2.1 r)
        unfold ad84
        rw [if_neg (by omega)]
      · show Value.int (S1.1 k i) = Value.int (S.1 k i)
        rw [e1]
      · show Value.long (S1.2 k i) = Value.long (S.2 k i)
        rw [h2]
theorem wsB_84 (Γ : Gm) {S S1 : St} (q : Nat) (h1 : ∀ k, k < 84 → S1.1 k = S.1 k) (h2 : S1.2 = S.2) : wsB (G84 Γ q) S1 = wsB Γ S := by
  unfold wsB
  apply List.ext_getElem?
  intro i
  rw [List.getElem?_mapIdx, List.getElem?_mapIdx]
  cases h : LAY[i]? with
  | none => rfl
  | some d =>
    have hk := LAY_lt h
    simp only [Option.map_some, clE_84 Γ q h1 h2 h]
    have e : (G84 Γ q).2.1 i = Γ.2.1 i := if_neg (by omega)
    rw [e]
theorem cv_84 {ad : Nat → Nat} {q : Nat} {v : Value} (h : v ≠ .ref 84) : cv (ad84 ad q) v = cv ad v := by
  cases v with
  | ref k =>
    have hk : ¬ k = 84 := fun e => h (by rw [e])
    show Value.ref (ad84 ad q k) = Value.ref (ad k)
    unfold ad84
    rw [if_neg hk]
  | _ => rfl
theorem lvm_84 {ad : Nat → Nat} {q : Nat} {lv : List (Nat × Value)} (h : ∀ x ∈ lv, x.2 ≠ .ref 84) : lvm (ad84 ad q) lv = lvm ad lv := by
  unfold lvm
  exact List.map_congr_left fun x hx => by rw [cv_84 (h x hx)]
theorem RA_i (U : State) (a b : ClassId) (h1 : va_RA U a .int) (h2 : va_RA U b .int) : a = b := Option.some.inj ((show U.vm.findClass _ = some a from h1).symm.trans h2)
theorem wsO_w {Γ : Gm} {S : St} (hf : Γ.2.2.2.2 = true) : (wsO Γ S)[84]? = some (Γ.2.1 84, .inl (Γ.2.2.1 0, 5, .inl (S.1 84))) := by
  unfold wsO wsE
  rw [hf, List.getElem?_append_right (by rw [wsB_len]; omega), wsB_len]
  rfl
theorem wsO_wset {Γ : Gm} {S : St} (hf : Γ.2.2.2.2 = true) (j : Nat) (v : Int32) : (wsO Γ S).set 84 (Γ.2.1 84, .inl (Γ.2.2.1 0, 5, .inl (upd (S.1 84) j v))) = wsO Γ (setI S 84 j v) := by
  have e1 : wsB Γ (setI S 84 j v) = wsB Γ S := by
    unfold wsB
    apply List.ext_getElem?
    intro i
    rw [List.getElem?_mapIdx, List.getElem?_mapIdx]
    cases h : LAY[i]? with
    | none => rfl
    | some d =>
      have hk := LAY_lt h
      simp only [Option.map_some]
      rw [clE_ne (Γ := Γ) (S := S) (S' := setI S 84 j v) (i := i) (fun b => if_neg (by omega)) (fun b => rfl) d]
  have e2 : upd (S.1 84) j v = (setI S 84 j v).1 84 := by
    funext q
    simp [upd, setI]
  unfold wsO wsE
  rw [hf, List.set_append_right _ _ (by rw [wsB_len]; omega), wsB_len, e1, e2]
  rfl
section XSC
variable {fr lo : Nat} {M : MD} {Q : Option Value → St → Prop} {pc : Nat} {lv : List (Nat × Value)} {st : List Value} {S : St}
theorem x_sld {sc : Sc} {i : Int32} (hM : M.2.2.2.2.1 = some sc) (hd : decode M.2.1 pc = .ok (.iaload, 1)) (hi : 0 ≤ i.toInt ∧ i.toInt < sc.1) (kk : X fr lo M Q (pc + 1) lv (.int (sc.2 i.toNatClampNeg) :: st) S) : X fr lo M Q pc lv (.int i :: .ref 201 :: st) S := by
  intro p l e R s m args below meth c H locs cells slots Γ A ls hC hW hL
  have hK := hC.2.2.2.2.2.2.2.2.2.2.2
  have e := hC.2.2.2.2.1.2.1.1 sc hM
  have hT := hK.2.2.2.1
  rw [e] at hT
  exact va_ti hC.1 hC.2.1 hT hW.2.2 (vp_in_iff.mpr hi) rfl hd (kk p l _ R s m args below meth c H locs cells slots Γ A ls hC hW hL)
theorem x_slen {sc : Sc} (hM : M.2.2.2.2.1 = some sc) (hd : decode M.2.1 pc = .ok (.arraylength, 1)) (kk : X fr lo M Q (pc + 1) lv (.int (nI sc.1) :: st) S) : X fr lo M Q pc lv (.ref 201 :: st) S := by
  intro p l e R s m args below meth c H locs cells slots Γ A ls hC hW hL
  have hK := hC.2.2.2.2.2.2.2.2.2.2.2
  have e := hC.2.2.2.2.1.2.1.1 sc hM
  have hT := hK.2.2.2.1
  rw [e] at hT
  exact va_tlen hC.1 hC.2.1 hT hW.2.2 rfl hd (kk p l _ R s m args below meth c H locs cells slots Γ A ls hC hW hL)
theorem x_wald {i : Int32} (hM : M.2.2.2.2.2.2 = true) (hd : decode M.2.1 pc = .ok (.iaload, 1)) (hi : 0 ≤ i.toInt ∧ i.toInt < (5 : Nat)) (kk : X fr lo M Q (pc + 1) lv (.int (S.1 84 i.toNatClampNeg) :: st) S) : X fr lo M Q pc lv (.int i :: .ref 84 :: st) S := by
  intro p l e R s m args below meth c H locs cells slots Γ A ls hC hW hL
  exact va_iald hC.1 hC.2.1 hC.2.2.2.2.2.2.2.2.2.2.2.1 hW.1 84 0 (wsO_w (hC.2.2.2.2.1.2.1.2.1 hM)) rfl (vp_in_iff.mpr hi) hd (kk p l e R s m args below meth c H locs cells slots Γ A ls hC hW hL)
theorem x_wast {i v : Int32} (hM : M.2.2.2.2.2.2 = true) (hd : decode M.2.1 pc = .ok (.iastore, 1)) (hi : 0 ≤ i.toInt ∧ i.toInt < (5 : Nat)) (kk : X fr lo M Q (pc + 1) lv st (setI S 84 i.toNatClampNeg v)) : X fr lo M Q pc lv (.int v :: .int i :: .ref 84 :: st) S := by
  intro p l e R s m args below meth c H locs cells slots Γ A ls hC hW hL
  have hf := hC.2.2.2.2.1.2.1.2.1 hM
  refine va_iast hC.1 hC.2.1 hC.2.2.2.2.2.2.2.2.2.2.2.1 hW.1 hW.2.1 hW.2.2 84 0 (wsO_w hf) rfl (vp_in_iff.mpr hi) hd (fun H1 locs1 hP hD hS => ?_)
  rw [wsO_wset hf] at hP hD
  exact kk p l e R s m args below meth c H1 locs1 cells slots Γ A ls hC ⟨hP, hD, hS⟩ hL
/-- 'new int[5]', once -/
theorem x_new5 (h1 : M.2.2.2.2.2.1 = true) (hw : Cond.arrayClass .int ∈ TB) (hlv : ∀ x ∈ lv, x.2 ≠ .ref 84) (hst : ∀ x ∈ st, x ≠ .ref 84) (hQ : ∀ v S', Q v S' → ∃ r : Int32, v = some (.int r)) (hd : decode M.2.1 pc = .ok (.newarray .int, 2)) (kk : X fr lo (mk2 M) Q (pc + 2) lv (.ref 84 :: st) (z84 S)) : X fr lo M Q pc lv (.int (nI 5) :: st) S := by
  intro p l e R s m args below meth c H locs cells slots Γ A ls hC hW hL
  have e1 : mcOf M = 1 := by unfold mcOf; rw [h1]; rfl
  have e2 : msOf M = 5 := by unfold msOf; rw [h1]; rfl
  obtain ⟨c1, c2, c3, c4, ⟨c5, c5s, c5a⟩, c6, c7, c8, c9, c10, c11, c12⟩ := hC
  rw [e1] at c10 ⊢
  rw [e2] at c11 ⊢
  refine va_newa (D := Γ.1) (cl := vwCl) (tys := [(Γ.2.2.1 0, .int)]) (atype := .int) (ty := .int) c1 c2 (c7 _ hw) rfl c12.1 (hW.1 : va_P Γ.1 vwCl (wsB Γ S ++ wsE Γ S) H).left (hW.2.1 : va_D A (wsB Γ S ++ wsE Γ S)).left hW.2.2 (c5a h1) (a0 := (5, .inl (fun _ => 0))) (fun cA => by rw [vp_cell_i]; rfl) (by decide) (show (nI 5).toNatClampNeg = 5 from by decide) (by decide) (by omega) (by omega) hd (fun q cA H1 hK1 hP1 hD1 hS1 => ?_)
  have e3 := RA_i s _ _ (hK1.2 1 (cA, .int) rfl).2 (c12.1.2 0 (Γ.2.2.1 0, .int) rfl).2
  subst e3
  have hK2 : Kn (G84 Γ q) A s := c12
  have hWd : Wd (G84 Γ q) A (z84 S) s.heap H1 locs := by
    have e4 : wsO (G84 Γ q) (z84 S) = wsB Γ S ++ [(q, .inl (Γ.2.2.1 0, 5, .inl (fun _ => 0)))] := by
      unfold wsO
      rw [wsB_84 Γ q (S := S) (S1 := z84 S) (fun k hk => funext fun b => if_neg (fun z => by rw [z] at hk; exact Nat.lt_irrefl 84 hk)) rfl]
      rfl
    refine ⟨?_, ?_, hS1⟩
    · rw [e4]; exact hP1
    · rw [e4]; exact hD1
  have hL2 : lv_has ls M.2.2.1 (lvm (ad84 Γ.2.1 q) lv) := by rw [lvm_84 hlv]; exact hL
  have hst2 : (Value.ref 84 :: st).map (cv (ad84 Γ.2.1 q)) = Value.ref q :: st.map (cv Γ.2.1) := by
    rw [List.map_cons, List.map_congr_left (fun x hx => cv_84 (hst x hx))]
    rfl
  have k := kk p l e R s m args below meth c H1 locs (cells + 1) (slots + 5) (G84 Γ q) A ls ⟨c1, c2, c3, c4, ⟨c5, ⟨c5s.1, (fun _ => rfl), fun h => by cases h⟩, fun h => by cases h⟩, c6, c7, c8, c9, by show 0 + (cells + 1) ≤ _; omega, by show 0 + (slots + 5) ≤ _; omega, hK2⟩ hWd hL2
  intro T hT hX
  obtain ⟨t, a1, o, b1, b2, ⟨⟨v, S', r1, r2, r3, r4⟩, r5⟩, r6⟩ := k T hT (by
    have : (F0 m (pc + 2) ls (Value.ref q :: st.map (cv Γ.2.1))) = (F0 m (pc + 2) ls ((Value.ref 84 :: st).map (cv (ad84 Γ.2.1 q)))) := by rw [hst2]
    exact hX)
  obtain ⟨r, rfl⟩ := hQ v S' r2
  have e7 : wsO Γ S' = wsB Γ S' := by
    unfold wsO wsE
    rw [c5s.2.2 h1]
    exact List.append_nil _
  refine ⟨t, ?_, o, b1, b2, ⟨⟨some (.int r), S', r1, r2, ?_, ?_⟩, r5⟩, ?_⟩
  · have a2 := a1
    show Steps p.tables e below (T.setTop (F0 m (pc + 2) ls (Value.ref q :: st.map (cv Γ.2.1)))) t
    rw [← hst2]
    exact a2
  · have r3' : va_P Γ.1 vwCl (wsB (G84 Γ q) S' ++ wsE (G84 Γ q) S') t.heap := r3
    have r7 := r3'.left
    rw [wsB_84 Γ q (fun _ _ => rfl) rfl] at r7
    rw [e7]
    exact r7
  · have r4' : va_D A (wsB (G84 Γ q) S' ++ wsE (G84 Γ q) S') := r4
    have r7 := r4'.left
    rw [wsB_84 Γ q (fun _ _ => rfl) rfl] at r7
    rw [e7]
    exact r7
  · have e5 : mcOf (mk2 M) + (cells + 1) = 1 + cells := by show 0 + (cells + 1) = _; omega
    have e6 : msOf (mk2 M) + (slots + 5) = 5 + slots := by show 0 + (slots + 5) = _; omega
    rw [e5, e6] at r6
    exact r6
/-- a call of the method that makes the row of five -/
theorem x_callW {fr' lo' idx n : Nat} {y : MethodName} {M' : MD} {as rest : List Value} {Q' : Option Value → St → Prop} (h1 : M.2.2.2.2.2.1 = true) (h2 : M'.2.2.2.2.2.1 = true) (h3 : M'.2.2.2.2.1 = M.2.2.2.2.1) (h4 : M'.2.2.2.2.2.2 = false) (hm : CS M.1 idx y M' n) (hc : C fr' lo' y M' as S Q') (hd : decode M.2.1 pc = .ok (.invokestatic idx, 3)) (hn : as.length = n) (hst : st = as.reverse ++ rest) (hr : (rest.map fun v => v.category).sum ≤ 8) (hfr : fr' + 1 ≤ fr) (hlo : 8 + (M'.2.2.1 + 11) + lo' ≤ lo) (kk : ∀ v S', Q' v S' → X fr lo (mk1 M) Q (pc + 3) lv (v.toList ++ rest) S') : X fr lo M Q pc lv st S := by
  intro p l e R s m args below meth c H locs cells slots Γ A ls hC hW hL
  subst hst
  obtain ⟨m1, m2, m4, m5, m6⟩ := hm
  have hx := hC.2.2.2.2.2.2.2
  have hG : GoodIn TB (va_wsS M.1 idx y (.code y M'.2.1 M'.2.2.1 M'.2.2.2.1 :: TB)) := by
    unfold va_wsS
    refine goodIn_app (fun w hw => ?_) (GI_code m5)
    simp only [List.mem_cons, List.not_mem_nil, or_false] at hw
    rcases hw with rfl | rfl | rfl
    · exact TB_good _ m1
    · exact TB_good _ m2
    · exact TB_good _ m4
  have e1 : mcOf M = 1 := by unfold mcOf; rw [h1]; rfl
  have e2 : msOf M = 5 := by unfold msOf; rw [h1]; rfl
  have e3 : mcOf M' = 1 := by unfold mcOf; rw [h2]; rfl
  have e4 : msOf M' = 5 := by unfold msOf; rw [h2]; rfl
  obtain ⟨c1, c2, c3, c4, ⟨c5, c5s, c5a⟩, c6, c7, c8, c9, c10, c11, c12⟩ := hC
  rw [e1] at c10 ⊢
  rw [e2] at c11 ⊢
  have hM := hc l Γ A ⟨fun sc q => c5s.1 sc (h3.symm.trans q), (fun q => by rw [h4] at q; cases q), fun q => c5s.2.2 h1⟩
  rw [e3, e4] at hM
  have hpre : ∀ U : State, U.heap = H → s.WarmedH U.vm → va_Pc (as.map (cv Γ.2.1)) (fun U => va_P Γ.1 vwCl (wsO Γ S) U.heap ∧ va_D A (wsO Γ S) ∧ Kn Γ A U ∧ Sak M' A U) (as.map (cv Γ.2.1)).toArray U := by
    intro U hU hWm
    exact ⟨rfl, by rw [hU]; exact hW.1, hW.2.1, Kn.go c12 hW.2.2 hU hWm, fun _ q hq => c5a h1 q (Nat.le_trans hW.2.2.1 (by rw [← hU]; exact hq))⟩
  have hbl : FrameBlind (va_Pc (as.map (cv Γ.2.1)) (fun U => va_P Γ.1 vwCl (wsO Γ S) U.heap ∧ va_D A (wsO Γ S) ∧ Kn Γ A U ∧ Sak M' A U)) := by
    intro a U g mk h
    obtain ⟨h1, h2, h3, h4, h5⟩ := h
    exact ⟨h1, h2, h3, h4.call g mk a, h5⟩
  have hrun := va_runS (p := p) (e := e) (R := R) (s := s) (m := m) (args := args) (below := below) (meth := meth) (c := c) (H := H) (locs := locs) (cells := cells) (slots := slots) (As := as.map (cv Γ.2.1)) (n := n) (rest := rest.map (cv Γ.2.1)) (g := F0 m pc ls ((as.reverse ++ rest).map (cv Γ.2.1))) ⟨c1, c2, c3, c6, c7⟩ hM (va_cwS n c7 hG rfl rfl rfl m6 ⟨Nat.le_trans hfr c8, Nat.le_trans hlo c9⟩) ⟨hbl, hpre⟩ rfl (by rw [List.length_map]; exact hn) hL.1 (by
    show List.map _ _ = _
    rw [List.map_append, List.map_reverse]) (lv_room (by rw [cat_map]; exact hr)) hd ⟨by omega, by omega⟩
  intro T hT hX
  obtain ⟨v, st₀, t, T', L, h0, X', hLf, q1, q2, ⟨⟨w, S', hv, hq, hP, hD⟩, hz, hk⟩, stp⟩ := hrun T hT hX
  cases hv
  rw [h0] at hz hk
  have hS : va_S A s.heap T'.heap (locs ++ L) := by
    refine ⟨Nat.le_trans hW.2.2.1 (by rw [q1]; exact hz), fun q h1 h2 => ?_, fun q hq => ?_⟩
    · rw [q1, hk q (Nat.lt_of_lt_of_le h1 hW.2.2.1) h2]
      exact hW.2.2.2.1 q h1 h2
    · rcases List.mem_append.mp hq with h | h
      · exact hW.2.2.2.2 q h
      · exact hLf q h
  have k := kk w S' hq p l e R s m args below meth c T'.heap (locs ++ L) (cells + 1) (slots + 5) Γ A ls ⟨c1, c2, c3, c4, ⟨c5, ⟨c5s.1, (fun h => by cases h), fun h => by cases h⟩, fun h => by cases h⟩, c6, c7, c8, c9, by show 0 + (cells + 1) ≤ _; omega, by show 0 + (slots + 5) ≤ _; omega, c12⟩ ⟨by rw [q1]; exact hP, hD, hS⟩ hL
  have e5 : mcOf (mk1 M) + (cells + 1) = 1 + cells := by show 0 + (cells + 1) = _; omega
  have e6 : msOf (mk1 M) + (slots + 5) = 5 + slots := by show 0 + (slots + 5) = _; omega
  rw [e5, e6] at k
  obtain ⟨t2, a1, b1⟩ := k T' rfl X'
  refine ⟨t2, stp t2 ?_, b1⟩
  have e8 : (w.map (cv Γ.2.1)).toList ++ rest.map (cv Γ.2.1) = (w.toList ++ rest).map (cv Γ.2.1) := by cases w <;> simp
  rw [e8]
  exact a1
end XSC
