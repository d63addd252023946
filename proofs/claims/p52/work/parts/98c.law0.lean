/-! ===== what the tables say at the law: classes, arrays, the table of sevens ===== -/
theorem law_uk {args : Array Value} {s : State} {ci N n : Nat} {C : String} {T : u_T} {ty : Nat → FieldType} (hts : ∀ w ∈ TB, w.before args s = true) (hF : CF ci C T N ty) (hi : Cond.instantiable C n ∈ TB) : ∃ x : ClassId × (Nat → Nat), u_Kn s C T N x.1 x.2 := by
  obtain ⟨c, iS, h⟩ := u_known (n := n) hts hF.2.1 (hts _ hi)
  exact ⟨(c, iS), h⟩
theorem law_cls {args : Array Value} {s : State} (hts : ∀ w ∈ TB, w.before args s = true) : ∃ D : va_G, ∀ (c : Nat) (q : vw_C), vwCl[c]? = some q → u_Kn s q.1 q.2.1 q.2.2 (D.1 c) (D.2 c) := by
  have h : ∀ q ∈ vwCl, ∃ x : ClassId × (Nat → Nat), u_Kn s q.1 q.2.1 q.2.2 x.1 x.2 := List.forall_mem_cons.mpr ⟨law_uk hts cfX0 (inr_2 _ (List.mem_of_getElem? (i := 23) rfl)), List.forall_mem_cons.mpr ⟨law_uk hts cfX1 (inr_2 _ (List.mem_of_getElem? (i := 0) rfl)), List.forall_mem_cons.mpr ⟨law_uk hts cfX2 (inr_2 _ (List.mem_of_getElem? (i := 9) rfl)), List.forall_mem_cons.mpr ⟨law_uk hts cfX3 (inr_2 _ (List.mem_of_getElem? (i := 4) rfl)), List.forall_mem_cons.mpr ⟨law_uk hts cfX4 (inr_1 _ (List.mem_of_getElem? (i := 20) rfl)), List.forall_mem_cons.mpr ⟨law_uk hts cfX5 (inr_1 _ (List.mem_of_getElem? (i := 15) rfl)), List.forall_mem_cons.mpr ⟨law_uk hts cfX6 (inr_2 _ (List.mem_of_getElem? (i := 19) rfl)), List.forall_mem_cons.mpr ⟨law_uk hts cfX7 (inr_2 _ (List.mem_of_getElem? (i := 16) rfl)), List.forall_mem_cons.mpr ⟨law_uk hts cfX8 (inr_3 _ (List.mem_of_getElem? (i := 3) rfl)), List.forall_mem_cons.mpr ⟨law_uk hts cfX9 (inr_1 _ (List.mem_of_getElem? (i := 11) rfl)), List.forall_mem_cons.mpr ⟨law_uk hts cfX10 (inr_1 _ (List.mem_of_getElem? (i := 1) rfl)), fun _ h => absurd h List.not_mem_nil⟩⟩⟩⟩⟩⟩⟩⟩⟩⟩⟩
  have h2 : ∀ c : Nat, ∃ x : ClassId × (Nat → Nat), ∀ q : vw_C, vwCl[c]? = some q → u_Kn s q.1 q.2.1 q.2.2 x.1 x.2 := by
    intro c
    cases hc : vwCl[c]? with
    | none => exact ⟨Classical.choose (h _ List.mem_cons_self), fun q hq => by cases hq⟩
    | some q =>
      obtain ⟨x, hx⟩ := h q (List.mem_of_getElem? hc)
      exact ⟨x, fun q' hq => by cases hq; exact hx⟩
  exact ⟨(fun c => (Classical.choose (h2 c)).1, fun c => (Classical.choose (h2 c)).2), fun c q hq => Classical.choose_spec (h2 c) q hq⟩
theorem law_arr1 {args : Array Value} {s : State} {ty : FieldType} (h : (Cond.arrayClass ty).before args s = true) : ∃ c : ClassId, ArrOfT s c ty ∧ s.vm.findClass ("[" ++ ty.toString) = some c := by
  obtain ⟨c, k, comp, h1, h2, h3⟩ := Cond.arrayClass_spec h
  exact ⟨c, fun n z => ⟨fun k h => (by cases h), k, h2, comp, h3⟩, h1⟩
theorem law_arr {args : Array Value} {s : State} (hts : ∀ w ∈ TB, w.before args s = true) : ∃ CA : Nat → ClassId, ∀ (k : Nat) (q : ClassId × FieldType), (tyC CA)[k]? = some q → ArrOfT s q.1 q.2 ∧ va_RA s q.1 q.2 := by
  obtain ⟨cI, i1, i2⟩ := law_arr1 (ty := .int) (hts _ (inr_1 _ (List.mem_of_getElem? (i := 3) rfl)))
  refine ⟨fun _ => cI, fun k q hq => ?_⟩
  match k, hq with
  | 0, hq => cases hq; exact ⟨i1, i2⟩
  | k + 1, hq => simp [tyC] at hq
theorem law_sev {args : Array Value} {s : State} {A : Nat → Prop} (h : (Jvm.Cond.and given_1 narrow_1).before args s = true) (hA : ∀ a : Nat, a < s.heap.size → ¬ A a) : ∃ z : Nat, (Term.static "ThreeThings" "SEVENS" "[I").eval args s none [] s = some (.ref z) ∧ va_T .int z 5 (fun j => .int (sev j)) A s s.heap := by
  have hs := flat_of_before _ h
  have h1 : (Cond.arrayOf (.static "ThreeThings" "SEVENS" "[I") .int).before args s = true := hs _ (by decide +kernel)
  have h2 : (Cond.eq (.length (.static "ThreeThings" "SEVENS" "[I")) (.int 5)).before args s = true := hs _ (by decide +kernel)
  have e0 : (Cond.eq (.elem (.static "ThreeThings" "SEVENS" "[I") (.int 0)) (.int 1)).before args s = true := hs _ (by decide +kernel)
  have e1 : (Cond.eq (.elem (.static "ThreeThings" "SEVENS" "[I") (.int 1)) (.int 7)).before args s = true := hs _ (by decide +kernel)
  have e2 : (Cond.eq (.elem (.static "ThreeThings" "SEVENS" "[I") (.int 2)) (.int 49)).before args s = true := hs _ (by decide +kernel)
  have e3 : (Cond.eq (.elem (.static "ThreeThings" "SEVENS" "[I") (.int 3)) (.int 343)).before args s = true := hs _ (by decide +kernel)
  have e4 : (Cond.eq (.elem (.static "ThreeThings" "SEVENS" "[I") (.int 4)) (.int 2401)).before args s = true := hs _ (by decide +kernel)
  refine va_Tof (by decide) h1 (va_eqt h2) (fun j hj => ?_) hA
  match j, hj with
  | 0, _ => exact va_eqt e0
  | 1, _ => exact va_eqt e1
  | 2, _ => exact va_eqt e2
  | 3, _ => exact va_eqt e3
  | 4, _ => exact va_eqt e4
  | j + 5, hj => exact absurd hj (by omega)
set_option maxRecDepth 100000 in
set_option maxHeartbeats 4000000 in
theorem law_init {p : Program} {l : Launch} {e : Env} {s : State} {m : MethodId} {below : List Frame} {meth : Method} {c : Code} {b : Nat} {D : va_G} {CA : Nat → ClassId} {A : Nat → Prop} {Z : State → Prop} (hC : YC RL code 14 10 388 600000 7302250 p room_1 s m #[Value.ref b] c D CA A)
    (hend : ∀ h q1 q2 q3 q4 q5 q6 q7 q8 q9 q10 q11 q12 q13 q14 q15 q16 q17 q18 q19 q20 q21 q22 q23 q24 q25 q26 q27 q28 q29 q30 q31 q32 q33 q34 q35 q36 q37 q38 q39 q40 q41 q42 q43 q44 q45 q46 q47 q48 q49 q50 q51 q52 q53 q54 q55 q56 q57 q58 q59 q60 q61 q62 q63 q64 q65 q66 q67 q68 q69 q70 q71 q72 q73 q74 q75 q76 q77 q78 q79 q80 q81 q82 g : Nat, YX p l e room_1 s m #[Value.ref b] below meth c D A 14 Z 84 166797 13 [(2, .ref g), (1, .ref h), (0, .ref b)] [] (wX10 CA h q1 q2 q3 q4 q5 q6 q7 q8 q9 q10 q11 q12 q13 q14 q15 q16 q17 q18 q19 q20 q21 q22 q23 q24 q25 q26 q27 q28 q29 q30 q31 q32 q33 q34 q35 q36 q37 q38 q39 q40 q41 q42 q43 q44 q45 q46 q47 q48 q49 q50 q51 q52 q53 q54 q55 q56 q57 q58 q59 q60 q61 q62 q63 q64 q65 q66 q67 q68 q69 q70 q71 q72 q73 q74 q75 q76 q77 q78 q79 q80 q81 q82 ++ [(g, .inl (CA 0, 64, .inl (fun _ => 0)))])) : YX p l e room_1 s m #[Value.ref b] below meth c D A 14 Z 0 0 0 (lv_args 0 [.ref b]) [] [] := by
  refine cz_new (k' := 1) (n' := 14) (fs := blX10) hC cfX10 dL_law_0 (inr_1 _ (List.mem_of_getElem? (i := 0) rfl)) (inr_1 _ (List.mem_of_getElem? (i := 1) rfl)) (inr_1 _ (List.mem_of_getElem? (i := 2) rfl)) blX10_ok (Nat.le_of_ble_eq_true rfl) (Nat.le_of_ble_eq_true rfl) (Nat.le_of_ble_eq_true rfl) (Nat.le_of_ble_eq_true rfl) (fun h => ?_)
  refine cz_dup hC dL_law_3 ?_
  refine cz_callI (nA := 0) (k' := 83) (n' := 166733) (X := []) (wc := [(h, .inr (10, blX10))]) (As := []) (rest := [.ref h]) hC ⟨(inr_1 _ (List.mem_of_getElem? (i := 4) rfl)), (inr_1 _ (List.mem_of_getElem? (i := 5) rfl)), (inr_1 _ (List.mem_of_getElem? (i := 2) rfl)), (inr_1 _ (List.mem_of_getElem? (i := 6) rfl)), rfl, by decide +kernel⟩ (kiX10 D CA h) dL_law_4 rfl rfl (Nat.le_of_ble_eq_true rfl) (by decide) (by decide) rfl rfl (Nat.le_of_ble_eq_true rfl) (Nat.le_of_ble_eq_true rfl) (fun w1 hw => ?_)
  obtain ⟨q1, q2, q3, q4, q5, q6, q7, q8, q9, q10, q11, q12, q13, q14, q15, q16, q17, q18, q19, q20, q21, q22, q23, q24, q25, q26, q27, q28, q29, q30, q31, q32, q33, q34, q35, q36, q37, q38, q39, q40, q41, q42, q43, q44, q45, q46, q47, q48, q49, q50, q51, q52, q53, q54, q55, q56, q57, q58, q59, q60, q61, q62, q63, q64, q65, q66, q67, q68, q69, q70, q71, q72, q73, q74, q75, q76, q77, q78, q79, q80, q81, q82, rfl⟩ := hw
  refine cz_astore_n (lv' := [(1, .ref h), (0, .ref b)]) hC dL_law_7 rfl (by decide) rfl ?_
  refine cz_at (pc' := 8) (ws' := wX10 CA h q1 q2 q3 q4 q5 q6 q7 q8 q9 q10 q11 q12 q13 q14 q15 q16 q17 q18 q19 q20 q21 q22 q23 q24 q25 q26 q27 q28 q29 q30 q31 q32 q33 q34 q35 q36 q37 q38 q39 q40 q41 q42 q43 q44 q45 q46 q47 q48 q49 q50 q51 q52 q53 q54 q55 q56 q57 q58 q59 q60 q61 q62 q63 q64 q65 q66 q67 q68 q69 q70 q71 q72 q73 q74 q75 q76 q77 q78 q79 q80 q81 q82) rfl rfl ?_
  refine cz_bipush (v := 64) hC dL_law_8 (by decide +kernel) ?_
  refine cz_newa (N := 64) (k' := 84) (n' := 166797) hC 0 dL_law_10 rfl (inr_1 _ (List.mem_of_getElem? (i := 3) rfl)) rfl RA_int (by decide +kernel) (by decide +kernel) (by decide +kernel) rfl (Nat.le_of_ble_eq_true rfl) (Nat.le_of_ble_eq_true rfl) (Nat.le_of_ble_eq_true rfl) (Nat.le_of_ble_eq_true rfl) (fun g => ?_)
  refine cz_astore_n (lv' := [(2, .ref g), (1, .ref h), (0, .ref b)]) hC dL_law_12 rfl (by decide) rfl ?_
  exact cz_at (pc' := 13) rfl rfl (hend h q1 q2 q3 q4 q5 q6 q7 q8 q9 q10 q11 q12 q13 q14 q15 q16 q17 q18 q19 q20 q21 q22 q23 q24 q25 q26 q27 q28 q29 q30 q31 q32 q33 q34 q35 q36 q37 q38 q39 q40 q41 q42 q43 q44 q45 q46 q47 q48 q49 q50 q51 q52 q53 q54 q55 q56 q57 q58 q59 q60 q61 q62 q63 q64 q65 q66 q67 q68 q69 q70 q71 q72 q73 q74 q75 q76 q77 q78 q79 q80 q81 q82 g)
