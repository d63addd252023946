/-! ===== days, the reference: the works, the most ===== -/
/-- what the first k works bring at an hour where things lie as c says -/
noncomputable def pgU (I : Isl) (h c k : Nat) : Nat := sm (fun v => i2 (iV I v 0 = h ∧ canF I (digF c) v) (iV I v 3) 0) k
theorem pg_t {I : Isl} {h c k : Nat} (e : iV I k 0 = h) (hc : canF I (digF c) k) : pgU I h c (k + 1) = pgU I h c k + iV I k 3 := by
  unfold pgU
  rw [sm_s, e2_0 ⟨e, hc⟩]
theorem pg_f {I : Isl} {h c k : Nat} (hn : ¬ (iV I k 0 = h ∧ canF I (digF c) k)) : pgU I h c (k + 1) = pgU I h c k + 0 := by
  unfold pgU
  rw [sm_s, e2_1 hn]
theorem pg_all {I : Isl} {h c : Nat} : pgU I h c (iW I) = wthF I (dbF I (digF c) (iW I) &&& hmF I h) := by
  unfold pgU wthF
  refine sm_congr fun v hv => ?_
  have hb : (dbF I (digF c) (iW I) &&& hmF I h).testBit v = true ↔ (iV I v 0 = h ∧ canF I (digF c) v) := by
    rw [Nat.testBit_and, Bool.and_eq_true, dbF_bit]
    unfold hmF
    rw [mk_bit]
    simp only [hv, decide_true, Bool.true_and, beq_iff_eq, true_and]
    exact ⟨fun h => ⟨h.2, h.1⟩, fun h => ⟨h.2, h.1⟩⟩
  by_cases q : iV I v 0 = h ∧ canF I (digF c) v
  · rw [e2_0 q, has_iff.mpr (hb.mpr q), Nat.one_mul]
  · rw [e2_1 q]
    have h2 : ¬ (dbF I (digF c) (iW I) &&& hmF I h) / 2 ^ v % 2 = 1 := fun z => q (hb.mp (has_iff.mp z))
    have h3 : (dbF I (digF c) (iW I) &&& hmF I h) / 2 ^ v % 2 = 0 := by omega
    rw [h3, Nat.zero_mul]
theorem UC_gn {I : Isl} {L c0 : Nat} (hO : IOK I) (h0 : OKc I L c0) {u : Nat → Nat} {h c : Nat} (hU : ¬ UC (fR I L c0) u c = 0) : UC (fR I L c0) (gnU I (fR I L c0) h u) c = UC (fR I L c0) u c + pgU I h c (iW I) := by
  obtain ⟨j, hj, rfl⟩ := UC_ne hU
  rw [UC_in hO h0 hj] at hU ⊢
  rw [UC_in hO h0 hj, gn_p hU, pg_all]
  rfl
theorem UC_gn0 {I : Isl} {L c0 : Nat} (hO : IOK I) (h0 : OKc I L c0) {u : Nat → Nat} {h c : Nat} (hU : UC (fR I L c0) u c = 0) : UC (fR I L c0) (gnU I (fR I L c0) h u) c = 0 := by
  by_cases hin : rIn (fR I L c0) c
  · obtain ⟨j, hj, rfl⟩ := hin
    rw [UC_in hO h0 hj] at hU ⊢
    exact gn_0.mpr hU
  · exact UC_no hin
theorem pg_le {I : Isl} (hO : IOK I) {h c : Nat} : ∀ k, k ≤ iW I → pgU I h c k ≤ 9 * k
  | 0, _ => Nat.le_refl _
  | k + 1, hk => by
    have ih := pg_le (h := h) (c := c) hO k (by omega)
    have hv := (hO.v k (by omega)).2.2.2
    unfold pgU at ih ⊢
    rw [sm_s]
    by_cases q : iV I k 0 = h ∧ canF I (digF c) k
    · rw [e2_0 q]; omega
    · rw [e2_1 q]; omega

set_option maxHeartbeats 4000000 in
set_option maxRecDepth 100000 in
theorem lp_wa2 {S : St} {I : Isl} (hI : IsM I S) (hO : IOK I) {L c0 : Nat} (h0 : OKc I L c0) {u : Nat → Nat} (hu : ∀ i, u i ≤ 500) (hb : ∀ c, c < 7 ^ iM I → S.1 105 c = vI (UC (fR I L c0) u c)) {h : Nat} (hh : h < 6) {s : Nat} (hs : s < 7 ^ iM I) (hU : ¬ (UC (fR I L c0) u) s = 0) {Q : Option Value → St → Prop} (kk : ∀ S2, Fr FYr S S2 → (∀ c, c < 7 ^ iM I → S2.1 105 c = vI (if c < (s + 1) then (UC (fR I L c0) (gnU I (fR I L c0) h u)) c else (UC (fR I L c0) u) c)) → X 2 60 mX11_worksAt Q 2 [(2, .int (nI (s + 1))), (0, .ref 83), (1, .int (nI h))] [] S2)  : ∀ (i : Nat) (S1 : St), (i ≤ iW I) → (Fr FYr S S1 ∧ MW I (digF s) S1 ∧ (∀ c, c < 7 ^ iM I → ¬ c = s → S1.1 105 c = vI (if c < s then (UC (fR I L c0) (gnU I (fR I L c0) h u)) c else (UC (fR I L c0) u) c)) ∧ S1.1 105 s = vI ((UC (fR I L c0) u) s + pgU I h s i)) → X 2 60 mX11_worksAt (Q) 26 [(3, .int (nI i)), (2, .int (nI s)), (0, .ref 83), (1, .int (nI h))] [] S1 := by
  intro i S1
  induction hm : iW I - i using Nat.strongRecOn generalizing i S1 with
  | _ mm ih =>
    intro hi hE
    have hO1 := hO.1
    have hO2 := hO.2.1
    have hO3 := hO.2.2.1
    have hO4 := hO.2.2.2.1
    have h7 := p7le hO
    have hv := fR_inv hO h0
    have hUl := fun c => UC_le (R := (fR I L c0)) hu c
    obtain ⟨x1, x3, x4, x5⟩ := id hE
    have hI1 := hI.fdr x1
    have hok : OKc I L s := by
      obtain ⟨j, hj, rfl⟩ := UC_ne hU
      exact hv.2.2.1 j hj
    have hwk := hok.2.ok hO
    have hpl := pg_le (h := h) (c := s) hO i (by omega)
    have hVi := hO.v i
    refine x_iload_n 0 dX11_worksAt_26 rfl rfl ?_
    refine x_aload_n 2 dX11_worksAt_27 rfl rfl ?_
    refine y_getI fX11_184 dX11_worksAt_28 l83 rfl hI1.2.2.2.1 ?_
    refine y_ic_ge 83 dX11_worksAt_31 (by decide) (by omega) (by omega) (fun c_31 => ?_) (fun c_31 => ?_)
    · refine y_iinc (lv' := [(2, _), (3, _), (0, _), (1, _)]) 1 dX11_worksAt_83 rfl (by decide) rfl ?_
      refine x_goto 2 dX11_worksAt_86 (by decide) ?_
      refine x_pick (lv' := [(2, _), (0, _), (1, _)]) [0, 2, 3] rfl ?_
      obtain rfl : i = iW I := (by omega)
      refine kk S1 x1 (fun c hc => ?_)
      by_cases q : c = s
      · rw [q, x5, if_pos (Nat.lt_succ_self s), UC_gn hO h0 hU]
      · rw [x4 c hc q]
        by_cases k : c < s
        · rw [if_pos k, if_pos (by omega)]
        · rw [if_neg k, if_neg (by omega)]
    · refine x_aload_n 2 dX11_worksAt_34 rfl rfl ?_
      refine x_getR fX11_75 dX11_worksAt_35 l83 rfl ?_
      refine x_iload_n 1 dX11_worksAt_38 rfl rfl ?_
      refine x_dup2 dX11_worksAt_39 rfl rfl ?_
      refine y_iald dX11_worksAt_40 l105 (by omega) (by decide) x5 ?_
      refine x_aload_n 2 dX11_worksAt_41 rfl rfl ?_
      refine x_getR fX11_35 dX11_worksAt_42 l83 rfl ?_
      refine x_iconst (v := nI 4) dX11_worksAt_45 (by decide) ?_
      refine x_iload_n 0 dX11_worksAt_46 rfl rfl ?_
      refine y_imul dX11_worksAt_47 ?_
      refine y_iald dX11_worksAt_48 l92 (by omega) (by decide) (hI1.2.2.2.2.2.2 i (by omega) 0 (by decide)) ?_
      refine x_iload_n 3 dX11_worksAt_49 rfl rfl ?_
      refine y_ic_ne 74 dX11_worksAt_50 (by decide) (by have := hVi (by omega); omega) (by omega) (fun c_50 => ?_) (fun c_50 => ?_)
      · have epg := pg_f (I := I) (h := h) (c := s) (k := i) (by first | exact fun z => c_50 z.1 | exact fun z => c_55 z.2)
        refine x_iconst (v := nI 0) dX11_worksAt_74 (by decide) ?_
        refine x_iadd dX11_worksAt_75 ?_
        rw [vI_add, Nat.add_assoc (UC (fR I L c0) u s), ← epg]
        refine y_iast dX11_worksAt_76 l105 (by omega) (by decide) ?_
        refine y_iinc (lv' := [(3, _), (2, _), (0, _), (1, _)]) 0 dX11_worksAt_77 rfl (by decide) rfl ?_
        refine x_goto 26 dX11_worksAt_80 (by decide) ?_
        refine x_pick (lv' := [(3, _), (2, _), (0, _), (1, _)]) [0, 1, 2, 3] rfl ?_
        refine ih (iW I - (i + 1)) (by omega) (i + 1) _ rfl (by omega) ⟨FrYset x1 (Or.inr (Or.inl rfl)), fun t ht => (rdI_k (by decide)).trans (x3 t ht), fun c hc hne => (rdI_j hne).trans (x4 c hc hne), rdI_eq⟩
      · refine x_aload_n 2 dX11_worksAt_53 rfl rfl ?_
        refine x_iload_n 0 dX11_worksAt_54 rfl rfl ?_
        refine x_callVb (as := [_]) (rest := [_, _, _]) vX11_262 (c_X11_canWork hI1 hO x3 hwk (v := i) (by omega)) dX11_worksAt_55 l83 rfl rfl rfl (Nat.le_of_ble_eq_true rfl) (Nat.le_of_ble_eq_true rfl) (Nat.le_of_ble_eq_true rfl) (fun c_55 => ?_) (fun c_55 => ?_)
        · refine u_if_eq 74 dX11_worksAt_58 (by decide) (by decide) ?_
          refine x_aload_n 2 dX11_worksAt_61 rfl rfl ?_
          refine x_getR fX11_35 dX11_worksAt_62 l83 rfl ?_
          refine x_iconst (v := nI 4) dX11_worksAt_65 (by decide) ?_
          refine x_iload_n 0 dX11_worksAt_66 rfl rfl ?_
          refine y_imul dX11_worksAt_67 ?_
          refine x_iconst (v := nI 3) dX11_worksAt_68 (by decide) ?_
          refine y_iadd dX11_worksAt_69 ?_
          refine y_iald dX11_worksAt_70 l92 (by omega) (by decide) (hI1.2.2.2.2.2.2 i (by omega) 3 (by decide)) ?_
          have epg := pg_t c_50 c_55
          refine x_goto 75 dX11_worksAt_71 (by decide) ?_
          refine x_iadd dX11_worksAt_75 ?_
          rw [vI_add, Nat.add_assoc (UC (fR I L c0) u s), ← epg]
          refine y_iast dX11_worksAt_76 l105 (by omega) (by decide) ?_
          refine y_iinc (lv' := [(3, _), (2, _), (0, _), (1, _)]) 0 dX11_worksAt_77 rfl (by decide) rfl ?_
          refine x_goto 26 dX11_worksAt_80 (by decide) ?_
          refine x_pick (lv' := [(3, _), (2, _), (0, _), (1, _)]) [0, 1, 2, 3] rfl ?_
          refine ih (iW I - (i + 1)) (by omega) (i + 1) _ rfl (by omega) ⟨FrYset x1 (Or.inr (Or.inl rfl)), fun t ht => (rdI_k (by decide)).trans (x3 t ht), fun c hc hne => (rdI_j hne).trans (x4 c hc hne), rdI_eq⟩
        · refine t_if_eq 74 dX11_worksAt_58 (by decide) (by decide) ?_
          have epg := pg_f (I := I) (h := h) (c := s) (k := i) (by first | exact fun z => c_50 z.1 | exact fun z => c_55 z.2)
          refine x_iconst (v := nI 0) dX11_worksAt_74 (by decide) ?_
          refine x_iadd dX11_worksAt_75 ?_
          rw [vI_add, Nat.add_assoc (UC (fR I L c0) u s), ← epg]
          refine y_iast dX11_worksAt_76 l105 (by omega) (by decide) ?_
          refine y_iinc (lv' := [(3, _), (2, _), (0, _), (1, _)]) 0 dX11_worksAt_77 rfl (by decide) rfl ?_
          refine x_goto 26 dX11_worksAt_80 (by decide) ?_
          refine x_pick (lv' := [(3, _), (2, _), (0, _), (1, _)]) [0, 1, 2, 3] rfl ?_
          refine ih (iW I - (i + 1)) (by omega) (i + 1) _ rfl (by omega) ⟨FrYset x1 (Or.inr (Or.inl rfl)), fun t ht => (rdI_k (by decide)).trans (x3 t ht), fun c hc hne => (rdI_j hne).trans (x4 c hc hne), rdI_eq⟩

set_option maxHeartbeats 4000000 in
set_option maxRecDepth 100000 in
theorem lp_wa1 {S : St} {I : Isl} (hI : IsM I S) (hO : IOK I) {L c0 : Nat} (h0 : OKc I L c0) {u : Nat → Nat} (hu : ∀ i, u i ≤ 500) (hb : ∀ c, c < 7 ^ iM I → S.1 105 c = vI (UC (fR I L c0) u c)) {h : Nat} (hh : h < 6)  : ∀ (s : Nat) (S1 : St), (s ≤ 7 ^ iM I) → (Fr FYr S S1 ∧ (∀ c, c < 7 ^ iM I → S1.1 105 c = vI (if c < s then (UC (fR I L c0) (gnU I (fR I L c0) h u)) c else (UC (fR I L c0) u) c))) → X 2 60 mX11_worksAt (qv (fun S' => Fr FYr S S' ∧ ∀ c, c < 7 ^ iM I → S'.1 105 c = vI ((UC (fR I L c0) (gnU I (fR I L c0) h u)) c))) 2 [(2, .int (nI s)), (0, .ref 83), (1, .int (nI h))] [] S1 := by
  intro s S1
  induction hm : 16808 - s using Nat.strongRecOn generalizing s S1 with
  | _ mm ih =>
    intro hs hE
    have hO1 := hO.1
    have hO2 := hO.2.1
    have hO3 := hO.2.2.1
    have hO4 := hO.2.2.2.1
    have h7 := p7le hO
    have hv := fR_inv hO h0
    have hUl := fun c => UC_le (R := (fR I L c0)) hu c
    obtain ⟨x1, x2⟩ := id hE
    have hI1 := hI.fdr x1
    have hul := hUl s
    have hvn := vI_neg (a := (UC (fR I L c0) u) s) (by omega)
    have h5s : s < 7 ^ iM I → S1.1 105 s = vI ((UC (fR I L c0) u) s) := fun q => by rw [x2 s q, if_neg (Nat.lt_irrefl s)]
    refine x_iload_n 0 dX11_worksAt_2 rfl rfl ?_
    refine x_aload_n 1 dX11_worksAt_3 rfl rfl ?_
    refine x_callVu (as := []) (rest := [_]) vX11_265 (c_X11_stateMany hI1 hO) dX11_worksAt_4 l83 rfl rfl rfl (Nat.le_of_ble_eq_true rfl) (Nat.le_of_ble_eq_true rfl) (Nat.le_of_ble_eq_true rfl) ?_
    refine y_ic_ge 89 dX11_worksAt_7 (by decide) (by omega) (by omega) (fun c_7 => ?_) (fun c_7 => ?_)
    · refine x_vret rfl dX11_worksAt_89 (by obtain rfl : s = 7 ^ iM I := (by omega); exact ⟨rfl, x1, fun c hc => by rw [x2 c hc, if_pos hc]⟩)
    · refine x_aload_n 1 dX11_worksAt_10 rfl rfl ?_
      refine x_getR fX11_75 dX11_worksAt_11 l83 rfl ?_
      refine x_iload_n 0 dX11_worksAt_14 rfl rfl ?_
      refine y_iald dX11_worksAt_15 l105 (by omega) (by decide) (h5s (by omega)) ?_
      refine x_if_lt 83 dX11_worksAt_16 (by decide) (fun c_16 => ?_) (fun c_16 => ?_)
      · refine y_iinc (lv' := [(2, _), (0, _), (1, _)]) 0 dX11_worksAt_83 rfl (by decide) rfl ?_
        refine x_goto 2 dX11_worksAt_86 (by decide) ?_
        refine x_pick (lv' := [(2, _), (0, _), (1, _)]) [0, 1, 2] rfl ?_
        have hz : (UC (fR I L c0) u) s = 0 := hvn.mp c_16
        refine ih (16808 - (s + 1)) (by omega) (s + 1) S1 rfl (by omega) ⟨x1, fun c hc => ?_⟩
        by_cases q : c = s
        · rw [q, h5s (by omega), if_pos (Nat.lt_succ_self s), hz, UC_gn0 hO h0 hz]
        · rw [x2 c hc]
          by_cases k : c < s
          · rw [if_pos k, if_pos (by omega)]
          · rw [if_neg k, if_neg (by omega)]
      · refine x_aload_n 1 dX11_worksAt_19 rfl rfl ?_
        refine x_iload_n 0 dX11_worksAt_20 rfl rfl ?_
        refine x_callVv (as := [_]) (rest := []) vX11_255 (c_X11_look hI1 hO (c := s) (by omega)) dX11_worksAt_21 l83 rfl rfl rfl (Nat.le_of_ble_eq_true rfl) (Nat.le_of_ble_eq_true rfl) (Nat.le_of_ble_eq_true rfl) ?_
        refine x_iconst (v := nI 0) dX11_worksAt_24 (by decide) ?_
        refine x_istore_n (lv' := [(3, _), (2, _), (0, _), (1, _)]) dX11_worksAt_25 rfl (by decide) rfl ?_
        refine x_pick (lv' := [(3, _), (2, _), (0, _), (1, _)]) [0, 1, 2, 3] rfl ?_
        have hU : ¬ (UC (fR I L c0) u) s = 0 := fun q => absurd (hvn.mpr q) (by omega)
        exact lp_wa2 hI hO h0 hu hb hh (by omega) hU (fun S2 f2 k2 => ih (16808 - (s + 1)) (by omega) (s + 1) S2 rfl (by omega) ⟨f2, k2⟩) 0 (loS S1 s (iM I)) (Nat.zero_le _) ⟨x1.trans (frY (loS_f _ _ _)), loS_W S1 s, fun c hc hne => (loS_k (by decide)).trans (x2 c hc), (loS_k (by decide)).trans (h5s (by omega))⟩

set_option maxHeartbeats 4000000 in
set_option maxRecDepth 100000 in
theorem c_X11_worksAt {S : St} {I : Isl} (hI : IsM I S) (hO : IOK I) {L c0 : Nat} (h0 : OKc I L c0) {u : Nat → Nat} (hu : ∀ i, u i ≤ 500) (hb : ∀ c, c < 7 ^ iM I → S.1 105 c = vI (UC (fR I L c0) u c)) {h : Nat} (hh : h < 6) : C 2 60 yX11_worksAt mX11_worksAt [.ref 83, .int (nI h)] S (qv (fun S' => Fr FYr S S' ∧ ∀ c, c < 7 ^ iM I → S'.1 105 c = vI ((UC (fR I L c0) (gnU I (fR I L c0) h u)) c))) := by
  refine C.ofX (by decide) rfl (Nat.le_of_ble_eq_true rfl) ?_
  show X 2 60 mX11_worksAt (qv (fun S' => Fr FYr S S' ∧ ∀ c, c < 7 ^ iM I → S'.1 105 c = vI ((UC (fR I L c0) (gnU I (fR I L c0) h u)) c))) 0 [(0, .ref 83), (1, .int (nI h))] [] S
  refine x_iconst (v := nI 0) dX11_worksAt_0 (by decide) ?_
  refine x_istore_n (lv' := [(2, _), (0, _), (1, _)]) dX11_worksAt_1 rfl (by decide) rfl ?_
  refine x_pick (lv' := [(2, _), (0, _), (1, _)]) [0, 1, 2] rfl ?_
  exact lp_wa1 hI hO h0 hu hb hh 0 S (Nat.zero_le _) ⟨Fr.refl, fun c hc => by rw [hb c hc, if_neg (Nat.not_lt_zero c)]⟩

theorem UC_mx {I : Isl} {L c0 : Nat} (hO : IOK I) (h0 : OKc I L c0) {u : Nat → Nat} : max 1 (mx (UC (fR I L c0) u) (7 ^ iM I)) = max 1 (mx u (rC (fR I L c0))) := by
  have e : mx (UC (fR I L c0) u) (7 ^ iM I) = mx u (rC (fR I L c0)) := by
    apply Nat.le_antisymm
    · refine mx_iff.mpr fun c hc => ?_
      by_cases q : UC (fR I L c0) u c = 0
      · rw [q]; exact Nat.zero_le _
      · obtain ⟨j, hj, rfl⟩ := UC_ne q
        rw [UC_in hO h0 hj]
        exact mx_iff.mp (Nat.le_refl _) j hj
    · refine mx_iff.mpr fun j hj => ?_
      have h := mx_iff.mp (Nat.le_refl (mx (UC (fR I L c0) u) (7 ^ iM I))) _ ((fR_inv hO h0).2.2.1 j hj).1
      rw [UC_in hO h0 hj] at h
      exact h
  rw [e]
theorem UC_0 {I : Isl} {L c0 : Nat} (hO : IOK I) (h0 : OKc I L c0) (c : Nat) : UC (fR I L c0) (fun x => if x = 0 then 1 else 0) c = if c = c0 then 1 else 0 := by
  have hv := fR_inv hO h0
  by_cases hin : rIn (fR I L c0) c
  · obtain ⟨j, hj, rfl⟩ := hin
    rw [UC_in hO h0 hj]
    by_cases q : j = 0
    · rw [if_pos q, q, if_pos hv.1.2.1]
    · rw [if_neg q, if_neg (fun e => q (hv.2.1 j 0 hj hv.1.1 (e.trans hv.1.2.1.symm)))]
  · rw [UC_no hin, if_neg (fun e => hin ⟨0, hv.1.1, hv.1.2.1.trans e.symm⟩)]
theorem vI_mx {a b : Nat} (ha : a ≤ 900) (hb : b ≤ 900) : (if (vI (max 1 a)).toInt > (vI b).toInt then vI (max 1 a) else vI b) = vI (max 1 (max a b)) := by
  rw [vI_gt (by omega) hb, Nat.max_assoc]

set_option maxHeartbeats 4000000 in
set_option maxRecDepth 100000 in
theorem lp_mb3 {S : St} {I : Isl} (hI : IsM I S) (hO : IOK I) {w : Nat → Nat} (hw0 : ∀ t, t < iM I → S.1 93 t = nI (w t)) {L : Nat} (hL : S.1 83 17 = nI L) (hL7 : L ≤ 6) (hv : VS I w L) {a : Nat} (ha : a ≤ 2) {S1 : St} (f1 : Fr FYr S S1) (hb : (∀ c, c < 7 ^ iM I → S1.1 105 c = vI (UC (fR I L (codeF I w)) (dyU I L (fR I L (codeF I w)) a 6) c)))  : ∀ (s : Nat), (s ≤ 7 ^ iM I) → X 5 150 mX11_mostBy (qi (fun r S' => r = vI (dyA I L (codeF I w) a) ∧ Fr FYr S S')) 77 [(3, .int (nI s)), (2, .int (vI (max 1 (mx (UC (fR I L (codeF I w)) (dyU I L (fR I L (codeF I w)) a 6)) s)))), (0, .ref 83), (1, .int (nI a))] [] S1 := by
  intro s
  induction hm : 16808 - s using Nat.strongRecOn generalizing s with
  | _ mm ih =>
    intro hs
    have hO1 := hO.1
    have hO2 := hO.2.1
    have hO3 := hO.2.2.1
    have hO4 := hO.2.2.2.1
    have hw := hv.ok hO
    have hw7 := hw.w7 hO
    have h7 := p7le hO
    have h0 := hv.okc hO
    have hI1 := hI.fdr f1
    have hd := fun i => dy_le (I := I) (L := L) (a := a) (R := (fR I L (codeF I w))) hO 6 i
    have hul := UC_le (R := (fR I L (codeF I w))) (B := 433) (fun i => Nat.le_trans (hd i) (by decide)) s
    have hml : mx (UC (fR I L (codeF I w)) (dyU I L (fR I L (codeF I w)) a 6)) s ≤ 433 := mx_le fun c _ => UC_le (R := (fR I L (codeF I w))) (B := 433) (fun i => Nat.le_trans (hd i) (by decide)) c
    refine x_iload_n 0 dX11_mostBy_77 rfl rfl ?_
    refine x_aload_n 2 dX11_mostBy_78 rfl rfl ?_
    refine x_callVu (as := []) (rest := [_]) vX11_265 (c_X11_stateMany hI1 hO) dX11_mostBy_79 l83 rfl rfl rfl (Nat.le_of_ble_eq_true rfl) (Nat.le_of_ble_eq_true rfl) (Nat.le_of_ble_eq_true rfl) ?_
    refine y_ic_ge 102 dX11_mostBy_82 (by decide) (by omega) (by omega) (fun c_82 => ?_) (fun c_82 => ?_)
    · refine x_iload_n 1 dX11_mostBy_102 rfl rfl ?_
      refine x_iret rfl dX11_mostBy_103 (by obtain rfl : s = 7 ^ iM I := (by omega); exact ⟨_, rfl, by rw [UC_mx hO h0]; rfl, f1⟩)
    · refine x_iload_n 1 dX11_mostBy_85 rfl rfl ?_
      refine x_aload_n 2 dX11_mostBy_86 rfl rfl ?_
      refine x_getR fX11_75 dX11_mostBy_87 l83 rfl ?_
      refine x_iload_n 0 dX11_mostBy_90 rfl rfl ?_
      refine y_iald dX11_mostBy_91 l105 (by omega) (by decide) (hb s (by omega)) ?_
      refine x_callSu (as := [_, _]) (rest := []) sX11_290 c_X11_greater dX11_mostBy_92 rfl rfl (Nat.le_of_ble_eq_true rfl) (Nat.le_of_ble_eq_true rfl) (Nat.le_of_ble_eq_true rfl) ?_
      rw [vI_mx (by omega) (by omega), ← mx_s]
      refine x_istore_n (lv' := [(2, _), (3, _), (0, _), (1, _)]) dX11_mostBy_95 rfl (by decide) rfl ?_
      refine y_iinc (lv' := [(3, _), (2, _), (0, _), (1, _)]) 1 dX11_mostBy_96 rfl (by decide) rfl ?_
      refine x_goto 77 dX11_mostBy_99 (by decide) ?_
      refine x_pick (lv' := [(3, _), (2, _), (0, _), (1, _)]) [0, 1, 2, 3] rfl ?_
      exact ih (16808 - (s + 1)) (by omega) (s + 1) rfl (by omega)

set_option maxHeartbeats 4000000 in
set_option maxRecDepth 100000 in
theorem lp_mb1 {S : St} {I : Isl} (hI : IsM I S) (hO : IOK I) {w : Nat → Nat} (hw0 : ∀ t, t < iM I → S.1 93 t = nI (w t)) {L : Nat} (hL : S.1 83 17 = nI L) (hL7 : L ≤ 6) (hv : VS I w L) {a : Nat} (ha : a ≤ 2) {h : Nat} (hh : h < 6) {Q : Option Value → St → Prop} (kk : ∀ S2, Fr FYr S S2 → (∀ c, c < 7 ^ iM I → S2.1 105 c = vI (UC (fR I L (codeF I w)) (dyU I L (fR I L (codeF I w)) a (h + 1)) c)) → X 5 150 mX11_mostBy Q 39 [(2, .int (nI (h + 1))), (0, .ref 83), (1, .int (nI a))] [] S2)  : ∀ (j : Nat) (S1 : St), (j ≤ a) → (Fr FYr S S1 ∧ (∀ c, c < 7 ^ iM I → S1.1 105 c = vI (UC (fR I L (codeF I w)) (itU I L (fR I L (codeF I w)) (dyU I L (fR I L (codeF I w)) a h) j) c))) → X 5 150 mX11_mostBy (Q) 47 [(3, .int (nI j)), (2, .int (nI h)), (0, .ref 83), (1, .int (nI a))] [] S1 := by
  intro j S1
  induction hm : a - j using Nat.strongRecOn generalizing j S1 with
  | _ mm ih =>
    intro hj hE
    have hO1 := hO.1
    have hO2 := hO.2.1
    have hO3 := hO.2.2.1
    have hO4 := hO.2.2.2.1
    have hw := hv.ok hO
    have hw7 := hw.w7 hO
    have h7 := p7le hO
    have h0 := hv.okc hO
    obtain ⟨x1, x2⟩ := id hE
    have hI1 := hI.fdr x1
    have hul : ∀ i, (itU I L (fR I L (codeF I w)) (dyU I L (fR I L (codeF I w)) a h) j) i ≤ 500 := it_le (fun i => by have := dy_le (I := I) (L := L) (a := a) (R := (fR I L (codeF I w))) hO h i; omega) j
    have hL1 : S1.1 83 17 = nI L := (x1.2 83 (by unfold FYr; decide) 17).trans hL
    refine x_iload_n 0 dX11_mostBy_47 rfl rfl ?_
    refine x_iload_n 3 dX11_mostBy_48 rfl rfl ?_
    refine y_ic_ge 62 dX11_mostBy_49 (by decide) (by omega) (by omega) (fun c_49 => ?_) (fun c_49 => ?_)
    · refine x_aload_n 2 dX11_mostBy_62 rfl rfl ?_
      refine x_iload_n 1 dX11_mostBy_63 rfl rfl ?_
      refine x_callVqv (as := [_]) (rest := []) vX11_296 (c_X11_worksAt hI1 hO h0 hul x2 hh) dX11_mostBy_64 l83 rfl rfl rfl (Nat.le_of_ble_eq_true rfl) (Nat.le_of_ble_eq_true rfl) (Nat.le_of_ble_eq_true rfl) (fun S_64 q_64 => ?_)
      refine y_iinc (lv' := [(2, _), (3, _), (0, _), (1, _)]) 1 dX11_mostBy_67 rfl (by decide) rfl ?_
      refine x_goto 39 dX11_mostBy_70 (by decide) ?_
      refine x_pick (lv' := [(2, _), (0, _), (1, _)]) [0, 2, 3] rfl ?_
      obtain rfl : j = a := (by omega)
      exact kk S_64 (x1.trans q_64.1) q_64.2
    · refine x_aload_n 2 dX11_mostBy_52 rfl rfl ?_
      refine x_callVqv (as := []) (rest := []) vX11_293 (c_X11_stepsOn hI1 hO hL1 hL7 h0 hul x2) dX11_mostBy_53 l83 rfl rfl rfl (Nat.le_of_ble_eq_true rfl) (Nat.le_of_ble_eq_true rfl) (Nat.le_of_ble_eq_true rfl) (fun S_53 q_53 => ?_)
      refine y_iinc (lv' := [(3, _), (2, _), (0, _), (1, _)]) 0 dX11_mostBy_56 rfl (by decide) rfl ?_
      refine x_goto 47 dX11_mostBy_59 (by decide) ?_
      refine x_pick (lv' := [(3, _), (2, _), (0, _), (1, _)]) [0, 1, 2, 3] rfl ?_
      exact ih (a - (j + 1)) (by omega) (j + 1) S_53 rfl (by omega) ⟨x1.trans q_53.1, q_53.2⟩

set_option maxHeartbeats 4000000 in
set_option maxRecDepth 100000 in
theorem lp_mb2 {S : St} {I : Isl} (hI : IsM I S) (hO : IOK I) {w : Nat → Nat} (hw0 : ∀ t, t < iM I → S.1 93 t = nI (w t)) {L : Nat} (hL : S.1 83 17 = nI L) (hL7 : L ≤ 6) (hv : VS I w L) {a : Nat} (ha : a ≤ 2)  : ∀ (h : Nat) (S1 : St), (h ≤ 6) → (Fr FYr S S1 ∧ (∀ c, c < 7 ^ iM I → S1.1 105 c = vI (UC (fR I L (codeF I w)) (dyU I L (fR I L (codeF I w)) a h) c))) → X 5 150 mX11_mostBy (qi (fun r S' => r = vI (dyA I L (codeF I w) a) ∧ Fr FYr S S')) 39 [(2, .int (nI h)), (0, .ref 83), (1, .int (nI a))] [] S1 := by
  intro h S1
  induction hm : 6 - h using Nat.strongRecOn generalizing h S1 with
  | _ mm ih =>
    intro hh hE
    have hO1 := hO.1
    have hO2 := hO.2.1
    have hO3 := hO.2.2.1
    have hO4 := hO.2.2.2.1
    have hw := hv.ok hO
    have hw7 := hw.w7 hO
    have h7 := p7le hO
    have h0 := hv.okc hO
    obtain ⟨x1, x2⟩ := id hE
    refine x_iload_n 0 dX11_mostBy_39 rfl rfl ?_
    refine x_bipush (v := nI 6) dX11_mostBy_40 (by decide) ?_
    refine y_ic_ge 73 dX11_mostBy_42 (by decide) (by omega) (by omega) (fun c_42 => ?_) (fun c_42 => ?_)
    · refine x_iconst (v := nI 0) dX11_mostBy_73 (by decide) ?_
      refine x_istore_n (lv' := [(2, _), (0, _), (1, _)]) dX11_mostBy_74 rfl (by decide) rfl ?_
      refine x_iconst (v := nI 0) dX11_mostBy_75 (by decide) ?_
      refine x_istore_n (lv' := [(3, _), (2, _), (0, _), (1, _)]) dX11_mostBy_76 rfl (by decide) rfl ?_
      refine x_pick (lv' := [(3, _), (2, _), (0, _), (1, _)]) [0, 1, 2, 3] rfl ?_
      obtain rfl : h = 6 := (by omega)
      have hh9 := lp_mb3 hI hO hw0 hL hL7 hv ha x1 x2 0 (Nat.zero_le _)
      have e9 : vI (max 1 (mx (UC (fR I L (codeF I w)) (dyU I L (fR I L (codeF I w)) a 6)) 0)) = nI 0 := vI_1
      rw [e9] at hh9
      exact hh9
    · refine x_iconst (v := nI 0) dX11_mostBy_45 (by decide) ?_
      refine x_istore_n (lv' := [(3, _), (2, _), (0, _), (1, _)]) dX11_mostBy_46 rfl (by decide) rfl ?_
      refine x_pick (lv' := [(3, _), (2, _), (0, _), (1, _)]) [0, 1, 2, 3] rfl ?_
      exact lp_mb1 hI hO hw0 hL hL7 hv ha (by omega) (fun S2 f2 k2 => ih (6 - (h + 1)) (by omega) (h + 1) S2 rfl (by omega) ⟨f2, k2⟩) 0 S1 (Nat.zero_le _) ⟨x1, x2⟩

set_option maxHeartbeats 4000000 in
set_option maxRecDepth 100000 in
theorem lp_mb0 {S : St} {I : Isl} (hI : IsM I S) (hO : IOK I) {w : Nat → Nat} (hw0 : ∀ t, t < iM I → S.1 93 t = nI (w t)) {L : Nat} (hL : S.1 83 17 = nI L) (hL7 : L ≤ 6) (hv : VS I w L) {a : Nat} (ha : a ≤ 2)  : ∀ (s : Nat), (s ≤ 7 ^ iM I) → X 5 150 mX11_mostBy (qi (fun r S' => r = vI (dyA I L (codeF I w) a) ∧ Fr FYr S S')) 2 [(2, .int (nI s)), (0, .ref 83), (1, .int (nI a))] [] (rwS S 105 0 s (fun _ => (-1 : Int32))) := by
  intro s
  induction hm : 16808 - s using Nat.strongRecOn generalizing s with
  | _ mm ih =>
    intro hs
    have hO1 := hO.1
    have hO2 := hO.2.1
    have hO3 := hO.2.2.1
    have hO4 := hO.2.2.2.1
    have hw := hv.ok hO
    have hw7 := hw.w7 hO
    have h7 := p7le hO
    have h0 := hv.okc hO
    have hfk : Fr FYr S (rwS S 105 0 s (fun _ => (-1 : Int32))) := ⟨rfl, fun a ha b => rwS_k (fun q => ha (Or.inr (Or.inl q)))⟩
    have hI1 := hI.fdr hfk
    have hw1 : ∀ t, t < iM I → ((rwS S 105 0 s (fun _ => (-1 : Int32)))).1 93 t = nI (w t) := fun t ht => (rwS_k (by decide)).trans (hw0 t ht)
    have hcw := h0.lt hO
    refine x_iload_n 0 dX11_mostBy_2 rfl rfl ?_
    refine x_aload_n 1 dX11_mostBy_3 rfl rfl ?_
    refine x_callVu (as := []) (rest := [_]) vX11_265 (c_X11_stateMany hI1 hO) dX11_mostBy_4 l83 rfl rfl rfl (Nat.le_of_ble_eq_true rfl) (Nat.le_of_ble_eq_true rfl) (Nat.le_of_ble_eq_true rfl) ?_
    refine y_ic_ge 23 dX11_mostBy_7 (by decide) (by omega) (by omega) (fun c_7 => ?_) (fun c_7 => ?_)
    · refine x_aload_n 1 dX11_mostBy_23 rfl rfl ?_
      refine x_callVv (as := []) (rest := []) vX11_217 (c_X11_lookNow hI1 hO) dX11_mostBy_24 l83 rfl rfl rfl (Nat.le_of_ble_eq_true rfl) (Nat.le_of_ble_eq_true rfl) (Nat.le_of_ble_eq_true rfl) ?_
      refine x_aload_n 1 dX11_mostBy_27 rfl rfl ?_
      refine x_getR fX11_75 dX11_mostBy_28 l83 rfl ?_
      refine x_aload_n 1 dX11_mostBy_31 rfl rfl ?_
      refine x_callVu (as := []) (rest := [_]) vX11_251 (c_X11_code (hI1.lk _) hO (lkS_W hw1)) dX11_mostBy_32 l83 rfl rfl rfl (Nat.le_of_ble_eq_true rfl) (Nat.le_of_ble_eq_true rfl) (Nat.le_of_ble_eq_true rfl) ?_
      refine x_iconst (v := nI 0) dX11_mostBy_35 (by decide) ?_
      refine y_iast dX11_mostBy_36 l105 (by omega) (by decide) ?_
      refine x_iconst (v := nI 0) dX11_mostBy_37 (by decide) ?_
      refine x_istore_n (lv' := [(2, _), (0, _), (1, _)]) dX11_mostBy_38 rfl (by decide) rfl ?_
      refine x_pick (lv' := [(2, _), (0, _), (1, _)]) [0, 1, 2] rfl ?_
      obtain rfl : s = 7 ^ iM I := (by omega)
      refine lp_mb2 hI hO hw0 hL hL7 hv ha 0 _ (Nat.zero_le _) ⟨FrYset (hfk.trans (frY (lkS_f _ _))) (Or.inr (Or.inl rfl)), fun c hc => ?_⟩
      show _ = vI (UC (fR I L (codeF I w)) (fun x => if x = 0 then 1 else 0) c)
      rw [UC_0 hO h0]
      by_cases q : c = codeF I w
      · rw [q, rdI_eq, if_pos rfl, vI_1]
      · rw [rdI_j q, lkS_k (by decide), rwS_at0 hc, if_neg q, vI_0]
    · refine x_aload_n 1 dX11_mostBy_10 rfl rfl ?_
      refine x_getR fX11_75 dX11_mostBy_11 l83 rfl ?_
      refine x_iload_n 0 dX11_mostBy_14 rfl rfl ?_
      refine x_iconst (v := -1) dX11_mostBy_15 (by decide) ?_
      refine y_iast dX11_mostBy_16 l105 (by omega) (by decide) ?_
      refine y_iinc (lv' := [(2, _), (0, _), (1, _)]) 0 dX11_mostBy_17 rfl (by decide) rfl ?_
      refine x_goto 2 dX11_mostBy_20 (by decide) ?_
      refine x_pick (lv' := [(2, _), (0, _), (1, _)]) [0, 1, 2] rfl ?_
      refine x_cast (rwS_s0 S 105 s (fun _ => (-1 : Int32))) ?_
      exact ih (16808 - (s + 1)) (by omega) (s + 1) rfl (by omega)

set_option maxHeartbeats 4000000 in
set_option maxRecDepth 100000 in
theorem c_X11_mostBy {S : St} {I : Isl} (hI : IsM I S) (hO : IOK I) {w : Nat → Nat} (hw0 : ∀ t, t < iM I → S.1 93 t = nI (w t)) {L : Nat} (hL : S.1 83 17 = nI L) (hL7 : L ≤ 6) (hv : VS I w L) {a : Nat} (ha : a ≤ 2) : C 5 150 yX11_mostBy mX11_mostBy [.ref 83, .int (nI a)] S (qi (fun r S' => r = vI (dyA I L (codeF I w) a) ∧ Fr FYr S S')) := by
  refine C.ofX (by decide) rfl (Nat.le_of_ble_eq_true rfl) ?_
  show X 5 150 mX11_mostBy (qi (fun r S' => r = vI (dyA I L (codeF I w) a) ∧ Fr FYr S S')) 0 [(0, .ref 83), (1, .int (nI a))] [] S
  refine x_iconst (v := nI 0) dX11_mostBy_0 (by decide) ?_
  refine x_istore_n (lv' := [(2, _), (0, _), (1, _)]) dX11_mostBy_1 rfl (by decide) rfl ?_
  refine x_pick (lv' := [(2, _), (0, _), (1, _)]) [0, 1, 2] rfl ?_
  have hh := lp_mb0 hI hO hw0 hL hL7 hv ha 0 (Nat.zero_le _)
  rw [rwS_0] at hh
  exact hh
