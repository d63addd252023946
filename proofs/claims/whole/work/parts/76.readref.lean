/-! ===== the reference reads a text ===== -/
def TxM (t n : Nat) (β : Nat → Int32) (S : St) : Prop := t < 4 ∧ n ≤ 100 ∧ byR n β ∧ S.1 88 t = nI n ∧ ∀ i, i < n → S.1 89 (100 * t + i) = β i
def FrJ (S S' : St) : Prop := S'.2 = S.2 ∧ ∀ a b, ¬ (a = 83 ∧ 19 ≤ b ∧ b ≤ 24) → ¬ (94 ≤ a ∧ a ≤ 96) → S'.1 a b = S.1 a b
theorem FrJ.refl {S : St} : FrJ S S := ⟨rfl, fun _ _ _ _ => rfl⟩
theorem FrJ.trans {S S1 S2 : St} (h : FrJ S S1) (h' : FrJ S1 S2) : FrJ S S2 := ⟨h'.1.trans h.1, fun a b h1 h2 => (h'.2 a b h1 h2).trans (h.2 a b h1 h2)⟩
theorem FrJ.set {S S1 : St} {k j : Nat} {v : Int32} (h : FrJ S S1) (hk : (k = 83 ∧ 19 ≤ j ∧ j ≤ 24) ∨ (94 ≤ k ∧ k ≤ 96)) : FrJ S (setI S1 k j v) := ⟨h.1, fun a b h1 h2 => by
  refine Eq.trans ?_ (h.2 a b h1 h2)
  by_cases q : a = k
  · subst q; exact rdI_j (by omega)
  · exact rdI_k q⟩
theorem TxM.fr {t n : Nat} {β : Nat → Int32} {S S' : St} (h : TxM t n β S) (f : FrJ S S') : TxM t n β S' :=
  ⟨h.1, h.2.1, h.2.2.1, (f.2 88 t (by omega) (by omega)).trans h.2.2.2.1, fun i hi => (f.2 89 _ (by omega) (by omega)).trans (h.2.2.2.2 i hi)⟩
def RdM (pos : Nat) (I : Isl) (S : St) : Prop := S.1 83 19 = nI pos ∧ S.1 83 21 = nI (iP I) ∧ S.1 83 22 = nI (iM I) ∧ S.1 83 23 = nI (iB I) ∧ S.1 83 24 = nI (iW I) ∧
  (∀ t, t < iM I → S.1 94 t = nI (iK I t) ∧ S.1 95 t = nI (iS I t)) ∧ ∀ v, v < iW I → ∀ j, j < 4 → S.1 96 (4 * v + j) = nI (iV I v j)
theorem RdM.keep {pos pos' : Nat} {I : Isl} {S S' : St} (h : RdM pos I S) (h0 : S'.1 83 19 = nI pos') (e : ∀ b, 21 ≤ b → b ≤ 24 → S'.1 83 b = S.1 83 b) (e2 : ∀ a b, 94 ≤ a → a ≤ 96 → S'.1 a b = S.1 a b) : RdM pos' I S' :=
  ⟨h0, (e 21 (by decide) (by decide)).trans h.2.1, (e 22 (by decide) (by decide)).trans h.2.2.1, (e 23 (by decide) (by decide)).trans h.2.2.2.1, (e 24 (by decide) (by decide)).trans h.2.2.2.2.1,
   fun t ht => ⟨(e2 94 t (by decide) (by decide)).trans (h.2.2.2.2.2.1 t ht).1, (e2 95 t (by decide) (by decide)).trans (h.2.2.2.2.2.1 t ht).2⟩, fun v hv j hj => (e2 96 _ (by decide) (by decide)).trans (h.2.2.2.2.2.2 v hv j hj)⟩
theorem c_byteM {S : St} {t n pos : Nat} {β : Nat → Int32} (hx : TxM t n β S) (hp : pos < 2000) : C 0 0 yX11_byteAt mX11_byteAt [.ref 83, .int (nI t), .int (nI pos)] S (pu (.int (sgM n β pos)) S) := by
  have h := c_X11_byteAt hx.1 hp hx.2.2.2.1 hx.2.1
  have e : (if pos < n then S.1 89 (100 * t + pos) else nI 0) = sgM n β pos := by
    unfold sgM
    by_cases q : pos < n
    · rw [if_pos q, if_pos q]; exact hx.2.2.2.2 pos q
    · rw [if_neg q, if_neg q]
  rw [e] at h
  exact h
/-- a figure has been looked for -/
def FgM (C : Prop) (p v : Nat) (S : St) (r : Int32) (S' : St) : Prop := (S'.2 = S.2 ∧ ∀ a b, ¬ (a = 83 ∧ (b = 19 ∨ b = 20)) → S'.1 a b = S.1 a b) ∧ ((C ∧ r = nI 1 ∧ S'.1 83 19 = nI (p + 1) ∧ S'.1 83 20 = nI v) ∨ (¬ C ∧ r = nI 0 ∧ S'.1 83 19 = nI p))
theorem FgM.pos {C : Prop} {p v : Nat} {S : St} {r : Int32} {S' : St} (h : FgM C p v S r S') (h0 : ¬ r = 0) : C ∧ S'.1 83 19 = nI (p + 1) ∧ S'.1 83 20 = nI v := by
  rcases h.2 with k | k
  · exact ⟨k.1, k.2.2⟩
  · rw [k.2.1] at h0; exact absurd rfl h0
theorem FgM.neg {C : Prop} {p v : Nat} {S : St} {r : Int32} {S' : St} (h : FgM C p v S r S') (h0 : r = 0) : ¬ C ∧ S'.1 83 19 = nI p := by
  rcases h.2 with k | k
  · rw [k.2.1] at h0; exact absurd h0 (by decide)
  · exact ⟨k.1, k.2.2⟩
theorem FgM.fr {C : Prop} {p v : Nat} {S0 S : St} {r : Int32} {S' : St} (h : FgM C p v S r S') (f : FrJ S0 S) : FrJ S0 S' := f.trans ⟨h.1.1, fun a b h1 _ => h.1.2 a b (by omega)⟩
/-- an item has been read -/
def ItM (out : Nat × Isl × Bool) (S : St) (r : Int32) (S' : St) : Prop := FrJ S S' ∧ ((out.2.2 = true ∧ r = nI 1 ∧ RdM out.1 out.2.1 S') ∨ (out.2.2 = false ∧ r = nI 0 ∧ S'.1 83 19 = nI out.1))
theorem ItM.f {p : Nat} {J : Isl} {out : Nat × Isl × Bool} {S S' : St} (e : out = (p, J, false)) (h : FrJ S S') (h4 : S'.1 83 19 = nI p) : ItM out S (nI 0) S' := by
  subst e
  exact ⟨h, Or.inr ⟨rfl, rfl, h4⟩⟩
theorem ItM.t {p : Nat} {J : Isl} {out : Nat × Isl × Bool} {S S' : St} (e : out = (p, J, true)) (h : FrJ S S') (h4 : RdM p J S') : ItM out S (nI 1) S' := by
  subst e
  exact ⟨h, Or.inl ⟨rfl, rfl, h4⟩⟩

set_option maxHeartbeats 4000000 in
set_option maxRecDepth 100000 in
theorem c_X11_figure {S : St} {t n pos : Nat} {β : Nat → Int32} (hx : TxM t n β S) (hp : S.1 83 19 = nI pos) (hpn : pos ≤ 1000) {lo hi : Nat} {lo' hi' : Int32} (elo : lo'.toInt = (lo : Int)) (ehi : hi'.toInt = (hi : Int)) (hh : hi ≤ 9)  : C 1 30 yX11_figure mX11_figure [.ref 83, .int (nI t), .int lo', .int hi'] S (qi (FgM (48 + lo ≤ chF n β pos ∧ chF n β pos ≤ 48 + hi) pos (chF n β pos - 48) S)) := by
  have hx1 := hx.1
  have hx2 := hx.2.1
  have hsg := sg_M (i := pos) hx.2.2.1
  have hfg := hsg.fig (lo := lo) (hi := hi) hh
  have hvl := fun h1 h2 => hsg.val h1 h2
  refine C.ofX (by decide) rfl (Nat.le_of_ble_eq_true rfl) ?_
  show X 1 30 mX11_figure (qi (FgM (48 + lo ≤ chF n β pos ∧ chF n β pos ≤ 48 + hi) pos (chF n β pos - 48) S)) 0 [(0, .ref 83), (1, .int (nI t)), (2, .int lo'), (3, .int hi')] [] S
  refine x_aload_n 0 dX11_figure_0 rfl rfl ?_
  refine x_aload_n 0 dX11_figure_1 rfl rfl ?_
  refine x_iload_n 1 dX11_figure_2 rfl rfl ?_
  refine x_aload_n 0 dX11_figure_3 rfl rfl ?_
  refine y_getI fX11_126 dX11_figure_4 l83 rfl hp ?_
  refine x_callVu (as := [_, _]) (rest := [_]) vX11_129 (c_byteM hx (by omega)) dX11_figure_7 l83 rfl rfl rfl (Nat.le_of_ble_eq_true rfl) (Nat.le_of_ble_eq_true rfl) (Nat.le_of_ble_eq_true rfl) ?_
  refine x_bipush (v := nI 48) dX11_figure_10 (by decide) ?_
  refine x_isub dX11_figure_12 ?_
  refine x_putI pX11_132 dX11_figure_13 l83 rfl ?_
  refine x_aload_n 0 dX11_figure_16 rfl rfl ?_
  refine y_getI fX11_132 dX11_figure_17 l83 rfl rdI_eq ?_
  refine x_iload_n 2 dX11_figure_20 rfl rfl ?_
  refine x_iload_n 3 dX11_figure_21 rfl rfl ?_
  refine x_callSb (as := [_, _, _]) (rest := []) sX11_98 c_X11_in dX11_figure_22 rfl rfl (Nat.le_of_ble_eq_true rfl) (Nat.le_of_ble_eq_true rfl) (Nat.le_of_ble_eq_true rfl) (fun c_22 => ?_) (fun c_22 => ?_)
  · refine x_istore (lv' := [(4, _), (0, _), (1, _), (2, _), (3, _)]) dX11_figure_25 (by decide) rfl ?_
    refine x_aload_n 1 dX11_figure_27 rfl rfl ?_
    refine x_dup dX11_figure_28 rfl ?_
    refine y_getI fX11_126 dX11_figure_29 l83 rfl (((rdI_j (by decide))).trans hp) ?_
    refine x_iload 0 dX11_figure_32 rfl ?_
    refine u_if_eq 41 dX11_figure_34 (by decide) (by decide) ?_
    refine x_iconst (v := nI 1) dX11_figure_37 (by decide) ?_
    refine x_goto 42 dX11_figure_38 (by decide) ?_
    refine y_iadd dX11_figure_42 ?_
    refine x_putI pX11_126 dX11_figure_43 l83 rfl ?_
    refine x_iload 0 dX11_figure_46 rfl ?_
    refine x_zret rfl dX11_figure_48 (by decide) (by
      have h := hfg.mp ⟨by omega, by omega⟩
      exact ⟨_, rfl, ⟨rfl, fun a b h1 => (by by_cases q : a = 83; subst q; exact (rdI_j (fun z => h1 ⟨rfl, Or.inl z⟩)).trans (rdI_j (fun z => h1 ⟨rfl, Or.inr z⟩)); exact (rdI_k q).trans (rdI_k q))⟩, Or.inl ⟨h, rfl, rdI_eq, (rdI_j (by decide)).trans (rdI_eq.trans (hvl (by omega) (by omega)))⟩⟩)
  · refine x_istore (lv' := [(4, _), (0, _), (1, _), (2, _), (3, _)]) dX11_figure_25 (by decide) rfl ?_
    refine x_aload_n 1 dX11_figure_27 rfl rfl ?_
    refine x_dup dX11_figure_28 rfl ?_
    refine y_getI fX11_126 dX11_figure_29 l83 rfl (((rdI_j (by decide))).trans hp) ?_
    refine x_iload 0 dX11_figure_32 rfl ?_
    refine t_if_eq 41 dX11_figure_34 (by decide) (by decide) ?_
    refine x_iconst (v := nI 0) dX11_figure_41 (by decide) ?_
    refine y_iadd dX11_figure_42 ?_
    refine x_putI pX11_126 dX11_figure_43 l83 rfl ?_
    refine x_iload 0 dX11_figure_46 rfl ?_
    refine x_zret rfl dX11_figure_48 (by decide) (by
      exact ⟨_, rfl, ⟨rfl, fun a b h1 => (by by_cases q : a = 83; subst q; exact (rdI_j (fun z => h1 ⟨rfl, Or.inl z⟩)).trans (rdI_j (fun z => h1 ⟨rfl, Or.inr z⟩)); exact (rdI_k q).trans (rdI_k q))⟩, Or.inr ⟨fun h => c_22 (by have := hfg.mpr h; omega), rfl, rdI_eq⟩⟩)

set_option maxHeartbeats 4000000 in
set_option maxRecDepth 100000 in
theorem c_X11_readsPeople {S : St} {t n pos : Nat} {β : Nat → Int32} (hx : TxM t n β S) {I : Isl} (hR : RdM pos I S) (hpn : pos ≤ n) (h0 : I = isl0) : C 2 60 yX11_readsPeople mX11_readsPeople [.ref 83, .int (nI t)] S (qi (ItM (rdP (chF n β) pos I) S)) := by
  have hx1 := hx.1
  have hx2 := hx.2.1
  obtain ⟨hp, hr1, hr2, hr3, hr4, hr5, hr6⟩ := id hR
  have hsg := sg_M (i := pos) hx.2.2.1
  refine C.ofX (by decide) rfl (Nat.le_of_ble_eq_true rfl) ?_
  show X 2 60 mX11_readsPeople (qi (ItM (rdP (chF n β) pos I) S)) 0 [(0, .ref 83), (1, .int (nI t))] [] S
  refine x_aload_n 0 dX11_readsPeople_0 rfl rfl ?_
  refine x_iload_n 1 dX11_readsPeople_1 rfl rfl ?_
  refine x_aload_n 0 dX11_readsPeople_2 rfl rfl ?_
  refine y_getI fX11_126 dX11_readsPeople_3 l83 rfl hp ?_
  refine x_callVu (as := [_, _]) (rest := []) vX11_129 (c_byteM hx (by omega)) dX11_readsPeople_6 l83 rfl rfl rfl (Nat.le_of_ble_eq_true rfl) (Nat.le_of_ble_eq_true rfl) (Nat.le_of_ble_eq_true rfl) ?_
  refine x_bipush (v := nI 112) dX11_readsPeople_9 (by decide) ?_
  refine x_ic_eq 16 dX11_readsPeople_11 (by decide) (fun c_11 => ?_) (fun c_11 => ?_)
  · refine x_aload_n 0 dX11_readsPeople_16 rfl rfl ?_
    refine x_dup dX11_readsPeople_17 rfl ?_
    refine y_getI fX11_126 dX11_readsPeople_18 l83 rfl hp ?_
    refine x_iconst (v := nI 1) dX11_readsPeople_21 (by decide) ?_
    refine y_iadd dX11_readsPeople_22 ?_
    refine x_putI pX11_126 dX11_readsPeople_23 l83 rfl ?_
    have hc := (hsg.eq (k := 112) (by decide) (by decide)).mp c_11
    have f1 : FrJ S (setI S 83 19 (nI (pos + 1))) := FrJ.refl.set (Or.inl (by decide))
    have hx1' : TxM t n β (setI S 83 19 (nI (pos + 1))) := hx.fr f1
    refine x_aload_n 0 dX11_readsPeople_26 rfl rfl ?_
    refine x_iload_n 1 dX11_readsPeople_27 rfl rfl ?_
    refine x_iconst (v := nI 1) dX11_readsPeople_28 (by decide) ?_
    refine x_iconst (v := nI 4) dX11_readsPeople_29 (by decide) ?_
    refine x_callVqi (as := [_, _, _]) (rest := []) vX11_135 (c_X11_figure (lo := 1) (hi := 4) hx1' rdI_eq (by omega) rfl rfl (by omega)) dX11_readsPeople_30 l83 rfl rfl rfl (Nat.le_of_ble_eq_true rfl) (Nat.le_of_ble_eq_true rfl) (Nat.le_of_ble_eq_true rfl) (fun r_30 S_30 q_30 => ?_)
    refine x_if_ne 38 dX11_readsPeople_33 (by decide) (fun c_33 => ?_) (fun c_33 => ?_)
    · obtain ⟨g1, g2, g3⟩ := q_30.pos c_33
      refine x_aload_n 0 dX11_readsPeople_38 rfl rfl ?_
      refine x_aload_n 0 dX11_readsPeople_39 rfl rfl ?_
      refine y_getI fX11_132 dX11_readsPeople_40 l83 rfl g3 ?_
      refine x_putI pX11_138 dX11_readsPeople_43 l83 rfl ?_
      refine x_iconst (v := nI 1) dX11_readsPeople_46 (by decide) ?_
      refine x_zret rfl dX11_readsPeople_47 (by decide) (by
        subst h0
        have hm : iM (islP isl0 (chF n β (pos + 1) - 48)) = 0 := rfl
        have hw : iW (islP isl0 (chF n β (pos + 1) - 48)) = 0 := rfl
        have hk : ∀ b, 22 ≤ b → b ≤ 24 → (setI S_30 83 21 (nI (chF n β (pos + 1) - 48))).1 83 b = S.1 83 b := fun b h1 h2 => (rdI_j (by omega)).trans ((q_30.1.2 83 b (by omega)).trans (rdI_j (by omega)))
        refine ⟨_, rfl, ItM.t (rdP_2 hc g1) ((q_30.fr f1).set (Or.inl (by decide))) ⟨(rdI_j (by decide)).trans g2, rdI_eq, (hk 22 (by decide) (by decide)).trans hr2, (hk 23 (by decide) (by decide)).trans hr3, (hk 24 (by decide) (by decide)).trans hr4, fun t ht => by omega, fun v hv => by omega⟩⟩)
    · refine x_iconst (v := nI 0) dX11_readsPeople_36 (by decide) ?_
      refine x_zret rfl dX11_readsPeople_37 (by decide) (by have hN := q_30.neg c_33; exact ⟨_, rfl, ItM.f (rdP_1 hc hN.1) (q_30.fr f1) hN.2⟩)
  · refine x_iconst (v := nI 0) dX11_readsPeople_14 (by decide) ?_
    refine x_zret rfl dX11_readsPeople_15 (by decide) ⟨_, rfl, ItM.f (rdP_0 (fun e => c_11 ((hsg.eq (k := 112) (by decide) (by decide)).mpr e))) FrJ.refl hp⟩

set_option maxHeartbeats 4000000 in
set_option maxRecDepth 100000 in
theorem c_readsThing_0 {S : St} {t n pos : Nat} {β : Nat → Int32} (hx : TxM t n β S) {I : Isl} (hR : RdM pos I S) (hpn : pos ≤ n) (hPI : PI I) (hk9 : kdF (chF n β pos) = 9) : C 1 30 yX11_readsThing mX11_readsThing [.ref 83, .int (nI t)] S (qi (ItM (rdT (chF n β) pos I) S)) := by
  have hx1 := hx.1
  have hx2 := hx.2.1
  obtain ⟨hp, hr1, hr2, hr3, hr4, hr5, hr6⟩ := id hR
  have hsg := sg_M (i := pos) hx.2.2.1
  have hO := hPI.1
  have hO1 := hO.1
  have hO2 := hO.2.1
  have hO3 := hO.2.2.1
  have hO4 := hO.2.2.2.1
  have ek : kiF (-9) (chF n β pos) = -9 := by unfold kiF; rw [if_pos hk9]
  refine C.ofX (by decide) rfl (Nat.le_of_ble_eq_true rfl) ?_
  show X 1 30 mX11_readsThing (qi (ItM (rdT (chF n β) pos I) S)) 0 [(0, .ref 83), (1, .int (nI t))] [] S
  refine x_aload_n 0 dX11_readsThing_0 rfl rfl ?_
  refine x_iload_n 1 dX11_readsThing_1 rfl rfl ?_
  refine x_aload_n 0 dX11_readsThing_2 rfl rfl ?_
  refine y_getI fX11_126 dX11_readsThing_3 l83 rfl hp ?_
  refine x_callVu (as := [_, _]) (rest := []) vX11_129 (c_byteM hx (by omega)) dX11_readsThing_6 l83 rfl rfl rfl (Nat.le_of_ble_eq_true rfl) (Nat.le_of_ble_eq_true rfl) (Nat.le_of_ble_eq_true rfl) ?_
  refine x_callSu (as := [_]) (rest := []) sX11_141 (c_X11_kindOf hsg) dX11_readsThing_9 rfl rfl (Nat.le_of_ble_eq_true rfl) (Nat.le_of_ble_eq_true rfl) (Nat.le_of_ble_eq_true rfl) ?_
  rw [ek]
  refine x_istore_n (lv' := [(2, _), (0, _), (1, _)]) dX11_readsThing_12 rfl (by decide) rfl ?_
  refine x_iload_n 0 dX11_readsThing_13 rfl rfl ?_
  refine x_bipush (v := -9) dX11_readsThing_14 (by decide) ?_
  refine x_ic_eq 49 dX11_readsThing_16 (by decide) (fun c_16 => ?_) (fun c_16 => ?_)
  · refine x_iconst (v := nI 0) dX11_readsThing_49 (by decide) ?_
    refine x_zret rfl dX11_readsThing_50 (by decide) ⟨_, rfl, ItM.f (rdT_0 (fun h => h.1 hk9)) FrJ.refl hp⟩
  · exact absurd rfl c_16

theorem ld_t {I : Isl} {pl : Int32} {k : Nat} (h : nI (iS I k) = pl) : sm (fun u => i2 (nI (iS I u) = pl) (wt (iK I u)) 0) (k + 1) = sm (fun u => i2 (nI (iS I u) = pl) (wt (iK I u)) 0) k + wt (iK I k) := by rw [sm_s, e2_0 h]
theorem ld_f {I : Isl} {pl : Int32} {k : Nat} (h : ¬ nI (iS I k) = pl) : sm (fun u => i2 (nI (iS I u) = pl) (wt (iK I u)) 0) (k + 1) = sm (fun u => i2 (nI (iS I u) = pl) (wt (iK I u)) 0) k + 0 := by rw [sm_s, e2_1 h]
theorem ld_n {I : Isl} (hs : ∀ t, t < iM I → iS I t < 100) {d : Nat} (hd : d < 100) : sm (fun u => i2 (nI (iS I u) = nI d) (wt (iK I u)) 0) (iM I) = loadF I (iS I) d := sm_congr fun u hu => by
  have := hs u hu
  by_cases q : iS I u = d
  · rw [e2_0 (by rw [q]), if_pos q]
  · rw [e2_1 (fun e => q (nI_inj (by omega) (by omega) e)), if_neg q]
theorem ld_le {I : Isl} {pl : Int32} (k : Nat) : sm (fun u => i2 (nI (iS I u) = pl) (wt (iK I u)) 0) k ≤ 2 * k := sm_le fun u _ => by
  by_cases q : nI (iS I u) = pl
  · rw [e2_0 q]; exact wt_le _
  · rw [e2_1 q]; exact Nat.zero_le _
theorem PI.s4 {I : Isl} (h : PI I) : ∀ t, t < iM I → iS I t ≤ 4 := fun t ht => by
  have := h.2.1 t ht
  have := h.1.1
  omega

set_option maxHeartbeats 4000000 in
set_option maxRecDepth 100000 in
theorem lp_rt1 {S : St} {t pos q : Nat} {I : Isl} (hR : RdM pos I S) (hPI : PI I) (hq : q ≤ 5) {pl x3 fl : Int32} {Q : Option Value → St → Prop} (kk : X 1 30 mX11_readsThing Q 177 [(6, .int (nI (wt q + (sm (fun u => i2 (nI (iS I u) = pl) (wt (iK I u)) 0) (iM I))))), (5, .int fl), (4, .int pl), (3, .int x3), (2, .int (nI q)), (0, .ref 83), (1, .int (nI t))] [] S)  : ∀ (k : Nat), (k ≤ iM I) → X 1 30 mX11_readsThing (Q) 131 [(7, .int (nI k)), (6, .int (nI ((wt q + (sm (fun u => i2 (nI (iS I u) = pl) (wt (iK I u)) 0) k))))), (5, .int fl), (4, .int pl), (3, .int x3), (2, .int (nI q)), (0, .ref 83), (1, .int (nI t))] [] S := by
  intro k
  induction hm : iM I - k using Nat.strongRecOn generalizing k with
  | _ mm ih =>
    intro hk
    have hO := hPI.1
    have hO1 := hO.1
    have hO2 := hO.2.1
    have hO3 := hO.2.2.1
    have hO4 := hO.2.2.2.1
    obtain ⟨hp, hr1, hr2, hr3, hr4, hr5, hr6⟩ := id hR
    have hwq := wt_le q
    have hle := ld_le (I := I) (pl := pl) k
    have hs4 := hPI.s4 k
    have hk5 := hO.2.2.2.2.1 k
    have hwk := wt_le (iK I k)
    refine x_iload 0 dX11_readsThing_131 rfl ?_
    refine x_aload_n 6 dX11_readsThing_133 rfl rfl ?_
    refine y_getI fX11_144 dX11_readsThing_134 l83 rfl hr2 ?_
    refine y_ic_ge 177 dX11_readsThing_137 (by decide) (by omega) (by omega) (fun c_137 => ?_) (fun c_137 => ?_)
    · refine x_pick (lv' := [(6, _), (5, _), (4, _), (3, _), (2, _), (0, _), (1, _)]) [1, 2, 3, 4, 5, 6, 7] rfl ?_
      obtain rfl : k = iM I := (by omega)
      exact kk
    · refine x_iload 1 dX11_readsThing_140 rfl ?_
      refine x_aload_n 6 dX11_readsThing_142 rfl rfl ?_
      refine x_getR fX11_44 dX11_readsThing_143 l83 rfl ?_
      refine x_iload 0 dX11_readsThing_146 rfl ?_
      refine y_iald dX11_readsThing_148 l95 (by omega) (by decide) (hr5 k (by omega)).2 ?_
      refine x_iload 3 dX11_readsThing_149 rfl ?_
      refine x_ic_ne 167 dX11_readsThing_151 (by decide) (fun c_151 => ?_) (fun c_151 => ?_)
      · refine x_iconst (v := nI 0) dX11_readsThing_167 (by decide) ?_
        refine y_iadd dX11_readsThing_168 ?_
        rw [Nat.add_assoc (wt q), ← ld_f c_151]
        refine x_istore (lv' := [(6, _), (7, _), (5, _), (4, _), (3, _), (2, _), (0, _), (1, _)]) dX11_readsThing_169 (by decide) rfl ?_
        refine y_iinc (lv' := [(7, _), (6, _), (5, _), (4, _), (3, _), (2, _), (0, _), (1, _)]) 1 dX11_readsThing_171 rfl (by decide) rfl ?_
        refine x_goto 131 dX11_readsThing_174 (by decide) ?_
        refine x_pick (lv' := [(7, _), (6, _), (5, _), (4, _), (3, _), (2, _), (0, _), (1, _)]) [0, 1, 2, 3, 4, 5, 6, 7] rfl ?_
        exact ih (iM I - (k + 1)) (by omega) (k + 1) rfl (by omega)
      · refine x_aload_n 6 dX11_readsThing_154 rfl rfl ?_
        refine x_getR fX11_41 dX11_readsThing_155 l83 rfl ?_
        refine x_iload 0 dX11_readsThing_158 rfl ?_
        refine y_iald dX11_readsThing_160 l94 (by omega) (by decide) (hr5 k (by omega)).1 ?_
        refine x_callSu (as := [_]) (rest := [_]) sX11_159 (c_X11_counts (hk5 (by omega))) dX11_readsThing_161 rfl rfl (Nat.le_of_ble_eq_true rfl) (Nat.le_of_ble_eq_true rfl) (Nat.le_of_ble_eq_true rfl) ?_
        refine x_goto 168 dX11_readsThing_164 (by decide) ?_
        refine y_iadd dX11_readsThing_168 ?_
        rw [Nat.add_assoc (wt q), ← ld_t c_151]
        refine x_istore (lv' := [(6, _), (7, _), (5, _), (4, _), (3, _), (2, _), (0, _), (1, _)]) dX11_readsThing_169 (by decide) rfl ?_
        refine y_iinc (lv' := [(7, _), (6, _), (5, _), (4, _), (3, _), (2, _), (0, _), (1, _)]) 1 dX11_readsThing_171 rfl (by decide) rfl ?_
        refine x_goto 131 dX11_readsThing_174 (by decide) ?_
        refine x_pick (lv' := [(7, _), (6, _), (5, _), (4, _), (3, _), (2, _), (0, _), (1, _)]) [0, 1, 2, 3, 4, 5, 6, 7] rfl ?_
        exact ih (iM I - (k + 1)) (by omega) (k + 1) rfl (by omega)

set_option maxHeartbeats 4000000 in
set_option maxRecDepth 100000 in
theorem lp_rt2 {S : St} {t pos q : Nat} {I : Isl} (hR : RdM pos I S) (hPI : PI I) (hq : q ≤ 5) {pl x3 : Int32} {s : Nat}  : ∀ (k : Nat), (k < 1000) → X 1 30 mX11_readsThing (pu (.int (nI 0)) S) 177 [(6, .int (nI s)), (5, .int (nI 0)), (4, .int pl), (3, .int x3), (2, .int (nI q)), (0, .ref 83), (1, .int (nI t))] [] S := by
  intro k
  induction hm : 0 * k using Nat.strongRecOn generalizing k with
  | _ mm ih =>
    intro hk
    refine x_iload 1 dX11_readsThing_177 rfl ?_
    refine y_if_eq 194 dX11_readsThing_179 (by decide) (by omega) (fun c_179 => ?_) (fun c_179 => ?_)
    · refine x_iconst (v := nI 0) dX11_readsThing_194 (by decide) ?_
      refine x_zret rfl dX11_readsThing_195 (by decide) (by first | exact ⟨rfl, rfl⟩ | (exfalso; omega))
    · exact absurd rfl c_179

theorem RdM_addT {S S' : St} {pos p q d : Nat} {I : Isl} (hR : RdM pos I S) (h19 : S'.1 83 19 = nI p) (h21 : S'.1 83 21 = S.1 83 21) (h22 : S'.1 83 22 = nI (iM I + 1)) (h23 : S'.1 83 23 = nI (if 0 < rm q then iB I + 1 else iB I)) (h24 : S'.1 83 24 = S.1 83 24) (hk : S'.1 94 (iM I) = nI q) (hd : S'.1 95 (iM I) = nI d) (e : ∀ a b, (a = 94 ∨ a = 95) → ¬ b = iM I → S'.1 a b = S.1 a b) (e2 : ∀ b, S'.1 96 b = S.1 96 b) : RdM p (addT I q d) S' := by
  have eM : iM (addT I q d) = iM I + 1 := rfl
  have eK : iK (addT I q d) = upW (iK I) (iM I) q := rfl
  have eS : iS (addT I q d) = upW (iS I) (iM I) d := rfl
  refine ⟨h19, h21.trans hR.2.1, h22, h23, h24.trans hR.2.2.2.2.1, fun t ht => ?_, fun v hv j hj => (e2 _).trans (hR.2.2.2.2.2.2 v hv j hj)⟩
  rw [eK, eS]
  by_cases k : t = iM I
  · rw [k, upW_eq, upW_eq]; exact ⟨hk, hd⟩
  · have := hR.2.2.2.2.2.1 t (by omega)
    rw [upW_ne k, upW_ne k]
    exact ⟨(e 94 t (Or.inl rfl) k).trans this.1, (e 95 t (Or.inr rfl) k).trans this.2⟩

set_option maxHeartbeats 4000000 in
set_option maxRecDepth 100000 in
theorem lp_rt3 {S : St} {t pos q : Nat} {I : Isl} (hR : RdM pos I S) (hPI : PI I) (hq : q ≤ 5) {x3 : Int32} (hm : iM I < 5) {s d : Nat} (hs : s ≤ 100) (hd : d ≤ 4)  : ∀ (k : Nat), (k < 1000) → X 1 30 mX11_readsThing (qi (fun r S' => (¬ (d = 4 ∨ s ≤ 3) ∧ r = nI 0 ∧ S' = S) ∨ ((d = 4 ∨ s ≤ 3) ∧ r = nI 1 ∧ FrJ S S' ∧ RdM (pos + 1) (addT I q d) S'))) 177 [(6, .int (nI s)), (5, .int (nI 1)), (4, .int (nI d)), (3, .int x3), (2, .int (nI q)), (0, .ref 83), (1, .int (nI t))] [] S := by
  intro k
  induction hm : 0 * k using Nat.strongRecOn generalizing k with
  | _ mm ih =>
    intro hk
    have hO := hPI.1
    have hO1 := hO.1
    have hO2 := hO.2.1
    have hO3 := hO.2.2.1
    have hO4 := hO.2.2.2.1
    obtain ⟨hp, hr1, hr2, hr3, hr4, hr5, hr6⟩ := id hR
    have hwq := wt_le q
    have hrp := rm_pos q
    refine x_iload 1 dX11_readsThing_177 rfl ?_
    refine y_if_eq 194 dX11_readsThing_179 (by decide) (by omega) (fun c_179 => ?_) (fun c_179 => ?_)
    · refine x_iconst (v := nI 0) dX11_readsThing_194 (by decide) ?_
      refine x_zret rfl dX11_readsThing_195 (by decide) (by first | (exfalso; omega) | exact ⟨_, rfl, Or.inl ⟨by omega, rfl, rfl⟩⟩)
    · refine x_iload 2 dX11_readsThing_182 rfl ?_
      refine x_iconst (v := nI 4) dX11_readsThing_184 (by decide) ?_
      refine y_ic_eq 196 dX11_readsThing_185 (by decide) (by omega) (by omega) (fun c_185 => ?_) (fun c_185 => ?_)
      · refine x_aload_n 5 dX11_readsThing_196 rfl rfl ?_
        refine x_dup dX11_readsThing_197 rfl ?_
        refine y_getI fX11_126 dX11_readsThing_198 l83 rfl hp ?_
        refine x_iconst (v := nI 1) dX11_readsThing_201 (by decide) ?_
        refine y_iadd dX11_readsThing_202 ?_
        refine x_putI pX11_126 dX11_readsThing_203 l83 rfl ?_
        refine x_aload_n 5 dX11_readsThing_206 rfl rfl ?_
        refine x_getR fX11_41 dX11_readsThing_207 l83 rfl ?_
        refine x_aload_n 5 dX11_readsThing_210 rfl rfl ?_
        refine y_getI fX11_144 dX11_readsThing_211 l83 rfl (((rdI_j (by decide))).trans hr2) ?_
        refine x_iload_n 4 dX11_readsThing_214 rfl rfl ?_
        refine y_iast dX11_readsThing_215 l94 (by omega) (by decide) ?_
        refine x_aload_n 5 dX11_readsThing_216 rfl rfl ?_
        refine x_getR fX11_44 dX11_readsThing_217 l83 rfl ?_
        refine x_aload_n 5 dX11_readsThing_220 rfl rfl ?_
        refine y_getI fX11_144 dX11_readsThing_221 l83 rfl ((((rdI_k (by decide))).trans (rdI_j (by decide))).trans hr2) ?_
        refine x_iload 2 dX11_readsThing_224 rfl ?_
        refine y_iast dX11_readsThing_226 l95 (by omega) (by decide) ?_
        refine x_aload_n 5 dX11_readsThing_227 rfl rfl ?_
        refine x_dup dX11_readsThing_228 rfl ?_
        refine y_getI fX11_153 dX11_readsThing_229 l83 rfl (((((rdI_k (by decide))).trans (rdI_k (by decide))).trans (rdI_j (by decide))).trans hr3) ?_
        refine x_iload_n 4 dX11_readsThing_232 rfl rfl ?_
        refine x_callSb (as := [_]) (rest := [_, _]) sX11_150 (c_X11_isBagKind hq) dX11_readsThing_233 rfl rfl (Nat.le_of_ble_eq_true rfl) (Nat.le_of_ble_eq_true rfl) (Nat.le_of_ble_eq_true rfl) (fun c_233 => ?_) (fun c_233 => ?_)
        · refine u_if_eq 243 dX11_readsThing_236 (by decide) (by decide) ?_
          refine x_iconst (v := nI 1) dX11_readsThing_239 (by decide) ?_
          refine x_goto 244 dX11_readsThing_240 (by decide) ?_
          refine y_iadd dX11_readsThing_244 ?_
          refine x_putI pX11_153 dX11_readsThing_245 l83 rfl ?_
          refine x_aload_n 5 dX11_readsThing_248 rfl rfl ?_
          refine x_dup dX11_readsThing_249 rfl ?_
          refine y_getI fX11_144 dX11_readsThing_250 l83 rfl ((((((rdI_j (by decide))).trans (rdI_k (by decide))).trans (rdI_k (by decide))).trans (rdI_j (by decide))).trans hr2) ?_
          refine x_iconst (v := nI 1) dX11_readsThing_253 (by decide) ?_
          refine y_iadd dX11_readsThing_254 ?_
          refine x_putI pX11_144 dX11_readsThing_255 l83 rfl ?_
          refine x_iconst (v := nI 1) dX11_readsThing_258 (by decide) ?_
          refine x_zret rfl dX11_readsThing_259 (by decide) (by
            have hbk : ¬ (if 0 < rm q then iB I + 1 else iB I) = iB I ↔ bagK q := by
              rw [← hrp]
              by_cases z : 0 < rm q
              · rw [if_pos z]; exact ⟨fun _ => z, fun _ => by omega⟩
              · rw [if_neg z]; exact ⟨fun h => absurd rfl h, fun h => absurd h z⟩
            refine ⟨_, rfl, Or.inr ⟨by omega, rfl, ((((FrJ.refl.set (Or.inl (by decide))).set (Or.inr (by decide))).set (Or.inr (by decide))).set (Or.inl (by decide))).set (Or.inl (by decide)), ?_⟩⟩
            refine RdM_addT hR ?_ ?_ rdI_eq ?_ ?_ ?_ ?_ (fun a b ha hb => ?_) (fun b => ?_)
            · rw [rdI_j (by decide), rdI_j (by decide), rdI_k (by decide), rdI_k (by decide), rdI_eq]
            · rw [rdI_j (by decide), rdI_j (by decide), rdI_k (by decide), rdI_k (by decide), rdI_j (by decide)]
            · rw [rdI_j (by decide), rdI_eq]
              first
              | rw [if_pos (hrp.mpr c_233)]
              | (rw [if_neg (fun z => c_233 (hrp.mp z))]; rfl)
            · rw [rdI_j (by decide), rdI_j (by decide), rdI_k (by decide), rdI_k (by decide), rdI_j (by decide)]
            · rw [rdI_k (by decide), rdI_k (by decide), rdI_k (by decide), rdI_eq]
            · rw [rdI_k (by decide), rdI_k (by decide), rdI_eq]
            · rw [rdI_k (by omega), rdI_k (by omega)]
              rcases ha with rfl | rfl
              · rw [rdI_k (by decide), rdI_j hb, rdI_k (by decide)]
              · rw [rdI_j hb, rdI_k (by decide), rdI_k (by decide)]
            · rw [rdI_k (by decide), rdI_k (by decide), rdI_k (by decide), rdI_k (by decide), rdI_k (by decide)])
        · refine t_if_eq 243 dX11_readsThing_236 (by decide) (by decide) ?_
          refine x_iconst (v := nI 0) dX11_readsThing_243 (by decide) ?_
          refine y_iadd dX11_readsThing_244 ?_
          refine x_putI pX11_153 dX11_readsThing_245 l83 rfl ?_
          refine x_aload_n 5 dX11_readsThing_248 rfl rfl ?_
          refine x_dup dX11_readsThing_249 rfl ?_
          refine y_getI fX11_144 dX11_readsThing_250 l83 rfl ((((((rdI_j (by decide))).trans (rdI_k (by decide))).trans (rdI_k (by decide))).trans (rdI_j (by decide))).trans hr2) ?_
          refine x_iconst (v := nI 1) dX11_readsThing_253 (by decide) ?_
          refine y_iadd dX11_readsThing_254 ?_
          refine x_putI pX11_144 dX11_readsThing_255 l83 rfl ?_
          refine x_iconst (v := nI 1) dX11_readsThing_258 (by decide) ?_
          refine x_zret rfl dX11_readsThing_259 (by decide) (by
            have hbk : ¬ (if 0 < rm q then iB I + 1 else iB I) = iB I ↔ bagK q := by
              rw [← hrp]
              by_cases z : 0 < rm q
              · rw [if_pos z]; exact ⟨fun _ => z, fun _ => by omega⟩
              · rw [if_neg z]; exact ⟨fun h => absurd rfl h, fun h => absurd h z⟩
            refine ⟨_, rfl, Or.inr ⟨by omega, rfl, ((((FrJ.refl.set (Or.inl (by decide))).set (Or.inr (by decide))).set (Or.inr (by decide))).set (Or.inl (by decide))).set (Or.inl (by decide)), ?_⟩⟩
            refine RdM_addT hR ?_ ?_ rdI_eq ?_ ?_ ?_ ?_ (fun a b ha hb => ?_) (fun b => ?_)
            · rw [rdI_j (by decide), rdI_j (by decide), rdI_k (by decide), rdI_k (by decide), rdI_eq]
            · rw [rdI_j (by decide), rdI_j (by decide), rdI_k (by decide), rdI_k (by decide), rdI_j (by decide)]
            · rw [rdI_j (by decide), rdI_eq]
              first
              | rw [if_pos (hrp.mpr c_233)]
              | (rw [if_neg (fun z => c_233 (hrp.mp z))]; rfl)
            · rw [rdI_j (by decide), rdI_j (by decide), rdI_k (by decide), rdI_k (by decide), rdI_j (by decide)]
            · rw [rdI_k (by decide), rdI_k (by decide), rdI_k (by decide), rdI_eq]
            · rw [rdI_k (by decide), rdI_k (by decide), rdI_eq]
            · rw [rdI_k (by omega), rdI_k (by omega)]
              rcases ha with rfl | rfl
              · rw [rdI_k (by decide), rdI_j hb, rdI_k (by decide)]
              · rw [rdI_j hb, rdI_k (by decide), rdI_k (by decide)]
            · rw [rdI_k (by decide), rdI_k (by decide), rdI_k (by decide), rdI_k (by decide), rdI_k (by decide)])
      · refine x_iload 0 dX11_readsThing_188 rfl ?_
        refine x_iconst (v := nI 3) dX11_readsThing_190 (by decide) ?_
        refine y_ic_le 196 dX11_readsThing_191 (by decide) (by omega) (by omega) (fun c_191 => ?_) (fun c_191 => ?_)
        · refine x_aload_n 5 dX11_readsThing_196 rfl rfl ?_
          refine x_dup dX11_readsThing_197 rfl ?_
          refine y_getI fX11_126 dX11_readsThing_198 l83 rfl hp ?_
          refine x_iconst (v := nI 1) dX11_readsThing_201 (by decide) ?_
          refine y_iadd dX11_readsThing_202 ?_
          refine x_putI pX11_126 dX11_readsThing_203 l83 rfl ?_
          refine x_aload_n 5 dX11_readsThing_206 rfl rfl ?_
          refine x_getR fX11_41 dX11_readsThing_207 l83 rfl ?_
          refine x_aload_n 5 dX11_readsThing_210 rfl rfl ?_
          refine y_getI fX11_144 dX11_readsThing_211 l83 rfl (((rdI_j (by decide))).trans hr2) ?_
          refine x_iload_n 4 dX11_readsThing_214 rfl rfl ?_
          refine y_iast dX11_readsThing_215 l94 (by omega) (by decide) ?_
          refine x_aload_n 5 dX11_readsThing_216 rfl rfl ?_
          refine x_getR fX11_44 dX11_readsThing_217 l83 rfl ?_
          refine x_aload_n 5 dX11_readsThing_220 rfl rfl ?_
          refine y_getI fX11_144 dX11_readsThing_221 l83 rfl ((((rdI_k (by decide))).trans (rdI_j (by decide))).trans hr2) ?_
          refine x_iload 2 dX11_readsThing_224 rfl ?_
          refine y_iast dX11_readsThing_226 l95 (by omega) (by decide) ?_
          refine x_aload_n 5 dX11_readsThing_227 rfl rfl ?_
          refine x_dup dX11_readsThing_228 rfl ?_
          refine y_getI fX11_153 dX11_readsThing_229 l83 rfl (((((rdI_k (by decide))).trans (rdI_k (by decide))).trans (rdI_j (by decide))).trans hr3) ?_
          refine x_iload_n 4 dX11_readsThing_232 rfl rfl ?_
          refine x_callSb (as := [_]) (rest := [_, _]) sX11_150 (c_X11_isBagKind hq) dX11_readsThing_233 rfl rfl (Nat.le_of_ble_eq_true rfl) (Nat.le_of_ble_eq_true rfl) (Nat.le_of_ble_eq_true rfl) (fun c_233 => ?_) (fun c_233 => ?_)
          · refine u_if_eq 243 dX11_readsThing_236 (by decide) (by decide) ?_
            refine x_iconst (v := nI 1) dX11_readsThing_239 (by decide) ?_
            refine x_goto 244 dX11_readsThing_240 (by decide) ?_
            refine y_iadd dX11_readsThing_244 ?_
            refine x_putI pX11_153 dX11_readsThing_245 l83 rfl ?_
            refine x_aload_n 5 dX11_readsThing_248 rfl rfl ?_
            refine x_dup dX11_readsThing_249 rfl ?_
            refine y_getI fX11_144 dX11_readsThing_250 l83 rfl ((((((rdI_j (by decide))).trans (rdI_k (by decide))).trans (rdI_k (by decide))).trans (rdI_j (by decide))).trans hr2) ?_
            refine x_iconst (v := nI 1) dX11_readsThing_253 (by decide) ?_
            refine y_iadd dX11_readsThing_254 ?_
            refine x_putI pX11_144 dX11_readsThing_255 l83 rfl ?_
            refine x_iconst (v := nI 1) dX11_readsThing_258 (by decide) ?_
            refine x_zret rfl dX11_readsThing_259 (by decide) (by
              have hbk : ¬ (if 0 < rm q then iB I + 1 else iB I) = iB I ↔ bagK q := by
                rw [← hrp]
                by_cases z : 0 < rm q
                · rw [if_pos z]; exact ⟨fun _ => z, fun _ => by omega⟩
                · rw [if_neg z]; exact ⟨fun h => absurd rfl h, fun h => absurd h z⟩
              refine ⟨_, rfl, Or.inr ⟨by omega, rfl, ((((FrJ.refl.set (Or.inl (by decide))).set (Or.inr (by decide))).set (Or.inr (by decide))).set (Or.inl (by decide))).set (Or.inl (by decide)), ?_⟩⟩
              refine RdM_addT hR ?_ ?_ rdI_eq ?_ ?_ ?_ ?_ (fun a b ha hb => ?_) (fun b => ?_)
              · rw [rdI_j (by decide), rdI_j (by decide), rdI_k (by decide), rdI_k (by decide), rdI_eq]
              · rw [rdI_j (by decide), rdI_j (by decide), rdI_k (by decide), rdI_k (by decide), rdI_j (by decide)]
              · rw [rdI_j (by decide), rdI_eq]
                first
                | rw [if_pos (hrp.mpr c_233)]
                | (rw [if_neg (fun z => c_233 (hrp.mp z))]; rfl)
              · rw [rdI_j (by decide), rdI_j (by decide), rdI_k (by decide), rdI_k (by decide), rdI_j (by decide)]
              · rw [rdI_k (by decide), rdI_k (by decide), rdI_k (by decide), rdI_eq]
              · rw [rdI_k (by decide), rdI_k (by decide), rdI_eq]
              · rw [rdI_k (by omega), rdI_k (by omega)]
                rcases ha with rfl | rfl
                · rw [rdI_k (by decide), rdI_j hb, rdI_k (by decide)]
                · rw [rdI_j hb, rdI_k (by decide), rdI_k (by decide)]
              · rw [rdI_k (by decide), rdI_k (by decide), rdI_k (by decide), rdI_k (by decide), rdI_k (by decide)])
          · refine t_if_eq 243 dX11_readsThing_236 (by decide) (by decide) ?_
            refine x_iconst (v := nI 0) dX11_readsThing_243 (by decide) ?_
            refine y_iadd dX11_readsThing_244 ?_
            refine x_putI pX11_153 dX11_readsThing_245 l83 rfl ?_
            refine x_aload_n 5 dX11_readsThing_248 rfl rfl ?_
            refine x_dup dX11_readsThing_249 rfl ?_
            refine y_getI fX11_144 dX11_readsThing_250 l83 rfl ((((((rdI_j (by decide))).trans (rdI_k (by decide))).trans (rdI_k (by decide))).trans (rdI_j (by decide))).trans hr2) ?_
            refine x_iconst (v := nI 1) dX11_readsThing_253 (by decide) ?_
            refine y_iadd dX11_readsThing_254 ?_
            refine x_putI pX11_144 dX11_readsThing_255 l83 rfl ?_
            refine x_iconst (v := nI 1) dX11_readsThing_258 (by decide) ?_
            refine x_zret rfl dX11_readsThing_259 (by decide) (by
              have hbk : ¬ (if 0 < rm q then iB I + 1 else iB I) = iB I ↔ bagK q := by
                rw [← hrp]
                by_cases z : 0 < rm q
                · rw [if_pos z]; exact ⟨fun _ => z, fun _ => by omega⟩
                · rw [if_neg z]; exact ⟨fun h => absurd rfl h, fun h => absurd h z⟩
              refine ⟨_, rfl, Or.inr ⟨by omega, rfl, ((((FrJ.refl.set (Or.inl (by decide))).set (Or.inr (by decide))).set (Or.inr (by decide))).set (Or.inl (by decide))).set (Or.inl (by decide)), ?_⟩⟩
              refine RdM_addT hR ?_ ?_ rdI_eq ?_ ?_ ?_ ?_ (fun a b ha hb => ?_) (fun b => ?_)
              · rw [rdI_j (by decide), rdI_j (by decide), rdI_k (by decide), rdI_k (by decide), rdI_eq]
              · rw [rdI_j (by decide), rdI_j (by decide), rdI_k (by decide), rdI_k (by decide), rdI_j (by decide)]
              · rw [rdI_j (by decide), rdI_eq]
                first
                | rw [if_pos (hrp.mpr c_233)]
                | (rw [if_neg (fun z => c_233 (hrp.mp z))]; rfl)
              · rw [rdI_j (by decide), rdI_j (by decide), rdI_k (by decide), rdI_k (by decide), rdI_j (by decide)]
              · rw [rdI_k (by decide), rdI_k (by decide), rdI_k (by decide), rdI_eq]
              · rw [rdI_k (by decide), rdI_k (by decide), rdI_eq]
              · rw [rdI_k (by omega), rdI_k (by omega)]
                rcases ha with rfl | rfl
                · rw [rdI_k (by decide), rdI_j hb, rdI_k (by decide)]
                · rw [rdI_j hb, rdI_k (by decide), rdI_k (by decide)]
              · rw [rdI_k (by decide), rdI_k (by decide), rdI_k (by decide), rdI_k (by decide), rdI_k (by decide)])
        · refine x_iconst (v := nI 0) dX11_readsThing_194 (by decide) ?_
          refine x_zret rfl dX11_readsThing_195 (by decide) (by first | (exfalso; omega) | exact ⟨_, rfl, Or.inl ⟨by omega, rfl, rfl⟩⟩)

set_option maxHeartbeats 4000000 in
set_option maxRecDepth 100000 in
theorem c_readsThing_1 {S : St} {t n pos : Nat} {β : Nat → Int32} (hx : TxM t n β S) {I : Isl} (hR : RdM pos I S) (hpn : pos ≤ n) (hPI : PI I) (hk9 : ¬ kdF (chF n β pos) = 9) : C 1 30 yX11_readsThing mX11_readsThing [.ref 83, .int (nI t)] S (qi (ItM (rdT (chF n β) pos I) S)) := by
  have hx1 := hx.1
  have hx2 := hx.2.1
  obtain ⟨hp, hr1, hr2, hr3, hr4, hr5, hr6⟩ := id hR
  have hsg := sg_M (i := pos) hx.2.2.1
  have hO := hPI.1
  have hO1 := hO.1
  have hO2 := hO.2.1
  have hO3 := hO.2.2.1
  have hO4 := hO.2.2.2.1
  have hk5 := (kd_in hk9).2
  have ek : kiF (-9) (chF n β pos) = nI (kdF (chF n β pos)) := by unfold kiF; rw [if_neg hk9]
  have hw2 := wt_le (kdF (chF n β pos))
  refine C.ofX (by decide) rfl (Nat.le_of_ble_eq_true rfl) ?_
  show X 1 30 mX11_readsThing (qi (ItM (rdT (chF n β) pos I) S)) 0 [(0, .ref 83), (1, .int (nI t))] [] S
  refine x_aload_n 0 dX11_readsThing_0 rfl rfl ?_
  refine x_iload_n 1 dX11_readsThing_1 rfl rfl ?_
  refine x_aload_n 0 dX11_readsThing_2 rfl rfl ?_
  refine y_getI fX11_126 dX11_readsThing_3 l83 rfl hp ?_
  refine x_callVu (as := [_, _]) (rest := []) vX11_129 (c_byteM hx (by omega)) dX11_readsThing_6 l83 rfl rfl rfl (Nat.le_of_ble_eq_true rfl) (Nat.le_of_ble_eq_true rfl) (Nat.le_of_ble_eq_true rfl) ?_
  refine x_callSu (as := [_]) (rest := []) sX11_141 (c_X11_kindOf hsg) dX11_readsThing_9 rfl rfl (Nat.le_of_ble_eq_true rfl) (Nat.le_of_ble_eq_true rfl) (Nat.le_of_ble_eq_true rfl) ?_
  rw [ek]
  refine x_istore_n (lv' := [(2, _), (0, _), (1, _)]) dX11_readsThing_12 rfl (by decide) rfl ?_
  refine x_iload_n 0 dX11_readsThing_13 rfl rfl ?_
  refine x_bipush (v := -9) dX11_readsThing_14 (by decide) ?_
  refine x_ic_eq 49 dX11_readsThing_16 (by decide) (fun c_16 => ?_) (fun c_16 => ?_)
  · refine x_iconst (v := nI 0) dX11_readsThing_49 (by decide) ?_
    refine x_zret rfl dX11_readsThing_50 (by decide) (by
      first
      | exact absurd c_16 (nI_ne9 (by omega))
      | exact ⟨_, rfl, ItM.f (rdT_0 (fun h => by have h1 := h.2.1; have h2 := h.2.2.1; omega)) FrJ.refl hp⟩
      | exact ⟨_, rfl, ItM.f (rdT_0 (fun h => h.2.2.2 ⟨c_35, by omega⟩)) FrJ.refl hp⟩)
  · refine x_aload_n 1 dX11_readsThing_19 rfl rfl ?_
    refine y_getI fX11_144 dX11_readsThing_20 l83 rfl hr2 ?_
    refine x_iconst (v := nI 5) dX11_readsThing_23 (by decide) ?_
    refine y_ic_eq 49 dX11_readsThing_24 (by decide) (by omega) (by omega) (fun c_24 => ?_) (fun c_24 => ?_)
    · refine x_iconst (v := nI 0) dX11_readsThing_49 (by decide) ?_
      refine x_zret rfl dX11_readsThing_50 (by decide) (by
        first
        | exact absurd c_16 (nI_ne9 (by omega))
        | exact ⟨_, rfl, ItM.f (rdT_0 (fun h => by have h1 := h.2.1; have h2 := h.2.2.1; omega)) FrJ.refl hp⟩
        | exact ⟨_, rfl, ItM.f (rdT_0 (fun h => h.2.2.2 ⟨c_35, by omega⟩)) FrJ.refl hp⟩)
    · refine x_aload_n 1 dX11_readsThing_27 rfl rfl ?_
      refine y_getI fX11_147 dX11_readsThing_28 l83 rfl hr4 ?_
      refine y_if_gt 49 dX11_readsThing_31 (by decide) (by omega) (fun c_31 => ?_) (fun c_31 => ?_)
      · refine x_iconst (v := nI 0) dX11_readsThing_49 (by decide) ?_
        refine x_zret rfl dX11_readsThing_50 (by decide) (by
          first
          | exact absurd c_16 (nI_ne9 (by omega))
          | exact ⟨_, rfl, ItM.f (rdT_0 (fun h => by have h1 := h.2.1; have h2 := h.2.2.1; omega)) FrJ.refl hp⟩
          | exact ⟨_, rfl, ItM.f (rdT_0 (fun h => h.2.2.2 ⟨c_35, by omega⟩)) FrJ.refl hp⟩)
      · refine x_iload_n 0 dX11_readsThing_34 rfl rfl ?_
        refine x_callSb (as := [_]) (rest := []) sX11_150 (c_X11_isBagKind hk5) dX11_readsThing_35 rfl rfl (Nat.le_of_ble_eq_true rfl) (Nat.le_of_ble_eq_true rfl) (Nat.le_of_ble_eq_true rfl) (fun c_35 => ?_) (fun c_35 => ?_)
        · refine u_if_eq 51 dX11_readsThing_38 (by decide) (by decide) ?_
          refine x_aload_n 1 dX11_readsThing_41 rfl rfl ?_
          refine y_getI fX11_153 dX11_readsThing_42 l83 rfl hr3 ?_
          refine x_iconst (v := nI 2) dX11_readsThing_45 (by decide) ?_
          refine y_ic_ne 51 dX11_readsThing_46 (by decide) (by omega) (by omega) (fun c_46 => ?_) (fun c_46 => ?_)
          · refine x_aload_n 1 dX11_readsThing_51 rfl rfl ?_
            refine x_dup dX11_readsThing_52 rfl ?_
            refine y_getI fX11_126 dX11_readsThing_53 l83 rfl hp ?_
            refine x_iconst (v := nI 1) dX11_readsThing_56 (by decide) ?_
            refine y_iadd dX11_readsThing_57 ?_
            refine x_putI pX11_126 dX11_readsThing_58 l83 rfl ?_
            have f1 : FrJ S (setI S 83 19 (nI (pos + 1))) := FrJ.refl.set (Or.inl (by decide))
            have hx1' : TxM t n β (setI S 83 19 (nI (pos + 1))) := hx.fr f1
            have hR1 : RdM (pos + 1) I (setI S 83 19 (nI (pos + 1))) := hR.keep rdI_eq (fun b h1 h2 => rdI_j (by omega)) (fun a b h1 h2 => rdI_k (by omega))
            have hsg2 := sg_M (n := n) (i := pos + 1) hx.2.2.1
            have hz := hsg2.eq (k := 122) (by decide) (by decide)
            have hm4 : iM I < 5 := by omega
            have hmT : mayT (chF n β) pos I := ⟨hk9, by omega, by omega, fun h => by
              first
              | exact c_35 h.1
              | exact absurd h.2 (by omega)⟩
            refine x_aload_n 1 dX11_readsThing_61 rfl rfl ?_
            refine x_iload_n 2 dX11_readsThing_62 rfl rfl ?_
            refine x_aload_n 1 dX11_readsThing_63 rfl rfl ?_
            refine y_getI fX11_126 dX11_readsThing_64 l83 rfl rdI_eq ?_
            refine x_callVu (as := [_, _]) (rest := []) vX11_129 (c_byteM hx1' (by omega)) dX11_readsThing_67 l83 rfl rfl rfl (Nat.le_of_ble_eq_true rfl) (Nat.le_of_ble_eq_true rfl) (Nat.le_of_ble_eq_true rfl) ?_
            refine x_istore_n (lv' := [(3, _), (2, _), (0, _), (1, _)]) dX11_readsThing_70 rfl (by decide) rfl ?_
            refine x_iload_n 0 dX11_readsThing_71 rfl rfl ?_
            refine x_bipush (v := nI 122) dX11_readsThing_72 (by decide) ?_
            refine x_ic_ne 81 dX11_readsThing_74 (by decide) (fun c_74 => ?_) (fun c_74 => ?_)
            · refine x_iload_n 0 dX11_readsThing_81 rfl rfl ?_
              refine x_bipush (v := nI 48) dX11_readsThing_82 (by decide) ?_
              refine x_isub dX11_readsThing_84 ?_
              refine x_istore (lv' := [(4, _), (3, _), (2, _), (0, _), (1, _)]) dX11_readsThing_85 (by decide) rfl ?_
              refine x_iload_n 1 dX11_readsThing_87 rfl rfl ?_
              refine x_bipush (v := nI 122) dX11_readsThing_88 (by decide) ?_
              refine x_ic_ne 108 dX11_readsThing_90 (by decide) (fun c_90 => ?_) (fun c_90 => ?_)
              · refine x_iload 0 dX11_readsThing_108 rfl ?_
                refine x_iconst (v := nI 0) dX11_readsThing_110 (by decide) ?_
                refine x_aload_n 3 dX11_readsThing_111 rfl rfl ?_
                refine y_getI fX11_138 dX11_readsThing_112 l83 rfl (((rdI_j (by decide))).trans hr1) ?_
                refine x_iconst (v := nI 1) dX11_readsThing_115 (by decide) ?_
                refine x_isub dX11_readsThing_116 ?_
                refine x_callSb (as := [_, _, _]) (rest := []) sX11_98 c_X11_in dX11_readsThing_117 rfl rfl (Nat.le_of_ble_eq_true rfl) (Nat.le_of_ble_eq_true rfl) (Nat.le_of_ble_eq_true rfl) (fun c_117 => ?_) (fun c_117 => ?_)
                · refine x_istore (lv' := [(5, _), (4, _), (3, _), (2, _), (0, _), (1, _)]) dX11_readsThing_120 (by decide) rfl ?_
                  refine x_iload_n 3 dX11_readsThing_122 rfl rfl ?_
                  refine x_callSu (as := [_]) (rest := []) sX11_159 (c_X11_counts hk5) dX11_readsThing_123 rfl rfl (Nat.le_of_ble_eq_true rfl) (Nat.le_of_ble_eq_true rfl) (Nat.le_of_ble_eq_true rfl) ?_
                  refine x_istore (lv' := [(6, _), (5, _), (4, _), (3, _), (2, _), (0, _), (1, _)]) dX11_readsThing_126 (by decide) rfl ?_
                  refine x_iconst (v := nI 0) dX11_readsThing_128 (by decide) ?_
                  refine x_istore (lv' := [(7, _), (6, _), (5, _), (4, _), (3, _), (2, _), (0, _), (1, _)]) dX11_readsThing_129 (by decide) rfl ?_
                  refine x_pick (lv' := [(7, _), (6, _), (5, _), (4, _), (3, _), (2, _), (0, _), (1, _)]) [0, 1, 2, 3, 4, 5, 6, 7] rfl ?_
                  have hin := (in_iff (by omega)).mp c_117
                  have hd48 : 48 ≤ (chF n β (pos + 1)) ∧ (chF n β (pos + 1)) ≤ 57 := (hsg2.fig (lo := 0) (hi := 9) (by decide)).mp ⟨by omega, by omega⟩
                  have hdv := hsg2.val hd48.1 hd48.2
                  have hdi : (sgM n β (pos + 1) - nI 48).toInt = (((chF n β (pos + 1)) - 48 : Nat) : Int) := by rw [hdv]; exact tiN (by omega)
                  have hpl : plT (chF n β) pos = (chF n β (pos + 1)) - 48 := if_neg (fun e => c_90 (hz.mpr e))
                  refine lp_rt1 hR1 hPI hk5 ?_ 0 (Nat.zero_le _)
                  rw [hdv, ld_n (fun t ht => by have := hPI.s4 t ht; omega) (by omega)]
                  have hld := loadF_le I hO (iS I) ((chF n β (pos + 1)) - 48)
                  refine (lp_rt3 hR1 hPI hk5 hm4 (by omega) (by omega) 0 (by decide)).mono (fun v S' hq => ?_)
                  obtain ⟨r, rfl, hq⟩ := hq
                  rcases hq with ⟨h1, rfl, rfl⟩ | ⟨h1, rfl, h3, h4⟩
                  · refine ⟨_, rfl, ItM.f (rdT_1 hmT (fun h => ?_)) f1 rdI_eq⟩
                    rcases h with ⟨h2, _⟩ | ⟨_, h2, h3⟩
                    · exact c_90 (hz.mpr h2)
                    · exact h1 (Or.inr (by omega))
                  · refine ⟨_, rfl, ItM.t (rdT_2 hmT (Or.inr ⟨hd48.1, by omega, by omega⟩)) (f1.trans h3) ?_⟩
                    rw [hpl]; exact h4
                · refine x_istore (lv' := [(5, _), (4, _), (3, _), (2, _), (0, _), (1, _)]) dX11_readsThing_120 (by decide) rfl ?_
                  refine x_iload_n 3 dX11_readsThing_122 rfl rfl ?_
                  refine x_callSu (as := [_]) (rest := []) sX11_159 (c_X11_counts hk5) dX11_readsThing_123 rfl rfl (Nat.le_of_ble_eq_true rfl) (Nat.le_of_ble_eq_true rfl) (Nat.le_of_ble_eq_true rfl) ?_
                  refine x_istore (lv' := [(6, _), (5, _), (4, _), (3, _), (2, _), (0, _), (1, _)]) dX11_readsThing_126 (by decide) rfl ?_
                  refine x_iconst (v := nI 0) dX11_readsThing_128 (by decide) ?_
                  refine x_istore (lv' := [(7, _), (6, _), (5, _), (4, _), (3, _), (2, _), (0, _), (1, _)]) dX11_readsThing_129 (by decide) rfl ?_
                  refine x_pick (lv' := [(7, _), (6, _), (5, _), (4, _), (3, _), (2, _), (0, _), (1, _)]) [0, 1, 2, 3, 4, 5, 6, 7] rfl ?_
                  refine lp_rt1 hR1 hPI hk5 ?_ 0 (Nat.zero_le _)
                  refine (lp_rt2 (pos := pos + 1) hR1 hPI hk5 0 (by decide)).mono (fun v S' hq => ?_)
                  obtain ⟨rfl, rfl⟩ := hq
                  refine ⟨_, rfl, ItM.f (rdT_1 hmT (fun h => ?_)) f1 rdI_eq⟩
                  rcases h with ⟨h1, h2⟩ | ⟨h1, h2, h3⟩
                  · first
                    | exact h2 c_94
                    | exact c_90 (hz.mpr h1)
                  · first
                    | exact absurd (hz.mp c_90) (by omega)
                    | (refine c_117 ?_
                       have hdv9 := hsg2.val h1 (by omega)
                       rw [hdv9]
                       exact (in_iff (by omega)).mpr (by have := tiN (show chF n β (pos + 1) - 48 < 2147483648 by omega); omega))
              · exact absurd c_90 c_74
            · refine x_iconst (v := nI 4) dX11_readsThing_77 (by decide) ?_
              refine x_goto 85 dX11_readsThing_78 (by decide) ?_
              refine x_istore (lv' := [(4, _), (3, _), (2, _), (0, _), (1, _)]) dX11_readsThing_85 (by decide) rfl ?_
              refine x_iload_n 1 dX11_readsThing_87 rfl rfl ?_
              refine x_bipush (v := nI 122) dX11_readsThing_88 (by decide) ?_
              refine x_ic_ne 108 dX11_readsThing_90 (by decide) (fun c_90 => ?_) (fun c_90 => ?_)
              · exact absurd c_74 c_90
              · refine x_iload_n 2 dX11_readsThing_93 rfl rfl ?_
                refine x_callSb (as := [_]) (rest := []) sX11_156 (c_X11_isLivingKind hk5) dX11_readsThing_94 rfl rfl (Nat.le_of_ble_eq_true rfl) (Nat.le_of_ble_eq_true rfl) (Nat.le_of_ble_eq_true rfl) (fun c_94 => ?_) (fun c_94 => ?_)
                · refine t_if_ne 104 dX11_readsThing_97 (by decide) (by decide) ?_
                  refine x_iconst (v := nI 0) dX11_readsThing_104 (by decide) ?_
                  refine x_goto 120 dX11_readsThing_105 (by decide) ?_
                  refine x_istore (lv' := [(5, _), (4, _), (3, _), (2, _), (0, _), (1, _)]) dX11_readsThing_120 (by decide) rfl ?_
                  refine x_iload_n 3 dX11_readsThing_122 rfl rfl ?_
                  refine x_callSu (as := [_]) (rest := []) sX11_159 (c_X11_counts hk5) dX11_readsThing_123 rfl rfl (Nat.le_of_ble_eq_true rfl) (Nat.le_of_ble_eq_true rfl) (Nat.le_of_ble_eq_true rfl) ?_
                  refine x_istore (lv' := [(6, _), (5, _), (4, _), (3, _), (2, _), (0, _), (1, _)]) dX11_readsThing_126 (by decide) rfl ?_
                  refine x_iconst (v := nI 0) dX11_readsThing_128 (by decide) ?_
                  refine x_istore (lv' := [(7, _), (6, _), (5, _), (4, _), (3, _), (2, _), (0, _), (1, _)]) dX11_readsThing_129 (by decide) rfl ?_
                  refine x_pick (lv' := [(7, _), (6, _), (5, _), (4, _), (3, _), (2, _), (0, _), (1, _)]) [0, 1, 2, 3, 4, 5, 6, 7] rfl ?_
                  refine lp_rt1 hR1 hPI hk5 ?_ 0 (Nat.zero_le _)
                  refine (lp_rt2 (pos := pos + 1) hR1 hPI hk5 0 (by decide)).mono (fun v S' hq => ?_)
                  obtain ⟨rfl, rfl⟩ := hq
                  refine ⟨_, rfl, ItM.f (rdT_1 hmT (fun h => ?_)) f1 rdI_eq⟩
                  rcases h with ⟨h1, h2⟩ | ⟨h1, h2, h3⟩
                  · first
                    | exact h2 c_94
                    | exact c_90 (hz.mpr h1)
                  · first
                    | exact absurd (hz.mp c_90) (by omega)
                    | (refine c_117 ?_
                       have hdv9 := hsg2.val h1 (by omega)
                       rw [hdv9]
                       exact (in_iff (by omega)).mpr (by have := tiN (show chF n β (pos + 1) - 48 < 2147483648 by omega); omega))
                · refine u_if_ne 104 dX11_readsThing_97 (by decide) (by decide) ?_
                  refine x_iconst (v := nI 1) dX11_readsThing_100 (by decide) ?_
                  refine x_goto 120 dX11_readsThing_101 (by decide) ?_
                  refine x_istore (lv' := [(5, _), (4, _), (3, _), (2, _), (0, _), (1, _)]) dX11_readsThing_120 (by decide) rfl ?_
                  refine x_iload_n 3 dX11_readsThing_122 rfl rfl ?_
                  refine x_callSu (as := [_]) (rest := []) sX11_159 (c_X11_counts hk5) dX11_readsThing_123 rfl rfl (Nat.le_of_ble_eq_true rfl) (Nat.le_of_ble_eq_true rfl) (Nat.le_of_ble_eq_true rfl) ?_
                  refine x_istore (lv' := [(6, _), (5, _), (4, _), (3, _), (2, _), (0, _), (1, _)]) dX11_readsThing_126 (by decide) rfl ?_
                  refine x_iconst (v := nI 0) dX11_readsThing_128 (by decide) ?_
                  refine x_istore (lv' := [(7, _), (6, _), (5, _), (4, _), (3, _), (2, _), (0, _), (1, _)]) dX11_readsThing_129 (by decide) rfl ?_
                  refine x_pick (lv' := [(7, _), (6, _), (5, _), (4, _), (3, _), (2, _), (0, _), (1, _)]) [0, 1, 2, 3, 4, 5, 6, 7] rfl ?_
                  have hc2 := hz.mp c_74
                  have hpl : plT (chF n β) pos = 4 := if_pos hc2
                  refine lp_rt1 hR1 hPI hk5 ?_ 0 (Nat.zero_le _)
                  refine (lp_rt3 hR1 hPI hk5 hm4 (by have := ld_le (I := I) (pl := nI 4) (iM I); omega) (Nat.le_refl 4) 0 (by decide)).mono (fun v S' hq => ?_)
                  obtain ⟨r, rfl, hq⟩ := hq
                  rcases hq with ⟨h1, _⟩ | ⟨h1, rfl, h3, h4⟩
                  · exact absurd (Or.inl rfl) h1
                  · refine ⟨_, rfl, ItM.t (rdT_2 hmT (Or.inl ⟨hc2, c_94⟩)) (f1.trans h3) ?_⟩
                    rw [hpl]; exact h4
          · refine x_iconst (v := nI 0) dX11_readsThing_49 (by decide) ?_
            refine x_zret rfl dX11_readsThing_50 (by decide) (by
              first
              | exact absurd c_16 (nI_ne9 (by omega))
              | exact ⟨_, rfl, ItM.f (rdT_0 (fun h => by have h1 := h.2.1; have h2 := h.2.2.1; omega)) FrJ.refl hp⟩
              | exact ⟨_, rfl, ItM.f (rdT_0 (fun h => h.2.2.2 ⟨c_35, by omega⟩)) FrJ.refl hp⟩)
        · refine t_if_eq 51 dX11_readsThing_38 (by decide) (by decide) ?_
          refine x_aload_n 1 dX11_readsThing_51 rfl rfl ?_
          refine x_dup dX11_readsThing_52 rfl ?_
          refine y_getI fX11_126 dX11_readsThing_53 l83 rfl hp ?_
          refine x_iconst (v := nI 1) dX11_readsThing_56 (by decide) ?_
          refine y_iadd dX11_readsThing_57 ?_
          refine x_putI pX11_126 dX11_readsThing_58 l83 rfl ?_
          have f1 : FrJ S (setI S 83 19 (nI (pos + 1))) := FrJ.refl.set (Or.inl (by decide))
          have hx1' : TxM t n β (setI S 83 19 (nI (pos + 1))) := hx.fr f1
          have hR1 : RdM (pos + 1) I (setI S 83 19 (nI (pos + 1))) := hR.keep rdI_eq (fun b h1 h2 => rdI_j (by omega)) (fun a b h1 h2 => rdI_k (by omega))
          have hsg2 := sg_M (n := n) (i := pos + 1) hx.2.2.1
          have hz := hsg2.eq (k := 122) (by decide) (by decide)
          have hm4 : iM I < 5 := by omega
          have hmT : mayT (chF n β) pos I := ⟨hk9, by omega, by omega, fun h => by
            first
            | exact c_35 h.1
            | exact absurd h.2 (by omega)⟩
          refine x_aload_n 1 dX11_readsThing_61 rfl rfl ?_
          refine x_iload_n 2 dX11_readsThing_62 rfl rfl ?_
          refine x_aload_n 1 dX11_readsThing_63 rfl rfl ?_
          refine y_getI fX11_126 dX11_readsThing_64 l83 rfl rdI_eq ?_
          refine x_callVu (as := [_, _]) (rest := []) vX11_129 (c_byteM hx1' (by omega)) dX11_readsThing_67 l83 rfl rfl rfl (Nat.le_of_ble_eq_true rfl) (Nat.le_of_ble_eq_true rfl) (Nat.le_of_ble_eq_true rfl) ?_
          refine x_istore_n (lv' := [(3, _), (2, _), (0, _), (1, _)]) dX11_readsThing_70 rfl (by decide) rfl ?_
          refine x_iload_n 0 dX11_readsThing_71 rfl rfl ?_
          refine x_bipush (v := nI 122) dX11_readsThing_72 (by decide) ?_
          refine x_ic_ne 81 dX11_readsThing_74 (by decide) (fun c_74 => ?_) (fun c_74 => ?_)
          · refine x_iload_n 0 dX11_readsThing_81 rfl rfl ?_
            refine x_bipush (v := nI 48) dX11_readsThing_82 (by decide) ?_
            refine x_isub dX11_readsThing_84 ?_
            refine x_istore (lv' := [(4, _), (3, _), (2, _), (0, _), (1, _)]) dX11_readsThing_85 (by decide) rfl ?_
            refine x_iload_n 1 dX11_readsThing_87 rfl rfl ?_
            refine x_bipush (v := nI 122) dX11_readsThing_88 (by decide) ?_
            refine x_ic_ne 108 dX11_readsThing_90 (by decide) (fun c_90 => ?_) (fun c_90 => ?_)
            · refine x_iload 0 dX11_readsThing_108 rfl ?_
              refine x_iconst (v := nI 0) dX11_readsThing_110 (by decide) ?_
              refine x_aload_n 3 dX11_readsThing_111 rfl rfl ?_
              refine y_getI fX11_138 dX11_readsThing_112 l83 rfl (((rdI_j (by decide))).trans hr1) ?_
              refine x_iconst (v := nI 1) dX11_readsThing_115 (by decide) ?_
              refine x_isub dX11_readsThing_116 ?_
              refine x_callSb (as := [_, _, _]) (rest := []) sX11_98 c_X11_in dX11_readsThing_117 rfl rfl (Nat.le_of_ble_eq_true rfl) (Nat.le_of_ble_eq_true rfl) (Nat.le_of_ble_eq_true rfl) (fun c_117 => ?_) (fun c_117 => ?_)
              · refine x_istore (lv' := [(5, _), (4, _), (3, _), (2, _), (0, _), (1, _)]) dX11_readsThing_120 (by decide) rfl ?_
                refine x_iload_n 3 dX11_readsThing_122 rfl rfl ?_
                refine x_callSu (as := [_]) (rest := []) sX11_159 (c_X11_counts hk5) dX11_readsThing_123 rfl rfl (Nat.le_of_ble_eq_true rfl) (Nat.le_of_ble_eq_true rfl) (Nat.le_of_ble_eq_true rfl) ?_
                refine x_istore (lv' := [(6, _), (5, _), (4, _), (3, _), (2, _), (0, _), (1, _)]) dX11_readsThing_126 (by decide) rfl ?_
                refine x_iconst (v := nI 0) dX11_readsThing_128 (by decide) ?_
                refine x_istore (lv' := [(7, _), (6, _), (5, _), (4, _), (3, _), (2, _), (0, _), (1, _)]) dX11_readsThing_129 (by decide) rfl ?_
                refine x_pick (lv' := [(7, _), (6, _), (5, _), (4, _), (3, _), (2, _), (0, _), (1, _)]) [0, 1, 2, 3, 4, 5, 6, 7] rfl ?_
                have hin := (in_iff (by omega)).mp c_117
                have hd48 : 48 ≤ (chF n β (pos + 1)) ∧ (chF n β (pos + 1)) ≤ 57 := (hsg2.fig (lo := 0) (hi := 9) (by decide)).mp ⟨by omega, by omega⟩
                have hdv := hsg2.val hd48.1 hd48.2
                have hdi : (sgM n β (pos + 1) - nI 48).toInt = (((chF n β (pos + 1)) - 48 : Nat) : Int) := by rw [hdv]; exact tiN (by omega)
                have hpl : plT (chF n β) pos = (chF n β (pos + 1)) - 48 := if_neg (fun e => c_90 (hz.mpr e))
                refine lp_rt1 hR1 hPI hk5 ?_ 0 (Nat.zero_le _)
                rw [hdv, ld_n (fun t ht => by have := hPI.s4 t ht; omega) (by omega)]
                have hld := loadF_le I hO (iS I) ((chF n β (pos + 1)) - 48)
                refine (lp_rt3 hR1 hPI hk5 hm4 (by omega) (by omega) 0 (by decide)).mono (fun v S' hq => ?_)
                obtain ⟨r, rfl, hq⟩ := hq
                rcases hq with ⟨h1, rfl, rfl⟩ | ⟨h1, rfl, h3, h4⟩
                · refine ⟨_, rfl, ItM.f (rdT_1 hmT (fun h => ?_)) f1 rdI_eq⟩
                  rcases h with ⟨h2, _⟩ | ⟨_, h2, h3⟩
                  · exact c_90 (hz.mpr h2)
                  · exact h1 (Or.inr (by omega))
                · refine ⟨_, rfl, ItM.t (rdT_2 hmT (Or.inr ⟨hd48.1, by omega, by omega⟩)) (f1.trans h3) ?_⟩
                  rw [hpl]; exact h4
              · refine x_istore (lv' := [(5, _), (4, _), (3, _), (2, _), (0, _), (1, _)]) dX11_readsThing_120 (by decide) rfl ?_
                refine x_iload_n 3 dX11_readsThing_122 rfl rfl ?_
                refine x_callSu (as := [_]) (rest := []) sX11_159 (c_X11_counts hk5) dX11_readsThing_123 rfl rfl (Nat.le_of_ble_eq_true rfl) (Nat.le_of_ble_eq_true rfl) (Nat.le_of_ble_eq_true rfl) ?_
                refine x_istore (lv' := [(6, _), (5, _), (4, _), (3, _), (2, _), (0, _), (1, _)]) dX11_readsThing_126 (by decide) rfl ?_
                refine x_iconst (v := nI 0) dX11_readsThing_128 (by decide) ?_
                refine x_istore (lv' := [(7, _), (6, _), (5, _), (4, _), (3, _), (2, _), (0, _), (1, _)]) dX11_readsThing_129 (by decide) rfl ?_
                refine x_pick (lv' := [(7, _), (6, _), (5, _), (4, _), (3, _), (2, _), (0, _), (1, _)]) [0, 1, 2, 3, 4, 5, 6, 7] rfl ?_
                refine lp_rt1 hR1 hPI hk5 ?_ 0 (Nat.zero_le _)
                refine (lp_rt2 (pos := pos + 1) hR1 hPI hk5 0 (by decide)).mono (fun v S' hq => ?_)
                obtain ⟨rfl, rfl⟩ := hq
                refine ⟨_, rfl, ItM.f (rdT_1 hmT (fun h => ?_)) f1 rdI_eq⟩
                rcases h with ⟨h1, h2⟩ | ⟨h1, h2, h3⟩
                · first
                  | exact h2 c_94
                  | exact c_90 (hz.mpr h1)
                · first
                  | exact absurd (hz.mp c_90) (by omega)
                  | (refine c_117 ?_
                     have hdv9 := hsg2.val h1 (by omega)
                     rw [hdv9]
                     exact (in_iff (by omega)).mpr (by have := tiN (show chF n β (pos + 1) - 48 < 2147483648 by omega); omega))
            · exact absurd c_90 c_74
          · refine x_iconst (v := nI 4) dX11_readsThing_77 (by decide) ?_
            refine x_goto 85 dX11_readsThing_78 (by decide) ?_
            refine x_istore (lv' := [(4, _), (3, _), (2, _), (0, _), (1, _)]) dX11_readsThing_85 (by decide) rfl ?_
            refine x_iload_n 1 dX11_readsThing_87 rfl rfl ?_
            refine x_bipush (v := nI 122) dX11_readsThing_88 (by decide) ?_
            refine x_ic_ne 108 dX11_readsThing_90 (by decide) (fun c_90 => ?_) (fun c_90 => ?_)
            · exact absurd c_74 c_90
            · refine x_iload_n 2 dX11_readsThing_93 rfl rfl ?_
              refine x_callSb (as := [_]) (rest := []) sX11_156 (c_X11_isLivingKind hk5) dX11_readsThing_94 rfl rfl (Nat.le_of_ble_eq_true rfl) (Nat.le_of_ble_eq_true rfl) (Nat.le_of_ble_eq_true rfl) (fun c_94 => ?_) (fun c_94 => ?_)
              · refine t_if_ne 104 dX11_readsThing_97 (by decide) (by decide) ?_
                refine x_iconst (v := nI 0) dX11_readsThing_104 (by decide) ?_
                refine x_goto 120 dX11_readsThing_105 (by decide) ?_
                refine x_istore (lv' := [(5, _), (4, _), (3, _), (2, _), (0, _), (1, _)]) dX11_readsThing_120 (by decide) rfl ?_
                refine x_iload_n 3 dX11_readsThing_122 rfl rfl ?_
                refine x_callSu (as := [_]) (rest := []) sX11_159 (c_X11_counts hk5) dX11_readsThing_123 rfl rfl (Nat.le_of_ble_eq_true rfl) (Nat.le_of_ble_eq_true rfl) (Nat.le_of_ble_eq_true rfl) ?_
                refine x_istore (lv' := [(6, _), (5, _), (4, _), (3, _), (2, _), (0, _), (1, _)]) dX11_readsThing_126 (by decide) rfl ?_
                refine x_iconst (v := nI 0) dX11_readsThing_128 (by decide) ?_
                refine x_istore (lv' := [(7, _), (6, _), (5, _), (4, _), (3, _), (2, _), (0, _), (1, _)]) dX11_readsThing_129 (by decide) rfl ?_
                refine x_pick (lv' := [(7, _), (6, _), (5, _), (4, _), (3, _), (2, _), (0, _), (1, _)]) [0, 1, 2, 3, 4, 5, 6, 7] rfl ?_
                refine lp_rt1 hR1 hPI hk5 ?_ 0 (Nat.zero_le _)
                refine (lp_rt2 (pos := pos + 1) hR1 hPI hk5 0 (by decide)).mono (fun v S' hq => ?_)
                obtain ⟨rfl, rfl⟩ := hq
                refine ⟨_, rfl, ItM.f (rdT_1 hmT (fun h => ?_)) f1 rdI_eq⟩
                rcases h with ⟨h1, h2⟩ | ⟨h1, h2, h3⟩
                · first
                  | exact h2 c_94
                  | exact c_90 (hz.mpr h1)
                · first
                  | exact absurd (hz.mp c_90) (by omega)
                  | (refine c_117 ?_
                     have hdv9 := hsg2.val h1 (by omega)
                     rw [hdv9]
                     exact (in_iff (by omega)).mpr (by have := tiN (show chF n β (pos + 1) - 48 < 2147483648 by omega); omega))
              · refine u_if_ne 104 dX11_readsThing_97 (by decide) (by decide) ?_
                refine x_iconst (v := nI 1) dX11_readsThing_100 (by decide) ?_
                refine x_goto 120 dX11_readsThing_101 (by decide) ?_
                refine x_istore (lv' := [(5, _), (4, _), (3, _), (2, _), (0, _), (1, _)]) dX11_readsThing_120 (by decide) rfl ?_
                refine x_iload_n 3 dX11_readsThing_122 rfl rfl ?_
                refine x_callSu (as := [_]) (rest := []) sX11_159 (c_X11_counts hk5) dX11_readsThing_123 rfl rfl (Nat.le_of_ble_eq_true rfl) (Nat.le_of_ble_eq_true rfl) (Nat.le_of_ble_eq_true rfl) ?_
                refine x_istore (lv' := [(6, _), (5, _), (4, _), (3, _), (2, _), (0, _), (1, _)]) dX11_readsThing_126 (by decide) rfl ?_
                refine x_iconst (v := nI 0) dX11_readsThing_128 (by decide) ?_
                refine x_istore (lv' := [(7, _), (6, _), (5, _), (4, _), (3, _), (2, _), (0, _), (1, _)]) dX11_readsThing_129 (by decide) rfl ?_
                refine x_pick (lv' := [(7, _), (6, _), (5, _), (4, _), (3, _), (2, _), (0, _), (1, _)]) [0, 1, 2, 3, 4, 5, 6, 7] rfl ?_
                have hc2 := hz.mp c_74
                have hpl : plT (chF n β) pos = 4 := if_pos hc2
                refine lp_rt1 hR1 hPI hk5 ?_ 0 (Nat.zero_le _)
                refine (lp_rt3 hR1 hPI hk5 hm4 (by have := ld_le (I := I) (pl := nI 4) (iM I); omega) (Nat.le_refl 4) 0 (by decide)).mono (fun v S' hq => ?_)
                obtain ⟨r, rfl, hq⟩ := hq
                rcases hq with ⟨h1, _⟩ | ⟨h1, rfl, h3, h4⟩
                · exact absurd (Or.inl rfl) h1
                · refine ⟨_, rfl, ItM.t (rdT_2 hmT (Or.inl ⟨hc2, c_94⟩)) (f1.trans h3) ?_⟩
                  rw [hpl]; exact h4

theorem c_X11_readsThing {S : St} {t n pos : Nat} {β : Nat → Int32} (hx : TxM t n β S) {I : Isl} (hR : RdM pos I S) (hpn : pos ≤ n) (hPI : PI I) : C 1 30 yX11_readsThing mX11_readsThing [.ref 83, .int (nI t)] S (qi (ItM (rdT (chF n β) pos I) S)) := by
  by_cases hk9 : kdF (chF n β pos) = 9
  · exact c_readsThing_0 hx hR hpn hPI hk9
  · exact c_readsThing_1 hx hR hpn hPI hk9
