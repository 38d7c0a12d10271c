/-! rows copied; static calls into another class -/
abbrev cpM (M : Mm) (a0 a1 N : Nat) : Mm := (mT M, mL M, fun b j => if b = a1 then (if j < N then mI M a0 j else mI M a1 j) else mI M b j, mR M, mJ M, mD M)
theorem cpM_ne {aC : Nat → ClassId} {M : Mm} {a0 a1 N b : Nat} (h : b ≠ a1) : mE aC (cpM M a0 a1 N) b = mE aC M b := by
  refine mE_tag rfl rfl ?_ rfl rfl rfl
  funext j
  show (if b = a1 then _ else _) = _
  rw [if_neg h]
theorem lac_link : Cond.methodLink RJ7 150 arraycopyName ∈ AW := AW_in (List.mem_of_getElem? (i := 484) (by decide +kernel)) (by decide +kernel)
theorem lac_stat : Cond.static arraycopyName ∈ AW := AW_in (List.mem_of_getElem? (i := 485) (by decide +kernel)) (by decide +kernel)
theorem lac_nat : Cond.native arraycopyName ∈ AW := AW_in (List.mem_of_getElem? (i := 486) (by decide +kernel)) (by decide +kernel)
theorem lac_ini : Cond.initialized "java/lang/System" ∈ AW := AW_in (List.mem_of_getElem? (i := 78) (by decide +kernel)) (by decide +kernel)
theorem J_acopy {G : Gt} {γ : Γt} {own : String} {cc : ByteArray} {ret : Option FieldType} {M : Mm} {pc : Nat} {ls : List (Option Value)} {st : List Value} {k n d mc ms : Nat} {Qr : Option Value → Mm → Prop} {Qx : String → Mm → Prop} {lh : Launch} {nL : Nat} {nm : String} {idx a0 a1 N : Nat} {v : Int32} (hC : Cok G γ own cc ret d mc ms Qr Qx lh nL nm) (l1 : Cond.methodLink own idx arraycopyName ∈ AW) (ht0 : (mT M a0).1 = 7) (ht1 : (mT M a1).1 = 7) (hv : v.toInt = (N : Int)) (h0 : N ≤ mL M a0) (h1 : N ≤ mL M a1) (hd : 1 ≤ d) (hcat : (st.map fun v => v.category).sum ≤ 8) (dg : decode cc pc = .ok (.invokestatic idx, 3)) (kk : J G γ (cpM M a0 a1 N) (pc + 3) ls st k n) : J G γ M pc ls (.int v :: .int 0 :: rv a1 :: .int 0 :: rv a0 :: st) k n := by
  obtain ⟨p, l, e, R, s, m, args, below, meth, c, Qr1, Qx1, mc1, ms1, nL1⟩ := γ
  obtain ⟨hx, hb, hr, hml, hown, hts, hlk, hex, hG, hLow, hst, h00, rfl, rfl, rfl, rfl, rfl, rfl, rfl, hnm⟩ := hC
  intro H locs lsA hR hS hl
  rw [rv_pos (n := a0) (hR.ne (a := a0) (by rw [ht0]; decide)), rv_pos (n := a1) (hR.ne (a := a1) (by rw [ht1]; decide))]
  obtain ⟨hg0, L, hL, hP, hD⟩ := id hR
  obtain ⟨q0, hq0⟩ := va_pl_get (X := []) (f := mE G.2.1 M) ((hL a0).mpr (by rw [ht0]; decide))
  have hq0' : (va_pl L (mE G.2.1 M))[q0]? = some (a0, .inl (G.2.1 7, mL M a0, .inl (mI M a0))) := by rw [← mE_7 ht0]; exact hq0
  obtain ⟨q1, hq1⟩ := va_pl_get (X := []) (f := mE G.2.1 M) ((hL a1).mpr (by rw [ht1]; decide))
  have hq1s : (va_pl L (mE G.2.1 M))[q1]? = some (a1, mE G.2.1 M a1) := hq1
  have hq1' : (va_pl L (mE G.2.1 M))[q1]? = some (a1, .inl (G.2.1 7, mL M a1, .inl (mI M a1))) := by rw [← mE_7 ht1]; exact hq1s
  have hN : v.toNatClampNeg = N := by rw [Int32.toNatClampNeg]; omega
  have hz : (0 : Int32).toNatClampNeg = 0 := by decide
  refine va_copyi hx hb (by rw [hml]; exact hl.1.1.symm) hown (hts _ l1) (hts _ lac_nat) (hts _ lac_stat) (hts _ lac_ini) hG.1 hP hD hS q0 q1 0 0 hq0' hq1' rfl rfl (by decide) (by decide) (by decide) (by rw [Int32.lt_iff_toInt_lt, hv]; exact Int.not_lt.mpr (Int.natCast_nonneg N)) (by rw [hz, hN]; omega) (by rw [hz, hN]; omega) (fun i _ => rfl) (show 1 ≤ d from hd) (show _ + (nativeFrameWords "java/lang/System" "arraycopy" 5 + 11) ≤ 45 * d by
    have e : nativeFrameWords "java/lang/System" "arraycopy" 5 = 7 := by decide +kernel
    omega) dg (fun H1 locs1 hP1 hD1 hS1 => kk H1 locs1 lsA ?_ hS1 hl)
  rw [hz, hN] at hP1 hD1
  refine Rep.set hg0 hL hD (by rw [ht1]; decide) hq1s (fun b => rfl) ?_ (fun b hb => cpM_ne hb) hP1 hD1
  rw [mE_7 (M := cpM M a0 a1 N) ht1]
  have e9 : mI (cpM M a0 a1 N) a1 = va_cpy (mI M a0) (mI M a1) 0 0 N := by funext j; simp [mI, cpM, va_cpy]
  rw [e9]; rfl
def LkSO (own : String) (idx : Nat) (y : MethodName) (cc : ByteArray) (maxL : Nat) (ret : Option FieldType) (n : Nat) : Prop := Cond.methodLink own idx y ∈ AW ∧ Cond.static y ∈ AW ∧ Cond.initialized y.cls ∈ AW ∧ Cond.code y cc maxL ret ∈ AW ∧ (y.cls ≠ "java/lang/invoke/MethodHandle" ∧ y.cls ≠ "java/lang/invoke/VarHandle" ∧ (parseMethodDescriptor y.desc).map (fun d => d.parameters.length) = some n) ∧ maxL ≤ 26
theorem J_callSO {G : Gt} {γ : Γt} {own : String} {cc : ByteArray} {ret : Option FieldType} {M : Mm} {pc : Nat} {ls : List (Option Value)} {rest : List Value} {k n d mc ms : Nat} {Qr : Option Value → Mm → Prop} {Qx : String → Mm → Prop} {lh : Launch} {nL : Nat} {nm : String} {idx : Nat} {y : MethodName} {cy : ByteArray} {maxL : Nat} {rety : Option FieldType} {nA dy mcy msy : Nat} {Qrc : Option Value → Mm → Prop} {Qxc : String → Mm → Prop} {k1 n1 : Nat} (As st : List Value) (hC : Cok G γ own cc ret d mc ms Qr Qx lh nL nm) (lk : LkSO own idx y cy maxL rety nA) (hCt : Ct G lh y cy maxL rety dy M As mcy msy Qrc Qxc) (hst : st = As.reverse ++ rest) (hn9 : As.length = nA) (hcat : (rest.map fun v => v.category).sum ≤ 8) (hd : dy < d) (hk : k + mcy = k1) (hn : n + msy = n1) (hkc : k1 ≤ mc) (hnc : n1 ≤ ms)
    (dg : decode cc pc = .ok (.invokestatic idx, 3)) (hX : ∀ E M1, Qxc E M1 → Qx E M1) (kk : ∀ (v : Option Value) (M1 : Mm), Qrc v M1 → J G γ M1 (pc + 3) ls (v.toList ++ rest) k1 n1) : J G γ M pc ls st k n := by
  subst hk; subst hn; subst hst
  obtain ⟨p, l, e, R, s, m, args, below, meth, c, Qr1, Qx1, mc1, ms1, nL1⟩ := γ
  obtain ⟨hx, hb, hr, hml, hown, hts, hlk, hex, hG, hLow, hst, h0, rfl, rfl, rfl, rfl, rfl, rfl, rfl, hnm⟩ := hC
  obtain ⟨l1, l2, l3, l4, l5, l6⟩ := lk
  intro H locs lsA hR hS hl
  have hgi : GoodIn AW (wsOf y cy maxL rety) := AW_goodIn (fun w h => by
    rcases List.mem_cons.mp h with h | h
    · rw [h]; exact l4
    · exact h)
  exact W_of_run (vx_runS (As := As) (rest := rest) ⟨hx, hb, hml, hown, hts⟩ hCt ⟨callB_of nA hts hgi rfl rfl rfl (hts _ l3) (hts _ l1) l5 ⟨(show dy + 1 ≤ d by omega), (show 8 + (maxL + 11) + 45 * dy ≤ 45 * d by omega)⟩, hts _ l2⟩ ⟨CP_blind, fun U hU hW => ⟨rfl, hG.warm hW, by rw [hU]; exact Low.of hLow hS, by rw [hU]; exact hR⟩⟩ rfl hn9 hl.1.1 rfl (lv_room hcat) dg ⟨hkc, hnc⟩) hS hLow hl hlk hex hkc hnc hX (fun v M1 hq1 H1 locs1 lsA1 hR1 hS1 hl1 => kk v M1 hq1 H1 locs1 lsA1 hR1 hS1 hl1)
theorem lso_X2_33 : LkSO RX2 33 yJ7_copyOf_59c91 cJ7_copyOf_59c91 3 (some (.array .int)) 2 := ⟨AW_in (List.mem_of_getElem? (i := 473) (by decide +kernel)) (by decide +kernel), AW_in (List.mem_of_getElem? (i := 474) (by decide +kernel)) (by decide +kernel), it_J7, cw_J7_copyOf_59c91, ⟨by decide +kernel, by decide +kernel, by decide +kernel⟩, by decide⟩
theorem ct_J7_copyOf {G : Gt} {l : Launch} (hst : l.stackTraces = false) {M : Mm} {a n0 N : Nat} (c : Nat) (ht : (mT M a).1 = 7) (hL : mL M a = n0) (hlt : n0 < N) (hN : N ≤ 10000) : Ct G l yJ7_copyOf_59c91 cJ7_copyOf_59c91 3 (some (.array .int)) 2 M [rv a, .int (nI N)] 1 N (fun r9 M9 => ∃ q, r9 = some (rv q) ∧ (mT M q).1 = 0 ∧ q ≠ 0 ∧ M9 = cpM (nwM M q (7, c) N) a q n0) (noX) := by
  refine Ct_intro (own := RJ7) (nm := "copyOf") (by decide +kernel) rfl rfl hst (fun w hw => by simp only [List.mem_cons, List.not_mem_nil, or_false] at hw; rcases hw with rfl | rfl <;> first | rfl | exact rv_cat _) (Nat.le_of_ble_eq_true rfl) (fun γ hC => ?_)
  show J G γ M 0 [some (rv a), some (.int (nI N))] [] 0 0
  refine J_iload_n hC dJ7_copyOf_59c91_0 rfl rfl ?_
  refine J_aload_n hC dJ7_copyOf_59c91_1 rfl rfl ?_
  refine J_alen7 hC ht dJ7_copyOf_59c91_2 ?_
  rw [hL]
  refine J_icmp_ne hC dJ7_copyOf_59c91_3 (tgt := 14) (by decide) (fun c3 => ?_) (fun c3 => ?_)
  · refine J_iload_n hC dJ7_copyOf_59c91_14 rfl rfl ?_
    refine J_newI c (N := N) (k1 := 1) (n1 := N) hC ac_int (nI_toInt (by omega)) hN rfl (Nat.zero_add _) (by decide) (Nat.le_refl _) dJ7_copyOf_59c91_15 (fun q hq hz => ?_)
    have hne : a ≠ q := fun e => by rw [e, hq] at ht; cases ht
    have ta : (mT (nwM M q (7, c) N) a).1 = 7 := by
      show (va_up (mT M) q (7, c) a).1 = 7
      rw [va_up_ne _ _ hne, ht]
    have tq : (mT (nwM M q (7, c) N) q).1 = 7 := by
      show (va_up (mT M) q (7, c) q).1 = 7
      rw [va_up_self]
    have la : mL (nwM M q (7, c) N) a = n0 := by
      show va_up (mL M) q N a = n0
      rw [va_up_ne _ _ hne, hL]
    have lq : mL (nwM M q (7, c) N) q = N := va_up_self _ _ _
    refine J_astore_n hC dJ7_copyOf_59c91_17 rfl (by decide) (ls1 := [some (rv a), some (.int (nI N)), some (rv q)]) rfl ?_
    refine J_aload_n hC dJ7_copyOf_59c91_18 rfl rfl ?_
    refine J_iconst hC dJ7_copyOf_59c91_19 (v := 0) (by decide) ?_
    refine J_aload_n hC dJ7_copyOf_59c91_20 rfl rfl ?_
    refine J_iconst hC dJ7_copyOf_59c91_21 (v := 0) (by decide) ?_
    refine J_aload_n hC dJ7_copyOf_59c91_22 rfl rfl ?_
    refine J_alen7 hC ta dJ7_copyOf_59c91_23 ?_
    rw [la]
    refine J_iload_n hC dJ7_copyOf_59c91_24 rfl rfl ?_
    refine J_mmin hC lm_J7_304 ms_min it_Math mc_min (by decide) (by simp only [List.map_cons, List.map_nil, rv_cat, List.sum_cons, List.sum_nil]; (try simp only [Value.category]); (try omega)) (by decide) (Nat.le_refl _) (v := nI n0) (if_neg (by rw [i_lt, nI_toInt (by omega), nI_toInt (by omega)]; omega)) dJ7_copyOf_59c91_25 ?_
    refine J_acopy hC lac_link ta tq (nI_toInt (by omega)) (by rw [la]; exact Nat.le_refl _) (by rw [lq]; omega) (by decide) (by decide) dJ7_copyOf_59c91_28 ?_
    refine J_aload_n hC dJ7_copyOf_59c91_31 rfl rfl ?_
    refine J_aret hC (by decide) (Nat.le_refl _) (by first | exact Or.inl ⟨_, rfl⟩ | exact Or.inr ⟨_, rfl⟩) dJ7_copyOf_59c91_32 ?_
    exact ⟨q, rfl, hq, hz, rfl⟩
  · exact absurd (nI_inj (by omega) (by omega) (nn c3)) (by omega)
/-- what a copy into a fresh row, put into the field k of a, has made -/
def cpS (M : Mm) (a k q n : Nat) (t : Nat × Nat) (N : Nat) : Mm := pR (cpM (nwM M q t N) (mR M a k) q n) a k q
theorem cpS_T (M : Mm) (a k q n : Nat) (t : Nat × Nat) (N b : Nat) : mT (cpS M a k q n t N) b = if b = q then t else mT M b := rfl
theorem cpS_L (M : Mm) (a k q n : Nat) (t : Nat × Nat) (N b : Nat) : mL (cpS M a k q n t N) b = if b = q then N else mL M b := rfl
theorem cpS_R (M : Mm) (a k q n : Nat) (t : Nat × Nat) (N : Nat) : mR (cpS M a k q n t N) a k = q := up2_same _ _ _ _
theorem cpS_R1 (M : Mm) {a k q n : Nat} {t : Nat × Nat} {N j : Nat} (h : j ≠ k) (hq : a ≠ q) : mR (cpS M a k q n t N) a j = mR M a j := by
  refine (up2_k _ _ _ h).trans ?_
  show (if a = q then 0 else mR M a j) = _
  rw [if_neg hq]
theorem cpS_I (M : Mm) {a k q n : Nat} {t : Nat × Nat} {N b : Nat} (h : b ≠ q) : mI (cpS M a k q n t N) b = mI M b := by
  funext j
  show (if b = q then (if j < n then _ else _) else (if b = q then 0 else mI M b j)) = _
  rw [if_neg h, if_neg h]
theorem cpS_q (M : Mm) {a k q n : Nat} {t : Nat × Nat} {N j : Nat} (h : mR M a k ≠ q) (hj : j < n) : mI (cpS M a k q n t N) q j = mI M (mR M a k) j := by
  show (if q = q then (if j < n then (if mR M a k = q then 0 else mI M (mR M a k) j) else _) else _) = _
  rw [if_pos rfl, if_pos hj, if_neg h]
theorem Fr.cp {P : Nat × Nat → Prop} {M : Mm} {a0 a1 N : Nat} (h : P (mT M a1)) : Fr P M (cpM M a0 a1 N) := fun b _ => ⟨rfl, fun hp => ⟨rfl, rfl, by
  funext j
  show (if b = a1 then _ else _) = _
  rw [if_neg (fun e : b = a1 => hp (by rw [e]; exact h))], rfl, rfl, rfl⟩⟩
theorem cpS_F {P : Nat × Nat → Prop} {M : Mm} {a k q n : Nat} {t : Nat × Nat} {N : Nat} (hq : (mT M q).1 = 0) (ht : P t) (ha : P (mT M a)) (haq : a ≠ q) : Fr P M (cpS M a k q n t N) := by
  refine (Fr.nw hq).trans ((Fr.cp ?_).trans (Fr.pR ?_))
  · show P (va_up (mT M) q t q)
    rw [va_up_self]; exact ht
  · show P (va_up (mT M) q t a)
    rw [va_up_ne _ _ haq]; exact ha
/-- the tags of a timeline -/
abbrev tlP (c : Nat) (t : Nat × Nat) : Prop := t = (3, c) ∨ t = (7, 100 + 2 * c) ∨ t = (7, 101 + 2 * c)
def TlC (M : Mm) (a c : Nat) (l : Tl) (cap : Nat) : Prop := mT M a = (3, c) ∧ mT M (mR M a 0) = (7, 100 + 2 * c) ∧ mT M (mR M a 1) = (7, 101 + 2 * c) ∧ mI M a 2 = nI l.length ∧ mL M (mR M a 0) = cap ∧ mL M (mR M a 1) = cap ∧ l.length ≤ cap ∧ 4 ≤ cap ∧ cap ≤ 2 * l.length + 4 ∧ l.length ≤ 1100 ∧ ∀ j, j < l.length → mI M (mR M a 0) j = (l.getD j (0, 0)).1 ∧ mI M (mR M a 1) j = (l.getD j (0, 0)).2
theorem TlC.wid0 {M : Mm} {a c q : Nat} {l : Tl} (h : TlC M a c l l.length) (hq : (mT M q).1 = 0) : mT (cpS M a 0 q l.length (7, 100 + 2 * c) (2 * l.length)) a = (3, c) ∧ mT (cpS M a 0 q l.length (7, 100 + 2 * c) (2 * l.length)) (mR (cpS M a 0 q l.length (7, 100 + 2 * c) (2 * l.length)) a 1) = (7, 101 + 2 * c) ∧ mL (cpS M a 0 q l.length (7, 100 + 2 * c) (2 * l.length)) (mR (cpS M a 0 q l.length (7, 100 + 2 * c) (2 * l.length)) a 1) = l.length := by
  obtain ⟨t0, t1, t2, s2, hc0, hc1, hl, h4, hcap, hb, hj⟩ := h
  have n0 : a ≠ q := fun e => by rw [e] at t0; rw [t0] at hq; cases hq
  have n2 : mR M a 1 ≠ q := fun e => by rw [e] at t2; rw [t2] at hq; cases hq
  rw [cpS_R1 M (by decide) n0, cpS_T, cpS_T, cpS_L, if_neg n0, if_neg n2, if_neg n2]
  exact ⟨t0, t2, hc1⟩
theorem TlC.wid {M : Mm} {a c q q1 : Nat} {l : Tl} (h : TlC M a c l l.length) (hq : (mT M q).1 = 0) (hq1 : (mT (cpS M a 0 q l.length (7, 100 + 2 * c) (2 * l.length)) q1).1 = 0) : TlC (cpS (cpS M a 0 q l.length (7, 100 + 2 * c) (2 * l.length)) a 1 q1 l.length (7, 101 + 2 * c) (2 * l.length)) a c l (2 * l.length) ∧ Fr (tlP c) M (cpS (cpS M a 0 q l.length (7, 100 + 2 * c) (2 * l.length)) a 1 q1 l.length (7, 101 + 2 * c) (2 * l.length)) := by
  obtain ⟨t0, t1, t2, s2, hc0, hc1, hl, h4, hcap, hb, hj⟩ := id h
  obtain ⟨w0, w2, w3⟩ := h.wid0 hq
  have n0 : a ≠ q := fun e => by rw [e] at t0; rw [t0] at hq; cases hq
  have n1 : mR M a 0 ≠ q := fun e => by rw [e] at t1; rw [t1] at hq; cases hq
  have n2 : mR M a 1 ≠ q := fun e => by rw [e] at t2; rw [t2] at hq; cases hq
  have F0 : Fr (tlP c) M (cpS M a 0 q l.length (7, 100 + 2 * c) (2 * l.length)) := cpS_F hq (Or.inr (Or.inl rfl)) (Or.inl t0) n0
  have e0 : mR (cpS M a 0 q l.length (7, 100 + 2 * c) (2 * l.length)) a 0 = q := cpS_R M a 0 q l.length _ _
  have e1 : mR (cpS M a 0 q l.length (7, 100 + 2 * c) (2 * l.length)) a 1 = mR M a 1 := cpS_R1 M (by decide) n0
  have eT : mT (cpS M a 0 q l.length (7, 100 + 2 * c) (2 * l.length)) q = (7, 100 + 2 * c) := by rw [cpS_T, if_pos rfl]
  have eL : mL (cpS M a 0 q l.length (7, 100 + 2 * c) (2 * l.length)) q = 2 * l.length := by rw [cpS_L, if_pos rfl]
  have eS : mI (cpS M a 0 q l.length (7, 100 + 2 * c) (2 * l.length)) a 2 = nI l.length := by rw [cpS_I M n0]; exact s2
  have eI : ∀ j, j < l.length → mI (cpS M a 0 q l.length (7, 100 + 2 * c) (2 * l.length)) q j = mI M (mR M a 0) j := fun j hj => cpS_q M n1 hj
  have eV : mI (cpS M a 0 q l.length (7, 100 + 2 * c) (2 * l.length)) (mR M a 1) = mI M (mR M a 1) := cpS_I M n2
  rw [e1] at w2 w3
  generalize cpS M a 0 q l.length (7, 100 + 2 * c) (2 * l.length) = X at *
  have p0 : a ≠ q1 := fun e => by rw [e] at w0; rw [w0] at hq1; cases hq1
  have p1 : q ≠ q1 := fun e => by rw [e] at eT; rw [eT] at hq1; cases hq1
  have p2 : mR X a 1 ≠ q1 := fun e => by rw [e1] at e; rw [e] at w2; rw [w2] at hq1; cases hq1
  have F1 : Fr (tlP c) X (cpS X a 1 q1 l.length (7, 101 + 2 * c) (2 * l.length)) := cpS_F hq1 (Or.inr (Or.inr rfl)) (Or.inl w0) p0
  refine ⟨?_, F0.trans F1⟩
  have f0 : mR (cpS X a 1 q1 l.length (7, 101 + 2 * c) (2 * l.length)) a 0 = q := (cpS_R1 X (by decide) p0).trans e0
  have f1 : mR (cpS X a 1 q1 l.length (7, 101 + 2 * c) (2 * l.length)) a 1 = q1 := cpS_R X a 1 q1 l.length _ _
  unfold TlC
  rw [f0, f1, cpS_T, cpS_T, cpS_T, cpS_L, cpS_L, if_neg p0, if_neg p1, if_pos rfl, if_neg p1, if_pos rfl, cpS_I X p0, cpS_I X p1]
  refine ⟨w0, eT, rfl, eS, eL, rfl, by omega, by omega, by omega, hb, fun j hjl => ⟨(eI j hjl).trans (hj j hjl).1, ?_⟩⟩
  rw [cpS_q X p2 hjl, e1, eV]
  exact (hj j hjl).2
theorem nI_m2 (n : Nat) : nI n * 2 = nI (2 * n) := by
  have h : (2 : Int32) = nI 2 := rfl
  rw [h, Nat.mul_comm]
  exact (Int32.ofNat_mul _ _).symm
theorem ct_X2_widen {G : Gt} {l : Launch} (hst : l.stackTraces = false) {M : Mm} {a c : Nat} {l9 : Tl} (hT : TlC M a c l9 l9.length) : Ct G l yX2_widen cX2_widen 2 none 3 M [rv a] 2 (4 * l9.length) (fun r9 M9 => r9 = none ∧ TlC M9 a c l9 (2 * l9.length) ∧ Fr (tlP c) M M9) (noX) := by
  obtain ⟨t0, t1, t2, s2, hc0, hc1, hl, h4, hcap, hb, hj⟩ := id hT
  have g0 : (mT M a).1 = 3 := by rw [t0]
  have g1 : (mT M (mR M a 0)).1 = 7 := by rw [t1]
  have g2 : (mT M (mR M a 1)).1 = 7 := by rw [t2]
  refine Ct_intro (own := RX2) (nm := "widen") (by decide +kernel) rfl rfl hst (fun w hw => by simp only [List.mem_cons, List.not_mem_nil, or_false] at hw; rcases hw with rfl <;> first | rfl | exact rv_cat _) (Nat.le_of_ble_eq_true rfl) (fun γ hC => ?_)
  show J G γ M 0 [some (rv a)] [] 0 0
  refine J_aload_n hC dX2_widen_0 rfl rfl ?_
  refine J_get3 hC lf_X2_11 (j := 0) g0 (v := rv (mR M a 0)) rfl dX2_widen_1 ?_
  refine J_alen7 hC g1 dX2_widen_4 ?_
  rw [hc0]
  refine J_sipush hC dX2_widen_5 (v := 2048) (by decide) ?_
  refine J_icmp_ge hC dX2_widen_8 (tgt := 21) (by decide) (fun c8 => ?_) (fun c8 => ?_)
  · exact absurd (le_nI (n := 2048) (by omega) (by omega) c8) (by omega)
  · refine J_aload_n hC dX2_widen_11 rfl rfl ?_
    refine J_get3 hC lf_X2_11 (j := 0) g0 (v := rv (mR M a 0)) rfl dX2_widen_12 ?_
    refine J_alen7 hC g1 dX2_widen_15 ?_
    rw [hc0]
    refine J_iconst hC dX2_widen_16 (v := 2) (by decide) ?_
    refine J_imul hC dX2_widen_17 ?_
    rw [nI_m2]
    refine J_goto hC dX2_widen_18 (tgt := 24) (by decide) ?_
    refine J_istore_n hC dX2_widen_24 rfl (by decide) (ls1 := [some (rv a), some (.int (nI (2 * l9.length)))]) rfl ?_
    refine J_aload_n hC dX2_widen_25 rfl rfl ?_
    refine J_aload_n hC dX2_widen_26 rfl rfl ?_
    refine J_get3 hC lf_X2_11 (j := 0) g0 (v := rv (mR M a 0)) rfl dX2_widen_27 ?_
    refine J_iload_n hC dX2_widen_30 rfl rfl ?_
    refine J_callSO (k1 := 1) (n1 := 2 * l9.length) [rv (mR M a 0), .int (nI (2 * l9.length))] [.int (nI (2 * l9.length)), rv (mR M a 0), rv a] hC lso_X2_33 (ct_J7_copyOf hst (100 + 2 * c) g1 hc0 (N := 2 * l9.length) (by omega) (by omega)) rfl rfl (by simp only [List.map_cons, List.map_nil, rv_cat, List.sum_cons, List.sum_nil]; (try simp only [Value.category]); (try omega)) (by decide) rfl (Nat.zero_add _) (by decide) (by omega) dX2_widen_31 (fun E M9 h => h.elim) (fun v9 M9 hq9 => ?_)
    obtain ⟨q, rfl, hq, hqz, rfl⟩ := hq9
    have n0 : a ≠ q := fun e => by rw [e] at t0; rw [t0] at hq; cases hq
    refine J_put3_0 hC lf_X2_11 (M := (cpM (nwM M q (7, 100 + 2 * c) (2 * l9.length)) (mR M a 0) q l9.length)) (show (va_up (mT M) q _ a).1 = 3 by rw [va_up_ne _ _ n0]; exact g0) dX2_widen_34 ?_
    show J G γ (cpS M a 0 q l9.length (7, 100 + 2 * c) (2 * l9.length)) 37 _ _ _ _
    have hq0 := hT.wid0 hq
    have hw := fun q1 hq1 => hT.wid hq (q1 := q1) hq1
    obtain ⟨M2, eM2⟩ : ∃ z, z = cpS M a 0 q l9.length (7, 100 + 2 * c) (2 * l9.length) := ⟨_, rfl⟩
    rw [← eM2] at hq0 hw ⊢
    obtain ⟨w0, w1, w2⟩ := hq0
    have x0 : (mT M2 a).1 = 3 := by rw [w0]
    have x1 : (mT M2 (mR M2 a 1)).1 = 7 := by rw [w1]
    refine J_aload_n hC dX2_widen_37 rfl rfl ?_
    refine J_aload_n hC dX2_widen_38 rfl rfl ?_
    refine J_get3 hC lf_X2_15 (j := 1) x0 (v := rv (mR M2 a 1)) rfl dX2_widen_39 ?_
    refine J_iload_n hC dX2_widen_42 rfl rfl ?_
    refine J_callSO (k1 := 2) (n1 := 4 * l9.length) [rv (mR M2 a 1), .int (nI (2 * l9.length))] [.int (nI (2 * l9.length)), rv (mR M2 a 1), rv a] hC lso_X2_33 (ct_J7_copyOf hst (101 + 2 * c) x1 w2 (N := 2 * l9.length) (by omega) (by omega)) rfl rfl (by simp only [List.map_cons, List.map_nil, rv_cat, List.sum_cons, List.sum_nil]; (try simp only [Value.category]); (try omega)) (by decide) rfl (by omega) (by decide) (Nat.le_refl _) dX2_widen_43 (fun E M9 h => h.elim) (fun v9 M9 hq9 => ?_)
    obtain ⟨q1, rfl, hq1, hqz1, rfl⟩ := hq9
    have n1 : a ≠ q1 := fun e => by rw [e] at w0; rw [w0] at hq1; cases hq1
    refine J_put3_1 hC lf_X2_15 (M := (cpM (nwM M2 q1 (7, 101 + 2 * c) (2 * l9.length)) (mR M2 a 1) q1 l9.length)) (show (va_up (mT M2) q1 _ a).1 = 3 by rw [va_up_ne _ _ n1]; exact x0) dX2_widen_46 ?_
    show J G γ (cpS M2 a 1 q1 l9.length (7, 101 + 2 * c) (2 * l9.length)) 49 _ _ _ _
    refine J_vret hC (by decide) (Nat.le_refl _) dX2_widen_49 ?_
    exact ⟨rfl, hw q1 hq1⟩
