theorem ct_X5_isAsked {G : Gt} {l : Launch} (hst : l.stackTraces = false) {M : Mm} {m : Nat} {S : St} {t : Nat} (hM : MAt M m S t) (v : Int32) : Ct G l yX5_isAsked cX5_isAsked 2 (some .boolean) 3 M [rv m, .int v] 0 0 (fun r9 M9 => (isIx v (sN S 1) = true ∧ r9 = some (.int 1) ∧ M9 = pI M m 0 0) ∨ (isIx v (sN S 1) = false ∧ r9 = some (.int 0) ∧ M9 = pI M m 0 1)) (noX) := by
  obtain ⟨a0, nP, nR, nS, a1, bR, bS, bt⟩ := id hM
  have bPs := a1.bPs; have bK := a1.bK; have bV := a1.bV; have bPl := a1.bP; have bN := a1.bN
  refine Ct_intro (own := RX5) (nm := "isAsked") (by decide +kernel) rfl rfl hst (fun w hw => by simp only [List.mem_cons, List.not_mem_nil, or_false] at hw; rcases hw with rfl | rfl <;> first | rfl | exact rv_cat _) (Nat.le_of_ble_eq_true rfl) (fun γ hC => ?_)
  show J G γ M 0 [some (rv m), some (.int v)] [] 0 0
  refine J_aload_n hC dX5_isAsked_0 rfl rfl ?_
  refine J_aload_n hC dX5_isAsked_1 rfl rfl ?_
  refine J_iload_n hC dX5_isAsked_2 rfl rfl ?_
  refine J_callV (k1 := 0) (n1 := 0) (kd := 6) [.int v] [.int v, rv m, rv m] hC lv_X5_147 (ct_X5_isVehicle hst hM v) a0.t (by decide) ⟨_, mE_6 a0.t⟩ rfl rfl rfl (by simp only [List.map_cons, List.map_nil, rv_cat, List.sum_cons, List.sum_nil]; (try simp only [Value.category]); (try omega)) (by decide) rfl rfl (by decide) (by decide) dX5_isAsked_3 (fun E M9 h => h.elim) (fun v9 M9 hq9 => ?_)
  obtain ⟨rfl, e9⟩ := hq9
  rw [e9]; clear e9
  refine J_if_eq hC dX5_isAsked_6 (tgt := 13) (by decide) (fun c6 => ?_) (fun c6 => ?_)
  · have nv : (isIx v (sN S 1)) = false := bz_eq0 c6
    refine J_iconst hC dX5_isAsked_13 (v := 1) (by decide) ?_
    refine J_put6_0 hC lf_X5_80 a0.t dX5_isAsked_14 ?_
    refine J_aload_n hC dX5_isAsked_17 rfl rfl ?_
    refine J_get6 hC lf_X5_80 (j := 0) a0.t (v := .int 1) (congrArg (fun z => some (Value.int z)) (up2_same _ _ _ _ : mI (pI M m 0 1) m 0 = 1)) dX5_isAsked_18 ?_
    refine J_if_ne hC dX5_isAsked_21 (tgt := 28) (by decide) (fun c21 => ?_) (fun c21 => ?_)
    · refine J_iconst hC dX5_isAsked_28 (v := 0) (by decide) ?_
      refine J_zret hC (by decide) (by decide) (by decide) dX5_isAsked_29 ?_
      exact Or.inr ⟨nv, rfl, rfl⟩
    · exact absurd c21 (by decide)
  · have hv : (isIx v (sN S 1)) = true := bz_ne0 c6
    have xv := (isIx_ix hv).2
    refine J_iconst hC dX5_isAsked_9 (v := 0) (by decide) ?_
    refine J_goto hC dX5_isAsked_10 (tgt := 14) (by decide) ?_
    refine J_put6_0 hC lf_X5_80 a0.t dX5_isAsked_14 ?_
    refine J_aload_n hC dX5_isAsked_17 rfl rfl ?_
    refine J_get6 hC lf_X5_80 (j := 0) a0.t (v := .int 0) (congrArg (fun z => some (Value.int z)) (up2_same _ _ _ _ : mI (pI M m 0 0) m 0 = 0)) dX5_isAsked_18 ?_
    refine J_if_ne hC dX5_isAsked_21 (tgt := 28) (by decide) (fun c21 => ?_) (fun c21 => ?_)
    · exact absurd c21 (by decide)
    · refine J_iconst hC dX5_isAsked_24 (v := 1) (by decide) ?_
      refine J_goto hC dX5_isAsked_25 (tgt := 29) (by decide) ?_
      refine J_zret hC (by decide) (by decide) (by decide) dX5_isAsked_29 ?_
      exact Or.inl ⟨hv, rfl, rfl⟩
theorem ct_X5_isNotice {G : Gt} {l : Launch} (hst : l.stackTraces = false) {M : Mm} {m : Nat} {S : St} {t : Nat} (hM : MAt M m S t) (v : Int32) : Ct G l yX5_isNotice cX5_isNotice 2 (some .boolean) 3 M [rv m, .int v] 0 0 (fun r9 M9 => (isIx v (sN S 3) = true ∧ r9 = some (.int 1) ∧ M9 = pI M m 0 0) ∨ (isIx v (sN S 3) = false ∧ r9 = some (.int 0) ∧ M9 = pI M m 0 1)) (noX) := by
  obtain ⟨a0, nP, nR, nS, a1, bR, bS, bt⟩ := id hM
  have bPs := a1.bPs; have bK := a1.bK; have bV := a1.bV; have bPl := a1.bP; have bN := a1.bN
  refine Ct_intro (own := RX5) (nm := "isNotice") (by decide +kernel) rfl rfl hst (fun w hw => by simp only [List.mem_cons, List.not_mem_nil, or_false] at hw; rcases hw with rfl | rfl <;> first | rfl | exact rv_cat _) (Nat.le_of_ble_eq_true rfl) (fun γ hC => ?_)
  show J G γ M 0 [some (rv m), some (.int v)] [] 0 0
  refine J_aload_n hC dX5_isNotice_0 rfl rfl ?_
  refine J_iload_n hC dX5_isNotice_1 rfl rfl ?_
  refine J_iconst hC dX5_isNotice_2 (v := 0) (by decide) ?_
  refine J_aload_n hC dX5_isNotice_3 rfl rfl ?_
  refine J_get6 hC lf_X5_166 (j := 3) a0.t (v := .int (nI (sN S 3))) (congrArg (fun z => some (Value.int z)) a1.s3) dX5_isNotice_4 ?_
  refine J_iconst hC dX5_isNotice_7 (v := 1) (by decide) ?_
  refine J_isub hC dX5_isNotice_8 ?_
  refine J_callS (k1 := 0) (n1 := 0) [.int v, .int 0, .int ((nI (sN S 3)) - 1)] [.int ((nI (sN S 3)) - 1), .int 0, .int v, rv m] hC ls_X5_87 (ct_X5_in hst v 0 ((nI (sN S 3)) - 1)) rfl rfl (by simp only [List.map_cons, List.map_nil, rv_cat, List.sum_cons, List.sum_nil]; (try simp only [Value.category]); (try omega)) (by decide) rfl rfl (by decide) (by decide) dX5_isNotice_9 (fun E M9 h => h.elim) (fun v9 M9 hq9 => ?_)
  obtain ⟨rfl, e9⟩ := hq9
  rw [e9]; clear e9
  rw [in_ix _ (by omega)]
  refine J_if_eq hC dX5_isNotice_12 (tgt := 19) (by decide) (fun c12 => ?_) (fun c12 => ?_)
  · have nv : (isIx v (sN S 3)) = false := bz_eq0 c12
    refine J_iconst hC dX5_isNotice_19 (v := 1) (by decide) ?_
    refine J_put6_0 hC lf_X5_80 a0.t dX5_isNotice_20 ?_
    refine J_aload_n hC dX5_isNotice_23 rfl rfl ?_
    refine J_get6 hC lf_X5_80 (j := 0) a0.t (v := .int 1) (congrArg (fun z => some (Value.int z)) (up2_same _ _ _ _ : mI (pI M m 0 1) m 0 = 1)) dX5_isNotice_24 ?_
    refine J_if_ne hC dX5_isNotice_27 (tgt := 34) (by decide) (fun c27 => ?_) (fun c27 => ?_)
    · refine J_iconst hC dX5_isNotice_34 (v := 0) (by decide) ?_
      refine J_zret hC (by decide) (by decide) (by decide) dX5_isNotice_35 ?_
      exact Or.inr ⟨nv, rfl, rfl⟩
    · exact absurd c27 (by decide)
  · have hv : (isIx v (sN S 3)) = true := bz_ne0 c12
    have xv := (isIx_ix hv).2
    refine J_iconst hC dX5_isNotice_15 (v := 0) (by decide) ?_
    refine J_goto hC dX5_isNotice_16 (tgt := 20) (by decide) ?_
    refine J_put6_0 hC lf_X5_80 a0.t dX5_isNotice_20 ?_
    refine J_aload_n hC dX5_isNotice_23 rfl rfl ?_
    refine J_get6 hC lf_X5_80 (j := 0) a0.t (v := .int 0) (congrArg (fun z => some (Value.int z)) (up2_same _ _ _ _ : mI (pI M m 0 0) m 0 = 0)) dX5_isNotice_24 ?_
    refine J_if_ne hC dX5_isNotice_27 (tgt := 34) (by decide) (fun c27 => ?_) (fun c27 => ?_)
    · exact absurd c27 (by decide)
    · refine J_iconst hC dX5_isNotice_30 (v := 1) (by decide) ?_
      refine J_goto hC dX5_isNotice_31 (tgt := 35) (by decide) ?_
      refine J_zret hC (by decide) (by decide) (by decide) dX5_isNotice_35 ?_
      exact Or.inl ⟨hv, rfl, rfl⟩
theorem ct_X5_isIssued {G : Gt} {l : Launch} (hst : l.stackTraces = false) {M : Mm} {m : Nat} {S : St} {t : Nat} (hM : MAt M m S t) (v : Int32) : Ct G l yX5_isIssued cX5_isIssued 2 (some .boolean) 3 M [rv m, .int v] 0 0 (fun r9 M9 => (isIx v (sN S 2) = true ∧ r9 = some (.int 1) ∧ M9 = pI M m 0 0) ∨ (isIx v (sN S 2) = false ∧ r9 = some (.int 0) ∧ M9 = pI M m 0 1)) (noX) := by
  obtain ⟨a0, nP, nR, nS, a1, bR, bS, bt⟩ := id hM
  have bPs := a1.bPs; have bK := a1.bK; have bV := a1.bV; have bPl := a1.bP; have bN := a1.bN
  refine Ct_intro (own := RX5) (nm := "isIssued") (by decide +kernel) rfl rfl hst (fun w hw => by simp only [List.mem_cons, List.not_mem_nil, or_false] at hw; rcases hw with rfl | rfl <;> first | rfl | exact rv_cat _) (Nat.le_of_ble_eq_true rfl) (fun γ hC => ?_)
  show J G γ M 0 [some (rv m), some (.int v)] [] 0 0
  refine J_aload_n hC dX5_isIssued_0 rfl rfl ?_
  refine J_aload_n hC dX5_isIssued_1 rfl rfl ?_
  refine J_iload_n hC dX5_isIssued_2 rfl rfl ?_
  refine J_callV (k1 := 0) (n1 := 0) (kd := 6) [.int v] [.int v, rv m, rv m] hC lv_X5_202 (ct_X5_isPlate hst hM v) a0.t (by decide) ⟨_, mE_6 a0.t⟩ rfl rfl rfl (by simp only [List.map_cons, List.map_nil, rv_cat, List.sum_cons, List.sum_nil]; (try simp only [Value.category]); (try omega)) (by decide) rfl rfl (by decide) (by decide) dX5_isIssued_3 (fun E M9 h => h.elim) (fun v9 M9 hq9 => ?_)
  obtain ⟨rfl, e9⟩ := hq9
  rw [e9]; clear e9
  refine J_if_eq hC dX5_isIssued_6 (tgt := 13) (by decide) (fun c6 => ?_) (fun c6 => ?_)
  · have nv : (isIx v (sN S 2)) = false := bz_eq0 c6
    refine J_iconst hC dX5_isIssued_13 (v := 1) (by decide) ?_
    refine J_put6_0 hC lf_X5_80 a0.t dX5_isIssued_14 ?_
    refine J_aload_n hC dX5_isIssued_17 rfl rfl ?_
    refine J_get6 hC lf_X5_80 (j := 0) a0.t (v := .int 1) (congrArg (fun z => some (Value.int z)) (up2_same _ _ _ _ : mI (pI M m 0 1) m 0 = 1)) dX5_isIssued_18 ?_
    refine J_if_ne hC dX5_isIssued_21 (tgt := 28) (by decide) (fun c21 => ?_) (fun c21 => ?_)
    · refine J_iconst hC dX5_isIssued_28 (v := 0) (by decide) ?_
      refine J_zret hC (by decide) (by decide) (by decide) dX5_isIssued_29 ?_
      exact Or.inr ⟨nv, rfl, rfl⟩
    · exact absurd c21 (by decide)
  · have hv : (isIx v (sN S 2)) = true := bz_ne0 c6
    have xv := (isIx_ix hv).2
    refine J_iconst hC dX5_isIssued_9 (v := 0) (by decide) ?_
    refine J_goto hC dX5_isIssued_10 (tgt := 14) (by decide) ?_
    refine J_put6_0 hC lf_X5_80 a0.t dX5_isIssued_14 ?_
    refine J_aload_n hC dX5_isIssued_17 rfl rfl ?_
    refine J_get6 hC lf_X5_80 (j := 0) a0.t (v := .int 0) (congrArg (fun z => some (Value.int z)) (up2_same _ _ _ _ : mI (pI M m 0 0) m 0 = 0)) dX5_isIssued_18 ?_
    refine J_if_ne hC dX5_isIssued_21 (tgt := 28) (by decide) (fun c21 => ?_) (fun c21 => ?_)
    · exact absurd c21 (by decide)
    · refine J_iconst hC dX5_isIssued_24 (v := 1) (by decide) ?_
      refine J_goto hC dX5_isIssued_25 (tgt := 29) (by decide) ?_
      refine J_zret hC (by decide) (by decide) (by decide) dX5_isIssued_29 ?_
      exact Or.inl ⟨hv, rfl, rfl⟩
theorem look_ne {a b : Int32} (h : ¬ a = b) : ¬ a = b := h
theorem kind_c {k : Int32} (h : kindOk k = true) : narrow .char (.int k) = .int k := by
  have h1 : k = 99 ∨ k = 109 ∨ k = 108 ∨ k = 104 := of_decide_eq_true h
  rcases h1 with rfl | rfl | rfl | rfl <;> decide
theorem kind_i {k : Int32} (h : kindOk k = true) : (k.toUInt32 % 65536).toInt32 = k := by
  have h1 : k = 99 ∨ k = 109 ∨ k = 108 ∨ k = 104 := of_decide_eq_true h
  rcases h1 with rfl | rfl | rfl | rfl <;> decide
theorem ct_X5_kindOf {G : Gt} {l : Launch} (hst : l.stackTraces = false) {M : Mm} {m : Nat} {S : St} {t : Nat} (hM : MAt M m S t) (hI : Inv S t) (hlt : t < 512) (v : Int32) : Ct G l yX5_kindOf cX5_kindOf 2 (some .char) 3 M [rv m, .int v] 0 0 (Op M m t (oKindOf S v)) (noX) := by
  obtain ⟨a0, nP, nR, nS, a1, bR, bS, bt⟩ := id hM
  have bPs := a1.bPs; have bK := a1.bK; have bV := a1.bV; have bPl := a1.bP; have bN := a1.bN
  refine Ct_intro (own := RX5) (nm := "kindOf") (by decide +kernel) rfl rfl hst (fun w hw => by simp only [List.mem_cons, List.not_mem_nil, or_false] at hw; rcases hw with rfl | rfl <;> first | rfl | exact rv_cat _) (Nat.le_of_ble_eq_true rfl) (fun γ hC => ?_)
  show J G γ M 0 [some (rv m), some (.int v)] [] 0 0
  refine J_aload_n hC dX5_kindOf_0 rfl rfl ?_
  refine J_aload_n hC dX5_kindOf_1 rfl rfl ?_
  refine J_iload_n hC dX5_kindOf_2 rfl rfl ?_
  refine J_callV (k1 := 0) (n1 := 0) (kd := 6) [.int v] [.int v, rv m, rv m] hC lv_X5_147 (ct_X5_isVehicle hst hM v) a0.t (by decide) ⟨_, mE_6 a0.t⟩ rfl rfl rfl (by simp only [List.map_cons, List.map_nil, rv_cat, List.sum_cons, List.sum_nil]; (try simp only [Value.category]); (try omega)) (by decide) rfl rfl (by decide) (by decide) dX5_kindOf_3 (fun E M9 h => h.elim) (fun v9 M9 hq9 => ?_)
  obtain ⟨rfl, e9⟩ := hq9
  rw [e9]; clear e9
  refine J_if_eq hC dX5_kindOf_6 (tgt := 13) (by decide) (fun c6 => ?_) (fun c6 => ?_)
  · have nv : (isIx v (sN S 1)) = false := bz_eq0 c6
    refine J_iconst hC dX5_kindOf_13 (v := 1) (by decide) ?_
    refine J_put6_0 hC lf_X5_80 a0.t dX5_kindOf_14 ?_
    refine J_aload_n hC dX5_kindOf_17 rfl rfl ?_
    refine J_get6 hC lf_X5_80 (j := 0) a0.t (v := .int 1) (congrArg (fun z => some (Value.int z)) (up2_same _ _ _ _ : mI (pI M m 0 1) m 0 = 1)) dX5_kindOf_18 ?_
    refine J_if_le hC dX5_kindOf_21 (tgt := 28) (by decide) (fun c21 => ?_) (fun c21 => ?_)
    · exact absurd c21 (by decide)
    · refine J_iconst hC dX5_kindOf_24 (v := 0) (by decide) ?_
      refine J_goto hC dX5_kindOf_25 (tgt := 34) (by decide) ?_
      refine J_i2c hC dX5_kindOf_34 (v := 0) (by decide) ?_
      refine J_zret hC (by decide) (by decide) (by first | exact kind_c (hI.kd _ (isIx_ix hv).2) | decide) dX5_kindOf_35 ?_
      refine op_no hM hlt (k := 1) ?_ rfl
      simp [oKindOf, nv]
  · have hv : (isIx v (sN S 1)) = true := bz_ne0 c6
    have xv := (isIx_ix hv).2
    refine J_iconst hC dX5_kindOf_9 (v := 0) (by decide) ?_
    refine J_goto hC dX5_kindOf_10 (tgt := 14) (by decide) ?_
    refine J_put6_0 hC lf_X5_80 a0.t dX5_kindOf_14 ?_
    refine J_aload_n hC dX5_kindOf_17 rfl rfl ?_
    refine J_get6 hC lf_X5_80 (j := 0) a0.t (v := .int 0) (congrArg (fun z => some (Value.int z)) (up2_same _ _ _ _ : mI (pI M m 0 0) m 0 = 0)) dX5_kindOf_18 ?_
    refine J_if_le hC dX5_kindOf_21 (tgt := 28) (by decide) (fun c21 => ?_) (fun c21 => ?_)
    · refine J_aload_n hC dX5_kindOf_28 rfl rfl ?_
      refine J_get6 hC lf_X5_13 (j := 11) a0.t (v := rv (mR M m 11)) rfl dX5_kindOf_29 ?_
      refine J_iload_n hC dX5_kindOf_32 rfl rfl ?_
      refine J_iald hC a0.a11 (j := (ix v)) (isIx_ix hv).1 (Nat.lt_of_lt_of_eq (by omega) a0.l11.symm) dX5_kindOf_33 ?_
      rw [show mI (pI M m 0 0) (mR M m 11) (ix v) = sV S (ix v) 1 from ((up2_b _ _ _ _ (a0.ne (by decide) (by decide)).symm : mI (pI M m 0 0) (mR M m 11) (ix v) = mI M (mR M m 11) (ix v)).trans (a1.kind _ (isIx_ix hv).2))]
      refine J_i2c hC dX5_kindOf_34 (v := sV S (ix v) 1) (kind_i (hI.kd _ (isIx_ix hv).2)) ?_
      refine J_zret hC (by decide) (by decide) (by first | exact kind_c (hI.kd _ (isIx_ix hv).2) | decide) dX5_kindOf_35 ?_
      refine op_ok hM hlt ?_
      simp [oKindOf, bz, hv]
    · exact absurd c21 (by decide)
theorem ct_X5_isOnRoad {G : Gt} {l : Launch} (hst : l.stackTraces = false) {M : Mm} {m : Nat} {S : St} {t : Nat} (hM : MAt M m S t) (hI : Inv S t) (hlt : t < 512) (v d : Int32) : Ct G l yX5_isOnRoad cX5_isOnRoad 3 (some .boolean) 3 M [rv m, .int v, .int d] 0 0 (Op M m t (oIsOnRoad S v d)) (noX) := by
  obtain ⟨a0, nP, nR, nS, a1, bR, bS, bt⟩ := id hM
  have bPs := a1.bPs; have bK := a1.bK; have bV := a1.bV; have bPl := a1.bP; have bN := a1.bN
  refine Ct_intro (own := RX5) (nm := "isOnRoad") (by decide +kernel) rfl rfl hst (fun w hw => by simp only [List.mem_cons, List.not_mem_nil, or_false] at hw; rcases hw with rfl | rfl | rfl <;> first | rfl | exact rv_cat _) (Nat.le_of_ble_eq_true rfl) (fun γ hC => ?_)
  show J G γ M 0 [some (rv m), some (.int v), some (.int d)] [] 0 0
  refine J_aload_n hC dX5_isOnRoad_0 rfl rfl ?_
  refine J_aload_n hC dX5_isOnRoad_1 rfl rfl ?_
  refine J_iload_n hC dX5_isOnRoad_2 rfl rfl ?_
  refine J_callV (k1 := 0) (n1 := 0) (kd := 6) [.int v] [.int v, rv m, rv m] hC lv_X5_147 (ct_X5_isVehicle hst hM v) a0.t (by decide) ⟨_, mE_6 a0.t⟩ rfl rfl rfl (by simp only [List.map_cons, List.map_nil, rv_cat, List.sum_cons, List.sum_nil]; (try simp only [Value.category]); (try omega)) (by decide) rfl rfl (by decide) (by decide) dX5_isOnRoad_3 (fun E M9 h => h.elim) (fun v9 M9 hq9 => ?_)
  obtain ⟨rfl, e9⟩ := hq9
  rw [e9]; clear e9
  refine J_if_ne hC dX5_isOnRoad_6 (tgt := 13) (by decide) (fun c6 => ?_) (fun c6 => ?_)
  · have hv : (isIx v (sN S 1)) = true := bz_ne0 c6
    have xv := (isIx_ix hv).2
    refine J_aload_n hC dX5_isOnRoad_13 rfl rfl ?_
    refine J_iload_n hC dX5_isOnRoad_14 rfl rfl ?_
    refine J_callV (k1 := 0) (n1 := 0) (kd := 6) [.int d] [.int d, rv m, rv m] hC lv_X5_154 (ct_X5_isDay hst hM d) a0.t (by decide) ⟨_, mE_6 a0.t⟩ rfl rfl rfl (by simp only [List.map_cons, List.map_nil, rv_cat, List.sum_cons, List.sum_nil]; (try simp only [Value.category]); (try omega)) (by decide) rfl rfl (by decide) (by decide) dX5_isOnRoad_15 (fun E M9 h => h.elim) (fun v9 M9 hq9 => ?_)
    obtain ⟨rfl, e9⟩ := hq9
    rw [e9]; clear e9
    refine J_if_eq hC dX5_isOnRoad_18 (tgt := 25) (by decide) (fun c18 => ?_) (fun c18 => ?_)
    · have ndd : (isDay S d) = false := bz_eq0 c18
      refine J_iconst hC dX5_isOnRoad_25 (v := 2) (by decide) ?_
      refine J_put6_0 hC lf_X5_80 a0.t dX5_isOnRoad_26 ?_
      refine J_aload_n hC dX5_isOnRoad_29 rfl rfl ?_
      refine J_get6 hC lf_X5_80 (j := 0) a0.t (v := .int 2) (congrArg (fun z => some (Value.int z)) (up2_same _ _ _ _ : mI (pI M m 0 2) m 0 = 2)) dX5_isOnRoad_30 ?_
      refine J_if_ne hC dX5_isOnRoad_33 (tgt := 49) (by decide) (fun c33 => ?_) (fun c33 => ?_)
      · refine J_iconst hC dX5_isOnRoad_49 (v := 0) (by decide) ?_
        refine J_zret hC (by decide) (by decide) (by decide) dX5_isOnRoad_50 ?_
        refine op_no hM hlt (k := 2) ?_ rfl
        simp [oIsOnRoad, hv, ndd]
      · exact absurd c33 (by decide)
    · have hdd : (isDay S d) = true := bz_ne0 c18
      refine J_iconst hC dX5_isOnRoad_21 (v := 0) (by decide) ?_
      refine J_goto hC dX5_isOnRoad_22 (tgt := 26) (by decide) ?_
      refine J_put6_0 hC lf_X5_80 a0.t dX5_isOnRoad_26 ?_
      refine J_aload_n hC dX5_isOnRoad_29 rfl rfl ?_
      refine J_get6 hC lf_X5_80 (j := 0) a0.t (v := .int 0) (congrArg (fun z => some (Value.int z)) (up2_same _ _ _ _ : mI (pI M m 0 0) m 0 = 0)) dX5_isOnRoad_30 ?_
      refine J_if_ne hC dX5_isOnRoad_33 (tgt := 49) (by decide) (fun c33 => ?_) (fun c33 => ?_)
      · exact absurd c33 (by decide)
      · refine J_aload_n hC dX5_isOnRoad_36 rfl rfl ?_
        refine J_iload_n hC dX5_isOnRoad_37 rfl rfl ?_
        refine J_iload_n hC dX5_isOnRoad_38 rfl rfl ?_
        refine J_callV (k1 := 0) (n1 := 0) (kd := 6) [.int v, .int d] [.int d, .int v, rv m] hC lv_X5_150 (ct_X5_road hst (MAt.thr hM 0) v d hv) a0.t (by decide) ⟨_, mE_6 a0.t⟩ rfl rfl rfl (by simp only [List.map_cons, List.map_nil, rv_cat, Value.category, List.sum_cons, List.sum_nil]; decide) (by decide) rfl rfl (by decide) (by decide) dX5_isOnRoad_39 (fun E M9 h => h.elim) (fun v9 M9 hq9 => ?_)
        obtain ⟨rfl, e9⟩ := hq9
        rw [e9]; clear e9
        refine J_if_eq hC dX5_isOnRoad_42 (tgt := 49) (by decide) (fun c42 => ?_) (fun c42 => ?_)
        · have b42 : (decide (look (sT S 2 (ix v)) d = 1)) = false := bz_eq0 c42
          refine J_iconst hC dX5_isOnRoad_49 (v := 0) (by decide) ?_
          refine J_zret hC (by decide) (by decide) (by decide) dX5_isOnRoad_50 ?_
          refine op_ok hM hlt ?_
          simp [oIsOnRoad, bz, hv, hdd, b42]
        · have b42 : (decide (look (sT S 2 (ix v)) d = 1)) = true := bz_ne0 c42
          refine J_iconst hC dX5_isOnRoad_45 (v := 1) (by decide) ?_
          refine J_goto hC dX5_isOnRoad_46 (tgt := 50) (by decide) ?_
          refine J_zret hC (by decide) (by decide) (by decide) dX5_isOnRoad_50 ?_
          refine op_ok hM hlt ?_
          simp [oIsOnRoad, bz, hv, hdd, b42]
  · have nv : (isIx v (sN S 1)) = false := bz_eq0 (nn c6)
    refine J_iconst hC dX5_isOnRoad_9 (v := 1) (by decide) ?_
    refine J_goto hC dX5_isOnRoad_10 (tgt := 26) (by decide) ?_
    refine J_put6_0 hC lf_X5_80 a0.t dX5_isOnRoad_26 ?_
    refine J_aload_n hC dX5_isOnRoad_29 rfl rfl ?_
    refine J_get6 hC lf_X5_80 (j := 0) a0.t (v := .int 1) (congrArg (fun z => some (Value.int z)) (up2_same _ _ _ _ : mI (pI M m 0 1) m 0 = 1)) dX5_isOnRoad_30 ?_
    refine J_if_ne hC dX5_isOnRoad_33 (tgt := 49) (by decide) (fun c33 => ?_) (fun c33 => ?_)
    · refine J_iconst hC dX5_isOnRoad_49 (v := 0) (by decide) ?_
      refine J_zret hC (by decide) (by decide) (by decide) dX5_isOnRoad_50 ?_
      refine op_no hM hlt (k := 1) ?_ rfl
      simp [oIsOnRoad, nv]
    · exact absurd c33 (by decide)
theorem isIx_n1 {v : Int32} {n : Nat} (h : isIx v n = true) : ¬ v = -1 := fun e => by rw [e, isIx_m1] at h; cases h
theorem oLook_int (r : Nat) (S : St) (v d : Int32) : ∃ i, (oLookT r S v d).2.1 = .int i := by
  unfold oLookT
  repeat' split
  all_goals exact ⟨_, rfl⟩
theorem oOwes_int (S : St) (v : Int32) : ∃ i, (oOwes S v).2.1 = .int i := by
  unfold oOwes
  repeat' split
  all_goals exact ⟨_, rfl⟩
theorem ct_X5_openNotices {G : Gt} {l : Launch} (hst : l.stackTraces = false) {M : Mm} {m : Nat} {S : St} {t : Nat} (hM : MAt M m S t) (hI : Inv S t) (hlt : t < 512) (v : Int32) : Ct G l yX5_openNotices cX5_openNotices 2 (some .int) 4 M [rv m, .int v] 0 0 (Op M m t (oOpen S v)) (noX) := by
  obtain ⟨a0, nP, nR, nS, a1, bR, bS, bt⟩ := id hM
  have bPs := a1.bPs; have bK := a1.bK; have bV := a1.bV; have bPl := a1.bP; have bN := a1.bN
  refine Ct_intro (own := RX5) (nm := "openNotices") (by decide +kernel) rfl rfl hst (fun w hw => by simp only [List.mem_cons, List.not_mem_nil, or_false] at hw; rcases hw with rfl | rfl <;> first | rfl | exact rv_cat _) (Nat.le_of_ble_eq_true rfl) (fun γ hC => ?_)
  show J G γ M 0 [some (rv m), some (.int v)] [] 0 0
  refine J_aload_n hC dX5_openNotices_0 rfl rfl ?_
  refine J_iload_n hC dX5_openNotices_1 rfl rfl ?_
  refine J_callV (k1 := 0) (n1 := 0) (kd := 6) [.int v] [.int v, rv m] hC lv_X5_189 (ct_X5_isAsked hst hM v) a0.t (by decide) ⟨_, mE_6 a0.t⟩ rfl rfl rfl (by simp only [List.map_cons, List.map_nil, rv_cat, Value.category, List.sum_cons, List.sum_nil]; decide) (by decide) rfl rfl (by decide) (by decide) dX5_openNotices_2 (fun E M9 h => h.elim) (fun v9 M9 hq9 => ?_)
  rcases hq9 with ⟨hv, rfl, rfl⟩ | ⟨nv, rfl, rfl⟩
  · have xv := (isIx_ix hv).2
    refine J_if_eq hC dX5_openNotices_5 (tgt := 16) (by decide) (fun c5 => ?_) (fun c5 => ?_)
    · exact absurd c5 (by decide)
    · refine J_aload_n hC dX5_openNotices_8 rfl rfl ?_
      refine J_iload_n hC dX5_openNotices_9 rfl rfl ?_
      refine J_callV (k1 := 0) (n1 := 0) (kd := 6) [.int v] [.int v, rv m] hC lv_X5_186 (ct_X5_open hst (MAt.thr hM 0) v) a0.t (by decide) ⟨_, mE_6 a0.t⟩ rfl rfl rfl (by simp only [List.map_cons, List.map_nil, rv_cat, Value.category, List.sum_cons, List.sum_nil]; decide) (by decide) rfl rfl (by decide) (by decide) dX5_openNotices_10 (fun E M9 h => h.elim) (fun v9 M9 hq9 => ?_)
      obtain ⟨rfl, e9⟩ := hq9
      rw [e9]; clear e9
      refine J_goto hC dX5_openNotices_13 (tgt := 17) (by decide) ?_
      refine J_iret hC (by decide) (by decide) dX5_openNotices_17 ?_
      refine op_ok hM hlt ?_
      have hm1 := isIx_n1 hv
      simp [oOpen, bz, hv, hm1]
  · refine J_if_eq hC dX5_openNotices_5 (tgt := 16) (by decide) (fun c5 => ?_) (fun c5 => ?_)
    · refine J_iconst hC dX5_openNotices_16 (v := 0) (by decide) ?_
      refine J_iret hC (by decide) (by decide) dX5_openNotices_17 ?_
      refine op_no hM hlt (k := 1) ?_ rfl
      simp [oOpen, nv]
    · exact absurd c5 (by decide)
theorem ct_X5_keeperOn {G : Gt} {l : Launch} (hst : l.stackTraces = false) {M : Mm} {m : Nat} {S : St} {t : Nat} (hM : MAt M m S t) (hI : Inv S t) (hlt : t < 512) (v d : Int32) : Ct G l yX5_keeperOn cX5_keeperOn 4 (some .int) 4 M [rv m, .int v, .int d] 0 0 (Op M m t (oLookT 0 S v d)) (noX) := by
  obtain ⟨a0, nP, nR, nS, a1, bR, bS, bt⟩ := id hM
  have bPs := a1.bPs; have bK := a1.bK; have bV := a1.bV; have bPl := a1.bP; have bN := a1.bN
  refine Ct_intro (own := RX5) (nm := "keeperOn") (by decide +kernel) rfl rfl hst (fun w hw => by simp only [List.mem_cons, List.not_mem_nil, or_false] at hw; rcases hw with rfl | rfl | rfl <;> first | rfl | exact rv_cat _) (Nat.le_of_ble_eq_true rfl) (fun γ hC => ?_)
  show J G γ M 0 [some (rv m), some (.int v), some (.int d)] [] 0 0
  refine J_aload_n hC dX5_keeperOn_0 rfl rfl ?_
  refine J_iload_n hC dX5_keeperOn_1 rfl rfl ?_
  refine J_callV (k1 := 0) (n1 := 0) (kd := 6) [.int v] [.int v, rv m] hC lv_X5_189 (ct_X5_isAsked hst hM v) a0.t (by decide) ⟨_, mE_6 a0.t⟩ rfl rfl rfl (by simp only [List.map_cons, List.map_nil, rv_cat, Value.category, List.sum_cons, List.sum_nil]; decide) (by decide) rfl rfl (by decide) (by decide) dX5_keeperOn_2 (fun E M9 h => h.elim) (fun v9 M9 hq9 => ?_)
  rcases hq9 with ⟨hv, rfl, rfl⟩ | ⟨nv, rfl, rfl⟩
  · have xv := (isIx_ix hv).2
    refine J_if_ne hC dX5_keeperOn_5 (tgt := 10) (by decide) (fun c5 => ?_) (fun c5 => ?_)
    · refine J_aload_n hC dX5_keeperOn_10 rfl rfl ?_
      refine J_iload_n hC dX5_keeperOn_11 rfl rfl ?_
      refine J_callV (k1 := 0) (n1 := 0) (kd := 6) [.int d] [.int d, rv m] hC lv_X5_154 (ct_X5_isDay hst (MAt.thr hM 0) d) a0.t (by decide) ⟨_, mE_6 a0.t⟩ rfl rfl rfl (by simp only [List.map_cons, List.map_nil, rv_cat, Value.category, List.sum_cons, List.sum_nil]; decide) (by decide) rfl rfl (by decide) (by decide) dX5_keeperOn_12 (fun E M9 h => h.elim) (fun v9 M9 hq9 => ?_)
      obtain ⟨rfl, e9⟩ := hq9
      rw [e9]; clear e9
      refine J_if_ne hC dX5_keeperOn_15 (tgt := 24) (by decide) (fun c15 => ?_) (fun c15 => ?_)
      · have hdd : (isDay S d) = true := bz_ne0 c15
        refine J_aload_n hC dX5_keeperOn_24 rfl rfl ?_
        refine J_iload_n hC dX5_keeperOn_25 rfl rfl ?_
        refine J_iload_n hC dX5_keeperOn_26 rfl rfl ?_
        refine J_callV (k1 := 0) (n1 := 0) (kd := 6) [.int v, .int d] [.int d, .int v, rv m] hC lv_X5_113 (ct_X5_keeper hst (MAt.thr hM 0) v d hv) a0.t (by decide) ⟨_, mE_6 a0.t⟩ rfl rfl rfl (by simp only [List.map_cons, List.map_nil, rv_cat, Value.category, List.sum_cons, List.sum_nil]; decide) (by decide) rfl rfl (by decide) (by decide) dX5_keeperOn_27 (fun E M9 h => h.elim) (fun v9 M9 hq9 => ?_)
        obtain ⟨rfl, e9⟩ := hq9
        rw [e9]; clear e9
        refine J_istore_n hC dX5_keeperOn_30 rfl (by decide) (ls1 := [some (rv m), some (.int v), some (.int d), some (.int (look (sT S 0 (ix v)) d))]) rfl ?_
        refine J_iload_n hC dX5_keeperOn_31 rfl rfl ?_
        refine J_iconst hC dX5_keeperOn_32 (v := -1) (by decide) ?_
        refine J_icmp_ne hC dX5_keeperOn_33 (tgt := 44) (by decide) (fun c33 => ?_) (fun c33 => ?_)
        · have q33 : ¬ look (sT S 0 (ix v)) d = -1 := c33
          refine J_iload_n hC dX5_keeperOn_44 rfl rfl ?_
          refine J_iret hC (by decide) (by decide) dX5_keeperOn_45 ?_
          refine op_ok hM hlt ?_
          simp [oLookT, bz, hv, hdd, q33]
        · have q33 : look (sT S 0 (ix v)) d = -1 := (nn c33)
          refine J_aload_n hC dX5_keeperOn_36 rfl rfl ?_
          refine J_iconst hC dX5_keeperOn_37 (v := 3) (by decide) ?_
          refine J_callV (k1 := 0) (n1 := 0) (kd := 6) [.int 3] [.int 3, rv m] hC lv_X5_116 (ct_X5_fails hst (M := (pI M m 0 0)) a0 3) a0.t (by decide) ⟨_, mE_6 a0.t⟩ rfl rfl rfl (by simp only [List.map_cons, List.map_nil, rv_cat, Value.category, List.sum_cons, List.sum_nil]; decide) (by decide) rfl rfl (by decide) (by decide) dX5_keeperOn_38 (fun E M9 h => h.elim) (fun v9 M9 hq9 => ?_)
          obtain ⟨rfl, rfl⟩ := hq9
          refine J_goto hC dX5_keeperOn_41 (tgt := 45) (by decide) ?_
          refine J_iret hC (by decide) (by decide) dX5_keeperOn_45 ?_
          rw [pI_pI]
          refine op_no hM hlt (k := 3) ?_ rfl
          simp [oLookT, hv, hdd, q33]
      · have ndd : (isDay S d) = false := bz_eq0 (nn c15)
        refine J_aload_n hC dX5_keeperOn_18 rfl rfl ?_
        refine J_iconst hC dX5_keeperOn_19 (v := 2) (by decide) ?_
        refine J_callV (k1 := 0) (n1 := 0) (kd := 6) [.int 2] [.int 2, rv m] hC lv_X5_116 (ct_X5_fails hst (M := (pI M m 0 0)) a0 2) a0.t (by decide) ⟨_, mE_6 a0.t⟩ rfl rfl rfl (by simp only [List.map_cons, List.map_nil, rv_cat, Value.category, List.sum_cons, List.sum_nil]; decide) (by decide) rfl rfl (by decide) (by decide) dX5_keeperOn_20 (fun E M9 h => h.elim) (fun v9 M9 hq9 => ?_)
        obtain ⟨rfl, rfl⟩ := hq9
        refine J_iret hC (by decide) (by decide) dX5_keeperOn_23 ?_
        rw [pI_pI]
        refine op_no hM hlt (k := 2) ?_ rfl
        simp [oLookT, hv, ndd]
    · exact absurd c5 (by decide)
  · refine J_if_ne hC dX5_keeperOn_5 (tgt := 10) (by decide) (fun c5 => ?_) (fun c5 => ?_)
    · exact absurd c5 (by decide)
    · refine J_iconst hC dX5_keeperOn_8 (v := 0) (by decide) ?_
      refine J_iret hC (by decide) (by decide) dX5_keeperOn_9 ?_
      refine op_no hM hlt (k := 1) ?_ rfl
      simp [oLookT, nv]
theorem ct_X5_plateOn {G : Gt} {l : Launch} (hst : l.stackTraces = false) {M : Mm} {m : Nat} {S : St} {t : Nat} (hM : MAt M m S t) (hI : Inv S t) (hlt : t < 512) (v d : Int32) : Ct G l yX5_plateOn cX5_plateOn 4 (some .int) 4 M [rv m, .int v, .int d] 0 0 (Op M m t (oLookT 1 S v d)) (noX) := by
  obtain ⟨a0, nP, nR, nS, a1, bR, bS, bt⟩ := id hM
  have bPs := a1.bPs; have bK := a1.bK; have bV := a1.bV; have bPl := a1.bP; have bN := a1.bN
  refine Ct_intro (own := RX5) (nm := "plateOn") (by decide +kernel) rfl rfl hst (fun w hw => by simp only [List.mem_cons, List.not_mem_nil, or_false] at hw; rcases hw with rfl | rfl | rfl <;> first | rfl | exact rv_cat _) (Nat.le_of_ble_eq_true rfl) (fun γ hC => ?_)
  show J G γ M 0 [some (rv m), some (.int v), some (.int d)] [] 0 0
  refine J_aload_n hC dX5_plateOn_0 rfl rfl ?_
  refine J_iload_n hC dX5_plateOn_1 rfl rfl ?_
  refine J_callV (k1 := 0) (n1 := 0) (kd := 6) [.int v] [.int v, rv m] hC lv_X5_147 (ct_X5_isVehicle hst hM v) a0.t (by decide) ⟨_, mE_6 a0.t⟩ rfl rfl rfl (by simp only [List.map_cons, List.map_nil, rv_cat, Value.category, List.sum_cons, List.sum_nil]; decide) (by decide) rfl rfl (by decide) (by decide) dX5_plateOn_2 (fun E M9 h => h.elim) (fun v9 M9 hq9 => ?_)
  obtain ⟨rfl, e9⟩ := hq9
  rw [e9]; clear e9
  refine J_if_ne hC dX5_plateOn_5 (tgt := 14) (by decide) (fun c5 => ?_) (fun c5 => ?_)
  · have hv : (isIx v (sN S 1)) = true := bz_ne0 c5
    have xv := (isIx_ix hv).2
    refine J_aload_n hC dX5_plateOn_14 rfl rfl ?_
    refine J_iload_n hC dX5_plateOn_15 rfl rfl ?_
    refine J_callV (k1 := 0) (n1 := 0) (kd := 6) [.int d] [.int d, rv m] hC lv_X5_154 (ct_X5_isDay hst hM d) a0.t (by decide) ⟨_, mE_6 a0.t⟩ rfl rfl rfl (by simp only [List.map_cons, List.map_nil, rv_cat, Value.category, List.sum_cons, List.sum_nil]; decide) (by decide) rfl rfl (by decide) (by decide) dX5_plateOn_16 (fun E M9 h => h.elim) (fun v9 M9 hq9 => ?_)
    obtain ⟨rfl, e9⟩ := hq9
    rw [e9]; clear e9
    refine J_if_ne hC dX5_plateOn_19 (tgt := 28) (by decide) (fun c19 => ?_) (fun c19 => ?_)
    · have hdd : (isDay S d) = true := bz_ne0 c19
      refine J_aload_n hC dX5_plateOn_28 rfl rfl ?_
      refine J_iload_n hC dX5_plateOn_29 rfl rfl ?_
      refine J_iload_n hC dX5_plateOn_30 rfl rfl ?_
      refine J_callV (k1 := 0) (n1 := 0) (kd := 6) [.int v, .int d] [.int d, .int v, rv m] hC lv_X5_106 (ct_X5_plate hst hM v d hv) a0.t (by decide) ⟨_, mE_6 a0.t⟩ rfl rfl rfl (by simp only [List.map_cons, List.map_nil, rv_cat, Value.category, List.sum_cons, List.sum_nil]; decide) (by decide) rfl rfl (by decide) (by decide) dX5_plateOn_31 (fun E M9 h => h.elim) (fun v9 M9 hq9 => ?_)
      obtain ⟨rfl, e9⟩ := hq9
      rw [e9]; clear e9
      refine J_istore_n hC dX5_plateOn_34 rfl (by decide) (ls1 := [some (rv m), some (.int v), some (.int d), some (.int (look (sT S 1 (ix v)) d))]) rfl ?_
      refine J_aload_n hC dX5_plateOn_35 rfl rfl ?_
      refine J_iload_n hC dX5_plateOn_36 rfl rfl ?_
      refine J_iconst hC dX5_plateOn_37 (v := -1) (by decide) ?_
      refine J_icmp_ne hC dX5_plateOn_38 (tgt := 45) (by decide) (fun c38 => ?_) (fun c38 => ?_)
      · have q38 : ¬ look (sT S 1 (ix v)) d = -1 := c38
        refine J_iconst hC dX5_plateOn_45 (v := 0) (by decide) ?_
        refine J_put6_0 hC lf_X5_80 a0.t dX5_plateOn_46 ?_
        refine J_iload_n hC dX5_plateOn_49 rfl rfl ?_
        refine J_iconst hC dX5_plateOn_50 (v := -1) (by decide) ?_
        refine J_icmp_ne hC dX5_plateOn_51 (tgt := 58) (by decide) (fun c51 => ?_) (fun c51 => ?_)
        · refine J_iload_n hC dX5_plateOn_58 rfl rfl ?_
          refine J_iret hC (by decide) (by decide) dX5_plateOn_59 ?_
          refine op_ok hM hlt ?_
          simp [oLookT, bz, hv, hdd, q38]
        · exact absurd q38 c51
      · have q38 : look (sT S 1 (ix v)) d = -1 := (nn c38)
        refine J_iconst hC dX5_plateOn_41 (v := 3) (by decide) ?_
        refine J_goto hC dX5_plateOn_42 (tgt := 46) (by decide) ?_
        refine J_put6_0 hC lf_X5_80 a0.t dX5_plateOn_46 ?_
        refine J_iload_n hC dX5_plateOn_49 rfl rfl ?_
        refine J_iconst hC dX5_plateOn_50 (v := -1) (by decide) ?_
        refine J_icmp_ne hC dX5_plateOn_51 (tgt := 58) (by decide) (fun c51 => ?_) (fun c51 => ?_)
        · exact absurd q38 c51
        · refine J_iconst hC dX5_plateOn_54 (v := 0) (by decide) ?_
          refine J_goto hC dX5_plateOn_55 (tgt := 59) (by decide) ?_
          refine J_iret hC (by decide) (by decide) dX5_plateOn_59 ?_
          refine op_no hM hlt (k := 3) ?_ rfl
          simp [oLookT, hv, hdd, q38]
    · have ndd : (isDay S d) = false := bz_eq0 (nn c19)
      refine J_aload_n hC dX5_plateOn_22 rfl rfl ?_
      refine J_iconst hC dX5_plateOn_23 (v := 2) (by decide) ?_
      refine J_callV (k1 := 0) (n1 := 0) (kd := 6) [.int 2] [.int 2, rv m] hC lv_X5_116 (ct_X5_fails hst (M := M) a0 2) a0.t (by decide) ⟨_, mE_6 a0.t⟩ rfl rfl rfl (by simp only [List.map_cons, List.map_nil, rv_cat, Value.category, List.sum_cons, List.sum_nil]; decide) (by decide) rfl rfl (by decide) (by decide) dX5_plateOn_24 (fun E M9 h => h.elim) (fun v9 M9 hq9 => ?_)
      obtain ⟨rfl, rfl⟩ := hq9
      refine J_iret hC (by decide) (by decide) dX5_plateOn_27 ?_
      refine op_no hM hlt (k := 2) ?_ rfl
      simp [oLookT, hv, ndd]
  · have nv : (isIx v (sN S 1)) = false := bz_eq0 (nn c5)
    refine J_aload_n hC dX5_plateOn_8 rfl rfl ?_
    refine J_iconst hC dX5_plateOn_9 (v := 1) (by decide) ?_
    refine J_callV (k1 := 0) (n1 := 0) (kd := 6) [.int 1] [.int 1, rv m] hC lv_X5_116 (ct_X5_fails hst (M := M) a0 1) a0.t (by decide) ⟨_, mE_6 a0.t⟩ rfl rfl rfl (by simp only [List.map_cons, List.map_nil, rv_cat, Value.category, List.sum_cons, List.sum_nil]; decide) (by decide) rfl rfl (by decide) (by decide) dX5_plateOn_10 (fun E M9 h => h.elim) (fun v9 M9 hq9 => ?_)
    obtain ⟨rfl, rfl⟩ := hq9
    refine J_iret hC (by decide) (by decide) dX5_plateOn_13 ?_
    refine op_no hM hlt (k := 1) ?_ rfl
    simp [oLookT, nv]
theorem ct_X5_keeperByGoing {G : Gt} {l : Launch} (hst : l.stackTraces = false) {M : Mm} {m : Nat} {S : St} {t : Nat} (hM : MAt M m S t) (hI : Inv S t) (hlt : t < 512) (v d : Int32) : Ct G l yX5_keeperByGoing cX5_keeperByGoing 3 (some .int) 5 M [rv m, .int v, .int d] 0 0 (Op M m t (oLookT 0 S v d)) (noX) := by
  obtain ⟨a0, nP, nR, nS, a1, bR, bS, bt⟩ := id hM
  have bPs := a1.bPs; have bK := a1.bK; have bV := a1.bV; have bPl := a1.bP; have bN := a1.bN
  refine Ct_intro (own := RX5) (nm := "keeperByGoing") (by decide +kernel) rfl rfl hst (fun w hw => by simp only [List.mem_cons, List.not_mem_nil, or_false] at hw; rcases hw with rfl | rfl | rfl <;> first | rfl | exact rv_cat _) (Nat.le_of_ble_eq_true rfl) (fun γ hC => ?_)
  show J G γ M 0 [some (rv m), some (.int v), some (.int d)] [] 0 0
  refine J_aload_n hC dX5_keeperByGoing_0 rfl rfl ?_
  refine J_iload_n hC dX5_keeperByGoing_1 rfl rfl ?_
  refine J_iload_n hC dX5_keeperByGoing_2 rfl rfl ?_
  refine J_callV (k1 := 0) (n1 := 0) (kd := 6) [.int v, .int d] [.int d, .int v, rv m] hC lv_X5_192 (ct_X5_keeperOn hst hM hI hlt v d) a0.t (by decide) ⟨_, mE_6 a0.t⟩ rfl rfl rfl (by simp only [List.map_cons, List.map_nil, rv_cat, Value.category, List.sum_cons, List.sum_nil]; decide) (by decide) rfl rfl (by decide) (by decide) dX5_keeperByGoing_3 (fun E M9 h => h.elim) (fun v9 M9 hq9 => ?_)
  obtain ⟨i9, hi9⟩ := oLook_int 0 S v d
  obtain ⟨e9, hb9⟩ := hq9
  rw [e9, hi9]
  clear e9
  refine J_iret hC (by decide) (by decide) dX5_keeperByGoing_6 ?_
  exact ⟨by rw [hi9], hb9⟩
theorem ct_X5_transfers {G : Gt} {l : Launch} (hst : l.stackTraces = false) {M : Mm} {m : Nat} {S : St} {t : Nat} (hM : MAt M m S t) (hI : Inv S t) (hlt : t < 512) (v : Int32) : Ct G l yX5_transfers cX5_transfers 2 (some .int) 4 M [rv m, .int v] 0 0 (Op M m t (oTransfers S v)) (noX) := by
  obtain ⟨a0, nP, nR, nS, a1, bR, bS, bt⟩ := id hM
  have bPs := a1.bPs; have bK := a1.bK; have bV := a1.bV; have bPl := a1.bP; have bN := a1.bN
  refine Ct_intro (own := RX5) (nm := "transfers") (by decide +kernel) rfl rfl hst (fun w hw => by simp only [List.mem_cons, List.not_mem_nil, or_false] at hw; rcases hw with rfl | rfl <;> first | rfl | exact rv_cat _) (Nat.le_of_ble_eq_true rfl) (fun γ hC => ?_)
  show J G γ M 0 [some (rv m), some (.int v)] [] 0 0
  refine J_aload_n hC dX5_transfers_0 rfl rfl ?_
  refine J_iload_n hC dX5_transfers_1 rfl rfl ?_
  refine J_callV (k1 := 0) (n1 := 0) (kd := 6) [.int v] [.int v, rv m] hC lv_X5_189 (ct_X5_isAsked hst hM v) a0.t (by decide) ⟨_, mE_6 a0.t⟩ rfl rfl rfl (by simp only [List.map_cons, List.map_nil, rv_cat, Value.category, List.sum_cons, List.sum_nil]; decide) (by decide) rfl rfl (by decide) (by decide) dX5_transfers_2 (fun E M9 h => h.elim) (fun v9 M9 hq9 => ?_)
  rcases hq9 with ⟨hv, rfl, rfl⟩ | ⟨nv, rfl, rfl⟩
  · have xv := (isIx_ix hv).2
    refine J_if_eq hC dX5_transfers_5 (tgt := 16) (by decide) (fun c5 => ?_) (fun c5 => ?_)
    · exact absurd c5 (by decide)
    · refine J_aload_n hC dX5_transfers_8 rfl rfl ?_
      refine J_iload_n hC dX5_transfers_9 rfl rfl ?_
      refine J_callV (k1 := 0) (n1 := 0) (kd := 6) [.int v] [.int v, rv m] hC lv_X5_195 (ct_X5_passesOf hst (MAt.thr hM 0) v hv) a0.t (by decide) ⟨_, mE_6 a0.t⟩ rfl rfl rfl (by simp only [List.map_cons, List.map_nil, rv_cat, Value.category, List.sum_cons, List.sum_nil]; decide) (by decide) rfl rfl (by decide) (by decide) dX5_transfers_10 (fun E M9 h => h.elim) (fun v9 M9 hq9 => ?_)
      obtain ⟨rfl, e9⟩ := hq9
      rw [e9]; clear e9
      refine J_goto hC dX5_transfers_13 (tgt := 17) (by decide) ?_
      refine J_iret hC (by decide) (by decide) dX5_transfers_17 ?_
      refine op_ok hM hlt ?_
      simp [oTransfers, bz, hv]
  · refine J_if_eq hC dX5_transfers_5 (tgt := 16) (by decide) (fun c5 => ?_) (fun c5 => ?_)
    · refine J_iconst hC dX5_transfers_16 (v := 0) (by decide) ?_
      refine J_iret hC (by decide) (by decide) dX5_transfers_17 ?_
      refine op_no hM hlt (k := 1) ?_ rfl
      simp [oTransfers, nv]
    · exact absurd c5 (by decide)
theorem ct_X5_isBlocked {G : Gt} {l : Launch} (hst : l.stackTraces = false) {M : Mm} {m : Nat} {S : St} {t : Nat} (hM : MAt M m S t) (hI : Inv S t) (hlt : t < 512) (v : Int32) : Ct G l yX5_isBlocked cX5_isBlocked 2 (some .boolean) 4 M [rv m, .int v] 0 0 (Op M m t (oIsBlocked S v)) (noX) := by
  obtain ⟨a0, nP, nR, nS, a1, bR, bS, bt⟩ := id hM
  have bPs := a1.bPs; have bK := a1.bK; have bV := a1.bV; have bPl := a1.bP; have bN := a1.bN
  refine Ct_intro (own := RX5) (nm := "isBlocked") (by decide +kernel) rfl rfl hst (fun w hw => by simp only [List.mem_cons, List.not_mem_nil, or_false] at hw; rcases hw with rfl | rfl <;> first | rfl | exact rv_cat _) (Nat.le_of_ble_eq_true rfl) (fun γ hC => ?_)
  show J G γ M 0 [some (rv m), some (.int v)] [] 0 0
  refine J_aload_n hC dX5_isBlocked_0 rfl rfl ?_
  refine J_iload_n hC dX5_isBlocked_1 rfl rfl ?_
  refine J_callV (k1 := 0) (n1 := 0) (kd := 6) [.int v] [.int v, rv m] hC lv_X5_189 (ct_X5_isAsked hst hM v) a0.t (by decide) ⟨_, mE_6 a0.t⟩ rfl rfl rfl (by simp only [List.map_cons, List.map_nil, rv_cat, Value.category, List.sum_cons, List.sum_nil]; decide) (by decide) rfl rfl (by decide) (by decide) dX5_isBlocked_2 (fun E M9 h => h.elim) (fun v9 M9 hq9 => ?_)
  rcases hq9 with ⟨hv, rfl, rfl⟩ | ⟨nv, rfl, rfl⟩
  · have xv := (isIx_ix hv).2
    refine J_if_eq hC dX5_isBlocked_5 (tgt := 20) (by decide) (fun c5 => ?_) (fun c5 => ?_)
    · exact absurd c5 (by decide)
    · refine J_aload_n hC dX5_isBlocked_8 rfl rfl ?_
      refine J_iload_n hC dX5_isBlocked_9 rfl rfl ?_
      refine J_callV (k1 := 0) (n1 := 0) (kd := 6) [.int v] [.int v, rv m] hC lv_X5_157 (ct_X5_blocked hst (MAt.thr hM 0) v hv) a0.t (by decide) ⟨_, mE_6 a0.t⟩ rfl rfl rfl (by simp only [List.map_cons, List.map_nil, rv_cat, Value.category, List.sum_cons, List.sum_nil]; decide) (by decide) rfl rfl (by decide) (by decide) dX5_isBlocked_10 (fun E M9 h => h.elim) (fun v9 M9 hq9 => ?_)
      obtain ⟨rfl, e9⟩ := hq9
      rw [e9]; clear e9
      refine J_if_eq hC dX5_isBlocked_13 (tgt := 20) (by decide) (fun c13 => ?_) (fun c13 => ?_)
      · have b13 : (blk S (ix v)) = false := bz_eq0 c13
        refine J_iconst hC dX5_isBlocked_20 (v := 0) (by decide) ?_
        refine J_zret hC (by decide) (by decide) (by decide) dX5_isBlocked_21 ?_
        refine op_ok hM hlt ?_
        simp [oIsBlocked, bz, hv, b13]
      · have b13 : (blk S (ix v)) = true := bz_ne0 c13
        refine J_iconst hC dX5_isBlocked_16 (v := 1) (by decide) ?_
        refine J_goto hC dX5_isBlocked_17 (tgt := 21) (by decide) ?_
        refine J_zret hC (by decide) (by decide) (by decide) dX5_isBlocked_21 ?_
        refine op_ok hM hlt ?_
        simp [oIsBlocked, bz, hv, b13]
  · refine J_if_eq hC dX5_isBlocked_5 (tgt := 20) (by decide) (fun c5 => ?_) (fun c5 => ?_)
    · refine J_iconst hC dX5_isBlocked_20 (v := 0) (by decide) ?_
      refine J_zret hC (by decide) (by decide) (by decide) dX5_isBlocked_21 ?_
      refine op_no hM hlt (k := 1) ?_ rfl
      simp [oIsBlocked, nv]
    · exact absurd c5 (by decide)
theorem ct_X5_owes {G : Gt} {l : Launch} (hst : l.stackTraces = false) {M : Mm} {m : Nat} {S : St} {t : Nat} (hM : MAt M m S t) (hI : Inv S t) (hlt : t < 512) (who : Int32) : Ct G l yX5_owes cX5_owes 2 (some .int) 4 M [rv m, .int who] 0 0 (Op M m t (oOwes S who)) (noX) := by
  obtain ⟨a0, nP, nR, nS, a1, bR, bS, bt⟩ := id hM
  have bPs := a1.bPs; have bK := a1.bK; have bV := a1.bV; have bPl := a1.bP; have bN := a1.bN
  refine Ct_intro (own := RX5) (nm := "owes") (by decide +kernel) rfl rfl hst (fun w hw => by simp only [List.mem_cons, List.not_mem_nil, or_false] at hw; rcases hw with rfl | rfl <;> first | rfl | exact rv_cat _) (Nat.le_of_ble_eq_true rfl) (fun γ hC => ?_)
  show J G γ M 0 [some (rv m), some (.int who)] [] 0 0
  refine J_aload_n hC dX5_owes_0 rfl rfl ?_
  refine J_aload_n hC dX5_owes_1 rfl rfl ?_
  refine J_iload_n hC dX5_owes_2 rfl rfl ?_
  refine J_callV (k1 := 0) (n1 := 0) (kd := 6) [.int who] [.int who, rv m, rv m] hC lv_X5_124 (ct_X5_isKeeper hst hM who) a0.t (by decide) ⟨_, mE_6 a0.t⟩ rfl rfl rfl (by simp only [List.map_cons, List.map_nil, rv_cat, List.sum_cons, List.sum_nil]; (try simp only [Value.category]); (try omega)) (by decide) rfl rfl (by decide) (by decide) dX5_owes_3 (fun E M9 h => h.elim) (fun v9 M9 hq9 => ?_)
  obtain ⟨rfl, e9⟩ := hq9
  rw [e9]; clear e9
  refine J_if_eq hC dX5_owes_6 (tgt := 13) (by decide) (fun c6 => ?_) (fun c6 => ?_)
  · have nwho : (isIx who (sN S 0)) = false := bz_eq0 c6
    refine J_iconst hC dX5_owes_13 (v := 1) (by decide) ?_
    refine J_put6_0 hC lf_X5_80 a0.t dX5_owes_14 ?_
    refine J_aload_n hC dX5_owes_17 rfl rfl ?_
    refine J_get6 hC lf_X5_80 (j := 0) a0.t (v := .int 1) (congrArg (fun z => some (Value.int z)) (up2_same _ _ _ _ : mI (pI M m 0 1) m 0 = 1)) dX5_owes_18 ?_
    refine J_if_le hC dX5_owes_21 (tgt := 28) (by decide) (fun c21 => ?_) (fun c21 => ?_)
    · exact absurd c21 (by decide)
    · refine J_iconst hC dX5_owes_24 (v := 0) (by decide) ?_
      refine J_goto hC dX5_owes_25 (tgt := 33) (by decide) ?_
      refine J_iret hC (by decide) (by decide) dX5_owes_33 ?_
      refine op_no hM hlt (k := 1) ?_ rfl
      simp [oOwes, nwho]
  · have hwho : (isIx who (sN S 0)) = true := bz_ne0 c6
    have xwho := (isIx_ix hwho).2
    refine J_iconst hC dX5_owes_9 (v := 0) (by decide) ?_
    refine J_goto hC dX5_owes_10 (tgt := 14) (by decide) ?_
    refine J_put6_0 hC lf_X5_80 a0.t dX5_owes_14 ?_
    refine J_aload_n hC dX5_owes_17 rfl rfl ?_
    refine J_get6 hC lf_X5_80 (j := 0) a0.t (v := .int 0) (congrArg (fun z => some (Value.int z)) (up2_same _ _ _ _ : mI (pI M m 0 0) m 0 = 0)) dX5_owes_18 ?_
    refine J_if_le hC dX5_owes_21 (tgt := 28) (by decide) (fun c21 => ?_) (fun c21 => ?_)
    · refine J_aload_n hC dX5_owes_28 rfl rfl ?_
      refine J_iload_n hC dX5_owes_29 rfl rfl ?_
      refine J_callV (k1 := 0) (n1 := 0) (kd := 6) [.int who] [.int who, rv m] hC lv_X5_223 (ct_X5_debt hst (MAt.thr hM 0) hI who hwho) a0.t (by decide) ⟨_, mE_6 a0.t⟩ rfl rfl rfl (by simp only [List.map_cons, List.map_nil, rv_cat, Value.category, List.sum_cons, List.sum_nil]; decide) (by decide) rfl rfl (by decide) (by decide) dX5_owes_30 (fun E M9 h => h.elim) (fun v9 M9 hq9 => ?_)
      obtain ⟨rfl, e9⟩ := hq9
      rw [e9]; clear e9
      refine J_iret hC (by decide) (by decide) dX5_owes_33 ?_
      refine op_ok hM hlt ?_
      simp [oOwes, bz, hwho]
    · exact absurd c21 (by decide)
theorem ct_X5_owesByDays {G : Gt} {l : Launch} (hst : l.stackTraces = false) {M : Mm} {m : Nat} {S : St} {t : Nat} (hM : MAt M m S t) (hI : Inv S t) (hlt : t < 512) (who : Int32) : Ct G l yX5_owesByDays cX5_owesByDays 2 (some .int) 5 M [rv m, .int who] 0 0 (Op M m t (oOwes S who)) (noX) := by
  obtain ⟨a0, nP, nR, nS, a1, bR, bS, bt⟩ := id hM
  have bPs := a1.bPs; have bK := a1.bK; have bV := a1.bV; have bPl := a1.bP; have bN := a1.bN
  refine Ct_intro (own := RX5) (nm := "owesByDays") (by decide +kernel) rfl rfl hst (fun w hw => by simp only [List.mem_cons, List.not_mem_nil, or_false] at hw; rcases hw with rfl | rfl <;> first | rfl | exact rv_cat _) (Nat.le_of_ble_eq_true rfl) (fun γ hC => ?_)
  show J G γ M 0 [some (rv m), some (.int who)] [] 0 0
  refine J_aload_n hC dX5_owesByDays_0 rfl rfl ?_
  refine J_iload_n hC dX5_owesByDays_1 rfl rfl ?_
  refine J_callV (k1 := 0) (n1 := 0) (kd := 6) [.int who] [.int who, rv m] hC lv_X5_226 (ct_X5_owes hst hM hI hlt who) a0.t (by decide) ⟨_, mE_6 a0.t⟩ rfl rfl rfl (by simp only [List.map_cons, List.map_nil, rv_cat, Value.category, List.sum_cons, List.sum_nil]; decide) (by decide) rfl rfl (by decide) (by decide) dX5_owesByDays_2 (fun E M9 h => h.elim) (fun v9 M9 hq9 => ?_)
  obtain ⟨i9, hi9⟩ := oOwes_int S who
  obtain ⟨e9, hb9⟩ := hq9
  rw [e9, hi9]
  clear e9
  refine J_iret hC (by decide) (by decide) dX5_owesByDays_5 ?_
  exact ⟨by rw [hi9], hb9⟩
theorem ct_X5_plates {G : Gt} {l : Launch} (hst : l.stackTraces = false) {M : Mm} {m : Nat} {S : St} {t : Nat} (hM : MAt M m S t) (hI : Inv S t) (hlt : t < 512)  : Ct G l yX5_plates cX5_plates 1 (some .int) 3 M [rv m] 0 0 (Op M m t (oPlates S)) (noX) := by
  obtain ⟨a0, nP, nR, nS, a1, bR, bS, bt⟩ := id hM
  have bPs := a1.bPs; have bK := a1.bK; have bV := a1.bV; have bPl := a1.bP; have bN := a1.bN
  refine Ct_intro (own := RX5) (nm := "plates") (by decide +kernel) rfl rfl hst (fun w hw => by simp only [List.mem_cons, List.not_mem_nil, or_false] at hw; rcases hw with rfl <;> first | rfl | exact rv_cat _) (Nat.le_of_ble_eq_true rfl) (fun γ hC => ?_)
  show J G γ M 0 [some (rv m)] [] 0 0
  refine J_aload_n hC dX5_plates_0 rfl rfl ?_
  refine J_iconst hC dX5_plates_1 (v := 0) (by decide) ?_
  refine J_put6_0 hC lf_X5_80 a0.t dX5_plates_2 ?_
  refine J_aload_n hC dX5_plates_5 rfl rfl ?_
  refine J_get6 hC lf_X5_94 (j := 4) a0.t (v := .int (nI (sN S 2))) (congrArg (fun z => some (Value.int z)) ((up2_k _ _ _ (by decide) : mI (pI M m 0 0) m 4 = mI M m 4).trans a1.s4)) dX5_plates_6 ?_
  refine J_iret hC (by decide) (by decide) dX5_plates_9 ?_
  refine op_ok hM hlt ?_
  simp [oPlates, bz]
theorem ct_X5_collected {G : Gt} {l : Launch} (hst : l.stackTraces = false) {M : Mm} {m : Nat} {S : St} {t : Nat} (hM : MAt M m S t) (hI : Inv S t) (hlt : t < 512)  : Ct G l yX5_collected cX5_collected 1 (some .long) 3 M [rv m] 0 0 (Op M m t (oCollected S)) (noX) := by
  obtain ⟨a0, nP, nR, nS, a1, bR, bS, bt⟩ := id hM
  have bPs := a1.bPs; have bK := a1.bK; have bV := a1.bV; have bPl := a1.bP; have bN := a1.bN
  refine Ct_intro (own := RX5) (nm := "collected") (by decide +kernel) rfl rfl hst (fun w hw => by simp only [List.mem_cons, List.not_mem_nil, or_false] at hw; rcases hw with rfl <;> first | rfl | exact rv_cat _) (Nat.le_of_ble_eq_true rfl) (fun γ hC => ?_)
  show J G γ M 0 [some (rv m)] [] 0 0
  refine J_aload_n hC dX5_collected_0 rfl rfl ?_
  refine J_iconst hC dX5_collected_1 (v := 0) (by decide) ?_
  refine J_put6_0 hC lf_X5_80 a0.t dX5_collected_2 ?_
  refine J_aload_n hC dX5_collected_5 rfl rfl ?_
  refine J_get6 hC lf_X5_229 (j := 9) a0.t (v := .long (sC S)) (congrArg (fun z => some (Value.long z)) a1.s9) dX5_collected_6 ?_
  refine J_lret hC (by decide) (by decide) dX5_collected_9 ?_
  refine op_ok hM hlt ?_
  simp [oCollected, bz]
theorem ct_X5_isSound {G : Gt} {l : Launch} (hst : l.stackTraces = false) {M : Mm} {m : Nat} {S : St} {t : Nat} (hM : MAt M m S t) (hI : Inv S t) (hlt : t < 512)  : Ct G l yX5_isSound cX5_isSound 1 (some .boolean) 3 M [rv m] 0 0 (Op M m t (oSound S)) (noX) := by
  obtain ⟨a0, nP, nR, nS, a1, bR, bS, bt⟩ := id hM
  have bPs := a1.bPs; have bK := a1.bK; have bV := a1.bV; have bPl := a1.bP; have bN := a1.bN
  refine Ct_intro (own := RX5) (nm := "isSound") (by decide +kernel) rfl rfl hst (fun w hw => by simp only [List.mem_cons, List.not_mem_nil, or_false] at hw; rcases hw with rfl <;> first | rfl | exact rv_cat _) (Nat.le_of_ble_eq_true rfl) (fun γ hC => ?_)
  show J G γ M 0 [some (rv m)] [] 0 0
  refine J_aload_n hC dX5_isSound_0 rfl rfl ?_
  refine J_iconst hC dX5_isSound_1 (v := 0) (by decide) ?_
  refine J_put6_0 hC lf_X5_80 a0.t dX5_isSound_2 ?_
  refine J_iconst hC dX5_isSound_5 (v := 1) (by decide) ?_
  refine J_zret hC (by decide) (by decide) (by decide) dX5_isSound_6 ?_
  refine op_ok hM hlt ?_
  simp [oSound, bz]
