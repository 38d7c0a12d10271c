theorem ct_X5_setOnRoad {G : Gt} {l : Launch} (hst : l.stackTraces = false) {M : Mm} {m : Nat} {S : St} {t : Nat} (hM : MAt M m S t) (hI : Inv S t) (hlt : t < 512) (v b : Int32) (hb : b = 0 ∨ b = 1) : Ct G l yX5_setOnRoad cX5_setOnRoad 4 (some .boolean) 4 M [rv m, .int v, .int b] 0 0 (Op M m t (oSetOnRoad S v b)) (noX) := by
  obtain ⟨a0, nP, nR, nS, a1, bR, bS, bt⟩ := id hM
  have bPs := a1.bPs; have bK := a1.bK; have bV := a1.bV; have bPl := a1.bP; have bN := a1.bN
  refine Ct_intro (own := RX5) (nm := "setOnRoad") (by decide +kernel) rfl rfl hst (fun w hw => by simp only [List.mem_cons, List.not_mem_nil, or_false] at hw; rcases hw with rfl | rfl | rfl <;> first | rfl | exact rv_cat _) (Nat.le_of_ble_eq_true rfl) (fun γ hC => ?_)
  show J G γ M 0 [some (rv m), some (.int v), some (.int b)] [] 0 0
  refine J_aload_n hC dX5_setOnRoad_0 rfl rfl ?_
  refine J_aload_n hC dX5_setOnRoad_1 rfl rfl ?_
  refine J_iload_n hC dX5_setOnRoad_2 rfl rfl ?_
  refine J_callV (k1 := 0) (n1 := 0) (kd := 6) [.int v] [.int v, rv m, rv m] hC lv_X5_147 (ct_X5_isVehicle hst hM v) a0.t (by decide) ⟨_, mE_6 a0.t⟩ rfl rfl rfl (by simp only [List.map_cons, List.map_nil, rv_cat, List.sum_cons, List.sum_nil]; (try simp only [Value.category]); (try omega)) (by decide) rfl rfl (by decide) (by decide) dX5_setOnRoad_3 (fun E M9 h => h.elim) (fun v9 M9 hq9 => ?_)
  obtain ⟨rfl, e9⟩ := hq9
  rw [e9]; clear e9
  refine J_if_ne hC dX5_setOnRoad_6 (tgt := 13) (by decide) (fun c6 => ?_) (fun c6 => ?_)
  · have hv : (isIx v (sN S 1)) = true := bz_ne0 c6
    have xv := (isIx_ix hv).2
    refine J_aload_n hC dX5_setOnRoad_13 rfl rfl ?_
    refine J_get6 hC lf_X5_19 (j := 13) a0.t (v := rv (mR M m 13)) rfl dX5_setOnRoad_14 ?_
    refine J_iload_n hC dX5_setOnRoad_17 rfl rfl ?_
    refine J_zald hC a0.a13 (j := (ix v)) (isIx_ix hv).1 (by rw [a0.l13]; omega) dX5_setOnRoad_18 ?_
    rw [show mI M (mR M m 13) (ix v) = sV S (ix v) 7 from (a1.scr _ xv)]
    refine J_if_ne hC dX5_setOnRoad_19 (tgt := 35) (by decide) (fun c19 => ?_) (fun c19 => ?_)
    · have s19 : sV S (ix v) 7 = 1 := (a1.sc _ xv).resolve_left c19
      refine J_iconst hC dX5_setOnRoad_35 (v := 2) (by decide) ?_
      refine J_goto hC dX5_setOnRoad_36 (tgt := 40) (by decide) ?_
      refine J_put6_0 hC lf_X5_80 a0.t dX5_setOnRoad_40 ?_
      refine J_aload_n hC dX5_setOnRoad_43 rfl rfl ?_
      refine J_get6 hC lf_X5_80 (j := 0) a0.t (v := .int 2) (congrArg (fun z => some (Value.int z)) (up2_same _ _ _ _ : mI (pI M m 0 2) m 0 = 2)) dX5_setOnRoad_44 ?_
      refine J_if_le hC dX5_setOnRoad_47 (tgt := 52) (by decide) (fun c47 => ?_) (fun c47 => ?_)
      · exact absurd c47 (by decide)
      · refine J_iconst hC dX5_setOnRoad_50 (v := 0) (by decide) ?_
        refine J_zret hC (by decide) (by decide) (by first | exact bz_nar _ | decide) dX5_setOnRoad_51 ?_
        refine op_no hM hlt (k := 2) ?_ rfl
        simp [oSetOnRoad, hv, s19]
    · have s19 : ¬ sV S (ix v) 7 = 1 := fun e => by rw [(nn c19)] at e; exact absurd e (by decide)
      refine J_aload_n hC dX5_setOnRoad_22 rfl rfl ?_
      refine J_iload_n hC dX5_setOnRoad_23 rfl rfl ?_
      refine J_aload_n hC dX5_setOnRoad_24 rfl rfl ?_
      refine J_get6 hC lf_X5_97 (j := 5) a0.t (v := .int (sD S)) (congrArg (fun z => some (Value.int z)) a1.s5) dX5_setOnRoad_25 ?_
      refine J_callV (k1 := 0) (n1 := 0) (kd := 6) [.int v, .int (sD S)] [.int (sD S), .int v, rv m, rv m] hC lv_X5_106 (ct_X5_plate hst hM v (sD S) hv) a0.t (by decide) ⟨_, mE_6 a0.t⟩ rfl rfl rfl (by simp only [List.map_cons, List.map_nil, rv_cat, List.sum_cons, List.sum_nil]; (try simp only [Value.category]); (try omega)) (by decide) rfl rfl (by decide) (by decide) dX5_setOnRoad_28 (fun E M9 h => h.elim) (fun v9 M9 hq9 => ?_)
      obtain ⟨rfl, e9⟩ := hq9
      rw [e9]; clear e9
      rw [hI.lk (isIx_ix hv).2 (by decide)]
      refine J_iconst hC dX5_setOnRoad_31 (v := -1) (by decide) ?_
      refine J_icmp_ne hC dX5_setOnRoad_32 (tgt := 39) (by decide) (fun c32 => ?_) (fun c32 => ?_)
      · have q32 : ¬ lastV (sT S 1 (ix v)) = -1 := c32
        refine J_iconst hC dX5_setOnRoad_39 (v := 0) (by decide) ?_
        refine J_put6_0 hC lf_X5_80 a0.t dX5_setOnRoad_40 ?_
        refine J_aload_n hC dX5_setOnRoad_43 rfl rfl ?_
        refine J_get6 hC lf_X5_80 (j := 0) a0.t (v := .int 0) (congrArg (fun z => some (Value.int z)) (up2_same _ _ _ _ : mI (pI M m 0 0) m 0 = 0)) dX5_setOnRoad_44 ?_
        refine J_if_le hC dX5_setOnRoad_47 (tgt := 52) (by decide) (fun c47 => ?_) (fun c47 => ?_)
        · refine J_aload_n hC dX5_setOnRoad_52 rfl rfl ?_
          refine J_iload_n hC dX5_setOnRoad_53 rfl rfl ?_
          refine J_aload_n hC dX5_setOnRoad_54 rfl rfl ?_
          refine J_get6 hC lf_X5_97 (j := 5) a0.t (v := .int (sD S)) (congrArg (fun z => some (Value.int z)) ((up2_k _ _ _ (by decide) : mI (pI M m 0 0) m 5 = mI M m 5).trans a1.s5)) dX5_setOnRoad_55 ?_
          refine J_callV (k1 := 0) (n1 := 0) (kd := 6) [.int v, .int (sD S)] [.int (sD S), .int v, rv m] hC lv_X5_150 (ct_X5_road hst (MAt.thr hM 0) v (sD S) hv) a0.t (by decide) ⟨_, mE_6 a0.t⟩ rfl rfl rfl (by simp only [List.map_cons, List.map_nil, rv_cat, Value.category, List.sum_cons, List.sum_nil]; decide) (by decide) rfl rfl (by decide) (by decide) dX5_setOnRoad_58 (fun E M9 h => h.elim) (fun v9 M9 hq9 => ?_)
          obtain ⟨rfl, e9⟩ := hq9
          rw [e9]; clear e9
          rw [hI.lk (isIx_ix hv).2 (by decide)]
          refine J_istore_n hC dX5_setOnRoad_61 rfl (by decide) (ls1 := [some (rv m), some (.int v), some (.int b), some (.int (bz (decide (lastV (sT S 2 (ix v)) = 1))))]) rfl ?_
          refine J_aload_n hC dX5_setOnRoad_62 rfl rfl ?_
          refine J_iload_n hC dX5_setOnRoad_63 rfl rfl ?_
          refine J_iload_n hC dX5_setOnRoad_64 rfl rfl ?_
          refine J_callV (k1 := 0) (n1 := 0) (kd := 6) [.int v, .int b] [.int b, .int v, rv m] hC lv_X5_139 (ct_X5_setsRoad hst (MAw.thr hM.w.1 0) v b hv (hI.r xv (by decide)).1 (hI.r xv (by decide)).2 (by omega) hb) a0.t (by decide) ⟨_, mE_6 a0.t⟩ rfl rfl rfl (by simp only [List.map_cons, List.map_nil, rv_cat, Value.category, List.sum_cons, List.sum_nil]; decide) (by decide) rfl rfl (by decide) (by decide) dX5_setOnRoad_65 (fun E M9 h => h.elim) (fun v9 M9 hq9 => ?_)
          obtain ⟨rfl, hu⟩ := hq9
          refine J_iload_n hC dX5_setOnRoad_68 rfl rfl ?_
          refine J_zret hC (by decide) (by decide) (by first | exact bz_nar _ | decide) dX5_setOnRoad_69 ?_
          refine op_mu hM ?_ hu (by omega) (by omega) hlt
          unfold oSetOnRoad
          rw [if_neg (by rw [hv]; simp), if_neg (by rintro (q | q); exact s19 q; exact q32 q)]
        · exact absurd c47 (by decide)
      · have q32 : lastV (sT S 1 (ix v)) = -1 := (nn c32)
        refine J_iconst hC dX5_setOnRoad_35 (v := 2) (by decide) ?_
        refine J_goto hC dX5_setOnRoad_36 (tgt := 40) (by decide) ?_
        refine J_put6_0 hC lf_X5_80 a0.t dX5_setOnRoad_40 ?_
        refine J_aload_n hC dX5_setOnRoad_43 rfl rfl ?_
        refine J_get6 hC lf_X5_80 (j := 0) a0.t (v := .int 2) (congrArg (fun z => some (Value.int z)) (up2_same _ _ _ _ : mI (pI M m 0 2) m 0 = 2)) dX5_setOnRoad_44 ?_
        refine J_if_le hC dX5_setOnRoad_47 (tgt := 52) (by decide) (fun c47 => ?_) (fun c47 => ?_)
        · exact absurd c47 (by decide)
        · refine J_iconst hC dX5_setOnRoad_50 (v := 0) (by decide) ?_
          refine J_zret hC (by decide) (by decide) (by first | exact bz_nar _ | decide) dX5_setOnRoad_51 ?_
          refine op_no hM hlt (k := 2) ?_ rfl
          simp [oSetOnRoad, hv, s19, q32]
  · have nv : (isIx v (sN S 1)) = false := bz_eq0 (nn c6)
    refine J_iconst hC dX5_setOnRoad_9 (v := 1) (by decide) ?_
    refine J_goto hC dX5_setOnRoad_10 (tgt := 40) (by decide) ?_
    refine J_put6_0 hC lf_X5_80 a0.t dX5_setOnRoad_40 ?_
    refine J_aload_n hC dX5_setOnRoad_43 rfl rfl ?_
    refine J_get6 hC lf_X5_80 (j := 0) a0.t (v := .int 1) (congrArg (fun z => some (Value.int z)) (up2_same _ _ _ _ : mI (pI M m 0 1) m 0 = 1)) dX5_setOnRoad_44 ?_
    refine J_if_le hC dX5_setOnRoad_47 (tgt := 52) (by decide) (fun c47 => ?_) (fun c47 => ?_)
    · exact absurd c47 (by decide)
    · refine J_iconst hC dX5_setOnRoad_50 (v := 0) (by decide) ?_
      refine J_zret hC (by decide) (by decide) (by first | exact bz_nar _ | decide) dX5_setOnRoad_51 ?_
      refine op_no hM hlt (k := 1) ?_ rfl
      simp [oSetOnRoad, nv]
theorem use_L (S : St) (v s b : Nat) : sL (useQ S v s b) = sL S := rfl
theorem settle_L {v : Nat} : ∀ (k : Nat) (S : St), sL (settleQ k S v) = sL S
  | 0, S => rfl
  | k + 1, S => by
    cases h : stepQ S v with
    | none => rw [settle_none h]
    | some S1 =>
      obtain ⟨s, b, -, -, -, -, -, e⟩ := step_of h
      rw [settle_some h, settle_L k S1, e, use_L]
theorem Inv.ln {S : St} {t v k : Nat} {x : Int32} (h : Inv S t) (hx : 0 ≤ x.toInt ∧ x.toInt ≤ 9999 * t) : Inv (uL S v k x) t := by
  have hN : sN (uL S v k x) = sN S := by simp only [sN_uL]
  have hD : sD (uL S v k x) = sD S := by simp only [sD_uL]
  have hV : sV (uL S v k x) = sV S := by simp only [sV_uL]
  have hT : sT (uL S v k x) = sT S := by simp only [sT_uL]
  have hQ : sQ (uL S v k x) = sQ S := by simp only [sQ_uL]
  have hO : sO (uL S v k x) = sO S := by simp only [sO_uL]
  have hL : sL (uL S v k x) = up2 (sL S) v k x := by simp only [sL_uL]
  unfold Inv
  rw [hN, hD, hV, hT, hQ, hO, hL, passN_T hT]
  exact ⟨h.bK, h.bV, h.bP, h.bN, h.bD, h.bt, h.tn, h.ts, h.s2, h.t0, h.t1, h.t2, h.tl, h.kd, h.sc, h.ad, (fun u hu j hj => by
    unfold up2
    by_cases e : u = v
    · rw [if_pos e]
      by_cases e2 : j = k
      · rw [if_pos e2]; exact hx
      · rw [if_neg e2]; subst e; exact h.li u hu j hj
    · rw [if_neg e]; exact h.li u hu j hj), h.p3, h.pv, h.pl, h.ex, h.kq, h.n1, h.n2, h.n3, h.n4, h.n5, h.cu⟩
theorem pay_rng {x a : Int32} {t : Nat} (hx : 0 ≤ x.toInt ∧ x.toInt ≤ 9999 * t) (ht : t ≤ 512) (h : decide (1 ≤ a ∧ a ≤ x) = true) : (0 ≤ (x - a).toInt ∧ (x - a).toInt ≤ 9999 * t) ∧ (x - a = 0 ↔ a = x) ∧ ¬ (a < 1 ∨ x < a) := by
  have h1 := of_decide_eq_true h
  have e1 : (1 : Int32).toInt = 1 := by decide
  have e0 : (0 : Int32).toInt = 0 := by decide
  have h2 := h1
  rw [i_le, i_le, e1] at h2
  have h3 := i_sub (a := x) (b := a) (by omega) (by omega)
  refine ⟨by omega, ⟨fun q => i_ext ?_, fun q => by rw [q]; exact Int32.sub_self _⟩, ?_⟩
  · rw [q, e0] at h3; omega
  · rintro (q | q)
    · exact i_nle q h1.1
    · exact i_nle q h1.2
theorem ct_X5_payLien {G : Gt} {l : Launch} (hst : l.stackTraces = false) {M : Mm} {m : Nat} {S : St} {t : Nat} (hM : MAt M m S t) (hI : Inv S t) (hlt : t < 512) (v c a : Int32) : Ct G l yX5_payLien cX5_payLien 5 (some .int) 7 M [rv m, .int v, .int c, .int a] 0 0 (Op M m t (oPayLien S v c a)) (noX) := by
  obtain ⟨a0, nP, nR, nS, a1, bR, bS, bt⟩ := id hM
  have bPs := a1.bPs; have bK := a1.bK; have bV := a1.bV; have bPl := a1.bP; have bN := a1.bN
  refine Ct_intro (own := RX5) (nm := "payLien") (by decide +kernel) rfl rfl hst (fun w hw => by simp only [List.mem_cons, List.not_mem_nil, or_false] at hw; rcases hw with rfl | rfl | rfl | rfl <;> first | rfl | exact rv_cat _) (Nat.le_of_ble_eq_true rfl) (fun γ hC => ?_)
  show J G γ M 0 [some (rv m), some (.int v), some (.int c), some (.int a)] [] 0 0
  refine J_aload_n hC dX5_payLien_0 rfl rfl ?_
  refine J_iload_n hC dX5_payLien_1 rfl rfl ?_
  refine J_callV (k1 := 0) (n1 := 0) (kd := 6) [.int v] [.int v, rv m] hC lv_X5_147 (ct_X5_isVehicle hst hM v) a0.t (by decide) ⟨_, mE_6 a0.t⟩ rfl rfl rfl (by simp only [List.map_cons, List.map_nil, rv_cat, Value.category, List.sum_cons, List.sum_nil]; decide) (by decide) rfl rfl (by decide) (by decide) dX5_payLien_2 (fun E M9 h => h.elim) (fun v9 M9 hq9 => ?_)
  obtain ⟨rfl, e9⟩ := hq9
  rw [e9]; clear e9
  refine J_if_ne hC dX5_payLien_5 (tgt := 14) (by decide) (fun c5 => ?_) (fun c5 => ?_)
  · have hv : (isIx v (sN S 1)) = true := bz_ne0 c5
    have xv := (isIx_ix hv).2
    refine J_aload_n hC dX5_payLien_14 rfl rfl ?_
    refine J_iload_n hC dX5_payLien_15 rfl rfl ?_
    refine J_iload_n hC dX5_payLien_16 rfl rfl ?_
    refine J_callV (k1 := 0) (n1 := 0) (kd := 6) [.int v, .int c] [.int c, .int v, rv m] hC lv_X5_198 (ct_X5_place hst hM hI v c hv) a0.t (by decide) ⟨_, mE_6 a0.t⟩ rfl rfl rfl (by simp only [List.map_cons, List.map_nil, rv_cat, Value.category, List.sum_cons, List.sum_nil]; decide) (by decide) rfl rfl (by decide) (by decide) dX5_payLien_17 (fun E M9 h => h.elim) (fun v9 M9 hq9 => ?_)
    obtain ⟨rfl, e9⟩ := hq9
    rw [e9]; clear e9
    refine J_istore hC dX5_payLien_20 (by decide) (ls1 := [some (rv m), some (.int v), some (.int c), some (.int a), some (.int (plc S v c))]) rfl ?_
    refine J_iload hC dX5_payLien_22 rfl ?_
    refine J_iconst hC dX5_payLien_24 (v := -1) (by decide) ?_
    refine J_icmp_ne hC dX5_payLien_25 (tgt := 34) (by decide) (fun c25 => ?_) (fun c25 => ?_)
    · have q25 : ¬ plc S v c = -1 := c25
      obtain ⟨hlo, hl0, hpi, hl6⟩ := plc_ne hv bV q25
      have hpn : ¬ (lendOk c = false ∨ sL S (ix v) (ix (c - 97)) = 0) := by (rintro (q | q); exact absurd (hlo.symm.trans q) (by decide); exact hl0 q)
      refine J_iload_n hC dX5_payLien_34 rfl rfl ?_
      refine J_iconst hC dX5_payLien_35 (v := 1) (by decide) ?_
      refine J_aload_n hC dX5_payLien_36 rfl rfl ?_
      refine J_get6 hC lf_X5_16 (j := 12) a0.t (v := rv (mR M m 12)) rfl dX5_payLien_37 ?_
      refine J_iload hC dX5_payLien_40 rfl ?_
      refine J_iald hC a0.a12 (j := (6 * ix v + ix (c - 97))) hpi (by rw [a0.l12]; omega) dX5_payLien_42 ?_
      rw [show mI M (mR M m 12) (6 * ix v + ix (c - 97)) = sL S (ix v) (ix (c - 97)) from (a1.lien _ xv _ hl6)]
      refine J_callS (k1 := 0) (n1 := 0) [.int a, .int 1, .int (sL S (ix v) (ix (c - 97)))] [.int (sL S (ix v) (ix (c - 97))), .int 1, .int a] hC ls_X5_87 (ct_X5_in hst a 1 (sL S (ix v) (ix (c - 97)))) rfl rfl (by simp only [List.map_cons, List.map_nil, rv_cat, Value.category, List.sum_cons, List.sum_nil]; decide) (by decide) rfl rfl (by decide) (by decide) dX5_payLien_43 (fun E M9 h => h.elim) (fun v9 M9 hq9 => ?_)
      obtain ⟨rfl, e9⟩ := hq9
      rw [e9]; clear e9
      rw [in_bz]
      refine J_if_ne hC dX5_payLien_46 (tgt := 55) (by decide) (fun c46 => ?_) (fun c46 => ?_)
      · have b46 : (decide (1 ≤ a ∧ a ≤ sL S (ix v) (ix (c - 97)))) = true := bz_ne0 c46
        refine J_aload_n hC dX5_payLien_55 rfl rfl ?_
        refine J_iconst hC dX5_payLien_56 (v := 0) (by decide) ?_
        refine J_put6_0 hC lf_X5_80 a0.t dX5_payLien_57 ?_
        refine J_aload_n hC dX5_payLien_60 rfl rfl ?_
        refine J_get6 hC lf_X5_16 (j := 12) a0.t (v := rv (mR M m 12)) rfl dX5_payLien_61 ?_
        refine J_iload hC dX5_payLien_64 rfl ?_
        refine J_dup2 hC dX5_payLien_66 rfl (rv_cat _) ?_
        refine J_iald hC a0.a12 (j := (6 * ix v + ix (c - 97))) hpi (Nat.lt_of_lt_of_eq (by omega) a0.l12.symm) dX5_payLien_67 ?_
        rw [show mI (pI M m 0 0) (mR M m 12) (6 * ix v + ix (c - 97)) = sL S (ix v) (ix (c - 97)) from ((up2_b _ _ _ _ (a0.ne (by decide) (by decide)).symm : mI (pI M m 0 0) (mR M m 12) (6 * ix v + ix (c - 97)) = mI M (mR M m 12) (6 * ix v + ix (c - 97))).trans (a1.lien _ xv _ hl6))]
        refine J_iload_n hC dX5_payLien_68 rfl rfl ?_
        refine J_isub hC dX5_payLien_69 ?_
        refine J_iast hC a0.a12 (j := (6 * ix v + ix (c - 97))) hpi (Nat.lt_of_lt_of_eq (by omega) a0.l12.symm) dX5_payLien_70 ?_
        obtain ⟨M2, eM2⟩ : ∃ z, z = (pI (pI M m 0 0) (mR M m 12) (6 * ix v + ix (c - 97)) ((sL S (ix v) (ix (c - 97))) - a)) := ⟨_, rfl⟩
        rw [← eM2]
        obtain ⟨hr1, hr2, hr3⟩ := pay_rng (hI.li _ xv _ hl6) hI.bt b46
        have hI2 := Inv.ln (v := ix v) (k := ix (c - 97)) hI hr1
        have hM2 : MAt M2 m (uL S (ix v) (ix (c - 97)) (sL S (ix v) (ix (c - 97)) - a)) t := by rw [eM2]; exact ⟨a0, _, _, _, MA1.of_v (Vw.arr (M := (pI M m 0 0)) a0 (Vw.sc (M := M) a0 (Vw.rf M m) 0 0) 12 (by decide) (by decide) (6 * ix v + ix (c - 97)) (sL S (ix v) (ix (c - 97)) - a)) (MA1v.ln a1.v xv hl6), bR, bS, bt⟩
        have hF2 : Fr pM M M2 := by rw [eM2]; exact (Fr.trans (Fr.trans (Fr.rf pM M) (Fr.pI (a0.fm))) (Fr.pI (a0.fa (by decide) (by decide))))
        have hT2 : mI M2 m 0 = 0 := by rw [eM2]; exact ((up2_b _ _ _ _ (a0.ne (by decide) (by decide))).trans (up2_same _ _ _ _))
        have h2v : mI M2 (mR M2 m 12) (6 * ix v + ix (c - 97)) = sL S (ix v) (ix (c - 97)) - a := by rw [eM2]; exact up2_same _ _ _ _
        have b0 := hM2.1
        refine J_aload_n hC dX5_payLien_71 rfl rfl ?_
        refine J_get6 hC lf_X5_16 (j := 12) b0.t (v := rv (mR M2 m 12)) rfl dX5_payLien_72 ?_
        refine J_iload hC dX5_payLien_75 rfl ?_
        refine J_iald hC b0.a12 (j := (6 * ix v + ix (c - 97))) hpi (by rw [b0.l12]; omega) dX5_payLien_77 ?_
        rw [show mI M2 (mR M2 m 12) (6 * ix v + ix (c - 97)) = sL S (ix v) (ix (c - 97)) - a from h2v]
        refine J_if_ne hC dX5_payLien_78 (tgt := 86) (by decide) (fun c78 => ?_) (fun c78 => ?_)
        · refine J_aload_n hC dX5_payLien_86 rfl rfl ?_
          refine J_get6 hC lf_X5_16 (j := 12) b0.t (v := rv (mR M2 m 12)) rfl dX5_payLien_87 ?_
          refine J_iload hC dX5_payLien_90 rfl ?_
          refine J_iald hC b0.a12 (j := (6 * ix v + ix (c - 97))) hpi (by rw [b0.l12]; omega) dX5_payLien_92 ?_
          rw [show mI M2 (mR M2 m 12) (6 * ix v + ix (c - 97)) = sL S (ix v) (ix (c - 97)) - a from h2v]
          refine J_iret hC (by decide) (by decide) dX5_payLien_93 ?_
          refine op_at (S1 := uL S (ix v) (ix (c - 97)) (sL S (ix v) (ix (c - 97)) - a)) ?_ (hM2.up hlt) hF2 hT2
          unfold oPayLien
          rw [if_neg (by rw [hv]; simp), if_neg hpn, if_neg hr3]
          show (0, _, if _ then _ else _) = _
          rw [if_neg (fun q => c78 (hr2.mpr q))]
        · refine J_aload_n hC dX5_payLien_81 rfl rfl ?_
          refine J_iload_n hC dX5_payLien_82 rfl rfl ?_
          refine J_callV (k1 := 0) (n1 := 0) (kd := 6) [.int v] [.int v, rv m] hC lv_X5_175 (ct_X5_crosses hst hM2 hI2 v hv) b0.t (by decide) ⟨_, mE_6 b0.t⟩ rfl rfl rfl (by simp only [List.map_cons, List.map_nil, rv_cat, Value.category, List.sum_cons, List.sum_nil]; decide) (by decide) rfl rfl (by decide) (by decide) dX5_payLien_83 (fun E M9 h => h.elim) (fun v9 M9 hq9 => ?_)
          obtain ⟨rfl, hM9, hF9, hT9⟩ := hq9
          obtain ⟨d0, nP9, nR9, nS9, d1, dR, dS, dt⟩ := id hM9
          have h9v : mI M9 (mR M9 m 12) (6 * ix v + ix (c - 97)) = sL S (ix v) (ix (c - 97)) - a := (d1.lien (ix v) (by rw [(Inv.settle 120 hI2 (show ix v < sN (uL S (ix v) (ix (c - 97)) (sL S (ix v) (ix (c - 97)) - a)) 1 from xv)).2]; exact xv) _ hl6).trans (by rw [settle_L, sL_uL, up2_same])
          refine J_aload_n hC dX5_payLien_86 rfl rfl ?_
          refine J_get6 hC lf_X5_16 (j := 12) d0.t (v := rv (mR M9 m 12)) rfl dX5_payLien_87 ?_
          refine J_iload hC dX5_payLien_90 rfl ?_
          refine J_iald hC d0.a12 (j := (6 * ix v + ix (c - 97))) hpi (by rw [d0.l12]; omega) dX5_payLien_92 ?_
          rw [show mI M9 (mR M9 m 12) (6 * ix v + ix (c - 97)) = sL S (ix v) (ix (c - 97)) - a from h9v]
          refine J_iret hC (by decide) (by decide) dX5_payLien_93 ?_
          refine op_at (S1 := settleQ 120 (uL S (ix v) (ix (c - 97)) (sL S (ix v) (ix (c - 97)) - a)) (ix v)) ?_ (hM9.up hlt) (hF2.trans hF9) (hT9.trans hT2)
          unfold oPayLien
          rw [if_neg (by rw [hv]; simp), if_neg hpn, if_neg hr3]
          show (0, _, if _ then _ else _) = _
          rw [if_pos (hr2.mp (nn c78))]
      · have b46 : (decide (1 ≤ a ∧ a ≤ sL S (ix v) (ix (c - 97)))) = false := bz_eq0 (nn c46)
        refine J_aload_n hC dX5_payLien_49 rfl rfl ?_
        refine J_iconst hC dX5_payLien_50 (v := 3) (by decide) ?_
        refine J_callV (k1 := 0) (n1 := 0) (kd := 6) [.int 3] [.int 3, rv m] hC lv_X5_116 (ct_X5_fails hst (M := M) a0 3) a0.t (by decide) ⟨_, mE_6 a0.t⟩ rfl rfl rfl (by simp only [List.map_cons, List.map_nil, rv_cat, Value.category, List.sum_cons, List.sum_nil]; decide) (by decide) rfl rfl (by decide) (by decide) dX5_payLien_51 (fun E M9 h => h.elim) (fun v9 M9 hq9 => ?_)
        obtain ⟨rfl, rfl⟩ := hq9
        refine J_iret hC (by decide) (by decide) dX5_payLien_54 ?_
        refine op_no hM hlt (k := 3) ?_ rfl
        unfold oPayLien
        rw [if_neg (by rw [hv]; simp), if_neg hpn, if_pos (rng_no b46)]
    · have q25 : plc S v c = -1 := (nn c25)
      have hpl := plc_eq hv bV q25
      refine J_aload_n hC dX5_payLien_28 rfl rfl ?_
      refine J_iconst hC dX5_payLien_29 (v := 2) (by decide) ?_
      refine J_callV (k1 := 0) (n1 := 0) (kd := 6) [.int 2] [.int 2, rv m] hC lv_X5_116 (ct_X5_fails hst (M := M) a0 2) a0.t (by decide) ⟨_, mE_6 a0.t⟩ rfl rfl rfl (by simp only [List.map_cons, List.map_nil, rv_cat, Value.category, List.sum_cons, List.sum_nil]; decide) (by decide) rfl rfl (by decide) (by decide) dX5_payLien_30 (fun E M9 h => h.elim) (fun v9 M9 hq9 => ?_)
      obtain ⟨rfl, rfl⟩ := hq9
      refine J_iret hC (by decide) (by decide) dX5_payLien_33 ?_
      refine op_no hM hlt (k := 2) ?_ rfl
      unfold oPayLien
      rw [if_neg (by rw [hv]; simp), if_pos hpl]
  · have nv : (isIx v (sN S 1)) = false := bz_eq0 (nn c5)
    refine J_aload_n hC dX5_payLien_8 rfl rfl ?_
    refine J_iconst hC dX5_payLien_9 (v := 1) (by decide) ?_
    refine J_callV (k1 := 0) (n1 := 0) (kd := 6) [.int 1] [.int 1, rv m] hC lv_X5_116 (ct_X5_fails hst (M := M) a0 1) a0.t (by decide) ⟨_, mE_6 a0.t⟩ rfl rfl rfl (by simp only [List.map_cons, List.map_nil, rv_cat, Value.category, List.sum_cons, List.sum_nil]; decide) (by decide) rfl rfl (by decide) (by decide) dX5_payLien_10 (fun E M9 h => h.elim) (fun v9 M9 hq9 => ?_)
    obtain ⟨rfl, rfl⟩ := hq9
    refine J_iret hC (by decide) (by decide) dX5_payLien_13 ?_
    refine op_no hM hlt (k := 1) ?_ rfl
    simp [oPayLien, nv]
