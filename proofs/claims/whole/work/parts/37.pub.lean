theorem ct_X5_swapPlates {G : Gt} {l : Launch} (hst : l.stackTraces = false) {M : Mm} {m : Nat} {S : St} {t : Nat} (hM : MAt M m S t) (hI : Inv S t) (hlt : t < 512) (v w : Int32) : Ct G l yX5_swapPlates cX5_swapPlates 5 (some .int) 4 M [rv m, .int v, .int w] 0 0 (Op M m t (oSwap S v w)) (noX) := by
  obtain ⟨a0, nP, nR, nS, a1, bR, bS, bt⟩ := id hM
  have bPs := a1.bPs; have bK := a1.bK; have bV := a1.bV; have bPl := a1.bP; have bN := a1.bN
  refine Ct_intro (own := RX5) (nm := "swapPlates") (by decide +kernel) rfl rfl hst (fun w hw => by simp only [List.mem_cons, List.not_mem_nil, or_false] at hw; rcases hw with rfl | rfl | rfl <;> first | rfl | exact rv_cat _) (Nat.le_of_ble_eq_true rfl) (fun γ hC => ?_)
  show J G γ M 0 [some (rv m), some (.int v), some (.int w)] [] 0 0
  refine J_aload_n hC dX5_swapPlates_0 rfl rfl ?_
  refine J_iload_n hC dX5_swapPlates_1 rfl rfl ?_
  refine J_callV (k1 := 0) (n1 := 0) (kd := 6) [.int v] [.int v, rv m] hC lv_X5_147 (ct_X5_isVehicle hst hM v) a0.t (by decide) ⟨_, mE_6 a0.t⟩ rfl rfl rfl (by simp only [List.map_cons, List.map_nil, rv_cat, Value.category, List.sum_cons, List.sum_nil]; decide) (by decide) rfl rfl (by decide) (by decide) dX5_swapPlates_2 (fun E M9 h => h.elim) (fun v9 M9 hq9 => ?_)
  obtain ⟨rfl, e9⟩ := hq9
  rw [e9]; clear e9
  refine J_if_eq hC dX5_swapPlates_5 (tgt := 16) (by decide) (fun c5 => ?_) (fun c5 => ?_)
  · have nv : (isIx v (sN S 1)) = false := bz_eq0 c5
    refine J_aload_n hC dX5_swapPlates_16 rfl rfl ?_
    refine J_iconst hC dX5_swapPlates_17 (v := 1) (by decide) ?_
    refine J_callV (k1 := 0) (n1 := 0) (kd := 6) [.int 1] [.int 1, rv m] hC lv_X5_116 (ct_X5_fails hst (M := M) a0 1) a0.t (by decide) ⟨_, mE_6 a0.t⟩ rfl rfl rfl (by simp only [List.map_cons, List.map_nil, rv_cat, Value.category, List.sum_cons, List.sum_nil]; decide) (by decide) rfl rfl (by decide) (by decide) dX5_swapPlates_18 (fun E M9 h => h.elim) (fun v9 M9 hq9 => ?_)
    obtain ⟨rfl, rfl⟩ := hq9
    refine J_iret hC (by decide) (by decide) dX5_swapPlates_21 ?_
    refine op_no hM hlt (k := 1) ?_ rfl
    simp [oSwap, nv]
  · have hv : (isIx v (sN S 1)) = true := bz_ne0 c5
    have xv := (isIx_ix hv).2
    refine J_aload_n hC dX5_swapPlates_8 rfl rfl ?_
    refine J_iload_n hC dX5_swapPlates_9 rfl rfl ?_
    refine J_callV (k1 := 0) (n1 := 0) (kd := 6) [.int w] [.int w, rv m] hC lv_X5_147 (ct_X5_isVehicle hst hM w) a0.t (by decide) ⟨_, mE_6 a0.t⟩ rfl rfl rfl (by simp only [List.map_cons, List.map_nil, rv_cat, Value.category, List.sum_cons, List.sum_nil]; decide) (by decide) rfl rfl (by decide) (by decide) dX5_swapPlates_10 (fun E M9 h => h.elim) (fun v9 M9 hq9 => ?_)
    obtain ⟨rfl, e9⟩ := hq9
    rw [e9]; clear e9
    refine J_if_ne hC dX5_swapPlates_13 (tgt := 22) (by decide) (fun c13 => ?_) (fun c13 => ?_)
    · have hw : (isIx w (sN S 1)) = true := bz_ne0 c13
      have xw := (isIx_ix hw).2
      refine J_iload_n hC dX5_swapPlates_22 rfl rfl ?_
      refine J_iload_n hC dX5_swapPlates_23 rfl rfl ?_
      refine J_icmp_eq hC dX5_swapPlates_24 (tgt := 40) (by decide) (fun c24 => ?_) (fun c24 => ?_)
      · have q24 : v = w := c24
        refine J_aload_n hC dX5_swapPlates_40 rfl rfl ?_
        refine J_iconst hC dX5_swapPlates_41 (v := 2) (by decide) ?_
        refine J_callV (k1 := 0) (n1 := 0) (kd := 6) [.int 2] [.int 2, rv m] hC lv_X5_116 (ct_X5_fails hst (M := M) a0 2) a0.t (by decide) ⟨_, mE_6 a0.t⟩ rfl rfl rfl (by simp only [List.map_cons, List.map_nil, rv_cat, Value.category, List.sum_cons, List.sum_nil]; decide) (by decide) rfl rfl (by decide) (by decide) dX5_swapPlates_42 (fun E M9 h => h.elim) (fun v9 M9 hq9 => ?_)
        obtain ⟨rfl, rfl⟩ := hq9
        refine J_iret hC (by decide) (by decide) dX5_swapPlates_45 ?_
        refine op_no hM hlt (k := 2) ?_ rfl
        simp [oSwap, hv, hw, q24]
      · have q24 : ¬ v = w := c24
        refine J_aload_n hC dX5_swapPlates_27 rfl rfl ?_
        refine J_iload_n hC dX5_swapPlates_28 rfl rfl ?_
        refine J_callV (k1 := 0) (n1 := 0) (kd := 6) [.int v] [.int v, rv m] hC lv_X5_160 (ct_X5_present hst hM hI v hv) a0.t (by decide) ⟨_, mE_6 a0.t⟩ rfl rfl rfl (by simp only [List.map_cons, List.map_nil, rv_cat, Value.category, List.sum_cons, List.sum_nil]; decide) (by decide) rfl rfl (by decide) (by decide) dX5_swapPlates_29 (fun E M9 h => h.elim) (fun v9 M9 hq9 => ?_)
        obtain ⟨rfl, e9⟩ := hq9
        rw [e9]; clear e9
        refine J_aload_n hC dX5_swapPlates_32 rfl rfl ?_
        refine J_iload_n hC dX5_swapPlates_33 rfl rfl ?_
        refine J_callV (k1 := 0) (n1 := 0) (kd := 6) [.int w] [.int w, rv m, .int (lastV (sT S 0 (ix v)))] hC lv_X5_160 (ct_X5_present hst hM hI w hw) a0.t (by decide) ⟨_, mE_6 a0.t⟩ rfl rfl rfl (by simp only [List.map_cons, List.map_nil, rv_cat, Value.category, List.sum_cons, List.sum_nil]; decide) (by decide) rfl rfl (by decide) (by decide) dX5_swapPlates_34 (fun E M9 h => h.elim) (fun v9 M9 hq9 => ?_)
        obtain ⟨rfl, e9⟩ := hq9
        rw [e9]; clear e9
        refine J_icmp_eq hC dX5_swapPlates_37 (tgt := 46) (by decide) (fun c37 => ?_) (fun c37 => ?_)
        · have q37 : lastV (sT S 0 (ix v)) = lastV (sT S 0 (ix w)) := c37
          refine J_aload_n hC dX5_swapPlates_46 rfl rfl ?_
          refine J_iload_n hC dX5_swapPlates_47 rfl rfl ?_
          refine J_aload_n hC dX5_swapPlates_48 rfl rfl ?_
          refine J_get6 hC lf_X5_97 (j := 5) a0.t (v := .int (sD S)) (congrArg (fun z => some (Value.int z)) a1.s5) dX5_swapPlates_49 ?_
          refine J_callV (k1 := 0) (n1 := 0) (kd := 6) [.int v, .int (sD S)] [.int (sD S), .int v, rv m] hC lv_X5_106 (ct_X5_plate hst hM v (sD S) hv) a0.t (by decide) ⟨_, mE_6 a0.t⟩ rfl rfl rfl (by simp only [List.map_cons, List.map_nil, rv_cat, Value.category, List.sum_cons, List.sum_nil]; decide) (by decide) rfl rfl (by decide) (by decide) dX5_swapPlates_52 (fun E M9 h => h.elim) (fun v9 M9 hq9 => ?_)
          obtain ⟨rfl, e9⟩ := hq9
          rw [e9]; clear e9
          rw [hI.lk (isIx_ix hv).2 (by decide)]
          refine J_istore_n hC dX5_swapPlates_55 rfl (by decide) (ls1 := [some (rv m), some (.int v), some (.int w), some (.int (lastV (sT S 1 (ix v))))]) rfl ?_
          refine J_aload_n hC dX5_swapPlates_56 rfl rfl ?_
          refine J_iload_n hC dX5_swapPlates_57 rfl rfl ?_
          refine J_aload_n hC dX5_swapPlates_58 rfl rfl ?_
          refine J_get6 hC lf_X5_97 (j := 5) a0.t (v := .int (sD S)) (congrArg (fun z => some (Value.int z)) a1.s5) dX5_swapPlates_59 ?_
          refine J_callV (k1 := 0) (n1 := 0) (kd := 6) [.int w, .int (sD S)] [.int (sD S), .int w, rv m] hC lv_X5_106 (ct_X5_plate hst hM w (sD S) hw) a0.t (by decide) ⟨_, mE_6 a0.t⟩ rfl rfl rfl (by simp only [List.map_cons, List.map_nil, rv_cat, Value.category, List.sum_cons, List.sum_nil]; decide) (by decide) rfl rfl (by decide) (by decide) dX5_swapPlates_62 (fun E M9 h => h.elim) (fun v9 M9 hq9 => ?_)
          obtain ⟨rfl, e9⟩ := hq9
          rw [e9]; clear e9
          rw [hI.lk (isIx_ix hw).2 (by decide)]
          refine J_istore hC dX5_swapPlates_65 (by decide) (ls1 := [some (rv m), some (.int v), some (.int w), some (.int (lastV (sT S 1 (ix v)))), some (.int (lastV (sT S 1 (ix w))))]) rfl ?_
          refine J_aload_n hC dX5_swapPlates_67 rfl rfl ?_
          refine J_iload_n hC dX5_swapPlates_68 rfl rfl ?_
          refine J_callV (k1 := 0) (n1 := 0) (kd := 6) [.int v] [.int v, rv m] hC lv_X5_157 (ct_X5_blocked hst hM v hv) a0.t (by decide) ⟨_, mE_6 a0.t⟩ rfl rfl rfl (by simp only [List.map_cons, List.map_nil, rv_cat, Value.category, List.sum_cons, List.sum_nil]; decide) (by decide) rfl rfl (by decide) (by decide) dX5_swapPlates_69 (fun E M9 h => h.elim) (fun v9 M9 hq9 => ?_)
          obtain ⟨rfl, e9⟩ := hq9
          rw [e9]; clear e9
          refine J_if_ne hC dX5_swapPlates_72 (tgt := 94) (by decide) (fun c72 => ?_) (fun c72 => ?_)
          · have b72 : (blk S (ix v)) = true := bz_ne0 c72
            refine J_aload_n hC dX5_swapPlates_94 rfl rfl ?_
            refine J_iconst hC dX5_swapPlates_95 (v := 3) (by decide) ?_
            refine J_callV (k1 := 0) (n1 := 0) (kd := 6) [.int 3] [.int 3, rv m] hC lv_X5_116 (ct_X5_fails hst (M := M) a0 3) a0.t (by decide) ⟨_, mE_6 a0.t⟩ rfl rfl rfl (by simp only [List.map_cons, List.map_nil, rv_cat, Value.category, List.sum_cons, List.sum_nil]; decide) (by decide) rfl rfl (by decide) (by decide) dX5_swapPlates_96 (fun E M9 h => h.elim) (fun v9 M9 hq9 => ?_)
            obtain ⟨rfl, rfl⟩ := hq9
            refine J_iret hC (by decide) (by decide) dX5_swapPlates_99 ?_
            refine op_no hM hlt (k := 3) ?_ rfl
            simp [oSwap, hv, hw, q24, q37, b72]
          · have b72 : (blk S (ix v)) = false := bz_eq0 (nn c72)
            refine J_aload_n hC dX5_swapPlates_75 rfl rfl ?_
            refine J_iload_n hC dX5_swapPlates_76 rfl rfl ?_
            refine J_callV (k1 := 0) (n1 := 0) (kd := 6) [.int w] [.int w, rv m] hC lv_X5_157 (ct_X5_blocked hst hM w hw) a0.t (by decide) ⟨_, mE_6 a0.t⟩ rfl rfl rfl (by simp only [List.map_cons, List.map_nil, rv_cat, Value.category, List.sum_cons, List.sum_nil]; decide) (by decide) rfl rfl (by decide) (by decide) dX5_swapPlates_77 (fun E M9 h => h.elim) (fun v9 M9 hq9 => ?_)
            obtain ⟨rfl, e9⟩ := hq9
            rw [e9]; clear e9
            refine J_if_ne hC dX5_swapPlates_80 (tgt := 94) (by decide) (fun c80 => ?_) (fun c80 => ?_)
            · have b80 : (blk S (ix w)) = true := bz_ne0 c80
              refine J_aload_n hC dX5_swapPlates_94 rfl rfl ?_
              refine J_iconst hC dX5_swapPlates_95 (v := 3) (by decide) ?_
              refine J_callV (k1 := 0) (n1 := 0) (kd := 6) [.int 3] [.int 3, rv m] hC lv_X5_116 (ct_X5_fails hst (M := M) a0 3) a0.t (by decide) ⟨_, mE_6 a0.t⟩ rfl rfl rfl (by simp only [List.map_cons, List.map_nil, rv_cat, Value.category, List.sum_cons, List.sum_nil]; decide) (by decide) rfl rfl (by decide) (by decide) dX5_swapPlates_96 (fun E M9 h => h.elim) (fun v9 M9 hq9 => ?_)
              obtain ⟨rfl, rfl⟩ := hq9
              refine J_iret hC (by decide) (by decide) dX5_swapPlates_99 ?_
              refine op_no hM hlt (k := 3) ?_ rfl
              simp [oSwap, hv, hw, q24, q37, b72, b80]
            · have b80 : (blk S (ix w)) = false := bz_eq0 (nn c80)
              refine J_iload_n hC dX5_swapPlates_83 rfl rfl ?_
              refine J_iconst hC dX5_swapPlates_84 (v := -1) (by decide) ?_
              refine J_icmp_eq hC dX5_swapPlates_85 (tgt := 94) (by decide) (fun c85 => ?_) (fun c85 => ?_)
              · have q85 : lastV (sT S 1 (ix v)) = -1 := c85
                refine J_aload_n hC dX5_swapPlates_94 rfl rfl ?_
                refine J_iconst hC dX5_swapPlates_95 (v := 3) (by decide) ?_
                refine J_callV (k1 := 0) (n1 := 0) (kd := 6) [.int 3] [.int 3, rv m] hC lv_X5_116 (ct_X5_fails hst (M := M) a0 3) a0.t (by decide) ⟨_, mE_6 a0.t⟩ rfl rfl rfl (by simp only [List.map_cons, List.map_nil, rv_cat, Value.category, List.sum_cons, List.sum_nil]; decide) (by decide) rfl rfl (by decide) (by decide) dX5_swapPlates_96 (fun E M9 h => h.elim) (fun v9 M9 hq9 => ?_)
                obtain ⟨rfl, rfl⟩ := hq9
                refine J_iret hC (by decide) (by decide) dX5_swapPlates_99 ?_
                refine op_no hM hlt (k := 3) ?_ rfl
                simp [oSwap, hv, hw, q24, q37, b72, b80, q85]
              · have q85 : ¬ lastV (sT S 1 (ix v)) = -1 := c85
                refine J_iload hC dX5_swapPlates_88 rfl ?_
                refine J_iconst hC dX5_swapPlates_90 (v := -1) (by decide) ?_
                refine J_icmp_ne hC dX5_swapPlates_91 (tgt := 100) (by decide) (fun c91 => ?_) (fun c91 => ?_)
                · have q91 : ¬ lastV (sT S 1 (ix w)) = -1 := c91
                  obtain ⟨hv1, hv2, hv3⟩ := hI.mounted xv q85
                  obtain ⟨hw1, hw2, hw3⟩ := hI.mounted xw q91
                  have hne : ix w ≠ ix v := fun e => q24 (by rw [isIx_nI hv, isIx_nI hw, e])
                  refine J_aload_n hC dX5_swapPlates_100 rfl rfl ?_
                  refine J_iconst hC dX5_swapPlates_101 (v := 0) (by decide) ?_
                  refine J_put6_0 hC lf_X5_80 a0.t dX5_swapPlates_102 ?_
                  refine J_aload_n hC dX5_swapPlates_105 rfl rfl ?_
                  refine J_iload_n hC dX5_swapPlates_106 rfl rfl ?_
                  refine J_iload hC dX5_swapPlates_107 rfl ?_
                  refine J_callV (k1 := 0) (n1 := 0) (kd := 6) [.int v, .int (lastV (sT S 1 (ix w)))] [.int (lastV (sT S 1 (ix w))), .int v, rv m] hC lv_X5_120 (ct_X5_setsPlate hst (MAw.thr hM.w.1 0) v (lastV (sT S 1 (ix w))) hv (hI.r xv (by decide)).1 (hI.r xv (by decide)).2 (by omega)) a0.t (by decide) ⟨_, mE_6 a0.t⟩ rfl rfl rfl (by simp only [List.map_cons, List.map_nil, rv_cat, Value.category, List.sum_cons, List.sum_nil]; decide) (by decide) rfl rfl (by decide) (by decide) dX5_swapPlates_109 (fun E M9 h => h.elim) (fun v9 M8 hq9 => ?_)
                  obtain ⟨rfl, hu8⟩ := hq9
                  have e0 := hu8.1.1
                  refine J_aload_n hC dX5_swapPlates_112 rfl rfl ?_
                  refine J_iload_n hC dX5_swapPlates_113 rfl rfl ?_
                  refine J_iload_n hC dX5_swapPlates_114 rfl rfl ?_
                  refine J_callV (k1 := 0) (n1 := 0) (kd := 6) [.int w, .int (lastV (sT S 1 (ix v)))] [.int (lastV (sT S 1 (ix v))), .int w, rv m] hC lv_X5_120 (ct_X5_setsPlate hst hu8.1 w (lastV (sT S 1 (ix v))) (by simp only [sN_uT]; exact hw) (by simp only [sT_uT, sD_uT]; rw [up2_vT, va_up_ne _ _ hne]; exact (hI.r xw (by decide)).1) (by simp only [sT_uT]; rw [up2_vT, va_up_ne _ _ hne]; exact (hI.r xw (by decide)).2) (by omega)) e0.t (by decide) ⟨_, mE_6 e0.t⟩ rfl rfl rfl (by simp only [List.map_cons, List.map_nil, rv_cat, Value.category, List.sum_cons, List.sum_nil]; decide) (by decide) rfl rfl (by decide) (by decide) dX5_swapPlates_115 (fun E M9 h => h.elim) (fun v9 M9 hq9 => ?_)
                  obtain ⟨rfl, hu9⟩ := hq9
                  refine J_iload hC dX5_swapPlates_118 rfl ?_
                  refine J_iret hC (by decide) (by decide) dX5_swapPlates_120 ?_
                  refine op_mw (M2 := pI M m 0 0) (S1 := mountQ (mountQ S (ix (lastV (sT S 1 (ix w)))) (ix v)) (ix (lastV (sT S 1 (ix v)))) (ix w)) ?_ (Fr.pI a0.fm) (up2_same _ _ _ _) (hu8.trans ⟨MAw.eq hu9.1 (by simp only [mountQ_N, voidQ_N, sN_uN, sN_uD, sN_uC, sN_uP, sN_uV, sN_uL, sN_uT, sN_uQ, sN_uO]) (by simp only [mountQ_D, voidQ_D, sD_uN, sD_uD, sD_uC, sD_uP, sD_uV, sD_uL, sD_uT, sD_uQ, sD_uO]) (by simp only [mountQ_C, voidQ_C, sC_uN, sC_uD, sC_uC, sC_uP, sC_uV, sC_uL, sC_uT, sC_uQ, sC_uO]) (by simp only [mountQ_P, voidQ_P, sP_uN, sP_uD, sP_uC, sP_uP, sP_uV, sP_uL, sP_uT, sP_uQ, sP_uO]) (by simp only [mountQ_V, voidQ_V, sV_uN, sV_uD, sV_uC, sV_uP, sV_uV, sV_uL, sV_uT, sV_uQ, sV_uO]) (by simp only [mountQ_L, voidQ_L, sL_uN, sL_uD, sL_uC, sL_uP, sL_uV, sL_uL, sL_uT, sL_uQ, sL_uO]) (by simp only [mountQ_Q, sQ_uT]; rw [up2_id hw3, up2_id hv3]) (by simp only [mountQ_O, voidQ_O, sO_uN, sO_uD, sO_uC, sO_uP, sO_uV, sO_uL, sO_uT, sO_uQ, sO_uO]) (by simp only [mountQ_T0, sT_uT, sT_uQ]; first | rw [voidQ_T _ _ (by decide), up2_row _ _ _ (by decide)] | rw [up2_row _ _ _ (by decide), up2_row _ _ _ (by decide)]) (by simp only [mountQ_T1, mountQ_D, sT_uT, sD_uT]; rw [up2_vT, up2_vT, ← isIx_nI hw1, ← isIx_nI hv1]) (by simp only [mountQ_T2, sT_uT, sT_uQ]; first | rw [voidQ_T _ _ (by decide), up2_row _ _ _ (by decide)] | rw [up2_row _ _ _ (by decide), up2_row _ _ _ (by decide)]), hu9.2⟩) (by omega) (by omega) hlt
                  unfold oSwap
                  rw [if_neg (by rw [hv, hw]; simp), if_neg (by rintro (q | q); exact q24 q; exact q q37), if_neg (by rintro (q | q | q | q); exact absurd (b72.symm.trans q) (by decide); exact absurd (b80.symm.trans q) (by decide); exact q85 q; exact q91 q)]
                · have q91 : lastV (sT S 1 (ix w)) = -1 := (nn c91)
                  refine J_aload_n hC dX5_swapPlates_94 rfl rfl ?_
                  refine J_iconst hC dX5_swapPlates_95 (v := 3) (by decide) ?_
                  refine J_callV (k1 := 0) (n1 := 0) (kd := 6) [.int 3] [.int 3, rv m] hC lv_X5_116 (ct_X5_fails hst (M := M) a0 3) a0.t (by decide) ⟨_, mE_6 a0.t⟩ rfl rfl rfl (by simp only [List.map_cons, List.map_nil, rv_cat, Value.category, List.sum_cons, List.sum_nil]; decide) (by decide) rfl rfl (by decide) (by decide) dX5_swapPlates_96 (fun E M9 h => h.elim) (fun v9 M9 hq9 => ?_)
                  obtain ⟨rfl, rfl⟩ := hq9
                  refine J_iret hC (by decide) (by decide) dX5_swapPlates_99 ?_
                  refine op_no hM hlt (k := 3) ?_ rfl
                  simp [oSwap, hv, hw, q24, q37, b72, b80, q85, q91]
        · have q37 : ¬ lastV (sT S 0 (ix v)) = lastV (sT S 0 (ix w)) := c37
          refine J_aload_n hC dX5_swapPlates_40 rfl rfl ?_
          refine J_iconst hC dX5_swapPlates_41 (v := 2) (by decide) ?_
          refine J_callV (k1 := 0) (n1 := 0) (kd := 6) [.int 2] [.int 2, rv m] hC lv_X5_116 (ct_X5_fails hst (M := M) a0 2) a0.t (by decide) ⟨_, mE_6 a0.t⟩ rfl rfl rfl (by simp only [List.map_cons, List.map_nil, rv_cat, Value.category, List.sum_cons, List.sum_nil]; decide) (by decide) rfl rfl (by decide) (by decide) dX5_swapPlates_42 (fun E M9 h => h.elim) (fun v9 M9 hq9 => ?_)
          obtain ⟨rfl, rfl⟩ := hq9
          refine J_iret hC (by decide) (by decide) dX5_swapPlates_45 ?_
          refine op_no hM hlt (k := 2) ?_ rfl
          simp [oSwap, hv, hw, q24, q37]
    · have nw : (isIx w (sN S 1)) = false := bz_eq0 (nn c13)
      refine J_aload_n hC dX5_swapPlates_16 rfl rfl ?_
      refine J_iconst hC dX5_swapPlates_17 (v := 1) (by decide) ?_
      refine J_callV (k1 := 0) (n1 := 0) (kd := 6) [.int 1] [.int 1, rv m] hC lv_X5_116 (ct_X5_fails hst (M := M) a0 1) a0.t (by decide) ⟨_, mE_6 a0.t⟩ rfl rfl rfl (by simp only [List.map_cons, List.map_nil, rv_cat, Value.category, List.sum_cons, List.sum_nil]; decide) (by decide) rfl rfl (by decide) (by decide) dX5_swapPlates_18 (fun E M9 h => h.elim) (fun v9 M9 hq9 => ?_)
      obtain ⟨rfl, rfl⟩ := hq9
      refine J_iret hC (by decide) (by decide) dX5_swapPlates_21 ?_
      refine op_no hM hlt (k := 1) ?_ rfl
      simp [oSwap, hv, nw]
