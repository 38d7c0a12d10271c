theorem scrap_eq {M : Mm} {m : Nat} {S : St} {t v r s : Nat} (hI : Inv S t) (hv : v < sN S 1) (h : MAw M m (uT (uT (uV S (v) 7 1) 2 (v) (setT (sT (uV S (v) 7 1) 2 (v)) (sD (uV S (v) 7 1)) 0)) 1 v (setT (sT (uT (uV S (v) 7 1) 2 (v) (setT (sT (uV S (v) 7 1) 2 (v)) (sD (uV S (v) 7 1)) 0)) 1 v) (sD (uT (uV S (v) 7 1) 2 (v) (setT (sT (uV S (v) 7 1) 2 (v)) (sD (uV S (v) 7 1)) 0))) (-1))) r s) : MAw M m (scrapV S v) r s := by
  simp only [sD_uT, sD_uV] at h
  have e1 : sT (uT (uV S v 7 1) 2 v (setT (sT (uV S v 7 1) 2 v) (sD S) 0)) 1 = sT S 1 := by simp only [sT_uT, sT_uV]; exact up2_row _ _ _ (by decide)
  have eQ : sQ (uT (uV S v 7 1) 2 v (setT (sT (uV S v 7 1) 2 v) (sD S) 0)) = sQ S := by simp only [sQ_uT, sQ_uV]
  show MAw M m (uT (if lastV (sT (uT (uV S v 7 1) 2 v (setT (sT (uV S v 7 1) 2 v) (sD S) 0)) 1 v) = -1 then uT (uV S v 7 1) 2 v (setT (sT (uV S v 7 1) 2 v) (sD S) 0) else voidQ (uT (uV S v 7 1) 2 v (setT (sT (uV S v 7 1) 2 v) (sD S) 0)) (ix (lastV (sT (uT (uV S v 7 1) 2 v (setT (sT (uV S v 7 1) 2 v) (sD S) 0)) 1 v)))) 1 v (setT (sT (if lastV (sT (uT (uV S v 7 1) 2 v (setT (sT (uV S v 7 1) 2 v) (sD S) 0)) 1 v) = -1 then uT (uV S v 7 1) 2 v (setT (sT (uV S v 7 1) 2 v) (sD S) 0) else voidQ (uT (uV S v 7 1) 2 v (setT (sT (uV S v 7 1) 2 v) (sD S) 0)) (ix (lastV (sT (uT (uV S v 7 1) 2 v (setT (sT (uV S v 7 1) 2 v) (sD S) 0)) 1 v)))) 1 v) (sD S) (-1))) r s
  generalize uT (uV S v 7 1) 2 v (setT (sT (uV S v 7 1) 2 v) (sD S) 0) = X at *
  by_cases q : lastV (sT S 1 v) = -1
  · rw [if_pos (by rw [e1]; exact q)]; exact h
  · obtain ⟨hm1, hm2, hm3⟩ := hI.mounted hv q
    rw [if_neg (by rw [e1]; exact q), e1]
    rw [e1] at h
    refine MAw.eq h (by simp only [sN_uT, voidQ_N]) (by simp only [sD_uT, voidQ_D]) (by simp only [sC_uT, voidQ_C]) (by simp only [sP_uT, voidQ_P]) (by simp only [sV_uT, voidQ_V]) (by simp only [sL_uT, voidQ_L]) (by simp only [sQ_uT, voidQ_Q]; rw [eQ, up2_id hm3]) (by simp only [sO_uT, voidQ_O]) ?_ ?_ ?_
    · simp only [sT_uT]; rw [up2_row _ _ _ (by decide), up2_row _ _ _ (by decide), voidQ_T _ _ (by decide)]
    · simp only [sT_uT, voidQ_D]; rw [up2_vT, up2_vT, voidQ_T _ _ (by decide), e1]
    · simp only [sT_uT]; rw [up2_row _ _ _ (by decide), up2_row _ _ _ (by decide), voidQ_T _ _ (by decide)]
theorem scrap_N (S : St) (v : Nat) : sN (scrapV S v) = sN S := by
  unfold scrapV
  simp only [sN_uT]
  split <;> simp only [sN_uT, sN_uV, voidQ_N]
theorem ct_X5_scrap {G : Gt} {l : Launch} (hst : l.stackTraces = false) {M : Mm} {m : Nat} {S : St} {t : Nat} (hM : MAt M m S t) (hI : Inv S t) (hlt : t < 512) (v : Int32) : Ct G l yX5_scrap cX5_scrap 4 (some .int) 4 M [rv m, .int v] 0 0 (Op M m t (oScrap S v)) (noX) := by
  obtain ⟨a0, nP, nR, nS, a1, bR, bS, bt⟩ := id hM
  have bPs := a1.bPs; have bK := a1.bK; have bV := a1.bV; have bPl := a1.bP; have bN := a1.bN
  refine Ct_intro (own := RX5) (nm := "scrap") (by decide +kernel) rfl rfl hst (fun w hw => by simp only [List.mem_cons, List.not_mem_nil, or_false] at hw; rcases hw with rfl | rfl <;> first | rfl | exact rv_cat _) (Nat.le_of_ble_eq_true rfl) (fun γ hC => ?_)
  show J G γ M 0 [some (rv m), some (.int v)] [] 0 0
  refine J_aload_n hC dX5_scrap_0 rfl rfl ?_
  refine J_iload_n hC dX5_scrap_1 rfl rfl ?_
  refine J_callV (k1 := 0) (n1 := 0) (kd := 6) [.int v] [.int v, rv m] hC lv_X5_147 (ct_X5_isVehicle hst hM v) a0.t (by decide) ⟨_, mE_6 a0.t⟩ rfl rfl rfl (by simp only [List.map_cons, List.map_nil, rv_cat, Value.category, List.sum_cons, List.sum_nil]; decide) (by decide) rfl rfl (by decide) (by decide) dX5_scrap_2 (fun E M9 h => h.elim) (fun v9 M9 hq9 => ?_)
  obtain ⟨rfl, e9⟩ := hq9
  rw [e9]; clear e9
  refine J_if_ne hC dX5_scrap_5 (tgt := 14) (by decide) (fun c5 => ?_) (fun c5 => ?_)
  · have hv : (isIx v (sN S 1)) = true := bz_ne0 c5
    have xv := (isIx_ix hv).2
    refine J_aload_n hC dX5_scrap_14 rfl rfl ?_
    refine J_iload_n hC dX5_scrap_15 rfl rfl ?_
    refine J_callV (k1 := 0) (n1 := 0) (kd := 6) [.int v] [.int v, rv m] hC lv_X5_157 (ct_X5_blocked hst hM v hv) a0.t (by decide) ⟨_, mE_6 a0.t⟩ rfl rfl rfl (by simp only [List.map_cons, List.map_nil, rv_cat, Value.category, List.sum_cons, List.sum_nil]; decide) (by decide) rfl rfl (by decide) (by decide) dX5_scrap_16 (fun E M9 h => h.elim) (fun v9 M9 hq9 => ?_)
    obtain ⟨rfl, e9⟩ := hq9
    rw [e9]; clear e9
    refine J_if_eq hC dX5_scrap_19 (tgt := 28) (by decide) (fun c19 => ?_) (fun c19 => ?_)
    · have b19 : (blk S (ix v)) = false := bz_eq0 c19
      refine J_aload_n hC dX5_scrap_28 rfl rfl ?_
      refine J_iconst hC dX5_scrap_29 (v := 0) (by decide) ?_
      refine J_put6_0 hC lf_X5_80 a0.t dX5_scrap_30 ?_
      refine J_aload_n hC dX5_scrap_33 rfl rfl ?_
      refine J_get6 hC lf_X5_19 (j := 13) a0.t (v := rv (mR M m 13)) rfl dX5_scrap_34 ?_
      refine J_iload_n hC dX5_scrap_37 rfl rfl ?_
      refine J_iconst hC dX5_scrap_38 (v := 1) (by decide) ?_
      refine J_zast hC a0.a13 (j := (ix v)) (isIx_ix hv).1 (Nat.lt_of_lt_of_eq (by omega) a0.l13.symm) (by decide) dX5_scrap_39 ?_
      obtain ⟨M2, eM2⟩ : ∃ z, z = (pI (pI M m 0 0) (mR M m 13) (ix v) 1) := ⟨_, rfl⟩
      rw [← eM2]
      have hw2 : MAw M2 m (uV S (ix v) 7 1) t (2 * t) := by rw [eM2]; exact ⟨a0, _, _, _, MA1.of_v (Vw.arr (M := (pI M m 0 0)) a0 (Vw.sc (M := M) a0 (Vw.rf M m) 0 0) 13 (by decide) (by decide) (ix v) 1) (MA1v.scr1 a1.v xv), bR, bS⟩
      have hF2 : Fr pM M M2 := by rw [eM2]; exact (Fr.trans (Fr.trans (Fr.rf pM M) (Fr.pI (a0.fm))) (Fr.pI (a0.fa (by decide) (by decide))))
      have hT2 : mI M2 m 0 = 0 := by rw [eM2]; exact ((up2_b _ _ _ _ (a0.ne (by decide) (by decide))).trans (up2_same _ _ _ _))
      have b0 := hw2.1
      refine J_aload_n hC dX5_scrap_40 rfl rfl ?_
      refine J_iload_n hC dX5_scrap_41 rfl rfl ?_
      refine J_iconst hC dX5_scrap_42 (v := 0) (by decide) ?_
      refine J_callV (k1 := 0) (n1 := 0) (kd := 6) [.int v, .int 0] [.int 0, .int v, rv m] hC lv_X5_139 (ct_X5_setsRoad hst hw2 v 0 (by simp only [sN_uV]; exact hv) (by simp only [sT_uV, sD_uV]; exact (hI.r xv (by decide)).1) (by simp only [sT_uV]; exact (hI.r xv (by decide)).2) (by omega) (Or.inl rfl)) b0.t (by decide) ⟨_, mE_6 b0.t⟩ rfl rfl rfl (by simp only [List.map_cons, List.map_nil, rv_cat, Value.category, List.sum_cons, List.sum_nil]; decide) (by decide) rfl rfl (by decide) (by decide) dX5_scrap_43 (fun E M9 h => h.elim) (fun v9 M7 hq9 => ?_)
      obtain ⟨rfl, hu7⟩ := hq9
      have e0 := hu7.1.1
      refine J_aload_n hC dX5_scrap_46 rfl rfl ?_
      refine J_iload_n hC dX5_scrap_47 rfl rfl ?_
      refine J_iconst hC dX5_scrap_48 (v := -1) (by decide) ?_
      refine J_callV (k1 := 0) (n1 := 0) (kd := 6) [.int v, .int (-1)] [.int (-1), .int v, rv m] hC lv_X5_120 (ct_X5_setsPlate hst hu7.1 v (-1) (by simp only [sN_uV, sN_uT]; exact hv) (by simp only [sT_uV, sT_uT, sD_uV, sD_uT]; rw [up2_row _ _ _ (by decide)]; exact (hI.r xv (by decide)).1) (by simp only [sT_uV, sT_uT]; rw [up2_row _ _ _ (by decide)]; exact (hI.r xv (by decide)).2) (by omega)) e0.t (by decide) ⟨_, mE_6 e0.t⟩ rfl rfl rfl (by simp only [List.map_cons, List.map_nil, rv_cat, Value.category, List.sum_cons, List.sum_nil]; decide) (by decide) rfl rfl (by decide) (by decide) dX5_scrap_49 (fun E M9 h => h.elim) (fun v9 M8 hq9 => ?_)
      obtain ⟨rfl, hu8⟩ := hq9
      have hw8 := scrap_eq hI xv hu8.1
      obtain ⟨d0, nP8, nR8, nS8, d1, dR, dS⟩ := id hw8
      have hN8 := scrap_N S (ix v)
      have h82 : mI M8 m 2 = nI (sN S 1) := by rw [d1.s2, hN8]
      refine J_iconst hC dX5_scrap_52 (v := 0) (by decide) ?_
      refine J_istore_n hC dX5_scrap_53 rfl (by decide) (ls1 := [some (rv m), some (.int v), some (.int 0)]) rfl ?_
      refine J_iconst hC dX5_scrap_54 (v := 0) (by decide) ?_
      refine J_istore_n hC dX5_scrap_55 rfl (by decide) (ls1 := [some (rv m), some (.int v), some (.int 0), some (.int 0)]) rfl ?_
      have L56 : ∀ (n9 : Nat) (j : Nat) (acc : Int32), sN S 1 - j < n9 → (j ≤ sN S 1) → (acc = nI (cnt (fun i => decide (sV (scrapV S (ix v)) i 7 ≠ 1)) j)) → J G γ M8 56 [some (rv m), some (.int v), some (.int acc), some (.int (nI j))] [] 0 0 := by
        intro n9
        induction n9 with
        | zero => intro j acc h9; exact absurd h9 (Nat.not_lt_zero _)
        | succ n9 ih =>
          intro j acc h9 hj hi
          refine J_iload_n hC dX5_scrap_56 rfl rfl ?_
          refine J_aload_n hC dX5_scrap_57 rfl rfl ?_
          refine J_get6 hC lf_X5_91 (j := 2) d0.t (v := .int (nI (sN S 1))) (congrArg (fun z => some (Value.int z)) h82) dX5_scrap_58 ?_
          refine J_icmp_ge hC dX5_scrap_61 (tgt := 87) (by decide) (fun c61 => ?_) (fun c61 => ?_)
          · have hge := le_nI (by omega) (by omega) c61
            have hjj : j = sN S 1 := by omega
            rw [hjj] at hi
            rw [hi]
            refine J_iload_n hC dX5_scrap_87 rfl rfl ?_
            refine J_iret hC (by decide) (by decide) dX5_scrap_88 ?_
            refine op_mw (S1 := scrapV S (ix v)) ?_ hF2 hT2 (hu7.trans ⟨hw8, hu8.2⟩) (by omega) (by omega) hlt
            unfold oScrap
            rw [if_neg (by rw [hv]; simp), if_neg (by rw [b19]; simp)]
          · have hlt2 := ge_nI (by omega) (by omega) c61
            have hlt3 : j < sN (scrapV S (ix v)) 1 := by rw [hN8]; exact hlt2
            refine J_iload_n hC dX5_scrap_64 rfl rfl ?_
            refine J_aload_n hC dX5_scrap_65 rfl rfl ?_
            refine J_get6 hC lf_X5_19 (j := 13) d0.t (v := rv (mR M8 m 13)) rfl dX5_scrap_66 ?_
            refine J_iload_n hC dX5_scrap_69 rfl rfl ?_
            refine J_zald hC d0.a13 (j := j) (nI_toInt (by omega)) (by rw [d0.l13]; omega) dX5_scrap_70 ?_
            rw [show mI M8 (mR M8 m 13) j = sV (scrapV S (ix v)) j 7 from (d1.scr _ hlt3)]
            refine J_if_eq hC dX5_scrap_71 (tgt := 78) (by decide) (fun c71 => ?_) (fun c71 => ?_)
            · have s7 : ¬ sV (scrapV S (ix v)) j 7 = 1 := fun e => by rw [c71] at e; exact absurd e (by decide)
              refine J_iconst hC dX5_scrap_78 (v := 1) (by decide) ?_
              refine J_iadd hC dX5_scrap_79 ?_
              refine J_istore_n hC dX5_scrap_80 rfl (by decide) (ls1 := [some (rv m), some (.int v), some (.int (acc + 1)), some (.int (nI j))]) rfl ?_
              refine J_iinc hC dX5_scrap_81 (by decide) rfl (v := nI (j + 1)) (nI_1 _) (ls1 := [some (rv m), some (.int v), some (.int (acc + 1)), some (.int (nI (j + 1)))]) rfl ?_
              refine J_goto hC dX5_scrap_84 (tgt := 56) (by decide) ?_
              exact ih (j + 1) _ (by omega) (by omega) (by rw [cnt_s, hi]; first | (rw [if_pos (by simp [s7])]; exact nI_1 _) | (rw [if_neg (by simp [s7])]; exact nI_a0 _))
            · have s7 : sV (scrapV S (ix v)) j 7 = 1 := (d1.sc _ hlt3).resolve_left c71
              refine J_iconst hC dX5_scrap_74 (v := 0) (by decide) ?_
              refine J_goto hC dX5_scrap_75 (tgt := 79) (by decide) ?_
              refine J_iadd hC dX5_scrap_79 ?_
              refine J_istore_n hC dX5_scrap_80 rfl (by decide) (ls1 := [some (rv m), some (.int v), some (.int (acc + 0)), some (.int (nI j))]) rfl ?_
              refine J_iinc hC dX5_scrap_81 (by decide) rfl (v := nI (j + 1)) (nI_1 _) (ls1 := [some (rv m), some (.int v), some (.int (acc + 0)), some (.int (nI (j + 1)))]) rfl ?_
              refine J_goto hC dX5_scrap_84 (tgt := 56) (by decide) ?_
              exact ih (j + 1) _ (by omega) (by omega) (by rw [cnt_s, hi]; first | (rw [if_pos (by simp [s7])]; exact nI_1 _) | (rw [if_neg (by simp [s7])]; exact nI_a0 _))
      exact L56 (sN S 1 + 1) 0 _ (by omega) (Nat.zero_le _) (by rfl)
    · have b19 : (blk S (ix v)) = true := bz_ne0 c19
      refine J_aload_n hC dX5_scrap_22 rfl rfl ?_
      refine J_iconst hC dX5_scrap_23 (v := 2) (by decide) ?_
      refine J_callV (k1 := 0) (n1 := 0) (kd := 6) [.int 2] [.int 2, rv m] hC lv_X5_116 (ct_X5_fails hst (M := M) a0 2) a0.t (by decide) ⟨_, mE_6 a0.t⟩ rfl rfl rfl (by simp only [List.map_cons, List.map_nil, rv_cat, Value.category, List.sum_cons, List.sum_nil]; decide) (by decide) rfl rfl (by decide) (by decide) dX5_scrap_24 (fun E M9 h => h.elim) (fun v9 M9 hq9 => ?_)
      obtain ⟨rfl, rfl⟩ := hq9
      refine J_iret hC (by decide) (by decide) dX5_scrap_27 ?_
      refine op_no hM hlt (k := 2) ?_ rfl
      simp [oScrap, hv, b19]
  · have nv : (isIx v (sN S 1)) = false := bz_eq0 (nn c5)
    refine J_aload_n hC dX5_scrap_8 rfl rfl ?_
    refine J_iconst hC dX5_scrap_9 (v := 1) (by decide) ?_
    refine J_callV (k1 := 0) (n1 := 0) (kd := 6) [.int 1] [.int 1, rv m] hC lv_X5_116 (ct_X5_fails hst (M := M) a0 1) a0.t (by decide) ⟨_, mE_6 a0.t⟩ rfl rfl rfl (by simp only [List.map_cons, List.map_nil, rv_cat, Value.category, List.sum_cons, List.sum_nil]; decide) (by decide) rfl rfl (by decide) (by decide) dX5_scrap_10 (fun E M9 h => h.elim) (fun v9 M9 hq9 => ?_)
    obtain ⟨rfl, rfl⟩ := hq9
    refine J_iret hC (by decide) (by decide) dX5_scrap_13 ?_
    refine op_no hM hlt (k := 1) ?_ rfl
    simp [oScrap, nv]
