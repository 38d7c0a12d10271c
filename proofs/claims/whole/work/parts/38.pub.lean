theorem ct_X5_keeperR {G : Gt} {l : Launch} (hst : l.stackTraces = false) {M : Mm} {m : Nat} (a0 : MA0 M m) {nP : Nat} (h6 : mI M m 6 = nI nP) (hb : nP ≤ 80) (v day : Int32) : Ct G l yX5_keeper cX5_keeper 5 (some .int) 1 M [rv m, .int v, .int day] 0 0 (PQ M (.int (look (sq (ma M m 15) (ma M m 16) (ma M m 17) v nP) day))) (noX) := by
  refine Ct_intro (own := RX5) (nm := "keeper") (by decide +kernel) rfl rfl hst (fun w hw => by simp only [List.mem_cons, List.not_mem_nil, or_false] at hw; rcases hw with rfl | rfl | rfl <;> first | rfl | exact rv_cat _) (Nat.le_of_ble_eq_true rfl) (fun γ hC => ?_)
  show J G γ M 0 [some (rv m), some (.int v), some (.int day)] [] 0 0
  refine J_iconst hC dX5_keeper_0 (v := -1) (by decide) ?_
  refine J_istore_n hC dX5_keeper_1 rfl (by decide) (ls1 := [some (rv m), some (.int v), some (.int day), some (.int (-1))]) rfl ?_
  refine J_iconst hC dX5_keeper_2 (v := 0) (by decide) ?_
  refine J_istore hC dX5_keeper_3 (by decide) (ls1 := [some (rv m), some (.int v), some (.int day), some (.int (-1)), some (.int 0)]) rfl ?_
  have L5 : ∀ (n9 : Nat) (j : Nat) (acc : Int32), nP - j < n9 → (j ≤ nP) → (acc = look (sq (ma M m 15) (ma M m 16) (ma M m 17) v j) day) → J G γ M 5 [some (rv m), some (.int v), some (.int day), some (.int acc), some (.int (nI j))] [] 0 0 := by
    intro n9
    induction n9 with
    | zero => intro j acc h9; exact absurd h9 (Nat.not_lt_zero _)
    | succ n9 ih =>
      intro j acc h9 hj hi
      refine J_iload hC dX5_keeper_5 rfl ?_
      refine J_aload_n hC dX5_keeper_7 rfl rfl ?_
      refine J_get6 hC lf_X5_110 (j := 6) a0.t (v := .int (nI nP)) (congrArg (fun z => some (Value.int z)) h6) dX5_keeper_8 ?_
      refine J_icmp_ge hC dX5_keeper_11 (tgt := 50) (by decide) (fun c11 => ?_) (fun c11 => ?_)
      · have hge := le_nI (by omega) (by omega) c11
        have hjj : j = nP := by omega
        rw [hjj] at hi
        refine J_iload_n hC dX5_keeper_50 rfl rfl ?_
        refine J_iret hC (by decide) (by decide) dX5_keeper_51 ?_
        exact ⟨by rw [hi], rfl⟩
      · have hlt := ge_nI (by omega) (by omega) c11
        refine J_aload_n hC dX5_keeper_14 rfl rfl ?_
        refine J_get6 hC lf_X5_26 (j := 15) a0.t (v := rv (mR M m 15)) rfl dX5_keeper_15 ?_
        refine J_iload hC dX5_keeper_18 rfl ?_
        refine J_iald hC a0.a15 (j := j) (nI_toInt (by omega)) (by rw [a0.l15]; omega) dX5_keeper_20 ?_
        refine J_iload_n hC dX5_keeper_21 rfl rfl ?_
        refine J_icmp_ne hC dX5_keeper_22 (tgt := 44) (by decide) (fun c22 => ?_) (fun c22 => ?_)
        · refine J_iinc hC dX5_keeper_44 (by decide) rfl (v := nI (j + 1)) (nI_1 _) (ls1 := [some (rv m), some (.int v), some (.int day), some (.int acc), some (.int (nI (j + 1)))]) rfl ?_
          refine J_goto hC dX5_keeper_47 (tgt := 5) (by decide) ?_
          exact ih (j + 1) _ (by omega) (by omega) (by first | (rw [sq_n c22]; exact hi) | (rw [sq_y (nn c22), look_snoc, if_neg (i_nle c33)]; exact hi))
        · refine J_aload_n hC dX5_keeper_25 rfl rfl ?_
          refine J_get6 hC lf_X5_29 (j := 16) a0.t (v := rv (mR M m 16)) rfl dX5_keeper_26 ?_
          refine J_iload hC dX5_keeper_29 rfl ?_
          refine J_iald hC a0.a16 (j := j) (nI_toInt (by omega)) (by rw [a0.l16]; omega) dX5_keeper_31 ?_
          refine J_iload_n hC dX5_keeper_32 rfl rfl ?_
          refine J_icmp_gt hC dX5_keeper_33 (tgt := 44) (by decide) (fun c33 => ?_) (fun c33 => ?_)
          · refine J_iinc hC dX5_keeper_44 (by decide) rfl (v := nI (j + 1)) (nI_1 _) (ls1 := [some (rv m), some (.int v), some (.int day), some (.int acc), some (.int (nI (j + 1)))]) rfl ?_
            refine J_goto hC dX5_keeper_47 (tgt := 5) (by decide) ?_
            exact ih (j + 1) _ (by omega) (by omega) (by first | (rw [sq_n c22]; exact hi) | (rw [sq_y (nn c22), look_snoc, if_neg (i_nle c33)]; exact hi))
          · refine J_aload_n hC dX5_keeper_36 rfl rfl ?_
            refine J_get6 hC lf_X5_32 (j := 17) a0.t (v := rv (mR M m 17)) rfl dX5_keeper_37 ?_
            refine J_iload hC dX5_keeper_40 rfl ?_
            refine J_iald hC a0.a17 (j := j) (nI_toInt (by omega)) (by rw [a0.l17]; omega) dX5_keeper_42 ?_
            refine J_istore_n hC dX5_keeper_43 rfl (by decide) (ls1 := [some (rv m), some (.int v), some (.int day), some (.int (mI M (mR M m 17) j)), some (.int (nI j))]) rfl ?_
            refine J_iinc hC dX5_keeper_44 (by decide) rfl (v := nI (j + 1)) (nI_1 _) (ls1 := [some (rv m), some (.int v), some (.int day), some (.int (mI M (mR M m 17) j)), some (.int (nI (j + 1)))]) rfl ?_
            refine J_goto hC dX5_keeper_47 (tgt := 5) (by decide) ?_
            exact ih (j + 1) _ (by omega) (by omega) (by rw [sq_y (nn c22), look_snoc, if_pos (i_nlt c33)])
  exact L5 (nP + 1) 0 _ (by omega) (Nat.zero_le _) (by rfl)
theorem ct_X5_presentR {G : Gt} {l : Launch} (hst : l.stackTraces = false) {M : Mm} {m : Nat} (a0 : MA0 M m) {nP : Nat} (h6 : mI M m 6 = nI nP) (hb : nP ≤ 80) (v : Int32) : Ct G l yX5_present cX5_present 2 (some .int) 2 M [rv m, .int v] 0 0 (PQ M (.int (look (sq (ma M m 15) (ma M m 16) (ma M m 17) v nP) 3000))) (noX) := by
  refine Ct_intro (own := RX5) (nm := "present") (by decide +kernel) rfl rfl hst (fun w hw => by simp only [List.mem_cons, List.not_mem_nil, or_false] at hw; rcases hw with rfl | rfl <;> first | rfl | exact rv_cat _) (Nat.le_of_ble_eq_true rfl) (fun γ hC => ?_)
  show J G γ M 0 [some (rv m), some (.int v)] [] 0 0
  refine J_aload_n hC dX5_present_0 rfl rfl ?_
  refine J_iload_n hC dX5_present_1 rfl rfl ?_
  refine J_sipush hC dX5_present_2 (v := 3000) (by decide) ?_
  refine J_callV (k1 := 0) (n1 := 0) (kd := 6) [.int v, .int 3000] [.int 3000, .int v, rv m] hC lv_X5_113 (ct_X5_keeperR hst a0 h6 hb v 3000) a0.t (by decide) ⟨_, mE_6 a0.t⟩ rfl rfl rfl (by simp only [List.map_cons, List.map_nil, rv_cat, Value.category, List.sum_cons, List.sum_nil]; decide) (by decide) rfl rfl (by decide) (by decide) dX5_present_5 (fun E M9 h => h.elim) (fun v9 M9 hq9 => ?_)
  obtain ⟨rfl, e9⟩ := hq9
  rw [e9]; clear e9
  refine J_iret hC (by decide) (by decide) dX5_present_8 ?_
  exact ⟨rfl, rfl⟩
theorem MAw.iss3 {M : Mm} {m : Nat} {X : St} {p v r s : Nat} {y : Tl} (h : MAw M m (issueQ X v) r s) : MAw M m (issueQ (uT X 3 p y) v) r s := MAw.eq h (by unfold issueQ mountQ; simp only [sN_uN, sN_uD, sN_uC, sN_uP, sN_uV, sN_uL, sN_uT, sN_uQ, sN_uO]) (by unfold issueQ mountQ; simp only [sN_uN, sN_uD, sN_uC, sN_uP, sN_uV, sN_uL, sN_uT, sN_uQ, sN_uO, sD_uN, sD_uD, sD_uC, sD_uP, sD_uV, sD_uL, sD_uT, sD_uQ, sD_uO]) (by unfold issueQ mountQ; simp only [sN_uN, sN_uD, sN_uC, sN_uP, sN_uV, sN_uL, sN_uT, sN_uQ, sN_uO, sC_uN, sC_uD, sC_uC, sC_uP, sC_uV, sC_uL, sC_uT, sC_uQ, sC_uO]) (by unfold issueQ mountQ; simp only [sN_uN, sN_uD, sN_uC, sN_uP, sN_uV, sN_uL, sN_uT, sN_uQ, sN_uO, sP_uN, sP_uD, sP_uC, sP_uP, sP_uV, sP_uL, sP_uT, sP_uQ, sP_uO]) (by unfold issueQ mountQ; simp only [sN_uN, sN_uD, sN_uC, sN_uP, sN_uV, sN_uL, sN_uT, sN_uQ, sN_uO, sV_uN, sV_uD, sV_uC, sV_uP, sV_uV, sV_uL, sV_uT, sV_uQ, sV_uO]) (by unfold issueQ mountQ; simp only [sN_uN, sN_uD, sN_uC, sN_uP, sN_uV, sN_uL, sN_uT, sN_uQ, sN_uO, sL_uN, sL_uD, sL_uC, sL_uP, sL_uV, sL_uL, sL_uT, sL_uQ, sL_uO]) (by unfold issueQ mountQ; simp only [sN_uN, sN_uD, sN_uC, sN_uP, sN_uV, sN_uL, sN_uT, sN_uQ, sN_uO, sQ_uN, sQ_uD, sQ_uC, sQ_uP, sQ_uV, sQ_uL, sQ_uT, sQ_uQ, sQ_uO]) (by unfold issueQ mountQ; simp only [sN_uN, sN_uD, sN_uC, sN_uP, sN_uV, sN_uL, sN_uT, sN_uQ, sN_uO, sO_uN, sO_uD, sO_uC, sO_uP, sO_uV, sO_uL, sO_uT, sO_uQ, sO_uO]) (by unfold issueQ mountQ; simp only [sN_uN, sN_uD, sN_uC, sN_uP, sN_uV, sN_uL, sN_uT, sN_uQ, sN_uO, sD_uN, sD_uD, sD_uC, sD_uP, sD_uV, sD_uL, sD_uT, sD_uQ, sD_uO, sT_uN, sT_uD, sT_uC, sT_uP, sT_uV, sT_uL, sT_uT, sT_uQ, sT_uO]; simp only [up2_vT, up2_row _ _ _ (show (0 : Nat) ≠ 3 by decide), up2_row _ _ _ (show (1 : Nat) ≠ 3 by decide), up2_row _ _ _ (show (2 : Nat) ≠ 3 by decide), up2_row _ _ _ (show (0 : Nat) ≠ 1 by decide), up2_row _ _ _ (show (2 : Nat) ≠ 1 by decide)]) (by unfold issueQ mountQ; simp only [sN_uN, sN_uD, sN_uC, sN_uP, sN_uV, sN_uL, sN_uT, sN_uQ, sN_uO, sD_uN, sD_uD, sD_uC, sD_uP, sD_uV, sD_uL, sD_uT, sD_uQ, sD_uO, sT_uN, sT_uD, sT_uC, sT_uP, sT_uV, sT_uL, sT_uT, sT_uQ, sT_uO]; simp only [up2_vT, up2_row _ _ _ (show (0 : Nat) ≠ 3 by decide), up2_row _ _ _ (show (1 : Nat) ≠ 3 by decide), up2_row _ _ _ (show (2 : Nat) ≠ 3 by decide), up2_row _ _ _ (show (0 : Nat) ≠ 1 by decide), up2_row _ _ _ (show (2 : Nat) ≠ 1 by decide)]) (by unfold issueQ mountQ; simp only [sN_uN, sN_uD, sN_uC, sN_uP, sN_uV, sN_uL, sN_uT, sN_uQ, sN_uO, sD_uN, sD_uD, sD_uC, sD_uP, sD_uV, sD_uL, sD_uT, sD_uQ, sD_uO, sT_uN, sT_uD, sT_uC, sT_uP, sT_uV, sT_uL, sT_uT, sT_uQ, sT_uO]; simp only [up2_vT, up2_row _ _ _ (show (0 : Nat) ≠ 3 by decide), up2_row _ _ _ (show (1 : Nat) ≠ 3 by decide), up2_row _ _ _ (show (2 : Nat) ≠ 3 by decide), up2_row _ _ _ (show (0 : Nat) ≠ 1 by decide), up2_row _ _ _ (show (2 : Nat) ≠ 1 by decide)])
set_option maxHeartbeats 4000000 in
theorem ct_X5_keepPlate {G : Gt} {l : Launch} (hst : l.stackTraces = false) {M : Mm} {m : Nat} {S : St} {t : Nat} (hM : MAt M m S t) (hI : Inv S t) (hlt : t < 512) (v : Int32) : Ct G l yX5_keepPlate cX5_keepPlate 3 (some .int) 4 M [rv m, .int v] 0 0 (Op M m t (oKeepPlate S v)) (noX) := by
  obtain ⟨a0, nP, nR, nS, a1, bR, bS, bt⟩ := id hM
  have bPs := a1.bPs; have bK := a1.bK; have bV := a1.bV; have bPl := a1.bP; have bN := a1.bN
  refine Ct_intro (own := RX5) (nm := "keepPlate") (by decide +kernel) rfl rfl hst (fun w hw => by simp only [List.mem_cons, List.not_mem_nil, or_false] at hw; rcases hw with rfl | rfl <;> first | rfl | exact rv_cat _) (Nat.le_of_ble_eq_true rfl) (fun γ hC => ?_)
  show J G γ M 0 [some (rv m), some (.int v)] [] 0 0
  refine J_aload_n hC dX5_keepPlate_0 rfl rfl ?_
  refine J_iload_n hC dX5_keepPlate_1 rfl rfl ?_
  refine J_callV (k1 := 0) (n1 := 0) (kd := 6) [.int v] [.int v, rv m] hC lv_X5_147 (ct_X5_isVehicle hst hM v) a0.t (by decide) ⟨_, mE_6 a0.t⟩ rfl rfl rfl (by simp only [List.map_cons, List.map_nil, rv_cat, Value.category, List.sum_cons, List.sum_nil]; decide) (by decide) rfl rfl (by decide) (by decide) dX5_keepPlate_2 (fun E M9 h => h.elim) (fun v9 M9 hq9 => ?_)
  obtain ⟨rfl, e9⟩ := hq9
  rw [e9]; clear e9
  refine J_if_ne hC dX5_keepPlate_5 (tgt := 14) (by decide) (fun c5 => ?_) (fun c5 => ?_)
  · have hv : (isIx v (sN S 1)) = true := bz_ne0 c5
    have xv := (isIx_ix hv).2
    refine J_aload_n hC dX5_keepPlate_14 rfl rfl ?_
    refine J_iload_n hC dX5_keepPlate_15 rfl rfl ?_
    refine J_aload_n hC dX5_keepPlate_16 rfl rfl ?_
    refine J_get6 hC lf_X5_97 (j := 5) a0.t (v := .int (sD S)) (congrArg (fun z => some (Value.int z)) a1.s5) dX5_keepPlate_17 ?_
    refine J_callV (k1 := 0) (n1 := 0) (kd := 6) [.int v, .int (sD S)] [.int (sD S), .int v, rv m] hC lv_X5_106 (ct_X5_plate hst hM v (sD S) hv) a0.t (by decide) ⟨_, mE_6 a0.t⟩ rfl rfl rfl (by simp only [List.map_cons, List.map_nil, rv_cat, Value.category, List.sum_cons, List.sum_nil]; decide) (by decide) rfl rfl (by decide) (by decide) dX5_keepPlate_20 (fun E M9 h => h.elim) (fun v9 M9 hq9 => ?_)
    obtain ⟨rfl, e9⟩ := hq9
    rw [e9]; clear e9
    rw [hI.lk (isIx_ix hv).2 (by decide)]
    refine J_istore_n hC dX5_keepPlate_23 rfl (by decide) (ls1 := [some (rv m), some (.int v), some (.int (lastV (sT S 1 (ix v))))]) rfl ?_
    refine J_iload_n hC dX5_keepPlate_24 rfl rfl ?_
    refine J_iconst hC dX5_keepPlate_25 (v := -1) (by decide) ?_
    refine J_icmp_ne hC dX5_keepPlate_26 (tgt := 35) (by decide) (fun c26 => ?_) (fun c26 => ?_)
    · have q26 : ¬ lastV (sT S 1 (ix v)) = -1 := c26
      have K58 : ∀ (b40 : blk S (ix v) = false) (q49 : ¬ sN S 2 = 40), J G γ M 58 [some (rv m), some (.int v), some (.int (lastV (sT S 1 (ix v))))] [] 0 0 := by
        intro b40 q49
        obtain ⟨hm1, hm2, hm3⟩ := hI.mounted xv q26
        have xm := (isIx_ix hm1).2
        refine J_aload_n hC dX5_keepPlate_58 rfl rfl ?_
        refine J_iconst hC dX5_keepPlate_59 (v := 0) (by decide) ?_
        refine J_put6_0 hC lf_X5_80 a0.t dX5_keepPlate_60 ?_
        refine J_aload_n hC dX5_keepPlate_63 rfl rfl ?_
        refine J_get6 hC lf_X5_77 (j := 32) a0.t (v := rv (mR M m 32)) rfl dX5_keepPlate_64 ?_
        refine J_iload_n hC dX5_keepPlate_67 rfl rfl ?_
        refine J_iconst hC dX5_keepPlate_68 (v := 1) (by decide) ?_
        refine J_zast hC a0.a32 (j := (ix (lastV (sT S 1 (ix v))))) (isIx_ix hm1).1 (Nat.lt_of_lt_of_eq (by omega) a0.l32.symm) (by decide) dX5_keepPlate_69 ?_
        refine J_aload_n hC dX5_keepPlate_70 rfl rfl ?_
        refine J_get6 hC lf_X5_71 (j := 30) a0.t (v := rv (mR M m 30)) rfl dX5_keepPlate_71 ?_
        refine J_iload_n hC dX5_keepPlate_74 rfl rfl ?_
        refine J_aload_n hC dX5_keepPlate_75 rfl rfl ?_
        refine J_iload_n hC dX5_keepPlate_76 rfl rfl ?_
        refine J_callV (k1 := 0) (n1 := 0) (kd := 6) [.int v] [.int v, rv m, .int (lastV (sT S 1 (ix v))), rv (mR M m 30)] hC lv_X5_160 (ct_X5_presentR hst (M := (pI (pI M m 0 0) (mR M m 32) (ix (lastV (sT S 1 (ix v)))) 1)) a0 (nP := nP) ((up2_b _ _ _ _ (a0.ne (by decide) (by decide)) : mI (pI (pI M m 0 0) (mR M m 32) (ix (lastV (sT S 1 (ix v)))) 1) m 6 = mI (pI M m 0 0) m 6).trans ((up2_k _ _ _ (by decide) : mI (pI M m 0 0) m 6 = mI M m 6).trans a1.s6)) (by omega) v) a0.t (by decide) ⟨_, mE_6 a0.t⟩ rfl rfl rfl (by simp only [List.map_cons, List.map_nil, rv_cat, List.sum_cons, List.sum_nil]; (try simp only [Value.category]); (try omega)) (by decide) rfl rfl (by decide) (by decide) dX5_keepPlate_77 (fun E M9 h => h.elim) (fun v9 M9 hq9 => ?_)
        obtain ⟨rfl, e9⟩ := hq9
        rw [e9]; clear e9
        rw [show ma (pI (pI M m 0 0) (mR M m 32) (ix (lastV (sT S 1 (ix v)))) 1) m 15 = ma M m 15 from (up2_row _ _ _ (a0.ap (by decide) (by decide) (by decide) (by decide) (by decide))).trans (up2_row _ _ _ (a0.ne (by decide) (by decide)).symm), show ma (pI (pI M m 0 0) (mR M m 32) (ix (lastV (sT S 1 (ix v)))) 1) m 16 = ma M m 16 from (up2_row _ _ _ (a0.ap (by decide) (by decide) (by decide) (by decide) (by decide))).trans (up2_row _ _ _ (a0.ne (by decide) (by decide)).symm), show ma (pI (pI M m 0 0) (mR M m 32) (ix (lastV (sT S 1 (ix v)))) 1) m 17 = ma M m 17 from (up2_row _ _ _ (a0.ap (by decide) (by decide) (by decide) (by decide) (by decide))).trans (up2_row _ _ _ (a0.ne (by decide) (by decide)).symm), show sq (ma M m 15) (ma M m 16) (ma M m 17) v nP = sT S 0 (ix v) from (by have h9 := a1.q0 _ xv; rw [← isIx_nI hv] at h9; exact h9), hI.lkB xv (by decide)]
        refine J_iast hC a0.a30 (j := (ix (lastV (sT S 1 (ix v))))) (isIx_ix hm1).1 (Nat.lt_of_lt_of_eq (by omega) a0.l30.symm) dX5_keepPlate_80 ?_
        refine J_aload_n hC dX5_keepPlate_81 rfl rfl ?_
        refine J_get6 hC lf_X5_74 (j := 31) a0.t (v := rv (mR M m 31)) rfl dX5_keepPlate_82 ?_
        refine J_iload_n hC dX5_keepPlate_85 rfl rfl ?_
        refine J_aload_n hC dX5_keepPlate_86 rfl rfl ?_
        refine J_get6 hC lf_X5_97 (j := 5) a0.t (v := .int (sD S)) (congrArg (fun z => some (Value.int z)) ((up2_b _ _ _ _ (a0.ne (by decide) (by decide)) : mI (pI (pI (pI M m 0 0) (mR M m 32) (ix (lastV (sT S 1 (ix v)))) 1) (mR M m 30) (ix (lastV (sT S 1 (ix v)))) (lastV (sT S 0 (ix v)))) m 5 = mI (pI (pI M m 0 0) (mR M m 32) (ix (lastV (sT S 1 (ix v)))) 1) m 5).trans ((up2_b _ _ _ _ (a0.ne (by decide) (by decide)) : mI (pI (pI M m 0 0) (mR M m 32) (ix (lastV (sT S 1 (ix v)))) 1) m 5 = mI (pI M m 0 0) m 5).trans ((up2_k _ _ _ (by decide) : mI (pI M m 0 0) m 5 = mI M m 5).trans a1.s5)))) dX5_keepPlate_87 ?_
        refine J_iast hC a0.a31 (j := (ix (lastV (sT S 1 (ix v))))) (isIx_ix hm1).1 (Nat.lt_of_lt_of_eq (by omega) a0.l31.symm) dX5_keepPlate_90 ?_
        obtain ⟨M2, eM2⟩ : ∃ z, z = (pI (pI (pI (pI M m 0 0) (mR M m 32) (ix (lastV (sT S 1 (ix v)))) 1) (mR M m 30) (ix (lastV (sT S 1 (ix v)))) (lastV (sT S 0 (ix v)))) (mR M m 31) (ix (lastV (sT S 1 (ix v)))) (sD S)) := ⟨_, rfl⟩
        rw [← eM2]
        have hw2 : MAw M2 m (uQ (uQ S (ix (lastV (sT S 1 (ix v)))) 2 (lastV (sT S 0 (ix v)))) (ix (lastV (sT S 1 (ix v)))) 3 (sD S)) t (2 * t) := by rw [eM2]; exact ⟨a0, _, _, _, MA1.of_v (Vw.arr (M := (pI (pI (pI M m 0 0) (mR M m 32) (ix (lastV (sT S 1 (ix v)))) 1) (mR M m 30) (ix (lastV (sT S 1 (ix v)))) (lastV (sT S 0 (ix v))))) a0 (Vw.arr (M := (pI (pI M m 0 0) (mR M m 32) (ix (lastV (sT S 1 (ix v)))) 1)) a0 (Vw.arr (M := (pI M m 0 0)) a0 (Vw.sc (M := M) a0 (Vw.rf M m) 0 0) 32 (by decide) (by decide) (ix (lastV (sT S 1 (ix v)))) 1) 30 (by decide) (by decide) (ix (lastV (sT S 1 (ix v)))) (lastV (sT S 0 (ix v)))) 31 (by decide) (by decide) (ix (lastV (sT S 1 (ix v)))) (sD S)) (MA1v.keepq a1.v xm (isIx_n1 (hI.kp xv))), bR, bS⟩
        have hF2 : Fr pM M M2 := by rw [eM2]; exact (Fr.trans (Fr.trans (Fr.trans (Fr.trans (Fr.rf pM M) (Fr.pI (a0.fm))) (Fr.pI (a0.fa (by decide) (by decide)))) (Fr.pI (a0.fa (by decide) (by decide)))) (Fr.pI (a0.fa (by decide) (by decide))))
        have hT2 : mI M2 m 0 = 0 := by rw [eM2]; exact ((up2_b _ _ _ _ (a0.ne (by decide) (by decide))).trans ((up2_b _ _ _ _ (a0.ne (by decide) (by decide))).trans ((up2_b _ _ _ _ (a0.ne (by decide) (by decide))).trans (up2_same _ _ _ _))))
        have b0 := hw2.1
        refine J_aload_n hC dX5_keepPlate_91 rfl rfl ?_
        refine J_iload_n hC dX5_keepPlate_92 rfl rfl ?_
        refine J_callV (k1 := 0) (n1 := 0) (kd := 6) [.int v] [.int v, rv m] hC lv_X5_136 (ct_X5_issues hst hw2 v (by simp only [sN_uQ]; exact hv) (by simp only [sT_uQ, sD_uQ]; exact (hI.r xv (by decide)).1) (by simp only [sT_uQ]; exact (hI.r xv (by decide)).2) (by omega) (by simp only [sN_uQ]; omega)) b0.t (by decide) ⟨_, mE_6 b0.t⟩ rfl rfl rfl (by simp only [List.map_cons, List.map_nil, rv_cat, Value.category, List.sum_cons, List.sum_nil]; decide) (by decide) rfl rfl (by decide) (by decide) dX5_keepPlate_93 (fun E M9 h => h.elim) (fun v9 M9 hq9 => ?_)
        obtain ⟨rfl, hu9⟩ := hq9
        simp only [sN_uQ]
        refine J_iret hC (by decide) (by decide) dX5_keepPlate_96 ?_
        refine op_mw (S1 := keepQ S (ix v)) ?_ hF2 hT2 ⟨MAw.iss3 hu9.1, hu9.2⟩ (by omega) (by omega) hlt
        unfold oKeepPlate
        rw [if_neg (by rw [hv]; simp), if_neg q26, if_neg (by rintro (q | q); exact absurd (b40.symm.trans q) (by decide); exact q49 q)]
      refine J_aload_n hC dX5_keepPlate_35 rfl rfl ?_
      refine J_iload_n hC dX5_keepPlate_36 rfl rfl ?_
      refine J_callV (k1 := 0) (n1 := 0) (kd := 6) [.int v] [.int v, rv m] hC lv_X5_157 (ct_X5_blocked hst hM v hv) a0.t (by decide) ⟨_, mE_6 a0.t⟩ rfl rfl rfl (by simp only [List.map_cons, List.map_nil, rv_cat, Value.category, List.sum_cons, List.sum_nil]; decide) (by decide) rfl rfl (by decide) (by decide) dX5_keepPlate_37 (fun E M9 h => h.elim) (fun v9 M9 hq9 => ?_)
      obtain ⟨rfl, e9⟩ := hq9
      rw [e9]; clear e9
      refine J_if_ne hC dX5_keepPlate_40 (tgt := 52) (by decide) (fun c40 => ?_) (fun c40 => ?_)
      · have b40 : (blk S (ix v)) = true := bz_ne0 c40
        refine J_aload_n hC dX5_keepPlate_52 rfl rfl ?_
        refine J_iconst hC dX5_keepPlate_53 (v := 3) (by decide) ?_
        refine J_callV (k1 := 0) (n1 := 0) (kd := 6) [.int 3] [.int 3, rv m] hC lv_X5_116 (ct_X5_fails hst (M := M) a0 3) a0.t (by decide) ⟨_, mE_6 a0.t⟩ rfl rfl rfl (by simp only [List.map_cons, List.map_nil, rv_cat, Value.category, List.sum_cons, List.sum_nil]; decide) (by decide) rfl rfl (by decide) (by decide) dX5_keepPlate_54 (fun E M9 h => h.elim) (fun v9 M9 hq9 => ?_)
        obtain ⟨rfl, rfl⟩ := hq9
        refine J_iret hC (by decide) (by decide) dX5_keepPlate_57 ?_
        refine op_no hM hlt (k := 3) ?_ rfl
        simp [oKeepPlate, hv, q26, b40]
      · have b40 : (blk S (ix v)) = false := bz_eq0 (nn c40)
        refine J_aload_n hC dX5_keepPlate_43 rfl rfl ?_
        refine J_get6 hC lf_X5_94 (j := 4) a0.t (v := .int (nI (sN S 2))) (congrArg (fun z => some (Value.int z)) a1.s4) dX5_keepPlate_44 ?_
        refine J_bipush hC dX5_keepPlate_47 (v := 40) (by decide) ?_
        refine J_icmp_ne hC dX5_keepPlate_49 (tgt := 58) (by decide) (fun c49 => ?_) (fun c49 => ?_)
        · have q49 : ¬ (sN S 2) = 40 := fun e => c49 (show nI (sN S 2) = nI 40 from congrArg nI e)
          obtain ⟨hm1, hm2, hm3⟩ := hI.mounted xv q26
          have xm := (isIx_ix hm1).2
          exact K58 b40 q49
        · have q49 : (sN S 2) = 40 := (nI_eq (by omega) (by omega)).mp (show nI (sN S 2) = nI 40 from (nn c49))
          refine J_aload_n hC dX5_keepPlate_52 rfl rfl ?_
          refine J_iconst hC dX5_keepPlate_53 (v := 3) (by decide) ?_
          refine J_callV (k1 := 0) (n1 := 0) (kd := 6) [.int 3] [.int 3, rv m] hC lv_X5_116 (ct_X5_fails hst (M := M) a0 3) a0.t (by decide) ⟨_, mE_6 a0.t⟩ rfl rfl rfl (by simp only [List.map_cons, List.map_nil, rv_cat, Value.category, List.sum_cons, List.sum_nil]; decide) (by decide) rfl rfl (by decide) (by decide) dX5_keepPlate_54 (fun E M9 h => h.elim) (fun v9 M9 hq9 => ?_)
          obtain ⟨rfl, rfl⟩ := hq9
          refine J_iret hC (by decide) (by decide) dX5_keepPlate_57 ?_
          refine op_no hM hlt (k := 3) ?_ rfl
          simp [oKeepPlate, hv, q26, b40, q49]
    · have q26 : lastV (sT S 1 (ix v)) = -1 := (nn c26)
      refine J_aload_n hC dX5_keepPlate_29 rfl rfl ?_
      refine J_iconst hC dX5_keepPlate_30 (v := 2) (by decide) ?_
      refine J_callV (k1 := 0) (n1 := 0) (kd := 6) [.int 2] [.int 2, rv m] hC lv_X5_116 (ct_X5_fails hst (M := M) a0 2) a0.t (by decide) ⟨_, mE_6 a0.t⟩ rfl rfl rfl (by simp only [List.map_cons, List.map_nil, rv_cat, Value.category, List.sum_cons, List.sum_nil]; decide) (by decide) rfl rfl (by decide) (by decide) dX5_keepPlate_31 (fun E M9 h => h.elim) (fun v9 M9 hq9 => ?_)
      obtain ⟨rfl, rfl⟩ := hq9
      refine J_iret hC (by decide) (by decide) dX5_keepPlate_34 ?_
      refine op_no hM hlt (k := 2) ?_ rfl
      simp [oKeepPlate, hv, q26]
  · have nv : (isIx v (sN S 1)) = false := bz_eq0 (nn c5)
    refine J_aload_n hC dX5_keepPlate_8 rfl rfl ?_
    refine J_iconst hC dX5_keepPlate_9 (v := 1) (by decide) ?_
    refine J_callV (k1 := 0) (n1 := 0) (kd := 6) [.int 1] [.int 1, rv m] hC lv_X5_116 (ct_X5_fails hst (M := M) a0 1) a0.t (by decide) ⟨_, mE_6 a0.t⟩ rfl rfl rfl (by simp only [List.map_cons, List.map_nil, rv_cat, Value.category, List.sum_cons, List.sum_nil]; decide) (by decide) rfl rfl (by decide) (by decide) dX5_keepPlate_10 (fun E M9 h => h.elim) (fun v9 M9 hq9 => ?_)
    obtain ⟨rfl, rfl⟩ := hq9
    refine J_iret hC (by decide) (by decide) dX5_keepPlate_13 ?_
    refine op_no hM hlt (k := 1) ?_ rfl
    simp [oKeepPlate, nv]
