theorem issueQ_T2 (S : St) (v : Nat) : sT (issueQ S v) 2 = sT S 2 := by
  unfold issueQ mountQ
  simp only [sT_uN, sT_uD, sT_uC, sT_uP, sT_uV, sT_uL, sT_uT, sT_uQ, sT_uO]
  rw [up2_row _ _ _ (by decide), up2_row _ _ _ (by decide), up2_row _ _ _ (by decide)]
theorem issueQ_N1 (S : St) (v : Nat) : sN (issueQ S v) 1 = sN S 1 := by
  unfold issueQ mountQ
  simp only [sN_uN, sN_uD, sN_uC, sN_uP, sN_uV, sN_uL, sN_uT, sN_uQ, sN_uO]
  exact va_up_ne _ _ (by decide)
theorem addW_N1 (S : St) (who kind b : Int32) : sN (addW S who kind b) 1 = sN S 1 + 1 := by
  unfold addW addV
  simp only [sN_uN, sN_uD, sN_uC, sN_uP, sN_uV, sN_uL, sN_uT, sN_uQ, sN_uO]
  exact va_up_self _ _ _
theorem addW_N2 (S : St) (who kind b : Int32) : sN (addW S who kind b) 2 = sN S 2 := by
  unfold addW addV
  simp only [sN_uN, sN_uD, sN_uC, sN_uP, sN_uV, sN_uL, sN_uT, sN_uQ, sN_uO]
  exact va_up_ne _ _ (by decide)
theorem MAw.n1 {M : Mm} {m : Nat} {S : St} {r s : Nat} (h : MAw M m S r s) : mI M m 2 = nI (sN S 1) := by
  obtain ⟨_, _, _, _, h1, _⟩ := h
  exact h1.s2
theorem op_add {M M2 M9 M10 : Mm} {m : Nat} {S : St} {t : Nat} {R : Res} {who kind : Int32} (hR : R = (0, .int (nI (sN S 1)), onRoad (addV S who kind) (sN S 1))) (hlt : t < 512) (hF2 : Fr pM M M2) (hT2 : mI M2 m 0 = 0) (h9 : Mu M2 m (issueQ (addW S who kind 1) (sN S 1)) t (2 * t + 1) M9) (h10 : Mu M9 m (uT (issueQ (addW S who kind 1) (sN S 1)) 2 (sN S 1) (setT (sT (issueQ (addW S who kind 1) (sN S 1)) 2 (sN S 1)) (sD (issueQ (addW S who kind 1) (sN S 1))) 1)) (t + 1) (2 * t + 1) M10) : Op M m t R (some (.int (nI (sN S 1)))) M10 := by
  have hD : sD (issueQ (addW S who kind 1) (sN S 1)) = sD S := by
    unfold issueQ mountQ addW addV
    simp only [sD_uN, sD_uD, sD_uC, sD_uP, sD_uV, sD_uL, sD_uT, sD_uQ, sD_uO]
  have h8 := MAw.t h10.1 (t := t + 1) (by omega) (by omega) (by omega)
  rw [hD, addW_1 S who kind _ rfl] at h8
  exact op_at hR h8 (hF2.trans (h9.2.1.trans h10.2.1)) (h10.2.2.trans (h9.2.2.trans hT2))
set_option maxHeartbeats 4000000 in
theorem ct_X5_adds {G : Gt} {l : Launch} (hst : l.stackTraces = false) {M : Mm} {m : Nat} {S : St} {t : Nat} (hM : MAt M m S t) (hI : Inv S t) (hlt : t < 512) (who kind b : Int32) (hb : b = 0 ∨ b = 1) : Ct G l yX5_adds cX5_adds 4 (some .int) 4 M [rv m, .int who, .int kind, .int b] 0 0 (Op M m t (if b = 1 then oRegister S who kind else oBringIn S who kind)) (noX) := by
  obtain ⟨a0, nP, nR, nS, a1, bR, bS, bt⟩ := id hM
  have bPs := a1.bPs; have bK := a1.bK; have bV := a1.bV; have bPl := a1.bP; have bN := a1.bN
  refine Ct_intro (own := RX5) (nm := "adds") (by decide +kernel) rfl rfl hst (fun w hw => by simp only [List.mem_cons, List.not_mem_nil, or_false] at hw; rcases hw with rfl | rfl | rfl | rfl <;> first | rfl | exact rv_cat _) (Nat.le_of_ble_eq_true rfl) (fun γ hC => ?_)
  show J G γ M 0 [some (rv m), some (.int who), some (.int kind), some (.int b)] [] 0 0
  refine J_aload_n hC dX5_adds_0 rfl rfl ?_
  refine J_iload_n hC dX5_adds_1 rfl rfl ?_
  refine J_callV (k1 := 0) (n1 := 0) (kd := 6) [.int who] [.int who, rv m] hC lv_X5_124 (ct_X5_isKeeper hst hM who) a0.t (by decide) ⟨_, mE_6 a0.t⟩ rfl rfl rfl (by simp only [List.map_cons, List.map_nil, rv_cat, Value.category, List.sum_cons, List.sum_nil]; decide) (by decide) rfl rfl (by decide) (by decide) dX5_adds_2 (fun E M9 h => h.elim) (fun v9 M9 hq9 => ?_)
  obtain ⟨rfl, e9⟩ := hq9
  rw [e9]; clear e9
  refine J_if_ne hC dX5_adds_5 (tgt := 14) (by decide) (fun c5 => ?_) (fun c5 => ?_)
  · have hwho : (isIx who (sN S 0)) = true := bz_ne0 c5
    have xwho := (isIx_ix hwho).2
    refine J_iload_n hC dX5_adds_14 rfl rfl ?_
    refine J_callS (k1 := 0) (n1 := 0) [.int kind] [.int kind] hC ls_X5_128 (ct_X5_isKind hst kind) rfl rfl (by simp only [List.map_cons, List.map_nil, rv_cat, Value.category, List.sum_cons, List.sum_nil]; decide) (by decide) rfl rfl (by decide) (by decide) dX5_adds_15 (fun E M9 h => h.elim) (fun v9 M9 hq9 => ?_)
    obtain ⟨rfl, e9⟩ := hq9
    rw [e9]; clear e9
    refine J_if_ne hC dX5_adds_18 (tgt := 27) (by decide) (fun c18 => ?_) (fun c18 => ?_)
    · have b18 : (kindOk kind) = true := bz_ne0 c18
      have K55 : ∀ (q33 : ¬ sN S 1 = 15) (hq46 : b = 1 → ¬ sN S 2 = 40), J G γ M 55 [some (rv m), some (.int who), some (.int kind), some (.int b)] [] 0 0 := by
        intro q33 hq46
        refine J_aload_n hC dX5_adds_55 rfl rfl ?_
        refine J_iconst hC dX5_adds_56 (v := 0) (by decide) ?_
        refine J_put6_0 hC lf_X5_80 a0.t dX5_adds_57 ?_
        refine J_aload_n hC dX5_adds_60 rfl rfl ?_
        refine J_get6 hC lf_X5_13 (j := 11) a0.t (v := rv (mR M m 11)) rfl dX5_adds_61 ?_
        refine J_aload_n hC dX5_adds_64 rfl rfl ?_
        refine J_get6 hC lf_X5_91 (j := 2) a0.t (v := .int (nI (sN S 1))) (congrArg (fun z => some (Value.int z)) ((up2_k _ _ _ (by decide) : mI (pI M m 0 0) m 2 = mI M m 2).trans a1.s2)) dX5_adds_65 ?_
        refine J_iload_n hC dX5_adds_68 rfl rfl ?_
        refine J_iast hC a0.a11 (j := (sN S 1)) (nI_toInt (by omega)) (Nat.lt_of_lt_of_eq (by omega) a0.l11.symm) dX5_adds_69 ?_
        refine J_aload_n hC dX5_adds_70 rfl rfl ?_
        refine J_get6 hC lf_X5_23 (j := 14) a0.t (v := rv (mR M m 14)) rfl dX5_adds_71 ?_
        refine J_aload_n hC dX5_adds_74 rfl rfl ?_
        refine J_get6 hC lf_X5_91 (j := 2) a0.t (v := .int (nI (sN S 1))) (congrArg (fun z => some (Value.int z)) ((up2_b _ _ _ _ (a0.ne (by decide) (by decide)) : mI (pI (pI M m 0 0) (mR M m 11) (sN S 1) kind) m 2 = mI (pI M m 0 0) m 2).trans ((up2_k _ _ _ (by decide) : mI (pI M m 0 0) m 2 = mI M m 2).trans a1.s2))) dX5_adds_75 ?_
        refine J_iload_n hC dX5_adds_78 rfl rfl ?_
        refine J_zast hC a0.a14 (j := (sN S 1)) (nI_toInt (by omega)) (Nat.lt_of_lt_of_eq (by omega) a0.l14.symm) hb dX5_adds_79 ?_
        refine J_aload_n hC dX5_adds_80 rfl rfl ?_
        refine J_aload_n hC dX5_adds_81 rfl rfl ?_
        refine J_get6 hC lf_X5_91 (j := 2) a0.t (v := .int (nI (sN S 1))) (congrArg (fun z => some (Value.int z)) ((up2_b _ _ _ _ (a0.ne (by decide) (by decide)) : mI (pI (pI (pI M m 0 0) (mR M m 11) (sN S 1) kind) (mR M m 14) (sN S 1) b) m 2 = mI (pI (pI M m 0 0) (mR M m 11) (sN S 1) kind) m 2).trans ((up2_b _ _ _ _ (a0.ne (by decide) (by decide)) : mI (pI (pI M m 0 0) (mR M m 11) (sN S 1) kind) m 2 = mI (pI M m 0 0) m 2).trans ((up2_k _ _ _ (by decide) : mI (pI M m 0 0) m 2 = mI M m 2).trans a1.s2)))) dX5_adds_82 ?_
        refine J_aload_n hC dX5_adds_85 rfl rfl ?_
        refine J_get6 hC lf_X5_97 (j := 5) a0.t (v := .int (sD S)) (congrArg (fun z => some (Value.int z)) ((up2_b _ _ _ _ (a0.ne (by decide) (by decide)) : mI (pI (pI (pI M m 0 0) (mR M m 11) (sN S 1) kind) (mR M m 14) (sN S 1) b) m 5 = mI (pI (pI M m 0 0) (mR M m 11) (sN S 1) kind) m 5).trans ((up2_b _ _ _ _ (a0.ne (by decide) (by decide)) : mI (pI (pI M m 0 0) (mR M m 11) (sN S 1) kind) m 5 = mI (pI M m 0 0) m 5).trans ((up2_k _ _ _ (by decide) : mI (pI M m 0 0) m 5 = mI M m 5).trans a1.s5)))) dX5_adds_86 ?_
        refine J_iload_n hC dX5_adds_89 rfl rfl ?_
        refine J_callV (k1 := 0) (n1 := 0) (kd := 6) [.int (nI (sN S 1)), .int (sD S), .int who] [.int who, .int (sD S), .int (nI (sN S 1)), rv m] hC lv_X5_132 (ct_X5_passesOn hst (M := (pI (pI (pI M m 0 0) (mR M m 11) (sN S 1) kind) (mR M m 14) (sN S 1) b)) a0 (n := nP) ((up2_b _ _ _ _ (a0.ne (by decide) (by decide)) : mI (pI (pI (pI M m 0 0) (mR M m 11) (sN S 1) kind) (mR M m 14) (sN S 1) b) m 6 = mI (pI (pI M m 0 0) (mR M m 11) (sN S 1) kind) m 6).trans ((up2_b _ _ _ _ (a0.ne (by decide) (by decide)) : mI (pI (pI M m 0 0) (mR M m 11) (sN S 1) kind) m 6 = mI (pI M m 0 0) m 6).trans ((up2_k _ _ _ (by decide) : mI (pI M m 0 0) m 6 = mI M m 6).trans a1.s6))) (by omega) (nI (sN S 1)) (sD S) who) a0.t (by decide) ⟨_, mE_6 a0.t⟩ rfl rfl rfl (by simp only [List.map_cons, List.map_nil, rv_cat, Value.category, List.sum_cons, List.sum_nil]; decide) (by decide) rfl rfl (by decide) (by decide) dX5_adds_90 (fun E M9 h => h.elim) (fun v9 M9 hq9 => ?_)
        obtain ⟨rfl, e9⟩ := hq9
        replace e9 : M9 = (pI (pI (pI (pI (pI (pI (pI M m 0 0) (mR M m 11) (sN S 1) kind) (mR M m 14) (sN S 1) b) (mR M m 15) nP (nI (sN S 1))) (mR M m 16) nP (sD S)) (mR M m 17) nP who) m 6 (nI (nP + 1))) := e9
        subst e9
        refine J_aload_n hC dX5_adds_93 rfl rfl ?_
        refine J_dup hC dX5_adds_94 (rv_cat _) ?_
        refine J_get6 hC lf_X5_91 (j := 2) a0.t (v := .int (nI (sN S 1))) (congrArg (fun z => some (Value.int z)) ((up2_k _ _ _ (by decide) : mI (pI (pI (pI (pI (pI (pI (pI M m 0 0) (mR M m 11) (sN S 1) kind) (mR M m 14) (sN S 1) b) (mR M m 15) nP (nI (sN S 1))) (mR M m 16) nP (sD S)) (mR M m 17) nP who) m 6 (nI (nP + 1))) m 2 = mI (pI (pI (pI (pI (pI (pI M m 0 0) (mR M m 11) (sN S 1) kind) (mR M m 14) (sN S 1) b) (mR M m 15) nP (nI (sN S 1))) (mR M m 16) nP (sD S)) (mR M m 17) nP who) m 2).trans ((up2_b _ _ _ _ (a0.ne (by decide) (by decide)) : mI (pI (pI (pI (pI (pI (pI M m 0 0) (mR M m 11) (sN S 1) kind) (mR M m 14) (sN S 1) b) (mR M m 15) nP (nI (sN S 1))) (mR M m 16) nP (sD S)) (mR M m 17) nP who) m 2 = mI (pI (pI (pI (pI (pI M m 0 0) (mR M m 11) (sN S 1) kind) (mR M m 14) (sN S 1) b) (mR M m 15) nP (nI (sN S 1))) (mR M m 16) nP (sD S)) m 2).trans ((up2_b _ _ _ _ (a0.ne (by decide) (by decide)) : mI (pI (pI (pI (pI (pI M m 0 0) (mR M m 11) (sN S 1) kind) (mR M m 14) (sN S 1) b) (mR M m 15) nP (nI (sN S 1))) (mR M m 16) nP (sD S)) m 2 = mI (pI (pI (pI (pI M m 0 0) (mR M m 11) (sN S 1) kind) (mR M m 14) (sN S 1) b) (mR M m 15) nP (nI (sN S 1))) m 2).trans ((up2_b _ _ _ _ (a0.ne (by decide) (by decide)) : mI (pI (pI (pI (pI M m 0 0) (mR M m 11) (sN S 1) kind) (mR M m 14) (sN S 1) b) (mR M m 15) nP (nI (sN S 1))) m 2 = mI (pI (pI (pI M m 0 0) (mR M m 11) (sN S 1) kind) (mR M m 14) (sN S 1) b) m 2).trans ((up2_b _ _ _ _ (a0.ne (by decide) (by decide)) : mI (pI (pI (pI M m 0 0) (mR M m 11) (sN S 1) kind) (mR M m 14) (sN S 1) b) m 2 = mI (pI (pI M m 0 0) (mR M m 11) (sN S 1) kind) m 2).trans ((up2_b _ _ _ _ (a0.ne (by decide) (by decide)) : mI (pI (pI M m 0 0) (mR M m 11) (sN S 1) kind) m 2 = mI (pI M m 0 0) m 2).trans ((up2_k _ _ _ (by decide) : mI (pI M m 0 0) m 2 = mI M m 2).trans a1.s2)))))))) dX5_adds_95 ?_
        refine J_iconst hC dX5_adds_98 (v := 1) (by decide) ?_
        refine J_iadd hC dX5_adds_99 ?_
        refine J_put6_2 hC lf_X5_91 a0.t dX5_adds_100 ?_
        obtain ⟨M2, eM2⟩ : ∃ z, z = (pI (pI (pI (pI (pI (pI (pI (pI M m 0 0) (mR M m 11) (sN S 1) kind) (mR M m 14) (sN S 1) b) (mR M m 15) nP (nI (sN S 1))) (mR M m 16) nP (sD S)) (mR M m 17) nP who) m 6 (nI (nP + 1))) m 2 ((nI (sN S 1)) + 1)) := ⟨_, rfl⟩
        rw [← eM2]
        rw [nI_1] at eM2
        have hn15 : sN S 1 < 15 := by omega
        have hM2 : MAt M2 m (addW S who kind b) t := by rw [eM2]; exact ⟨a0, _, _, _, MA1.of_v (Vw.sc (M := (pI (pI (pI (pI (pI (pI (pI M m 0 0) (mR M m 11) (sN S 1) kind) (mR M m 14) (sN S 1) b) (mR M m 15) nP (nI (sN S 1))) (mR M m 16) nP (sD S)) (mR M m 17) nP who) m 6 (nI (nP + 1)))) a0 (Vw.sc (M := (pI (pI (pI (pI (pI (pI M m 0 0) (mR M m 11) (sN S 1) kind) (mR M m 14) (sN S 1) b) (mR M m 15) nP (nI (sN S 1))) (mR M m 16) nP (sD S)) (mR M m 17) nP who)) a0 (Vw.arr (M := (pI (pI (pI (pI (pI M m 0 0) (mR M m 11) (sN S 1) kind) (mR M m 14) (sN S 1) b) (mR M m 15) nP (nI (sN S 1))) (mR M m 16) nP (sD S))) a0 (Vw.arr (M := (pI (pI (pI (pI M m 0 0) (mR M m 11) (sN S 1) kind) (mR M m 14) (sN S 1) b) (mR M m 15) nP (nI (sN S 1)))) a0 (Vw.arr (M := (pI (pI (pI M m 0 0) (mR M m 11) (sN S 1) kind) (mR M m 14) (sN S 1) b)) a0 (Vw.arr (M := (pI (pI M m 0 0) (mR M m 11) (sN S 1) kind)) a0 (Vw.arr (M := (pI M m 0 0)) a0 (Vw.sc (M := M) a0 (Vw.rf M m) 0 0) 11 (by decide) (by decide) (sN S 1) kind) 14 (by decide) (by decide) (sN S 1) b) 15 (by decide) (by decide) nP (nI (sN S 1))) 16 (by decide) (by decide) nP (sD S)) 17 (by decide) (by decide) nP who) 6 (nI (nP + 1))) 2 (nI (sN S 1 + 1))) (MA1v.addw a1.v hn15 hb), bR, bS, bt⟩
        have hF2 : Fr pM M M2 := by rw [eM2]; exact (Fr.trans (Fr.trans (Fr.trans (Fr.trans (Fr.trans (Fr.trans (Fr.trans (Fr.trans (Fr.rf pM M) (Fr.pI (a0.fm))) (Fr.pI (a0.fa (by decide) (by decide)))) (Fr.pI (a0.fa (by decide) (by decide)))) (Fr.pI (a0.fa (by decide) (by decide)))) (Fr.pI (a0.fa (by decide) (by decide)))) (Fr.pI (a0.fa (by decide) (by decide)))) (Fr.pI (a0.fm))) (Fr.pI (a0.fm)))
        have hT2 : mI M2 m 0 = 0 := by rw [eM2]; exact ((up2_k _ _ _ (by decide)).trans ((up2_k _ _ _ (by decide)).trans ((up2_b _ _ _ _ (a0.ne (by decide) (by decide))).trans ((up2_b _ _ _ _ (a0.ne (by decide) (by decide))).trans ((up2_b _ _ _ _ (a0.ne (by decide) (by decide))).trans ((up2_b _ _ _ _ (a0.ne (by decide) (by decide))).trans ((up2_b _ _ _ _ (a0.ne (by decide) (by decide))).trans (up2_same _ _ _ _))))))))
        have h22 : mI M2 m 2 = nI (sN S 1 + 1) := by rw [eM2]; exact up2_same _ _ _ _
        have hsub : nI (sN S 1 + 1) - 1 = nI (sN S 1) := by rw [← nI_1, nI_p1s1]
        have b0 := hM2.1
        have hWn : sN (addW S who kind b) 1 = sN S 1 + 1 := addW_N1 _ _ _ _
        have hWP : sN (addW S who kind b) 2 = sN S 2 := addW_N2 _ _ _ _
        have hvn : isIx (nI (sN S 1)) (sN (addW S who kind b) 1) = true := by rw [hWn]; exact isIx_of (by omega) (by omega)
        have hW1 : sT (addW S who kind b) 1 (sN S 1) = [] := by rw [addW_T]; simp
        have hW2 : sT (addW S who kind b) 2 (sN S 1) = [] := by rw [addW_T]; simp
        refine J_iload_n hC dX5_adds_103 rfl rfl ?_
        refine J_if_eq hC dX5_adds_104 (tgt := 129) (by decide) (fun c104 => ?_) (fun c104 => ?_)
        · refine J_aload_n hC dX5_adds_129 rfl rfl ?_
          refine J_get6 hC lf_X5_91 (j := 2) b0.t (v := .int (nI (sN S 1 + 1))) (congrArg (fun z => some (Value.int z)) h22) dX5_adds_130 ?_
          refine J_iconst hC dX5_adds_133 (v := 1) (by decide) ?_
          refine J_isub hC dX5_adds_134 ?_
          rw [hsub]
          refine J_iret hC (by decide) (by decide) dX5_adds_135 ?_
          have hb0 : b = 0 := c104
          refine op_at (S1 := addV S who kind) ?_ (by have h8 := hM2.up hlt; rw [hb0, addW_0] at h8; exact h8) hF2 hT2
          rw [if_neg (by rw [hb0]; decide)]
          unfold oBringIn
          rw [if_neg (by rw [hwho]; simp), if_neg (by rw [b18]; simp), if_neg q33]
        · have hb1 : b = 1 := hb.resolve_left c104
          have hP40 : sN S 2 < 40 := by (have := hq46 hb1; omega)
          refine J_aload_n hC dX5_adds_107 rfl rfl ?_
          refine J_aload_n hC dX5_adds_108 rfl rfl ?_
          refine J_get6 hC lf_X5_91 (j := 2) b0.t (v := .int (nI (sN S 1 + 1))) (congrArg (fun z => some (Value.int z)) h22) dX5_adds_109 ?_
          refine J_iconst hC dX5_adds_112 (v := 1) (by decide) ?_
          refine J_isub hC dX5_adds_113 ?_
          rw [hsub]
          refine J_callV (k1 := 0) (n1 := 0) (kd := 6) [.int (nI (sN S 1))] [.int (nI (sN S 1)), rv m] hC lv_X5_136 (ct_X5_issues hst hM2.w.1 (nI (sN S 1)) hvn (by rw [ix_nI (by omega), hW1]; simp) (by rw [ix_nI (by omega), hW1]; simp) (by omega) (by rw [hWP]; exact hP40)) b0.t (by decide) ⟨_, mE_6 b0.t⟩ rfl rfl rfl (by simp only [List.map_cons, List.map_nil, rv_cat, Value.category, List.sum_cons, List.sum_nil]; decide) (by decide) rfl rfl (by decide) (by decide) dX5_adds_114 (fun E M9 h => h.elim) (fun v9 M9 hq9 => ?_)
          obtain ⟨rfl, hu9⟩ := hq9
          rw [hb1, ix_nI (by omega)] at hu9
          have d0 := hu9.1.1
          have h92 : mI M9 m 2 = nI (sN S 1 + 1) := by rw [hu9.1.n1, issueQ_N1, addW_N1]
          refine J_pop hC dX5_adds_117 rfl ?_
          have hI2 : sT (issueQ (addW S who kind 1) (sN S 1)) 2 (sN S 1) = [] := by (rw [issueQ_T2, ← hb1]; exact hW2)
          refine J_aload_n hC dX5_adds_118 rfl rfl ?_
          refine J_aload_n hC dX5_adds_119 rfl rfl ?_
          refine J_get6 hC lf_X5_91 (j := 2) d0.t (v := .int (nI (sN S 1 + 1))) (congrArg (fun z => some (Value.int z)) h92) dX5_adds_120 ?_
          refine J_iconst hC dX5_adds_123 (v := 1) (by decide) ?_
          refine J_isub hC dX5_adds_124 ?_
          rw [hsub]
          refine J_iconst hC dX5_adds_125 (v := 1) (by decide) ?_
          refine J_callV (k1 := 0) (n1 := 0) (kd := 6) [.int (nI (sN S 1)), .int 1] [.int 1, .int (nI (sN S 1)), rv m] hC lv_X5_139 (ct_X5_setsRoad hst hu9.1 (nI (sN S 1)) 1 (by rw [issueQ_N1, addW_N1]; exact isIx_of (by omega) (by omega)) (by rw [ix_nI (by omega), hI2]; simp) (by rw [ix_nI (by omega), hI2]; simp) (by omega) (Or.inr rfl)) d0.t (by decide) ⟨_, mE_6 d0.t⟩ rfl rfl rfl (by simp only [List.map_cons, List.map_nil, rv_cat, Value.category, List.sum_cons, List.sum_nil]; decide) (by decide) rfl rfl (by decide) (by decide) dX5_adds_126 (fun E M9 h => h.elim) (fun v9 M10 hq9 => ?_)
          obtain ⟨rfl, hu10⟩ := hq9
          rw [ix_nI (by omega)] at hu10
          have g0 := hu10.1.1
          have h102 : mI M10 m 2 = nI (sN S 1 + 1) := by (rw [hu10.1.n1, sN_uT, issueQ_N1, addW_N1])
          refine J_aload_n hC dX5_adds_129 rfl rfl ?_
          refine J_get6 hC lf_X5_91 (j := 2) g0.t (v := .int (nI (sN S 1 + 1))) (congrArg (fun z => some (Value.int z)) h102) dX5_adds_130 ?_
          refine J_iconst hC dX5_adds_133 (v := 1) (by decide) ?_
          refine J_isub hC dX5_adds_134 ?_
          rw [hsub]
          refine J_iret hC (by decide) (by decide) dX5_adds_135 ?_
          refine op_add ?_ hlt hF2 hT2 hu9 hu10
          rw [if_pos hb1]
          unfold oRegister
          rw [if_neg (by rw [hwho]; simp), if_neg (by rw [b18]; simp), if_neg (by rintro (q | q); exact q33 q; exact hq46 hb1 q)]
      refine J_aload_n hC dX5_adds_27 rfl rfl ?_
      refine J_get6 hC lf_X5_91 (j := 2) a0.t (v := .int (nI (sN S 1))) (congrArg (fun z => some (Value.int z)) a1.s2) dX5_adds_28 ?_
      refine J_bipush hC dX5_adds_31 (v := 15) (by decide) ?_
      refine J_icmp_eq hC dX5_adds_33 (tgt := 49) (by decide) (fun c33 => ?_) (fun c33 => ?_)
      · have q33 : (sN S 1) = 15 := (nI_eq (by omega) (by omega)).mp (show nI (sN S 1) = nI 15 from c33)
        refine J_aload_n hC dX5_adds_49 rfl rfl ?_
        refine J_iconst hC dX5_adds_50 (v := 3) (by decide) ?_
        refine J_callV (k1 := 0) (n1 := 0) (kd := 6) [.int 3] [.int 3, rv m] hC lv_X5_116 (ct_X5_fails hst (M := M) a0 3) a0.t (by decide) ⟨_, mE_6 a0.t⟩ rfl rfl rfl (by simp only [List.map_cons, List.map_nil, rv_cat, Value.category, List.sum_cons, List.sum_nil]; decide) (by decide) rfl rfl (by decide) (by decide) dX5_adds_51 (fun E M9 h => h.elim) (fun v9 M9 hq9 => ?_)
        obtain ⟨rfl, rfl⟩ := hq9
        refine J_iret hC (by decide) (by decide) dX5_adds_54 ?_
        refine op_no hM hlt (k := 3) ?_ rfl
        first | (split <;> simp [oRegister, oBringIn, hwho, b18, q33]; done) | (rw [if_pos (hb.resolve_left c37)]; simp [oRegister, hwho, b18, q46])
      · have q33 : ¬ (sN S 1) = 15 := fun e => c33 (show nI (sN S 1) = nI 15 from congrArg nI e)
        refine J_iload_n hC dX5_adds_36 rfl rfl ?_
        refine J_if_eq hC dX5_adds_37 (tgt := 55) (by decide) (fun c37 => ?_) (fun c37 => ?_)
        · exact K55 q33 (fun e => by first | exact q46 | exact absurd (e.symm.trans c37) (by decide))
        · refine J_aload_n hC dX5_adds_40 rfl rfl ?_
          refine J_get6 hC lf_X5_94 (j := 4) a0.t (v := .int (nI (sN S 2))) (congrArg (fun z => some (Value.int z)) a1.s4) dX5_adds_41 ?_
          refine J_bipush hC dX5_adds_44 (v := 40) (by decide) ?_
          refine J_icmp_ne hC dX5_adds_46 (tgt := 55) (by decide) (fun c46 => ?_) (fun c46 => ?_)
          · have q46 : ¬ (sN S 2) = 40 := fun e => c46 (show nI (sN S 2) = nI 40 from congrArg nI e)
            exact K55 q33 (fun e => by first | exact q46 | exact absurd (e.symm.trans c37) (by decide))
          · have q46 : (sN S 2) = 40 := (nI_eq (by omega) (by omega)).mp (show nI (sN S 2) = nI 40 from (nn c46))
            refine J_aload_n hC dX5_adds_49 rfl rfl ?_
            refine J_iconst hC dX5_adds_50 (v := 3) (by decide) ?_
            refine J_callV (k1 := 0) (n1 := 0) (kd := 6) [.int 3] [.int 3, rv m] hC lv_X5_116 (ct_X5_fails hst (M := M) a0 3) a0.t (by decide) ⟨_, mE_6 a0.t⟩ rfl rfl rfl (by simp only [List.map_cons, List.map_nil, rv_cat, Value.category, List.sum_cons, List.sum_nil]; decide) (by decide) rfl rfl (by decide) (by decide) dX5_adds_51 (fun E M9 h => h.elim) (fun v9 M9 hq9 => ?_)
            obtain ⟨rfl, rfl⟩ := hq9
            refine J_iret hC (by decide) (by decide) dX5_adds_54 ?_
            refine op_no hM hlt (k := 3) ?_ rfl
            first | (split <;> simp [oRegister, oBringIn, hwho, b18, q33]; done) | (rw [if_pos (hb.resolve_left c37)]; simp [oRegister, hwho, b18, q46])
    · have b18 : (kindOk kind) = false := bz_eq0 (nn c18)
      refine J_aload_n hC dX5_adds_21 rfl rfl ?_
      refine J_iconst hC dX5_adds_22 (v := 2) (by decide) ?_
      refine J_callV (k1 := 0) (n1 := 0) (kd := 6) [.int 2] [.int 2, rv m] hC lv_X5_116 (ct_X5_fails hst (M := M) a0 2) a0.t (by decide) ⟨_, mE_6 a0.t⟩ rfl rfl rfl (by simp only [List.map_cons, List.map_nil, rv_cat, Value.category, List.sum_cons, List.sum_nil]; decide) (by decide) rfl rfl (by decide) (by decide) dX5_adds_23 (fun E M9 h => h.elim) (fun v9 M9 hq9 => ?_)
      obtain ⟨rfl, rfl⟩ := hq9
      refine J_iret hC (by decide) (by decide) dX5_adds_26 ?_
      refine op_no hM hlt (k := 2) ?_ rfl
      split <;> simp [oRegister, oBringIn, hwho, b18]
  · have nwho : (isIx who (sN S 0)) = false := bz_eq0 (nn c5)
    refine J_aload_n hC dX5_adds_8 rfl rfl ?_
    refine J_iconst hC dX5_adds_9 (v := 1) (by decide) ?_
    refine J_callV (k1 := 0) (n1 := 0) (kd := 6) [.int 1] [.int 1, rv m] hC lv_X5_116 (ct_X5_fails hst (M := M) a0 1) a0.t (by decide) ⟨_, mE_6 a0.t⟩ rfl rfl rfl (by simp only [List.map_cons, List.map_nil, rv_cat, Value.category, List.sum_cons, List.sum_nil]; decide) (by decide) rfl rfl (by decide) (by decide) dX5_adds_10 (fun E M9 h => h.elim) (fun v9 M9 hq9 => ?_)
    obtain ⟨rfl, rfl⟩ := hq9
    refine J_iret hC (by decide) (by decide) dX5_adds_13 ?_
    refine op_no hM hlt (k := 1) ?_ rfl
    split <;> simp [oRegister, oBringIn, nwho]
