theorem up2_idT (f : Nat → Nat → Tl) {a b : Nat} (k : Nat) (v : Tl) (h : b ≠ a) : up2 f a k v b = f b := up2_row f k v h
theorem ct_X5_admit {G : Gt} {l : Launch} (hst : l.stackTraces = false) {M : Mm} {m : Nat} {S : St} {t : Nat} (hM : MAt M m S t) (hI : Inv S t) (hlt : t < 512) (v : Int32) : Ct G l yX5_admit cX5_admit 2 (some .int) 4 M [rv m, .int v] 0 0 (Op M m t (oAdmit S v)) (noX) := by
  obtain ⟨a0, nP, nR, nS, a1, bR, bS, bt⟩ := id hM
  have bPs := a1.bPs; have bK := a1.bK; have bV := a1.bV; have bPl := a1.bP; have bN := a1.bN
  refine Ct_intro (own := RX5) (nm := admN) (by decide +kernel) rfl rfl hst (fun w hw => by simp only [List.mem_cons, List.not_mem_nil, or_false] at hw; rcases hw with rfl | rfl <;> first | rfl | exact rv_cat _) (Nat.le_of_ble_eq_true rfl) (fun γ hC => ?_)
  show J G γ M 0 [some (rv m), some (.int v)] [] 0 0
  refine J_aload_n hC dX5_admit_0 rfl rfl ?_
  refine J_iload_n hC dX5_admit_1 rfl rfl ?_
  refine J_callV (k1 := 0) (n1 := 0) (kd := 6) [.int v] [.int v, rv m] hC lv_X5_147 (ct_X5_isVehicle hst hM v) a0.t (by decide) ⟨_, mE_6 a0.t⟩ rfl rfl rfl (by simp only [List.map_cons, List.map_nil, rv_cat, Value.category, List.sum_cons, List.sum_nil]; decide) (by decide) rfl rfl (by decide) (by decide) dX5_admit_2 (fun E M9 h => h.elim) (fun v9 M9 hq9 => ?_)
  obtain ⟨rfl, e9⟩ := hq9
  rw [e9]; clear e9
  refine J_if_ne hC dX5_admit_5 (tgt := 14) (by decide) (fun c5 => ?_) (fun c5 => ?_)
  · have hv : (isIx v (sN S 1)) = true := bz_ne0 c5
    have xv := (isIx_ix hv).2
    refine J_aload_n hC dX5_admit_14 rfl rfl ?_
    refine J_get6 hC lf_X5_23 (j := 14) a0.t (v := rv (mR M m 14)) rfl dX5_admit_15 ?_
    refine J_iload_n hC dX5_admit_18 rfl rfl ?_
    refine J_zald hC a0.a14 (j := (ix v)) (isIx_ix hv).1 (by rw [a0.l14]; omega) dX5_admit_19 ?_
    rw [show mI M (mR M m 14) (ix v) = sV S (ix v) 6 from (a1.adm _ xv)]
    refine J_if_eq hC dX5_admit_20 (tgt := 29) (by decide) (fun c20 => ?_) (fun c20 => ?_)
    · have s20 : ¬ sV S (ix v) 6 = 1 := fun e => by rw [c20] at e; exact absurd e (by decide)
      have K53 : ∀ (s35 : ¬ sV S (ix v) 7 = 1) (q44 : ¬ sN S 2 = 40), J G γ M 53 [some (rv m), some (.int v)] [] 0 0 := by
        intro s35 q44
        refine J_aload_n hC dX5_admit_53 rfl rfl ?_
        refine J_iconst hC dX5_admit_54 (v := 0) (by decide) ?_
        refine J_put6_0 hC lf_X5_80 a0.t dX5_admit_55 ?_
        refine J_aload_n hC dX5_admit_58 rfl rfl ?_
        refine J_get6 hC lf_X5_23 (j := 14) a0.t (v := rv (mR M m 14)) rfl dX5_admit_59 ?_
        refine J_iload_n hC dX5_admit_62 rfl rfl ?_
        refine J_iconst hC dX5_admit_63 (v := 1) (by decide) ?_
        refine J_zast hC a0.a14 (j := (ix v)) (isIx_ix hv).1 (Nat.lt_of_lt_of_eq (by omega) a0.l14.symm) (by decide) dX5_admit_64 ?_
        obtain ⟨M2, eM2⟩ : ∃ z, z = (pI (pI M m 0 0) (mR M m 14) (ix v) 1) := ⟨_, rfl⟩
        rw [← eM2]
        have hw2 : MAw M2 m (uV S (ix v) 6 1) t (2 * t) := by rw [eM2]; exact ⟨a0, _, _, _, MA1.of_v (Vw.arr (M := (pI M m 0 0)) a0 (Vw.sc (M := M) a0 (Vw.rf M m) 0 0) 14 (by decide) (by decide) (ix v) 1) (MA1v.adm1 a1.v), bR, bS⟩
        have hF2 : Fr pM M M2 := by rw [eM2]; exact (Fr.trans (Fr.trans (Fr.rf pM M) (Fr.pI (a0.fm))) (Fr.pI (a0.fa (by decide) (by decide))))
        have hT2 : mI M2 m 0 = 0 := by rw [eM2]; exact ((up2_b _ _ _ _ (a0.ne (by decide) (by decide))).trans (up2_same _ _ _ _))
        have b0 := hw2.1
        refine J_aload_n hC dX5_admit_65 rfl rfl ?_
        refine J_iload_n hC dX5_admit_66 rfl rfl ?_
        refine J_iconst hC dX5_admit_67 (v := 1) (by decide) ?_
        refine J_callV (k1 := 0) (n1 := 0) (kd := 6) [.int v, .int 1] [.int 1, .int v, rv m] hC lv_X5_139 (ct_X5_setsRoad hst hw2 v 1 (by simp only [sN_uV]; exact hv) (by simp only [sT_uV, sD_uV]; exact (hI.r xv (by decide)).1) (by simp only [sT_uV]; exact (hI.r xv (by decide)).2) (by omega) (Or.inr rfl)) b0.t (by decide) ⟨_, mE_6 b0.t⟩ rfl rfl rfl (by simp only [List.map_cons, List.map_nil, rv_cat, Value.category, List.sum_cons, List.sum_nil]; decide) (by decide) rfl rfl (by decide) (by decide) dX5_admit_68 (fun E M9 h => h.elim) (fun v9 M8 hq9 => ?_)
        obtain ⟨rfl, hu8⟩ := hq9
        have e0 := hu8.1.1
        refine J_aload_n hC dX5_admit_71 rfl rfl ?_
        refine J_iload_n hC dX5_admit_72 rfl rfl ?_
        refine J_callV (k1 := 0) (n1 := 0) (kd := 6) [.int v] [.int v, rv m] hC lv_X5_136 (ct_X5_issues hst hu8.1 v (by simp only [sN_uV, sN_uT]; exact hv) (by simp only [sT_uV, sT_uT, sD_uV, sD_uT]; rw [up2_row _ _ _ (by decide)]; exact (hI.r xv (by decide)).1) (by simp only [sT_uV, sT_uT]; rw [up2_row _ _ _ (by decide)]; exact (hI.r xv (by decide)).2) (by omega) (by simp only [sN_uV, sN_uT]; omega)) e0.t (by decide) ⟨_, mE_6 e0.t⟩ rfl rfl rfl (by simp only [List.map_cons, List.map_nil, rv_cat, Value.category, List.sum_cons, List.sum_nil]; decide) (by decide) rfl rfl (by decide) (by decide) dX5_admit_73 (fun E M9 h => h.elim) (fun v9 M9 hq9 => ?_)
        obtain ⟨rfl, hu9⟩ := hq9
        rw [onRoad_eq] at hu9
        simp only [sN_uV, sN_uT]
        refine J_iret hC (by decide) (by decide) dX5_admit_76 ?_
        refine op_mw (S1 := onRoad S (ix v)) ?_ hF2 hT2 (hu8.trans hu9) (by omega) (by omega) hlt
        unfold oAdmit
        rw [if_neg (by rw [hv]; simp), if_neg s20, if_neg (by rintro (q | q); exact s35 q; exact q44 q)]
      refine J_aload_n hC dX5_admit_29 rfl rfl ?_
      refine J_get6 hC lf_X5_19 (j := 13) a0.t (v := rv (mR M m 13)) rfl dX5_admit_30 ?_
      refine J_iload_n hC dX5_admit_33 rfl rfl ?_
      refine J_zald hC a0.a13 (j := (ix v)) (isIx_ix hv).1 (by rw [a0.l13]; omega) dX5_admit_34 ?_
      rw [show mI M (mR M m 13) (ix v) = sV S (ix v) 7 from (a1.scr _ xv)]
      refine J_if_ne hC dX5_admit_35 (tgt := 47) (by decide) (fun c35 => ?_) (fun c35 => ?_)
      · have s35 : sV S (ix v) 7 = 1 := (a1.sc _ xv).resolve_left c35
        refine J_aload_n hC dX5_admit_47 rfl rfl ?_
        refine J_iconst hC dX5_admit_48 (v := 3) (by decide) ?_
        refine J_callV (k1 := 0) (n1 := 0) (kd := 6) [.int 3] [.int 3, rv m] hC lv_X5_116 (ct_X5_fails hst (M := M) a0 3) a0.t (by decide) ⟨_, mE_6 a0.t⟩ rfl rfl rfl (by simp only [List.map_cons, List.map_nil, rv_cat, Value.category, List.sum_cons, List.sum_nil]; decide) (by decide) rfl rfl (by decide) (by decide) dX5_admit_49 (fun E M9 h => h.elim) (fun v9 M9 hq9 => ?_)
        obtain ⟨rfl, rfl⟩ := hq9
        refine J_iret hC (by decide) (by decide) dX5_admit_52 ?_
        refine op_no hM hlt (k := 3) ?_ rfl
        simp [oAdmit, hv, s20, s35]
      · have s35 : ¬ sV S (ix v) 7 = 1 := fun e => by rw [(nn c35)] at e; exact absurd e (by decide)
        refine J_aload_n hC dX5_admit_38 rfl rfl ?_
        refine J_get6 hC lf_X5_94 (j := 4) a0.t (v := .int (nI (sN S 2))) (congrArg (fun z => some (Value.int z)) a1.s4) dX5_admit_39 ?_
        refine J_bipush hC dX5_admit_42 (v := 40) (by decide) ?_
        refine J_icmp_ne hC dX5_admit_44 (tgt := 53) (by decide) (fun c44 => ?_) (fun c44 => ?_)
        · have q44 : ¬ (sN S 2) = 40 := fun e => c44 (show nI (sN S 2) = nI 40 from congrArg nI e)
          exact K53 s35 q44
        · have q44 : (sN S 2) = 40 := (nI_eq (by omega) (by omega)).mp (show nI (sN S 2) = nI 40 from (nn c44))
          refine J_aload_n hC dX5_admit_47 rfl rfl ?_
          refine J_iconst hC dX5_admit_48 (v := 3) (by decide) ?_
          refine J_callV (k1 := 0) (n1 := 0) (kd := 6) [.int 3] [.int 3, rv m] hC lv_X5_116 (ct_X5_fails hst (M := M) a0 3) a0.t (by decide) ⟨_, mE_6 a0.t⟩ rfl rfl rfl (by simp only [List.map_cons, List.map_nil, rv_cat, Value.category, List.sum_cons, List.sum_nil]; decide) (by decide) rfl rfl (by decide) (by decide) dX5_admit_49 (fun E M9 h => h.elim) (fun v9 M9 hq9 => ?_)
          obtain ⟨rfl, rfl⟩ := hq9
          refine J_iret hC (by decide) (by decide) dX5_admit_52 ?_
          refine op_no hM hlt (k := 3) ?_ rfl
          simp [oAdmit, hv, s20, s35, q44]
    · have s20 : sV S (ix v) 6 = 1 := (a1.ad _ xv).resolve_left c20
      refine J_aload_n hC dX5_admit_23 rfl rfl ?_
      refine J_iconst hC dX5_admit_24 (v := 2) (by decide) ?_
      refine J_callV (k1 := 0) (n1 := 0) (kd := 6) [.int 2] [.int 2, rv m] hC lv_X5_116 (ct_X5_fails hst (M := M) a0 2) a0.t (by decide) ⟨_, mE_6 a0.t⟩ rfl rfl rfl (by simp only [List.map_cons, List.map_nil, rv_cat, Value.category, List.sum_cons, List.sum_nil]; decide) (by decide) rfl rfl (by decide) (by decide) dX5_admit_25 (fun E M9 h => h.elim) (fun v9 M9 hq9 => ?_)
      obtain ⟨rfl, rfl⟩ := hq9
      refine J_iret hC (by decide) (by decide) dX5_admit_28 ?_
      refine op_no hM hlt (k := 2) ?_ rfl
      simp [oAdmit, hv, s20]
  · have nv : (isIx v (sN S 1)) = false := bz_eq0 (nn c5)
    refine J_aload_n hC dX5_admit_8 rfl rfl ?_
    refine J_iconst hC dX5_admit_9 (v := 1) (by decide) ?_
    refine J_callV (k1 := 0) (n1 := 0) (kd := 6) [.int 1] [.int 1, rv m] hC lv_X5_116 (ct_X5_fails hst (M := M) a0 1) a0.t (by decide) ⟨_, mE_6 a0.t⟩ rfl rfl rfl (by simp only [List.map_cons, List.map_nil, rv_cat, Value.category, List.sum_cons, List.sum_nil]; decide) (by decide) rfl rfl (by decide) (by decide) dX5_admit_10 (fun E M9 h => h.elim) (fun v9 M9 hq9 => ?_)
    obtain ⟨rfl, rfl⟩ := hq9
    refine J_iret hC (by decide) (by decide) dX5_admit_13 ?_
    refine op_no hM hlt (k := 1) ?_ rfl
    simp [oAdmit, nv]
