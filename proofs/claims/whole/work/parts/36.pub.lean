theorem MA1.eq {M : Mm} {m : Nat} {A B : St} {nP nR nS : Nat} (h : MA1 M m B nP nR nS) (hN : sN A = sN B) (hD : sD A = sD B) (hC : sC A = sC B) (hP : sP A = sP B) (hV : sV A = sV B) (hL : sL A = sL B) (hQ : sQ A = sQ B) (hO : sO A = sO B) (h0 : sT A 0 = sT B 0) (h1 : sT A 1 = sT B 1) (h2 : sT A 2 = sT B 2) : MA1 M m A nP nR nS := by
  unfold MA1 at *
  rw [hN, hD, hC, hP, hV, hL, hQ, hO, h0, h1, h2]
  exact h
theorem MAw.eq {M : Mm} {m : Nat} {A B : St} {r s : Nat} (h : MAw M m B r s) (hN : sN A = sN B) (hD : sD A = sD B) (hC : sC A = sC B) (hP : sP A = sP B) (hV : sV A = sV B) (hL : sL A = sL B) (hQ : sQ A = sQ B) (hO : sO A = sO B) (h0 : sT A 0 = sT B 0) (h1 : sT A 1 = sT B 1) (h2 : sT A 2 = sT B 2) : MAw M m A r s := by
  obtain ⟨a, nP, nR, nS, e, f⟩ := h
  exact ⟨a, nP, nR, nS, e.eq hN hD hC hP hV hL hQ hO h0 h1 h2, f⟩
theorem nI_ne1 {n : Nat} (h : n < 2 ^ 31) : ¬ nI n = -1 := fun e => by
  have h1 := nI_toInt h
  rw [e] at h1
  have h2 : (-1 : Int32).toInt = -1 := by decide
  omega
theorem Inv.mounted {S : St} {t v : Nat} (hI : Inv S t) (hv : v < sN S 1) (h : ¬ lastV (sT S 1 v) = -1) : isIx (lastV (sT S 1 v)) (sN S 2) = true ∧ lastV (sT S 3 (ix (lastV (sT S 1 v)))) = nI v ∧ sQ S (ix (lastV (sT S 1 v))) 2 = -1 := by
  have bV := hI.bV
  have hne : sT S 1 v ≠ [] := fun e => h (by rw [e]; rfl)
  obtain ⟨e, he, h1⟩ := lastV_mem hne
  have h2 : isIx (lastV (sT S 1 v)) (sN S 2) = true := by
    rw [h1] at h ⊢
    exact (hI.t1 v hv e he).resolve_left h
  have h3 := (isIx_ix h2).2
  have h4 : lastV (sT S 3 (ix (lastV (sT S 1 v)))) = nI v := by
    rw [← hI.lk3 h3]
    exact (hI.ex v hv _ h3 _).mp (by rw [hI.lk hv (by decide)]; exact isIx_nI h2)
  refine ⟨h2, h4, Classical.byContradiction (fun q => ?_)⟩
  have h5 := (hI.kq _ h3 q).1
  rw [h4] at h5
  exact nI_ne1 (by omega) h5
theorem up2_id {f : Nat → Nat → Int32} {a k : Nat} {v : Int32} (h : f a k = v) : up2 f a k v = f := by
  funext b j
  unfold up2
  by_cases e : b = a
  · rw [if_pos e]
    by_cases e2 : j = k
    · rw [if_pos e2, e, e2, h]
    · rw [if_neg e2]
  · rw [if_neg e]
theorem mountQ_T0 (S : St) (p v : Nat) : sT (mountQ S p v) 0 = sT S 0 := by
  unfold mountQ
  simp only [sT_uN, sT_uD, sT_uC, sT_uP, sT_uV, sT_uL, sT_uT, sT_uQ, sT_uO]
  rw [up2_row _ _ _ (by decide), up2_row _ _ _ (by decide)]
theorem mountQ_T2 (S : St) (p v : Nat) : sT (mountQ S p v) 2 = sT S 2 := by
  unfold mountQ
  simp only [sT_uN, sT_uD, sT_uC, sT_uP, sT_uV, sT_uL, sT_uT, sT_uQ, sT_uO]
  rw [up2_row _ _ _ (by decide), up2_row _ _ _ (by decide)]
theorem mountQ_T1 (S : St) (p v : Nat) : sT (mountQ S p v) 1 = va_up (sT S 1) v (setT (sT S 1 v) (sD S) (nI p)) := by
  unfold mountQ
  simp only [sT_uN, sT_uD, sT_uC, sT_uP, sT_uV, sT_uL, sT_uT, sT_uQ, sT_uO, sD_uN, sD_uD, sD_uC, sD_uP, sD_uV, sD_uL, sD_uT, sD_uQ, sD_uO]
  rw [up2_vT, up2_row _ _ _ (by decide)]
theorem mountQ_Q (S : St) (p v : Nat) : sQ (mountQ S p v) = up2 (sQ S) p 2 (-1) := by
  unfold mountQ
  simp only [sQ_uN, sQ_uD, sQ_uC, sQ_uP, sQ_uV, sQ_uL, sQ_uT, sQ_uQ, sQ_uO]
theorem mountQ_N (S : St) (p v : Nat) : sN (mountQ S p v) = sN S := by
  unfold mountQ
  simp only [sN_uN, sN_uD, sN_uC, sN_uP, sN_uV, sN_uL, sN_uT, sN_uQ, sN_uO]
theorem voidQ_N (S : St) (p : Nat) : sN (voidQ S p) = sN S := by
  unfold voidQ
  simp only [sN_uN, sN_uD, sN_uC, sN_uP, sN_uV, sN_uL, sN_uT, sN_uQ, sN_uO]
theorem mountQ_D (S : St) (p v : Nat) : sD (mountQ S p v) = sD S := by
  unfold mountQ
  simp only [sD_uN, sD_uD, sD_uC, sD_uP, sD_uV, sD_uL, sD_uT, sD_uQ, sD_uO]
theorem voidQ_D (S : St) (p : Nat) : sD (voidQ S p) = sD S := by
  unfold voidQ
  simp only [sD_uN, sD_uD, sD_uC, sD_uP, sD_uV, sD_uL, sD_uT, sD_uQ, sD_uO]
theorem mountQ_C (S : St) (p v : Nat) : sC (mountQ S p v) = sC S := by
  unfold mountQ
  simp only [sC_uN, sC_uD, sC_uC, sC_uP, sC_uV, sC_uL, sC_uT, sC_uQ, sC_uO]
theorem voidQ_C (S : St) (p : Nat) : sC (voidQ S p) = sC S := by
  unfold voidQ
  simp only [sC_uN, sC_uD, sC_uC, sC_uP, sC_uV, sC_uL, sC_uT, sC_uQ, sC_uO]
theorem mountQ_P (S : St) (p v : Nat) : sP (mountQ S p v) = sP S := by
  unfold mountQ
  simp only [sP_uN, sP_uD, sP_uC, sP_uP, sP_uV, sP_uL, sP_uT, sP_uQ, sP_uO]
theorem voidQ_P (S : St) (p : Nat) : sP (voidQ S p) = sP S := by
  unfold voidQ
  simp only [sP_uN, sP_uD, sP_uC, sP_uP, sP_uV, sP_uL, sP_uT, sP_uQ, sP_uO]
theorem mountQ_V (S : St) (p v : Nat) : sV (mountQ S p v) = sV S := by
  unfold mountQ
  simp only [sV_uN, sV_uD, sV_uC, sV_uP, sV_uV, sV_uL, sV_uT, sV_uQ, sV_uO]
theorem voidQ_V (S : St) (p : Nat) : sV (voidQ S p) = sV S := by
  unfold voidQ
  simp only [sV_uN, sV_uD, sV_uC, sV_uP, sV_uV, sV_uL, sV_uT, sV_uQ, sV_uO]
theorem mountQ_L (S : St) (p v : Nat) : sL (mountQ S p v) = sL S := by
  unfold mountQ
  simp only [sL_uN, sL_uD, sL_uC, sL_uP, sL_uV, sL_uL, sL_uT, sL_uQ, sL_uO]
theorem voidQ_L (S : St) (p : Nat) : sL (voidQ S p) = sL S := by
  unfold voidQ
  simp only [sL_uN, sL_uD, sL_uC, sL_uP, sL_uV, sL_uL, sL_uT, sL_uQ, sL_uO]
theorem mountQ_O (S : St) (p v : Nat) : sO (mountQ S p v) = sO S := by
  unfold mountQ
  simp only [sO_uN, sO_uD, sO_uC, sO_uP, sO_uV, sO_uL, sO_uT, sO_uQ, sO_uO]
theorem voidQ_O (S : St) (p : Nat) : sO (voidQ S p) = sO S := by
  unfold voidQ
  simp only [sO_uN, sO_uD, sO_uC, sO_uP, sO_uV, sO_uL, sO_uT, sO_uQ, sO_uO]
theorem voidQ_Q (S : St) (p : Nat) : sQ (voidQ S p) = up2 (sQ S) p 2 (-1) := by
  unfold voidQ
  simp only [sQ_uN, sQ_uD, sQ_uC, sQ_uP, sQ_uV, sQ_uL, sQ_uT, sQ_uQ, sQ_uO]
theorem voidQ_T (S : St) (p : Nat) {r : Nat} (hr : r ≠ 3) : sT (voidQ S p) r = sT S r := by
  unfold voidQ
  simp only [sT_uN, sT_uD, sT_uC, sT_uP, sT_uV, sT_uL, sT_uT, sT_uQ, sT_uO]
  exact up2_row _ _ _ hr
theorem ct_X5_putOn {G : Gt} {l : Launch} (hst : l.stackTraces = false) {M : Mm} {m : Nat} {S : St} {t : Nat} (hM : MAt M m S t) (hI : Inv S t) (hlt : t < 512) (p v : Int32) : Ct G l yX5_putOn cX5_putOn 4 (some .int) 4 M [rv m, .int p, .int v] 0 0 (Op M m t (oPutOn S p v)) (noX) := by
  obtain ⟨a0, nP, nR, nS, a1, bR, bS, bt⟩ := id hM
  have bPs := a1.bPs; have bK := a1.bK; have bV := a1.bV; have bPl := a1.bP; have bN := a1.bN
  refine Ct_intro (own := RX5) (nm := "putOn") (by decide +kernel) rfl rfl hst (fun w hw => by simp only [List.mem_cons, List.not_mem_nil, or_false] at hw; rcases hw with rfl | rfl | rfl <;> first | rfl | exact rv_cat _) (Nat.le_of_ble_eq_true rfl) (fun γ hC => ?_)
  show J G γ M 0 [some (rv m), some (.int p), some (.int v)] [] 0 0
  refine J_aload_n hC dX5_putOn_0 rfl rfl ?_
  refine J_iload_n hC dX5_putOn_1 rfl rfl ?_
  refine J_callV (k1 := 0) (n1 := 0) (kd := 6) [.int p] [.int p, rv m] hC lv_X5_202 (ct_X5_isPlate hst hM p) a0.t (by decide) ⟨_, mE_6 a0.t⟩ rfl rfl rfl (by simp only [List.map_cons, List.map_nil, rv_cat, Value.category, List.sum_cons, List.sum_nil]; decide) (by decide) rfl rfl (by decide) (by decide) dX5_putOn_2 (fun E M9 h => h.elim) (fun v9 M9 hq9 => ?_)
  obtain ⟨rfl, e9⟩ := hq9
  rw [e9]; clear e9
  refine J_if_ne hC dX5_putOn_5 (tgt := 14) (by decide) (fun c5 => ?_) (fun c5 => ?_)
  · have hp : (isIx p (sN S 2)) = true := bz_ne0 c5
    have xp := (isIx_ix hp).2
    refine J_aload_n hC dX5_putOn_14 rfl rfl ?_
    refine J_iload_n hC dX5_putOn_15 rfl rfl ?_
    refine J_callV (k1 := 0) (n1 := 0) (kd := 6) [.int v] [.int v, rv m] hC lv_X5_147 (ct_X5_isVehicle hst hM v) a0.t (by decide) ⟨_, mE_6 a0.t⟩ rfl rfl rfl (by simp only [List.map_cons, List.map_nil, rv_cat, Value.category, List.sum_cons, List.sum_nil]; decide) (by decide) rfl rfl (by decide) (by decide) dX5_putOn_16 (fun E M9 h => h.elim) (fun v9 M9 hq9 => ?_)
    obtain ⟨rfl, e9⟩ := hq9
    rw [e9]; clear e9
    refine J_if_ne hC dX5_putOn_19 (tgt := 28) (by decide) (fun c19 => ?_) (fun c19 => ?_)
    · have hv : (isIx v (sN S 1)) = true := bz_ne0 c19
      have xv := (isIx_ix hv).2
      refine J_aload_n hC dX5_putOn_28 rfl rfl ?_
      refine J_iload_n hC dX5_putOn_29 rfl rfl ?_
      refine J_callV (k1 := 0) (n1 := 0) (kd := 6) [.int p] [.int p, rv m] hC lv_X5_205 (ct_X5_kept hst hM p hp) a0.t (by decide) ⟨_, mE_6 a0.t⟩ rfl rfl rfl (by simp only [List.map_cons, List.map_nil, rv_cat, Value.category, List.sum_cons, List.sum_nil]; decide) (by decide) rfl rfl (by decide) (by decide) dX5_putOn_30 (fun E M9 h => h.elim) (fun v9 M9 hq9 => ?_)
      obtain ⟨rfl, e9⟩ := hq9
      rw [e9]; clear e9
      refine J_if_eq hC dX5_putOn_33 (tgt := 50) (by decide) (fun c33 => ?_) (fun c33 => ?_)
      · have b33 : (keptQ S (ix p)) = false := bz_eq0 c33
        refine J_aload_n hC dX5_putOn_50 rfl rfl ?_
        refine J_iconst hC dX5_putOn_51 (v := 3) (by decide) ?_
        refine J_callV (k1 := 0) (n1 := 0) (kd := 6) [.int 3] [.int 3, rv m] hC lv_X5_116 (ct_X5_fails hst (M := M) a0 3) a0.t (by decide) ⟨_, mE_6 a0.t⟩ rfl rfl rfl (by simp only [List.map_cons, List.map_nil, rv_cat, Value.category, List.sum_cons, List.sum_nil]; decide) (by decide) rfl rfl (by decide) (by decide) dX5_putOn_52 (fun E M9 h => h.elim) (fun v9 M9 hq9 => ?_)
        obtain ⟨rfl, rfl⟩ := hq9
        refine J_iret hC (by decide) (by decide) dX5_putOn_55 ?_
        refine op_no hM hlt (k := 3) ?_ rfl
        simp [oPutOn, hp, hv, b33]
      · have b33 : (keptQ S (ix p)) = true := bz_ne0 c33
        refine J_aload_n hC dX5_putOn_36 rfl rfl ?_
        refine J_get6 hC lf_X5_71 (j := 30) a0.t (v := rv (mR M m 30)) rfl dX5_putOn_37 ?_
        refine J_iload_n hC dX5_putOn_40 rfl rfl ?_
        refine J_iald hC a0.a30 (j := (ix p)) (isIx_ix hp).1 (by rw [a0.l30]; omega) dX5_putOn_41 ?_
        rw [show mI M (mR M m 30) (ix p) = sQ S (ix p) 2 from ((a1.p1 _ xp (kept_ne b33)).1)]
        refine J_aload_n hC dX5_putOn_42 rfl rfl ?_
        refine J_iload_n hC dX5_putOn_43 rfl rfl ?_
        refine J_callV (k1 := 0) (n1 := 0) (kd := 6) [.int v] [.int v, rv m, .int (sQ S (ix p) 2)] hC lv_X5_160 (ct_X5_present hst hM hI v hv) a0.t (by decide) ⟨_, mE_6 a0.t⟩ rfl rfl rfl (by simp only [List.map_cons, List.map_nil, rv_cat, Value.category, List.sum_cons, List.sum_nil]; decide) (by decide) rfl rfl (by decide) (by decide) dX5_putOn_44 (fun E M9 h => h.elim) (fun v9 M9 hq9 => ?_)
        obtain ⟨rfl, e9⟩ := hq9
        rw [e9]; clear e9
        refine J_icmp_eq hC dX5_putOn_47 (tgt := 56) (by decide) (fun c47 => ?_) (fun c47 => ?_)
        · have q47 : sQ S (ix p) 2 = lastV (sT S 0 (ix v)) := c47
          refine J_aload_n hC dX5_putOn_56 rfl rfl ?_
          refine J_iload_n hC dX5_putOn_57 rfl rfl ?_
          refine J_aload_n hC dX5_putOn_58 rfl rfl ?_
          refine J_get6 hC lf_X5_97 (j := 5) a0.t (v := .int (sD S)) (congrArg (fun z => some (Value.int z)) a1.s5) dX5_putOn_59 ?_
          refine J_callV (k1 := 0) (n1 := 0) (kd := 6) [.int v, .int (sD S)] [.int (sD S), .int v, rv m] hC lv_X5_106 (ct_X5_plate hst hM v (sD S) hv) a0.t (by decide) ⟨_, mE_6 a0.t⟩ rfl rfl rfl (by simp only [List.map_cons, List.map_nil, rv_cat, Value.category, List.sum_cons, List.sum_nil]; decide) (by decide) rfl rfl (by decide) (by decide) dX5_putOn_62 (fun E M9 h => h.elim) (fun v9 M9 hq9 => ?_)
          obtain ⟨rfl, e9⟩ := hq9
          rw [e9]; clear e9
          rw [hI.lk (isIx_ix hv).2 (by decide)]
          refine J_istore_n hC dX5_putOn_65 rfl (by decide) (ls1 := [some (rv m), some (.int p), some (.int v), some (.int (lastV (sT S 1 (ix v))))]) rfl ?_
          refine J_aload_n hC dX5_putOn_66 rfl rfl ?_
          refine J_iload_n hC dX5_putOn_67 rfl rfl ?_
          refine J_callV (k1 := 0) (n1 := 0) (kd := 6) [.int v] [.int v, rv m] hC lv_X5_157 (ct_X5_blocked hst hM v hv) a0.t (by decide) ⟨_, mE_6 a0.t⟩ rfl rfl rfl (by simp only [List.map_cons, List.map_nil, rv_cat, Value.category, List.sum_cons, List.sum_nil]; decide) (by decide) rfl rfl (by decide) (by decide) dX5_putOn_68 (fun E M9 h => h.elim) (fun v9 M9 hq9 => ?_)
          obtain ⟨rfl, e9⟩ := hq9
          rw [e9]; clear e9
          refine J_if_ne hC dX5_putOn_71 (tgt := 79) (by decide) (fun c71 => ?_) (fun c71 => ?_)
          · have b71 : (blk S (ix v)) = true := bz_ne0 c71
            refine J_aload_n hC dX5_putOn_79 rfl rfl ?_
            refine J_iconst hC dX5_putOn_80 (v := 4) (by decide) ?_
            refine J_callV (k1 := 0) (n1 := 0) (kd := 6) [.int 4] [.int 4, rv m] hC lv_X5_116 (ct_X5_fails hst (M := M) a0 4) a0.t (by decide) ⟨_, mE_6 a0.t⟩ rfl rfl rfl (by simp only [List.map_cons, List.map_nil, rv_cat, Value.category, List.sum_cons, List.sum_nil]; decide) (by decide) rfl rfl (by decide) (by decide) dX5_putOn_81 (fun E M9 h => h.elim) (fun v9 M9 hq9 => ?_)
            obtain ⟨rfl, rfl⟩ := hq9
            refine J_iret hC (by decide) (by decide) dX5_putOn_84 ?_
            refine op_no hM hlt (k := 4) ?_ rfl
            simp [oPutOn, hp, hv, b33, q47, b71]
          · have b71 : (blk S (ix v)) = false := bz_eq0 (nn c71)
            refine J_iload_n hC dX5_putOn_74 rfl rfl ?_
            refine J_iconst hC dX5_putOn_75 (v := -1) (by decide) ?_
            refine J_icmp_ne hC dX5_putOn_76 (tgt := 85) (by decide) (fun c76 => ?_) (fun c76 => ?_)
            · have q76 : ¬ lastV (sT S 1 (ix v)) = -1 := c76
              refine J_aload_n hC dX5_putOn_85 rfl rfl ?_
              refine J_iconst hC dX5_putOn_86 (v := 0) (by decide) ?_
              refine J_put6_0 hC lf_X5_80 a0.t dX5_putOn_87 ?_
              refine J_aload_n hC dX5_putOn_90 rfl rfl ?_
              refine J_get6 hC lf_X5_77 (j := 32) a0.t (v := rv (mR M m 32)) rfl dX5_putOn_91 ?_
              refine J_iload_n hC dX5_putOn_94 rfl rfl ?_
              refine J_iconst hC dX5_putOn_95 (v := 0) (by decide) ?_
              refine J_zast hC a0.a32 (j := (ix p)) (isIx_ix hp).1 (Nat.lt_of_lt_of_eq (by omega) a0.l32.symm) (by decide) dX5_putOn_96 ?_
              obtain ⟨M2, eM2⟩ : ∃ z, z = (pI (pI M m 0 0) (mR M m 32) (ix p) 0) := ⟨_, rfl⟩
              rw [← eM2]
              have hw2 : MAw M2 m (uQ S (ix p) 2 (-1)) t (2 * t) := by rw [eM2]; exact ⟨a0, _, _, _, MA1.of_v (Vw.arr (M := (pI M m 0 0)) a0 (Vw.sc (M := M) a0 (Vw.rf M m) 0 0) 32 (by decide) (by decide) (ix p) 0) (MA1v.offq a1.v xp), bR, bS⟩
              have hF2 : Fr pM M M2 := by rw [eM2]; exact (Fr.trans (Fr.trans (Fr.rf pM M) (Fr.pI (a0.fm))) (Fr.pI (a0.fa (by decide) (by decide))))
              have hT2 : mI M2 m 0 = 0 := by rw [eM2]; exact ((up2_b _ _ _ _ (a0.ne (by decide) (by decide))).trans (up2_same _ _ _ _))
              have b0 := hw2.1
              obtain ⟨hm1, hm2, hm3⟩ := hI.mounted xv q76
              refine J_aload_n hC dX5_putOn_97 rfl rfl ?_
              refine J_iload_n hC dX5_putOn_98 rfl rfl ?_
              refine J_iload_n hC dX5_putOn_99 rfl rfl ?_
              refine J_callV (k1 := 0) (n1 := 0) (kd := 6) [.int v, .int p] [.int p, .int v, rv m] hC lv_X5_120 (ct_X5_setsPlate hst hw2 v p (by simp only [sN_uQ]; exact hv) (by simp only [sT_uQ, sD_uQ]; exact (hI.r xv (by decide)).1) (by simp only [sT_uQ]; exact (hI.r xv (by decide)).2) (by omega)) b0.t (by decide) ⟨_, mE_6 b0.t⟩ rfl rfl rfl (by simp only [List.map_cons, List.map_nil, rv_cat, Value.category, List.sum_cons, List.sum_nil]; decide) (by decide) rfl rfl (by decide) (by decide) dX5_putOn_100 (fun E M9 h => h.elim) (fun v9 M9 hq9 => ?_)
              obtain ⟨rfl, hu9⟩ := hq9
              refine J_iload_n hC dX5_putOn_103 rfl rfl ?_
              refine J_iret hC (by decide) (by decide) dX5_putOn_104 ?_
              refine op_mw (S1 := mountQ (voidQ S (ix (lastV (sT S 1 (ix v))))) (ix p) (ix v)) ?_ hF2 hT2 ⟨MAw.eq hu9.1 (by simp only [mountQ_N, voidQ_N, sN_uN, sN_uD, sN_uC, sN_uP, sN_uV, sN_uL, sN_uT, sN_uQ, sN_uO]) (by simp only [mountQ_D, voidQ_D, sD_uN, sD_uD, sD_uC, sD_uP, sD_uV, sD_uL, sD_uT, sD_uQ, sD_uO]) (by simp only [mountQ_C, voidQ_C, sC_uN, sC_uD, sC_uC, sC_uP, sC_uV, sC_uL, sC_uT, sC_uQ, sC_uO]) (by simp only [mountQ_P, voidQ_P, sP_uN, sP_uD, sP_uC, sP_uP, sP_uV, sP_uL, sP_uT, sP_uQ, sP_uO]) (by simp only [mountQ_V, voidQ_V, sV_uN, sV_uD, sV_uC, sV_uP, sV_uV, sV_uL, sV_uT, sV_uQ, sV_uO]) (by simp only [mountQ_L, voidQ_L, sL_uN, sL_uD, sL_uC, sL_uP, sL_uV, sL_uL, sL_uT, sL_uQ, sL_uO]) (by simp only [mountQ_Q, voidQ_Q, sQ_uT, sQ_uQ]; rw [up2_id hm3]) (by simp only [mountQ_O, voidQ_O, sO_uN, sO_uD, sO_uC, sO_uP, sO_uV, sO_uL, sO_uT, sO_uQ, sO_uO]) (by simp only [mountQ_T0, sT_uT, sT_uQ]; first | rw [voidQ_T _ _ (by decide), up2_row _ _ _ (by decide)] | rw [up2_row _ _ _ (by decide), up2_row _ _ _ (by decide)]) (by simp only [mountQ_T1, voidQ_D, sT_uT, sT_uQ, sD_uQ]; rw [voidQ_T _ _ (by decide), up2_vT, ← isIx_nI hp]) (by simp only [mountQ_T2, sT_uT, sT_uQ]; first | rw [voidQ_T _ _ (by decide), up2_row _ _ _ (by decide)] | rw [up2_row _ _ _ (by decide), up2_row _ _ _ (by decide)]), hu9.2⟩ (by omega) (by omega) hlt
              unfold oPutOn
              rw [if_neg (by rw [hp]; simp), if_neg (by rw [hv]; simp), if_neg (by rintro (q | q); exact absurd (b33.symm.trans q) (by decide); exact q q47), if_neg (by rintro (q | q); exact absurd (b71.symm.trans q) (by decide); exact q76 q)]
            · have q76 : lastV (sT S 1 (ix v)) = -1 := (nn c76)
              refine J_aload_n hC dX5_putOn_79 rfl rfl ?_
              refine J_iconst hC dX5_putOn_80 (v := 4) (by decide) ?_
              refine J_callV (k1 := 0) (n1 := 0) (kd := 6) [.int 4] [.int 4, rv m] hC lv_X5_116 (ct_X5_fails hst (M := M) a0 4) a0.t (by decide) ⟨_, mE_6 a0.t⟩ rfl rfl rfl (by simp only [List.map_cons, List.map_nil, rv_cat, Value.category, List.sum_cons, List.sum_nil]; decide) (by decide) rfl rfl (by decide) (by decide) dX5_putOn_81 (fun E M9 h => h.elim) (fun v9 M9 hq9 => ?_)
              obtain ⟨rfl, rfl⟩ := hq9
              refine J_iret hC (by decide) (by decide) dX5_putOn_84 ?_
              refine op_no hM hlt (k := 4) ?_ rfl
              simp [oPutOn, hp, hv, b33, q47, b71, q76]
        · have q47 : ¬ sQ S (ix p) 2 = lastV (sT S 0 (ix v)) := c47
          refine J_aload_n hC dX5_putOn_50 rfl rfl ?_
          refine J_iconst hC dX5_putOn_51 (v := 3) (by decide) ?_
          refine J_callV (k1 := 0) (n1 := 0) (kd := 6) [.int 3] [.int 3, rv m] hC lv_X5_116 (ct_X5_fails hst (M := M) a0 3) a0.t (by decide) ⟨_, mE_6 a0.t⟩ rfl rfl rfl (by simp only [List.map_cons, List.map_nil, rv_cat, Value.category, List.sum_cons, List.sum_nil]; decide) (by decide) rfl rfl (by decide) (by decide) dX5_putOn_52 (fun E M9 h => h.elim) (fun v9 M9 hq9 => ?_)
          obtain ⟨rfl, rfl⟩ := hq9
          refine J_iret hC (by decide) (by decide) dX5_putOn_55 ?_
          refine op_no hM hlt (k := 3) ?_ rfl
          simp [oPutOn, hp, hv, b33, q47]
    · have nv : (isIx v (sN S 1)) = false := bz_eq0 (nn c19)
      refine J_aload_n hC dX5_putOn_22 rfl rfl ?_
      refine J_iconst hC dX5_putOn_23 (v := 2) (by decide) ?_
      refine J_callV (k1 := 0) (n1 := 0) (kd := 6) [.int 2] [.int 2, rv m] hC lv_X5_116 (ct_X5_fails hst (M := M) a0 2) a0.t (by decide) ⟨_, mE_6 a0.t⟩ rfl rfl rfl (by simp only [List.map_cons, List.map_nil, rv_cat, Value.category, List.sum_cons, List.sum_nil]; decide) (by decide) rfl rfl (by decide) (by decide) dX5_putOn_24 (fun E M9 h => h.elim) (fun v9 M9 hq9 => ?_)
      obtain ⟨rfl, rfl⟩ := hq9
      refine J_iret hC (by decide) (by decide) dX5_putOn_27 ?_
      refine op_no hM hlt (k := 2) ?_ rfl
      simp [oPutOn, hp, nv]
  · have np : (isIx p (sN S 2)) = false := bz_eq0 (nn c5)
    refine J_aload_n hC dX5_putOn_8 rfl rfl ?_
    refine J_iconst hC dX5_putOn_9 (v := 1) (by decide) ?_
    refine J_callV (k1 := 0) (n1 := 0) (kd := 6) [.int 1] [.int 1, rv m] hC lv_X5_116 (ct_X5_fails hst (M := M) a0 1) a0.t (by decide) ⟨_, mE_6 a0.t⟩ rfl rfl rfl (by simp only [List.map_cons, List.map_nil, rv_cat, Value.category, List.sum_cons, List.sum_nil]; decide) (by decide) rfl rfl (by decide) (by decide) dX5_putOn_10 (fun E M9 h => h.elim) (fun v9 M9 hq9 => ?_)
    obtain ⟨rfl, rfl⟩ := hq9
    refine J_iret hC (by decide) (by decide) dX5_putOn_13 ?_
    refine op_no hM hlt (k := 1) ?_ rfl
    simp [oPutOn, np]
