/-! plates and vehicles: the calls -/
theorem Inv.ptc {S : St} {t i : Nat} (hI : Inv S t) (hi : i < sN S 1) (h : isIx (lastV (sT S 1 i)) (sN S 2) = false ∨ blk S i = true) : blk S i = true ∨ lastV (sT S 1 i) = -1 := by
  rcases h with h | h
  · refine Or.inr (Classical.byContradiction fun q => ?_)
    rw [(hI.mounted hi q).1] at h
    cases h
  · exact Or.inl h
theorem TB.nP {S : St} {n : Nat} (h : TB S n) : TB (newP S) n := by
  refine ⟨fun v hv => ?_, fun p hp => ?_⟩
  · have e1 : sT (newP S) 1 = sT S 1 := up2_row (sT S) (sN S 2) [] (show (1 : Nat) ≠ 3 by decide)
    have e2 : sT (newP S) 2 = sT S 2 := up2_row (sT S) (sN S 2) [] (show (2 : Nat) ≠ 3 by decide)
    rw [e1, e2]; exact h.1 v hv
  · rw [newP_N, va_up_self] at hp
    show (up2 (sT S) 3 (sN S 2) [] 3 p).length ≤ n
    by_cases e : p = sN S 2
    · subst e; rw [up2_same]; exact Nat.zero_le _
    · rw [up2_b' _ _ _ _ e]; exact h.2 p (by omega)
theorem TB.aV {S : St} {n : Nat} (h : TB S n) (w k : Int32) : TB (addV S w k) n := by
  refine ⟨fun v hv => ?_, fun p hp => ?_⟩
  · rw [addV_N, va_up_self] at hv
    rw [addV_T, up2_row (b := 1) _ _ _ (by decide)]
    by_cases e : v = sN S 1
    · subst e; rw [up2_same, up2_same]; exact ⟨Nat.zero_le _, Nat.zero_le _⟩
    · rw [up2_b' _ _ _ _ e, up2_b' _ _ _ _ e, up2_b' _ _ _ _ e, up2_b' _ _ _ _ e, up2_b' _ _ _ _ e]; exact h.1 v (by omega)
  · rw [addV_N, va_up_ne _ _ (by decide)] at hp
    rw [addV_T, up2_row _ _ _ (by decide), up2_row _ _ _ (by decide), up2_row _ _ _ (by decide)]; exact h.2 p hp
theorem lastV_setT' (l : Tl) (d x : Int32) : lastV (setT l d x) = x := by
  unfold setT
  split <;> exact lastV_snoc _ _ _
theorem onRoad_lv (S : St) (v : Nat) : lastV (sT (onRoad S v) 1 v) = nI (sN S 2) := by
  unfold onRoad issueQ
  simp only [sT_uT, sT_uV]
  rw [up2_row _ _ _ (show (1 : Nat) ≠ 2 by decide)]
  unfold mountQ
  simp only [sT_uT]
  rw [up2_same, lastV_setT']
theorem newP_D (S : St) : sD (newP S) = sD S := by unfold newP; simp only [sD_uN, sD_uT, sD_uQ]
theorem onRoad_mq (S : St) (v : Nat) : onRoad S v = uT (uV (mountQ (newP S) (sN S 2) v) v 6 1) 2 v (setT (sT (uV (mountQ (newP S) (sN S 2) v) v 6 1) 2 v) (sD (uV (mountQ (newP S) (sN S 2) v) v 6 1)) 1) := by
  unfold onRoad issueQ newP
  rfl
theorem newP_l1 {S : St} {i : Nat} (h : i < sN S 1) : i < sN (newP S) 1 := by rw [newP_N, va_up_ne _ _ (by decide)]; exact h
theorem newP_l2 {S : St} {i : Nat} (h : i < sN S 2) : i < sN (newP S) 2 := by rw [newP_N, va_up_self]; omega
theorem mountQ_l1 {S : St} (p v : Nat) {i : Nat} (h : i < sN S 1) : i < sN (mountQ S p v) 1 := by rw [mountQ_N]; exact h
theorem mountQ_l2 {S : St} (p v : Nat) {i : Nat} (h : i < sN S 2) : i < sN (mountQ S p v) 2 := by rw [mountQ_N]; exact h
theorem onRoad_N (S : St) (v : Nat) : sN (onRoad S v) = va_up (sN S) 2 (sN S 2 + 1) := by
  rw [onRoad_mq]; simp only [sN_uT, sN_uV, mountQ_N]; rfl
theorem onRoad_l1 (S : St) (v : Nat) {i : Nat} (hi : i < sN S 1) : i < sN (onRoad S v) 1 := by
  rw [onRoad_N, va_up_ne _ _ (by decide)]; exact hi
theorem ct_X4_bringOnRoad {G : Gt} {l : Launch} (hst : l.stackTraces = false) {M : Mm} {x : Nat} {S : St} (hM : CAt M x S) {a i : Nat} (ea : a = vA M x i) (hi : i < sN S 1) (hr : sN S 2 < 40) (hB : TB S 513) : Ct G l yX4_bringOnRoad cX4_bringOnRoad 2 none 7 M [rv x, rv a] 10 6280 (MtW M x S (onRoad S i) (fun _ => none)) (noX) := by
  obtain ⟨bK, bV, bP, bN⟩ := hM.b
  have wa : VeA M a i S := by rw [ea]; exact hM.v.1 _ hi
  refine Ct_intro (own := RX4) (nm := "bringOnRoad") (by decide +kernel) rfl rfl hst (fun w hw => by simp only [List.mem_cons, List.not_mem_nil, or_false] at hw; rcases hw with rfl | rfl <;> first | rfl | exact rv_cat _) (Nat.le_of_ble_eq_true rfl) (fun γ hC => ?_)
  show J G γ M 0 [some (rv x), some (rv a)] [] 0 0
  refine J_aload_n hC dX4_bringOnRoad_0 rfl rfl ?_
  refine J_aload_n hC dX4_bringOnRoad_1 rfl rfl ?_
  refine J_callV (k1 := 4) (n1 := 15) (kd := 5) [] [rv x, rv x] hC lv_X4_239 (ct_X4_issuePlate hst hM hr) hM.tx (by decide) ⟨_, mE_5 hM.tx⟩ rfl rfl rfl (by simp only [List.map_cons, List.map_nil, rv_cat, List.sum_cons, List.sum_nil]; (try simp only [Value.category]); (try omega)) (by decide) rfl rfl (by decide) (by decide) dX4_bringOnRoad_2 (fun E M9 h => h.elim) (fun v9 M2 hq9 => ?_)
  obtain ⟨e9, hM2, hs2, hF2⟩ := hq9
  have e9 : v9 = some (rv (pA M2 x (sN S 2))) := e9
  subst e9
  have ea2 : a = vA M2 x i := ea.trans (hs2.v hi).symm
  have wa2 : VeA M2 a i (newP S) := by rw [ea2]; exact hM2.v.1 _ (newP_l1 hi)
  obtain ⟨afr, eafr⟩ : ∃ z, z = pA M2 x (sN S 2) := ⟨_, rfl⟩
  show J G γ M2 _ _ (rv (pA M2 x (sN S 2)) :: _) _ _
  rw [← eafr]
  have wafr : PlA M2 afr (sN S 2) (newP S) := by rw [eafr]; exact hM2.p.1 _ (newP_lt S)
  refine J_aload_n hC dX4_bringOnRoad_5 rfl rfl ?_
  refine J_callV (k1 := 8) (n1 := 4175) (kd := 5) [rv afr, rv a] [rv a, rv afr, rv x] hC lv_X4_243 (ct_X4_mount hst hM2 eafr ea2 (newP_lt S) (newP_l1 hi) (hB.nP.mono (by decide))) hM2.tx (by decide) ⟨_, mE_5 hM2.tx⟩ rfl rfl rfl (by simp only [List.map_cons, List.map_nil, rv_cat, Value.category, List.sum_cons, List.sum_nil]; decide) (by decide) rfl rfl (by decide) (by decide) dX4_bringOnRoad_6 (fun E M9 h => h.elim) (fun v9 M3 hq9 => ?_)
  obtain ⟨rfl, hM3, hs3, hF3⟩ := hq9
  have ea3 : a = vA M3 x i := ea2.trans (hs3.v _).symm
  have wa3 : VeA M3 a i (mountQ (newP S) (sN S 2) i) := by rw [ea3]; exact hM3.v.1 _ (mountQ_l1 _ _ (newP_l1 hi))
  have eafr3 : afr = pA M3 x (sN S 2) := eafr.trans (hs3.p _).symm
  have wafr3 : PlA M3 afr (sN S 2) (mountQ (newP S) (sN S 2) i) := by rw [eafr3]; exact hM3.p.1 _ (mountQ_l2 _ _ (newP_lt S))
  have hB3 := hB.nP.mount (sN S 2) i
  have hiT : i < sN (mountQ (newP S) (sN S 2) i) 1 := by rw [mountQ_N, newP_N, va_up_ne _ _ (by decide)]; exact hi
  have hTN : sN (mountQ (newP S) (sN S 2) i) = sN (newP S) := mountQ_N _ _ _
  have hOR := onRoad_mq S i
  obtain ⟨T, eT⟩ : ∃ z, z = mountQ (newP S) (sN S 2) i := ⟨_, rfl⟩
  rw [← eT] at hM3 wa3 hB3 hiT hTN hOR
  have hl3 : (sT T 2 i).length ≤ 515 := hB3.v2 hiT
  clear eT wafr wafr3 eafr eafr3
  refine J_aload_n hC dX4_bringOnRoad_9 rfl rfl ?_
  refine J_iconst hC dX4_bringOnRoad_10 (v := 1) (by decide) ?_
  refine J_put4_6 hC lf_X4_85 wa3.tg (by decide) (by decide) dX4_bringOnRoad_11 ?_
  obtain ⟨M4, eM4⟩ : ∃ z, z = (pI M3 a 6 1) := ⟨_, rfl⟩
  rw [← eM4]
  obtain ⟨hM4, hs4, hF4⟩ : CAt M4 x (uV T i 6 1) ∧ Sm M3 M4 x ∧ Fr pC M3 M4 := by rw [eM4]; rw [ea3]; exact hM3.vc hiT (Or.inl rfl) 1
  have ea4 : a = vA M4 x i := ea3.trans (hs4.v _).symm
  have wa4 : VeA M4 a i (uV T i 6 1) := by rw [ea4]; exact hM4.v.1 _ hiT
  refine J_aload_n hC dX4_bringOnRoad_14 rfl rfl ?_
  refine J_get4 hC lf_X4_118 (j := 4) wa4.tg (v := rv (mR M4 a 4)) rfl dX4_bringOnRoad_15 ?_
  refine J_aload_n hC dX4_bringOnRoad_18 rfl rfl ?_
  refine J_get5 hC lf_X4_48 (j := 10) hM4.tx (v := .int (sD (uV T i 6 1))) (congrArg (fun z => some (Value.int z)) hM4.c10) dX4_bringOnRoad_19 ?_
  refine J_iconst hC dX4_bringOnRoad_22 (v := 1) (by decide) ?_
  refine J_callV (k1 := 10) (n1 := 4175 + (4 * (sT T 2 i).length)) (kd := 3) [.int (sD (uV T i 6 1)), .int 1] [.int 1, .int (sD (uV T i 6 1)), rv (mR M4 a 4)] hC lv_X4_121 (ct_X2_set hst wa4.T4 (Nat.le_trans hl3 (by decide)) (sD (uV T i 6 1)) 1) wa4.k4 (by decide) ⟨_, mE_3 wa4.k4⟩ rfl rfl rfl (by simp only [List.map_cons, List.map_nil, rv_cat, Value.category, List.sum_cons, List.sum_nil]; decide) (by decide) rfl rfl (by decide) (by omega) dX4_bringOnRoad_23 (fun E M9 h => h.elim) (fun v9 M9 hq9 => ?_)
  obtain ⟨rfl, hT9, hF9⟩ := hq9
  rw [ea4] at hT9
  obtain ⟨M5, eM5⟩ : ∃ z, z = M9 := ⟨_, rfl⟩
  rw [← eM5] at hT9 hF9 ⊢
  obtain ⟨hM5, hs5, hF5⟩ : CAt M5 x (uT (uV T i 6 1) 2 i (setT (sT (uV T i 6 1) 2 i) (sD (uV T i 6 1)) 1)) ∧ Sm M4 M5 x ∧ Fr pC M4 M5 := hM4.tv hiT (r := 2) (by decide) hF9 hT9
  have ea5 : a = vA M5 x i := ea4.trans (hs5.v _).symm
  have wa5 : VeA M5 a i (uT (uV T i 6 1) 2 i (setT (sT (uV T i 6 1) 2 i) (sD (uV T i 6 1)) 1)) := by rw [ea5]; exact hM5.v.1 _ hiT
  refine J_vret hC (by decide) (by omega) dX4_bringOnRoad_26 ?_
  exact ⟨rfl, by rw [hOR]; exact hM5, hs2.trans ((hs3.trans (hs4.trans hs5)).w (newP S)) (Nat.le_refl _) (Nat.le_of_lt (newP_lt S)) (Nat.le_refl _), hF2.trans (hF3.trans (hF4.trans hF5))⟩
theorem ct_X4_register {G : Gt} {l : Launch} (hst : l.stackTraces = false) {M : Mm} {x : Nat} {S : St} {t : Nat} (hM : CAt M x S) (hI : Inv S t) (hlt : t < 512) (v c : Int32) : Ct G l yX4_register cX4_register 4 (some .int) 8 M [rv x, .int v, .int c] 40 9000 (OkC M x (oRegister S v c)) (ExC M x S (oRegister S v c) [eIO, eIA, eIS]) := by
  obtain ⟨bK, bV, bP, bN⟩ := hM.b
  refine Ct_intro (own := RX4) (nm := "register") (by decide +kernel) rfl rfl hst (fun w hw => by simp only [List.mem_cons, List.not_mem_nil, or_false] at hw; rcases hw with rfl | rfl | rfl <;> first | rfl | exact rv_cat _) (Nat.le_of_ble_eq_true rfl) (fun γ hC => ?_)
  show J G γ M 0 [some (rv x), some (.int v), some (.int c)] [] 0 0
  refine J_aload_n hC dX4_register_0 rfl rfl ?_
  refine J_iload_n hC dX4_register_1 rfl rfl ?_
  refine J_callV (k1 := 1) (n1 := 6) (kd := 5) [.int v] [.int v, rv x] hC lv_X4_56 (ct_X4_requireKeeper hst hM v) hM.tx (by decide) ⟨_, mE_5 hM.tx⟩ rfl rfl rfl (by simp only [List.map_cons, List.map_nil, rv_cat, Value.category, List.sum_cons, List.sum_nil]; decide) (by decide) rfl rfl (by decide) (by decide) dX4_register_2 (fun E M9 hx => by
        obtain ⟨rfl, rfl, nv⟩ := hx
        exact exc hM (k := 0) rfl (by simp [oRegister, nv])) (fun v9 M9 hq9 => ?_)
  obtain ⟨rfl, e9, hv⟩ := hq9
  rw [e9]; clear e9
  have xv := (isIx_ix hv).2
  refine J_iload_n hC dX4_register_5 rfl rfl ?_
  refine J_callS (k1 := 2) (n1 := 12) [.int c] [.int c] hC ls_X4_60 (ct_X4_requireKind hst c) rfl rfl (by simp only [List.map_cons, List.map_nil, rv_cat, Value.category, List.sum_cons, List.sum_nil]; decide) (by decide) rfl rfl (by decide) (by decide) dX4_register_6 (fun E M9 hx => by
        obtain ⟨rfl, rfl, nkd⟩ := hx
        exact exc hM (k := 1) rfl (by simp [oRegister, hv, nkd])) (fun v9 M9 hq9 => ?_)
  obtain ⟨rfl, e9, hkd⟩ := hq9
  rw [e9]; clear e9
  refine J_aload_n hC dX4_register_9 rfl rfl ?_
  refine J_callV (k1 := 3) (n1 := 18) (kd := 5) [] [rv x] hC lv_X4_64 (ct_X4_requireRoomForVehicle hst hM) hM.tx (by decide) ⟨_, mE_5 hM.tx⟩ rfl rfl rfl (by simp only [List.map_cons, List.map_nil, rv_cat, Value.category, List.sum_cons, List.sum_nil]; decide) (by decide) rfl rfl (by decide) (by decide) dX4_register_10 (fun E M9 hx => by
        obtain ⟨rfl, rfl, rv9⟩ := hx
        exact exc hM (k := 2) rfl (by simp [oRegister, hv, hkd, rv9])) (fun v9 M9 hq9 => ?_)
  obtain ⟨rfl, e9, rv9⟩ := hq9
  rw [e9]; clear e9
  have rv9n : ¬ sN S 1 = 15 := by omega
  refine J_aload_n hC dX4_register_13 rfl rfl ?_
  refine J_callV (k1 := 4) (n1 := 24) (kd := 5) [] [rv x] hC lv_X4_67 (ct_X4_requireRoomForPlate hst hM) hM.tx (by decide) ⟨_, mE_5 hM.tx⟩ rfl rfl rfl (by simp only [List.map_cons, List.map_nil, rv_cat, Value.category, List.sum_cons, List.sum_nil]; decide) (by decide) rfl rfl (by decide) (by decide) dX4_register_14 (fun E M9 hx => by
        obtain ⟨rfl, rfl, rp9⟩ := hx
        exact exc hM (k := 2) rfl (by simp [oRegister, hv, hkd, rv9n, rp9])) (fun v9 M9 hq9 => ?_)
  obtain ⟨rfl, e9, rp9⟩ := hq9
  rw [e9]; clear e9
  have rp9n : ¬ sN S 2 = 40 := by omega
  refine J_aload_n hC dX4_register_17 rfl rfl ?_
  refine J_iload_n hC dX4_register_18 rfl rfl ?_
  refine J_iload_n hC dX4_register_19 rfl rfl ?_
  refine J_callV (k1 := 24) (n1 := 124) (kd := 5) [.int v, .int c] [.int c, .int v, rv x] hC lv_X4_70 (ct_X4_enterVehicle hst hM rv9 v c hkd) hM.tx (by decide) ⟨_, mE_5 hM.tx⟩ rfl rfl rfl (by simp only [List.map_cons, List.map_nil, rv_cat, Value.category, List.sum_cons, List.sum_nil]; decide) (by decide) rfl rfl (by decide) (by decide) dX4_register_20 (fun E M9 h => h.elim) (fun v9 M2 hq9 => ?_)
  obtain ⟨e9, hM2, hs2, hF2⟩ := hq9
  have e9 : v9 = some (rv (vA M2 x (sN S 1))) := e9
  subst e9
  obtain ⟨afv, eafv⟩ : ∃ z, z = vA M2 x (sN S 1) := ⟨_, rfl⟩
  show J G γ M2 _ _ (rv (vA M2 x (sN S 1)) :: _) _ _
  rw [← eafv]
  have wafv : VeA M2 afv (sN S 1) (addV S v c) := by rw [eafv]; exact hM2.v.1 _ (addV_lt _ _ _)
  refine J_astore_n hC dX4_register_23 rfl (by decide) (ls1 := [some (rv x), some (.int v), some (.int c), some (rv afv)]) rfl ?_
  refine J_aload_n hC dX4_register_24 rfl rfl ?_
  refine J_aload_n hC dX4_register_25 rfl rfl ?_
  refine J_callV (k1 := 34) (n1 := 6404) (kd := 5) [rv afv] [rv afv, rv x] hC lv_X4_74 (ct_X4_bringOnRoad hst hM2 eafv (addV_lt _ _ _) (by rw [addV_N, va_up_ne _ _ (by decide)]; exact rp9) ((hI.TB.mono (by omega)).aV v c)) hM2.tx (by decide) ⟨_, mE_5 hM2.tx⟩ rfl rfl rfl (by simp only [List.map_cons, List.map_nil, rv_cat, Value.category, List.sum_cons, List.sum_nil]; decide) (by decide) rfl rfl (by decide) (by decide) dX4_register_26 (fun E M9 h => h.elim) (fun v9 M3 hq9 => ?_)
  obtain ⟨e9, hM3, hs3, hF3⟩ := hq9
  have e9 : v9 = none := e9
  subst e9
  have eafv3 : afv = vA M3 x (sN S 1) := eafv.trans (hs3.v (addV_lt _ _ _)).symm
  have wafv3 : VeA M3 afv (sN S 1) (onRoad (addV S v c) (sN S 1)) := by rw [eafv3]; exact hM3.v.1 _ (onRoad_l1 _ _ (addV_lt _ _ _))
  refine J_aload_n hC dX4_register_29 rfl rfl ?_
  refine J_get4 hC lf_X4_78 (j := 0) wafv3.tg (v := .int (nI (sN S 1))) (congrArg (fun z => some (Value.int z)) wafv3.v0) dX4_register_30 ?_
  refine J_iret hC (by decide) (by decide) dX4_register_33 ?_
  refine okm hM3 (((Fr.rf _ _).trans hF2).trans hF3) ?_
  simp [oRegister, hv, hkd, rv9n, rp9n, bz]
theorem ct_X4_bringIn {G : Gt} {l : Launch} (hst : l.stackTraces = false) {M : Mm} {x : Nat} {S : St} {t : Nat} (hM : CAt M x S) (hI : Inv S t) (hlt : t < 512) (v c : Int32) : Ct G l yX4_bringIn cX4_bringIn 3 (some .int) 8 M [rv x, .int v, .int c] 40 9000 (OkC M x (oBringIn S v c)) (ExC M x S (oBringIn S v c) [eIO, eIA, eIS]) := by
  obtain ⟨bK, bV, bP, bN⟩ := hM.b
  refine Ct_intro (own := RX4) (nm := "bringIn") (by decide +kernel) rfl rfl hst (fun w hw => by simp only [List.mem_cons, List.not_mem_nil, or_false] at hw; rcases hw with rfl | rfl | rfl <;> first | rfl | exact rv_cat _) (Nat.le_of_ble_eq_true rfl) (fun γ hC => ?_)
  show J G γ M 0 [some (rv x), some (.int v), some (.int c)] [] 0 0
  refine J_aload_n hC dX4_bringIn_0 rfl rfl ?_
  refine J_iload_n hC dX4_bringIn_1 rfl rfl ?_
  refine J_callV (k1 := 1) (n1 := 6) (kd := 5) [.int v] [.int v, rv x] hC lv_X4_56 (ct_X4_requireKeeper hst hM v) hM.tx (by decide) ⟨_, mE_5 hM.tx⟩ rfl rfl rfl (by simp only [List.map_cons, List.map_nil, rv_cat, Value.category, List.sum_cons, List.sum_nil]; decide) (by decide) rfl rfl (by decide) (by decide) dX4_bringIn_2 (fun E M9 hx => by
        obtain ⟨rfl, rfl, nv⟩ := hx
        exact exc hM (k := 0) rfl (by simp [oBringIn, nv])) (fun v9 M9 hq9 => ?_)
  obtain ⟨rfl, e9, hv⟩ := hq9
  rw [e9]; clear e9
  have xv := (isIx_ix hv).2
  refine J_iload_n hC dX4_bringIn_5 rfl rfl ?_
  refine J_callS (k1 := 2) (n1 := 12) [.int c] [.int c] hC ls_X4_60 (ct_X4_requireKind hst c) rfl rfl (by simp only [List.map_cons, List.map_nil, rv_cat, Value.category, List.sum_cons, List.sum_nil]; decide) (by decide) rfl rfl (by decide) (by decide) dX4_bringIn_6 (fun E M9 hx => by
        obtain ⟨rfl, rfl, nkd⟩ := hx
        exact exc hM (k := 1) rfl (by simp [oBringIn, hv, nkd])) (fun v9 M9 hq9 => ?_)
  obtain ⟨rfl, e9, hkd⟩ := hq9
  rw [e9]; clear e9
  refine J_aload_n hC dX4_bringIn_9 rfl rfl ?_
  refine J_callV (k1 := 3) (n1 := 18) (kd := 5) [] [rv x] hC lv_X4_64 (ct_X4_requireRoomForVehicle hst hM) hM.tx (by decide) ⟨_, mE_5 hM.tx⟩ rfl rfl rfl (by simp only [List.map_cons, List.map_nil, rv_cat, Value.category, List.sum_cons, List.sum_nil]; decide) (by decide) rfl rfl (by decide) (by decide) dX4_bringIn_10 (fun E M9 hx => by
        obtain ⟨rfl, rfl, rv9⟩ := hx
        exact exc hM (k := 2) rfl (by simp [oBringIn, hv, hkd, rv9])) (fun v9 M9 hq9 => ?_)
  obtain ⟨rfl, e9, rv9⟩ := hq9
  rw [e9]; clear e9
  have rv9n : ¬ sN S 1 = 15 := by omega
  refine J_aload_n hC dX4_bringIn_13 rfl rfl ?_
  refine J_iload_n hC dX4_bringIn_14 rfl rfl ?_
  refine J_iload_n hC dX4_bringIn_15 rfl rfl ?_
  refine J_callV (k1 := 23) (n1 := 118) (kd := 5) [.int v, .int c] [.int c, .int v, rv x] hC lv_X4_70 (ct_X4_enterVehicle hst hM rv9 v c hkd) hM.tx (by decide) ⟨_, mE_5 hM.tx⟩ rfl rfl rfl (by simp only [List.map_cons, List.map_nil, rv_cat, Value.category, List.sum_cons, List.sum_nil]; decide) (by decide) rfl rfl (by decide) (by decide) dX4_bringIn_16 (fun E M9 h => h.elim) (fun v9 M2 hq9 => ?_)
  obtain ⟨e9, hM2, hs2, hF2⟩ := hq9
  have e9 : v9 = some (rv (vA M2 x (sN S 1))) := e9
  subst e9
  obtain ⟨afv, eafv⟩ : ∃ z, z = vA M2 x (sN S 1) := ⟨_, rfl⟩
  show J G γ M2 _ _ (rv (vA M2 x (sN S 1)) :: _) _ _
  rw [← eafv]
  have wafv : VeA M2 afv (sN S 1) (addV S v c) := by rw [eafv]; exact hM2.v.1 _ (addV_lt _ _ _)
  refine J_get4 hC lf_X4_78 (j := 0) wafv.tg (v := .int (nI (sN S 1))) (congrArg (fun z => some (Value.int z)) wafv.v0) dX4_bringIn_19 ?_
  refine J_iret hC (by decide) (by decide) dX4_bringIn_22 ?_
  refine okm hM2 ((Fr.rf _ _).trans hF2) ?_
  simp [oBringIn, hv, hkd, rv9n, bz]
theorem ct_X4_admit {G : Gt} {l : Launch} (hst : l.stackTraces = false) {M : Mm} {x : Nat} {S : St} {t : Nat} (hM : CAt M x S) (hI : Inv S t) (hlt : t < 512) (v : Int32) : Ct G l yX4_admit cX4_admit 3 (some .int) 8 M [rv x, .int v] 40 9000 (OkC M x (oAdmit S v)) (ExC M x S (oAdmit S v) [eIO, eUO, eIS]) := by
  obtain ⟨bK, bV, bP, bN⟩ := hM.b
  refine Ct_intro (own := RX4) (nm := admN) (by decide +kernel) rfl rfl hst (fun w hw => by simp only [List.mem_cons, List.not_mem_nil, or_false] at hw; rcases hw with rfl | rfl <;> first | rfl | exact rv_cat _) (Nat.le_of_ble_eq_true rfl) (fun γ hC => ?_)
  show J G γ M 0 [some (rv x), some (.int v)] [] 0 0
  refine J_aload_n hC dX4_admit_0 rfl rfl ?_
  refine J_iload_n hC dX4_admit_1 rfl rfl ?_
  refine J_callV (k1 := 1) (n1 := 6) (kd := 5) [.int v] [.int v, rv x] hC lv_X4_81 (ct_X4_vehicleAt hst hM v) hM.tx (by decide) ⟨_, mE_5 hM.tx⟩ rfl rfl rfl (by simp only [List.map_cons, List.map_nil, rv_cat, Value.category, List.sum_cons, List.sum_nil]; decide) (by decide) rfl rfl (by decide) (by decide) dX4_admit_2 (fun E M9 hx => by
        obtain ⟨rfl, rfl, nv⟩ := hx
        exact exc hM (k := 0) rfl (by simp [oAdmit, nv])) (fun v9 M9 hq9 => ?_)
  obtain ⟨rfl, e9, hv⟩ := hq9
  rw [e9]; clear e9
  have xv := (isIx_ix hv).2
  obtain ⟨av, eav⟩ : ∃ z, z = mR M (mR M x 0) (ix v) := ⟨_, rfl⟩
  have wv : VeA M av (ix v) S := by rw [eav]; exact hM.v.1 _ xv
  show J G γ M _ _ (rv (mR M (mR M x 0) (ix v)) :: _) _ _
  rw [← eav]
  refine J_astore_n hC dX4_admit_5 rfl (by decide) (ls1 := [some (rv x), some (.int v), some (rv av)]) rfl ?_
  refine J_aload_n hC dX4_admit_6 rfl rfl ?_
  refine J_get4 hC lf_X4_85 (j := 6) wv.tg (v := .int (sV S (ix v) 6)) (congrArg (fun z => some (Value.int z)) wv.v6) dX4_admit_7 ?_
  refine J_if_eq hC dX4_admit_10 (tgt := 23) (by decide) (fun c10 => ?_) (fun c10 => ?_)
  · have s10 : ¬ sV S (ix v) 6 = 1 := fun e => by rw [c10] at e; exact absurd e (by decide)
    refine J_aload_n hC dX4_admit_23 rfl rfl ?_
    refine J_get4 hC lf_X4_94 (j := 7) wv.tg (v := .int (sV S (ix v) 7)) (congrArg (fun z => some (Value.int z)) wv.v7) dX4_admit_24 ?_
    refine J_if_eq hC dX4_admit_27 (tgt := 40) (by decide) (fun c27 => ?_) (fun c27 => ?_)
    · have s27 : ¬ sV S (ix v) 7 = 1 := fun e => by rw [c27] at e; exact absurd e (by decide)
      refine J_aload_n hC dX4_admit_40 rfl rfl ?_
      refine J_callV (k1 := 2) (n1 := 12) (kd := 5) [] [rv x] hC lv_X4_67 (ct_X4_requireRoomForPlate hst hM) hM.tx (by decide) ⟨_, mE_5 hM.tx⟩ rfl rfl rfl (by simp only [List.map_cons, List.map_nil, rv_cat, Value.category, List.sum_cons, List.sum_nil]; decide) (by decide) rfl rfl (by decide) (by decide) dX4_admit_41 (fun E M9 hx => by
            obtain ⟨rfl, rfl, rp9⟩ := hx
            exact exc hM (k := 2) rfl (by simp [oAdmit, s10, s27, hv, rp9])) (fun v9 M9 hq9 => ?_)
      obtain ⟨rfl, e9, rp9⟩ := hq9
      rw [e9]; clear e9
      have rp9n : ¬ sN S 2 = 40 := by omega
      refine J_aload_n hC dX4_admit_44 rfl rfl ?_
      refine J_aload_n hC dX4_admit_45 rfl rfl ?_
      refine J_callV (k1 := 12) (n1 := 6292) (kd := 5) [rv av] [rv av, rv x] hC lv_X4_74 (ct_X4_bringOnRoad hst hM eav xv rp9 (hI.TB.mono (by omega))) hM.tx (by decide) ⟨_, mE_5 hM.tx⟩ rfl rfl rfl (by simp only [List.map_cons, List.map_nil, rv_cat, Value.category, List.sum_cons, List.sum_nil]; decide) (by decide) rfl rfl (by decide) (by decide) dX4_admit_46 (fun E M9 h => h.elim) (fun v9 M2 hq9 => ?_)
      obtain ⟨e9, hM2, hs2, hF2⟩ := hq9
      have e9 : v9 = none := e9
      subst e9
      have eav2 : av = vA M2 x (ix v) := eav.trans (hs2.v xv).symm
      have wav2 : VeA M2 av (ix v) (onRoad S (ix v)) := by rw [eav2]; exact hM2.v.1 _ (onRoad_l1 _ _ xv)
      refine J_aload_n hC dX4_admit_49 rfl rfl ?_
      refine J_get4 hC lf_X4_99 (j := 3) wav2.tg (v := rv (mR M2 av 3)) rfl dX4_admit_50 ?_
      refine J_callV (k1 := 12) (n1 := 6292) (kd := 3) [] [rv (mR M2 av 3)] hC lv_X4_103 (ct_X2_lastValue hst wav2.T3) wav2.k3 (by decide) ⟨_, mE_3 wav2.k3⟩ rfl rfl rfl (by simp only [List.map_cons, List.map_nil, rv_cat, Value.category, List.sum_cons, List.sum_nil]; decide) (by decide) rfl rfl (by decide) (by decide) dX4_admit_53 (fun E M9 h => h.elim) (fun v9 M9 hq9 => ?_)
      obtain ⟨rfl, e9⟩ := hq9
      rw [e9]; clear e9
      rw [onRoad_lv]
      refine J_iret hC (by decide) (by decide) dX4_admit_56 ?_
      refine okm hM2 ((Fr.rf _ _).trans hF2) ?_
      simp [oAdmit, s10, s27, hv, rp9n, bz]
    · have s27 : sV S (ix v) 7 = 1 := (hI.sc _ xv).resolve_left c27
      refine J_throw hC lt_41 (by decide +kernel : (RX4, 97, "the vehicle is scrapped") ∈ strT) (by decide) (by decide) (by decide) (by decide) dX4_admit_30 dX4_admit_33 dX4_admit_34 dX4_admit_36 dX4_admit_39 ?_
      exact exc hM (k := 2) rfl (by simp [oAdmit, s10, s27, hv])
  · have s10 : sV S (ix v) 6 = 1 := (hI.ad _ xv).resolve_left c10
    refine J_throw hC lt_89 (by decide +kernel : (RX4, 91, "the vehicle has been admitted") ∈ strT) (by decide) (by decide) (by decide) (by decide) dX4_admit_13 dX4_admit_16 dX4_admit_17 dX4_admit_19 dX4_admit_22 ?_
    exact exc hM (k := 1) rfl (by simp [oAdmit, s10, hv])
