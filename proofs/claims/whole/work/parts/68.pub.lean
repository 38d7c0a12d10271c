theorem Inv.lvz {S : St} {t i : Nat} (hI : Inv S t) (hi : i < sN S 1) (h : isIx (lastV (sT S 1 i)) (sN S 2) = false) : lastV (sT S 1 i) = -1 := Classical.byContradiction fun q => by
  rw [(hI.mounted hi q).1] at h
  cases h
theorem voidQ_eq (S : St) (p : Nat) : uT (uQ S p 2 (-1)) 3 p (setT (sT S 3 p) (sD S) (-1)) = voidQ S p := rfl
theorem TB.void {S : St} {n : Nat} (h : TB S n) (p : Nat) (x : Int32) : TB (uT (uQ S p 2 x) 3 p (setT (sT S 3 p) (sD S) (-1))) (n + 1) := (h.q p 2 x).st 3 p (sD S) (-1)
theorem TB.keep {S : St} {n : Nat} (h : TB S n) (p : Nat) (x d : Int32) : TB (uT (uQ (uQ S p 2 x) p 3 d) 3 p (setT (sT S 3 p) d (-1))) (n + 1) := ((h.q p 2 x).q p 3 d).st 3 p d (-1)
theorem ct_X4_swapPlates {G : Gt} {l : Launch} (hst : l.stackTraces = false) {M : Mm} {x : Nat} {S : St} {t : Nat} (hM : CAt M x S) (hI : Inv S t) (hlt : t < 512) (v w : Int32) : Ct G l yX4_swapPlates cX4_swapPlates 7 (some .int) 8 M [rv x, .int v, .int w] 40 9000 (OkC M x (oSwap S v w)) (ExC M x S (oSwap S v w) [eIO, eUO, eIS]) := by
  obtain ⟨bK, bV, bP, bN⟩ := hM.b
  refine Ct_intro (own := RX4) (nm := "swapPlates") (by decide +kernel) rfl rfl hst (fun w hw => by simp only [List.mem_cons, List.not_mem_nil, or_false] at hw; rcases hw with rfl | rfl | rfl <;> first | rfl | exact rv_cat _) (Nat.le_of_ble_eq_true rfl) (fun γ hC => ?_)
  show J G γ M 0 [some (rv x), some (.int v), some (.int w)] [] 0 0
  refine J_aload_n hC dX4_swapPlates_0 rfl rfl ?_
  refine J_iload_n hC dX4_swapPlates_1 rfl rfl ?_
  refine J_callV (k1 := 1) (n1 := 6) (kd := 5) [.int v] [.int v, rv x] hC lv_X4_81 (ct_X4_vehicleAt hst hM v) hM.tx (by decide) ⟨_, mE_5 hM.tx⟩ rfl rfl rfl (by simp only [List.map_cons, List.map_nil, rv_cat, Value.category, List.sum_cons, List.sum_nil]; decide) (by decide) rfl rfl (by decide) (by decide) dX4_swapPlates_2 (fun E M9 hx => by
        obtain ⟨rfl, rfl, nv⟩ := hx
        exact exc hM (k := 0) rfl (by simp [oSwap, nv])) (fun v9 M9 hq9 => ?_)
  obtain ⟨rfl, e9, hv⟩ := hq9
  rw [e9]; clear e9
  have xv := (isIx_ix hv).2
  obtain ⟨av, eav⟩ : ∃ z, z = mR M (mR M x 0) (ix v) := ⟨_, rfl⟩
  have wv : VeA M av (ix v) S := by rw [eav]; exact hM.v.1 _ xv
  show J G γ M _ _ (rv (mR M (mR M x 0) (ix v)) :: _) _ _
  rw [← eav]
  refine J_astore_n hC dX4_swapPlates_5 rfl (by decide) (ls1 := [some (rv x), some (.int v), some (.int w), some (rv av)]) rfl ?_
  refine J_aload_n hC dX4_swapPlates_6 rfl rfl ?_
  refine J_iload_n hC dX4_swapPlates_7 rfl rfl ?_
  refine J_callV (k1 := 2) (n1 := 12) (kd := 5) [.int w] [.int w, rv x] hC lv_X4_81 (ct_X4_vehicleAt hst hM w) hM.tx (by decide) ⟨_, mE_5 hM.tx⟩ rfl rfl rfl (by simp only [List.map_cons, List.map_nil, rv_cat, Value.category, List.sum_cons, List.sum_nil]; decide) (by decide) rfl rfl (by decide) (by decide) dX4_swapPlates_8 (fun E M9 hx => by
        obtain ⟨rfl, rfl, nw⟩ := hx
        exact exc hM (k := 0) rfl (by simp [oSwap, hv, nw])) (fun v9 M9 hq9 => ?_)
  obtain ⟨rfl, e9, hw⟩ := hq9
  rw [e9]; clear e9
  have xw := (isIx_ix hw).2
  obtain ⟨aw, eaw⟩ : ∃ z, z = mR M (mR M x 0) (ix w) := ⟨_, rfl⟩
  have ww : VeA M aw (ix w) S := by rw [eaw]; exact hM.v.1 _ xw
  show J G γ M _ _ (rv (mR M (mR M x 0) (ix w)) :: _) _ _
  rw [← eaw]
  refine J_astore hC dX4_swapPlates_11 (by decide) (ls1 := [some (rv x), some (.int v), some (.int w), some (rv av), some (rv aw)]) rfl ?_
  refine J_iload_n hC dX4_swapPlates_13 rfl rfl ?_
  refine J_iload_n hC dX4_swapPlates_14 rfl rfl ?_
  refine J_icmp_eq hC dX4_swapPlates_15 (tgt := 36) (by decide) (fun c15 => ?_) (fun c15 => ?_)
  · have q15 : v = w := c15
    refine J_throwW hC lt_89 (by decide +kernel : (RX4, 263, "there are not two vehicles of one keeper") ∈ strT) (by decide) (by decide) (by decide) (by decide) dX4_swapPlates_36 dX4_swapPlates_39 dX4_swapPlates_40 dX4_swapPlates_43 dX4_swapPlates_46 ?_
    exact exc hM (k := 1) rfl (by simp [oSwap, q15, hv, hw])
  · have q15 : ¬ v = w := c15
    refine J_aload_n hC dX4_swapPlates_18 rfl rfl ?_
    refine J_get4 hC lf_X4_182 (j := 2) wv.tg (v := rv (mR M av 2)) rfl dX4_swapPlates_19 ?_
    refine J_callV (k1 := 2) (n1 := 12) (kd := 3) [] [rv (mR M av 2)] hC lv_X4_103 (ct_X2_lastValue hst wv.T2) wv.k2 (by decide) ⟨_, mE_3 wv.k2⟩ rfl rfl rfl (by simp only [List.map_cons, List.map_nil, rv_cat, Value.category, List.sum_cons, List.sum_nil]; decide) (by decide) rfl rfl (by decide) (by decide) dX4_swapPlates_22 (fun E M9 h => h.elim) (fun v9 M9 hq9 => ?_)
    obtain ⟨rfl, e9⟩ := hq9
    rw [e9]; clear e9
    refine J_aload hC dX4_swapPlates_25 rfl ?_
    refine J_get4 hC lf_X4_182 (j := 2) ww.tg (v := rv (mR M aw 2)) rfl dX4_swapPlates_27 ?_
    refine J_callV (k1 := 2) (n1 := 12) (kd := 3) [] [rv (mR M aw 2), .int (lastV (sT S 0 (ix v)))] hC lv_X4_103 (ct_X2_lastValue hst ww.T2) ww.k2 (by decide) ⟨_, mE_3 ww.k2⟩ rfl rfl rfl (by simp only [List.map_cons, List.map_nil, rv_cat, Value.category, List.sum_cons, List.sum_nil]; decide) (by decide) rfl rfl (by decide) (by decide) dX4_swapPlates_30 (fun E M9 h => h.elim) (fun v9 M9 hq9 => ?_)
    obtain ⟨rfl, e9⟩ := hq9
    rw [e9]; clear e9
    refine J_icmp_eq hC dX4_swapPlates_33 (tgt := 47) (by decide) (fun c33 => ?_) (fun c33 => ?_)
    · have q33 : lastV (sT S 0 (ix v)) = lastV (sT S 0 (ix w)) := c33
      refine J_aload_n hC dX4_swapPlates_47 rfl rfl ?_
      refine J_aload_n hC dX4_swapPlates_48 rfl rfl ?_
      refine J_callV (k1 := 3) (n1 := 18) (kd := 5) [rv av] [rv av, rv x] hC lv_X4_260 (ct_X4_requirePlateToChange hst hM wv (hI.sc _ xv)) hM.tx (by decide) ⟨_, mE_5 hM.tx⟩ rfl rfl rfl (by simp only [List.map_cons, List.map_nil, rv_cat, Value.category, List.sum_cons, List.sum_nil]; decide) (by decide) rfl rfl (by decide) (by decide) dX4_swapPlates_49 (fun E M9 hx => by
            obtain ⟨rfl, rfl, hpc⟩ := hx
            have hpc2 := hI.ptc xv hpc
            exact exc hM (k := 2) rfl (by rcases hpc2 with hpc2 | hpc2 <;> simp [oSwap, q15, q33, hv, hw, hpc2])) (fun v9 M9 hq9 => ?_)
      obtain ⟨rfl, e9, hqpv, hbqpv⟩ := hq9
      rw [e9]; clear e9
      have xqpv := (isIx_ix hqpv).2
      have hnqpv := isIx_n1 hqpv
      obtain ⟨bav, ebav⟩ : ∃ z, z = pA M x (ix (lastV (sT S 1 (ix v)))) := ⟨_, rfl⟩
      have wbav : PlA M bav (ix (lastV (sT S 1 (ix v)))) S := by rw [ebav]; exact hM.p.1 _ xqpv
      rw [← ebav]
      refine J_astore hC dX4_swapPlates_52 (by decide) (ls1 := [some (rv x), some (.int v), some (.int w), some (rv av), some (rv aw), some (rv bav)]) rfl ?_
      refine J_aload_n hC dX4_swapPlates_54 rfl rfl ?_
      refine J_aload hC dX4_swapPlates_55 rfl ?_
      refine J_callV (k1 := 4) (n1 := 24) (kd := 5) [rv aw] [rv aw, rv x] hC lv_X4_260 (ct_X4_requirePlateToChange hst hM ww (hI.sc _ xw)) hM.tx (by decide) ⟨_, mE_5 hM.tx⟩ rfl rfl rfl (by simp only [List.map_cons, List.map_nil, rv_cat, Value.category, List.sum_cons, List.sum_nil]; decide) (by decide) rfl rfl (by decide) (by decide) dX4_swapPlates_57 (fun E M9 hx => by
            obtain ⟨rfl, rfl, hpc⟩ := hx
            have hpc2 := hI.ptc xw hpc
            exact exc hM (k := 2) rfl (by rcases hpc2 with hpc2 | hpc2 <;> simp [oSwap, q15, q33, hv, hw, hbqpv, hnqpv, hpc2])) (fun v9 M9 hq9 => ?_)
      obtain ⟨rfl, e9, hqpw, hbqpw⟩ := hq9
      rw [e9]; clear e9
      have xqpw := (isIx_ix hqpw).2
      have hnqpw := isIx_n1 hqpw
      obtain ⟨baw, ebaw⟩ : ∃ z, z = pA M x (ix (lastV (sT S 1 (ix w)))) := ⟨_, rfl⟩
      have wbaw : PlA M baw (ix (lastV (sT S 1 (ix w)))) S := by rw [ebaw]; exact hM.p.1 _ xqpw
      rw [← ebaw]
      refine J_astore hC dX4_swapPlates_60 (by decide) (ls1 := [some (rv x), some (.int v), some (.int w), some (rv av), some (rv aw), some (rv bav), some (rv baw)]) rfl ?_
      refine J_aload_n hC dX4_swapPlates_62 rfl rfl ?_
      refine J_aload hC dX4_swapPlates_63 rfl ?_
      refine J_aload_n hC dX4_swapPlates_65 rfl rfl ?_
      refine J_callV (k1 := 8) (n1 := 4184) (kd := 5) [rv baw, rv av] [rv av, rv baw, rv x] hC lv_X4_243 (ct_X4_mount hst hM ebaw eav xqpw xv (hI.TB.mono (by omega))) hM.tx (by decide) ⟨_, mE_5 hM.tx⟩ rfl rfl rfl (by simp only [List.map_cons, List.map_nil, rv_cat, Value.category, List.sum_cons, List.sum_nil]; decide) (by decide) rfl rfl (by decide) (by decide) dX4_swapPlates_66 (fun E M9 h => h.elim) (fun v9 M2 hq9 => ?_)
      obtain ⟨rfl, hM2, hs2, hF2⟩ := hq9
      have eav2 : av = vA M2 x (ix v) := eav.trans (hs2.v _).symm
      have wav2 : VeA M2 av (ix v) (mountQ S (ix (lastV (sT S 1 (ix w)))) (ix v)) := by rw [eav2]; exact hM2.v.1 _ (mountQ_l1 _ _ xv)
      have eaw2 : aw = vA M2 x (ix w) := eaw.trans (hs2.v _).symm
      have waw2 : VeA M2 aw (ix w) (mountQ S (ix (lastV (sT S 1 (ix w)))) (ix v)) := by rw [eaw2]; exact hM2.v.1 _ (mountQ_l1 _ _ xw)
      have ebav2 : bav = pA M2 x (ix (lastV (sT S 1 (ix v)))) := ebav.trans (hs2.p _).symm
      have wbav2 : PlA M2 bav (ix (lastV (sT S 1 (ix v)))) (mountQ S (ix (lastV (sT S 1 (ix w)))) (ix v)) := by rw [ebav2]; exact hM2.p.1 _ (mountQ_l2 _ _ xqpv)
      have ebaw2 : baw = pA M2 x (ix (lastV (sT S 1 (ix w)))) := ebaw.trans (hs2.p _).symm
      have wbaw2 : PlA M2 baw (ix (lastV (sT S 1 (ix w)))) (mountQ S (ix (lastV (sT S 1 (ix w)))) (ix v)) := by rw [ebaw2]; exact hM2.p.1 _ (mountQ_l2 _ _ xqpw)
      refine J_aload_n hC dX4_swapPlates_69 rfl rfl ?_
      refine J_aload hC dX4_swapPlates_70 rfl ?_
      refine J_aload hC dX4_swapPlates_72 rfl ?_
      refine J_callV (k1 := 12) (n1 := 8344) (kd := 5) [rv bav, rv aw] [rv aw, rv bav, rv x] hC lv_X4_243 (ct_X4_mount hst hM2 ebav2 eaw2 (mountQ_l2 _ _ xqpv) (mountQ_l1 _ _ xw) ((hI.TB.mount _ _).mono (by omega))) hM2.tx (by decide) ⟨_, mE_5 hM2.tx⟩ rfl rfl rfl (by simp only [List.map_cons, List.map_nil, rv_cat, Value.category, List.sum_cons, List.sum_nil]; decide) (by decide) rfl rfl (by decide) (by decide) dX4_swapPlates_74 (fun E M9 h => h.elim) (fun v9 M3 hq9 => ?_)
      obtain ⟨rfl, hM3, hs3, hF3⟩ := hq9
      have eav3 : av = vA M3 x (ix v) := eav2.trans (hs3.v _).symm
      have wav3 : VeA M3 av (ix v) (mountQ (mountQ S (ix (lastV (sT S 1 (ix w)))) (ix v)) (ix (lastV (sT S 1 (ix v)))) (ix w)) := by rw [eav3]; exact hM3.v.1 _ (mountQ_l1 _ _ (mountQ_l1 _ _ xv))
      have eaw3 : aw = vA M3 x (ix w) := eaw2.trans (hs3.v _).symm
      have waw3 : VeA M3 aw (ix w) (mountQ (mountQ S (ix (lastV (sT S 1 (ix w)))) (ix v)) (ix (lastV (sT S 1 (ix v)))) (ix w)) := by rw [eaw3]; exact hM3.v.1 _ (mountQ_l1 _ _ (mountQ_l1 _ _ xw))
      have ebav3 : bav = pA M3 x (ix (lastV (sT S 1 (ix v)))) := ebav2.trans (hs3.p _).symm
      have wbav3 : PlA M3 bav (ix (lastV (sT S 1 (ix v)))) (mountQ (mountQ S (ix (lastV (sT S 1 (ix w)))) (ix v)) (ix (lastV (sT S 1 (ix v)))) (ix w)) := by rw [ebav3]; exact hM3.p.1 _ (mountQ_l2 _ _ (mountQ_l2 _ _ xqpv))
      have ebaw3 : baw = pA M3 x (ix (lastV (sT S 1 (ix w)))) := ebaw2.trans (hs3.p _).symm
      have wbaw3 : PlA M3 baw (ix (lastV (sT S 1 (ix w)))) (mountQ (mountQ S (ix (lastV (sT S 1 (ix w)))) (ix v)) (ix (lastV (sT S 1 (ix v)))) (ix w)) := by rw [ebaw3]; exact hM3.p.1 _ (mountQ_l2 _ _ (mountQ_l2 _ _ xqpw))
      refine J_aload hC dX4_swapPlates_77 rfl ?_
      refine J_get2 hC lf_X4_247 (j := 0) wbaw3.tg (v := .int (nI (ix (lastV (sT S 1 (ix w)))))) (congrArg (fun z => some (Value.int z)) wbaw3.v0) dX4_swapPlates_79 ?_
      refine J_iret hC (by decide) (by decide) dX4_swapPlates_82 ?_
      refine okm hM3 (hF2.trans hF3) ?_
      rw [← isIx_nI hqpw]
      simp [oSwap, hv, hw, q15, q33, hbqpv, hbqpw, hnqpv, hnqpw]
    · have q33 : ¬ lastV (sT S 0 (ix v)) = lastV (sT S 0 (ix w)) := c33
      refine J_throwW hC lt_89 (by decide +kernel : (RX4, 263, "there are not two vehicles of one keeper") ∈ strT) (by decide) (by decide) (by decide) (by decide) dX4_swapPlates_36 dX4_swapPlates_39 dX4_swapPlates_40 dX4_swapPlates_43 dX4_swapPlates_46 ?_
      exact exc hM (k := 1) rfl (by simp [oSwap, q15, q33, hv, hw])
theorem ct_X4_putOn {G : Gt} {l : Launch} (hst : l.stackTraces = false) {M : Mm} {x : Nat} {S : St} {t : Nat} (hM : CAt M x S) (hI : Inv S t) (hlt : t < 512) (v w : Int32) : Ct G l yX4_putOn cX4_putOn 6 (some .int) 8 M [rv x, .int v, .int w] 40 9000 (OkC M x (oPutOn S v w)) (ExC M x S (oPutOn S v w) [eNS, eIO, eUO, eIS]) := by
  obtain ⟨bK, bV, bP, bN⟩ := hM.b
  refine Ct_intro (own := RX4) (nm := "putOn") (by decide +kernel) rfl rfl hst (fun w hw => by simp only [List.mem_cons, List.not_mem_nil, or_false] at hw; rcases hw with rfl | rfl | rfl <;> first | rfl | exact rv_cat _) (Nat.le_of_ble_eq_true rfl) (fun γ hC => ?_)
  show J G γ M 0 [some (rv x), some (.int v), some (.int w)] [] 0 0
  refine J_aload_n hC dX4_putOn_0 rfl rfl ?_
  refine J_iload_n hC dX4_putOn_1 rfl rfl ?_
  refine J_callV (k1 := 1) (n1 := 6) (kd := 5) [.int v] [.int v, rv x] hC lv_X4_248 (ct_X4_plateAt hst hM v) hM.tx (by decide) ⟨_, mE_5 hM.tx⟩ rfl rfl rfl (by simp only [List.map_cons, List.map_nil, rv_cat, Value.category, List.sum_cons, List.sum_nil]; decide) (by decide) rfl rfl (by decide) (by decide) dX4_putOn_2 (fun E M9 hx => by
        obtain ⟨rfl, rfl, nv⟩ := hx
        exact exc hM (k := 0) rfl (by simp [oPutOn, nv])) (fun v9 M9 hq9 => ?_)
  obtain ⟨rfl, e9, hv⟩ := hq9
  rw [e9]; clear e9
  have xv := (isIx_ix hv).2
  obtain ⟨av, eav⟩ : ∃ z, z = mR M (mR M x 1) (ix v) := ⟨_, rfl⟩
  have wv : PlA M av (ix v) S := by rw [eav]; exact hM.p.1 _ xv
  show J G γ M _ _ (rv (mR M (mR M x 1) (ix v)) :: _) _ _
  rw [← eav]
  refine J_astore_n hC dX4_putOn_5 rfl (by decide) (ls1 := [some (rv x), some (.int v), some (.int w), some (rv av)]) rfl ?_
  refine J_aload_n hC dX4_putOn_6 rfl rfl ?_
  refine J_iload_n hC dX4_putOn_7 rfl rfl ?_
  refine J_callV (k1 := 2) (n1 := 12) (kd := 5) [.int w] [.int w, rv x] hC lv_X4_81 (ct_X4_vehicleAt hst hM w) hM.tx (by decide) ⟨_, mE_5 hM.tx⟩ rfl rfl rfl (by simp only [List.map_cons, List.map_nil, rv_cat, Value.category, List.sum_cons, List.sum_nil]; decide) (by decide) rfl rfl (by decide) (by decide) dX4_putOn_8 (fun E M9 hx => by
        obtain ⟨rfl, rfl, nw⟩ := hx
        exact exc hM (k := 1) rfl (by simp [oPutOn, hv, nw])) (fun v9 M9 hq9 => ?_)
  obtain ⟨rfl, e9, hw⟩ := hq9
  rw [e9]; clear e9
  have xw := (isIx_ix hw).2
  obtain ⟨aw, eaw⟩ : ∃ z, z = mR M (mR M x 0) (ix w) := ⟨_, rfl⟩
  have ww : VeA M aw (ix w) S := by rw [eaw]; exact hM.v.1 _ xw
  show J G γ M _ _ (rv (mR M (mR M x 0) (ix w)) :: _) _ _
  rw [← eaw]
  refine J_astore hC dX4_putOn_11 (by decide) (ls1 := [some (rv x), some (.int v), some (.int w), some (rv av), some (rv aw)]) rfl ?_
  refine J_aload_n hC dX4_putOn_13 rfl rfl ?_
  refine J_aload_n hC dX4_putOn_14 rfl rfl ?_
  refine J_get5 hC lf_X4_48 (j := 10) hM.tx (v := .int (sD S)) (congrArg (fun z => some (Value.int z)) hM.c10) dX4_putOn_15 ?_
  refine J_callV (k1 := 2) (n1 := 12) (kd := 2) [.int (sD S)] [.int (sD S), rv av] hC lv_X4_252 (ct_X1_isKept hst wv (sD S)) wv.tg (by decide) ⟨_, mE_2 wv.tg⟩ rfl rfl rfl (by simp only [List.map_cons, List.map_nil, rv_cat, Value.category, List.sum_cons, List.sum_nil]; decide) (by decide) rfl rfl (by decide) (by decide) dX4_putOn_18 (fun E M9 h => h.elim) (fun v9 M9 hq9 => ?_)
  obtain ⟨rfl, e9⟩ := hq9
  rw [e9]; clear e9
  show J G γ _ _ _ (.int (bz (keptQ S (ix v))) :: _) _ _
  refine J_if_eq hC dX4_putOn_21 (tgt := 39) (by decide) (fun c21 => ?_) (fun c21 => ?_)
  · have b21 : (keptQ S (ix v)) = false := bz_eq0 c21
    refine J_throwW hC lt_89 (by decide +kernel : (RX4, 258, "the plate is not kept for this keeper") ∈ strT) (by decide) (by decide) (by decide) (by decide) dX4_putOn_39 dX4_putOn_42 dX4_putOn_43 dX4_putOn_46 dX4_putOn_49 ?_
    exact exc hM (k := 2) rfl (by simp [oPutOn, b21, hv, hw])
  · have b21 : (keptQ S (ix v)) = true := bz_ne0 c21
    refine J_aload_n hC dX4_putOn_24 rfl rfl ?_
    refine J_get2 hC lf_X4_255 (j := 2) wv.tg (v := .int (sQ S (ix v) 2)) (congrArg (fun z => some (Value.int z)) wv.v2) dX4_putOn_25 ?_
    refine J_aload hC dX4_putOn_28 rfl ?_
    refine J_get4 hC lf_X4_182 (j := 2) ww.tg (v := rv (mR M aw 2)) rfl dX4_putOn_30 ?_
    refine J_callV (k1 := 2) (n1 := 12) (kd := 3) [] [rv (mR M aw 2), .int (sQ S (ix v) 2)] hC lv_X4_103 (ct_X2_lastValue hst ww.T2) ww.k2 (by decide) ⟨_, mE_3 ww.k2⟩ rfl rfl rfl (by simp only [List.map_cons, List.map_nil, rv_cat, Value.category, List.sum_cons, List.sum_nil]; decide) (by decide) rfl rfl (by decide) (by decide) dX4_putOn_33 (fun E M9 h => h.elim) (fun v9 M9 hq9 => ?_)
    obtain ⟨rfl, e9⟩ := hq9
    rw [e9]; clear e9
    refine J_icmp_eq hC dX4_putOn_36 (tgt := 50) (by decide) (fun c36 => ?_) (fun c36 => ?_)
    · have q36 : sQ S (ix v) 2 = lastV (sT S 0 (ix w)) := c36
      refine J_aload_n hC dX4_putOn_50 rfl rfl ?_
      refine J_aload hC dX4_putOn_51 rfl ?_
      refine J_callV (k1 := 3) (n1 := 18) (kd := 5) [rv aw] [rv aw, rv x] hC lv_X4_260 (ct_X4_requirePlateToChange hst hM ww (hI.sc _ xw)) hM.tx (by decide) ⟨_, mE_5 hM.tx⟩ rfl rfl rfl (by simp only [List.map_cons, List.map_nil, rv_cat, Value.category, List.sum_cons, List.sum_nil]; decide) (by decide) rfl rfl (by decide) (by decide) dX4_putOn_53 (fun E M9 hx => by
            obtain ⟨rfl, rfl, hpc⟩ := hx
            have hpc2 := hI.ptc xw hpc
            exact exc hM (k := 3) rfl (by rcases hpc2 with hpc2 | hpc2 <;> simp [oPutOn, b21, q36, hv, hw, hpc2])) (fun v9 M9 hq9 => ?_)
      obtain ⟨rfl, e9, hqpw, hbqpw⟩ := hq9
      rw [e9]; clear e9
      have xqpw := (isIx_ix hqpw).2
      have hnqpw := isIx_n1 hqpw
      obtain ⟨baw, ebaw⟩ : ∃ z, z = pA M x (ix (lastV (sT S 1 (ix w)))) := ⟨_, rfl⟩
      have wbaw : PlA M baw (ix (lastV (sT S 1 (ix w)))) S := by rw [ebaw]; exact hM.p.1 _ xqpw
      rw [← ebaw]
      refine J_astore hC dX4_putOn_56 (by decide) (ls1 := [some (rv x), some (.int v), some (.int w), some (rv av), some (rv aw), some (rv baw)]) rfl ?_
      refine J_aload hC dX4_putOn_58 rfl ?_
      refine J_aload_n hC dX4_putOn_60 rfl rfl ?_
      refine J_get5 hC lf_X4_48 (j := 10) hM.tx (v := .int (sD S)) (congrArg (fun z => some (Value.int z)) hM.c10) dX4_putOn_61 ?_
      refine J_callV (k1 := 5) (n1 := 2098) (kd := 2) [.int (sD S)] [.int (sD S), rv baw] hC lv_X4_139 (ct_X1_makeVoid hst hM ebaw xqpw ((hI.TB.mono (by omega)).p xqpw) (sD S)) wbaw.tg (by decide) ⟨_, mE_2 wbaw.tg⟩ rfl rfl rfl (by simp only [List.map_cons, List.map_nil, rv_cat, Value.category, List.sum_cons, List.sum_nil]; decide) (by decide) rfl rfl (by decide) (by decide) dX4_putOn_64 (fun E M9 h => h.elim) (fun v9 M2 hq9 => ?_)
      obtain ⟨rfl, hM2, hs2, hF2⟩ := hq9
      have eav2 : av = pA M2 x (ix v) := eav.trans (hs2.p _).symm
      have wav2 : PlA M2 av (ix v) (uT (uQ S (ix (lastV (sT S 1 (ix w)))) 2 (-1)) 3 (ix (lastV (sT S 1 (ix w)))) (setT (sT S 3 (ix (lastV (sT S 1 (ix w))))) (sD S) (-1))) := by rw [eav2]; exact hM2.p.1 _ xv
      have eaw2 : aw = vA M2 x (ix w) := eaw.trans (hs2.v _).symm
      have waw2 : VeA M2 aw (ix w) (uT (uQ S (ix (lastV (sT S 1 (ix w)))) 2 (-1)) 3 (ix (lastV (sT S 1 (ix w)))) (setT (sT S 3 (ix (lastV (sT S 1 (ix w))))) (sD S) (-1))) := by rw [eaw2]; exact hM2.v.1 _ xw
      have ebaw2 : baw = pA M2 x (ix (lastV (sT S 1 (ix w)))) := ebaw.trans (hs2.p _).symm
      have wbaw2 : PlA M2 baw (ix (lastV (sT S 1 (ix w)))) (uT (uQ S (ix (lastV (sT S 1 (ix w)))) 2 (-1)) 3 (ix (lastV (sT S 1 (ix w)))) (setT (sT S 3 (ix (lastV (sT S 1 (ix w))))) (sD S) (-1))) := by rw [ebaw2]; exact hM2.p.1 _ xqpw
      refine J_aload_n hC dX4_putOn_67 rfl rfl ?_
      refine J_aload_n hC dX4_putOn_68 rfl rfl ?_
      refine J_aload hC dX4_putOn_69 rfl ?_
      refine J_callV (k1 := 9) (n1 := 6258) (kd := 5) [rv av, rv aw] [rv aw, rv av, rv x] hC lv_X4_243 (ct_X4_mount hst hM2 eav2 eaw2 xv xw ((hI.TB.void _ (-1)).mono (by omega))) hM2.tx (by decide) ⟨_, mE_5 hM2.tx⟩ rfl rfl rfl (by simp only [List.map_cons, List.map_nil, rv_cat, Value.category, List.sum_cons, List.sum_nil]; decide) (by decide) rfl rfl (by decide) (by decide) dX4_putOn_71 (fun E M9 h => h.elim) (fun v9 M3 hq9 => ?_)
      obtain ⟨rfl, hM3, hs3, hF3⟩ := hq9
      have eav3 : av = pA M3 x (ix v) := eav2.trans (hs3.p _).symm
      have wav3 : PlA M3 av (ix v) (mountQ (uT (uQ S (ix (lastV (sT S 1 (ix w)))) 2 (-1)) 3 (ix (lastV (sT S 1 (ix w)))) (setT (sT S 3 (ix (lastV (sT S 1 (ix w))))) (sD S) (-1))) (ix v) (ix w)) := by rw [eav3]; exact hM3.p.1 _ (mountQ_l2 _ _ xv)
      have eaw3 : aw = vA M3 x (ix w) := eaw2.trans (hs3.v _).symm
      have waw3 : VeA M3 aw (ix w) (mountQ (uT (uQ S (ix (lastV (sT S 1 (ix w)))) 2 (-1)) 3 (ix (lastV (sT S 1 (ix w)))) (setT (sT S 3 (ix (lastV (sT S 1 (ix w))))) (sD S) (-1))) (ix v) (ix w)) := by rw [eaw3]; exact hM3.v.1 _ (mountQ_l1 _ _ xw)
      have ebaw3 : baw = pA M3 x (ix (lastV (sT S 1 (ix w)))) := ebaw2.trans (hs3.p _).symm
      have wbaw3 : PlA M3 baw (ix (lastV (sT S 1 (ix w)))) (mountQ (uT (uQ S (ix (lastV (sT S 1 (ix w)))) 2 (-1)) 3 (ix (lastV (sT S 1 (ix w)))) (setT (sT S 3 (ix (lastV (sT S 1 (ix w))))) (sD S) (-1))) (ix v) (ix w)) := by rw [ebaw3]; exact hM3.p.1 _ (mountQ_l2 _ _ xqpw)
      refine J_aload hC dX4_putOn_74 rfl ?_
      refine J_get2 hC lf_X4_247 (j := 0) wbaw3.tg (v := .int (nI (ix (lastV (sT S 1 (ix w)))))) (congrArg (fun z => some (Value.int z)) wbaw3.v0) dX4_putOn_76 ?_
      refine J_iret hC (by decide) (by decide) dX4_putOn_79 ?_
      refine okm hM3 (hF2.trans hF3) ?_
      rw [← isIx_nI hqpw, voidQ_eq]
      simp [oPutOn, hv, hw, b21, q36, hbqpw, hnqpw]
    · have q36 : ¬ sQ S (ix v) 2 = lastV (sT S 0 (ix w)) := c36
      refine J_throwW hC lt_89 (by decide +kernel : (RX4, 258, "the plate is not kept for this keeper") ∈ strT) (by decide) (by decide) (by decide) (by decide) dX4_putOn_39 dX4_putOn_42 dX4_putOn_43 dX4_putOn_46 dX4_putOn_49 ?_
      exact exc hM (k := 2) rfl (by simp [oPutOn, b21, q36, hv, hw])
theorem ct_X4_keepPlate {G : Gt} {l : Launch} (hst : l.stackTraces = false) {M : Mm} {x : Nat} {S : St} {t : Nat} (hM : CAt M x S) (hI : Inv S t) (hlt : t < 512) (v : Int32) : Ct G l yX4_keepPlate cX4_keepPlate 5 (some .int) 8 M [rv x, .int v] 40 9000 (OkC M x (oKeepPlate S v)) (ExC M x S (oKeepPlate S v) [eIO, eNS, eIS]) := by
  obtain ⟨bK, bV, bP, bN⟩ := hM.b
  refine Ct_intro (own := RX4) (nm := "keepPlate") (by decide +kernel) rfl rfl hst (fun w hw => by simp only [List.mem_cons, List.not_mem_nil, or_false] at hw; rcases hw with rfl | rfl <;> first | rfl | exact rv_cat _) (Nat.le_of_ble_eq_true rfl) (fun γ hC => ?_)
  show J G γ M 0 [some (rv x), some (.int v)] [] 0 0
  refine J_t0 (fun ht0 => ?_)
  refine J_aload_n hC dX4_keepPlate_0 rfl rfl ?_
  refine J_iload_n hC dX4_keepPlate_1 rfl rfl ?_
  refine J_callV (k1 := 1) (n1 := 6) (kd := 5) [.int v] [.int v, rv x] hC lv_X4_81 (ct_X4_vehicleAt hst hM v) hM.tx (by decide) ⟨_, mE_5 hM.tx⟩ rfl rfl rfl (by simp only [List.map_cons, List.map_nil, rv_cat, Value.category, List.sum_cons, List.sum_nil]; decide) (by decide) rfl rfl (by decide) (by decide) dX4_keepPlate_2 (fun E M9 hx => by
        obtain ⟨rfl, rfl, nv⟩ := hx
        exact exc hM (k := 0) rfl (by simp [oKeepPlate, nv])) (fun v9 M9 hq9 => ?_)
  obtain ⟨rfl, e9, hv⟩ := hq9
  rw [e9]; clear e9
  have xv := (isIx_ix hv).2
  obtain ⟨av, eav⟩ : ∃ z, z = mR M (mR M x 0) (ix v) := ⟨_, rfl⟩
  have wv : VeA M av (ix v) S := by rw [eav]; exact hM.v.1 _ xv
  show J G γ M _ _ (rv (mR M (mR M x 0) (ix v)) :: _) _ _
  rw [← eav]
  refine J_astore_n hC dX4_keepPlate_5 rfl (by decide) (ls1 := [some (rv x), some (.int v), some (rv av)]) rfl ?_
  refine J_aload_n hC dX4_keepPlate_6 rfl rfl ?_
  refine J_aload_n hC dX4_keepPlate_7 rfl rfl ?_
  refine J_callV (k1 := 1) (n1 := 6) (kd := 5) [rv av] [rv av, rv x] hC lv_X4_135 (ct_X4_plateOf hst hM wv) hM.tx (by decide) ⟨_, mE_5 hM.tx⟩ rfl rfl rfl (by simp only [List.map_cons, List.map_nil, rv_cat, Value.category, List.sum_cons, List.sum_nil]; decide) (by decide) rfl rfl (by decide) (by decide) dX4_keepPlate_8 (fun E M9 h => h.elim) (fun v9 M9 hq9 => ?_)
  obtain ⟨rfl, e9⟩ := hq9
  rw [e9]; clear e9
  refine J_astore_n hC dX4_keepPlate_11 rfl (by decide) (ls1 := [some (rv x), some (.int v), some (rv av), some (rv (plN M x S (lastV (sT S 1 (ix v)))))]) rfl ?_
  refine J_aload_n hC dX4_keepPlate_12 rfl rfl ?_
  refine J_ifnonnull hC dX4_keepPlate_13 (tgt := 26) (by decide) (fun c13 => ?_) (fun c13 => ?_)
  · have hp := (hM.plN_nz ht0).mp c13
    have hnp := isIx_n1 hp
    obtain ⟨ap, eap⟩ : ∃ z, z = pA M x (ix (lastV (sT S 1 (ix v)))) := ⟨_, rfl⟩
    rw [plN_y hp, ← eap]
    have xap := (isIx_ix hp).2
    have wap : PlA M ap (ix (lastV (sT S 1 (ix v)))) S := by rw [eap]; exact hM.p.1 _ xap
    refine J_aload_n hC dX4_keepPlate_26 rfl rfl ?_
    refine J_callS (k1 := 2) (n1 := 12) [rv av] [rv av] hC ls_X4_132 (ct_X4_requireUnblocked hst wv (hI.sc _ xv)) rfl rfl (by simp only [List.map_cons, List.map_nil, rv_cat, Value.category, List.sum_cons, List.sum_nil]; decide) (by decide) rfl rfl (by decide) (by decide) dX4_keepPlate_27 (fun E M9 hx => by
          obtain ⟨rfl, rfl, hbk⟩ := hx
          exact exc hM (k := 2) rfl (by simp [oKeepPlate, hv, hnp, hbk])) (fun v9 M9 hq9 => ?_)
    obtain ⟨rfl, e9, hub⟩ := hq9
    rw [e9]; clear e9
    refine J_aload_n hC dX4_keepPlate_30 rfl rfl ?_
    refine J_callV (k1 := 3) (n1 := 18) (kd := 5) [] [rv x] hC lv_X4_67 (ct_X4_requireRoomForPlate hst hM) hM.tx (by decide) ⟨_, mE_5 hM.tx⟩ rfl rfl rfl (by simp only [List.map_cons, List.map_nil, rv_cat, Value.category, List.sum_cons, List.sum_nil]; decide) (by decide) rfl rfl (by decide) (by decide) dX4_keepPlate_31 (fun E M9 hx => by
          obtain ⟨rfl, rfl, rp9⟩ := hx
          exact exc hM (k := 2) rfl (by simp [oKeepPlate, hv, hnp, hub, rp9])) (fun v9 M9 hq9 => ?_)
    obtain ⟨rfl, e9, rp9⟩ := hq9
    rw [e9]; clear e9
    have rp9n : ¬ sN S 2 = 40 := by omega
    refine J_aload_n hC dX4_keepPlate_34 rfl rfl ?_
    refine J_aload_n hC dX4_keepPlate_35 rfl rfl ?_
    refine J_get4 hC lf_X4_182 (j := 2) wv.tg (v := rv (mR M av 2)) rfl dX4_keepPlate_36 ?_
    refine J_callV (k1 := 3) (n1 := 18) (kd := 3) [] [rv (mR M av 2), rv ap] hC lv_X4_103 (ct_X2_lastValue hst wv.T2) wv.k2 (by decide) ⟨_, mE_3 wv.k2⟩ rfl rfl rfl (by simp only [List.map_cons, List.map_nil, rv_cat, List.sum_cons, List.sum_nil]; (try simp only [Value.category]); (try omega)) (by decide) rfl rfl (by decide) (by decide) dX4_keepPlate_39 (fun E M9 h => h.elim) (fun v9 M9 hq9 => ?_)
    obtain ⟨rfl, e9⟩ := hq9
    rw [e9]; clear e9
    refine J_aload_n hC dX4_keepPlate_42 rfl rfl ?_
    refine J_get5 hC lf_X4_48 (j := 10) hM.tx (v := .int (sD S)) (congrArg (fun z => some (Value.int z)) hM.c10) dX4_keepPlate_43 ?_
    refine J_callV (k1 := 5) (n1 := 2098) (kd := 2) [.int (lastV (sT S 0 (ix v))), .int (sD S)] [.int (sD S), .int (lastV (sT S 0 (ix v))), rv ap] hC lv_X4_236 (ct_X1_keepFor hst hM eap xap ((hI.TB.mono (by omega)).p xap) (lastV (sT S 0 (ix v))) (sD S)) wap.tg (by decide) ⟨_, mE_2 wap.tg⟩ rfl rfl rfl (by simp only [List.map_cons, List.map_nil, rv_cat, Value.category, List.sum_cons, List.sum_nil]; decide) (by decide) rfl rfl (by decide) (by decide) dX4_keepPlate_46 (fun E M9 h => h.elim) (fun v9 M2 hq9 => ?_)
    obtain ⟨rfl, hM2, hs2, hF2⟩ := hq9
    have eav2 : av = vA M2 x (ix v) := eav.trans (hs2.v _).symm
    have wav2 : VeA M2 av (ix v) (uT (uQ (uQ S (ix (lastV (sT S 1 (ix v)))) 2 (lastV (sT S 0 (ix v)))) (ix (lastV (sT S 1 (ix v)))) 3 (sD S)) 3 (ix (lastV (sT S 1 (ix v)))) (setT (sT S 3 (ix (lastV (sT S 1 (ix v))))) (sD S) (-1))) := by rw [eav2]; exact hM2.v.1 _ xv
    have eap2 : ap = pA M2 x (ix (lastV (sT S 1 (ix v)))) := eap.trans (hs2.p _).symm
    have wap2 : PlA M2 ap (ix (lastV (sT S 1 (ix v)))) (uT (uQ (uQ S (ix (lastV (sT S 1 (ix v)))) 2 (lastV (sT S 0 (ix v)))) (ix (lastV (sT S 1 (ix v)))) 3 (sD S)) 3 (ix (lastV (sT S 1 (ix v)))) (setT (sT S 3 (ix (lastV (sT S 1 (ix v))))) (sD S) (-1))) := by rw [eap2]; exact hM2.p.1 _ xap
    have hKB := (hI.TB.keep (ix (lastV (sT S 1 (ix v)))) (lastV (sT S 0 (ix v))) (sD S))
    have hKQ : keepQ S (ix v) = issueQ (uT (uQ (uQ S (ix (lastV (sT S 1 (ix v)))) 2 (lastV (sT S 0 (ix v)))) (ix (lastV (sT S 1 (ix v)))) 3 (sD S)) 3 (ix (lastV (sT S 1 (ix v)))) (setT (sT S 3 (ix (lastV (sT S 1 (ix v))))) (sD S) (-1))) (ix v) := rfl
    have hKN : sN (uT (uQ (uQ S (ix (lastV (sT S 1 (ix v)))) 2 (lastV (sT S 0 (ix v)))) (ix (lastV (sT S 1 (ix v)))) 3 (sD S)) 3 (ix (lastV (sT S 1 (ix v)))) (setT (sT S 3 (ix (lastV (sT S 1 (ix v))))) (sD S) (-1))) = sN S := by simp only [sN_uT, sN_uQ]
    obtain ⟨K, eK⟩ : ∃ z, z = uT (uQ (uQ S (ix (lastV (sT S 1 (ix v)))) 2 (lastV (sT S 0 (ix v)))) (ix (lastV (sT S 1 (ix v)))) 3 (sD S)) 3 (ix (lastV (sT S 1 (ix v)))) (setT (sT S 3 (ix (lastV (sT S 1 (ix v))))) (sD S) (-1)) := ⟨_, rfl⟩
    rw [← eK] at hM2 wav2 wap2 hKB hKQ hKN
    clear eK
    refine J_aload_n hC dX4_keepPlate_49 rfl rfl ?_
    refine J_callV (k1 := 9) (n1 := 2113) (kd := 5) [] [rv x] hC lv_X4_239 (ct_X4_issuePlate hst hM2 (by rw [hKN]; exact rp9)) hM2.tx (by decide) ⟨_, mE_5 hM2.tx⟩ rfl rfl rfl (by simp only [List.map_cons, List.map_nil, rv_cat, Value.category, List.sum_cons, List.sum_nil]; decide) (by decide) rfl rfl (by decide) (by decide) dX4_keepPlate_50 (fun E M9 h => h.elim) (fun v9 M3 hq9 => ?_)
    obtain ⟨e9, hM3, hs3, hF3⟩ := hq9
    have e9 : v9 = some (rv (pA M3 x (sN K 2))) := e9
    subst e9
    have eav3 : av = vA M3 x (ix v) := eav2.trans (hs3.v (by rw [hKN]; exact xv)).symm
    have wav3 : VeA M3 av (ix v) (newP K) := by rw [eav3]; exact hM3.v.1 _ (newP_l1 (by rw [hKN]; exact xv))
    have eap3 : ap = pA M3 x (ix (lastV (sT S 1 (ix v)))) := eap2.trans (hs3.p (by rw [hKN]; exact xap)).symm
    have wap3 : PlA M3 ap (ix (lastV (sT S 1 (ix v)))) (newP K) := by rw [eap3]; exact hM3.p.1 _ (newP_l2 (by rw [hKN]; exact xap))
    obtain ⟨afr, eafr⟩ : ∃ z, z = pA M3 x (sN K 2) := ⟨_, rfl⟩
    show J G γ M3 _ _ (rv (pA M3 x (sN K 2)) :: _) _ _
    rw [← eafr]
    have wafr : PlA M3 afr (sN K 2) (newP K) := by rw [eafr]; exact hM3.p.1 _ (newP_lt K)
    refine J_astore hC dX4_keepPlate_53 (by decide) (ls1 := [some (rv x), some (.int v), some (rv av), some (rv ap), some (rv afr)]) rfl ?_
    refine J_aload_n hC dX4_keepPlate_55 rfl rfl ?_
    refine J_aload hC dX4_keepPlate_56 rfl ?_
    refine J_aload_n hC dX4_keepPlate_58 rfl rfl ?_
    refine J_callV (k1 := 13) (n1 := 6273) (kd := 5) [rv afr, rv av] [rv av, rv afr, rv x] hC lv_X4_243 (ct_X4_mount hst hM3 eafr eav3 (newP_lt K) (newP_l1 (by rw [hKN]; exact xv)) (hKB.nP.mono (by omega))) hM3.tx (by decide) ⟨_, mE_5 hM3.tx⟩ rfl rfl rfl (by simp only [List.map_cons, List.map_nil, rv_cat, Value.category, List.sum_cons, List.sum_nil]; decide) (by decide) rfl rfl (by decide) (by decide) dX4_keepPlate_59 (fun E M9 h => h.elim) (fun v9 M4 hq9 => ?_)
    obtain ⟨rfl, hM4, hs4, hF4⟩ := hq9
    have eav4 : av = vA M4 x (ix v) := eav3.trans (hs4.v _).symm
    have wav4 : VeA M4 av (ix v) (mountQ (newP K) (sN K 2) (ix v)) := by rw [eav4]; exact hM4.v.1 _ (mountQ_l1 _ _ (newP_l1 (by rw [hKN]; exact xv)))
    have eap4 : ap = pA M4 x (ix (lastV (sT S 1 (ix v)))) := eap3.trans (hs4.p _).symm
    have wap4 : PlA M4 ap (ix (lastV (sT S 1 (ix v)))) (mountQ (newP K) (sN K 2) (ix v)) := by rw [eap4]; exact hM4.p.1 _ (mountQ_l2 _ _ (newP_l2 (by rw [hKN]; exact xap)))
    have eafr4 : afr = pA M4 x (sN K 2) := eafr.trans (hs4.p _).symm
    have wafr4 : PlA M4 afr (sN K 2) (mountQ (newP K) (sN K 2) (ix v)) := by rw [eafr4]; exact hM4.p.1 _ (mountQ_l2 _ _ (newP_lt K))
    refine J_aload hC dX4_keepPlate_62 rfl ?_
    refine J_get2 hC lf_X4_247 (j := 0) wafr4.tg (v := .int (nI (sN K 2))) (congrArg (fun z => some (Value.int z)) wafr4.v0) dX4_keepPlate_64 ?_
    refine J_iret hC (by decide) (by decide) dX4_keepPlate_67 ?_
    refine okm hM4 (hF2.trans (hF3.trans hF4)) ?_
    have hKI : mountQ (newP K) (sN K 2) (ix v) = keepQ S (ix v) := by rw [hKQ]; rfl
    rw [hKI, hKN]
    simp [oKeepPlate, hv, hnp, hub, rp9n]
  · refine J_throwN hC (by decide +kernel : (RX4, 233, "the vehicle has no plate") ∈ strT) (by decide) (by decide) (by decide) (by decide) dX4_keepPlate_16 dX4_keepPlate_19 dX4_keepPlate_20 dX4_keepPlate_22 dX4_keepPlate_25 ?_
    have hlz := hI.lvz xv (hM.plN_n ht0 (by first | exact nn c13 | exact c13))
    exact exc hM (k := 1) rfl (by simp [oKeepPlate, hv, hlz])
