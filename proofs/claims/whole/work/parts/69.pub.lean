theorem scb_set {S S1 : St} {i : Nat} (h : ∀ v, v < sN S 1 → sV S v 7 = 0 ∨ sV S v 7 = 1) (hN : sN S1 = sN S) (hV : sV S1 = up2 (sV S) i 7 1) : ScB S1 := fun v hv => by
  rw [hN] at hv
  rw [hV]
  unfold up2
  by_cases e : v = i
  · rw [if_pos e, if_pos rfl]; exact Or.inr rfl
  · rw [if_neg e]; exact h v hv
theorem ct_X4_scrap {G : Gt} {l : Launch} (hst : l.stackTraces = false) {M : Mm} {x : Nat} {S : St} {t : Nat} (hM : CAt M x S) (hI : Inv S t) (hlt : t < 512) (v : Int32) : Ct G l yX4_scrap cX4_scrap 4 (some .int) 8 M [rv x, .int v] 40 9000 (OkC M x (oScrap S v)) (ExC M x S (oScrap S v) [eIO, eIS]) := by
  obtain ⟨bK, bV, bP, bN⟩ := hM.b
  refine Ct_intro (own := RX4) (nm := "scrap") (by decide +kernel) rfl rfl hst (fun w hw => by simp only [List.mem_cons, List.not_mem_nil, or_false] at hw; rcases hw with rfl | rfl <;> first | rfl | exact rv_cat _) (Nat.le_of_ble_eq_true rfl) (fun γ hC => ?_)
  show J G γ M 0 [some (rv x), some (.int v)] [] 0 0
  refine J_aload_n hC dX4_scrap_0 rfl rfl ?_
  refine J_iload_n hC dX4_scrap_1 rfl rfl ?_
  refine J_callV (k1 := 1) (n1 := 6) (kd := 5) [.int v] [.int v, rv x] hC lv_X4_81 (ct_X4_vehicleAt hst hM v) hM.tx (by decide) ⟨_, mE_5 hM.tx⟩ rfl rfl rfl (by simp only [List.map_cons, List.map_nil, rv_cat, Value.category, List.sum_cons, List.sum_nil]; decide) (by decide) rfl rfl (by decide) (by decide) dX4_scrap_2 (fun E M9 hx => by
        obtain ⟨rfl, rfl, nv⟩ := hx
        exact exc hM (k := 0) rfl (by simp [oScrap, nv])) (fun v9 M9 hq9 => ?_)
  obtain ⟨rfl, e9, hv⟩ := hq9
  rw [e9]; clear e9
  have xv := (isIx_ix hv).2
  obtain ⟨av, eav⟩ : ∃ z, z = mR M (mR M x 0) (ix v) := ⟨_, rfl⟩
  have wv : VeA M av (ix v) S := by rw [eav]; exact hM.v.1 _ xv
  show J G γ M _ _ (rv (mR M (mR M x 0) (ix v)) :: _) _ _
  rw [← eav]
  refine J_astore_n hC dX4_scrap_5 rfl (by decide) (ls1 := [some (rv x), some (.int v), some (rv av)]) rfl ?_
  refine J_aload_n hC dX4_scrap_6 rfl rfl ?_
  refine J_callS (k1 := 2) (n1 := 12) [rv av] [rv av] hC ls_X4_132 (ct_X4_requireUnblocked hst wv (hI.sc _ xv)) rfl rfl (by simp only [List.map_cons, List.map_nil, rv_cat, Value.category, List.sum_cons, List.sum_nil]; decide) (by decide) rfl rfl (by decide) (by decide) dX4_scrap_7 (fun E M9 hx => by
        obtain ⟨rfl, rfl, hbk⟩ := hx
        exact exc hM (k := 1) rfl (by simp [oScrap, hv, hbk])) (fun v9 M9 hq9 => ?_)
  obtain ⟨rfl, e9, hub⟩ := hq9
  rw [e9]; clear e9
  have hl5 : (sT S 2 (ix v)).length ≤ 511 := by have := (hI.tl _ xv).2; omega
  refine J_aload_n hC dX4_scrap_10 rfl rfl ?_
  refine J_iconst hC dX4_scrap_11 (v := 1) (by decide) ?_
  refine J_put4_7 hC lf_X4_94 wv.tg (by decide) (by decide) dX4_scrap_12 ?_
  obtain ⟨M2, eM2⟩ : ∃ z, z = (pI M av 7 1) := ⟨_, rfl⟩
  rw [← eM2]
  obtain ⟨hM2, hs2, hF2⟩ : CAt M2 x (uV S (ix v) 7 1) ∧ Sm M M2 x ∧ Fr pC M M2 := by rw [eM2]; rw [eav]; exact hM.vc xv (Or.inr rfl) 1
  have eav2 : av = vA M2 x (ix v) := eav.trans (hs2.v _).symm
  have wav2 : VeA M2 av (ix v) (uV S (ix v) 7 1) := by rw [eav2]; exact hM2.v.1 _ xv
  refine J_aload_n hC dX4_scrap_15 rfl rfl ?_
  refine J_get4 hC lf_X4_118 (j := 4) wav2.tg (v := rv (mR M2 av 4)) rfl dX4_scrap_16 ?_
  refine J_aload_n hC dX4_scrap_19 rfl rfl ?_
  refine J_get5 hC lf_X4_48 (j := 10) hM2.tx (v := .int (sD (uV S (ix v) 7 1))) (congrArg (fun z => some (Value.int z)) hM2.c10) dX4_scrap_20 ?_
  refine J_iconst hC dX4_scrap_23 (v := 0) (by decide) ?_
  refine J_callV (k1 := 4) (n1 := 12 + (4 * (sT S 2 (ix v)).length)) (kd := 3) [.int (sD (uV S (ix v) 7 1)), .int 0] [.int 0, .int (sD (uV S (ix v) 7 1)), rv (mR M2 av 4)] hC lv_X4_121 (ct_X2_set hst wav2.T4 (Nat.le_trans hl5 (by decide)) (sD (uV S (ix v) 7 1)) 0) wav2.k4 (by decide) ⟨_, mE_3 wav2.k4⟩ rfl rfl rfl (by simp only [List.map_cons, List.map_nil, rv_cat, Value.category, List.sum_cons, List.sum_nil]; decide) (by decide) rfl rfl (by decide) (by omega) dX4_scrap_24 (fun E M9 h => h.elim) (fun v9 M9 hq9 => ?_)
  obtain ⟨rfl, hT9, hF9⟩ := hq9
  rw [eav2] at hT9
  obtain ⟨M3, eM3⟩ : ∃ z, z = M9 := ⟨_, rfl⟩
  rw [← eM3] at hT9 hF9 ⊢
  obtain ⟨hM3, hs3, hF3⟩ : CAt M3 x (uT (uV S (ix v) 7 1) 2 (ix v) (setT (sT (uV S (ix v) 7 1) 2 (ix v)) (sD (uV S (ix v) 7 1)) 0)) ∧ Sm M2 M3 x ∧ Fr pC M2 M3 := hM2.tv xv (r := 2) (by decide) hF9 hT9
  have eav3 : av = vA M3 x (ix v) := eav2.trans (hs3.v _).symm
  have wav3 : VeA M3 av (ix v) (uT (uV S (ix v) 7 1) 2 (ix v) (setT (sT (uV S (ix v) 7 1) 2 (ix v)) (sD (uV S (ix v) 7 1)) 0)) := by rw [eav3]; exact hM3.v.1 _ xv
  refine J_t0 (fun ht3 => ?_)
  have hKN : sN (uT (uV S (ix v) 7 1) 2 (ix v) (setT (sT (uV S (ix v) 7 1) 2 (ix v)) (sD (uV S (ix v) 7 1)) 0)) = sN S := by simp only [sN_uT, sN_uV]
  have hKD : sD (uT (uV S (ix v) 7 1) 2 (ix v) (setT (sT (uV S (ix v) 7 1) 2 (ix v)) (sD (uV S (ix v) 7 1)) 0)) = sD S := by simp only [sD_uT, sD_uV]
  have hKV : sV (uT (uV S (ix v) 7 1) 2 (ix v) (setT (sT (uV S (ix v) 7 1) 2 (ix v)) (sD (uV S (ix v) 7 1)) 0)) = up2 (sV S) (ix v) 7 1 := by simp only [sV_uT, sV_uV]
  have hK1 : sT (uT (uV S (ix v) 7 1) 2 (ix v) (setT (sT (uV S (ix v) 7 1) 2 (ix v)) (sD (uV S (ix v) 7 1)) 0)) 1 = sT S 1 := by simp only [sT_uT, sT_uV]; exact up2_row _ _ _ (by decide)
  have hK3 : sT (uT (uV S (ix v) 7 1) 2 (ix v) (setT (sT (uV S (ix v) 7 1) 2 (ix v)) (sD (uV S (ix v) 7 1)) 0)) 3 = sT S 3 := by simp only [sT_uT, sT_uV]; exact up2_row _ _ _ (by decide)
  have hscr : scrapV S (ix v) = uT (if lastV (sT (uT (uV S (ix v) 7 1) 2 (ix v) (setT (sT (uV S (ix v) 7 1) 2 (ix v)) (sD (uV S (ix v) 7 1)) 0)) 1 (ix v)) = -1 then uT (uV S (ix v) 7 1) 2 (ix v) (setT (sT (uV S (ix v) 7 1) 2 (ix v)) (sD (uV S (ix v) 7 1)) 0) else voidQ (uT (uV S (ix v) 7 1) 2 (ix v) (setT (sT (uV S (ix v) 7 1) 2 (ix v)) (sD (uV S (ix v) 7 1)) 0)) (ix (lastV (sT (uT (uV S (ix v) 7 1) 2 (ix v) (setT (sT (uV S (ix v) 7 1) 2 (ix v)) (sD (uV S (ix v) 7 1)) 0)) 1 (ix v))))) 1 (ix v) (setT (sT (if lastV (sT (uT (uV S (ix v) 7 1) 2 (ix v) (setT (sT (uV S (ix v) 7 1) 2 (ix v)) (sD (uV S (ix v) 7 1)) 0)) 1 (ix v)) = -1 then uT (uV S (ix v) 7 1) 2 (ix v) (setT (sT (uV S (ix v) 7 1) 2 (ix v)) (sD (uV S (ix v) 7 1)) 0) else voidQ (uT (uV S (ix v) 7 1) 2 (ix v) (setT (sT (uV S (ix v) 7 1) 2 (ix v)) (sD (uV S (ix v) 7 1)) 0)) (ix (lastV (sT (uT (uV S (ix v) 7 1) 2 (ix v) (setT (sT (uV S (ix v) 7 1) 2 (ix v)) (sD (uV S (ix v) 7 1)) 0)) 1 (ix v))))) 1 (ix v)) (sD S) (-1)) := rfl
  obtain ⟨K, eK⟩ : ∃ z, z = uT (uV S (ix v) 7 1) 2 (ix v) (setT (sT (uV S (ix v) 7 1) 2 (ix v)) (sD (uV S (ix v) 7 1)) 0) := ⟨_, rfl⟩
  rw [← eK] at hM3 wav3 hKN hKD hKV hK1 hK3 hscr
  clear eK
  have xvK : ix v < sN K 1 := by rw [hKN]; exact xv
  have hb1 : (sT K 1 (ix v)).length ≤ 511 := by rw [hK1]; have := (hI.tl _ xv).1; omega
  refine J_aload_n hC dX4_scrap_27 rfl rfl ?_
  refine J_aload_n hC dX4_scrap_28 rfl rfl ?_
  refine J_callV (k1 := 4) (n1 := 12 + (4 * (sT S 2 (ix v)).length)) (kd := 5) [rv av] [rv av, rv x] hC lv_X4_135 (ct_X4_plateOf hst hM3 wav3) hM3.tx (by decide) ⟨_, mE_5 hM3.tx⟩ rfl rfl rfl (by simp only [List.map_cons, List.map_nil, rv_cat, Value.category, List.sum_cons, List.sum_nil]; decide) (by decide) rfl rfl (by decide) (by omega) dX4_scrap_29 (fun E M9 h => h.elim) (fun v9 M9 hq9 => ?_)
  obtain ⟨rfl, e9⟩ := hq9
  rw [e9]; clear e9
  refine J_astore_n hC dX4_scrap_32 rfl (by decide) (ls1 := [some (rv x), some (.int v), some (rv av), some (rv (plN M3 x K (lastV (sT K 1 (ix v)))))]) rfl ?_
  refine J_aload_n hC dX4_scrap_33 rfl rfl ?_
  refine J_ifnull hC dX4_scrap_34 (tgt := 45) (by decide) (fun c34 => ?_) (fun c34 => ?_)
  · have hlz : lastV (sT K 1 (ix v)) = -1 := by
      have h8 := hM3.plN_n ht3 c34
      rw [hK1, hKN] at h8
      rw [hK1]; exact hI.lvz xv h8
    refine J_aload_n hC dX4_scrap_45 rfl rfl ?_
    refine J_get4 hC lf_X4_99 (j := 3) wav3.tg (v := rv (mR M3 av 3)) rfl dX4_scrap_46 ?_
    refine J_aload_n hC dX4_scrap_49 rfl rfl ?_
    refine J_get5 hC lf_X4_48 (j := 10) hM3.tx (v := .int (sD K)) (congrArg (fun z => some (Value.int z)) hM3.c10) dX4_scrap_50 ?_
    refine J_iconst hC dX4_scrap_53 (v := -1) (by decide) ?_
    refine J_callV (k1 := 6) (n1 := (12 + (4 * (sT S 2 (ix v)).length)) + (4 * (sT K 1 (ix v)).length)) (kd := 3) [.int (sD K), .int (-1)] [.int (-1), .int (sD K), rv (mR M3 av 3)] hC lv_X4_121 (ct_X2_set hst wav3.T3 (Nat.le_trans hb1 (by decide)) (sD K) (-1)) wav3.k3 (by decide) ⟨_, mE_3 wav3.k3⟩ rfl rfl rfl (by simp only [List.map_cons, List.map_nil, rv_cat, Value.category, List.sum_cons, List.sum_nil]; decide) (by decide) rfl rfl (by decide) (by omega) dX4_scrap_54 (fun E M9 h => h.elim) (fun v9 M9 hq9 => ?_)
    obtain ⟨rfl, hT9, hF9⟩ := hq9
    rw [eav3] at hT9
    obtain ⟨M4, eM4⟩ : ∃ z, z = M9 := ⟨_, rfl⟩
    rw [← eM4] at hT9 hF9 ⊢
    obtain ⟨hM4, hs4, hF4⟩ : CAt M4 x (uT K 1 (ix v) (setT (sT K 1 (ix v)) (sD K) (-1))) ∧ Sm M3 M4 x ∧ Fr pC M3 M4 := hM3.tv xvK (r := 1) (by decide) hF9 hT9
    have eav4 : av = vA M4 x (ix v) := eav3.trans (hs4.v _).symm
    have wav4 : VeA M4 av (ix v) (uT K 1 (ix v) (setT (sT K 1 (ix v)) (sD K) (-1))) := by rw [eav4]; exact hM4.v.1 _ xvK
    refine J_aload_n hC dX4_scrap_57 rfl rfl ?_
    refine J_callV (k1 := 6) (n1 := (12 + (4 * (sT S 2 (ix v)).length)) + (4 * (sT K 1 (ix v)).length)) (kd := 5) [] [rv x] hC lv_X4_142 (ct_X4_unscrapped hst hM4 (scb_set (i := ix v) hI.sc hKN hKV)) hM4.tx (by decide) ⟨_, mE_5 hM4.tx⟩ rfl rfl rfl (by simp only [List.map_cons, List.map_nil, rv_cat, Value.category, List.sum_cons, List.sum_nil]; decide) (by decide) rfl rfl (by decide) (by omega) dX4_scrap_58 (fun E M9 h => h.elim) (fun v9 M9 hq9 => ?_)
    obtain ⟨rfl, e9⟩ := hq9
    rw [e9]; clear e9
    refine J_iret hC (by decide) (by omega) dX4_scrap_61 ?_
    have hSF : uT K 1 (ix v) (setT (sT K 1 (ix v)) (sD K) (-1)) = scrapV S (ix v) := by rw [hscr, if_pos hlz, ← hKD]
    have hFF := ((((Fr.rf _ _).trans hF2).trans hF3).trans hF4)
    refine okm hM4 hFF ?_
    rw [hSF, scrap_N]
    simp [oScrap, hv, hub]
  · have hp := (hM3.plN_nz ht3).mp c34
    have hnp := isIx_n1 hp
    obtain ⟨ap, eap⟩ : ∃ z, z = pA M3 x (ix (lastV (sT K 1 (ix v)))) := ⟨_, rfl⟩
    rw [plN_y hp, ← eap]
    have xap := (isIx_ix hp).2
    have wap : PlA M3 ap (ix (lastV (sT K 1 (ix v)))) K := by rw [eap]; exact hM3.p.1 _ xap
    have hb3 : (sT K 3 (ix (lastV (sT K 1 (ix v))))).length ≤ 516 := by rw [hK3]; rw [hKN] at xap; have := hI.pl _ xap; omega
    refine J_aload_n hC dX4_scrap_37 rfl rfl ?_
    refine J_aload_n hC dX4_scrap_38 rfl rfl ?_
    refine J_get5 hC lf_X4_48 (j := 10) hM3.tx (v := .int (sD K)) (congrArg (fun z => some (Value.int z)) hM3.c10) dX4_scrap_39 ?_
    refine J_callV (k1 := 6) (n1 := (12 + (4 * (sT S 2 (ix v)).length)) + 2080) (kd := 2) [.int (sD K)] [.int (sD K), rv ap] hC lv_X4_139 (ct_X1_makeVoid hst hM3 eap xap hb3 (sD K)) wap.tg (by decide) ⟨_, mE_2 wap.tg⟩ rfl rfl rfl (by simp only [List.map_cons, List.map_nil, rv_cat, Value.category, List.sum_cons, List.sum_nil]; decide) (by decide) rfl rfl (by decide) (by omega) dX4_scrap_42 (fun E M9 h => h.elim) (fun v9 M5 hq9 => ?_)
    obtain ⟨rfl, hM5, hs5, hF5⟩ := hq9
    have eav5 : av = vA M5 x (ix v) := eav3.trans (hs5.v _).symm
    have wav5 : VeA M5 av (ix v) (uT (uQ K (ix (lastV (sT K 1 (ix v)))) 2 (-1)) 3 (ix (lastV (sT K 1 (ix v)))) (setT (sT K 3 (ix (lastV (sT K 1 (ix v))))) (sD K) (-1))) := by rw [eav5]; exact hM5.v.1 _ xvK
    have eap5 : ap = pA M5 x (ix (lastV (sT K 1 (ix v)))) := eap.trans (hs5.p _).symm
    have wap5 : PlA M5 ap (ix (lastV (sT K 1 (ix v)))) (uT (uQ K (ix (lastV (sT K 1 (ix v)))) 2 (-1)) 3 (ix (lastV (sT K 1 (ix v)))) (setT (sT K 3 (ix (lastV (sT K 1 (ix v))))) (sD K) (-1))) := by rw [eap5]; exact hM5.p.1 _ xap
    refine J_aload_n hC dX4_scrap_45 rfl rfl ?_
    refine J_get4 hC lf_X4_99 (j := 3) wav5.tg (v := rv (mR M5 av 3)) rfl dX4_scrap_46 ?_
    refine J_aload_n hC dX4_scrap_49 rfl rfl ?_
    refine J_get5 hC lf_X4_48 (j := 10) hM5.tx (v := .int (sD (uT (uQ K (ix (lastV (sT K 1 (ix v)))) 2 (-1)) 3 (ix (lastV (sT K 1 (ix v)))) (setT (sT K 3 (ix (lastV (sT K 1 (ix v))))) (sD K) (-1))))) (congrArg (fun z => some (Value.int z)) hM5.c10) dX4_scrap_50 ?_
    refine J_iconst hC dX4_scrap_53 (v := -1) (by decide) ?_
    refine J_callV (k1 := 8) (n1 := ((12 + (4 * (sT S 2 (ix v)).length)) + 2080) + (4 * (sT K 1 (ix v)).length)) (kd := 3) [.int (sD (uT (uQ K (ix (lastV (sT K 1 (ix v)))) 2 (-1)) 3 (ix (lastV (sT K 1 (ix v)))) (setT (sT K 3 (ix (lastV (sT K 1 (ix v))))) (sD K) (-1)))), .int (-1)] [.int (-1), .int (sD (uT (uQ K (ix (lastV (sT K 1 (ix v)))) 2 (-1)) 3 (ix (lastV (sT K 1 (ix v)))) (setT (sT K 3 (ix (lastV (sT K 1 (ix v))))) (sD K) (-1)))), rv (mR M5 av 3)] hC lv_X4_121 (ct_X2_set hst wav5.T3 (Nat.le_trans hb1 (by decide)) (sD (uT (uQ K (ix (lastV (sT K 1 (ix v)))) 2 (-1)) 3 (ix (lastV (sT K 1 (ix v)))) (setT (sT K 3 (ix (lastV (sT K 1 (ix v))))) (sD K) (-1)))) (-1)) wav5.k3 (by decide) ⟨_, mE_3 wav5.k3⟩ rfl rfl rfl (by simp only [List.map_cons, List.map_nil, rv_cat, Value.category, List.sum_cons, List.sum_nil]; decide) (by decide) rfl rfl (by decide) (by omega) dX4_scrap_54 (fun E M9 h => h.elim) (fun v9 M9 hq9 => ?_)
    obtain ⟨rfl, hT9, hF9⟩ := hq9
    rw [eav5] at hT9
    obtain ⟨M6, eM6⟩ : ∃ z, z = M9 := ⟨_, rfl⟩
    rw [← eM6] at hT9 hF9 ⊢
    obtain ⟨hM6, hs6, hF6⟩ : CAt M6 x (uT (uT (uQ K (ix (lastV (sT K 1 (ix v)))) 2 (-1)) 3 (ix (lastV (sT K 1 (ix v)))) (setT (sT K 3 (ix (lastV (sT K 1 (ix v))))) (sD K) (-1))) 1 (ix v) (setT (sT (uT (uQ K (ix (lastV (sT K 1 (ix v)))) 2 (-1)) 3 (ix (lastV (sT K 1 (ix v)))) (setT (sT K 3 (ix (lastV (sT K 1 (ix v))))) (sD K) (-1))) 1 (ix v)) (sD (uT (uQ K (ix (lastV (sT K 1 (ix v)))) 2 (-1)) 3 (ix (lastV (sT K 1 (ix v)))) (setT (sT K 3 (ix (lastV (sT K 1 (ix v))))) (sD K) (-1)))) (-1))) ∧ Sm M5 M6 x ∧ Fr pC M5 M6 := hM5.tv xvK (r := 1) (by decide) hF9 hT9
    have eav6 : av = vA M6 x (ix v) := eav5.trans (hs6.v _).symm
    have wav6 : VeA M6 av (ix v) (uT (uT (uQ K (ix (lastV (sT K 1 (ix v)))) 2 (-1)) 3 (ix (lastV (sT K 1 (ix v)))) (setT (sT K 3 (ix (lastV (sT K 1 (ix v))))) (sD K) (-1))) 1 (ix v) (setT (sT (uT (uQ K (ix (lastV (sT K 1 (ix v)))) 2 (-1)) 3 (ix (lastV (sT K 1 (ix v)))) (setT (sT K 3 (ix (lastV (sT K 1 (ix v))))) (sD K) (-1))) 1 (ix v)) (sD (uT (uQ K (ix (lastV (sT K 1 (ix v)))) 2 (-1)) 3 (ix (lastV (sT K 1 (ix v)))) (setT (sT K 3 (ix (lastV (sT K 1 (ix v))))) (sD K) (-1)))) (-1))) := by rw [eav6]; exact hM6.v.1 _ xvK
    have eap6 : ap = pA M6 x (ix (lastV (sT K 1 (ix v)))) := eap5.trans (hs6.p _).symm
    have wap6 : PlA M6 ap (ix (lastV (sT K 1 (ix v)))) (uT (uT (uQ K (ix (lastV (sT K 1 (ix v)))) 2 (-1)) 3 (ix (lastV (sT K 1 (ix v)))) (setT (sT K 3 (ix (lastV (sT K 1 (ix v))))) (sD K) (-1))) 1 (ix v) (setT (sT (uT (uQ K (ix (lastV (sT K 1 (ix v)))) 2 (-1)) 3 (ix (lastV (sT K 1 (ix v)))) (setT (sT K 3 (ix (lastV (sT K 1 (ix v))))) (sD K) (-1))) 1 (ix v)) (sD (uT (uQ K (ix (lastV (sT K 1 (ix v)))) 2 (-1)) 3 (ix (lastV (sT K 1 (ix v)))) (setT (sT K 3 (ix (lastV (sT K 1 (ix v))))) (sD K) (-1)))) (-1))) := by rw [eap6]; exact hM6.p.1 _ xap
    refine J_aload_n hC dX4_scrap_57 rfl rfl ?_
    refine J_callV (k1 := 8) (n1 := ((12 + (4 * (sT S 2 (ix v)).length)) + 2080) + (4 * (sT K 1 (ix v)).length)) (kd := 5) [] [rv x] hC lv_X4_142 (ct_X4_unscrapped hst hM6 (scb_set (i := ix v) hI.sc hKN hKV)) hM6.tx (by decide) ⟨_, mE_5 hM6.tx⟩ rfl rfl rfl (by simp only [List.map_cons, List.map_nil, rv_cat, Value.category, List.sum_cons, List.sum_nil]; decide) (by decide) rfl rfl (by decide) (by omega) dX4_scrap_58 (fun E M9 h => h.elim) (fun v9 M9 hq9 => ?_)
    obtain ⟨rfl, e9⟩ := hq9
    rw [e9]; clear e9
    refine J_iret hC (by decide) (by omega) dX4_scrap_61 ?_
    have hSF : uT (uT (uQ K (ix (lastV (sT K 1 (ix v)))) 2 (-1)) 3 (ix (lastV (sT K 1 (ix v)))) (setT (sT K 3 (ix (lastV (sT K 1 (ix v))))) (sD K) (-1))) 1 (ix v) (setT (sT (uT (uQ K (ix (lastV (sT K 1 (ix v)))) 2 (-1)) 3 (ix (lastV (sT K 1 (ix v)))) (setT (sT K 3 (ix (lastV (sT K 1 (ix v))))) (sD K) (-1))) 1 (ix v)) (sD (uT (uQ K (ix (lastV (sT K 1 (ix v)))) 2 (-1)) 3 (ix (lastV (sT K 1 (ix v)))) (setT (sT K 3 (ix (lastV (sT K 1 (ix v))))) (sD K) (-1)))) (-1)) = scrapV S (ix v) := by rw [hscr, if_neg hnp, ← hKD]; rfl
    have hFF := (((((Fr.rf _ _).trans hF2).trans hF3).trans hF5).trans hF6)
    refine okm hM6 hFF ?_
    rw [hSF, scrap_N]
    simp [oScrap, hv, hub]
