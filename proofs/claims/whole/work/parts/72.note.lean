theorem ct_X4_enterNotice {G : Gt} {l : Launch} (hst : l.stackTraces = false) {M : Mm} {x : Nat} {S : St} {t : Nat} (hM : CAt M x S) (hI : Inv S t) {a i : Nat} (ea : a = vA M x i) (hi : i < sN S 1) (hlt : sN S 3 < 120) {who to d : Int32} (hw : who = -1 ∨ isIx who (sN S 0) = true) (hto : isIx to (sN S 0) = true) (hd : isDay S d = true) : Ct G l yX4_enterNotice cX4_enterNotice 6 (some .int) 8 M [rv x, .int who, rv a, .int to, .int d] 242 11660 (fun r9 M9 => r9 = some (.int (nI (sN S 3))) ∧ CAt M9 x (enterQ S who i to d) ∧ Fr pC M M9) (noX) := by
  obtain ⟨bK, bV, bP, bN⟩ := hM.b
  have wa : VeA M a i S := by rw [ea]; exact hM.v.1 _ hi
  refine Ct_intro (own := RX4) (nm := "enterNotice") (by decide +kernel) rfl rfl hst (fun w hw => by simp only [List.mem_cons, List.not_mem_nil, or_false] at hw; rcases hw with rfl | rfl | rfl | rfl | rfl <;> first | rfl | exact rv_cat _) (Nat.le_of_ble_eq_true rfl) (fun γ hC => ?_)
  show J G γ M 0 [some (rv x), some (.int who), some (rv a), some (.int to), some (.int d)] [] 0 0
  refine J_new1 (sN S 3) hC lc_X4_21 in_X0 it_X0 rfl rfl (by decide) (by decide) dX4_enterNotice_0 (k1 := 1) (n1 := 7) (fun q hq zq => ?_)
  have eT2 : mT (nwM M q (1, sN S 3) 0) q = (1, sN S 3) := nw_T _ _ _ _
  obtain ⟨hM2, hs2⟩ := hM.nw hq (1, sN S 3) 0
  obtain ⟨M2, eM2⟩ : ∃ z, z = nwM M q (1, sN S 3) 0 := ⟨_, rfl⟩
  have F2 : Fr (fun t => t = (1, sN S 3)) M M2 := by rw [eM2]; exact Fr.nw hq
  rw [← eM2] at eT2 hM2 hs2 ⊢
  have ea2 : a = vA M2 x i := ea.trans (hs2.v i).symm
  have wa2 : VeA M2 a i S := by rw [ea2]; exact hM2.v.1 _ hi
  refine J_dup hC dX4_enterNotice_3 (rv_cat _) ?_
  refine J_aload_n hC dX4_enterNotice_4 rfl rfl ?_
  refine J_get5 hC lf_X4_334 (j := 9) hM2.tx (v := .int (nI (sN S 3))) (congrArg (fun z => some (Value.int z)) hM2.c9) dX4_enterNotice_5 ?_
  refine J_iload_n hC dX4_enterNotice_8 rfl rfl ?_
  refine J_aload_n hC dX4_enterNotice_9 rfl rfl ?_
  refine J_get4 hC lf_X4_78 (j := 0) wa2.tg (v := .int (nI i)) (congrArg (fun z => some (Value.int z)) wa2.v0) dX4_enterNotice_10 ?_
  refine J_iload_n hC dX4_enterNotice_13 rfl rfl ?_
  refine J_iload hC dX4_enterNotice_14 rfl ?_
  refine J_callI (k1 := 1) (n1 := 7) [.int (nI (sN S 3)), .int who, .int (nI i), .int to, .int d] [.int d, .int to, .int (nI i), .int who, .int (nI (sN S 3)), rv q, rv q] hC li_X4_365 (ct_X0_init hst zq eT2 who (nI i) to d) zq rfl rfl (by simp only [List.map_cons, List.map_nil, rv_cat, List.sum_cons, List.sum_nil]; decide) (by decide) rfl rfl (by decide) (by decide) dX4_enterNotice_16 (fun v9 M9 hq9 => ?_)
  obtain ⟨rfl, t3, u0, u1, u2, u3, u4, u5, u6, F3⟩ := hq9
  obtain ⟨hM3, hs3, hP3⟩ := hM.mko hlt (F2.trans F3) t3 u0 u1 u2 u3 u4 u5 u6
  refine J_astore hC dX4_enterNotice_19 (by decide) (ls1 := [some (rv x), some (.int who), some (rv a), some (.int to), some (.int d), some (rv q)]) rfl ?_
  refine J_aload_n hC dX4_enterNotice_21 rfl rfl ?_
  refine J_get5 hC lf_X4_334 (j := 9) hM3.tx (v := .int (nI (sN S 3))) (congrArg (fun z => some (Value.int z)) hM3.c9) dX4_enterNotice_22 ?_
  refine J_aload_n hC dX4_enterNotice_25 rfl rfl ?_
  refine J_get5 hC lf_X4_23 (j := 2) hM3.tx (v := rv (mR M9 x 2)) rfl dX4_enterNotice_26 ?_
  refine J_alen11 hC hM3.tk2 dX4_enterNotice_29 ?_
  rw [hM3.lk2]
  refine J_icmp_ge hC dX4_enterNotice_30 (tgt := 54) (by decide) (fun c9 => ?_) (fun c9 => ?_)
  · exact absurd (le_nI (n := 120) (by omega) (by omega) c9) (by omega)
  refine J_aload_n hC dX4_enterNotice_33 rfl rfl ?_
  refine J_get5 hC lf_X4_23 (j := 2) hM3.tx (v := rv (mR M9 x 2)) rfl dX4_enterNotice_34 ?_
  refine J_aload_n hC dX4_enterNotice_37 rfl rfl ?_
  refine J_get5 hC lf_X4_334 (j := 9) hM3.tx (v := .int (nI (sN S 3))) (congrArg (fun z => some (Value.int z)) hM3.c9) dX4_enterNotice_38 ?_
  refine J_aload hC dX4_enterNotice_41 rfl ?_
  refine J_aast11 hC hM3.tk2 hP3.tg (j := sN S 3) (nI_toInt (by omega)) (by rw [hM3.lk2]; omega) dX4_enterNotice_43 ?_
  refine J_aload_n hC dX4_enterNotice_44 rfl rfl ?_
  refine J_dup hC dX4_enterNotice_45 (rv_cat _) ?_
  refine J_get5 hC lf_X4_334 (j := 9) hM3.tx (v := .int (nI (sN S 3))) (congrArg (fun z => some (Value.int z)) hM3.c9) dX4_enterNotice_46 ?_
  refine J_iconst hC dX4_enterNotice_49 (v := 1) (by decide) ?_
  refine J_iadd hC dX4_enterNotice_50 ?_
  rw [nI_1]
  refine J_put5_9 hC lf_X4_334 hM3.tx dX4_enterNotice_51 ?_
  obtain ⟨c1, c2, c3, c4⟩ := hM3.newO hlt hP3
  obtain ⟨M4, eM4⟩ : ∃ z, z = adM M9 x 2 9 (sN S 3) q := ⟨_, rfl⟩
  show J G γ (adM M9 x 2 9 (sN S 3) q) _ _ _ _ _
  rw [← eM4] at c1 c2 c3 c4 ⊢
  have hw4 : Sw M M4 x S := (hs3.w S).trans c2 (Nat.le_refl _) (Nat.le_refl _) (Nat.le_refl _)
  have ea4 : a = vA M4 x i := ea.trans (hw4.v hi).symm
  have hI4 : Inv (noteS S who i to d) t := hI.note hlt hw hi hto hd
  refine J_aload_n hC dX4_enterNotice_54 rfl rfl ?_
  refine J_aload_n hC dX4_enterNotice_55 rfl rfl ?_
  refine J_callV (k1 := 241) (n1 := 11657) (kd := 5) [rv a] [rv a, rv x] hC lv_X4_225 (ct_X4_settle hst c1 hI4 ea4 (show i < sN (noteS S who i to d) 1 from hi)) c1.tx (by decide) ⟨_, mE_5 c1.tx⟩ rfl rfl rfl (by simp only [List.map_cons, List.map_nil, rv_cat, Value.category, List.sum_cons, List.sum_nil]; decide) (by decide) rfl rfl (by decide) (by decide) dX4_enterNotice_56 (fun E M9 h => h.elim) (fun v9 M5 hq9 => ?_)
  obtain ⟨rfl, hM5, hs5, hF5⟩ := hq9
  have hN5 := (hI4.settle 120 (show i < sN (noteS S who i to d) 1 from hi)).2
  have hl5 : sN S 3 < sN (settleQ 120 (noteS S who i to d) i) 3 := by
    rw [hN5]
    show sN S 3 < va_up (sN S) 3 (sN S 3 + 1) 3
    rw [va_up_self]; omega
  have eq5 : q = nA M5 x (sN S 3) := ((hs5.n _).trans c3).symm
  have wq5 : NtA M5 q (sN S 3) (settleQ 120 (noteS S who i to d) i) := by rw [eq5]; exact hM5.o.1 _ hl5
  refine J_aload hC dX4_enterNotice_59 rfl ?_
  refine J_get1 hC lf_X4_368 (j := 0) wq5.tg (v := .int (nI (sN S 3))) (congrArg (fun z => some (Value.int z)) wq5.v0) dX4_enterNotice_61 ?_
  refine J_iret hC (by decide) (by decide) dX4_enterNotice_64 ?_
  exact ⟨rfl, hM5, (((F2.trans F3).mono (fun t ht => by rw [ht]; exact Or.inl (show 1 ≤ 5 by decide))).trans c4).trans hF5⟩
theorem ct_X4_sell {G : Gt} {l : Launch} (hst : l.stackTraces = false) {M : Mm} {x : Nat} {S : St} {t : Nat} (hM : CAt M x S) (hI : Inv S t) (hlt : t < 512) (v w b d : Int32) : Ct G l yX4_sell cX4_sell 6 (some .int) 9 M [rv x, .int v, .int w, .int b, .int d] 300 12000 (OkC M x (oSell S v w b d)) (ExC M x S (oSell S v w b d) [eIO, eIA, eUO, eIS]) := by
  obtain ⟨bK, bV, bP, bN⟩ := hM.b
  refine Ct_intro (own := RX4) (nm := "sell") (by decide +kernel) rfl rfl hst (fun w hw => by simp only [List.mem_cons, List.not_mem_nil, or_false] at hw; rcases hw with rfl | rfl | rfl | rfl | rfl <;> first | rfl | exact rv_cat _) (Nat.le_of_ble_eq_true rfl) (fun γ hC => ?_)
  show J G γ M 0 [some (rv x), some (.int v), some (.int w), some (.int b), some (.int d)] [] 0 0
  refine J_aload_n hC dX4_sell_0 rfl rfl ?_
  refine J_iload_n hC dX4_sell_1 rfl rfl ?_
  refine J_callV (k1 := 1) (n1 := 6) (kd := 5) [.int v] [.int v, rv x] hC lv_X4_56 (ct_X4_requireKeeper hst hM v) hM.tx (by decide) ⟨_, mE_5 hM.tx⟩ rfl rfl rfl (by simp only [List.map_cons, List.map_nil, rv_cat, Value.category, List.sum_cons, List.sum_nil]; decide) (by decide) rfl rfl (by decide) (by decide) dX4_sell_2 (fun E M9 hx => by
        obtain ⟨rfl, rfl, nv⟩ := hx
        exact exc hM (k := 0) rfl (by simp [oSell, nv])) (fun v9 M9 hq9 => ?_)
  obtain ⟨rfl, e9, hv⟩ := hq9
  rw [e9]; clear e9
  have xv := (isIx_ix hv).2
  refine J_aload_n hC dX4_sell_5 rfl rfl ?_
  refine J_iload_n hC dX4_sell_6 rfl rfl ?_
  refine J_callV (k1 := 2) (n1 := 12) (kd := 5) [.int b] [.int b, rv x] hC lv_X4_56 (ct_X4_requireKeeper hst hM b) hM.tx (by decide) ⟨_, mE_5 hM.tx⟩ rfl rfl rfl (by simp only [List.map_cons, List.map_nil, rv_cat, Value.category, List.sum_cons, List.sum_nil]; decide) (by decide) rfl rfl (by decide) (by decide) dX4_sell_7 (fun E M9 hx => by
        obtain ⟨rfl, rfl, nb⟩ := hx
        exact exc hM (k := 0) rfl (by simp [oSell, hv, nb])) (fun v9 M9 hq9 => ?_)
  obtain ⟨rfl, e9, hb⟩ := hq9
  rw [e9]; clear e9
  have xb := (isIx_ix hb).2
  refine J_aload_n hC dX4_sell_10 rfl rfl ?_
  refine J_iload_n hC dX4_sell_11 rfl rfl ?_
  refine J_callV (k1 := 3) (n1 := 18) (kd := 5) [.int w] [.int w, rv x] hC lv_X4_81 (ct_X4_vehicleAt hst hM w) hM.tx (by decide) ⟨_, mE_5 hM.tx⟩ rfl rfl rfl (by simp only [List.map_cons, List.map_nil, rv_cat, Value.category, List.sum_cons, List.sum_nil]; decide) (by decide) rfl rfl (by decide) (by decide) dX4_sell_12 (fun E M9 hx => by
        obtain ⟨rfl, rfl, nw⟩ := hx
        exact exc hM (k := 0) rfl (by simp [oSell, hv, hb, nw])) (fun v9 M9 hq9 => ?_)
  obtain ⟨rfl, e9, hw⟩ := hq9
  rw [e9]; clear e9
  have xw := (isIx_ix hw).2
  obtain ⟨aw, eaw⟩ : ∃ z, z = mR M (mR M x 0) (ix w) := ⟨_, rfl⟩
  have ww : VeA M aw (ix w) S := by rw [eaw]; exact hM.v.1 _ xw
  show J G γ M _ _ (rv (mR M (mR M x 0) (ix w)) :: _) _ _
  rw [← eaw]
  refine J_astore hC dX4_sell_15 (by decide) (ls1 := [some (rv x), some (.int v), some (.int w), some (.int b), some (.int d), some (rv aw)]) rfl ?_
  refine J_aload_n hC dX4_sell_17 rfl rfl ?_
  refine J_iload hC dX4_sell_18 rfl ?_
  refine J_callV (k1 := 4) (n1 := 24) (kd := 5) [.int d] [.int d, rv x] hC lv_X4_125 (ct_X4_requireDay hst hM d) hM.tx (by decide) ⟨_, mE_5 hM.tx⟩ rfl rfl rfl (by simp only [List.map_cons, List.map_nil, rv_cat, Value.category, List.sum_cons, List.sum_nil]; decide) (by decide) rfl rfl (by decide) (by decide) dX4_sell_20 (fun E M9 hx => by
        obtain ⟨rfl, rfl, ndd⟩ := hx
        exact exc hM (k := 1) rfl (by simp [oSell, hv, hb, hw, ndd])) (fun v9 M9 hq9 => ?_)
  obtain ⟨rfl, e9, hdd⟩ := hq9
  rw [e9]; clear e9
  refine J_iload_n hC dX4_sell_23 rfl rfl ?_
  refine J_iload_n hC dX4_sell_24 rfl rfl ?_
  refine J_icmp_ne hC dX4_sell_25 (tgt := 38) (by decide) (fun c25 => ?_) (fun c25 => ?_)
  · have q25 : ¬ v = b := c25
    refine J_aload_n hC dX4_sell_38 rfl rfl ?_
    refine J_callV (k1 := 5) (n1 := 30) (kd := 5) [] [rv x] hC lv_X4_154 (ct_X4_requireRoomForNotice hst hM) hM.tx (by decide) ⟨_, mE_5 hM.tx⟩ rfl rfl rfl (by simp only [List.map_cons, List.map_nil, rv_cat, Value.category, List.sum_cons, List.sum_nil]; decide) (by decide) rfl rfl (by decide) (by decide) dX4_sell_39 (fun E M9 hx => by
          obtain ⟨rfl, rfl, rn9⟩ := hx
          exact exc hM (k := 3) rfl (by simp [oSell, q25, hv, hb, hw, hdd, rn9])) (fun v9 M9 hq9 => ?_)
    obtain ⟨rfl, e9, rn9⟩ := hq9
    rw [e9]; clear e9
    have rn9n : ¬ sN S 3 = 120 := by omega
    refine J_aload_n hC dX4_sell_42 rfl rfl ?_
    refine J_iload_n hC dX4_sell_43 rfl rfl ?_
    refine J_aload hC dX4_sell_44 rfl ?_
    refine J_iload_n hC dX4_sell_46 rfl rfl ?_
    refine J_iload hC dX4_sell_47 rfl ?_
    refine J_callV (k1 := 247) (n1 := 11690) (kd := 5) [.int v, rv aw, .int b, .int d] [.int d, .int b, rv aw, .int v, rv x] hC lv_X4_157 (ct_X4_enterNotice hst hM hI eaw xw rn9 (Or.inr hv) hb hdd) hM.tx (by decide) ⟨_, mE_5 hM.tx⟩ rfl rfl rfl (by simp only [List.map_cons, List.map_nil, rv_cat, Value.category, List.sum_cons, List.sum_nil]; decide) (by decide) rfl rfl (by decide) (by decide) dX4_sell_49 (fun E M9 h => h.elim) (fun v9 M2 hq9 => ?_)
    obtain ⟨rfl, hM2, hF2⟩ := hq9
    refine J_iret hC (by decide) (by decide) dX4_sell_52 ?_
    refine okm hM2 hF2 ?_
    simp [oSell, q25, hv, hb, hw, hdd, rn9n, bz]
  · have q25 : v = b := (nn c25)
    refine J_throw hC lt_89 (by decide +kernel : (RX4, 152, "the seller and the buyer are the same") ∈ strT) (by decide) (by decide) (by decide) (by decide) dX4_sell_28 dX4_sell_31 dX4_sell_32 dX4_sell_34 dX4_sell_37 ?_
    exact exc hM (k := 2) rfl (by simp [oSell, q25, hv, hb, hw, hdd])
theorem ct_X4_buy {G : Gt} {l : Launch} (hst : l.stackTraces = false) {M : Mm} {x : Nat} {S : St} {t : Nat} (hM : CAt M x S) (hI : Inv S t) (hlt : t < 512) (b w d : Int32) : Ct G l yX4_buy cX4_buy 5 (some .int) 9 M [rv x, .int b, .int w, .int d] 300 12000 (OkC M x (oBuy S b w d)) (ExC M x S (oBuy S b w d) [eIO, eIA, eIS]) := by
  obtain ⟨bK, bV, bP, bN⟩ := hM.b
  refine Ct_intro (own := RX4) (nm := "buy") (by decide +kernel) rfl rfl hst (fun w hw => by simp only [List.mem_cons, List.not_mem_nil, or_false] at hw; rcases hw with rfl | rfl | rfl | rfl <;> first | rfl | exact rv_cat _) (Nat.le_of_ble_eq_true rfl) (fun γ hC => ?_)
  show J G γ M 0 [some (rv x), some (.int b), some (.int w), some (.int d)] [] 0 0
  refine J_aload_n hC dX4_buy_0 rfl rfl ?_
  refine J_iload_n hC dX4_buy_1 rfl rfl ?_
  refine J_callV (k1 := 1) (n1 := 6) (kd := 5) [.int b] [.int b, rv x] hC lv_X4_56 (ct_X4_requireKeeper hst hM b) hM.tx (by decide) ⟨_, mE_5 hM.tx⟩ rfl rfl rfl (by simp only [List.map_cons, List.map_nil, rv_cat, Value.category, List.sum_cons, List.sum_nil]; decide) (by decide) rfl rfl (by decide) (by decide) dX4_buy_2 (fun E M9 hx => by
        obtain ⟨rfl, rfl, nb⟩ := hx
        exact exc hM (k := 0) rfl (by simp [oBuy, nb])) (fun v9 M9 hq9 => ?_)
  obtain ⟨rfl, e9, hb⟩ := hq9
  rw [e9]; clear e9
  have xb := (isIx_ix hb).2
  refine J_aload_n hC dX4_buy_5 rfl rfl ?_
  refine J_iload_n hC dX4_buy_6 rfl rfl ?_
  refine J_callV (k1 := 2) (n1 := 12) (kd := 5) [.int w] [.int w, rv x] hC lv_X4_81 (ct_X4_vehicleAt hst hM w) hM.tx (by decide) ⟨_, mE_5 hM.tx⟩ rfl rfl rfl (by simp only [List.map_cons, List.map_nil, rv_cat, Value.category, List.sum_cons, List.sum_nil]; decide) (by decide) rfl rfl (by decide) (by decide) dX4_buy_7 (fun E M9 hx => by
        obtain ⟨rfl, rfl, nw⟩ := hx
        exact exc hM (k := 0) rfl (by simp [oBuy, hb, nw])) (fun v9 M9 hq9 => ?_)
  obtain ⟨rfl, e9, hw⟩ := hq9
  rw [e9]; clear e9
  have xw := (isIx_ix hw).2
  obtain ⟨aw, eaw⟩ : ∃ z, z = mR M (mR M x 0) (ix w) := ⟨_, rfl⟩
  have ww : VeA M aw (ix w) S := by rw [eaw]; exact hM.v.1 _ xw
  show J G γ M _ _ (rv (mR M (mR M x 0) (ix w)) :: _) _ _
  rw [← eaw]
  refine J_astore hC dX4_buy_10 (by decide) (ls1 := [some (rv x), some (.int b), some (.int w), some (.int d), some (rv aw)]) rfl ?_
  refine J_aload_n hC dX4_buy_12 rfl rfl ?_
  refine J_iload_n hC dX4_buy_13 rfl rfl ?_
  refine J_callV (k1 := 3) (n1 := 18) (kd := 5) [.int d] [.int d, rv x] hC lv_X4_125 (ct_X4_requireDay hst hM d) hM.tx (by decide) ⟨_, mE_5 hM.tx⟩ rfl rfl rfl (by simp only [List.map_cons, List.map_nil, rv_cat, Value.category, List.sum_cons, List.sum_nil]; decide) (by decide) rfl rfl (by decide) (by decide) dX4_buy_14 (fun E M9 hx => by
        obtain ⟨rfl, rfl, ndd⟩ := hx
        exact exc hM (k := 1) rfl (by simp [oBuy, hb, hw, ndd])) (fun v9 M9 hq9 => ?_)
  obtain ⟨rfl, e9, hdd⟩ := hq9
  rw [e9]; clear e9
  refine J_aload_n hC dX4_buy_17 rfl rfl ?_
  refine J_callV (k1 := 4) (n1 := 24) (kd := 5) [] [rv x] hC lv_X4_154 (ct_X4_requireRoomForNotice hst hM) hM.tx (by decide) ⟨_, mE_5 hM.tx⟩ rfl rfl rfl (by simp only [List.map_cons, List.map_nil, rv_cat, Value.category, List.sum_cons, List.sum_nil]; decide) (by decide) rfl rfl (by decide) (by decide) dX4_buy_18 (fun E M9 hx => by
        obtain ⟨rfl, rfl, rn9⟩ := hx
        exact exc hM (k := 2) rfl (by simp [oBuy, hb, hw, hdd, rn9])) (fun v9 M9 hq9 => ?_)
  obtain ⟨rfl, e9, rn9⟩ := hq9
  rw [e9]; clear e9
  have rn9n : ¬ sN S 3 = 120 := by omega
  refine J_aload_n hC dX4_buy_21 rfl rfl ?_
  refine J_iconst hC dX4_buy_22 (v := -1) (by decide) ?_
  refine J_aload hC dX4_buy_23 rfl ?_
  refine J_iload_n hC dX4_buy_25 rfl rfl ?_
  refine J_iload_n hC dX4_buy_26 rfl rfl ?_
  refine J_callV (k1 := 246) (n1 := 11684) (kd := 5) [.int (-1), rv aw, .int b, .int d] [.int d, .int b, rv aw, .int (-1), rv x] hC lv_X4_157 (ct_X4_enterNotice hst hM hI eaw xw rn9 (Or.inl rfl) hb hdd) hM.tx (by decide) ⟨_, mE_5 hM.tx⟩ rfl rfl rfl (by simp only [List.map_cons, List.map_nil, rv_cat, Value.category, List.sum_cons, List.sum_nil]; decide) (by decide) rfl rfl (by decide) (by decide) dX4_buy_27 (fun E M9 h => h.elim) (fun v9 M2 hq9 => ?_)
  obtain ⟨rfl, hM2, hF2⟩ := hq9
  refine J_iret hC (by decide) (by decide) dX4_buy_30 ?_
  refine okm hM2 hF2 ?_
  simp [oBuy, hb, hw, hdd, rn9n, bz]
theorem lien_sub {S : St} {t v k : Nat} {a : Int32} (hI : Inv S t) (hv : v < sN S 1) (hk : k < 6) (h1 : ¬ a < 1) (h2 : a ≤ sL S v k) : 0 ≤ (sL S v k - a).toInt ∧ (sL S v k - a).toInt ≤ 9999 * t := by
  have h3 := hI.li v hv k hk
  have h4 := hI.bt
  have e1 : (1 : Int32).toInt = 1 := by decide
  rw [i_lt, e1] at h1
  rw [i_le] at h2
  have h5 := i_sub (a := sL S v k) (b := a) (by omega) (by omega)
  omega
theorem ct_X4_payLien {G : Gt} {l : Launch} (hst : l.stackTraces = false) {M : Mm} {x : Nat} {S : St} {t : Nat} (hM : CAt M x S) (hI : Inv S t) (hlt : t < 512) (v c a : Int32) (hc : 0 ≤ c.toInt ∧ c.toInt < 65536) : Ct G l yX4_payLien cX4_payLien 6 (some .int) 9 M [rv x, .int v, .int c, .int a] 300 12000 (OkC M x (oPayLien S v c a)) (ExC M x S (oPayLien S v c a) [eIO, eNS, eIA]) := by
  obtain ⟨bK, bV, bP, bN⟩ := hM.b
  refine Ct_intro (own := RX4) (nm := "payLien") (by decide +kernel) rfl rfl hst (fun w hw => by simp only [List.mem_cons, List.not_mem_nil, or_false] at hw; rcases hw with rfl | rfl | rfl | rfl <;> first | rfl | exact rv_cat _) (Nat.le_of_ble_eq_true rfl) (fun γ hC => ?_)
  show J G γ M 0 [some (rv x), some (.int v), some (.int c), some (.int a)] [] 0 0
  refine J_aload_n hC dX4_payLien_0 rfl rfl ?_
  refine J_iload_n hC dX4_payLien_1 rfl rfl ?_
  refine J_callV (k1 := 1) (n1 := 6) (kd := 5) [.int v] [.int v, rv x] hC lv_X4_81 (ct_X4_vehicleAt hst hM v) hM.tx (by decide) ⟨_, mE_5 hM.tx⟩ rfl rfl rfl (by simp only [List.map_cons, List.map_nil, rv_cat, Value.category, List.sum_cons, List.sum_nil]; decide) (by decide) rfl rfl (by decide) (by decide) dX4_payLien_2 (fun E M9 hx => by
        obtain ⟨rfl, rfl, nv⟩ := hx
        exact exc hM (k := 0) rfl (by simp [oPayLien, nv])) (fun v9 M9 hq9 => ?_)
  obtain ⟨rfl, e9, hv⟩ := hq9
  rw [e9]; clear e9
  have xv := (isIx_ix hv).2
  obtain ⟨av, eav⟩ : ∃ z, z = mR M (mR M x 0) (ix v) := ⟨_, rfl⟩
  have wv : VeA M av (ix v) S := by rw [eav]; exact hM.v.1 _ xv
  show J G γ M _ _ (rv (mR M (mR M x 0) (ix v)) :: _) _ _
  rw [← eav]
  refine J_astore hC dX4_payLien_5 (by decide) (ls1 := [some (rv x), some (.int v), some (.int c), some (.int a), some (rv av)]) rfl ?_
  refine J_aload hC dX4_payLien_7 rfl ?_
  refine J_iload_n hC dX4_payLien_9 rfl rfl ?_
  refine J_callS (k1 := 2) (n1 := 12) [rv av, .int c] [.int c, rv av] hC ls_X4_219 (ct_X4_requireLien hst wv c hc) rfl rfl (by simp only [List.map_cons, List.map_nil, rv_cat, Value.category, List.sum_cons, List.sum_nil]; decide) (by decide) rfl rfl (by decide) (by decide) dX4_payLien_10 (fun E M9 hx => by
        obtain ⟨rfl, rfl, hnl⟩ := hx
        exact exc hM (k := 1) rfl (by simp [oPayLien, hv, lien_0 hnl])) (fun v9 M9 hq9 => ?_)
  obtain ⟨rfl, e9, hln⟩ := hq9
  rw [e9]; clear e9
  have hlo := (lien_1 hln).1
  have hl0 := (lien_1 hln).2
  rw [lienQ_y hlo]
  refine J_istore hC dX4_payLien_13 (by decide) (ls1 := [some (rv x), some (.int v), some (.int c), some (.int a), some (rv av), some (.int (sL S (ix v) (ix (c - 97))))]) rfl ?_
  refine J_iload_n hC dX4_payLien_15 rfl rfl ?_
  refine J_iconst hC dX4_payLien_16 (v := 1) (by decide) ?_
  refine J_icmp_lt hC dX4_payLien_17 (tgt := 26) (by decide) (fun c17 => ?_) (fun c17 => ?_)
  · refine J_throw hC lt_51 (by decide +kernel : (RX4, 223, "the amount is out of range") ∈ strT) (by decide) (by decide) (by decide) (by decide) dX4_payLien_26 dX4_payLien_29 dX4_payLien_30 dX4_payLien_32 dX4_payLien_35 ?_
    exact exc hM (k := 2) rfl (by
      have hk : a < 1 ∨ sL S (ix v) (ix (c - 97)) < a := by first | exact Or.inl c17 | exact Or.inr (i_nle2 c23)
      simp [oPayLien, hv, hlo, hl0, hk])
  · refine J_iload_n hC dX4_payLien_20 rfl rfl ?_
    refine J_iload hC dX4_payLien_21 rfl ?_
    refine J_icmp_le hC dX4_payLien_23 (tgt := 36) (by decide) (fun c23 => ?_) (fun c23 => ?_)
    · have hk9 : ¬ (a < 1 ∨ sL S (ix v) (ix (c - 97)) < a) := fun h => by rcases h with h | h; exact c17 h; exact i_nle h c23
      refine J_aload hC dX4_payLien_36 rfl ?_
      refine J_get4 hC lf_X4_208 (j := 5) wv.tg (v := rv (mR M av 5)) rfl dX4_payLien_38 ?_
      refine J_iload_n hC dX4_payLien_41 rfl rfl ?_
      refine J_bipush hC dX4_payLien_42 (v := 97) (by decide) ?_
      refine J_isub hC dX4_payLien_44 ?_
      refine J_iload_n hC dX4_payLien_45 rfl rfl ?_
      refine J_ineg hC dX4_payLien_46 ?_
      refine J_callS (k1 := 2) (n1 := 12) [rv (mR M av 5), .int (c - 97), .int (-a)] [.int (-a), .int (c - 97), rv (mR M av 5)] hC ls_X4_211 (ct_X4_addTo hst wv.k5 wv.l5 (by decide) (c - 97) (-a)) rfl rfl (by simp only [List.map_cons, List.map_nil, rv_cat, Value.category, List.sum_cons, List.sum_nil]; decide) (by decide) rfl rfl (by decide) (by decide) dX4_payLien_47 (fun E M9 h => h.elim) (fun v9 M2 hq9 => ?_)
      obtain ⟨rfl, eM2⟩ := hq9
      have hcx : isIx (c - 97) 6 = true := by rw [lend_cx hc]; exact hlo
      rw [if_pos hcx, wv.ln _ (isIx_ix hcx).2, ← Int32.sub_eq_add_neg] at eM2
      obtain ⟨hM2, hs2, hF2⟩ : CAt M2 x (uL S (ix v) (ix (c - 97)) (sL S (ix v) (ix (c - 97)) - a)) ∧ Sm M M2 x ∧ Fr pC M M2 := by rw [eM2, eav]; exact hM.ln xv (isIx_ix hcx).2 _
      have eav2 : av = vA M2 x (ix v) := eav.trans (hs2.v _).symm
      have wav2 : VeA M2 av (ix v) (uL S (ix v) (ix (c - 97)) (sL S (ix v) (ix (c - 97)) - a)) := by rw [eav2]; exact hM2.v.1 _ xv
      refine J_iload_n hC dX4_payLien_50 rfl rfl ?_
      refine J_iload hC dX4_payLien_51 rfl ?_
      refine J_icmp_ne hC dX4_payLien_53 (tgt := 62) (by decide) (fun c53 => ?_) (fun c53 => ?_)
      · have q53 : ¬ a = sL S (ix v) (ix (c - 97)) := c53
        refine J_iload hC dX4_payLien_62 rfl ?_
        refine J_iload_n hC dX4_payLien_64 rfl rfl ?_
        refine J_isub hC dX4_payLien_65 ?_
        refine J_iret hC (by decide) (by decide) dX4_payLien_66 ?_
        refine okm hM2 ((Fr.rf _ _).trans hF2) ?_
        unfold oPayLien
        rw [if_neg (by rw [hv]; simp), if_neg (by simp [hlo, hl0]), if_neg hk9]
        dsimp only
        rw [if_neg q53]
      · have q53 : a = sL S (ix v) (ix (c - 97)) := (nn c53)
        refine J_aload_n hC dX4_payLien_56 rfl rfl ?_
        refine J_aload hC dX4_payLien_57 rfl ?_
        refine J_callV (k1 := 242) (n1 := 11662) (kd := 5) [rv av] [rv av, rv x] hC lv_X4_225 (ct_X4_settle hst hM2 (hI.ln (lien_sub hI xv (isIx_ix hcx).2 c17 c23)) eav2 xv) hM2.tx (by decide) ⟨_, mE_5 hM2.tx⟩ rfl rfl rfl (by simp only [List.map_cons, List.map_nil, rv_cat, Value.category, List.sum_cons, List.sum_nil]; decide) (by decide) rfl rfl (by decide) (by decide) dX4_payLien_59 (fun E M9 h => h.elim) (fun v9 M3 hq9 => ?_)
        obtain ⟨rfl, hM3, hs3, hF3⟩ := hq9
        refine J_iload hC dX4_payLien_62 rfl ?_
        refine J_iload_n hC dX4_payLien_64 rfl rfl ?_
        refine J_isub hC dX4_payLien_65 ?_
        refine J_iret hC (by decide) (by decide) dX4_payLien_66 ?_
        refine okm hM3 (((Fr.rf _ _).trans hF2).trans hF3) ?_
        unfold oPayLien
        rw [if_neg (by rw [hv]; simp), if_neg (by simp [hlo, hl0]), if_neg hk9]
        dsimp only
        rw [if_pos q53]
    · refine J_throw hC lt_51 (by decide +kernel : (RX4, 223, "the amount is out of range") ∈ strT) (by decide) (by decide) (by decide) (by decide) dX4_payLien_26 dX4_payLien_29 dX4_payLien_30 dX4_payLien_32 dX4_payLien_35 ?_
      exact exc hM (k := 2) rfl (by
        have hk : a < 1 ∨ sL S (ix v) (ix (c - 97)) < a := by first | exact Or.inl c17 | exact Or.inr (i_nle2 c23)
        simp [oPayLien, hv, hlo, hl0, hk])
