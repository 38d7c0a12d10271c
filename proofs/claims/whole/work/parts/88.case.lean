theorem cs_transferDay {G : Gt} {γ : Γt} {mc ms d : Nat} {lh : Launch} {M : Mm} {x m o od b L t k n : Nat} {xs : Nat → Int32} {S : St} (hst : lh.stackTraces = false) (hC : Zok G γ RL cL_law (some .boolean) 20 mc ms lawQ lh 9) (hs : Sok G γ b L xs) (hL : 5 * t + 4 < L) (hL2 : L ≤ 2560) (h : LwI M x m o od S t) (hk : k + 300 ≤ mc) (hn : n + 12000 ≤ ms) (hE : ∀ (M9 : Mm) (S9 : St), LwI M9 x m o od S9 (t + 1) → JE G γ ET M9 2816 (lsL b x m o od t) [] (k + 300) (n + 12000)) : JE G γ ET M 1424 (lsL b x m o od t) [] k n := by
  obtain ⟨hM, hm, hI, hO⟩ := h
  have hlt : t < 512 := by omega
  have v1 := vp_s (j := 1) (b := 1) hL (by decide) rfl hL2
  obtain ⟨a1, e1⟩ : ∃ z, xs (nI (5 * t) + 1).toNatClampNeg = z := ⟨_, rfl⟩
  have v2 := vp_s (j := 2) (b := 2) hL (by decide) rfl hL2
  obtain ⟨a2, e2⟩ : ∃ z, xs (nI (5 * t) + 2).toNatClampNeg = z := ⟨_, rfl⟩
  have hI9 : Iv (oTransferDay S a1 a2).2.2 (t + 1) := by rw [vs_oTransferDay]; exact hI.mono hlt
  unfold lsL
  refine Z_aload_n hC dL_law_1424 rfl rfl ?_
  refine Z_aloadR_n hC dL_law_1425 rfl rfl ?_
  refine Z_iload hC dL_law_1426 rfl ?_
  refine Z_iconst hC dL_law_1428 (v := 1) (by decide) ?_
  refine Z_iadd hC dL_law_1429 ?_
  refine Z_sld hC hs v1 e1 dL_law_1430 ?_
  refine Z_aloadR_n hC dL_law_1431 rfl rfl ?_
  refine Z_iload hC dL_law_1432 rfl ?_
  refine Z_iconst hC dL_law_1434 (v := 2) (by decide) ?_
  refine Z_iadd hC dL_law_1435 ?_
  refine Z_sld hC hs v2 e2 dL_law_1436 ?_
  refine Z_aload_n hC dL_law_1437 rfl rfl ?_
  refine Z_callH (k1 := k + 8) (n1 := n + 48) [rv x, .int a1, .int a2, rv o] [rv o, .int a2, .int a1, rv x] hC lh_L_229 (hl_transferDay hst hM hI.1 hO a1 a2) rfl rfl (by simp only [List.map_cons, List.map_nil, rv_cat, List.sum_cons, List.sum_nil]; (try simp only [Value.category]); (try omega)) (by decide) rfl rfl (by omega) (by omega) dL_law_1438 (fun v9 M1 hq1 => ?_)
  obtain ⟨q1, c1, f1, o1, p1⟩ := hq1
  rw [q1]
  have m1 := hm.frX f1
  refine Z_istore hC dL_law_1441 (by decide) (ls1 := [some (.ref b), some (rv x), some (rv m), some (rv o), some (rv od), some (.int (nI (5 * t))), some (.int (nI (oTransferDay S a1 a2).1))]) rfl ?_
  refine Z_aload_n hC dL_law_1443 rfl rfl ?_
  refine Z_aloadR_n hC dL_law_1444 rfl rfl ?_
  refine Z_iload hC dL_law_1445 rfl ?_
  refine Z_iconst hC dL_law_1447 (v := 1) (by decide) ?_
  refine Z_iadd hC dL_law_1448 ?_
  refine Z_sld hC hs v1 e1 dL_law_1449 ?_
  refine Z_aloadR_n hC dL_law_1450 rfl rfl ?_
  refine Z_iload hC dL_law_1451 rfl ?_
  refine Z_iconst hC dL_law_1453 (v := 2) (by decide) ?_
  refine Z_iadd hC dL_law_1454 ?_
  refine Z_sld hC hs v2 e2 dL_law_1455 ?_
  refine Z_callV (k1 := k + 8) (n1 := n + 48) (kd := 6) [.int a1, .int a2] [.int a2, .int a1, rv m] hC lv_L_231 (ct_X5_transferDay hst m1 hI.1 hlt a1 a2) (congrArg Prod.fst m1.1.t0) (by decide) ⟨_, mE_6 (congrArg Prod.fst m1.1.t0)⟩ rfl rfl rfl (by simp only [List.map_cons, List.map_nil, rv_cat, List.sum_cons, List.sum_nil]; (try simp only [Value.category]); (try omega)) (by decide) rfl rfl (by omega) (by omega) dL_law_1456 (fun E M9 h => h) (fun v9 M2 hq2 => ?_)
  obtain ⟨w2, mA, g2, kA⟩ := hq2
  have cA := (c1.pM g2).1
  have oA := o1.fr g2 (by decide) (by decide)
  obtain ⟨i, hi⟩ := vi_oTransferDay S a1 a2
  rw [w2, hi]
  have eO := g2.at o1.1 (by decide) (by decide)
  refine Z_istore hC dL_law_1459 (by decide) (ls1 := [some (.ref b), some (rv x), some (rv m), some (rv o), some (rv od), some (.int (nI (5 * t))), some (.int (nI (oTransferDay S a1 a2).1)), some (.int i)]) rfl ?_
  refine Z_aload_n hC dL_law_1461 rfl rfl ?_
  refine Z_callV (k1 := k + 8) (n1 := n + 48) (kd := 6) [] [rv m] hC lv_L_161 (ct_X5_thrown hst mA.1) (congrArg Prod.fst mA.1.t0) (by decide) ⟨_, mE_6 (congrArg Prod.fst mA.1.t0)⟩ rfl rfl rfl (by simp only [List.map_cons, List.map_nil, rv_cat, List.sum_cons, List.sum_nil]; (try simp only [Value.category]); (try omega)) (by decide) rfl rfl (by omega) (by omega) dL_law_1462 (fun E M9 h => h) (fun v9 M9 hq9 => ?_)
  obtain ⟨rfl, e9⟩ := hq9
  rw [e9, kA]; clear e9
  refine Z_iload hC dL_law_1465 rfl ?_
  refine Z_icmp_eq hC dL_law_1467 (tgt := 1472) (by decide) (fun c => ?_) (fun c => ?_)
  · refine Z_iload hC dL_law_1472 rfl ?_
    refine Z_if_ne hC dL_law_1474 (tgt := 1489) (by decide) (fun c => ?_) (fun c => ?_)
    · refine Z_goto hC dL_law_1489 (tgt := 2816) (by decide) ?_
      refine Z_sub hC (ls1 := lsL b x m o od t) ⟨rfl, rfl, rfl, rfl, rfl, rfl, trivial⟩ ?_
      refine Z_wide hC (k1 := k + 300) (n1 := n + 12000) (by omega) (by omega) ?_
      exact hE _ _ ⟨cA, mA, hI9, oA⟩
    · have h0 := nI_0of (vk_oTransferDay S a1 a2) (Classical.not_not.mp c)
      obtain ⟨i2, hi2, p2⟩ := p1 h0
      have ei : i2 = i := Value.int.inj (hi2.symm.trans hi)
      have pA : mJ M2 o 0 = Int32.toInt64 i := by rw [eO.2.2.2.2.1, p2, ei]
      refine Z_aload_n hC dL_law_1477 rfl rfl ?_
      refine Z_iconst hC dL_law_1478 (v := 0) (by decide) ?_
      refine Z_lald hC (congrArg Prod.fst oA.1) (j := 0) (by decide) (by rw [oA.2.1]; decide) dL_law_1479 ?_
      rw [pA]
      refine Z_iload hC dL_law_1480 rfl ?_
      refine Z_i2l hC dL_law_1482 ?_
      refine Z_lcmp hC dL_law_1483 ?_
      rw [lcmp_self]
      refine Z_if_eq hC dL_law_1484 (tgt := 1489) (by decide) (fun c => ?_) (fun c => ?_)
      · refine Z_goto hC dL_law_1489 (tgt := 2816) (by decide) ?_
        refine Z_sub hC (ls1 := lsL b x m o od t) ⟨rfl, rfl, rfl, rfl, rfl, rfl, trivial⟩ ?_
        refine Z_wide hC (k1 := k + 300) (n1 := n + 12000) (by omega) (by omega) ?_
        exact hE _ _ ⟨cA, mA, hI9, oA⟩
      · exact absurd rfl c
  · exact absurd rfl c
theorem cs_keptBy {G : Gt} {γ : Γt} {mc ms d : Nat} {lh : Launch} {M : Mm} {x m o od b L t k n : Nat} {xs : Nat → Int32} {S : St} (hst : lh.stackTraces = false) (hC : Zok G γ RL cL_law (some .boolean) 20 mc ms lawQ lh 9) (hs : Sok G γ b L xs) (hL : 5 * t + 4 < L) (hL2 : L ≤ 2560) (h : LwI M x m o od S t) (hk : k + 300 ≤ mc) (hn : n + 12000 ≤ ms) (hE : ∀ (M9 : Mm) (S9 : St), LwI M9 x m o od S9 (t + 1) → JE G γ ET M9 2816 (lsL b x m o od t) [] (k + 300) (n + 12000)) : JE G γ ET M 1492 (lsL b x m o od t) [] k n := by
  obtain ⟨hM, hm, hI, hO⟩ := h
  have hlt : t < 512 := by omega
  have v1 := vp_s (j := 1) (b := 1) hL (by decide) rfl hL2
  obtain ⟨a1, e1⟩ : ∃ z, xs (nI (5 * t) + 1).toNatClampNeg = z := ⟨_, rfl⟩
  have hI9 : Iv (oKeptBy S a1).2.2 (t + 1) := by rw [vs_oKeptBy]; exact hI.mono hlt
  unfold lsL
  refine Z_aload_n hC dL_law_1492 rfl rfl ?_
  refine Z_aloadR_n hC dL_law_1493 rfl rfl ?_
  refine Z_iload hC dL_law_1494 rfl ?_
  refine Z_iconst hC dL_law_1496 (v := 1) (by decide) ?_
  refine Z_iadd hC dL_law_1497 ?_
  refine Z_sld hC hs v1 e1 dL_law_1498 ?_
  refine Z_aload_n hC dL_law_1499 rfl rfl ?_
  refine Z_callH (k1 := k + 8) (n1 := n + 48) [rv x, .int a1, rv o] [rv o, .int a1, rv x] hC lh_L_232 (hl_keptBy hst hM hI.1 hO a1) rfl rfl (by simp only [List.map_cons, List.map_nil, rv_cat, List.sum_cons, List.sum_nil]; (try simp only [Value.category]); (try omega)) (by decide) rfl rfl (by omega) (by omega) dL_law_1500 (fun v9 M1 hq1 => ?_)
  obtain ⟨q1, c1, f1, o1, p1⟩ := hq1
  rw [q1]
  have m1 := hm.frX f1
  refine Z_istore hC dL_law_1503 (by decide) (ls1 := [some (.ref b), some (rv x), some (rv m), some (rv o), some (rv od), some (.int (nI (5 * t))), some (.int (nI (oKeptBy S a1).1))]) rfl ?_
  refine Z_aload_n hC dL_law_1505 rfl rfl ?_
  refine Z_aloadR_n hC dL_law_1506 rfl rfl ?_
  refine Z_iload hC dL_law_1507 rfl ?_
  refine Z_iconst hC dL_law_1509 (v := 1) (by decide) ?_
  refine Z_iadd hC dL_law_1510 ?_
  refine Z_sld hC hs v1 e1 dL_law_1511 ?_
  refine Z_callV (k1 := k + 8) (n1 := n + 48) (kd := 6) [.int a1] [.int a1, rv m] hC lv_L_234 (ct_X5_keptBy hst m1 hI.1 hlt a1) (congrArg Prod.fst m1.1.t0) (by decide) ⟨_, mE_6 (congrArg Prod.fst m1.1.t0)⟩ rfl rfl rfl (by simp only [List.map_cons, List.map_nil, rv_cat, List.sum_cons, List.sum_nil]; (try simp only [Value.category]); (try omega)) (by decide) rfl rfl (by omega) (by omega) dL_law_1512 (fun E M9 h => h) (fun v9 M2 hq2 => ?_)
  obtain ⟨w2, mA, g2, kA⟩ := hq2
  have cA := (c1.pM g2).1
  have oA := o1.fr g2 (by decide) (by decide)
  obtain ⟨i, hi⟩ := vi_oKeptBy S a1
  rw [w2, hi]
  have eO := g2.at o1.1 (by decide) (by decide)
  refine Z_istore hC dL_law_1515 (by decide) (ls1 := [some (.ref b), some (rv x), some (rv m), some (rv o), some (rv od), some (.int (nI (5 * t))), some (.int (nI (oKeptBy S a1).1)), some (.int i)]) rfl ?_
  refine Z_aload_n hC dL_law_1517 rfl rfl ?_
  refine Z_callV (k1 := k + 8) (n1 := n + 48) (kd := 6) [] [rv m] hC lv_L_161 (ct_X5_thrown hst mA.1) (congrArg Prod.fst mA.1.t0) (by decide) ⟨_, mE_6 (congrArg Prod.fst mA.1.t0)⟩ rfl rfl rfl (by simp only [List.map_cons, List.map_nil, rv_cat, List.sum_cons, List.sum_nil]; (try simp only [Value.category]); (try omega)) (by decide) rfl rfl (by omega) (by omega) dL_law_1518 (fun E M9 h => h) (fun v9 M9 hq9 => ?_)
  obtain ⟨rfl, e9⟩ := hq9
  rw [e9, kA]; clear e9
  refine Z_iload hC dL_law_1521 rfl ?_
  refine Z_icmp_eq hC dL_law_1523 (tgt := 1528) (by decide) (fun c => ?_) (fun c => ?_)
  · refine Z_iload hC dL_law_1528 rfl ?_
    refine Z_if_ne hC dL_law_1530 (tgt := 1545) (by decide) (fun c => ?_) (fun c => ?_)
    · refine Z_goto hC dL_law_1545 (tgt := 2816) (by decide) ?_
      refine Z_sub hC (ls1 := lsL b x m o od t) ⟨rfl, rfl, rfl, rfl, rfl, rfl, trivial⟩ ?_
      refine Z_wide hC (k1 := k + 300) (n1 := n + 12000) (by omega) (by omega) ?_
      exact hE _ _ ⟨cA, mA, hI9, oA⟩
    · have h0 := nI_0of (vk_oKeptBy S a1) (Classical.not_not.mp c)
      obtain ⟨i2, hi2, p2⟩ := p1 h0
      have ei : i2 = i := Value.int.inj (hi2.symm.trans hi)
      have pA : mJ M2 o 0 = Int32.toInt64 i := by rw [eO.2.2.2.2.1, p2, ei]
      refine Z_aload_n hC dL_law_1533 rfl rfl ?_
      refine Z_iconst hC dL_law_1534 (v := 0) (by decide) ?_
      refine Z_lald hC (congrArg Prod.fst oA.1) (j := 0) (by decide) (by rw [oA.2.1]; decide) dL_law_1535 ?_
      rw [pA]
      refine Z_iload hC dL_law_1536 rfl ?_
      refine Z_i2l hC dL_law_1538 ?_
      refine Z_lcmp hC dL_law_1539 ?_
      rw [lcmp_self]
      refine Z_if_eq hC dL_law_1540 (tgt := 1545) (by decide) (fun c => ?_) (fun c => ?_)
      · refine Z_goto hC dL_law_1545 (tgt := 2816) (by decide) ?_
        refine Z_sub hC (ls1 := lsL b x m o od t) ⟨rfl, rfl, rfl, rfl, rfl, rfl, trivial⟩ ?_
        refine Z_wide hC (k1 := k + 300) (n1 := n + 12000) (by omega) (by omega) ?_
        exact hE _ _ ⟨cA, mA, hI9, oA⟩
      · exact absurd rfl c
  · exact absurd rfl c
theorem cs_addLien {G : Gt} {γ : Γt} {mc ms d : Nat} {lh : Launch} {M : Mm} {x m o od b L t k n : Nat} {xs : Nat → Int32} {S : St} (hst : lh.stackTraces = false) (hC : Zok G γ RL cL_law (some .boolean) 20 mc ms lawQ lh 9) (hs : Sok G γ b L xs) (hL : 5 * t + 4 < L) (hL2 : L ≤ 2560) (h : LwI M x m o od S t) (hk : k + 300 ≤ mc) (hn : n + 12000 ≤ ms) (hE : ∀ (M9 : Mm) (S9 : St), LwI M9 x m o od S9 (t + 1) → JE G γ ET M9 2816 (lsL b x m o od t) [] (k + 300) (n + 12000)) : JE G γ ET M 1548 (lsL b x m o od t) [] k n := by
  obtain ⟨hM, hm, hI, hO⟩ := h
  have hlt : t < 512 := by omega
  have v1 := vp_s (j := 1) (b := 1) hL (by decide) rfl hL2
  obtain ⟨a1, e1⟩ : ∃ z, xs (nI (5 * t) + 1).toNatClampNeg = z := ⟨_, rfl⟩
  have v2 := vp_s (j := 2) (b := 2) hL (by decide) rfl hL2
  obtain ⟨a2, e2⟩ : ∃ z, xs (nI (5 * t) + 2).toNatClampNeg = z := ⟨_, rfl⟩
  obtain ⟨c2, f2⟩ : ∃ z, (a2.toUInt32 % 65536).toInt32 = z := ⟨_, rfl⟩
  have hc2 := i2c_rng f2
  have v3 := vp_s (j := 3) (b := 3) hL (by decide) rfl hL2
  obtain ⟨a3, e3⟩ : ∃ z, xs (nI (5 * t) + 3).toNatClampNeg = z := ⟨_, rfl⟩
  have hI9 := iv_addLien hI hlt a1 c2 a3
  unfold lsL
  refine Z_aload_n hC dL_law_1548 rfl rfl ?_
  refine Z_aloadR_n hC dL_law_1549 rfl rfl ?_
  refine Z_iload hC dL_law_1550 rfl ?_
  refine Z_iconst hC dL_law_1552 (v := 1) (by decide) ?_
  refine Z_iadd hC dL_law_1553 ?_
  refine Z_sld hC hs v1 e1 dL_law_1554 ?_
  refine Z_aloadR_n hC dL_law_1555 rfl rfl ?_
  refine Z_iload hC dL_law_1556 rfl ?_
  refine Z_iconst hC dL_law_1558 (v := 2) (by decide) ?_
  refine Z_iadd hC dL_law_1559 ?_
  refine Z_sld hC hs v2 e2 dL_law_1560 ?_
  refine Z_i2c hC dL_law_1561 (v := c2) f2 ?_
  refine Z_aloadR_n hC dL_law_1562 rfl rfl ?_
  refine Z_iload hC dL_law_1563 rfl ?_
  refine Z_iconst hC dL_law_1565 (v := 3) (by decide) ?_
  refine Z_iadd hC dL_law_1566 ?_
  refine Z_sld hC hs v3 e3 dL_law_1567 ?_
  refine Z_aload_n hC dL_law_1568 rfl rfl ?_
  refine Z_callH (k1 := k + 40) (n1 := n + 9000) [rv x, .int a1, .int c2, .int a3, rv o] [rv o, .int a3, .int c2, .int a1, rv x] hC lh_L_235 (hl_addLien hst hM hI.1 hO hlt a1 c2 a3 hc2) rfl rfl (by simp only [List.map_cons, List.map_nil, rv_cat, List.sum_cons, List.sum_nil]; (try simp only [Value.category]); (try omega)) (by decide) rfl rfl (by omega) (by omega) dL_law_1569 (fun v9 M1 hq1 => ?_)
  obtain ⟨q1, c1, f1, o1, p1⟩ := hq1
  rw [q1]
  have m1 := hm.frX f1
  refine Z_istore hC dL_law_1572 (by decide) (ls1 := [some (.ref b), some (rv x), some (rv m), some (rv o), some (rv od), some (.int (nI (5 * t))), some (.int (nI (oAddLien S a1 c2 a3).1))]) rfl ?_
  refine Z_aload_n hC dL_law_1574 rfl rfl ?_
  refine Z_aloadR_n hC dL_law_1575 rfl rfl ?_
  refine Z_iload hC dL_law_1576 rfl ?_
  refine Z_iconst hC dL_law_1578 (v := 1) (by decide) ?_
  refine Z_iadd hC dL_law_1579 ?_
  refine Z_sld hC hs v1 e1 dL_law_1580 ?_
  refine Z_aloadR_n hC dL_law_1581 rfl rfl ?_
  refine Z_iload hC dL_law_1582 rfl ?_
  refine Z_iconst hC dL_law_1584 (v := 2) (by decide) ?_
  refine Z_iadd hC dL_law_1585 ?_
  refine Z_sld hC hs v2 e2 dL_law_1586 ?_
  refine Z_i2c hC dL_law_1587 (v := c2) f2 ?_
  refine Z_aloadR_n hC dL_law_1588 rfl rfl ?_
  refine Z_iload hC dL_law_1589 rfl ?_
  refine Z_iconst hC dL_law_1591 (v := 3) (by decide) ?_
  refine Z_iadd hC dL_law_1592 ?_
  refine Z_sld hC hs v3 e3 dL_law_1593 ?_
  refine Z_callV (k1 := k + 40) (n1 := n + 9000) (kd := 6) [.int a1, .int c2, .int a3] [.int a3, .int c2, .int a1, rv m] hC lv_L_238 (ct_X5_addLien hst m1 hI.1 hlt a1 c2 a3) (congrArg Prod.fst m1.1.t0) (by decide) ⟨_, mE_6 (congrArg Prod.fst m1.1.t0)⟩ rfl rfl rfl (by simp only [List.map_cons, List.map_nil, rv_cat, List.sum_cons, List.sum_nil]; (try simp only [Value.category]); (try omega)) (by decide) rfl rfl (by omega) (by omega) dL_law_1594 (fun E M9 h => h) (fun v9 M2 hq2 => ?_)
  obtain ⟨w2, mA, g2, kA⟩ := hq2
  have cA := (c1.pM g2).1
  have oA := o1.fr g2 (by decide) (by decide)
  obtain ⟨i, hi⟩ := vi_oAddLien S a1 c2 a3
  rw [w2, hi]
  have eO := g2.at o1.1 (by decide) (by decide)
  refine Z_istore hC dL_law_1597 (by decide) (ls1 := [some (.ref b), some (rv x), some (rv m), some (rv o), some (rv od), some (.int (nI (5 * t))), some (.int (nI (oAddLien S a1 c2 a3).1)), some (.int i)]) rfl ?_
  refine Z_aload_n hC dL_law_1599 rfl rfl ?_
  refine Z_callV (k1 := k + 40) (n1 := n + 9000) (kd := 6) [] [rv m] hC lv_L_161 (ct_X5_thrown hst mA.1) (congrArg Prod.fst mA.1.t0) (by decide) ⟨_, mE_6 (congrArg Prod.fst mA.1.t0)⟩ rfl rfl rfl (by simp only [List.map_cons, List.map_nil, rv_cat, List.sum_cons, List.sum_nil]; (try simp only [Value.category]); (try omega)) (by decide) rfl rfl (by omega) (by omega) dL_law_1600 (fun E M9 h => h) (fun v9 M9 hq9 => ?_)
  obtain ⟨rfl, e9⟩ := hq9
  rw [e9, kA]; clear e9
  refine Z_iload hC dL_law_1603 rfl ?_
  refine Z_icmp_eq hC dL_law_1605 (tgt := 1610) (by decide) (fun c => ?_) (fun c => ?_)
  · refine Z_iload hC dL_law_1610 rfl ?_
    refine Z_if_ne hC dL_law_1612 (tgt := 1627) (by decide) (fun c => ?_) (fun c => ?_)
    · refine Z_goto hC dL_law_1627 (tgt := 2816) (by decide) ?_
      refine Z_sub hC (ls1 := lsL b x m o od t) ⟨rfl, rfl, rfl, rfl, rfl, rfl, trivial⟩ ?_
      refine Z_wide hC (k1 := k + 300) (n1 := n + 12000) (by omega) (by omega) ?_
      exact hE _ _ ⟨cA, mA, hI9, oA⟩
    · have h0 := nI_0of (vk_oAddLien S a1 c2 a3) (Classical.not_not.mp c)
      obtain ⟨i2, hi2, p2⟩ := p1 h0
      have ei : i2 = i := Value.int.inj (hi2.symm.trans hi)
      have pA : mJ M2 o 0 = Int32.toInt64 i := by rw [eO.2.2.2.2.1, p2, ei]
      refine Z_aload_n hC dL_law_1615 rfl rfl ?_
      refine Z_iconst hC dL_law_1616 (v := 0) (by decide) ?_
      refine Z_lald hC (congrArg Prod.fst oA.1) (j := 0) (by decide) (by rw [oA.2.1]; decide) dL_law_1617 ?_
      rw [pA]
      refine Z_iload hC dL_law_1618 rfl ?_
      refine Z_i2l hC dL_law_1620 ?_
      refine Z_lcmp hC dL_law_1621 ?_
      rw [lcmp_self]
      refine Z_if_eq hC dL_law_1622 (tgt := 1627) (by decide) (fun c => ?_) (fun c => ?_)
      · refine Z_goto hC dL_law_1627 (tgt := 2816) (by decide) ?_
        refine Z_sub hC (ls1 := lsL b x m o od t) ⟨rfl, rfl, rfl, rfl, rfl, rfl, trivial⟩ ?_
        refine Z_wide hC (k1 := k + 300) (n1 := n + 12000) (by omega) (by omega) ?_
        exact hE _ _ ⟨cA, mA, hI9, oA⟩
      · exact absurd rfl c
  · exact absurd rfl c
theorem cs_payLien {G : Gt} {γ : Γt} {mc ms d : Nat} {lh : Launch} {M : Mm} {x m o od b L t k n : Nat} {xs : Nat → Int32} {S : St} (hst : lh.stackTraces = false) (hC : Zok G γ RL cL_law (some .boolean) 20 mc ms lawQ lh 9) (hs : Sok G γ b L xs) (hL : 5 * t + 4 < L) (hL2 : L ≤ 2560) (h : LwI M x m o od S t) (hk : k + 300 ≤ mc) (hn : n + 12000 ≤ ms) (hE : ∀ (M9 : Mm) (S9 : St), LwI M9 x m o od S9 (t + 1) → JE G γ ET M9 2816 (lsL b x m o od t) [] (k + 300) (n + 12000)) : JE G γ ET M 1630 (lsL b x m o od t) [] k n := by
  obtain ⟨hM, hm, hI, hO⟩ := h
  have hlt : t < 512 := by omega
  have v1 := vp_s (j := 1) (b := 1) hL (by decide) rfl hL2
  obtain ⟨a1, e1⟩ : ∃ z, xs (nI (5 * t) + 1).toNatClampNeg = z := ⟨_, rfl⟩
  have v2 := vp_s (j := 2) (b := 2) hL (by decide) rfl hL2
  obtain ⟨a2, e2⟩ : ∃ z, xs (nI (5 * t) + 2).toNatClampNeg = z := ⟨_, rfl⟩
  obtain ⟨c2, f2⟩ : ∃ z, (a2.toUInt32 % 65536).toInt32 = z := ⟨_, rfl⟩
  have hc2 := i2c_rng f2
  have v3 := vp_s (j := 3) (b := 3) hL (by decide) rfl hL2
  obtain ⟨a3, e3⟩ : ∃ z, xs (nI (5 * t) + 3).toNatClampNeg = z := ⟨_, rfl⟩
  have hI9 := iv_payLien hI hlt a1 c2 a3
  unfold lsL
  refine Z_aload_n hC dL_law_1630 rfl rfl ?_
  refine Z_aloadR_n hC dL_law_1631 rfl rfl ?_
  refine Z_iload hC dL_law_1632 rfl ?_
  refine Z_iconst hC dL_law_1634 (v := 1) (by decide) ?_
  refine Z_iadd hC dL_law_1635 ?_
  refine Z_sld hC hs v1 e1 dL_law_1636 ?_
  refine Z_aloadR_n hC dL_law_1637 rfl rfl ?_
  refine Z_iload hC dL_law_1638 rfl ?_
  refine Z_iconst hC dL_law_1640 (v := 2) (by decide) ?_
  refine Z_iadd hC dL_law_1641 ?_
  refine Z_sld hC hs v2 e2 dL_law_1642 ?_
  refine Z_i2c hC dL_law_1643 (v := c2) f2 ?_
  refine Z_aloadR_n hC dL_law_1644 rfl rfl ?_
  refine Z_iload hC dL_law_1645 rfl ?_
  refine Z_iconst hC dL_law_1647 (v := 3) (by decide) ?_
  refine Z_iadd hC dL_law_1648 ?_
  refine Z_sld hC hs v3 e3 dL_law_1649 ?_
  refine Z_aload_n hC dL_law_1650 rfl rfl ?_
  refine Z_callH (k1 := k + 300) (n1 := n + 12000) [rv x, .int a1, .int c2, .int a3, rv o] [rv o, .int a3, .int c2, .int a1, rv x] hC lh_L_239 (hl_payLien hst hM hI.1 hO hlt a1 c2 a3 hc2) rfl rfl (by simp only [List.map_cons, List.map_nil, rv_cat, List.sum_cons, List.sum_nil]; (try simp only [Value.category]); (try omega)) (by decide) rfl rfl (by omega) (by omega) dL_law_1651 (fun v9 M1 hq1 => ?_)
  obtain ⟨q1, c1, f1, o1, p1⟩ := hq1
  rw [q1]
  have m1 := hm.frX f1
  refine Z_istore hC dL_law_1654 (by decide) (ls1 := [some (.ref b), some (rv x), some (rv m), some (rv o), some (rv od), some (.int (nI (5 * t))), some (.int (nI (oPayLien S a1 c2 a3).1))]) rfl ?_
  refine Z_aload_n hC dL_law_1656 rfl rfl ?_
  refine Z_aloadR_n hC dL_law_1657 rfl rfl ?_
  refine Z_iload hC dL_law_1658 rfl ?_
  refine Z_iconst hC dL_law_1660 (v := 1) (by decide) ?_
  refine Z_iadd hC dL_law_1661 ?_
  refine Z_sld hC hs v1 e1 dL_law_1662 ?_
  refine Z_aloadR_n hC dL_law_1663 rfl rfl ?_
  refine Z_iload hC dL_law_1664 rfl ?_
  refine Z_iconst hC dL_law_1666 (v := 2) (by decide) ?_
  refine Z_iadd hC dL_law_1667 ?_
  refine Z_sld hC hs v2 e2 dL_law_1668 ?_
  refine Z_i2c hC dL_law_1669 (v := c2) f2 ?_
  refine Z_aloadR_n hC dL_law_1670 rfl rfl ?_
  refine Z_iload hC dL_law_1671 rfl ?_
  refine Z_iconst hC dL_law_1673 (v := 3) (by decide) ?_
  refine Z_iadd hC dL_law_1674 ?_
  refine Z_sld hC hs v3 e3 dL_law_1675 ?_
  refine Z_callV (k1 := k + 300) (n1 := n + 12000) (kd := 6) [.int a1, .int c2, .int a3] [.int a3, .int c2, .int a1, rv m] hC lv_L_241 (ct_X5_payLien hst m1 hI.1 hlt a1 c2 a3) (congrArg Prod.fst m1.1.t0) (by decide) ⟨_, mE_6 (congrArg Prod.fst m1.1.t0)⟩ rfl rfl rfl (by simp only [List.map_cons, List.map_nil, rv_cat, List.sum_cons, List.sum_nil]; (try simp only [Value.category]); (try omega)) (by decide) rfl rfl (by omega) (by omega) dL_law_1676 (fun E M9 h => h) (fun v9 M2 hq2 => ?_)
  obtain ⟨w2, mA, g2, kA⟩ := hq2
  have cA := (c1.pM g2).1
  have oA := o1.fr g2 (by decide) (by decide)
  obtain ⟨i, hi⟩ := vi_oPayLien S a1 c2 a3
  rw [w2, hi]
  have eO := g2.at o1.1 (by decide) (by decide)
  refine Z_istore hC dL_law_1679 (by decide) (ls1 := [some (.ref b), some (rv x), some (rv m), some (rv o), some (rv od), some (.int (nI (5 * t))), some (.int (nI (oPayLien S a1 c2 a3).1)), some (.int i)]) rfl ?_
  refine Z_aload_n hC dL_law_1681 rfl rfl ?_
  refine Z_callV (k1 := k + 300) (n1 := n + 12000) (kd := 6) [] [rv m] hC lv_L_161 (ct_X5_thrown hst mA.1) (congrArg Prod.fst mA.1.t0) (by decide) ⟨_, mE_6 (congrArg Prod.fst mA.1.t0)⟩ rfl rfl rfl (by simp only [List.map_cons, List.map_nil, rv_cat, List.sum_cons, List.sum_nil]; (try simp only [Value.category]); (try omega)) (by decide) rfl rfl (by omega) (by omega) dL_law_1682 (fun E M9 h => h) (fun v9 M9 hq9 => ?_)
  obtain ⟨rfl, e9⟩ := hq9
  rw [e9, kA]; clear e9
  refine Z_iload hC dL_law_1685 rfl ?_
  refine Z_icmp_eq hC dL_law_1687 (tgt := 1692) (by decide) (fun c => ?_) (fun c => ?_)
  · refine Z_iload hC dL_law_1692 rfl ?_
    refine Z_if_ne hC dL_law_1694 (tgt := 1709) (by decide) (fun c => ?_) (fun c => ?_)
    · refine Z_goto hC dL_law_1709 (tgt := 2816) (by decide) ?_
      refine Z_sub hC (ls1 := lsL b x m o od t) ⟨rfl, rfl, rfl, rfl, rfl, rfl, trivial⟩ ?_
      refine Z_wide hC (k1 := k + 300) (n1 := n + 12000) (by omega) (by omega) ?_
      exact hE _ _ ⟨cA, mA, hI9, oA⟩
    · have h0 := nI_0of (vk_oPayLien S a1 c2 a3) (Classical.not_not.mp c)
      obtain ⟨i2, hi2, p2⟩ := p1 h0
      have ei : i2 = i := Value.int.inj (hi2.symm.trans hi)
      have pA : mJ M2 o 0 = Int32.toInt64 i := by rw [eO.2.2.2.2.1, p2, ei]
      refine Z_aload_n hC dL_law_1697 rfl rfl ?_
      refine Z_iconst hC dL_law_1698 (v := 0) (by decide) ?_
      refine Z_lald hC (congrArg Prod.fst oA.1) (j := 0) (by decide) (by rw [oA.2.1]; decide) dL_law_1699 ?_
      rw [pA]
      refine Z_iload hC dL_law_1700 rfl ?_
      refine Z_i2l hC dL_law_1702 ?_
      refine Z_lcmp hC dL_law_1703 ?_
      rw [lcmp_self]
      refine Z_if_eq hC dL_law_1704 (tgt := 1709) (by decide) (fun c => ?_) (fun c => ?_)
      · refine Z_goto hC dL_law_1709 (tgt := 2816) (by decide) ?_
        refine Z_sub hC (ls1 := lsL b x m o od t) ⟨rfl, rfl, rfl, rfl, rfl, rfl, trivial⟩ ?_
        refine Z_wide hC (k1 := k + 300) (n1 := n + 12000) (by omega) (by omega) ?_
        exact hE _ _ ⟨cA, mA, hI9, oA⟩
      · exact absurd rfl c
  · exact absurd rfl c
theorem cs_lienOf {G : Gt} {γ : Γt} {mc ms d : Nat} {lh : Launch} {M : Mm} {x m o od b L t k n : Nat} {xs : Nat → Int32} {S : St} (hst : lh.stackTraces = false) (hC : Zok G γ RL cL_law (some .boolean) 20 mc ms lawQ lh 9) (hs : Sok G γ b L xs) (hL : 5 * t + 4 < L) (hL2 : L ≤ 2560) (h : LwI M x m o od S t) (hk : k + 300 ≤ mc) (hn : n + 12000 ≤ ms) (hE : ∀ (M9 : Mm) (S9 : St), LwI M9 x m o od S9 (t + 1) → JE G γ ET M9 2816 (lsL b x m o od t) [] (k + 300) (n + 12000)) : JE G γ ET M 1712 (lsL b x m o od t) [] k n := by
  obtain ⟨hM, hm, hI, hO⟩ := h
  have hlt : t < 512 := by omega
  have v1 := vp_s (j := 1) (b := 1) hL (by decide) rfl hL2
  obtain ⟨a1, e1⟩ : ∃ z, xs (nI (5 * t) + 1).toNatClampNeg = z := ⟨_, rfl⟩
  have v2 := vp_s (j := 2) (b := 2) hL (by decide) rfl hL2
  obtain ⟨a2, e2⟩ : ∃ z, xs (nI (5 * t) + 2).toNatClampNeg = z := ⟨_, rfl⟩
  obtain ⟨c2, f2⟩ : ∃ z, (a2.toUInt32 % 65536).toInt32 = z := ⟨_, rfl⟩
  have hc2 := i2c_rng f2
  have hI9 : Iv (oLienOf S a1 c2).2.2 (t + 1) := by rw [vs_oLienOf]; exact hI.mono hlt
  unfold lsL
  refine Z_aload_n hC dL_law_1712 rfl rfl ?_
  refine Z_aloadR_n hC dL_law_1713 rfl rfl ?_
  refine Z_iload hC dL_law_1714 rfl ?_
  refine Z_iconst hC dL_law_1716 (v := 1) (by decide) ?_
  refine Z_iadd hC dL_law_1717 ?_
  refine Z_sld hC hs v1 e1 dL_law_1718 ?_
  refine Z_aloadR_n hC dL_law_1719 rfl rfl ?_
  refine Z_iload hC dL_law_1720 rfl ?_
  refine Z_iconst hC dL_law_1722 (v := 2) (by decide) ?_
  refine Z_iadd hC dL_law_1723 ?_
  refine Z_sld hC hs v2 e2 dL_law_1724 ?_
  refine Z_i2c hC dL_law_1725 (v := c2) f2 ?_
  refine Z_aload_n hC dL_law_1726 rfl rfl ?_
  refine Z_callH (k1 := k + 8) (n1 := n + 48) [rv x, .int a1, .int c2, rv o] [rv o, .int c2, .int a1, rv x] hC lh_L_242 (hl_lienOf hst hM hI.1 hO a1 c2 hc2) rfl rfl (by simp only [List.map_cons, List.map_nil, rv_cat, List.sum_cons, List.sum_nil]; (try simp only [Value.category]); (try omega)) (by decide) rfl rfl (by omega) (by omega) dL_law_1727 (fun v9 M1 hq1 => ?_)
  obtain ⟨q1, c1, f1, o1, p1⟩ := hq1
  rw [q1]
  have m1 := hm.frX f1
  refine Z_istore hC dL_law_1730 (by decide) (ls1 := [some (.ref b), some (rv x), some (rv m), some (rv o), some (rv od), some (.int (nI (5 * t))), some (.int (nI (oLienOf S a1 c2).1))]) rfl ?_
  refine Z_aload_n hC dL_law_1732 rfl rfl ?_
  refine Z_aloadR_n hC dL_law_1733 rfl rfl ?_
  refine Z_iload hC dL_law_1734 rfl ?_
  refine Z_iconst hC dL_law_1736 (v := 1) (by decide) ?_
  refine Z_iadd hC dL_law_1737 ?_
  refine Z_sld hC hs v1 e1 dL_law_1738 ?_
  refine Z_aloadR_n hC dL_law_1739 rfl rfl ?_
  refine Z_iload hC dL_law_1740 rfl ?_
  refine Z_iconst hC dL_law_1742 (v := 2) (by decide) ?_
  refine Z_iadd hC dL_law_1743 ?_
  refine Z_sld hC hs v2 e2 dL_law_1744 ?_
  refine Z_i2c hC dL_law_1745 (v := c2) f2 ?_
  refine Z_callV (k1 := k + 8) (n1 := n + 48) (kd := 6) [.int a1, .int c2] [.int c2, .int a1, rv m] hC lv_L_244 (ct_X5_lienOf hst m1 hI.1 hlt a1 c2) (congrArg Prod.fst m1.1.t0) (by decide) ⟨_, mE_6 (congrArg Prod.fst m1.1.t0)⟩ rfl rfl rfl (by simp only [List.map_cons, List.map_nil, rv_cat, List.sum_cons, List.sum_nil]; (try simp only [Value.category]); (try omega)) (by decide) rfl rfl (by omega) (by omega) dL_law_1746 (fun E M9 h => h) (fun v9 M2 hq2 => ?_)
  obtain ⟨w2, mA, g2, kA⟩ := hq2
  have cA := (c1.pM g2).1
  have oA := o1.fr g2 (by decide) (by decide)
  obtain ⟨i, hi⟩ := vi_oLienOf S a1 c2
  rw [w2, hi]
  have eO := g2.at o1.1 (by decide) (by decide)
  refine Z_istore hC dL_law_1749 (by decide) (ls1 := [some (.ref b), some (rv x), some (rv m), some (rv o), some (rv od), some (.int (nI (5 * t))), some (.int (nI (oLienOf S a1 c2).1)), some (.int i)]) rfl ?_
  refine Z_aload_n hC dL_law_1751 rfl rfl ?_
  refine Z_callV (k1 := k + 8) (n1 := n + 48) (kd := 6) [] [rv m] hC lv_L_161 (ct_X5_thrown hst mA.1) (congrArg Prod.fst mA.1.t0) (by decide) ⟨_, mE_6 (congrArg Prod.fst mA.1.t0)⟩ rfl rfl rfl (by simp only [List.map_cons, List.map_nil, rv_cat, List.sum_cons, List.sum_nil]; (try simp only [Value.category]); (try omega)) (by decide) rfl rfl (by omega) (by omega) dL_law_1752 (fun E M9 h => h) (fun v9 M9 hq9 => ?_)
  obtain ⟨rfl, e9⟩ := hq9
  rw [e9, kA]; clear e9
  refine Z_iload hC dL_law_1755 rfl ?_
  refine Z_icmp_eq hC dL_law_1757 (tgt := 1762) (by decide) (fun c => ?_) (fun c => ?_)
  · refine Z_iload hC dL_law_1762 rfl ?_
    refine Z_if_ne hC dL_law_1764 (tgt := 1779) (by decide) (fun c => ?_) (fun c => ?_)
    · refine Z_goto hC dL_law_1779 (tgt := 2816) (by decide) ?_
      refine Z_sub hC (ls1 := lsL b x m o od t) ⟨rfl, rfl, rfl, rfl, rfl, rfl, trivial⟩ ?_
      refine Z_wide hC (k1 := k + 300) (n1 := n + 12000) (by omega) (by omega) ?_
      exact hE _ _ ⟨cA, mA, hI9, oA⟩
    · have h0 := nI_0of (vk_oLienOf S a1 c2) (Classical.not_not.mp c)
      obtain ⟨i2, hi2, p2⟩ := p1 h0
      have ei : i2 = i := Value.int.inj (hi2.symm.trans hi)
      have pA : mJ M2 o 0 = Int32.toInt64 i := by rw [eO.2.2.2.2.1, p2, ei]
      refine Z_aload_n hC dL_law_1767 rfl rfl ?_
      refine Z_iconst hC dL_law_1768 (v := 0) (by decide) ?_
      refine Z_lald hC (congrArg Prod.fst oA.1) (j := 0) (by decide) (by rw [oA.2.1]; decide) dL_law_1769 ?_
      rw [pA]
      refine Z_iload hC dL_law_1770 rfl ?_
      refine Z_i2l hC dL_law_1772 ?_
      refine Z_lcmp hC dL_law_1773 ?_
      rw [lcmp_self]
      refine Z_if_eq hC dL_law_1774 (tgt := 1779) (by decide) (fun c => ?_) (fun c => ?_)
      · refine Z_goto hC dL_law_1779 (tgt := 2816) (by decide) ?_
        refine Z_sub hC (ls1 := lsL b x m o od t) ⟨rfl, rfl, rfl, rfl, rfl, rfl, trivial⟩ ?_
        refine Z_wide hC (k1 := k + 300) (n1 := n + 12000) (by omega) (by omega) ?_
        exact hE _ _ ⟨cA, mA, hI9, oA⟩
      · exact absurd rfl c
  · exact absurd rfl c
theorem cs_isBlocked {G : Gt} {γ : Γt} {mc ms d : Nat} {lh : Launch} {M : Mm} {x m o od b L t k n : Nat} {xs : Nat → Int32} {S : St} (hst : lh.stackTraces = false) (hC : Zok G γ RL cL_law (some .boolean) 20 mc ms lawQ lh 9) (hs : Sok G γ b L xs) (hL : 5 * t + 4 < L) (hL2 : L ≤ 2560) (h : LwI M x m o od S t) (hk : k + 300 ≤ mc) (hn : n + 12000 ≤ ms) (hE : ∀ (M9 : Mm) (S9 : St), LwI M9 x m o od S9 (t + 1) → JE G γ ET M9 2816 (lsL b x m o od t) [] (k + 300) (n + 12000)) : JE G γ ET M 1782 (lsL b x m o od t) [] k n := by
  obtain ⟨hM, hm, hI, hO⟩ := h
  have hlt : t < 512 := by omega
  have v1 := vp_s (j := 1) (b := 1) hL (by decide) rfl hL2
  obtain ⟨a1, e1⟩ : ∃ z, xs (nI (5 * t) + 1).toNatClampNeg = z := ⟨_, rfl⟩
  have hI9 : Iv (oIsBlocked S a1).2.2 (t + 1) := by rw [vs_oIsBlocked]; exact hI.mono hlt
  unfold lsL
  refine Z_aload_n hC dL_law_1782 rfl rfl ?_
  refine Z_aloadR_n hC dL_law_1783 rfl rfl ?_
  refine Z_iload hC dL_law_1784 rfl ?_
  refine Z_iconst hC dL_law_1786 (v := 1) (by decide) ?_
  refine Z_iadd hC dL_law_1787 ?_
  refine Z_sld hC hs v1 e1 dL_law_1788 ?_
  refine Z_aload_n hC dL_law_1789 rfl rfl ?_
  refine Z_callH (k1 := k + 8) (n1 := n + 48) [rv x, .int a1, rv o] [rv o, .int a1, rv x] hC lh_L_245 (hl_isBlocked hst hM hI.1 hO a1) rfl rfl (by simp only [List.map_cons, List.map_nil, rv_cat, List.sum_cons, List.sum_nil]; (try simp only [Value.category]); (try omega)) (by decide) rfl rfl (by omega) (by omega) dL_law_1790 (fun v9 M1 hq1 => ?_)
  obtain ⟨q1, c1, f1, o1, p1⟩ := hq1
  rw [q1]
  have m1 := hm.frX f1
  refine Z_istore hC dL_law_1793 (by decide) (ls1 := [some (.ref b), some (rv x), some (rv m), some (rv o), some (rv od), some (.int (nI (5 * t))), some (.int (nI (oIsBlocked S a1).1))]) rfl ?_
  refine Z_aload_n hC dL_law_1795 rfl rfl ?_
  refine Z_aloadR_n hC dL_law_1796 rfl rfl ?_
  refine Z_iload hC dL_law_1797 rfl ?_
  refine Z_iconst hC dL_law_1799 (v := 1) (by decide) ?_
  refine Z_iadd hC dL_law_1800 ?_
  refine Z_sld hC hs v1 e1 dL_law_1801 ?_
  refine Z_callV (k1 := k + 8) (n1 := n + 48) (kd := 6) [.int a1] [.int a1, rv m] hC lv_L_247 (ct_X5_isBlocked hst m1 hI.1 hlt a1) (congrArg Prod.fst m1.1.t0) (by decide) ⟨_, mE_6 (congrArg Prod.fst m1.1.t0)⟩ rfl rfl rfl (by simp only [List.map_cons, List.map_nil, rv_cat, List.sum_cons, List.sum_nil]; (try simp only [Value.category]); (try omega)) (by decide) rfl rfl (by omega) (by omega) dL_law_1802 (fun E M9 h => h) (fun v9 M2 hq2 => ?_)
  obtain ⟨w2, mA, g2, kA⟩ := hq2
  have cA := (c1.pM g2).1
  have oA := o1.fr g2 (by decide) (by decide)
  obtain ⟨i, hi⟩ := vi_oIsBlocked S a1
  rw [w2, hi]
  have eO := g2.at o1.1 (by decide) (by decide)
  refine Z_istore hC dL_law_1805 (by decide) (ls1 := [some (.ref b), some (rv x), some (rv m), some (rv o), some (rv od), some (.int (nI (5 * t))), some (.int (nI (oIsBlocked S a1).1)), some (.int i)]) rfl ?_
  refine Z_aload_n hC dL_law_1807 rfl rfl ?_
  refine Z_callV (k1 := k + 8) (n1 := n + 48) (kd := 6) [] [rv m] hC lv_L_161 (ct_X5_thrown hst mA.1) (congrArg Prod.fst mA.1.t0) (by decide) ⟨_, mE_6 (congrArg Prod.fst mA.1.t0)⟩ rfl rfl rfl (by simp only [List.map_cons, List.map_nil, rv_cat, List.sum_cons, List.sum_nil]; (try simp only [Value.category]); (try omega)) (by decide) rfl rfl (by omega) (by omega) dL_law_1808 (fun E M9 h => h) (fun v9 M9 hq9 => ?_)
  obtain ⟨rfl, e9⟩ := hq9
  rw [e9, kA]; clear e9
  refine Z_iload hC dL_law_1811 rfl ?_
  refine Z_icmp_eq hC dL_law_1813 (tgt := 1818) (by decide) (fun c => ?_) (fun c => ?_)
  · refine Z_iload hC dL_law_1818 rfl ?_
    refine Z_if_ne hC dL_law_1820 (tgt := 1842) (by decide) (fun c => ?_) (fun c => ?_)
    · refine Z_goto hC dL_law_1842 (tgt := 2816) (by decide) ?_
      refine Z_sub hC (ls1 := lsL b x m o od t) ⟨rfl, rfl, rfl, rfl, rfl, rfl, trivial⟩ ?_
      refine Z_wide hC (k1 := k + 300) (n1 := n + 12000) (by omega) (by omega) ?_
      exact hE _ _ ⟨cA, mA, hI9, oA⟩
    · have h0 := nI_0of (vk_oIsBlocked S a1) (Classical.not_not.mp c)
      obtain ⟨i2, hi2, p2⟩ := p1 h0
      have ei : i2 = i := Value.int.inj (hi2.symm.trans hi)
      have pA : mJ M2 o 0 = zl i := by rw [eO.2.2.2.2.1, p2, ei]
      refine Z_aload_n hC dL_law_1823 rfl rfl ?_
      refine Z_iconst hC dL_law_1824 (v := 0) (by decide) ?_
      refine Z_lald hC (congrArg Prod.fst oA.1) (j := 0) (by decide) (by rw [oA.2.1]; decide) dL_law_1825 ?_
      rw [pA]
      refine Z_iload hC dL_law_1826 rfl ?_
      refine Z_if_eq hC dL_law_1828 (tgt := 1835) (by decide) (fun c => ?_) (fun c => ?_)
      · refine Z_lconst hC dL_law_1835 (v := 0) (by decide) ?_
        rw [show zl i = 0 from if_pos c]
        refine Z_lcmp hC dL_law_1836 ?_
        rw [lcmp_self]
        refine Z_if_eq hC dL_law_1837 (tgt := 1842) (by decide) (fun c => ?_) (fun c => ?_)
        · refine Z_goto hC dL_law_1842 (tgt := 2816) (by decide) ?_
          refine Z_sub hC (ls1 := lsL b x m o od t) ⟨rfl, rfl, rfl, rfl, rfl, rfl, trivial⟩ ?_
          refine Z_wide hC (k1 := k + 300) (n1 := n + 12000) (by omega) (by omega) ?_
          exact hE _ _ ⟨cA, mA, hI9, oA⟩
        · exact absurd rfl c
      · refine Z_lconst hC dL_law_1831 (v := 1) (by decide) ?_
        refine Z_goto hC dL_law_1832 (tgt := 1836) (by decide) ?_
        rw [show zl i = 1 from if_neg c]
        refine Z_lcmp hC dL_law_1836 ?_
        rw [lcmp_self]
        refine Z_if_eq hC dL_law_1837 (tgt := 1842) (by decide) (fun c => ?_) (fun c => ?_)
        · refine Z_goto hC dL_law_1842 (tgt := 2816) (by decide) ?_
          refine Z_sub hC (ls1 := lsL b x m o od t) ⟨rfl, rfl, rfl, rfl, rfl, rfl, trivial⟩ ?_
          refine Z_wide hC (k1 := k + 300) (n1 := n + 12000) (by omega) (by omega) ?_
          exact hE _ _ ⟨cA, mA, hI9, oA⟩
        · exact absurd rfl c
  · exact absurd rfl c
theorem cs_keepPlate {G : Gt} {γ : Γt} {mc ms d : Nat} {lh : Launch} {M : Mm} {x m o od b L t k n : Nat} {xs : Nat → Int32} {S : St} (hst : lh.stackTraces = false) (hC : Zok G γ RL cL_law (some .boolean) 20 mc ms lawQ lh 9) (hs : Sok G γ b L xs) (hL : 5 * t + 4 < L) (hL2 : L ≤ 2560) (h : LwI M x m o od S t) (hk : k + 300 ≤ mc) (hn : n + 12000 ≤ ms) (hE : ∀ (M9 : Mm) (S9 : St), LwI M9 x m o od S9 (t + 1) → JE G γ ET M9 2816 (lsL b x m o od t) [] (k + 300) (n + 12000)) : JE G γ ET M 1845 (lsL b x m o od t) [] k n := by
  obtain ⟨hM, hm, hI, hO⟩ := h
  have hlt : t < 512 := by omega
  have v1 := vp_s (j := 1) (b := 1) hL (by decide) rfl hL2
  obtain ⟨a1, e1⟩ : ∃ z, xs (nI (5 * t) + 1).toNatClampNeg = z := ⟨_, rfl⟩
  have hI9 := iv_keepPlate hI hlt a1
  unfold lsL
  refine Z_aload_n hC dL_law_1845 rfl rfl ?_
  refine Z_aloadR_n hC dL_law_1846 rfl rfl ?_
  refine Z_iload hC dL_law_1847 rfl ?_
  refine Z_iconst hC dL_law_1849 (v := 1) (by decide) ?_
  refine Z_iadd hC dL_law_1850 ?_
  refine Z_sld hC hs v1 e1 dL_law_1851 ?_
  refine Z_aload_n hC dL_law_1852 rfl rfl ?_
  refine Z_callH (k1 := k + 40) (n1 := n + 9000) [rv x, .int a1, rv o] [rv o, .int a1, rv x] hC lh_L_248 (hl_keepPlate hst hM hI.1 hO hlt a1) rfl rfl (by simp only [List.map_cons, List.map_nil, rv_cat, List.sum_cons, List.sum_nil]; (try simp only [Value.category]); (try omega)) (by decide) rfl rfl (by omega) (by omega) dL_law_1853 (fun v9 M1 hq1 => ?_)
  obtain ⟨q1, c1, f1, o1, p1⟩ := hq1
  rw [q1]
  have m1 := hm.frX f1
  refine Z_istore hC dL_law_1856 (by decide) (ls1 := [some (.ref b), some (rv x), some (rv m), some (rv o), some (rv od), some (.int (nI (5 * t))), some (.int (nI (oKeepPlate S a1).1))]) rfl ?_
  refine Z_aload_n hC dL_law_1858 rfl rfl ?_
  refine Z_aloadR_n hC dL_law_1859 rfl rfl ?_
  refine Z_iload hC dL_law_1860 rfl ?_
  refine Z_iconst hC dL_law_1862 (v := 1) (by decide) ?_
  refine Z_iadd hC dL_law_1863 ?_
  refine Z_sld hC hs v1 e1 dL_law_1864 ?_
  refine Z_callV (k1 := k + 40) (n1 := n + 9000) (kd := 6) [.int a1] [.int a1, rv m] hC lv_L_250 (ct_X5_keepPlate hst m1 hI.1 hlt a1) (congrArg Prod.fst m1.1.t0) (by decide) ⟨_, mE_6 (congrArg Prod.fst m1.1.t0)⟩ rfl rfl rfl (by simp only [List.map_cons, List.map_nil, rv_cat, List.sum_cons, List.sum_nil]; (try simp only [Value.category]); (try omega)) (by decide) rfl rfl (by omega) (by omega) dL_law_1865 (fun E M9 h => h) (fun v9 M2 hq2 => ?_)
  obtain ⟨w2, mA, g2, kA⟩ := hq2
  have cA := (c1.pM g2).1
  have oA := o1.fr g2 (by decide) (by decide)
  obtain ⟨i, hi⟩ := vi_oKeepPlate S a1
  rw [w2, hi]
  have eO := g2.at o1.1 (by decide) (by decide)
  refine Z_istore hC dL_law_1868 (by decide) (ls1 := [some (.ref b), some (rv x), some (rv m), some (rv o), some (rv od), some (.int (nI (5 * t))), some (.int (nI (oKeepPlate S a1).1)), some (.int i)]) rfl ?_
  refine Z_aload_n hC dL_law_1870 rfl rfl ?_
  refine Z_callV (k1 := k + 40) (n1 := n + 9000) (kd := 6) [] [rv m] hC lv_L_161 (ct_X5_thrown hst mA.1) (congrArg Prod.fst mA.1.t0) (by decide) ⟨_, mE_6 (congrArg Prod.fst mA.1.t0)⟩ rfl rfl rfl (by simp only [List.map_cons, List.map_nil, rv_cat, List.sum_cons, List.sum_nil]; (try simp only [Value.category]); (try omega)) (by decide) rfl rfl (by omega) (by omega) dL_law_1871 (fun E M9 h => h) (fun v9 M9 hq9 => ?_)
  obtain ⟨rfl, e9⟩ := hq9
  rw [e9, kA]; clear e9
  refine Z_iload hC dL_law_1874 rfl ?_
  refine Z_icmp_eq hC dL_law_1876 (tgt := 1881) (by decide) (fun c => ?_) (fun c => ?_)
  · refine Z_iload hC dL_law_1881 rfl ?_
    refine Z_if_ne hC dL_law_1883 (tgt := 1898) (by decide) (fun c => ?_) (fun c => ?_)
    · refine Z_goto hC dL_law_1898 (tgt := 2816) (by decide) ?_
      refine Z_sub hC (ls1 := lsL b x m o od t) ⟨rfl, rfl, rfl, rfl, rfl, rfl, trivial⟩ ?_
      refine Z_wide hC (k1 := k + 300) (n1 := n + 12000) (by omega) (by omega) ?_
      exact hE _ _ ⟨cA, mA, hI9, oA⟩
    · have h0 := nI_0of (vk_oKeepPlate S a1) (Classical.not_not.mp c)
      obtain ⟨i2, hi2, p2⟩ := p1 h0
      have ei : i2 = i := Value.int.inj (hi2.symm.trans hi)
      have pA : mJ M2 o 0 = Int32.toInt64 i := by rw [eO.2.2.2.2.1, p2, ei]
      refine Z_aload_n hC dL_law_1886 rfl rfl ?_
      refine Z_iconst hC dL_law_1887 (v := 0) (by decide) ?_
      refine Z_lald hC (congrArg Prod.fst oA.1) (j := 0) (by decide) (by rw [oA.2.1]; decide) dL_law_1888 ?_
      rw [pA]
      refine Z_iload hC dL_law_1889 rfl ?_
      refine Z_i2l hC dL_law_1891 ?_
      refine Z_lcmp hC dL_law_1892 ?_
      rw [lcmp_self]
      refine Z_if_eq hC dL_law_1893 (tgt := 1898) (by decide) (fun c => ?_) (fun c => ?_)
      · refine Z_goto hC dL_law_1898 (tgt := 2816) (by decide) ?_
        refine Z_sub hC (ls1 := lsL b x m o od t) ⟨rfl, rfl, rfl, rfl, rfl, rfl, trivial⟩ ?_
        refine Z_wide hC (k1 := k + 300) (n1 := n + 12000) (by omega) (by omega) ?_
        exact hE _ _ ⟨cA, mA, hI9, oA⟩
      · exact absurd rfl c
  · exact absurd rfl c
theorem cs_putOn {G : Gt} {γ : Γt} {mc ms d : Nat} {lh : Launch} {M : Mm} {x m o od b L t k n : Nat} {xs : Nat → Int32} {S : St} (hst : lh.stackTraces = false) (hC : Zok G γ RL cL_law (some .boolean) 20 mc ms lawQ lh 9) (hs : Sok G γ b L xs) (hL : 5 * t + 4 < L) (hL2 : L ≤ 2560) (h : LwI M x m o od S t) (hk : k + 300 ≤ mc) (hn : n + 12000 ≤ ms) (hE : ∀ (M9 : Mm) (S9 : St), LwI M9 x m o od S9 (t + 1) → JE G γ ET M9 2816 (lsL b x m o od t) [] (k + 300) (n + 12000)) : JE G γ ET M 1901 (lsL b x m o od t) [] k n := by
  obtain ⟨hM, hm, hI, hO⟩ := h
  have hlt : t < 512 := by omega
  have v1 := vp_s (j := 1) (b := 1) hL (by decide) rfl hL2
  obtain ⟨a1, e1⟩ : ∃ z, xs (nI (5 * t) + 1).toNatClampNeg = z := ⟨_, rfl⟩
  have v2 := vp_s (j := 2) (b := 2) hL (by decide) rfl hL2
  obtain ⟨a2, e2⟩ : ∃ z, xs (nI (5 * t) + 2).toNatClampNeg = z := ⟨_, rfl⟩
  have hI9 := iv_putOn hI hlt a1 a2
  unfold lsL
  refine Z_aload_n hC dL_law_1901 rfl rfl ?_
  refine Z_aloadR_n hC dL_law_1902 rfl rfl ?_
  refine Z_iload hC dL_law_1903 rfl ?_
  refine Z_iconst hC dL_law_1905 (v := 1) (by decide) ?_
  refine Z_iadd hC dL_law_1906 ?_
  refine Z_sld hC hs v1 e1 dL_law_1907 ?_
  refine Z_aloadR_n hC dL_law_1908 rfl rfl ?_
  refine Z_iload hC dL_law_1909 rfl ?_
  refine Z_iconst hC dL_law_1911 (v := 2) (by decide) ?_
  refine Z_iadd hC dL_law_1912 ?_
  refine Z_sld hC hs v2 e2 dL_law_1913 ?_
  refine Z_aload_n hC dL_law_1914 rfl rfl ?_
  refine Z_callH (k1 := k + 40) (n1 := n + 9000) [rv x, .int a1, .int a2, rv o] [rv o, .int a2, .int a1, rv x] hC lh_L_251 (hl_putOn hst hM hI.1 hO hlt a1 a2) rfl rfl (by simp only [List.map_cons, List.map_nil, rv_cat, List.sum_cons, List.sum_nil]; (try simp only [Value.category]); (try omega)) (by decide) rfl rfl (by omega) (by omega) dL_law_1915 (fun v9 M1 hq1 => ?_)
  obtain ⟨q1, c1, f1, o1, p1⟩ := hq1
  rw [q1]
  have m1 := hm.frX f1
  refine Z_istore hC dL_law_1918 (by decide) (ls1 := [some (.ref b), some (rv x), some (rv m), some (rv o), some (rv od), some (.int (nI (5 * t))), some (.int (nI (oPutOn S a1 a2).1))]) rfl ?_
  refine Z_aload_n hC dL_law_1920 rfl rfl ?_
  refine Z_aloadR_n hC dL_law_1921 rfl rfl ?_
  refine Z_iload hC dL_law_1922 rfl ?_
  refine Z_iconst hC dL_law_1924 (v := 1) (by decide) ?_
  refine Z_iadd hC dL_law_1925 ?_
  refine Z_sld hC hs v1 e1 dL_law_1926 ?_
  refine Z_aloadR_n hC dL_law_1927 rfl rfl ?_
  refine Z_iload hC dL_law_1928 rfl ?_
  refine Z_iconst hC dL_law_1930 (v := 2) (by decide) ?_
  refine Z_iadd hC dL_law_1931 ?_
  refine Z_sld hC hs v2 e2 dL_law_1932 ?_
  refine Z_callV (k1 := k + 40) (n1 := n + 9000) (kd := 6) [.int a1, .int a2] [.int a2, .int a1, rv m] hC lv_L_253 (ct_X5_putOn hst m1 hI.1 hlt a1 a2) (congrArg Prod.fst m1.1.t0) (by decide) ⟨_, mE_6 (congrArg Prod.fst m1.1.t0)⟩ rfl rfl rfl (by simp only [List.map_cons, List.map_nil, rv_cat, List.sum_cons, List.sum_nil]; (try simp only [Value.category]); (try omega)) (by decide) rfl rfl (by omega) (by omega) dL_law_1933 (fun E M9 h => h) (fun v9 M2 hq2 => ?_)
  obtain ⟨w2, mA, g2, kA⟩ := hq2
  have cA := (c1.pM g2).1
  have oA := o1.fr g2 (by decide) (by decide)
  obtain ⟨i, hi⟩ := vi_oPutOn S a1 a2
  rw [w2, hi]
  have eO := g2.at o1.1 (by decide) (by decide)
  refine Z_istore hC dL_law_1936 (by decide) (ls1 := [some (.ref b), some (rv x), some (rv m), some (rv o), some (rv od), some (.int (nI (5 * t))), some (.int (nI (oPutOn S a1 a2).1)), some (.int i)]) rfl ?_
  refine Z_aload_n hC dL_law_1938 rfl rfl ?_
  refine Z_callV (k1 := k + 40) (n1 := n + 9000) (kd := 6) [] [rv m] hC lv_L_161 (ct_X5_thrown hst mA.1) (congrArg Prod.fst mA.1.t0) (by decide) ⟨_, mE_6 (congrArg Prod.fst mA.1.t0)⟩ rfl rfl rfl (by simp only [List.map_cons, List.map_nil, rv_cat, List.sum_cons, List.sum_nil]; (try simp only [Value.category]); (try omega)) (by decide) rfl rfl (by omega) (by omega) dL_law_1939 (fun E M9 h => h) (fun v9 M9 hq9 => ?_)
  obtain ⟨rfl, e9⟩ := hq9
  rw [e9, kA]; clear e9
  refine Z_iload hC dL_law_1942 rfl ?_
  refine Z_icmp_eq hC dL_law_1944 (tgt := 1949) (by decide) (fun c => ?_) (fun c => ?_)
  · refine Z_iload hC dL_law_1949 rfl ?_
    refine Z_if_ne hC dL_law_1951 (tgt := 1966) (by decide) (fun c => ?_) (fun c => ?_)
    · refine Z_goto hC dL_law_1966 (tgt := 2816) (by decide) ?_
      refine Z_sub hC (ls1 := lsL b x m o od t) ⟨rfl, rfl, rfl, rfl, rfl, rfl, trivial⟩ ?_
      refine Z_wide hC (k1 := k + 300) (n1 := n + 12000) (by omega) (by omega) ?_
      exact hE _ _ ⟨cA, mA, hI9, oA⟩
    · have h0 := nI_0of (vk_oPutOn S a1 a2) (Classical.not_not.mp c)
      obtain ⟨i2, hi2, p2⟩ := p1 h0
      have ei : i2 = i := Value.int.inj (hi2.symm.trans hi)
      have pA : mJ M2 o 0 = Int32.toInt64 i := by rw [eO.2.2.2.2.1, p2, ei]
      refine Z_aload_n hC dL_law_1954 rfl rfl ?_
      refine Z_iconst hC dL_law_1955 (v := 0) (by decide) ?_
      refine Z_lald hC (congrArg Prod.fst oA.1) (j := 0) (by decide) (by rw [oA.2.1]; decide) dL_law_1956 ?_
      rw [pA]
      refine Z_iload hC dL_law_1957 rfl ?_
      refine Z_i2l hC dL_law_1959 ?_
      refine Z_lcmp hC dL_law_1960 ?_
      rw [lcmp_self]
      refine Z_if_eq hC dL_law_1961 (tgt := 1966) (by decide) (fun c => ?_) (fun c => ?_)
      · refine Z_goto hC dL_law_1966 (tgt := 2816) (by decide) ?_
        refine Z_sub hC (ls1 := lsL b x m o od t) ⟨rfl, rfl, rfl, rfl, rfl, rfl, trivial⟩ ?_
        refine Z_wide hC (k1 := k + 300) (n1 := n + 12000) (by omega) (by omega) ?_
        exact hE _ _ ⟨cA, mA, hI9, oA⟩
      · exact absurd rfl c
  · exact absurd rfl c
theorem cs_swapPlates {G : Gt} {γ : Γt} {mc ms d : Nat} {lh : Launch} {M : Mm} {x m o od b L t k n : Nat} {xs : Nat → Int32} {S : St} (hst : lh.stackTraces = false) (hC : Zok G γ RL cL_law (some .boolean) 20 mc ms lawQ lh 9) (hs : Sok G γ b L xs) (hL : 5 * t + 4 < L) (hL2 : L ≤ 2560) (h : LwI M x m o od S t) (hk : k + 300 ≤ mc) (hn : n + 12000 ≤ ms) (hE : ∀ (M9 : Mm) (S9 : St), LwI M9 x m o od S9 (t + 1) → JE G γ ET M9 2816 (lsL b x m o od t) [] (k + 300) (n + 12000)) : JE G γ ET M 1969 (lsL b x m o od t) [] k n := by
  obtain ⟨hM, hm, hI, hO⟩ := h
  have hlt : t < 512 := by omega
  have v1 := vp_s (j := 1) (b := 1) hL (by decide) rfl hL2
  obtain ⟨a1, e1⟩ : ∃ z, xs (nI (5 * t) + 1).toNatClampNeg = z := ⟨_, rfl⟩
  have v2 := vp_s (j := 2) (b := 2) hL (by decide) rfl hL2
  obtain ⟨a2, e2⟩ : ∃ z, xs (nI (5 * t) + 2).toNatClampNeg = z := ⟨_, rfl⟩
  have hI9 := iv_swap hI hlt a1 a2
  unfold lsL
  refine Z_aload_n hC dL_law_1969 rfl rfl ?_
  refine Z_aloadR_n hC dL_law_1970 rfl rfl ?_
  refine Z_iload hC dL_law_1971 rfl ?_
  refine Z_iconst hC dL_law_1973 (v := 1) (by decide) ?_
  refine Z_iadd hC dL_law_1974 ?_
  refine Z_sld hC hs v1 e1 dL_law_1975 ?_
  refine Z_aloadR_n hC dL_law_1976 rfl rfl ?_
  refine Z_iload hC dL_law_1977 rfl ?_
  refine Z_iconst hC dL_law_1979 (v := 2) (by decide) ?_
  refine Z_iadd hC dL_law_1980 ?_
  refine Z_sld hC hs v2 e2 dL_law_1981 ?_
  refine Z_aload_n hC dL_law_1982 rfl rfl ?_
  refine Z_callH (k1 := k + 40) (n1 := n + 9000) [rv x, .int a1, .int a2, rv o] [rv o, .int a2, .int a1, rv x] hC lh_L_254 (hl_swapPlates hst hM hI.1 hO hlt a1 a2) rfl rfl (by simp only [List.map_cons, List.map_nil, rv_cat, List.sum_cons, List.sum_nil]; (try simp only [Value.category]); (try omega)) (by decide) rfl rfl (by omega) (by omega) dL_law_1983 (fun v9 M1 hq1 => ?_)
  obtain ⟨q1, c1, f1, o1, p1⟩ := hq1
  rw [q1]
  have m1 := hm.frX f1
  refine Z_istore hC dL_law_1986 (by decide) (ls1 := [some (.ref b), some (rv x), some (rv m), some (rv o), some (rv od), some (.int (nI (5 * t))), some (.int (nI (oSwap S a1 a2).1))]) rfl ?_
  refine Z_aload_n hC dL_law_1988 rfl rfl ?_
  refine Z_aloadR_n hC dL_law_1989 rfl rfl ?_
  refine Z_iload hC dL_law_1990 rfl ?_
  refine Z_iconst hC dL_law_1992 (v := 1) (by decide) ?_
  refine Z_iadd hC dL_law_1993 ?_
  refine Z_sld hC hs v1 e1 dL_law_1994 ?_
  refine Z_aloadR_n hC dL_law_1995 rfl rfl ?_
  refine Z_iload hC dL_law_1996 rfl ?_
  refine Z_iconst hC dL_law_1998 (v := 2) (by decide) ?_
  refine Z_iadd hC dL_law_1999 ?_
  refine Z_sld hC hs v2 e2 dL_law_2000 ?_
  refine Z_callV (k1 := k + 40) (n1 := n + 9000) (kd := 6) [.int a1, .int a2] [.int a2, .int a1, rv m] hC lv_L_256 (ct_X5_swapPlates hst m1 hI.1 hlt a1 a2) (congrArg Prod.fst m1.1.t0) (by decide) ⟨_, mE_6 (congrArg Prod.fst m1.1.t0)⟩ rfl rfl rfl (by simp only [List.map_cons, List.map_nil, rv_cat, List.sum_cons, List.sum_nil]; (try simp only [Value.category]); (try omega)) (by decide) rfl rfl (by omega) (by omega) dL_law_2001 (fun E M9 h => h) (fun v9 M2 hq2 => ?_)
  obtain ⟨w2, mA, g2, kA⟩ := hq2
  have cA := (c1.pM g2).1
  have oA := o1.fr g2 (by decide) (by decide)
  obtain ⟨i, hi⟩ := vi_oSwap S a1 a2
  rw [w2, hi]
  have eO := g2.at o1.1 (by decide) (by decide)
  refine Z_istore hC dL_law_2004 (by decide) (ls1 := [some (.ref b), some (rv x), some (rv m), some (rv o), some (rv od), some (.int (nI (5 * t))), some (.int (nI (oSwap S a1 a2).1)), some (.int i)]) rfl ?_
  refine Z_aload_n hC dL_law_2006 rfl rfl ?_
  refine Z_callV (k1 := k + 40) (n1 := n + 9000) (kd := 6) [] [rv m] hC lv_L_161 (ct_X5_thrown hst mA.1) (congrArg Prod.fst mA.1.t0) (by decide) ⟨_, mE_6 (congrArg Prod.fst mA.1.t0)⟩ rfl rfl rfl (by simp only [List.map_cons, List.map_nil, rv_cat, List.sum_cons, List.sum_nil]; (try simp only [Value.category]); (try omega)) (by decide) rfl rfl (by omega) (by omega) dL_law_2007 (fun E M9 h => h) (fun v9 M9 hq9 => ?_)
  obtain ⟨rfl, e9⟩ := hq9
  rw [e9, kA]; clear e9
  refine Z_iload hC dL_law_2010 rfl ?_
  refine Z_icmp_eq hC dL_law_2012 (tgt := 2017) (by decide) (fun c => ?_) (fun c => ?_)
  · refine Z_iload hC dL_law_2017 rfl ?_
    refine Z_if_ne hC dL_law_2019 (tgt := 2034) (by decide) (fun c => ?_) (fun c => ?_)
    · refine Z_goto hC dL_law_2034 (tgt := 2816) (by decide) ?_
      refine Z_sub hC (ls1 := lsL b x m o od t) ⟨rfl, rfl, rfl, rfl, rfl, rfl, trivial⟩ ?_
      refine Z_wide hC (k1 := k + 300) (n1 := n + 12000) (by omega) (by omega) ?_
      exact hE _ _ ⟨cA, mA, hI9, oA⟩
    · have h0 := nI_0of (vk_oSwap S a1 a2) (Classical.not_not.mp c)
      obtain ⟨i2, hi2, p2⟩ := p1 h0
      have ei : i2 = i := Value.int.inj (hi2.symm.trans hi)
      have pA : mJ M2 o 0 = Int32.toInt64 i := by rw [eO.2.2.2.2.1, p2, ei]
      refine Z_aload_n hC dL_law_2022 rfl rfl ?_
      refine Z_iconst hC dL_law_2023 (v := 0) (by decide) ?_
      refine Z_lald hC (congrArg Prod.fst oA.1) (j := 0) (by decide) (by rw [oA.2.1]; decide) dL_law_2024 ?_
      rw [pA]
      refine Z_iload hC dL_law_2025 rfl ?_
      refine Z_i2l hC dL_law_2027 ?_
      refine Z_lcmp hC dL_law_2028 ?_
      rw [lcmp_self]
      refine Z_if_eq hC dL_law_2029 (tgt := 2034) (by decide) (fun c => ?_) (fun c => ?_)
      · refine Z_goto hC dL_law_2034 (tgt := 2816) (by decide) ?_
        refine Z_sub hC (ls1 := lsL b x m o od t) ⟨rfl, rfl, rfl, rfl, rfl, rfl, trivial⟩ ?_
        refine Z_wide hC (k1 := k + 300) (n1 := n + 12000) (by omega) (by omega) ?_
        exact hE _ _ ⟨cA, mA, hI9, oA⟩
      · exact absurd rfl c
  · exact absurd rfl c
theorem cs_plateState {G : Gt} {γ : Γt} {mc ms d : Nat} {lh : Launch} {M : Mm} {x m o od b L t k n : Nat} {xs : Nat → Int32} {S : St} (hst : lh.stackTraces = false) (hC : Zok G γ RL cL_law (some .boolean) 20 mc ms lawQ lh 9) (hs : Sok G γ b L xs) (hL : 5 * t + 4 < L) (hL2 : L ≤ 2560) (h : LwI M x m o od S t) (hk : k + 300 ≤ mc) (hn : n + 12000 ≤ ms) (hE : ∀ (M9 : Mm) (S9 : St), LwI M9 x m o od S9 (t + 1) → JE G γ ET M9 2816 (lsL b x m o od t) [] (k + 300) (n + 12000)) : JE G γ ET M 2037 (lsL b x m o od t) [] k n := by
  obtain ⟨hM, hm, hI, hO⟩ := h
  have hlt : t < 512 := by omega
  have v1 := vp_s (j := 1) (b := 1) hL (by decide) rfl hL2
  obtain ⟨a1, e1⟩ : ∃ z, xs (nI (5 * t) + 1).toNatClampNeg = z := ⟨_, rfl⟩
  have hI9 : Iv (oPlateState S a1).2.2 (t + 1) := by rw [vs_oPlateState]; exact hI.mono hlt
  unfold lsL
  refine Z_aload_n hC dL_law_2037 rfl rfl ?_
  refine Z_aloadR_n hC dL_law_2038 rfl rfl ?_
  refine Z_iload hC dL_law_2039 rfl ?_
  refine Z_iconst hC dL_law_2041 (v := 1) (by decide) ?_
  refine Z_iadd hC dL_law_2042 ?_
  refine Z_sld hC hs v1 e1 dL_law_2043 ?_
  refine Z_aload_n hC dL_law_2044 rfl rfl ?_
  refine Z_callH (k1 := k + 8) (n1 := n + 48) [rv x, .int a1, rv o] [rv o, .int a1, rv x] hC lh_L_257 (hl_plateState hst hM hI.1 hO a1) rfl rfl (by simp only [List.map_cons, List.map_nil, rv_cat, List.sum_cons, List.sum_nil]; (try simp only [Value.category]); (try omega)) (by decide) rfl rfl (by omega) (by omega) dL_law_2045 (fun v9 M1 hq1 => ?_)
  obtain ⟨q1, c1, f1, o1, p1⟩ := hq1
  rw [q1]
  have m1 := hm.frX f1
  refine Z_istore hC dL_law_2048 (by decide) (ls1 := [some (.ref b), some (rv x), some (rv m), some (rv o), some (rv od), some (.int (nI (5 * t))), some (.int (nI (oPlateState S a1).1))]) rfl ?_
  refine Z_aload_n hC dL_law_2050 rfl rfl ?_
  refine Z_aloadR_n hC dL_law_2051 rfl rfl ?_
  refine Z_iload hC dL_law_2052 rfl ?_
  refine Z_iconst hC dL_law_2054 (v := 1) (by decide) ?_
  refine Z_iadd hC dL_law_2055 ?_
  refine Z_sld hC hs v1 e1 dL_law_2056 ?_
  refine Z_callV (k1 := k + 8) (n1 := n + 48) (kd := 6) [.int a1] [.int a1, rv m] hC lv_L_259 (ct_X5_plateState hst m1 hI.1 hlt a1) (congrArg Prod.fst m1.1.t0) (by decide) ⟨_, mE_6 (congrArg Prod.fst m1.1.t0)⟩ rfl rfl rfl (by simp only [List.map_cons, List.map_nil, rv_cat, List.sum_cons, List.sum_nil]; (try simp only [Value.category]); (try omega)) (by decide) rfl rfl (by omega) (by omega) dL_law_2057 (fun E M9 h => h) (fun v9 M2 hq2 => ?_)
  obtain ⟨w2, mA, g2, kA⟩ := hq2
  have cA := (c1.pM g2).1
  have oA := o1.fr g2 (by decide) (by decide)
  obtain ⟨i, hi⟩ := vi_oPlateState S a1
  rw [w2, hi]
  have eO := g2.at o1.1 (by decide) (by decide)
  refine Z_istore hC dL_law_2060 (by decide) (ls1 := [some (.ref b), some (rv x), some (rv m), some (rv o), some (rv od), some (.int (nI (5 * t))), some (.int (nI (oPlateState S a1).1)), some (.int i)]) rfl ?_
  refine Z_aload_n hC dL_law_2062 rfl rfl ?_
  refine Z_callV (k1 := k + 8) (n1 := n + 48) (kd := 6) [] [rv m] hC lv_L_161 (ct_X5_thrown hst mA.1) (congrArg Prod.fst mA.1.t0) (by decide) ⟨_, mE_6 (congrArg Prod.fst mA.1.t0)⟩ rfl rfl rfl (by simp only [List.map_cons, List.map_nil, rv_cat, List.sum_cons, List.sum_nil]; (try simp only [Value.category]); (try omega)) (by decide) rfl rfl (by omega) (by omega) dL_law_2063 (fun E M9 h => h) (fun v9 M9 hq9 => ?_)
  obtain ⟨rfl, e9⟩ := hq9
  rw [e9, kA]; clear e9
  refine Z_iload hC dL_law_2066 rfl ?_
  refine Z_icmp_eq hC dL_law_2068 (tgt := 2073) (by decide) (fun c => ?_) (fun c => ?_)
  · refine Z_iload hC dL_law_2073 rfl ?_
    refine Z_if_ne hC dL_law_2075 (tgt := 2090) (by decide) (fun c => ?_) (fun c => ?_)
    · refine Z_goto hC dL_law_2090 (tgt := 2816) (by decide) ?_
      refine Z_sub hC (ls1 := lsL b x m o od t) ⟨rfl, rfl, rfl, rfl, rfl, rfl, trivial⟩ ?_
      refine Z_wide hC (k1 := k + 300) (n1 := n + 12000) (by omega) (by omega) ?_
      exact hE _ _ ⟨cA, mA, hI9, oA⟩
    · have h0 := nI_0of (vk_oPlateState S a1) (Classical.not_not.mp c)
      obtain ⟨i2, hi2, p2⟩ := p1 h0
      have ei : i2 = i := Value.int.inj (hi2.symm.trans hi)
      have pA : mJ M2 o 0 = Int32.toInt64 i := by rw [eO.2.2.2.2.1, p2, ei]
      refine Z_aload_n hC dL_law_2078 rfl rfl ?_
      refine Z_iconst hC dL_law_2079 (v := 0) (by decide) ?_
      refine Z_lald hC (congrArg Prod.fst oA.1) (j := 0) (by decide) (by rw [oA.2.1]; decide) dL_law_2080 ?_
      rw [pA]
      refine Z_iload hC dL_law_2081 rfl ?_
      refine Z_i2l hC dL_law_2083 ?_
      refine Z_lcmp hC dL_law_2084 ?_
      rw [lcmp_self]
      refine Z_if_eq hC dL_law_2085 (tgt := 2090) (by decide) (fun c => ?_) (fun c => ?_)
      · refine Z_goto hC dL_law_2090 (tgt := 2816) (by decide) ?_
        refine Z_sub hC (ls1 := lsL b x m o od t) ⟨rfl, rfl, rfl, rfl, rfl, rfl, trivial⟩ ?_
        refine Z_wide hC (k1 := k + 300) (n1 := n + 12000) (by omega) (by omega) ?_
        exact hE _ _ ⟨cA, mA, hI9, oA⟩
      · exact absurd rfl c
  · exact absurd rfl c
theorem cs_daysKept {G : Gt} {γ : Γt} {mc ms d : Nat} {lh : Launch} {M : Mm} {x m o od b L t k n : Nat} {xs : Nat → Int32} {S : St} (hst : lh.stackTraces = false) (hC : Zok G γ RL cL_law (some .boolean) 20 mc ms lawQ lh 9) (hs : Sok G γ b L xs) (hL : 5 * t + 4 < L) (hL2 : L ≤ 2560) (h : LwI M x m o od S t) (hk : k + 300 ≤ mc) (hn : n + 12000 ≤ ms) (hE : ∀ (M9 : Mm) (S9 : St), LwI M9 x m o od S9 (t + 1) → JE G γ ET M9 2816 (lsL b x m o od t) [] (k + 300) (n + 12000)) : JE G γ ET M 2093 (lsL b x m o od t) [] k n := by
  obtain ⟨hM, hm, hI, hO⟩ := h
  have hlt : t < 512 := by omega
  have v1 := vp_s (j := 1) (b := 1) hL (by decide) rfl hL2
  obtain ⟨a1, e1⟩ : ∃ z, xs (nI (5 * t) + 1).toNatClampNeg = z := ⟨_, rfl⟩
  have hI9 : Iv (oDaysKept S a1).2.2 (t + 1) := by rw [vs_oDaysKept]; exact hI.mono hlt
  unfold lsL
  refine Z_aload_n hC dL_law_2093 rfl rfl ?_
  refine Z_aloadR_n hC dL_law_2094 rfl rfl ?_
  refine Z_iload hC dL_law_2095 rfl ?_
  refine Z_iconst hC dL_law_2097 (v := 1) (by decide) ?_
  refine Z_iadd hC dL_law_2098 ?_
  refine Z_sld hC hs v1 e1 dL_law_2099 ?_
  refine Z_aload_n hC dL_law_2100 rfl rfl ?_
  refine Z_callH (k1 := k + 8) (n1 := n + 48) [rv x, .int a1, rv o] [rv o, .int a1, rv x] hC lh_L_260 (hl_daysKept hst hM hI.1 hO a1) rfl rfl (by simp only [List.map_cons, List.map_nil, rv_cat, List.sum_cons, List.sum_nil]; (try simp only [Value.category]); (try omega)) (by decide) rfl rfl (by omega) (by omega) dL_law_2101 (fun v9 M1 hq1 => ?_)
  obtain ⟨q1, c1, f1, o1, p1⟩ := hq1
  rw [q1]
  have m1 := hm.frX f1
  refine Z_istore hC dL_law_2104 (by decide) (ls1 := [some (.ref b), some (rv x), some (rv m), some (rv o), some (rv od), some (.int (nI (5 * t))), some (.int (nI (oDaysKept S a1).1))]) rfl ?_
  refine Z_aload_n hC dL_law_2106 rfl rfl ?_
  refine Z_aloadR_n hC dL_law_2107 rfl rfl ?_
  refine Z_iload hC dL_law_2108 rfl ?_
  refine Z_iconst hC dL_law_2110 (v := 1) (by decide) ?_
  refine Z_iadd hC dL_law_2111 ?_
  refine Z_sld hC hs v1 e1 dL_law_2112 ?_
  refine Z_callV (k1 := k + 8) (n1 := n + 48) (kd := 6) [.int a1] [.int a1, rv m] hC lv_L_262 (ct_X5_daysKept hst m1 hI.1 hlt a1) (congrArg Prod.fst m1.1.t0) (by decide) ⟨_, mE_6 (congrArg Prod.fst m1.1.t0)⟩ rfl rfl rfl (by simp only [List.map_cons, List.map_nil, rv_cat, List.sum_cons, List.sum_nil]; (try simp only [Value.category]); (try omega)) (by decide) rfl rfl (by omega) (by omega) dL_law_2113 (fun E M9 h => h) (fun v9 M2 hq2 => ?_)
  obtain ⟨w2, mA, g2, kA⟩ := hq2
  have cA := (c1.pM g2).1
  have oA := o1.fr g2 (by decide) (by decide)
  obtain ⟨i, hi⟩ := vi_oDaysKept S a1
  rw [w2, hi]
  have eO := g2.at o1.1 (by decide) (by decide)
  refine Z_istore hC dL_law_2116 (by decide) (ls1 := [some (.ref b), some (rv x), some (rv m), some (rv o), some (rv od), some (.int (nI (5 * t))), some (.int (nI (oDaysKept S a1).1)), some (.int i)]) rfl ?_
  refine Z_aload_n hC dL_law_2118 rfl rfl ?_
  refine Z_callV (k1 := k + 8) (n1 := n + 48) (kd := 6) [] [rv m] hC lv_L_161 (ct_X5_thrown hst mA.1) (congrArg Prod.fst mA.1.t0) (by decide) ⟨_, mE_6 (congrArg Prod.fst mA.1.t0)⟩ rfl rfl rfl (by simp only [List.map_cons, List.map_nil, rv_cat, List.sum_cons, List.sum_nil]; (try simp only [Value.category]); (try omega)) (by decide) rfl rfl (by omega) (by omega) dL_law_2119 (fun E M9 h => h) (fun v9 M9 hq9 => ?_)
  obtain ⟨rfl, e9⟩ := hq9
  rw [e9, kA]; clear e9
  refine Z_iload hC dL_law_2122 rfl ?_
  refine Z_icmp_eq hC dL_law_2124 (tgt := 2129) (by decide) (fun c => ?_) (fun c => ?_)
  · refine Z_iload hC dL_law_2129 rfl ?_
    refine Z_if_ne hC dL_law_2131 (tgt := 2146) (by decide) (fun c => ?_) (fun c => ?_)
    · refine Z_goto hC dL_law_2146 (tgt := 2816) (by decide) ?_
      refine Z_sub hC (ls1 := lsL b x m o od t) ⟨rfl, rfl, rfl, rfl, rfl, rfl, trivial⟩ ?_
      refine Z_wide hC (k1 := k + 300) (n1 := n + 12000) (by omega) (by omega) ?_
      exact hE _ _ ⟨cA, mA, hI9, oA⟩
    · have h0 := nI_0of (vk_oDaysKept S a1) (Classical.not_not.mp c)
      obtain ⟨i2, hi2, p2⟩ := p1 h0
      have ei : i2 = i := Value.int.inj (hi2.symm.trans hi)
      have pA : mJ M2 o 0 = Int32.toInt64 i := by rw [eO.2.2.2.2.1, p2, ei]
      refine Z_aload_n hC dL_law_2134 rfl rfl ?_
      refine Z_iconst hC dL_law_2135 (v := 0) (by decide) ?_
      refine Z_lald hC (congrArg Prod.fst oA.1) (j := 0) (by decide) (by rw [oA.2.1]; decide) dL_law_2136 ?_
      rw [pA]
      refine Z_iload hC dL_law_2137 rfl ?_
      refine Z_i2l hC dL_law_2139 ?_
      refine Z_lcmp hC dL_law_2140 ?_
      rw [lcmp_self]
      refine Z_if_eq hC dL_law_2141 (tgt := 2146) (by decide) (fun c => ?_) (fun c => ?_)
      · refine Z_goto hC dL_law_2146 (tgt := 2816) (by decide) ?_
        refine Z_sub hC (ls1 := lsL b x m o od t) ⟨rfl, rfl, rfl, rfl, rfl, rfl, trivial⟩ ?_
        refine Z_wide hC (k1 := k + 300) (n1 := n + 12000) (by omega) (by omega) ?_
        exact hE _ _ ⟨cA, mA, hI9, oA⟩
      · exact absurd rfl c
  · exact absurd rfl c
theorem cs_plates {G : Gt} {γ : Γt} {mc ms d : Nat} {lh : Launch} {M : Mm} {x m o od b L t k n : Nat} {xs : Nat → Int32} {S : St} (hst : lh.stackTraces = false) (hC : Zok G γ RL cL_law (some .boolean) 20 mc ms lawQ lh 9) (hs : Sok G γ b L xs) (hL : 5 * t + 4 < L) (hL2 : L ≤ 2560) (h : LwI M x m o od S t) (hk : k + 300 ≤ mc) (hn : n + 12000 ≤ ms) (hE : ∀ (M9 : Mm) (S9 : St), LwI M9 x m o od S9 (t + 1) → JE G γ ET M9 2816 (lsL b x m o od t) [] (k + 300) (n + 12000)) : JE G γ ET M 2149 (lsL b x m o od t) [] k n := by
  obtain ⟨hM, hm, hI, hO⟩ := h
  have hlt : t < 512 := by omega
  have hI9 : Iv (oPlates S).2.2 (t + 1) := by rw [vs_oPlates]; exact hI.mono hlt
  unfold lsL
  refine Z_aload_n hC dL_law_2149 rfl rfl ?_
  refine Z_callV (k1 := k + 8) (n1 := n + 48) (kd := 5) [] [rv x] hC lv_L_263 (ct_X4_plates hst hM hI.1) hM.tx (by decide) ⟨_, mE_5 hM.tx⟩ rfl rfl rfl (by simp only [List.map_cons, List.map_nil, rv_cat, List.sum_cons, List.sum_nil]; (try simp only [Value.category]); (try omega)) (by decide) rfl rfl (by omega) (by omega) dL_law_2150 (fun E M9 h => by obtain ⟨z, hz, -⟩ := h; simp at hz) (fun v9 M1 hq1 => ?_)
  obtain ⟨-, q1, c1, f1⟩ := hq1
  rw [q1]
  have m1 := hm.frX (f1.mono pC_pX)
  have o1 := hO.fr f1 (by decide) (by decide)
  refine Z_aload_n hC dL_law_2153 rfl rfl ?_
  refine Z_callV (k1 := k + 8) (n1 := n + 48) (kd := 6) [] [rv m, .int (nI (sN S 2))] hC lv_L_266 (ct_X5_plates hst m1 hI.1 hlt) (congrArg Prod.fst m1.1.t0) (by decide) ⟨_, mE_6 (congrArg Prod.fst m1.1.t0)⟩ rfl rfl rfl (by simp only [List.map_cons, List.map_nil, rv_cat, List.sum_cons, List.sum_nil]; (try simp only [Value.category]); (try omega)) (by decide) rfl rfl (by omega) (by omega) dL_law_2154 (fun E M9 h => h) (fun v9 M2 hq2 => ?_)
  obtain ⟨w2, mA, g2, kA⟩ := hq2
  have cA := (c1.pM g2).1
  have oA := o1.fr g2 (by decide) (by decide)
  rw [w2]
  refine Z_icmp_eq hC dL_law_2157 (tgt := 2816) (by decide) (fun c => ?_) (fun c => ?_)
  · refine Z_sub hC (ls1 := lsL b x m o od t) ⟨rfl, rfl, rfl, rfl, rfl, rfl, trivial⟩ ?_
    refine Z_wide hC (k1 := k + 300) (n1 := n + 12000) (by omega) (by omega) ?_
    exact hE _ _ ⟨cA, mA, hI9, oA⟩
  · exact absurd rfl c
