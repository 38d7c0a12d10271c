theorem cs_scrap {G : Gt} {γ : Γt} {mc ms d : Nat} {lh : Launch} {M : Mm} {x m o od b L t k n : Nat} {xs : Nat → Int32} {S : St} (hst : lh.stackTraces = false) (hC : Zok G γ RL cL_law (some .boolean) 20 mc ms lawQ lh 9) (hs : Sok G γ b L xs) (hL : 5 * t + 4 < L) (hL2 : L ≤ 2560) (h : LwI M x m o od S t) (hk : k + 300 ≤ mc) (hn : n + 12000 ≤ ms) (hE : ∀ (M9 : Mm) (S9 : St), LwI M9 x m o od S9 (t + 1) → JE G γ ET M9 2816 (lsL b x m o od t) [] (k + 300) (n + 12000)) : JE G γ ET M 711 (lsL b x m o od t) [] k n := by
  obtain ⟨hM, hm, hI, hO⟩ := h
  have hlt : t < 512 := by omega
  have v1 := vp_s (j := 1) (b := 1) hL (by decide) rfl hL2
  obtain ⟨a1, e1⟩ : ∃ z, xs (nI (5 * t) + 1).toNatClampNeg = z := ⟨_, rfl⟩
  have hI9 := iv_scrap hI hlt a1
  unfold lsL
  refine Z_aload_n hC dL_law_711 rfl rfl ?_
  refine Z_aloadR_n hC dL_law_712 rfl rfl ?_
  refine Z_iload hC dL_law_713 rfl ?_
  refine Z_iconst hC dL_law_715 (v := 1) (by decide) ?_
  refine Z_iadd hC dL_law_716 ?_
  refine Z_sld hC hs v1 e1 dL_law_717 ?_
  refine Z_aload_n hC dL_law_718 rfl rfl ?_
  refine Z_callH (k1 := k + 40) (n1 := n + 9000) [rv x, .int a1, rv o] [rv o, .int a1, rv x] hC lh_L_190 (hl_scrap hst hM hI.1 hO hlt a1) rfl rfl (by simp only [List.map_cons, List.map_nil, rv_cat, List.sum_cons, List.sum_nil]; (try simp only [Value.category]); (try omega)) (by decide) rfl rfl (by omega) (by omega) dL_law_719 (fun v9 M1 hq1 => ?_)
  obtain ⟨q1, c1, f1, o1, p1⟩ := hq1
  rw [q1]
  have m1 := hm.frX f1
  refine Z_istore hC dL_law_722 (by decide) (ls1 := [some (.ref b), some (rv x), some (rv m), some (rv o), some (rv od), some (.int (nI (5 * t))), some (.int (nI (oScrap S a1).1))]) rfl ?_
  refine Z_aload_n hC dL_law_724 rfl rfl ?_
  refine Z_aloadR_n hC dL_law_725 rfl rfl ?_
  refine Z_iload hC dL_law_726 rfl ?_
  refine Z_iconst hC dL_law_728 (v := 1) (by decide) ?_
  refine Z_iadd hC dL_law_729 ?_
  refine Z_sld hC hs v1 e1 dL_law_730 ?_
  refine Z_callV (k1 := k + 40) (n1 := n + 9000) (kd := 6) [.int a1] [.int a1, rv m] hC lv_L_192 (ct_X5_scrap hst m1 hI.1 hlt a1) (congrArg Prod.fst m1.1.t0) (by decide) ⟨_, mE_6 (congrArg Prod.fst m1.1.t0)⟩ rfl rfl rfl (by simp only [List.map_cons, List.map_nil, rv_cat, List.sum_cons, List.sum_nil]; (try simp only [Value.category]); (try omega)) (by decide) rfl rfl (by omega) (by omega) dL_law_731 (fun E M9 h => h) (fun v9 M2 hq2 => ?_)
  obtain ⟨w2, mA, g2, kA⟩ := hq2
  have cA := (c1.pM g2).1
  have oA := o1.fr g2 (by decide) (by decide)
  obtain ⟨i, hi⟩ := vi_oScrap S a1
  rw [w2, hi]
  have eO := g2.at o1.1 (by decide) (by decide)
  refine Z_istore hC dL_law_734 (by decide) (ls1 := [some (.ref b), some (rv x), some (rv m), some (rv o), some (rv od), some (.int (nI (5 * t))), some (.int (nI (oScrap S a1).1)), some (.int i)]) rfl ?_
  refine Z_aload_n hC dL_law_736 rfl rfl ?_
  refine Z_callV (k1 := k + 40) (n1 := n + 9000) (kd := 6) [] [rv m] hC lv_L_161 (ct_X5_thrown hst mA.1) (congrArg Prod.fst mA.1.t0) (by decide) ⟨_, mE_6 (congrArg Prod.fst mA.1.t0)⟩ rfl rfl rfl (by simp only [List.map_cons, List.map_nil, rv_cat, List.sum_cons, List.sum_nil]; (try simp only [Value.category]); (try omega)) (by decide) rfl rfl (by omega) (by omega) dL_law_737 (fun E M9 h => h) (fun v9 M9 hq9 => ?_)
  obtain ⟨rfl, e9⟩ := hq9
  rw [e9, kA]; clear e9
  refine Z_iload hC dL_law_740 rfl ?_
  refine Z_icmp_eq hC dL_law_742 (tgt := 747) (by decide) (fun c => ?_) (fun c => ?_)
  · refine Z_iload hC dL_law_747 rfl ?_
    refine Z_if_ne hC dL_law_749 (tgt := 764) (by decide) (fun c => ?_) (fun c => ?_)
    · refine Z_goto hC dL_law_764 (tgt := 2816) (by decide) ?_
      refine Z_sub hC (ls1 := lsL b x m o od t) ⟨rfl, rfl, rfl, rfl, rfl, rfl, trivial⟩ ?_
      refine Z_wide hC (k1 := k + 300) (n1 := n + 12000) (by omega) (by omega) ?_
      exact hE _ _ ⟨cA, mA, hI9, oA⟩
    · have h0 := nI_0of (vk_oScrap S a1) (Classical.not_not.mp c)
      obtain ⟨i2, hi2, p2⟩ := p1 h0
      have ei : i2 = i := Value.int.inj (hi2.symm.trans hi)
      have pA : mJ M2 o 0 = Int32.toInt64 i := by rw [eO.2.2.2.2.1, p2, ei]
      refine Z_aload_n hC dL_law_752 rfl rfl ?_
      refine Z_iconst hC dL_law_753 (v := 0) (by decide) ?_
      refine Z_lald hC (congrArg Prod.fst oA.1) (j := 0) (by decide) (by rw [oA.2.1]; decide) dL_law_754 ?_
      rw [pA]
      refine Z_iload hC dL_law_755 rfl ?_
      refine Z_i2l hC dL_law_757 ?_
      refine Z_lcmp hC dL_law_758 ?_
      rw [lcmp_self]
      refine Z_if_eq hC dL_law_759 (tgt := 764) (by decide) (fun c => ?_) (fun c => ?_)
      · refine Z_goto hC dL_law_764 (tgt := 2816) (by decide) ?_
        refine Z_sub hC (ls1 := lsL b x m o od t) ⟨rfl, rfl, rfl, rfl, rfl, rfl, trivial⟩ ?_
        refine Z_wide hC (k1 := k + 300) (n1 := n + 12000) (by omega) (by omega) ?_
        exact hE _ _ ⟨cA, mA, hI9, oA⟩
      · exact absurd rfl c
  · exact absurd rfl c
theorem cs_kindOf {G : Gt} {γ : Γt} {mc ms d : Nat} {lh : Launch} {M : Mm} {x m o od b L t k n : Nat} {xs : Nat → Int32} {S : St} (hst : lh.stackTraces = false) (hC : Zok G γ RL cL_law (some .boolean) 20 mc ms lawQ lh 9) (hs : Sok G γ b L xs) (hL : 5 * t + 4 < L) (hL2 : L ≤ 2560) (h : LwI M x m o od S t) (hk : k + 300 ≤ mc) (hn : n + 12000 ≤ ms) (hE : ∀ (M9 : Mm) (S9 : St), LwI M9 x m o od S9 (t + 1) → JE G γ ET M9 2816 (lsL b x m o od t) [] (k + 300) (n + 12000)) : JE G γ ET M 767 (lsL b x m o od t) [] k n := by
  obtain ⟨hM, hm, hI, hO⟩ := h
  have hlt : t < 512 := by omega
  have v1 := vp_s (j := 1) (b := 1) hL (by decide) rfl hL2
  obtain ⟨a1, e1⟩ : ∃ z, xs (nI (5 * t) + 1).toNatClampNeg = z := ⟨_, rfl⟩
  have hI9 : Iv (oKindOf S a1).2.2 (t + 1) := by rw [vs_oKindOf]; exact hI.mono hlt
  unfold lsL
  refine Z_aload_n hC dL_law_767 rfl rfl ?_
  refine Z_aloadR_n hC dL_law_768 rfl rfl ?_
  refine Z_iload hC dL_law_769 rfl ?_
  refine Z_iconst hC dL_law_771 (v := 1) (by decide) ?_
  refine Z_iadd hC dL_law_772 ?_
  refine Z_sld hC hs v1 e1 dL_law_773 ?_
  refine Z_aload_n hC dL_law_774 rfl rfl ?_
  refine Z_callH (k1 := k + 8) (n1 := n + 48) [rv x, .int a1, rv o] [rv o, .int a1, rv x] hC lh_L_193 (hl_kindOf hst hM hI.1 hO a1) rfl rfl (by simp only [List.map_cons, List.map_nil, rv_cat, List.sum_cons, List.sum_nil]; (try simp only [Value.category]); (try omega)) (by decide) rfl rfl (by omega) (by omega) dL_law_775 (fun v9 M1 hq1 => ?_)
  obtain ⟨q1, c1, f1, o1, p1⟩ := hq1
  rw [q1]
  have m1 := hm.frX f1
  refine Z_istore hC dL_law_778 (by decide) (ls1 := [some (.ref b), some (rv x), some (rv m), some (rv o), some (rv od), some (.int (nI (5 * t))), some (.int (nI (oKindOf S a1).1))]) rfl ?_
  refine Z_aload_n hC dL_law_780 rfl rfl ?_
  refine Z_aloadR_n hC dL_law_781 rfl rfl ?_
  refine Z_iload hC dL_law_782 rfl ?_
  refine Z_iconst hC dL_law_784 (v := 1) (by decide) ?_
  refine Z_iadd hC dL_law_785 ?_
  refine Z_sld hC hs v1 e1 dL_law_786 ?_
  refine Z_callV (k1 := k + 8) (n1 := n + 48) (kd := 6) [.int a1] [.int a1, rv m] hC lv_L_195 (ct_X5_kindOf hst m1 hI.1 hlt a1) (congrArg Prod.fst m1.1.t0) (by decide) ⟨_, mE_6 (congrArg Prod.fst m1.1.t0)⟩ rfl rfl rfl (by simp only [List.map_cons, List.map_nil, rv_cat, List.sum_cons, List.sum_nil]; (try simp only [Value.category]); (try omega)) (by decide) rfl rfl (by omega) (by omega) dL_law_787 (fun E M9 h => h) (fun v9 M2 hq2 => ?_)
  obtain ⟨w2, mA, g2, kA⟩ := hq2
  have cA := (c1.pM g2).1
  have oA := o1.fr g2 (by decide) (by decide)
  obtain ⟨i, hi⟩ := vi_oKindOf S a1
  rw [w2, hi]
  have eO := g2.at o1.1 (by decide) (by decide)
  refine Z_istore hC dL_law_790 (by decide) (ls1 := [some (.ref b), some (rv x), some (rv m), some (rv o), some (rv od), some (.int (nI (5 * t))), some (.int (nI (oKindOf S a1).1)), some (.int i)]) rfl ?_
  refine Z_aload_n hC dL_law_792 rfl rfl ?_
  refine Z_callV (k1 := k + 8) (n1 := n + 48) (kd := 6) [] [rv m] hC lv_L_161 (ct_X5_thrown hst mA.1) (congrArg Prod.fst mA.1.t0) (by decide) ⟨_, mE_6 (congrArg Prod.fst mA.1.t0)⟩ rfl rfl rfl (by simp only [List.map_cons, List.map_nil, rv_cat, List.sum_cons, List.sum_nil]; (try simp only [Value.category]); (try omega)) (by decide) rfl rfl (by omega) (by omega) dL_law_793 (fun E M9 h => h) (fun v9 M9 hq9 => ?_)
  obtain ⟨rfl, e9⟩ := hq9
  rw [e9, kA]; clear e9
  refine Z_iload hC dL_law_796 rfl ?_
  refine Z_icmp_eq hC dL_law_798 (tgt := 803) (by decide) (fun c => ?_) (fun c => ?_)
  · refine Z_iload hC dL_law_803 rfl ?_
    refine Z_if_ne hC dL_law_805 (tgt := 820) (by decide) (fun c => ?_) (fun c => ?_)
    · refine Z_goto hC dL_law_820 (tgt := 2816) (by decide) ?_
      refine Z_sub hC (ls1 := lsL b x m o od t) ⟨rfl, rfl, rfl, rfl, rfl, rfl, trivial⟩ ?_
      refine Z_wide hC (k1 := k + 300) (n1 := n + 12000) (by omega) (by omega) ?_
      exact hE _ _ ⟨cA, mA, hI9, oA⟩
    · have h0 := nI_0of (vk_oKindOf S a1) (Classical.not_not.mp c)
      obtain ⟨i2, hi2, p2⟩ := p1 h0
      have ei : i2 = i := Value.int.inj (hi2.symm.trans hi)
      have pA : mJ M2 o 0 = Int32.toInt64 i := by rw [eO.2.2.2.2.1, p2, ei]
      refine Z_aload_n hC dL_law_808 rfl rfl ?_
      refine Z_iconst hC dL_law_809 (v := 0) (by decide) ?_
      refine Z_lald hC (congrArg Prod.fst oA.1) (j := 0) (by decide) (by rw [oA.2.1]; decide) dL_law_810 ?_
      rw [pA]
      refine Z_iload hC dL_law_811 rfl ?_
      refine Z_i2l hC dL_law_813 ?_
      refine Z_lcmp hC dL_law_814 ?_
      rw [lcmp_self]
      refine Z_if_eq hC dL_law_815 (tgt := 820) (by decide) (fun c => ?_) (fun c => ?_)
      · refine Z_goto hC dL_law_820 (tgt := 2816) (by decide) ?_
        refine Z_sub hC (ls1 := lsL b x m o od t) ⟨rfl, rfl, rfl, rfl, rfl, rfl, trivial⟩ ?_
        refine Z_wide hC (k1 := k + 300) (n1 := n + 12000) (by omega) (by omega) ?_
        exact hE _ _ ⟨cA, mA, hI9, oA⟩
      · exact absurd rfl c
  · exact absurd rfl c
theorem cs_vehicles {G : Gt} {γ : Γt} {mc ms d : Nat} {lh : Launch} {M : Mm} {x m o od b L t k n : Nat} {xs : Nat → Int32} {S : St} (hst : lh.stackTraces = false) (hC : Zok G γ RL cL_law (some .boolean) 20 mc ms lawQ lh 9) (hs : Sok G γ b L xs) (hL : 5 * t + 4 < L) (hL2 : L ≤ 2560) (h : LwI M x m o od S t) (hk : k + 300 ≤ mc) (hn : n + 12000 ≤ ms) (hE : ∀ (M9 : Mm) (S9 : St), LwI M9 x m o od S9 (t + 1) → JE G γ ET M9 2816 (lsL b x m o od t) [] (k + 300) (n + 12000)) : JE G γ ET M 823 (lsL b x m o od t) [] k n := by
  obtain ⟨hM, hm, hI, hO⟩ := h
  have hlt : t < 512 := by omega
  have hI9 : Iv (oVehicles S).2.2 (t + 1) := by rw [vs_oVehicles]; exact hI.mono hlt
  unfold lsL
  refine Z_aload_n hC dL_law_823 rfl rfl ?_
  refine Z_callV (k1 := k + 8) (n1 := n + 48) (kd := 5) [] [rv x] hC lv_L_196 (ct_X4_vehicles hst hM hI.1) hM.tx (by decide) ⟨_, mE_5 hM.tx⟩ rfl rfl rfl (by simp only [List.map_cons, List.map_nil, rv_cat, List.sum_cons, List.sum_nil]; (try simp only [Value.category]); (try omega)) (by decide) rfl rfl (by omega) (by omega) dL_law_824 (fun E M9 h => by obtain ⟨z, hz, -⟩ := h; simp at hz) (fun v9 M1 hq1 => ?_)
  obtain ⟨-, q1, c1, f1⟩ := hq1
  rw [q1]
  have m1 := hm.frX (f1.mono pC_pX)
  have o1 := hO.fr f1 (by decide) (by decide)
  refine Z_aload_n hC dL_law_827 rfl rfl ?_
  refine Z_callV (k1 := k + 8) (n1 := n + 48) (kd := 6) [] [rv m, .int (nI (sN S 1))] hC lv_L_199 (ct_X5_vehicles hst m1 hI.1 hlt) (congrArg Prod.fst m1.1.t0) (by decide) ⟨_, mE_6 (congrArg Prod.fst m1.1.t0)⟩ rfl rfl rfl (by simp only [List.map_cons, List.map_nil, rv_cat, List.sum_cons, List.sum_nil]; (try simp only [Value.category]); (try omega)) (by decide) rfl rfl (by omega) (by omega) dL_law_828 (fun E M9 h => h) (fun v9 M2 hq2 => ?_)
  obtain ⟨w2, mA, g2, kA⟩ := hq2
  have cA := (c1.pM g2).1
  have oA := o1.fr g2 (by decide) (by decide)
  rw [w2]
  refine Z_icmp_eq hC dL_law_831 (tgt := 2816) (by decide) (fun c => ?_) (fun c => ?_)
  · refine Z_sub hC (ls1 := lsL b x m o od t) ⟨rfl, rfl, rfl, rfl, rfl, rfl, trivial⟩ ?_
    refine Z_wide hC (k1 := k + 300) (n1 := n + 12000) (by omega) (by omega) ?_
    exact hE _ _ ⟨cA, mA, hI9, oA⟩
  · exact absurd rfl c
theorem cs_sell {G : Gt} {γ : Γt} {mc ms d : Nat} {lh : Launch} {M : Mm} {x m o od b L t k n : Nat} {xs : Nat → Int32} {S : St} (hst : lh.stackTraces = false) (hC : Zok G γ RL cL_law (some .boolean) 20 mc ms lawQ lh 9) (hs : Sok G γ b L xs) (hL : 5 * t + 4 < L) (hL2 : L ≤ 2560) (h : LwI M x m o od S t) (hk : k + 300 ≤ mc) (hn : n + 12000 ≤ ms) (hE : ∀ (M9 : Mm) (S9 : St), LwI M9 x m o od S9 (t + 1) → JE G γ ET M9 2816 (lsL b x m o od t) [] (k + 300) (n + 12000)) : JE G γ ET M 836 (lsL b x m o od t) [] k n := by
  obtain ⟨hM, hm, hI, hO⟩ := h
  have hlt : t < 512 := by omega
  have v1 := vp_s (j := 1) (b := 1) hL (by decide) rfl hL2
  obtain ⟨a1, e1⟩ : ∃ z, xs (nI (5 * t) + 1).toNatClampNeg = z := ⟨_, rfl⟩
  have v2 := vp_s (j := 2) (b := 2) hL (by decide) rfl hL2
  obtain ⟨a2, e2⟩ : ∃ z, xs (nI (5 * t) + 2).toNatClampNeg = z := ⟨_, rfl⟩
  have v3 := vp_s (j := 3) (b := 3) hL (by decide) rfl hL2
  obtain ⟨a3, e3⟩ : ∃ z, xs (nI (5 * t) + 3).toNatClampNeg = z := ⟨_, rfl⟩
  have v4 := vp_s (j := 4) (b := 4) hL (by decide) rfl hL2
  obtain ⟨a4, e4⟩ : ∃ z, xs (nI (5 * t) + 4).toNatClampNeg = z := ⟨_, rfl⟩
  have hI9 := iv_sell hI hlt a1 a2 a3 a4
  unfold lsL
  refine Z_aload_n hC dL_law_836 rfl rfl ?_
  refine Z_aloadR_n hC dL_law_837 rfl rfl ?_
  refine Z_iload hC dL_law_838 rfl ?_
  refine Z_iconst hC dL_law_840 (v := 1) (by decide) ?_
  refine Z_iadd hC dL_law_841 ?_
  refine Z_sld hC hs v1 e1 dL_law_842 ?_
  refine Z_aloadR_n hC dL_law_843 rfl rfl ?_
  refine Z_iload hC dL_law_844 rfl ?_
  refine Z_iconst hC dL_law_846 (v := 2) (by decide) ?_
  refine Z_iadd hC dL_law_847 ?_
  refine Z_sld hC hs v2 e2 dL_law_848 ?_
  refine Z_aloadR_n hC dL_law_849 rfl rfl ?_
  refine Z_iload hC dL_law_850 rfl ?_
  refine Z_iconst hC dL_law_852 (v := 3) (by decide) ?_
  refine Z_iadd hC dL_law_853 ?_
  refine Z_sld hC hs v3 e3 dL_law_854 ?_
  refine Z_aloadR_n hC dL_law_855 rfl rfl ?_
  refine Z_iload hC dL_law_856 rfl ?_
  refine Z_iconst hC dL_law_858 (v := 4) (by decide) ?_
  refine Z_iadd hC dL_law_859 ?_
  refine Z_sld hC hs v4 e4 dL_law_860 ?_
  refine Z_aload_n hC dL_law_861 rfl rfl ?_
  refine Z_callH (k1 := k + 300) (n1 := n + 12000) [rv x, .int a1, .int a2, .int a3, .int a4, rv o] [rv o, .int a4, .int a3, .int a2, .int a1, rv x] hC lh_L_200 (hl_sell hst hM hI.1 hO hlt a1 a2 a3 a4) rfl rfl (by simp only [List.map_cons, List.map_nil, rv_cat, List.sum_cons, List.sum_nil]; (try simp only [Value.category]); (try omega)) (by decide) rfl rfl (by omega) (by omega) dL_law_862 (fun v9 M1 hq1 => ?_)
  obtain ⟨q1, c1, f1, o1, p1⟩ := hq1
  rw [q1]
  have m1 := hm.frX f1
  refine Z_istore hC dL_law_865 (by decide) (ls1 := [some (.ref b), some (rv x), some (rv m), some (rv o), some (rv od), some (.int (nI (5 * t))), some (.int (nI (oSell S a1 a2 a3 a4).1))]) rfl ?_
  refine Z_aload_n hC dL_law_867 rfl rfl ?_
  refine Z_aloadR_n hC dL_law_868 rfl rfl ?_
  refine Z_iload hC dL_law_869 rfl ?_
  refine Z_iconst hC dL_law_871 (v := 1) (by decide) ?_
  refine Z_iadd hC dL_law_872 ?_
  refine Z_sld hC hs v1 e1 dL_law_873 ?_
  refine Z_aloadR_n hC dL_law_874 rfl rfl ?_
  refine Z_iload hC dL_law_875 rfl ?_
  refine Z_iconst hC dL_law_877 (v := 2) (by decide) ?_
  refine Z_iadd hC dL_law_878 ?_
  refine Z_sld hC hs v2 e2 dL_law_879 ?_
  refine Z_aloadR_n hC dL_law_880 rfl rfl ?_
  refine Z_iload hC dL_law_881 rfl ?_
  refine Z_iconst hC dL_law_883 (v := 3) (by decide) ?_
  refine Z_iadd hC dL_law_884 ?_
  refine Z_sld hC hs v3 e3 dL_law_885 ?_
  refine Z_aloadR_n hC dL_law_886 rfl rfl ?_
  refine Z_iload hC dL_law_887 rfl ?_
  refine Z_iconst hC dL_law_889 (v := 4) (by decide) ?_
  refine Z_iadd hC dL_law_890 ?_
  refine Z_sld hC hs v4 e4 dL_law_891 ?_
  refine Z_callV (k1 := k + 300) (n1 := n + 12000) (kd := 6) [.int a1, .int a2, .int a3, .int a4] [.int a4, .int a3, .int a2, .int a1, rv m] hC lv_L_203 (ct_X5_sell hst m1 hI.1 hlt a1 a2 a3 a4) (congrArg Prod.fst m1.1.t0) (by decide) ⟨_, mE_6 (congrArg Prod.fst m1.1.t0)⟩ rfl rfl rfl (by simp only [List.map_cons, List.map_nil, rv_cat, List.sum_cons, List.sum_nil]; (try simp only [Value.category]); (try omega)) (by decide) rfl rfl (by omega) (by omega) dL_law_892 (fun E M9 h => h) (fun v9 M2 hq2 => ?_)
  obtain ⟨w2, mA, g2, kA⟩ := hq2
  have cA := (c1.pM g2).1
  have oA := o1.fr g2 (by decide) (by decide)
  obtain ⟨i, hi⟩ := vi_oSell S a1 a2 a3 a4
  rw [w2, hi]
  have eO := g2.at o1.1 (by decide) (by decide)
  refine Z_istore hC dL_law_895 (by decide) (ls1 := [some (.ref b), some (rv x), some (rv m), some (rv o), some (rv od), some (.int (nI (5 * t))), some (.int (nI (oSell S a1 a2 a3 a4).1)), some (.int i)]) rfl ?_
  refine Z_aload_n hC dL_law_897 rfl rfl ?_
  refine Z_callV (k1 := k + 300) (n1 := n + 12000) (kd := 6) [] [rv m] hC lv_L_161 (ct_X5_thrown hst mA.1) (congrArg Prod.fst mA.1.t0) (by decide) ⟨_, mE_6 (congrArg Prod.fst mA.1.t0)⟩ rfl rfl rfl (by simp only [List.map_cons, List.map_nil, rv_cat, List.sum_cons, List.sum_nil]; (try simp only [Value.category]); (try omega)) (by decide) rfl rfl (by omega) (by omega) dL_law_898 (fun E M9 h => h) (fun v9 M9 hq9 => ?_)
  obtain ⟨rfl, e9⟩ := hq9
  rw [e9, kA]; clear e9
  refine Z_iload hC dL_law_901 rfl ?_
  refine Z_icmp_eq hC dL_law_903 (tgt := 908) (by decide) (fun c => ?_) (fun c => ?_)
  · refine Z_iload hC dL_law_908 rfl ?_
    refine Z_if_ne hC dL_law_910 (tgt := 925) (by decide) (fun c => ?_) (fun c => ?_)
    · refine Z_goto hC dL_law_925 (tgt := 2816) (by decide) ?_
      refine Z_sub hC (ls1 := lsL b x m o od t) ⟨rfl, rfl, rfl, rfl, rfl, rfl, trivial⟩ ?_
      refine Z_wide hC (k1 := k + 300) (n1 := n + 12000) (by omega) (by omega) ?_
      exact hE _ _ ⟨cA, mA, hI9, oA⟩
    · have h0 := nI_0of (vk_oSell S a1 a2 a3 a4) (Classical.not_not.mp c)
      obtain ⟨i2, hi2, p2⟩ := p1 h0
      have ei : i2 = i := Value.int.inj (hi2.symm.trans hi)
      have pA : mJ M2 o 0 = Int32.toInt64 i := by rw [eO.2.2.2.2.1, p2, ei]
      refine Z_aload_n hC dL_law_913 rfl rfl ?_
      refine Z_iconst hC dL_law_914 (v := 0) (by decide) ?_
      refine Z_lald hC (congrArg Prod.fst oA.1) (j := 0) (by decide) (by rw [oA.2.1]; decide) dL_law_915 ?_
      rw [pA]
      refine Z_iload hC dL_law_916 rfl ?_
      refine Z_i2l hC dL_law_918 ?_
      refine Z_lcmp hC dL_law_919 ?_
      rw [lcmp_self]
      refine Z_if_eq hC dL_law_920 (tgt := 925) (by decide) (fun c => ?_) (fun c => ?_)
      · refine Z_goto hC dL_law_925 (tgt := 2816) (by decide) ?_
        refine Z_sub hC (ls1 := lsL b x m o od t) ⟨rfl, rfl, rfl, rfl, rfl, rfl, trivial⟩ ?_
        refine Z_wide hC (k1 := k + 300) (n1 := n + 12000) (by omega) (by omega) ?_
        exact hE _ _ ⟨cA, mA, hI9, oA⟩
      · exact absurd rfl c
  · exact absurd rfl c
theorem cs_buy {G : Gt} {γ : Γt} {mc ms d : Nat} {lh : Launch} {M : Mm} {x m o od b L t k n : Nat} {xs : Nat → Int32} {S : St} (hst : lh.stackTraces = false) (hC : Zok G γ RL cL_law (some .boolean) 20 mc ms lawQ lh 9) (hs : Sok G γ b L xs) (hL : 5 * t + 4 < L) (hL2 : L ≤ 2560) (h : LwI M x m o od S t) (hk : k + 300 ≤ mc) (hn : n + 12000 ≤ ms) (hE : ∀ (M9 : Mm) (S9 : St), LwI M9 x m o od S9 (t + 1) → JE G γ ET M9 2816 (lsL b x m o od t) [] (k + 300) (n + 12000)) : JE G γ ET M 928 (lsL b x m o od t) [] k n := by
  obtain ⟨hM, hm, hI, hO⟩ := h
  have hlt : t < 512 := by omega
  have v1 := vp_s (j := 1) (b := 1) hL (by decide) rfl hL2
  obtain ⟨a1, e1⟩ : ∃ z, xs (nI (5 * t) + 1).toNatClampNeg = z := ⟨_, rfl⟩
  have v2 := vp_s (j := 2) (b := 2) hL (by decide) rfl hL2
  obtain ⟨a2, e2⟩ : ∃ z, xs (nI (5 * t) + 2).toNatClampNeg = z := ⟨_, rfl⟩
  have v3 := vp_s (j := 3) (b := 3) hL (by decide) rfl hL2
  obtain ⟨a3, e3⟩ : ∃ z, xs (nI (5 * t) + 3).toNatClampNeg = z := ⟨_, rfl⟩
  have hI9 := iv_buy hI hlt a1 a2 a3
  unfold lsL
  refine Z_aload_n hC dL_law_928 rfl rfl ?_
  refine Z_aloadR_n hC dL_law_929 rfl rfl ?_
  refine Z_iload hC dL_law_930 rfl ?_
  refine Z_iconst hC dL_law_932 (v := 1) (by decide) ?_
  refine Z_iadd hC dL_law_933 ?_
  refine Z_sld hC hs v1 e1 dL_law_934 ?_
  refine Z_aloadR_n hC dL_law_935 rfl rfl ?_
  refine Z_iload hC dL_law_936 rfl ?_
  refine Z_iconst hC dL_law_938 (v := 2) (by decide) ?_
  refine Z_iadd hC dL_law_939 ?_
  refine Z_sld hC hs v2 e2 dL_law_940 ?_
  refine Z_aloadR_n hC dL_law_941 rfl rfl ?_
  refine Z_iload hC dL_law_942 rfl ?_
  refine Z_iconst hC dL_law_944 (v := 3) (by decide) ?_
  refine Z_iadd hC dL_law_945 ?_
  refine Z_sld hC hs v3 e3 dL_law_946 ?_
  refine Z_aload_n hC dL_law_947 rfl rfl ?_
  refine Z_callH (k1 := k + 300) (n1 := n + 12000) [rv x, .int a1, .int a2, .int a3, rv o] [rv o, .int a3, .int a2, .int a1, rv x] hC lh_L_204 (hl_buy hst hM hI.1 hO hlt a1 a2 a3) rfl rfl (by simp only [List.map_cons, List.map_nil, rv_cat, List.sum_cons, List.sum_nil]; (try simp only [Value.category]); (try omega)) (by decide) rfl rfl (by omega) (by omega) dL_law_948 (fun v9 M1 hq1 => ?_)
  obtain ⟨q1, c1, f1, o1, p1⟩ := hq1
  rw [q1]
  have m1 := hm.frX f1
  refine Z_istore hC dL_law_951 (by decide) (ls1 := [some (.ref b), some (rv x), some (rv m), some (rv o), some (rv od), some (.int (nI (5 * t))), some (.int (nI (oBuy S a1 a2 a3).1))]) rfl ?_
  refine Z_aload_n hC dL_law_953 rfl rfl ?_
  refine Z_aloadR_n hC dL_law_954 rfl rfl ?_
  refine Z_iload hC dL_law_955 rfl ?_
  refine Z_iconst hC dL_law_957 (v := 1) (by decide) ?_
  refine Z_iadd hC dL_law_958 ?_
  refine Z_sld hC hs v1 e1 dL_law_959 ?_
  refine Z_aloadR_n hC dL_law_960 rfl rfl ?_
  refine Z_iload hC dL_law_961 rfl ?_
  refine Z_iconst hC dL_law_963 (v := 2) (by decide) ?_
  refine Z_iadd hC dL_law_964 ?_
  refine Z_sld hC hs v2 e2 dL_law_965 ?_
  refine Z_aloadR_n hC dL_law_966 rfl rfl ?_
  refine Z_iload hC dL_law_967 rfl ?_
  refine Z_iconst hC dL_law_969 (v := 3) (by decide) ?_
  refine Z_iadd hC dL_law_970 ?_
  refine Z_sld hC hs v3 e3 dL_law_971 ?_
  refine Z_callV (k1 := k + 300) (n1 := n + 12000) (kd := 6) [.int a1, .int a2, .int a3] [.int a3, .int a2, .int a1, rv m] hC lv_L_207 (ct_X5_buy hst m1 hI.1 hlt a1 a2 a3) (congrArg Prod.fst m1.1.t0) (by decide) ⟨_, mE_6 (congrArg Prod.fst m1.1.t0)⟩ rfl rfl rfl (by simp only [List.map_cons, List.map_nil, rv_cat, List.sum_cons, List.sum_nil]; (try simp only [Value.category]); (try omega)) (by decide) rfl rfl (by omega) (by omega) dL_law_972 (fun E M9 h => h) (fun v9 M2 hq2 => ?_)
  obtain ⟨w2, mA, g2, kA⟩ := hq2
  have cA := (c1.pM g2).1
  have oA := o1.fr g2 (by decide) (by decide)
  obtain ⟨i, hi⟩ := vi_oBuy S a1 a2 a3
  rw [w2, hi]
  have eO := g2.at o1.1 (by decide) (by decide)
  refine Z_istore hC dL_law_975 (by decide) (ls1 := [some (.ref b), some (rv x), some (rv m), some (rv o), some (rv od), some (.int (nI (5 * t))), some (.int (nI (oBuy S a1 a2 a3).1)), some (.int i)]) rfl ?_
  refine Z_aload_n hC dL_law_977 rfl rfl ?_
  refine Z_callV (k1 := k + 300) (n1 := n + 12000) (kd := 6) [] [rv m] hC lv_L_161 (ct_X5_thrown hst mA.1) (congrArg Prod.fst mA.1.t0) (by decide) ⟨_, mE_6 (congrArg Prod.fst mA.1.t0)⟩ rfl rfl rfl (by simp only [List.map_cons, List.map_nil, rv_cat, List.sum_cons, List.sum_nil]; (try simp only [Value.category]); (try omega)) (by decide) rfl rfl (by omega) (by omega) dL_law_978 (fun E M9 h => h) (fun v9 M9 hq9 => ?_)
  obtain ⟨rfl, e9⟩ := hq9
  rw [e9, kA]; clear e9
  refine Z_iload hC dL_law_981 rfl ?_
  refine Z_icmp_eq hC dL_law_983 (tgt := 988) (by decide) (fun c => ?_) (fun c => ?_)
  · refine Z_iload hC dL_law_988 rfl ?_
    refine Z_if_ne hC dL_law_990 (tgt := 1005) (by decide) (fun c => ?_) (fun c => ?_)
    · refine Z_goto hC dL_law_1005 (tgt := 2816) (by decide) ?_
      refine Z_sub hC (ls1 := lsL b x m o od t) ⟨rfl, rfl, rfl, rfl, rfl, rfl, trivial⟩ ?_
      refine Z_wide hC (k1 := k + 300) (n1 := n + 12000) (by omega) (by omega) ?_
      exact hE _ _ ⟨cA, mA, hI9, oA⟩
    · have h0 := nI_0of (vk_oBuy S a1 a2 a3) (Classical.not_not.mp c)
      obtain ⟨i2, hi2, p2⟩ := p1 h0
      have ei : i2 = i := Value.int.inj (hi2.symm.trans hi)
      have pA : mJ M2 o 0 = Int32.toInt64 i := by rw [eO.2.2.2.2.1, p2, ei]
      refine Z_aload_n hC dL_law_993 rfl rfl ?_
      refine Z_iconst hC dL_law_994 (v := 0) (by decide) ?_
      refine Z_lald hC (congrArg Prod.fst oA.1) (j := 0) (by decide) (by rw [oA.2.1]; decide) dL_law_995 ?_
      rw [pA]
      refine Z_iload hC dL_law_996 rfl ?_
      refine Z_i2l hC dL_law_998 ?_
      refine Z_lcmp hC dL_law_999 ?_
      rw [lcmp_self]
      refine Z_if_eq hC dL_law_1000 (tgt := 1005) (by decide) (fun c => ?_) (fun c => ?_)
      · refine Z_goto hC dL_law_1005 (tgt := 2816) (by decide) ?_
        refine Z_sub hC (ls1 := lsL b x m o od t) ⟨rfl, rfl, rfl, rfl, rfl, rfl, trivial⟩ ?_
        refine Z_wide hC (k1 := k + 300) (n1 := n + 12000) (by omega) (by omega) ?_
        exact hE _ _ ⟨cA, mA, hI9, oA⟩
      · exact absurd rfl c
  · exact absurd rfl c
theorem cs_withdraw {G : Gt} {γ : Γt} {mc ms d : Nat} {lh : Launch} {M : Mm} {x m o od b L t k n : Nat} {xs : Nat → Int32} {S : St} (hst : lh.stackTraces = false) (hC : Zok G γ RL cL_law (some .boolean) 20 mc ms lawQ lh 9) (hs : Sok G γ b L xs) (hL : 5 * t + 4 < L) (hL2 : L ≤ 2560) (h : LwI M x m o od S t) (hk : k + 300 ≤ mc) (hn : n + 12000 ≤ ms) (hE : ∀ (M9 : Mm) (S9 : St), LwI M9 x m o od S9 (t + 1) → JE G γ ET M9 2816 (lsL b x m o od t) [] (k + 300) (n + 12000)) : JE G γ ET M 1008 (lsL b x m o od t) [] k n := by
  obtain ⟨hM, hm, hI, hO⟩ := h
  have hlt : t < 512 := by omega
  have v1 := vp_s (j := 1) (b := 1) hL (by decide) rfl hL2
  obtain ⟨a1, e1⟩ : ∃ z, xs (nI (5 * t) + 1).toNatClampNeg = z := ⟨_, rfl⟩
  have hI9 := iv_withdraw hI hlt a1
  unfold lsL
  refine Z_aload_n hC dL_law_1008 rfl rfl ?_
  refine Z_aloadR_n hC dL_law_1009 rfl rfl ?_
  refine Z_iload hC dL_law_1010 rfl ?_
  refine Z_iconst hC dL_law_1012 (v := 1) (by decide) ?_
  refine Z_iadd hC dL_law_1013 ?_
  refine Z_sld hC hs v1 e1 dL_law_1014 ?_
  refine Z_aload_n hC dL_law_1015 rfl rfl ?_
  refine Z_callH (k1 := k + 40) (n1 := n + 9000) [rv x, .int a1, rv o] [rv o, .int a1, rv x] hC lh_L_208 (hl_withdraw hst hM hI.1 hO hlt a1) rfl rfl (by simp only [List.map_cons, List.map_nil, rv_cat, List.sum_cons, List.sum_nil]; (try simp only [Value.category]); (try omega)) (by decide) rfl rfl (by omega) (by omega) dL_law_1016 (fun v9 M1 hq1 => ?_)
  obtain ⟨q1, c1, f1, o1, p1⟩ := hq1
  rw [q1]
  have m1 := hm.frX f1
  refine Z_istore hC dL_law_1019 (by decide) (ls1 := [some (.ref b), some (rv x), some (rv m), some (rv o), some (rv od), some (.int (nI (5 * t))), some (.int (nI (oWithdraw S a1).1))]) rfl ?_
  refine Z_aload_n hC dL_law_1021 rfl rfl ?_
  refine Z_aloadR_n hC dL_law_1022 rfl rfl ?_
  refine Z_iload hC dL_law_1023 rfl ?_
  refine Z_iconst hC dL_law_1025 (v := 1) (by decide) ?_
  refine Z_iadd hC dL_law_1026 ?_
  refine Z_sld hC hs v1 e1 dL_law_1027 ?_
  refine Z_callV (k1 := k + 40) (n1 := n + 9000) (kd := 6) [.int a1] [.int a1, rv m] hC lv_L_210 (ct_X5_withdraw hst m1 hI.1 hlt a1) (congrArg Prod.fst m1.1.t0) (by decide) ⟨_, mE_6 (congrArg Prod.fst m1.1.t0)⟩ rfl rfl rfl (by simp only [List.map_cons, List.map_nil, rv_cat, List.sum_cons, List.sum_nil]; (try simp only [Value.category]); (try omega)) (by decide) rfl rfl (by omega) (by omega) dL_law_1028 (fun E M9 h => h) (fun v9 M2 hq2 => ?_)
  obtain ⟨w2, mA, g2, kA⟩ := hq2
  have cA := (c1.pM g2).1
  have oA := o1.fr g2 (by decide) (by decide)
  obtain ⟨i, hi⟩ := vi_oWithdraw S a1
  rw [w2, hi]
  have eO := g2.at o1.1 (by decide) (by decide)
  refine Z_istore hC dL_law_1031 (by decide) (ls1 := [some (.ref b), some (rv x), some (rv m), some (rv o), some (rv od), some (.int (nI (5 * t))), some (.int (nI (oWithdraw S a1).1)), some (.int i)]) rfl ?_
  refine Z_aload_n hC dL_law_1033 rfl rfl ?_
  refine Z_callV (k1 := k + 40) (n1 := n + 9000) (kd := 6) [] [rv m] hC lv_L_161 (ct_X5_thrown hst mA.1) (congrArg Prod.fst mA.1.t0) (by decide) ⟨_, mE_6 (congrArg Prod.fst mA.1.t0)⟩ rfl rfl rfl (by simp only [List.map_cons, List.map_nil, rv_cat, List.sum_cons, List.sum_nil]; (try simp only [Value.category]); (try omega)) (by decide) rfl rfl (by omega) (by omega) dL_law_1034 (fun E M9 h => h) (fun v9 M9 hq9 => ?_)
  obtain ⟨rfl, e9⟩ := hq9
  rw [e9, kA]; clear e9
  refine Z_iload hC dL_law_1037 rfl ?_
  refine Z_icmp_eq hC dL_law_1039 (tgt := 1044) (by decide) (fun c => ?_) (fun c => ?_)
  · refine Z_iload hC dL_law_1044 rfl ?_
    refine Z_if_ne hC dL_law_1046 (tgt := 1061) (by decide) (fun c => ?_) (fun c => ?_)
    · refine Z_goto hC dL_law_1061 (tgt := 2816) (by decide) ?_
      refine Z_sub hC (ls1 := lsL b x m o od t) ⟨rfl, rfl, rfl, rfl, rfl, rfl, trivial⟩ ?_
      refine Z_wide hC (k1 := k + 300) (n1 := n + 12000) (by omega) (by omega) ?_
      exact hE _ _ ⟨cA, mA, hI9, oA⟩
    · have h0 := nI_0of (vk_oWithdraw S a1) (Classical.not_not.mp c)
      obtain ⟨i2, hi2, p2⟩ := p1 h0
      have ei : i2 = i := Value.int.inj (hi2.symm.trans hi)
      have pA : mJ M2 o 0 = Int32.toInt64 i := by rw [eO.2.2.2.2.1, p2, ei]
      refine Z_aload_n hC dL_law_1049 rfl rfl ?_
      refine Z_iconst hC dL_law_1050 (v := 0) (by decide) ?_
      refine Z_lald hC (congrArg Prod.fst oA.1) (j := 0) (by decide) (by rw [oA.2.1]; decide) dL_law_1051 ?_
      rw [pA]
      refine Z_iload hC dL_law_1052 rfl ?_
      refine Z_i2l hC dL_law_1054 ?_
      refine Z_lcmp hC dL_law_1055 ?_
      rw [lcmp_self]
      refine Z_if_eq hC dL_law_1056 (tgt := 1061) (by decide) (fun c => ?_) (fun c => ?_)
      · refine Z_goto hC dL_law_1061 (tgt := 2816) (by decide) ?_
        refine Z_sub hC (ls1 := lsL b x m o od t) ⟨rfl, rfl, rfl, rfl, rfl, rfl, trivial⟩ ?_
        refine Z_wide hC (k1 := k + 300) (n1 := n + 12000) (by omega) (by omega) ?_
        exact hE _ _ ⟨cA, mA, hI9, oA⟩
      · exact absurd rfl c
  · exact absurd rfl c
theorem cs_stateOf {G : Gt} {γ : Γt} {mc ms d : Nat} {lh : Launch} {M : Mm} {x m o od b L t k n : Nat} {xs : Nat → Int32} {S : St} (hst : lh.stackTraces = false) (hC : Zok G γ RL cL_law (some .boolean) 20 mc ms lawQ lh 9) (hs : Sok G γ b L xs) (hL : 5 * t + 4 < L) (hL2 : L ≤ 2560) (h : LwI M x m o od S t) (hk : k + 300 ≤ mc) (hn : n + 12000 ≤ ms) (hE : ∀ (M9 : Mm) (S9 : St), LwI M9 x m o od S9 (t + 1) → JE G γ ET M9 2816 (lsL b x m o od t) [] (k + 300) (n + 12000)) : JE G γ ET M 1064 (lsL b x m o od t) [] k n := by
  obtain ⟨hM, hm, hI, hO⟩ := h
  have hlt : t < 512 := by omega
  have v1 := vp_s (j := 1) (b := 1) hL (by decide) rfl hL2
  obtain ⟨a1, e1⟩ : ∃ z, xs (nI (5 * t) + 1).toNatClampNeg = z := ⟨_, rfl⟩
  have hI9 : Iv (oStateOf S a1).2.2 (t + 1) := by rw [vs_oStateOf]; exact hI.mono hlt
  unfold lsL
  refine Z_aload_n hC dL_law_1064 rfl rfl ?_
  refine Z_aloadR_n hC dL_law_1065 rfl rfl ?_
  refine Z_iload hC dL_law_1066 rfl ?_
  refine Z_iconst hC dL_law_1068 (v := 1) (by decide) ?_
  refine Z_iadd hC dL_law_1069 ?_
  refine Z_sld hC hs v1 e1 dL_law_1070 ?_
  refine Z_aload_n hC dL_law_1071 rfl rfl ?_
  refine Z_callH (k1 := k + 8) (n1 := n + 48) [rv x, .int a1, rv o] [rv o, .int a1, rv x] hC lh_L_211 (hl_stateOf hst hM hI.1 hO a1) rfl rfl (by simp only [List.map_cons, List.map_nil, rv_cat, List.sum_cons, List.sum_nil]; (try simp only [Value.category]); (try omega)) (by decide) rfl rfl (by omega) (by omega) dL_law_1072 (fun v9 M1 hq1 => ?_)
  obtain ⟨q1, c1, f1, o1, p1⟩ := hq1
  rw [q1]
  have m1 := hm.frX f1
  refine Z_istore hC dL_law_1075 (by decide) (ls1 := [some (.ref b), some (rv x), some (rv m), some (rv o), some (rv od), some (.int (nI (5 * t))), some (.int (nI (oStateOf S a1).1))]) rfl ?_
  refine Z_aload_n hC dL_law_1077 rfl rfl ?_
  refine Z_aloadR_n hC dL_law_1078 rfl rfl ?_
  refine Z_iload hC dL_law_1079 rfl ?_
  refine Z_iconst hC dL_law_1081 (v := 1) (by decide) ?_
  refine Z_iadd hC dL_law_1082 ?_
  refine Z_sld hC hs v1 e1 dL_law_1083 ?_
  refine Z_callV (k1 := k + 8) (n1 := n + 48) (kd := 6) [.int a1] [.int a1, rv m] hC lv_L_213 (ct_X5_stateOf hst m1 hI.1 hlt a1) (congrArg Prod.fst m1.1.t0) (by decide) ⟨_, mE_6 (congrArg Prod.fst m1.1.t0)⟩ rfl rfl rfl (by simp only [List.map_cons, List.map_nil, rv_cat, List.sum_cons, List.sum_nil]; (try simp only [Value.category]); (try omega)) (by decide) rfl rfl (by omega) (by omega) dL_law_1084 (fun E M9 h => h) (fun v9 M2 hq2 => ?_)
  obtain ⟨w2, mA, g2, kA⟩ := hq2
  have cA := (c1.pM g2).1
  have oA := o1.fr g2 (by decide) (by decide)
  obtain ⟨i, hi⟩ := vi_oStateOf S a1
  rw [w2, hi]
  have eO := g2.at o1.1 (by decide) (by decide)
  refine Z_istore hC dL_law_1087 (by decide) (ls1 := [some (.ref b), some (rv x), some (rv m), some (rv o), some (rv od), some (.int (nI (5 * t))), some (.int (nI (oStateOf S a1).1)), some (.int i)]) rfl ?_
  refine Z_aload_n hC dL_law_1089 rfl rfl ?_
  refine Z_callV (k1 := k + 8) (n1 := n + 48) (kd := 6) [] [rv m] hC lv_L_161 (ct_X5_thrown hst mA.1) (congrArg Prod.fst mA.1.t0) (by decide) ⟨_, mE_6 (congrArg Prod.fst mA.1.t0)⟩ rfl rfl rfl (by simp only [List.map_cons, List.map_nil, rv_cat, List.sum_cons, List.sum_nil]; (try simp only [Value.category]); (try omega)) (by decide) rfl rfl (by omega) (by omega) dL_law_1090 (fun E M9 h => h) (fun v9 M9 hq9 => ?_)
  obtain ⟨rfl, e9⟩ := hq9
  rw [e9, kA]; clear e9
  refine Z_iload hC dL_law_1093 rfl ?_
  refine Z_icmp_eq hC dL_law_1095 (tgt := 1100) (by decide) (fun c => ?_) (fun c => ?_)
  · refine Z_iload hC dL_law_1100 rfl ?_
    refine Z_if_ne hC dL_law_1102 (tgt := 1117) (by decide) (fun c => ?_) (fun c => ?_)
    · refine Z_goto hC dL_law_1117 (tgt := 2816) (by decide) ?_
      refine Z_sub hC (ls1 := lsL b x m o od t) ⟨rfl, rfl, rfl, rfl, rfl, rfl, trivial⟩ ?_
      refine Z_wide hC (k1 := k + 300) (n1 := n + 12000) (by omega) (by omega) ?_
      exact hE _ _ ⟨cA, mA, hI9, oA⟩
    · have h0 := nI_0of (vk_oStateOf S a1) (Classical.not_not.mp c)
      obtain ⟨i2, hi2, p2⟩ := p1 h0
      have ei : i2 = i := Value.int.inj (hi2.symm.trans hi)
      have pA : mJ M2 o 0 = Int32.toInt64 i := by rw [eO.2.2.2.2.1, p2, ei]
      refine Z_aload_n hC dL_law_1105 rfl rfl ?_
      refine Z_iconst hC dL_law_1106 (v := 0) (by decide) ?_
      refine Z_lald hC (congrArg Prod.fst oA.1) (j := 0) (by decide) (by rw [oA.2.1]; decide) dL_law_1107 ?_
      rw [pA]
      refine Z_iload hC dL_law_1108 rfl ?_
      refine Z_i2l hC dL_law_1110 ?_
      refine Z_lcmp hC dL_law_1111 ?_
      rw [lcmp_self]
      refine Z_if_eq hC dL_law_1112 (tgt := 1117) (by decide) (fun c => ?_) (fun c => ?_)
      · refine Z_goto hC dL_law_1117 (tgt := 2816) (by decide) ?_
        refine Z_sub hC (ls1 := lsL b x m o od t) ⟨rfl, rfl, rfl, rfl, rfl, rfl, trivial⟩ ?_
        refine Z_wide hC (k1 := k + 300) (n1 := n + 12000) (by omega) (by omega) ?_
        exact hE _ _ ⟨cA, mA, hI9, oA⟩
      · exact absurd rfl c
  · exact absurd rfl c
theorem cs_partnerOf {G : Gt} {γ : Γt} {mc ms d : Nat} {lh : Launch} {M : Mm} {x m o od b L t k n : Nat} {xs : Nat → Int32} {S : St} (hst : lh.stackTraces = false) (hC : Zok G γ RL cL_law (some .boolean) 20 mc ms lawQ lh 9) (hs : Sok G γ b L xs) (hL : 5 * t + 4 < L) (hL2 : L ≤ 2560) (h : LwI M x m o od S t) (hk : k + 300 ≤ mc) (hn : n + 12000 ≤ ms) (hE : ∀ (M9 : Mm) (S9 : St), LwI M9 x m o od S9 (t + 1) → JE G γ ET M9 2816 (lsL b x m o od t) [] (k + 300) (n + 12000)) : JE G γ ET M 1120 (lsL b x m o od t) [] k n := by
  obtain ⟨hM, hm, hI, hO⟩ := h
  have hlt : t < 512 := by omega
  have v1 := vp_s (j := 1) (b := 1) hL (by decide) rfl hL2
  obtain ⟨a1, e1⟩ : ∃ z, xs (nI (5 * t) + 1).toNatClampNeg = z := ⟨_, rfl⟩
  have hI9 : Iv (oPartnerOf S a1).2.2 (t + 1) := by rw [vs_oPartnerOf]; exact hI.mono hlt
  unfold lsL
  refine Z_aload_n hC dL_law_1120 rfl rfl ?_
  refine Z_aloadR_n hC dL_law_1121 rfl rfl ?_
  refine Z_iload hC dL_law_1122 rfl ?_
  refine Z_iconst hC dL_law_1124 (v := 1) (by decide) ?_
  refine Z_iadd hC dL_law_1125 ?_
  refine Z_sld hC hs v1 e1 dL_law_1126 ?_
  refine Z_aload_n hC dL_law_1127 rfl rfl ?_
  refine Z_callH (k1 := k + 8) (n1 := n + 48) [rv x, .int a1, rv o] [rv o, .int a1, rv x] hC lh_L_214 (hl_partnerOf hst hM hI.1 hO a1) rfl rfl (by simp only [List.map_cons, List.map_nil, rv_cat, List.sum_cons, List.sum_nil]; (try simp only [Value.category]); (try omega)) (by decide) rfl rfl (by omega) (by omega) dL_law_1128 (fun v9 M1 hq1 => ?_)
  obtain ⟨q1, c1, f1, o1, p1⟩ := hq1
  rw [q1]
  have m1 := hm.frX f1
  refine Z_istore hC dL_law_1131 (by decide) (ls1 := [some (.ref b), some (rv x), some (rv m), some (rv o), some (rv od), some (.int (nI (5 * t))), some (.int (nI (oPartnerOf S a1).1))]) rfl ?_
  refine Z_aload_n hC dL_law_1133 rfl rfl ?_
  refine Z_aloadR_n hC dL_law_1134 rfl rfl ?_
  refine Z_iload hC dL_law_1135 rfl ?_
  refine Z_iconst hC dL_law_1137 (v := 1) (by decide) ?_
  refine Z_iadd hC dL_law_1138 ?_
  refine Z_sld hC hs v1 e1 dL_law_1139 ?_
  refine Z_callV (k1 := k + 8) (n1 := n + 48) (kd := 6) [.int a1] [.int a1, rv m] hC lv_L_216 (ct_X5_partnerOf hst m1 hI.1 hlt a1) (congrArg Prod.fst m1.1.t0) (by decide) ⟨_, mE_6 (congrArg Prod.fst m1.1.t0)⟩ rfl rfl rfl (by simp only [List.map_cons, List.map_nil, rv_cat, List.sum_cons, List.sum_nil]; (try simp only [Value.category]); (try omega)) (by decide) rfl rfl (by omega) (by omega) dL_law_1140 (fun E M9 h => h) (fun v9 M2 hq2 => ?_)
  obtain ⟨w2, mA, g2, kA⟩ := hq2
  have cA := (c1.pM g2).1
  have oA := o1.fr g2 (by decide) (by decide)
  obtain ⟨i, hi⟩ := vi_oPartnerOf S a1
  rw [w2, hi]
  have eO := g2.at o1.1 (by decide) (by decide)
  refine Z_istore hC dL_law_1143 (by decide) (ls1 := [some (.ref b), some (rv x), some (rv m), some (rv o), some (rv od), some (.int (nI (5 * t))), some (.int (nI (oPartnerOf S a1).1)), some (.int i)]) rfl ?_
  refine Z_aload_n hC dL_law_1145 rfl rfl ?_
  refine Z_callV (k1 := k + 8) (n1 := n + 48) (kd := 6) [] [rv m] hC lv_L_161 (ct_X5_thrown hst mA.1) (congrArg Prod.fst mA.1.t0) (by decide) ⟨_, mE_6 (congrArg Prod.fst mA.1.t0)⟩ rfl rfl rfl (by simp only [List.map_cons, List.map_nil, rv_cat, List.sum_cons, List.sum_nil]; (try simp only [Value.category]); (try omega)) (by decide) rfl rfl (by omega) (by omega) dL_law_1146 (fun E M9 h => h) (fun v9 M9 hq9 => ?_)
  obtain ⟨rfl, e9⟩ := hq9
  rw [e9, kA]; clear e9
  refine Z_iload hC dL_law_1149 rfl ?_
  refine Z_icmp_eq hC dL_law_1151 (tgt := 1156) (by decide) (fun c => ?_) (fun c => ?_)
  · refine Z_iload hC dL_law_1156 rfl ?_
    refine Z_if_ne hC dL_law_1158 (tgt := 1173) (by decide) (fun c => ?_) (fun c => ?_)
    · refine Z_goto hC dL_law_1173 (tgt := 2816) (by decide) ?_
      refine Z_sub hC (ls1 := lsL b x m o od t) ⟨rfl, rfl, rfl, rfl, rfl, rfl, trivial⟩ ?_
      refine Z_wide hC (k1 := k + 300) (n1 := n + 12000) (by omega) (by omega) ?_
      exact hE _ _ ⟨cA, mA, hI9, oA⟩
    · have h0 := nI_0of (vk_oPartnerOf S a1) (Classical.not_not.mp c)
      obtain ⟨i2, hi2, p2⟩ := p1 h0
      have ei : i2 = i := Value.int.inj (hi2.symm.trans hi)
      have pA : mJ M2 o 0 = Int32.toInt64 i := by rw [eO.2.2.2.2.1, p2, ei]
      refine Z_aload_n hC dL_law_1161 rfl rfl ?_
      refine Z_iconst hC dL_law_1162 (v := 0) (by decide) ?_
      refine Z_lald hC (congrArg Prod.fst oA.1) (j := 0) (by decide) (by rw [oA.2.1]; decide) dL_law_1163 ?_
      rw [pA]
      refine Z_iload hC dL_law_1164 rfl ?_
      refine Z_i2l hC dL_law_1166 ?_
      refine Z_lcmp hC dL_law_1167 ?_
      rw [lcmp_self]
      refine Z_if_eq hC dL_law_1168 (tgt := 1173) (by decide) (fun c => ?_) (fun c => ?_)
      · refine Z_goto hC dL_law_1173 (tgt := 2816) (by decide) ?_
        refine Z_sub hC (ls1 := lsL b x m o od t) ⟨rfl, rfl, rfl, rfl, rfl, rfl, trivial⟩ ?_
        refine Z_wide hC (k1 := k + 300) (n1 := n + 12000) (by omega) (by omega) ?_
        exact hE _ _ ⟨cA, mA, hI9, oA⟩
      · exact absurd rfl c
  · exact absurd rfl c
theorem cs_openNotices {G : Gt} {γ : Γt} {mc ms d : Nat} {lh : Launch} {M : Mm} {x m o od b L t k n : Nat} {xs : Nat → Int32} {S : St} (hst : lh.stackTraces = false) (hC : Zok G γ RL cL_law (some .boolean) 20 mc ms lawQ lh 9) (hs : Sok G γ b L xs) (hL : 5 * t + 4 < L) (hL2 : L ≤ 2560) (h : LwI M x m o od S t) (hk : k + 300 ≤ mc) (hn : n + 12000 ≤ ms) (hE : ∀ (M9 : Mm) (S9 : St), LwI M9 x m o od S9 (t + 1) → JE G γ ET M9 2816 (lsL b x m o od t) [] (k + 300) (n + 12000)) : JE G γ ET M 1176 (lsL b x m o od t) [] k n := by
  obtain ⟨hM, hm, hI, hO⟩ := h
  have hlt : t < 512 := by omega
  have v1 := vp_s (j := 1) (b := 1) hL (by decide) rfl hL2
  obtain ⟨a1, e1⟩ : ∃ z, xs (nI (5 * t) + 1).toNatClampNeg = z := ⟨_, rfl⟩
  have hI9 : Iv (oOpen S a1).2.2 (t + 1) := by rw [vs_oOpen]; exact hI.mono hlt
  unfold lsL
  refine Z_aload_n hC dL_law_1176 rfl rfl ?_
  refine Z_aloadR_n hC dL_law_1177 rfl rfl ?_
  refine Z_iload hC dL_law_1178 rfl ?_
  refine Z_iconst hC dL_law_1180 (v := 1) (by decide) ?_
  refine Z_iadd hC dL_law_1181 ?_
  refine Z_sld hC hs v1 e1 dL_law_1182 ?_
  refine Z_aload_n hC dL_law_1183 rfl rfl ?_
  refine Z_callH (k1 := k + 8) (n1 := n + 48) [rv x, .int a1, rv o] [rv o, .int a1, rv x] hC lh_L_217 (hl_openNotices hst hM hI.1 hO a1) rfl rfl (by simp only [List.map_cons, List.map_nil, rv_cat, List.sum_cons, List.sum_nil]; (try simp only [Value.category]); (try omega)) (by decide) rfl rfl (by omega) (by omega) dL_law_1184 (fun v9 M1 hq1 => ?_)
  obtain ⟨q1, c1, f1, o1, p1⟩ := hq1
  rw [q1]
  have m1 := hm.frX f1
  refine Z_istore hC dL_law_1187 (by decide) (ls1 := [some (.ref b), some (rv x), some (rv m), some (rv o), some (rv od), some (.int (nI (5 * t))), some (.int (nI (oOpen S a1).1))]) rfl ?_
  refine Z_aload_n hC dL_law_1189 rfl rfl ?_
  refine Z_aloadR_n hC dL_law_1190 rfl rfl ?_
  refine Z_iload hC dL_law_1191 rfl ?_
  refine Z_iconst hC dL_law_1193 (v := 1) (by decide) ?_
  refine Z_iadd hC dL_law_1194 ?_
  refine Z_sld hC hs v1 e1 dL_law_1195 ?_
  refine Z_callV (k1 := k + 8) (n1 := n + 48) (kd := 6) [.int a1] [.int a1, rv m] hC lv_L_219 (ct_X5_openNotices hst m1 hI.1 hlt a1) (congrArg Prod.fst m1.1.t0) (by decide) ⟨_, mE_6 (congrArg Prod.fst m1.1.t0)⟩ rfl rfl rfl (by simp only [List.map_cons, List.map_nil, rv_cat, List.sum_cons, List.sum_nil]; (try simp only [Value.category]); (try omega)) (by decide) rfl rfl (by omega) (by omega) dL_law_1196 (fun E M9 h => h) (fun v9 M2 hq2 => ?_)
  obtain ⟨w2, mA, g2, kA⟩ := hq2
  have cA := (c1.pM g2).1
  have oA := o1.fr g2 (by decide) (by decide)
  obtain ⟨i, hi⟩ := vi_oOpen S a1
  rw [w2, hi]
  have eO := g2.at o1.1 (by decide) (by decide)
  refine Z_istore hC dL_law_1199 (by decide) (ls1 := [some (.ref b), some (rv x), some (rv m), some (rv o), some (rv od), some (.int (nI (5 * t))), some (.int (nI (oOpen S a1).1)), some (.int i)]) rfl ?_
  refine Z_aload_n hC dL_law_1201 rfl rfl ?_
  refine Z_callV (k1 := k + 8) (n1 := n + 48) (kd := 6) [] [rv m] hC lv_L_161 (ct_X5_thrown hst mA.1) (congrArg Prod.fst mA.1.t0) (by decide) ⟨_, mE_6 (congrArg Prod.fst mA.1.t0)⟩ rfl rfl rfl (by simp only [List.map_cons, List.map_nil, rv_cat, List.sum_cons, List.sum_nil]; (try simp only [Value.category]); (try omega)) (by decide) rfl rfl (by omega) (by omega) dL_law_1202 (fun E M9 h => h) (fun v9 M9 hq9 => ?_)
  obtain ⟨rfl, e9⟩ := hq9
  rw [e9, kA]; clear e9
  refine Z_iload hC dL_law_1205 rfl ?_
  refine Z_icmp_eq hC dL_law_1207 (tgt := 1212) (by decide) (fun c => ?_) (fun c => ?_)
  · refine Z_iload hC dL_law_1212 rfl ?_
    refine Z_if_ne hC dL_law_1214 (tgt := 1229) (by decide) (fun c => ?_) (fun c => ?_)
    · refine Z_goto hC dL_law_1229 (tgt := 2816) (by decide) ?_
      refine Z_sub hC (ls1 := lsL b x m o od t) ⟨rfl, rfl, rfl, rfl, rfl, rfl, trivial⟩ ?_
      refine Z_wide hC (k1 := k + 300) (n1 := n + 12000) (by omega) (by omega) ?_
      exact hE _ _ ⟨cA, mA, hI9, oA⟩
    · have h0 := nI_0of (vk_oOpen S a1) (Classical.not_not.mp c)
      obtain ⟨i2, hi2, p2⟩ := p1 h0
      have ei : i2 = i := Value.int.inj (hi2.symm.trans hi)
      have pA : mJ M2 o 0 = Int32.toInt64 i := by rw [eO.2.2.2.2.1, p2, ei]
      refine Z_aload_n hC dL_law_1217 rfl rfl ?_
      refine Z_iconst hC dL_law_1218 (v := 0) (by decide) ?_
      refine Z_lald hC (congrArg Prod.fst oA.1) (j := 0) (by decide) (by rw [oA.2.1]; decide) dL_law_1219 ?_
      rw [pA]
      refine Z_iload hC dL_law_1220 rfl ?_
      refine Z_i2l hC dL_law_1222 ?_
      refine Z_lcmp hC dL_law_1223 ?_
      rw [lcmp_self]
      refine Z_if_eq hC dL_law_1224 (tgt := 1229) (by decide) (fun c => ?_) (fun c => ?_)
      · refine Z_goto hC dL_law_1229 (tgt := 2816) (by decide) ?_
        refine Z_sub hC (ls1 := lsL b x m o od t) ⟨rfl, rfl, rfl, rfl, rfl, rfl, trivial⟩ ?_
        refine Z_wide hC (k1 := k + 300) (n1 := n + 12000) (by omega) (by omega) ?_
        exact hE _ _ ⟨cA, mA, hI9, oA⟩
      · exact absurd rfl c
  · exact absurd rfl c
theorem cs_keeperOn {G : Gt} {γ : Γt} {mc ms d : Nat} {lh : Launch} {M : Mm} {x m o od b L t k n : Nat} {xs : Nat → Int32} {S : St} (hst : lh.stackTraces = false) (hC : Zok G γ RL cL_law (some .boolean) 20 mc ms lawQ lh 9) (hs : Sok G γ b L xs) (hL : 5 * t + 4 < L) (hL2 : L ≤ 2560) (h : LwI M x m o od S t) (hk : k + 300 ≤ mc) (hn : n + 12000 ≤ ms) (hE : ∀ (M9 : Mm) (S9 : St), LwI M9 x m o od S9 (t + 1) → JE G γ ET M9 2816 (lsL b x m o od t) [] (k + 300) (n + 12000)) : JE G γ ET M 1232 (lsL b x m o od t) [] k n := by
  obtain ⟨hM, hm, hI, hO⟩ := h
  have hlt : t < 512 := by omega
  have v1 := vp_s (j := 1) (b := 1) hL (by decide) rfl hL2
  obtain ⟨a1, e1⟩ : ∃ z, xs (nI (5 * t) + 1).toNatClampNeg = z := ⟨_, rfl⟩
  have v2 := vp_s (j := 2) (b := 2) hL (by decide) rfl hL2
  obtain ⟨a2, e2⟩ : ∃ z, xs (nI (5 * t) + 2).toNatClampNeg = z := ⟨_, rfl⟩
  have hI9 : Iv (oLookT 0 S a1 a2).2.2 (t + 1) := by rw [vs_oLookT]; exact hI.mono hlt
  unfold lsL
  refine Z_aload_n hC dL_law_1232 rfl rfl ?_
  refine Z_aloadR_n hC dL_law_1233 rfl rfl ?_
  refine Z_iload hC dL_law_1234 rfl ?_
  refine Z_iconst hC dL_law_1236 (v := 1) (by decide) ?_
  refine Z_iadd hC dL_law_1237 ?_
  refine Z_sld hC hs v1 e1 dL_law_1238 ?_
  refine Z_aloadR_n hC dL_law_1239 rfl rfl ?_
  refine Z_iload hC dL_law_1240 rfl ?_
  refine Z_iconst hC dL_law_1242 (v := 2) (by decide) ?_
  refine Z_iadd hC dL_law_1243 ?_
  refine Z_sld hC hs v2 e2 dL_law_1244 ?_
  refine Z_aload_n hC dL_law_1245 rfl rfl ?_
  refine Z_callH (k1 := k + 8) (n1 := n + 48) [rv x, .int a1, .int a2, rv o] [rv o, .int a2, .int a1, rv x] hC lh_L_220 (hl_keeperOn hst hM hI.1 hO a1 a2) rfl rfl (by simp only [List.map_cons, List.map_nil, rv_cat, List.sum_cons, List.sum_nil]; (try simp only [Value.category]); (try omega)) (by decide) rfl rfl (by omega) (by omega) dL_law_1246 (fun v9 M1 hq1 => ?_)
  obtain ⟨q1, c1, f1, o1, p1⟩ := hq1
  rw [q1]
  have m1 := hm.frX f1
  refine Z_istore hC dL_law_1249 (by decide) (ls1 := [some (.ref b), some (rv x), some (rv m), some (rv o), some (rv od), some (.int (nI (5 * t))), some (.int (nI (oLookT 0 S a1 a2).1))]) rfl ?_
  refine Z_aload_n hC dL_law_1251 rfl rfl ?_
  refine Z_aloadR_n hC dL_law_1252 rfl rfl ?_
  refine Z_iload hC dL_law_1253 rfl ?_
  refine Z_iconst hC dL_law_1255 (v := 1) (by decide) ?_
  refine Z_iadd hC dL_law_1256 ?_
  refine Z_sld hC hs v1 e1 dL_law_1257 ?_
  refine Z_aloadR_n hC dL_law_1258 rfl rfl ?_
  refine Z_iload hC dL_law_1259 rfl ?_
  refine Z_iconst hC dL_law_1261 (v := 2) (by decide) ?_
  refine Z_iadd hC dL_law_1262 ?_
  refine Z_sld hC hs v2 e2 dL_law_1263 ?_
  refine Z_callV (k1 := k + 8) (n1 := n + 48) (kd := 6) [.int a1, .int a2] [.int a2, .int a1, rv m] hC lv_L_222 (ct_X5_keeperOn hst m1 hI.1 hlt a1 a2) (congrArg Prod.fst m1.1.t0) (by decide) ⟨_, mE_6 (congrArg Prod.fst m1.1.t0)⟩ rfl rfl rfl (by simp only [List.map_cons, List.map_nil, rv_cat, List.sum_cons, List.sum_nil]; (try simp only [Value.category]); (try omega)) (by decide) rfl rfl (by omega) (by omega) dL_law_1264 (fun E M9 h => h) (fun v9 M2 hq2 => ?_)
  obtain ⟨w2, mA, g2, kA⟩ := hq2
  have cA := (c1.pM g2).1
  have oA := o1.fr g2 (by decide) (by decide)
  obtain ⟨i, hi⟩ := vi_oLookT 0 S a1 a2
  rw [w2, hi]
  have eO := g2.at o1.1 (by decide) (by decide)
  refine Z_istore hC dL_law_1267 (by decide) (ls1 := [some (.ref b), some (rv x), some (rv m), some (rv o), some (rv od), some (.int (nI (5 * t))), some (.int (nI (oLookT 0 S a1 a2).1)), some (.int i)]) rfl ?_
  refine Z_aload_n hC dL_law_1269 rfl rfl ?_
  refine Z_callV (k1 := k + 8) (n1 := n + 48) (kd := 6) [] [rv m] hC lv_L_161 (ct_X5_thrown hst mA.1) (congrArg Prod.fst mA.1.t0) (by decide) ⟨_, mE_6 (congrArg Prod.fst mA.1.t0)⟩ rfl rfl rfl (by simp only [List.map_cons, List.map_nil, rv_cat, List.sum_cons, List.sum_nil]; (try simp only [Value.category]); (try omega)) (by decide) rfl rfl (by omega) (by omega) dL_law_1270 (fun E M9 h => h) (fun v9 M9 hq9 => ?_)
  obtain ⟨rfl, e9⟩ := hq9
  rw [e9, kA]; clear e9
  refine Z_iload hC dL_law_1273 rfl ?_
  refine Z_icmp_eq hC dL_law_1275 (tgt := 1280) (by decide) (fun c => ?_) (fun c => ?_)
  · refine Z_iload hC dL_law_1280 rfl ?_
    refine Z_if_ne hC dL_law_1282 (tgt := 1297) (by decide) (fun c => ?_) (fun c => ?_)
    · refine Z_goto hC dL_law_1297 (tgt := 2816) (by decide) ?_
      refine Z_sub hC (ls1 := lsL b x m o od t) ⟨rfl, rfl, rfl, rfl, rfl, rfl, trivial⟩ ?_
      refine Z_wide hC (k1 := k + 300) (n1 := n + 12000) (by omega) (by omega) ?_
      exact hE _ _ ⟨cA, mA, hI9, oA⟩
    · have h0 := nI_0of (vk_oLookT 0 S a1 a2) (Classical.not_not.mp c)
      obtain ⟨i2, hi2, p2⟩ := p1 h0
      have ei : i2 = i := Value.int.inj (hi2.symm.trans hi)
      have pA : mJ M2 o 0 = Int32.toInt64 i := by rw [eO.2.2.2.2.1, p2, ei]
      refine Z_aload_n hC dL_law_1285 rfl rfl ?_
      refine Z_iconst hC dL_law_1286 (v := 0) (by decide) ?_
      refine Z_lald hC (congrArg Prod.fst oA.1) (j := 0) (by decide) (by rw [oA.2.1]; decide) dL_law_1287 ?_
      rw [pA]
      refine Z_iload hC dL_law_1288 rfl ?_
      refine Z_i2l hC dL_law_1290 ?_
      refine Z_lcmp hC dL_law_1291 ?_
      rw [lcmp_self]
      refine Z_if_eq hC dL_law_1292 (tgt := 1297) (by decide) (fun c => ?_) (fun c => ?_)
      · refine Z_goto hC dL_law_1297 (tgt := 2816) (by decide) ?_
        refine Z_sub hC (ls1 := lsL b x m o od t) ⟨rfl, rfl, rfl, rfl, rfl, rfl, trivial⟩ ?_
        refine Z_wide hC (k1 := k + 300) (n1 := n + 12000) (by omega) (by omega) ?_
        exact hE _ _ ⟨cA, mA, hI9, oA⟩
      · exact absurd rfl c
  · exact absurd rfl c
theorem cs_keeperByGoing {G : Gt} {γ : Γt} {mc ms d : Nat} {lh : Launch} {M : Mm} {x m o od b L t k n : Nat} {xs : Nat → Int32} {S : St} (hst : lh.stackTraces = false) (hC : Zok G γ RL cL_law (some .boolean) 20 mc ms lawQ lh 9) (hs : Sok G γ b L xs) (hL : 5 * t + 4 < L) (hL2 : L ≤ 2560) (h : LwI M x m o od S t) (hk : k + 300 ≤ mc) (hn : n + 12000 ≤ ms) (hE : ∀ (M9 : Mm) (S9 : St), LwI M9 x m o od S9 (t + 1) → JE G γ ET M9 2816 (lsL b x m o od t) [] (k + 300) (n + 12000)) : JE G γ ET M 1300 (lsL b x m o od t) [] k n := by
  obtain ⟨hM, hm, hI, hO⟩ := h
  have hlt : t < 512 := by omega
  have v1 := vp_s (j := 1) (b := 1) hL (by decide) rfl hL2
  obtain ⟨a1, e1⟩ : ∃ z, xs (nI (5 * t) + 1).toNatClampNeg = z := ⟨_, rfl⟩
  have v2 := vp_s (j := 2) (b := 2) hL (by decide) rfl hL2
  obtain ⟨a2, e2⟩ : ∃ z, xs (nI (5 * t) + 2).toNatClampNeg = z := ⟨_, rfl⟩
  have hI9 : Iv (oLookT 0 S a1 a2).2.2 (t + 1) := by rw [vs_oLookT]; exact hI.mono hlt
  unfold lsL
  refine Z_aload_n hC dL_law_1300 rfl rfl ?_
  refine Z_aloadR_n hC dL_law_1301 rfl rfl ?_
  refine Z_iload hC dL_law_1302 rfl ?_
  refine Z_iconst hC dL_law_1304 (v := 1) (by decide) ?_
  refine Z_iadd hC dL_law_1305 ?_
  refine Z_sld hC hs v1 e1 dL_law_1306 ?_
  refine Z_aloadR_n hC dL_law_1307 rfl rfl ?_
  refine Z_iload hC dL_law_1308 rfl ?_
  refine Z_iconst hC dL_law_1310 (v := 2) (by decide) ?_
  refine Z_iadd hC dL_law_1311 ?_
  refine Z_sld hC hs v2 e2 dL_law_1312 ?_
  refine Z_aload_n hC dL_law_1313 rfl rfl ?_
  refine Z_callH (k1 := k + 8) (n1 := n + 48) [rv x, .int a1, .int a2, rv o] [rv o, .int a2, .int a1, rv x] hC lh_L_223 (hl_keeperByGoing hst hM hI.1 hO a1 a2) rfl rfl (by simp only [List.map_cons, List.map_nil, rv_cat, List.sum_cons, List.sum_nil]; (try simp only [Value.category]); (try omega)) (by decide) rfl rfl (by omega) (by omega) dL_law_1314 (fun v9 M1 hq1 => ?_)
  obtain ⟨q1, c1, f1, o1, p1⟩ := hq1
  rw [q1]
  have m1 := hm.frX f1
  refine Z_istore hC dL_law_1317 (by decide) (ls1 := [some (.ref b), some (rv x), some (rv m), some (rv o), some (rv od), some (.int (nI (5 * t))), some (.int (nI (oLookT 0 S a1 a2).1))]) rfl ?_
  refine Z_aload_n hC dL_law_1319 rfl rfl ?_
  refine Z_aloadR_n hC dL_law_1320 rfl rfl ?_
  refine Z_iload hC dL_law_1321 rfl ?_
  refine Z_iconst hC dL_law_1323 (v := 1) (by decide) ?_
  refine Z_iadd hC dL_law_1324 ?_
  refine Z_sld hC hs v1 e1 dL_law_1325 ?_
  refine Z_aloadR_n hC dL_law_1326 rfl rfl ?_
  refine Z_iload hC dL_law_1327 rfl ?_
  refine Z_iconst hC dL_law_1329 (v := 2) (by decide) ?_
  refine Z_iadd hC dL_law_1330 ?_
  refine Z_sld hC hs v2 e2 dL_law_1331 ?_
  refine Z_callV (k1 := k + 8) (n1 := n + 48) (kd := 6) [.int a1, .int a2] [.int a2, .int a1, rv m] hC lv_L_225 (ct_X5_keeperByGoing hst m1 hI.1 hlt a1 a2) (congrArg Prod.fst m1.1.t0) (by decide) ⟨_, mE_6 (congrArg Prod.fst m1.1.t0)⟩ rfl rfl rfl (by simp only [List.map_cons, List.map_nil, rv_cat, List.sum_cons, List.sum_nil]; (try simp only [Value.category]); (try omega)) (by decide) rfl rfl (by omega) (by omega) dL_law_1332 (fun E M9 h => h) (fun v9 M2 hq2 => ?_)
  obtain ⟨w2, mA, g2, kA⟩ := hq2
  have cA := (c1.pM g2).1
  have oA := o1.fr g2 (by decide) (by decide)
  obtain ⟨i, hi⟩ := vi_oLookT 0 S a1 a2
  rw [w2, hi]
  have eO := g2.at o1.1 (by decide) (by decide)
  refine Z_istore hC dL_law_1335 (by decide) (ls1 := [some (.ref b), some (rv x), some (rv m), some (rv o), some (rv od), some (.int (nI (5 * t))), some (.int (nI (oLookT 0 S a1 a2).1)), some (.int i)]) rfl ?_
  refine Z_aload_n hC dL_law_1337 rfl rfl ?_
  refine Z_callV (k1 := k + 8) (n1 := n + 48) (kd := 6) [] [rv m] hC lv_L_161 (ct_X5_thrown hst mA.1) (congrArg Prod.fst mA.1.t0) (by decide) ⟨_, mE_6 (congrArg Prod.fst mA.1.t0)⟩ rfl rfl rfl (by simp only [List.map_cons, List.map_nil, rv_cat, List.sum_cons, List.sum_nil]; (try simp only [Value.category]); (try omega)) (by decide) rfl rfl (by omega) (by omega) dL_law_1338 (fun E M9 h => h) (fun v9 M9 hq9 => ?_)
  obtain ⟨rfl, e9⟩ := hq9
  rw [e9, kA]; clear e9
  refine Z_iload hC dL_law_1341 rfl ?_
  refine Z_icmp_eq hC dL_law_1343 (tgt := 1348) (by decide) (fun c => ?_) (fun c => ?_)
  · refine Z_iload hC dL_law_1348 rfl ?_
    refine Z_if_ne hC dL_law_1350 (tgt := 1365) (by decide) (fun c => ?_) (fun c => ?_)
    · refine Z_goto hC dL_law_1365 (tgt := 2816) (by decide) ?_
      refine Z_sub hC (ls1 := lsL b x m o od t) ⟨rfl, rfl, rfl, rfl, rfl, rfl, trivial⟩ ?_
      refine Z_wide hC (k1 := k + 300) (n1 := n + 12000) (by omega) (by omega) ?_
      exact hE _ _ ⟨cA, mA, hI9, oA⟩
    · have h0 := nI_0of (vk_oLookT 0 S a1 a2) (Classical.not_not.mp c)
      obtain ⟨i2, hi2, p2⟩ := p1 h0
      have ei : i2 = i := Value.int.inj (hi2.symm.trans hi)
      have pA : mJ M2 o 0 = Int32.toInt64 i := by rw [eO.2.2.2.2.1, p2, ei]
      refine Z_aload_n hC dL_law_1353 rfl rfl ?_
      refine Z_iconst hC dL_law_1354 (v := 0) (by decide) ?_
      refine Z_lald hC (congrArg Prod.fst oA.1) (j := 0) (by decide) (by rw [oA.2.1]; decide) dL_law_1355 ?_
      rw [pA]
      refine Z_iload hC dL_law_1356 rfl ?_
      refine Z_i2l hC dL_law_1358 ?_
      refine Z_lcmp hC dL_law_1359 ?_
      rw [lcmp_self]
      refine Z_if_eq hC dL_law_1360 (tgt := 1365) (by decide) (fun c => ?_) (fun c => ?_)
      · refine Z_goto hC dL_law_1365 (tgt := 2816) (by decide) ?_
        refine Z_sub hC (ls1 := lsL b x m o od t) ⟨rfl, rfl, rfl, rfl, rfl, rfl, trivial⟩ ?_
        refine Z_wide hC (k1 := k + 300) (n1 := n + 12000) (by omega) (by omega) ?_
        exact hE _ _ ⟨cA, mA, hI9, oA⟩
      · exact absurd rfl c
  · exact absurd rfl c
theorem cs_transfers {G : Gt} {γ : Γt} {mc ms d : Nat} {lh : Launch} {M : Mm} {x m o od b L t k n : Nat} {xs : Nat → Int32} {S : St} (hst : lh.stackTraces = false) (hC : Zok G γ RL cL_law (some .boolean) 20 mc ms lawQ lh 9) (hs : Sok G γ b L xs) (hL : 5 * t + 4 < L) (hL2 : L ≤ 2560) (h : LwI M x m o od S t) (hk : k + 300 ≤ mc) (hn : n + 12000 ≤ ms) (hE : ∀ (M9 : Mm) (S9 : St), LwI M9 x m o od S9 (t + 1) → JE G γ ET M9 2816 (lsL b x m o od t) [] (k + 300) (n + 12000)) : JE G γ ET M 1368 (lsL b x m o od t) [] k n := by
  obtain ⟨hM, hm, hI, hO⟩ := h
  have hlt : t < 512 := by omega
  have v1 := vp_s (j := 1) (b := 1) hL (by decide) rfl hL2
  obtain ⟨a1, e1⟩ : ∃ z, xs (nI (5 * t) + 1).toNatClampNeg = z := ⟨_, rfl⟩
  have hI9 : Iv (oTransfers S a1).2.2 (t + 1) := by rw [vs_oTransfers]; exact hI.mono hlt
  unfold lsL
  refine Z_aload_n hC dL_law_1368 rfl rfl ?_
  refine Z_aloadR_n hC dL_law_1369 rfl rfl ?_
  refine Z_iload hC dL_law_1370 rfl ?_
  refine Z_iconst hC dL_law_1372 (v := 1) (by decide) ?_
  refine Z_iadd hC dL_law_1373 ?_
  refine Z_sld hC hs v1 e1 dL_law_1374 ?_
  refine Z_aload_n hC dL_law_1375 rfl rfl ?_
  refine Z_callH (k1 := k + 8) (n1 := n + 48) [rv x, .int a1, rv o] [rv o, .int a1, rv x] hC lh_L_226 (hl_transfers hst hM hI.1 hO a1) rfl rfl (by simp only [List.map_cons, List.map_nil, rv_cat, List.sum_cons, List.sum_nil]; (try simp only [Value.category]); (try omega)) (by decide) rfl rfl (by omega) (by omega) dL_law_1376 (fun v9 M1 hq1 => ?_)
  obtain ⟨q1, c1, f1, o1, p1⟩ := hq1
  rw [q1]
  have m1 := hm.frX f1
  refine Z_istore hC dL_law_1379 (by decide) (ls1 := [some (.ref b), some (rv x), some (rv m), some (rv o), some (rv od), some (.int (nI (5 * t))), some (.int (nI (oTransfers S a1).1))]) rfl ?_
  refine Z_aload_n hC dL_law_1381 rfl rfl ?_
  refine Z_aloadR_n hC dL_law_1382 rfl rfl ?_
  refine Z_iload hC dL_law_1383 rfl ?_
  refine Z_iconst hC dL_law_1385 (v := 1) (by decide) ?_
  refine Z_iadd hC dL_law_1386 ?_
  refine Z_sld hC hs v1 e1 dL_law_1387 ?_
  refine Z_callV (k1 := k + 8) (n1 := n + 48) (kd := 6) [.int a1] [.int a1, rv m] hC lv_L_228 (ct_X5_transfers hst m1 hI.1 hlt a1) (congrArg Prod.fst m1.1.t0) (by decide) ⟨_, mE_6 (congrArg Prod.fst m1.1.t0)⟩ rfl rfl rfl (by simp only [List.map_cons, List.map_nil, rv_cat, List.sum_cons, List.sum_nil]; (try simp only [Value.category]); (try omega)) (by decide) rfl rfl (by omega) (by omega) dL_law_1388 (fun E M9 h => h) (fun v9 M2 hq2 => ?_)
  obtain ⟨w2, mA, g2, kA⟩ := hq2
  have cA := (c1.pM g2).1
  have oA := o1.fr g2 (by decide) (by decide)
  obtain ⟨i, hi⟩ := vi_oTransfers S a1
  rw [w2, hi]
  have eO := g2.at o1.1 (by decide) (by decide)
  refine Z_istore hC dL_law_1391 (by decide) (ls1 := [some (.ref b), some (rv x), some (rv m), some (rv o), some (rv od), some (.int (nI (5 * t))), some (.int (nI (oTransfers S a1).1)), some (.int i)]) rfl ?_
  refine Z_aload_n hC dL_law_1393 rfl rfl ?_
  refine Z_callV (k1 := k + 8) (n1 := n + 48) (kd := 6) [] [rv m] hC lv_L_161 (ct_X5_thrown hst mA.1) (congrArg Prod.fst mA.1.t0) (by decide) ⟨_, mE_6 (congrArg Prod.fst mA.1.t0)⟩ rfl rfl rfl (by simp only [List.map_cons, List.map_nil, rv_cat, List.sum_cons, List.sum_nil]; (try simp only [Value.category]); (try omega)) (by decide) rfl rfl (by omega) (by omega) dL_law_1394 (fun E M9 h => h) (fun v9 M9 hq9 => ?_)
  obtain ⟨rfl, e9⟩ := hq9
  rw [e9, kA]; clear e9
  refine Z_iload hC dL_law_1397 rfl ?_
  refine Z_icmp_eq hC dL_law_1399 (tgt := 1404) (by decide) (fun c => ?_) (fun c => ?_)
  · refine Z_iload hC dL_law_1404 rfl ?_
    refine Z_if_ne hC dL_law_1406 (tgt := 1421) (by decide) (fun c => ?_) (fun c => ?_)
    · refine Z_goto hC dL_law_1421 (tgt := 2816) (by decide) ?_
      refine Z_sub hC (ls1 := lsL b x m o od t) ⟨rfl, rfl, rfl, rfl, rfl, rfl, trivial⟩ ?_
      refine Z_wide hC (k1 := k + 300) (n1 := n + 12000) (by omega) (by omega) ?_
      exact hE _ _ ⟨cA, mA, hI9, oA⟩
    · have h0 := nI_0of (vk_oTransfers S a1) (Classical.not_not.mp c)
      obtain ⟨i2, hi2, p2⟩ := p1 h0
      have ei : i2 = i := Value.int.inj (hi2.symm.trans hi)
      have pA : mJ M2 o 0 = Int32.toInt64 i := by rw [eO.2.2.2.2.1, p2, ei]
      refine Z_aload_n hC dL_law_1409 rfl rfl ?_
      refine Z_iconst hC dL_law_1410 (v := 0) (by decide) ?_
      refine Z_lald hC (congrArg Prod.fst oA.1) (j := 0) (by decide) (by rw [oA.2.1]; decide) dL_law_1411 ?_
      rw [pA]
      refine Z_iload hC dL_law_1412 rfl ?_
      refine Z_i2l hC dL_law_1414 ?_
      refine Z_lcmp hC dL_law_1415 ?_
      rw [lcmp_self]
      refine Z_if_eq hC dL_law_1416 (tgt := 1421) (by decide) (fun c => ?_) (fun c => ?_)
      · refine Z_goto hC dL_law_1421 (tgt := 2816) (by decide) ?_
        refine Z_sub hC (ls1 := lsL b x m o od t) ⟨rfl, rfl, rfl, rfl, rfl, rfl, trivial⟩ ?_
        refine Z_wide hC (k1 := k + 300) (n1 := n + 12000) (by omega) (by omega) ?_
        exact hE _ _ ⟨cA, mA, hI9, oA⟩
      · exact absurd rfl c
  · exact absurd rfl c
