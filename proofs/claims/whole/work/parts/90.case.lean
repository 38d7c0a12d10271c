theorem cs_meanTransfers {G : Gt} {γ : Γt} {mc ms d : Nat} {lh : Launch} {M : Mm} {x m o od b L t k n : Nat} {xs : Nat → Int32} {S : St} (hst : lh.stackTraces = false) (hC : Zok G γ RL cL_law (some .boolean) 20 mc ms lawQ lh 9) (hs : Sok G γ b L xs) (hL : 5 * t + 4 < L) (hL2 : L ≤ 2560) (h : LwI M x m o od S t) (hk : k + 300 ≤ mc) (hn : n + 12000 ≤ ms) (hE : ∀ (M9 : Mm) (S9 : St), LwI M9 x m o od S9 (t + 1) → JE G γ ET M9 2816 (lsL b x m o od t) [] (k + 300) (n + 12000)) : JE G γ ET M 2738 (lsL b x m o od t) [] k n := by
  obtain ⟨hM, hm, hI, hO⟩ := h
  have hlt : t < 512 := by omega
  have hI9 : Iv (oMean S).2.2 (t + 1) := by rw [vs_oMean]; exact hI.mono hlt
  unfold lsL
  refine Z_aload_n hC dL_law_2738 rfl rfl ?_
  refine Z_aload hC dL_law_2739 rfl ?_
  refine Z_callH (k1 := k + 8) (n1 := n + 48) [rv x, rv od] [rv od, rv x] hC lh_L_300 (hl_meanTransfers hst hM hI.1 hO) rfl rfl (by simp only [List.map_cons, List.map_nil, rv_cat, List.sum_cons, List.sum_nil]; (try simp only [Value.category]); (try omega)) (by decide) rfl rfl (by omega) (by omega) dL_law_2741 (fun v9 M1 hq1 => ?_)
  obtain ⟨q1, c1, f1, o1, p1⟩ := hq1
  rw [q1]
  have m1 := hm.frX f1
  refine Z_istore hC dL_law_2744 (by decide) (ls1 := [some (.ref b), some (rv x), some (rv m), some (rv o), some (rv od), some (.int (nI (5 * t))), some (.int (nI (oMean S).1))]) rfl ?_
  refine Z_aload_n hC dL_law_2746 rfl rfl ?_
  refine Z_callV (k1 := k + 8) (n1 := n + 48) (kd := 6) [] [rv m] hC lv_L_302 (ct_X5_meanTransfers hst m1 hI.1 hlt) (congrArg Prod.fst m1.1.t0) (by decide) ⟨_, mE_6 (congrArg Prod.fst m1.1.t0)⟩ rfl rfl rfl (by simp only [List.map_cons, List.map_nil, rv_cat, List.sum_cons, List.sum_nil]; (try simp only [Value.category]); (try omega)) (by decide) rfl rfl (by omega) (by omega) dL_law_2747 (fun E M9 h => h) (fun v9 M2 hq2 => ?_)
  obtain ⟨⟨i, hi⟩, h2, mA, g2, kA⟩ := hq2
  have eS := vs_oMean S
  rw [← eS] at mA
  have cA := (c1.pM g2).1
  have oA := o1.fr g2 (by decide) (by decide)
  have eO := g2.at o1.2.2.1 (by decide) (by decide)
  rw [hi]
  refine Z_dstore hC dL_law_2750 (by decide) (Nat.le_of_ble_eq_true rfl) ?_
  refine Z_aload_n hC dL_law_2752 rfl rfl ?_
  refine Z_callV (k1 := k + 8) (n1 := n + 48) (kd := 6) [] [rv m] hC lv_L_161 (ct_X5_thrown hst mA.1) (congrArg Prod.fst mA.1.t0) (by decide) ⟨_, mE_6 (congrArg Prod.fst mA.1.t0)⟩ rfl rfl rfl (by simp only [List.map_cons, List.map_nil, rv_cat, List.sum_cons, List.sum_nil]; (try simp only [Value.category]); (try omega)) (by decide) rfl rfl (by omega) (by omega) dL_law_2753 (fun E M9 h => h) (fun v9 M9 hq9 => ?_)
  obtain ⟨rfl, e9⟩ := hq9
  rw [e9, kA]; clear e9
  refine Z_iload hC dL_law_2756 rfl ?_
  refine Z_icmp_eq hC dL_law_2758 (tgt := 2763) (by decide) (fun c => ?_) (fun c => ?_)
  · refine Z_iload hC dL_law_2763 rfl ?_
    refine Z_if_ne hC dL_law_2765 (tgt := 2800) (by decide) (fun c => ?_) (fun c => ?_)
    · refine Z_goto hC dL_law_2800 (tgt := 2816) (by decide) ?_
      refine Z_forget (own := RL) (cc := cL_law) (ret := none) (d := 0) (mc := 0) (ms := 0) (Qr := lawQ) (lh := lh) (nL := 9) ?_
      refine Z_sub hC (ls1 := lsL b x m o od t) ⟨rfl, rfl, rfl, rfl, rfl, rfl, trivial⟩ ?_
      refine Z_wide hC (k1 := k + 300) (n1 := n + 12000) (by omega) (by omega) ?_
      exact hE _ _ ⟨cA, mA, hI9, oA⟩
    · have h0 := nI_0of (vk_oMean S) (Classical.not_not.mp c)
      obtain ⟨i2, hi2, p2⟩ := p1 h0
      have e2 := (h2 h0).symm.trans hi
      rw [hi2] at e2
      have ei : i2 = i := Value.double.inj (Option.some.inj e2)
      have pA : mD M2 od 0 = i := by rw [eO.2.2.2.2.2, p2, ei]
      obtain ⟨i3, hi3, hm3⟩ := vG_oMean S hI.1 h0
      have ei3 : i3 = i := (Value.double.inj (hi3.symm.trans hi2)).trans ei
      rw [ei3] at hm3
      have hcmp := hm3
      refine Z_aload hC dL_law_2768 rfl ?_
      refine Z_iconst hC dL_law_2770 (v := 0) (by decide) ?_
      refine Z_dald hC (congrArg Prod.fst oA.2.2.1) (j := 0) (by decide) (by rw [oA.2.2.2]; decide) dL_law_2771 ?_
      rw [pA]
      refine Z_dload hC dL_law_2772 (x := i) (fun _ h => h) ?_
      refine Z_dcmp hC dL_law_2774 ?_
      rw [hcmp]
      refine Z_if_eq hC dL_law_2775 (tgt := 2800) (by decide) (fun c => ?_) (fun c => ?_)
      · refine Z_goto hC dL_law_2800 (tgt := 2816) (by decide) ?_
        refine Z_forget (own := RL) (cc := cL_law) (ret := none) (d := 0) (mc := 0) (ms := 0) (Qr := lawQ) (lh := lh) (nL := 9) ?_
        refine Z_sub hC (ls1 := lsL b x m o od t) ⟨rfl, rfl, rfl, rfl, rfl, rfl, trivial⟩ ?_
        refine Z_wide hC (k1 := k + 300) (n1 := n + 12000) (by omega) (by omega) ?_
        exact hE _ _ ⟨cA, mA, hI9, oA⟩
      · exact absurd rfl c
  · exact absurd rfl c
