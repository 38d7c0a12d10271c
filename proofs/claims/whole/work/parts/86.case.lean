theorem cs_addKeeper {G : Gt} {γ : Γt} {mc ms d : Nat} {lh : Launch} {M : Mm} {x m o od b L t k n : Nat} {xs : Nat → Int32} {S : St} (hst : lh.stackTraces = false) (hC : Zok G γ RL cL_law (some .boolean) 20 mc ms lawQ lh 9) (hs : Sok G γ b L xs) (hL : 5 * t + 4 < L) (hL2 : L ≤ 2560) (h : LwI M x m o od S t) (hk : k + 300 ≤ mc) (hn : n + 12000 ≤ ms) (hE : ∀ (M9 : Mm) (S9 : St), LwI M9 x m o od S9 (t + 1) → JE G γ ET M9 2816 (lsL b x m o od t) [] (k + 300) (n + 12000)) : JE G γ ET M 236 (lsL b x m o od t) [] k n := by
  obtain ⟨hM, hm, hI, hO⟩ := h
  have hlt : t < 512 := by omega
  have hI9 := iv_addKeeper hI hlt 
  unfold lsL
  refine Z_aload_n hC dL_law_236 rfl rfl ?_
  refine Z_aload_n hC dL_law_237 rfl rfl ?_
  refine Z_callH (k1 := k + 40) (n1 := n + 9000) [rv x, rv o] [rv o, rv x] hC lh_L_155 (hl_addKeeper hst hM hI.1 hO hlt) rfl rfl (by simp only [List.map_cons, List.map_nil, rv_cat, List.sum_cons, List.sum_nil]; (try simp only [Value.category]); (try omega)) (by decide) rfl rfl (by omega) (by omega) dL_law_238 (fun v9 M1 hq1 => ?_)
  obtain ⟨q1, c1, f1, o1, p1⟩ := hq1
  rw [q1]
  have m1 := hm.frX f1
  refine Z_istore hC dL_law_241 (by decide) (ls1 := [some (.ref b), some (rv x), some (rv m), some (rv o), some (rv od), some (.int (nI (5 * t))), some (.int (nI (oAddKeeper S).1))]) rfl ?_
  refine Z_aload_n hC dL_law_243 rfl rfl ?_
  refine Z_callV (k1 := k + 40) (n1 := n + 9000) (kd := 6) [] [rv m] hC lv_L_160 (ct_X5_addKeeper hst m1 hI.1 hlt) (congrArg Prod.fst m1.1.t0) (by decide) ⟨_, mE_6 (congrArg Prod.fst m1.1.t0)⟩ rfl rfl rfl (by simp only [List.map_cons, List.map_nil, rv_cat, List.sum_cons, List.sum_nil]; (try simp only [Value.category]); (try omega)) (by decide) rfl rfl (by omega) (by omega) dL_law_244 (fun E M9 h => h) (fun v9 M2 hq2 => ?_)
  obtain ⟨w2, mA, g2, kA⟩ := hq2
  have cA := (c1.pM g2).1
  have oA := o1.fr g2 (by decide) (by decide)
  obtain ⟨i, hi⟩ := vi_oAddKeeper S
  rw [w2, hi]
  have eO := g2.at o1.1 (by decide) (by decide)
  refine Z_istore hC dL_law_247 (by decide) (ls1 := [some (.ref b), some (rv x), some (rv m), some (rv o), some (rv od), some (.int (nI (5 * t))), some (.int (nI (oAddKeeper S).1)), some (.int i)]) rfl ?_
  refine Z_aload_n hC dL_law_249 rfl rfl ?_
  refine Z_callV (k1 := k + 40) (n1 := n + 9000) (kd := 6) [] [rv m] hC lv_L_161 (ct_X5_thrown hst mA.1) (congrArg Prod.fst mA.1.t0) (by decide) ⟨_, mE_6 (congrArg Prod.fst mA.1.t0)⟩ rfl rfl rfl (by simp only [List.map_cons, List.map_nil, rv_cat, List.sum_cons, List.sum_nil]; (try simp only [Value.category]); (try omega)) (by decide) rfl rfl (by omega) (by omega) dL_law_250 (fun E M9 h => h) (fun v9 M9 hq9 => ?_)
  obtain ⟨rfl, e9⟩ := hq9
  rw [e9, kA]; clear e9
  refine Z_iload hC dL_law_253 rfl ?_
  refine Z_icmp_eq hC dL_law_255 (tgt := 260) (by decide) (fun c => ?_) (fun c => ?_)
  · refine Z_iload hC dL_law_260 rfl ?_
    refine Z_if_ne hC dL_law_262 (tgt := 277) (by decide) (fun c => ?_) (fun c => ?_)
    · refine Z_goto hC dL_law_277 (tgt := 2816) (by decide) ?_
      refine Z_sub hC (ls1 := lsL b x m o od t) ⟨rfl, rfl, rfl, rfl, rfl, rfl, trivial⟩ ?_
      refine Z_wide hC (k1 := k + 300) (n1 := n + 12000) (by omega) (by omega) ?_
      exact hE _ _ ⟨cA, mA, hI9, oA⟩
    · have h0 := nI_0of (vk_oAddKeeper S) (Classical.not_not.mp c)
      obtain ⟨i2, hi2, p2⟩ := p1 h0
      have ei : i2 = i := Value.int.inj (hi2.symm.trans hi)
      have pA : mJ M2 o 0 = Int32.toInt64 i := by rw [eO.2.2.2.2.1, p2, ei]
      refine Z_aload_n hC dL_law_265 rfl rfl ?_
      refine Z_iconst hC dL_law_266 (v := 0) (by decide) ?_
      refine Z_lald hC (congrArg Prod.fst oA.1) (j := 0) (by decide) (by rw [oA.2.1]; decide) dL_law_267 ?_
      rw [pA]
      refine Z_iload hC dL_law_268 rfl ?_
      refine Z_i2l hC dL_law_270 ?_
      refine Z_lcmp hC dL_law_271 ?_
      rw [lcmp_self]
      refine Z_if_eq hC dL_law_272 (tgt := 277) (by decide) (fun c => ?_) (fun c => ?_)
      · refine Z_goto hC dL_law_277 (tgt := 2816) (by decide) ?_
        refine Z_sub hC (ls1 := lsL b x m o od t) ⟨rfl, rfl, rfl, rfl, rfl, rfl, trivial⟩ ?_
        refine Z_wide hC (k1 := k + 300) (n1 := n + 12000) (by omega) (by omega) ?_
        exact hE _ _ ⟨cA, mA, hI9, oA⟩
      · exact absurd rfl c
  · exact absurd rfl c
theorem cs_pass {G : Gt} {γ : Γt} {mc ms d : Nat} {lh : Launch} {M : Mm} {x m o od b L t k n : Nat} {xs : Nat → Int32} {S : St} (hst : lh.stackTraces = false) (hC : Zok G γ RL cL_law (some .boolean) 20 mc ms lawQ lh 9) (hs : Sok G γ b L xs) (hL : 5 * t + 4 < L) (hL2 : L ≤ 2560) (h : LwI M x m o od S t) (hk : k + 300 ≤ mc) (hn : n + 12000 ≤ ms) (hE : ∀ (M9 : Mm) (S9 : St), LwI M9 x m o od S9 (t + 1) → JE G γ ET M9 2816 (lsL b x m o od t) [] (k + 300) (n + 12000)) : JE G γ ET M 280 (lsL b x m o od t) [] k n := by
  obtain ⟨hM, hm, hI, hO⟩ := h
  have hlt : t < 512 := by omega
  have v1 := vp_s (j := 1) (b := 1) hL (by decide) rfl hL2
  obtain ⟨a1, e1⟩ : ∃ z, xs (nI (5 * t) + 1).toNatClampNeg = z := ⟨_, rfl⟩
  have hI9 := iv_pass hI hlt a1
  unfold lsL
  refine Z_aload_n hC dL_law_280 rfl rfl ?_
  refine Z_aloadR_n hC dL_law_281 rfl rfl ?_
  refine Z_iload hC dL_law_282 rfl ?_
  refine Z_iconst hC dL_law_284 (v := 1) (by decide) ?_
  refine Z_iadd hC dL_law_285 ?_
  refine Z_sld hC hs v1 e1 dL_law_286 ?_
  refine Z_aload_n hC dL_law_287 rfl rfl ?_
  refine Z_callH (k1 := k + 40) (n1 := n + 9000) [rv x, .int a1, rv o] [rv o, .int a1, rv x] hC lh_L_164 (hl_pass hst hM hI.1 hO hlt a1) rfl rfl (by simp only [List.map_cons, List.map_nil, rv_cat, List.sum_cons, List.sum_nil]; (try simp only [Value.category]); (try omega)) (by decide) rfl rfl (by omega) (by omega) dL_law_288 (fun v9 M1 hq1 => ?_)
  obtain ⟨q1, c1, f1, o1, p1⟩ := hq1
  rw [q1]
  have m1 := hm.frX f1
  refine Z_istore hC dL_law_291 (by decide) (ls1 := [some (.ref b), some (rv x), some (rv m), some (rv o), some (rv od), some (.int (nI (5 * t))), some (.int (nI (oPass S a1).1))]) rfl ?_
  refine Z_aload_n hC dL_law_293 rfl rfl ?_
  refine Z_aloadR_n hC dL_law_294 rfl rfl ?_
  refine Z_iload hC dL_law_295 rfl ?_
  refine Z_iconst hC dL_law_297 (v := 1) (by decide) ?_
  refine Z_iadd hC dL_law_298 ?_
  refine Z_sld hC hs v1 e1 dL_law_299 ?_
  refine Z_callV (k1 := k + 40) (n1 := n + 9000) (kd := 6) [.int a1] [.int a1, rv m] hC lv_L_167 (ct_X5_pass hst m1 hI.1 hlt a1) (congrArg Prod.fst m1.1.t0) (by decide) ⟨_, mE_6 (congrArg Prod.fst m1.1.t0)⟩ rfl rfl rfl (by simp only [List.map_cons, List.map_nil, rv_cat, List.sum_cons, List.sum_nil]; (try simp only [Value.category]); (try omega)) (by decide) rfl rfl (by omega) (by omega) dL_law_300 (fun E M9 h => h) (fun v9 M2 hq2 => ?_)
  obtain ⟨w2, mA, g2, kA⟩ := hq2
  have cA := (c1.pM g2).1
  have oA := o1.fr g2 (by decide) (by decide)
  obtain ⟨i, hi⟩ := vi_oPass S a1
  rw [w2, hi]
  have eO := g2.at o1.1 (by decide) (by decide)
  refine Z_istore hC dL_law_303 (by decide) (ls1 := [some (.ref b), some (rv x), some (rv m), some (rv o), some (rv od), some (.int (nI (5 * t))), some (.int (nI (oPass S a1).1)), some (.int i)]) rfl ?_
  refine Z_aload_n hC dL_law_305 rfl rfl ?_
  refine Z_callV (k1 := k + 40) (n1 := n + 9000) (kd := 6) [] [rv m] hC lv_L_161 (ct_X5_thrown hst mA.1) (congrArg Prod.fst mA.1.t0) (by decide) ⟨_, mE_6 (congrArg Prod.fst mA.1.t0)⟩ rfl rfl rfl (by simp only [List.map_cons, List.map_nil, rv_cat, List.sum_cons, List.sum_nil]; (try simp only [Value.category]); (try omega)) (by decide) rfl rfl (by omega) (by omega) dL_law_306 (fun E M9 h => h) (fun v9 M9 hq9 => ?_)
  obtain ⟨rfl, e9⟩ := hq9
  rw [e9, kA]; clear e9
  refine Z_iload hC dL_law_309 rfl ?_
  refine Z_icmp_eq hC dL_law_311 (tgt := 316) (by decide) (fun c => ?_) (fun c => ?_)
  · refine Z_iload hC dL_law_316 rfl ?_
    refine Z_if_ne hC dL_law_318 (tgt := 333) (by decide) (fun c => ?_) (fun c => ?_)
    · refine Z_goto hC dL_law_333 (tgt := 2816) (by decide) ?_
      refine Z_sub hC (ls1 := lsL b x m o od t) ⟨rfl, rfl, rfl, rfl, rfl, rfl, trivial⟩ ?_
      refine Z_wide hC (k1 := k + 300) (n1 := n + 12000) (by omega) (by omega) ?_
      exact hE _ _ ⟨cA, mA, hI9, oA⟩
    · have h0 := nI_0of (vk_oPass S a1) (Classical.not_not.mp c)
      obtain ⟨i2, hi2, p2⟩ := p1 h0
      have ei : i2 = i := Value.int.inj (hi2.symm.trans hi)
      have pA : mJ M2 o 0 = Int32.toInt64 i := by rw [eO.2.2.2.2.1, p2, ei]
      refine Z_aload_n hC dL_law_321 rfl rfl ?_
      refine Z_iconst hC dL_law_322 (v := 0) (by decide) ?_
      refine Z_lald hC (congrArg Prod.fst oA.1) (j := 0) (by decide) (by rw [oA.2.1]; decide) dL_law_323 ?_
      rw [pA]
      refine Z_iload hC dL_law_324 rfl ?_
      refine Z_i2l hC dL_law_326 ?_
      refine Z_lcmp hC dL_law_327 ?_
      rw [lcmp_self]
      refine Z_if_eq hC dL_law_328 (tgt := 333) (by decide) (fun c => ?_) (fun c => ?_)
      · refine Z_goto hC dL_law_333 (tgt := 2816) (by decide) ?_
        refine Z_sub hC (ls1 := lsL b x m o od t) ⟨rfl, rfl, rfl, rfl, rfl, rfl, trivial⟩ ?_
        refine Z_wide hC (k1 := k + 300) (n1 := n + 12000) (by omega) (by omega) ?_
        exact hE _ _ ⟨cA, mA, hI9, oA⟩
      · exact absurd rfl c
  · exact absurd rfl c
theorem cs_day {G : Gt} {γ : Γt} {mc ms d : Nat} {lh : Launch} {M : Mm} {x m o od b L t k n : Nat} {xs : Nat → Int32} {S : St} (hst : lh.stackTraces = false) (hC : Zok G γ RL cL_law (some .boolean) 20 mc ms lawQ lh 9) (hs : Sok G γ b L xs) (hL : 5 * t + 4 < L) (hL2 : L ≤ 2560) (h : LwI M x m o od S t) (hk : k + 300 ≤ mc) (hn : n + 12000 ≤ ms) (hE : ∀ (M9 : Mm) (S9 : St), LwI M9 x m o od S9 (t + 1) → JE G γ ET M9 2816 (lsL b x m o od t) [] (k + 300) (n + 12000)) : JE G γ ET M 336 (lsL b x m o od t) [] k n := by
  obtain ⟨hM, hm, hI, hO⟩ := h
  have hlt : t < 512 := by omega
  have hI9 : Iv (oDay S).2.2 (t + 1) := by rw [vs_oDay]; exact hI.mono hlt
  unfold lsL
  refine Z_aload_n hC dL_law_336 rfl rfl ?_
  refine Z_callV (k1 := k + 8) (n1 := n + 48) (kd := 5) [] [rv x] hC lv_L_168 (ct_X4_day hst hM hI.1) hM.tx (by decide) ⟨_, mE_5 hM.tx⟩ rfl rfl rfl (by simp only [List.map_cons, List.map_nil, rv_cat, List.sum_cons, List.sum_nil]; (try simp only [Value.category]); (try omega)) (by decide) rfl rfl (by omega) (by omega) dL_law_337 (fun E M9 h => by obtain ⟨z, hz, -⟩ := h; simp at hz) (fun v9 M1 hq1 => ?_)
  obtain ⟨-, q1, c1, f1⟩ := hq1
  rw [q1]
  have m1 := hm.frX (f1.mono pC_pX)
  have o1 := hO.fr f1 (by decide) (by decide)
  refine Z_aload_n hC dL_law_340 rfl rfl ?_
  refine Z_callV (k1 := k + 8) (n1 := n + 48) (kd := 6) [] [rv m, .int (sD S)] hC lv_L_171 (ct_X5_day hst m1 hI.1 hlt) (congrArg Prod.fst m1.1.t0) (by decide) ⟨_, mE_6 (congrArg Prod.fst m1.1.t0)⟩ rfl rfl rfl (by simp only [List.map_cons, List.map_nil, rv_cat, List.sum_cons, List.sum_nil]; (try simp only [Value.category]); (try omega)) (by decide) rfl rfl (by omega) (by omega) dL_law_341 (fun E M9 h => h) (fun v9 M2 hq2 => ?_)
  obtain ⟨w2, mA, g2, kA⟩ := hq2
  have cA := (c1.pM g2).1
  have oA := o1.fr g2 (by decide) (by decide)
  rw [w2]
  refine Z_icmp_eq hC dL_law_344 (tgt := 2816) (by decide) (fun c => ?_) (fun c => ?_)
  · refine Z_sub hC (ls1 := lsL b x m o od t) ⟨rfl, rfl, rfl, rfl, rfl, rfl, trivial⟩ ?_
    refine Z_wide hC (k1 := k + 300) (n1 := n + 12000) (by omega) (by omega) ?_
    exact hE _ _ ⟨cA, mA, hI9, oA⟩
  · exact absurd rfl c
theorem cs_register {G : Gt} {γ : Γt} {mc ms d : Nat} {lh : Launch} {M : Mm} {x m o od b L t k n : Nat} {xs : Nat → Int32} {S : St} (hst : lh.stackTraces = false) (hC : Zok G γ RL cL_law (some .boolean) 20 mc ms lawQ lh 9) (hs : Sok G γ b L xs) (hL : 5 * t + 4 < L) (hL2 : L ≤ 2560) (h : LwI M x m o od S t) (hk : k + 300 ≤ mc) (hn : n + 12000 ≤ ms) (hE : ∀ (M9 : Mm) (S9 : St), LwI M9 x m o od S9 (t + 1) → JE G γ ET M9 2816 (lsL b x m o od t) [] (k + 300) (n + 12000)) : JE G γ ET M 349 (lsL b x m o od t) [] k n := by
  obtain ⟨hM, hm, hI, hO⟩ := h
  have hlt : t < 512 := by omega
  have v1 := vp_s (j := 1) (b := 1) hL (by decide) rfl hL2
  obtain ⟨a1, e1⟩ : ∃ z, xs (nI (5 * t) + 1).toNatClampNeg = z := ⟨_, rfl⟩
  have v2 := vp_s (j := 2) (b := 2) hL (by decide) rfl hL2
  obtain ⟨a2, e2⟩ : ∃ z, xs (nI (5 * t) + 2).toNatClampNeg = z := ⟨_, rfl⟩
  obtain ⟨c2, f2⟩ : ∃ z, (a2.toUInt32 % 65536).toInt32 = z := ⟨_, rfl⟩
  have hc2 := i2c_rng f2
  have hI9 := iv_register hI hlt a1 c2
  unfold lsL
  refine Z_aload_n hC dL_law_349 rfl rfl ?_
  refine Z_aloadR_n hC dL_law_350 rfl rfl ?_
  refine Z_iload hC dL_law_351 rfl ?_
  refine Z_iconst hC dL_law_353 (v := 1) (by decide) ?_
  refine Z_iadd hC dL_law_354 ?_
  refine Z_sld hC hs v1 e1 dL_law_355 ?_
  refine Z_aloadR_n hC dL_law_356 rfl rfl ?_
  refine Z_iload hC dL_law_357 rfl ?_
  refine Z_iconst hC dL_law_359 (v := 2) (by decide) ?_
  refine Z_iadd hC dL_law_360 ?_
  refine Z_sld hC hs v2 e2 dL_law_361 ?_
  refine Z_i2c hC dL_law_362 (v := c2) f2 ?_
  refine Z_aload_n hC dL_law_363 rfl rfl ?_
  refine Z_callH (k1 := k + 40) (n1 := n + 9000) [rv x, .int a1, .int c2, rv o] [rv o, .int c2, .int a1, rv x] hC lh_L_172 (hl_register hst hM hI.1 hO hlt a1 c2) rfl rfl (by simp only [List.map_cons, List.map_nil, rv_cat, List.sum_cons, List.sum_nil]; (try simp only [Value.category]); (try omega)) (by decide) rfl rfl (by omega) (by omega) dL_law_364 (fun v9 M1 hq1 => ?_)
  obtain ⟨q1, c1, f1, o1, p1⟩ := hq1
  rw [q1]
  have m1 := hm.frX f1
  refine Z_istore hC dL_law_367 (by decide) (ls1 := [some (.ref b), some (rv x), some (rv m), some (rv o), some (rv od), some (.int (nI (5 * t))), some (.int (nI (oRegister S a1 c2).1))]) rfl ?_
  refine Z_aload_n hC dL_law_369 rfl rfl ?_
  refine Z_aloadR_n hC dL_law_370 rfl rfl ?_
  refine Z_iload hC dL_law_371 rfl ?_
  refine Z_iconst hC dL_law_373 (v := 1) (by decide) ?_
  refine Z_iadd hC dL_law_374 ?_
  refine Z_sld hC hs v1 e1 dL_law_375 ?_
  refine Z_aloadR_n hC dL_law_376 rfl rfl ?_
  refine Z_iload hC dL_law_377 rfl ?_
  refine Z_iconst hC dL_law_379 (v := 2) (by decide) ?_
  refine Z_iadd hC dL_law_380 ?_
  refine Z_sld hC hs v2 e2 dL_law_381 ?_
  refine Z_i2c hC dL_law_382 (v := c2) f2 ?_
  refine Z_callV (k1 := k + 40) (n1 := n + 9000) (kd := 6) [.int a1, .int c2] [.int c2, .int a1, rv m] hC lv_L_175 (ct_X5_register hst m1 hI.1 hlt a1 c2) (congrArg Prod.fst m1.1.t0) (by decide) ⟨_, mE_6 (congrArg Prod.fst m1.1.t0)⟩ rfl rfl rfl (by simp only [List.map_cons, List.map_nil, rv_cat, List.sum_cons, List.sum_nil]; (try simp only [Value.category]); (try omega)) (by decide) rfl rfl (by omega) (by omega) dL_law_383 (fun E M9 h => h) (fun v9 M2 hq2 => ?_)
  obtain ⟨w2, mA, g2, kA⟩ := hq2
  have cA := (c1.pM g2).1
  have oA := o1.fr g2 (by decide) (by decide)
  obtain ⟨i, hi⟩ := vi_oRegister S a1 c2
  rw [w2, hi]
  have eO := g2.at o1.1 (by decide) (by decide)
  refine Z_istore hC dL_law_386 (by decide) (ls1 := [some (.ref b), some (rv x), some (rv m), some (rv o), some (rv od), some (.int (nI (5 * t))), some (.int (nI (oRegister S a1 c2).1)), some (.int i)]) rfl ?_
  refine Z_aload_n hC dL_law_388 rfl rfl ?_
  refine Z_callV (k1 := k + 40) (n1 := n + 9000) (kd := 6) [] [rv m] hC lv_L_161 (ct_X5_thrown hst mA.1) (congrArg Prod.fst mA.1.t0) (by decide) ⟨_, mE_6 (congrArg Prod.fst mA.1.t0)⟩ rfl rfl rfl (by simp only [List.map_cons, List.map_nil, rv_cat, List.sum_cons, List.sum_nil]; (try simp only [Value.category]); (try omega)) (by decide) rfl rfl (by omega) (by omega) dL_law_389 (fun E M9 h => h) (fun v9 M9 hq9 => ?_)
  obtain ⟨rfl, e9⟩ := hq9
  rw [e9, kA]; clear e9
  refine Z_iload hC dL_law_392 rfl ?_
  refine Z_icmp_eq hC dL_law_394 (tgt := 399) (by decide) (fun c => ?_) (fun c => ?_)
  · refine Z_iload hC dL_law_399 rfl ?_
    refine Z_if_ne hC dL_law_401 (tgt := 416) (by decide) (fun c => ?_) (fun c => ?_)
    · refine Z_goto hC dL_law_416 (tgt := 2816) (by decide) ?_
      refine Z_sub hC (ls1 := lsL b x m o od t) ⟨rfl, rfl, rfl, rfl, rfl, rfl, trivial⟩ ?_
      refine Z_wide hC (k1 := k + 300) (n1 := n + 12000) (by omega) (by omega) ?_
      exact hE _ _ ⟨cA, mA, hI9, oA⟩
    · have h0 := nI_0of (vk_oRegister S a1 c2) (Classical.not_not.mp c)
      obtain ⟨i2, hi2, p2⟩ := p1 h0
      have ei : i2 = i := Value.int.inj (hi2.symm.trans hi)
      have pA : mJ M2 o 0 = Int32.toInt64 i := by rw [eO.2.2.2.2.1, p2, ei]
      refine Z_aload_n hC dL_law_404 rfl rfl ?_
      refine Z_iconst hC dL_law_405 (v := 0) (by decide) ?_
      refine Z_lald hC (congrArg Prod.fst oA.1) (j := 0) (by decide) (by rw [oA.2.1]; decide) dL_law_406 ?_
      rw [pA]
      refine Z_iload hC dL_law_407 rfl ?_
      refine Z_i2l hC dL_law_409 ?_
      refine Z_lcmp hC dL_law_410 ?_
      rw [lcmp_self]
      refine Z_if_eq hC dL_law_411 (tgt := 416) (by decide) (fun c => ?_) (fun c => ?_)
      · refine Z_goto hC dL_law_416 (tgt := 2816) (by decide) ?_
        refine Z_sub hC (ls1 := lsL b x m o od t) ⟨rfl, rfl, rfl, rfl, rfl, rfl, trivial⟩ ?_
        refine Z_wide hC (k1 := k + 300) (n1 := n + 12000) (by omega) (by omega) ?_
        exact hE _ _ ⟨cA, mA, hI9, oA⟩
      · exact absurd rfl c
  · exact absurd rfl c
theorem cs_bringIn {G : Gt} {γ : Γt} {mc ms d : Nat} {lh : Launch} {M : Mm} {x m o od b L t k n : Nat} {xs : Nat → Int32} {S : St} (hst : lh.stackTraces = false) (hC : Zok G γ RL cL_law (some .boolean) 20 mc ms lawQ lh 9) (hs : Sok G γ b L xs) (hL : 5 * t + 4 < L) (hL2 : L ≤ 2560) (h : LwI M x m o od S t) (hk : k + 300 ≤ mc) (hn : n + 12000 ≤ ms) (hE : ∀ (M9 : Mm) (S9 : St), LwI M9 x m o od S9 (t + 1) → JE G γ ET M9 2816 (lsL b x m o od t) [] (k + 300) (n + 12000)) : JE G γ ET M 419 (lsL b x m o od t) [] k n := by
  obtain ⟨hM, hm, hI, hO⟩ := h
  have hlt : t < 512 := by omega
  have v1 := vp_s (j := 1) (b := 1) hL (by decide) rfl hL2
  obtain ⟨a1, e1⟩ : ∃ z, xs (nI (5 * t) + 1).toNatClampNeg = z := ⟨_, rfl⟩
  have v2 := vp_s (j := 2) (b := 2) hL (by decide) rfl hL2
  obtain ⟨a2, e2⟩ : ∃ z, xs (nI (5 * t) + 2).toNatClampNeg = z := ⟨_, rfl⟩
  obtain ⟨c2, f2⟩ : ∃ z, (a2.toUInt32 % 65536).toInt32 = z := ⟨_, rfl⟩
  have hc2 := i2c_rng f2
  have hI9 := iv_bringIn hI hlt a1 c2
  unfold lsL
  refine Z_aload_n hC dL_law_419 rfl rfl ?_
  refine Z_aloadR_n hC dL_law_420 rfl rfl ?_
  refine Z_iload hC dL_law_421 rfl ?_
  refine Z_iconst hC dL_law_423 (v := 1) (by decide) ?_
  refine Z_iadd hC dL_law_424 ?_
  refine Z_sld hC hs v1 e1 dL_law_425 ?_
  refine Z_aloadR_n hC dL_law_426 rfl rfl ?_
  refine Z_iload hC dL_law_427 rfl ?_
  refine Z_iconst hC dL_law_429 (v := 2) (by decide) ?_
  refine Z_iadd hC dL_law_430 ?_
  refine Z_sld hC hs v2 e2 dL_law_431 ?_
  refine Z_i2c hC dL_law_432 (v := c2) f2 ?_
  refine Z_aload_n hC dL_law_433 rfl rfl ?_
  refine Z_callH (k1 := k + 40) (n1 := n + 9000) [rv x, .int a1, .int c2, rv o] [rv o, .int c2, .int a1, rv x] hC lh_L_176 (hl_bringIn hst hM hI.1 hO hlt a1 c2) rfl rfl (by simp only [List.map_cons, List.map_nil, rv_cat, List.sum_cons, List.sum_nil]; (try simp only [Value.category]); (try omega)) (by decide) rfl rfl (by omega) (by omega) dL_law_434 (fun v9 M1 hq1 => ?_)
  obtain ⟨q1, c1, f1, o1, p1⟩ := hq1
  rw [q1]
  have m1 := hm.frX f1
  refine Z_istore hC dL_law_437 (by decide) (ls1 := [some (.ref b), some (rv x), some (rv m), some (rv o), some (rv od), some (.int (nI (5 * t))), some (.int (nI (oBringIn S a1 c2).1))]) rfl ?_
  refine Z_aload_n hC dL_law_439 rfl rfl ?_
  refine Z_aloadR_n hC dL_law_440 rfl rfl ?_
  refine Z_iload hC dL_law_441 rfl ?_
  refine Z_iconst hC dL_law_443 (v := 1) (by decide) ?_
  refine Z_iadd hC dL_law_444 ?_
  refine Z_sld hC hs v1 e1 dL_law_445 ?_
  refine Z_aloadR_n hC dL_law_446 rfl rfl ?_
  refine Z_iload hC dL_law_447 rfl ?_
  refine Z_iconst hC dL_law_449 (v := 2) (by decide) ?_
  refine Z_iadd hC dL_law_450 ?_
  refine Z_sld hC hs v2 e2 dL_law_451 ?_
  refine Z_i2c hC dL_law_452 (v := c2) f2 ?_
  refine Z_callV (k1 := k + 40) (n1 := n + 9000) (kd := 6) [.int a1, .int c2] [.int c2, .int a1, rv m] hC lv_L_178 (ct_X5_bringIn hst m1 hI.1 hlt a1 c2) (congrArg Prod.fst m1.1.t0) (by decide) ⟨_, mE_6 (congrArg Prod.fst m1.1.t0)⟩ rfl rfl rfl (by simp only [List.map_cons, List.map_nil, rv_cat, List.sum_cons, List.sum_nil]; (try simp only [Value.category]); (try omega)) (by decide) rfl rfl (by omega) (by omega) dL_law_453 (fun E M9 h => h) (fun v9 M2 hq2 => ?_)
  obtain ⟨w2, mA, g2, kA⟩ := hq2
  have cA := (c1.pM g2).1
  have oA := o1.fr g2 (by decide) (by decide)
  obtain ⟨i, hi⟩ := vi_oBringIn S a1 c2
  rw [w2, hi]
  have eO := g2.at o1.1 (by decide) (by decide)
  refine Z_istore hC dL_law_456 (by decide) (ls1 := [some (.ref b), some (rv x), some (rv m), some (rv o), some (rv od), some (.int (nI (5 * t))), some (.int (nI (oBringIn S a1 c2).1)), some (.int i)]) rfl ?_
  refine Z_aload_n hC dL_law_458 rfl rfl ?_
  refine Z_callV (k1 := k + 40) (n1 := n + 9000) (kd := 6) [] [rv m] hC lv_L_161 (ct_X5_thrown hst mA.1) (congrArg Prod.fst mA.1.t0) (by decide) ⟨_, mE_6 (congrArg Prod.fst mA.1.t0)⟩ rfl rfl rfl (by simp only [List.map_cons, List.map_nil, rv_cat, List.sum_cons, List.sum_nil]; (try simp only [Value.category]); (try omega)) (by decide) rfl rfl (by omega) (by omega) dL_law_459 (fun E M9 h => h) (fun v9 M9 hq9 => ?_)
  obtain ⟨rfl, e9⟩ := hq9
  rw [e9, kA]; clear e9
  refine Z_iload hC dL_law_462 rfl ?_
  refine Z_icmp_eq hC dL_law_464 (tgt := 469) (by decide) (fun c => ?_) (fun c => ?_)
  · refine Z_iload hC dL_law_469 rfl ?_
    refine Z_if_ne hC dL_law_471 (tgt := 486) (by decide) (fun c => ?_) (fun c => ?_)
    · refine Z_goto hC dL_law_486 (tgt := 2816) (by decide) ?_
      refine Z_sub hC (ls1 := lsL b x m o od t) ⟨rfl, rfl, rfl, rfl, rfl, rfl, trivial⟩ ?_
      refine Z_wide hC (k1 := k + 300) (n1 := n + 12000) (by omega) (by omega) ?_
      exact hE _ _ ⟨cA, mA, hI9, oA⟩
    · have h0 := nI_0of (vk_oBringIn S a1 c2) (Classical.not_not.mp c)
      obtain ⟨i2, hi2, p2⟩ := p1 h0
      have ei : i2 = i := Value.int.inj (hi2.symm.trans hi)
      have pA : mJ M2 o 0 = Int32.toInt64 i := by rw [eO.2.2.2.2.1, p2, ei]
      refine Z_aload_n hC dL_law_474 rfl rfl ?_
      refine Z_iconst hC dL_law_475 (v := 0) (by decide) ?_
      refine Z_lald hC (congrArg Prod.fst oA.1) (j := 0) (by decide) (by rw [oA.2.1]; decide) dL_law_476 ?_
      rw [pA]
      refine Z_iload hC dL_law_477 rfl ?_
      refine Z_i2l hC dL_law_479 ?_
      refine Z_lcmp hC dL_law_480 ?_
      rw [lcmp_self]
      refine Z_if_eq hC dL_law_481 (tgt := 486) (by decide) (fun c => ?_) (fun c => ?_)
      · refine Z_goto hC dL_law_486 (tgt := 2816) (by decide) ?_
        refine Z_sub hC (ls1 := lsL b x m o od t) ⟨rfl, rfl, rfl, rfl, rfl, rfl, trivial⟩ ?_
        refine Z_wide hC (k1 := k + 300) (n1 := n + 12000) (by omega) (by omega) ?_
        exact hE _ _ ⟨cA, mA, hI9, oA⟩
      · exact absurd rfl c
  · exact absurd rfl c
theorem cs_admit {G : Gt} {γ : Γt} {mc ms d : Nat} {lh : Launch} {M : Mm} {x m o od b L t k n : Nat} {xs : Nat → Int32} {S : St} (hst : lh.stackTraces = false) (hC : Zok G γ RL cL_law (some .boolean) 20 mc ms lawQ lh 9) (hs : Sok G γ b L xs) (hL : 5 * t + 4 < L) (hL2 : L ≤ 2560) (h : LwI M x m o od S t) (hk : k + 300 ≤ mc) (hn : n + 12000 ≤ ms) (hE : ∀ (M9 : Mm) (S9 : St), LwI M9 x m o od S9 (t + 1) → JE G γ ET M9 2816 (lsL b x m o od t) [] (k + 300) (n + 12000)) : JE G γ ET M 489 (lsL b x m o od t) [] k n := by
  obtain ⟨hM, hm, hI, hO⟩ := h
  have hlt : t < 512 := by omega
  have v1 := vp_s (j := 1) (b := 1) hL (by decide) rfl hL2
  obtain ⟨a1, e1⟩ : ∃ z, xs (nI (5 * t) + 1).toNatClampNeg = z := ⟨_, rfl⟩
  have hI9 := iv_admit hI hlt a1
  unfold lsL
  refine Z_aload_n hC dL_law_489 rfl rfl ?_
  refine Z_aloadR_n hC dL_law_490 rfl rfl ?_
  refine Z_iload hC dL_law_491 rfl ?_
  refine Z_iconst hC dL_law_493 (v := 1) (by decide) ?_
  refine Z_iadd hC dL_law_494 ?_
  refine Z_sld hC hs v1 e1 dL_law_495 ?_
  refine Z_aload_n hC dL_law_496 rfl rfl ?_
  refine Z_callH (k1 := k + 40) (n1 := n + 9000) [rv x, .int a1, rv o] [rv o, .int a1, rv x] hC lh_L_179 (hl_admit hst hM hI.1 hO hlt a1) rfl rfl (by simp only [List.map_cons, List.map_nil, rv_cat, List.sum_cons, List.sum_nil]; (try simp only [Value.category]); (try omega)) (by decide) rfl rfl (by omega) (by omega) dL_law_497 (fun v9 M1 hq1 => ?_)
  obtain ⟨q1, c1, f1, o1, p1⟩ := hq1
  rw [q1]
  have m1 := hm.frX f1
  refine Z_istore hC dL_law_500 (by decide) (ls1 := [some (.ref b), some (rv x), some (rv m), some (rv o), some (rv od), some (.int (nI (5 * t))), some (.int (nI (oAdmit S a1).1))]) rfl ?_
  refine Z_aload_n hC dL_law_502 rfl rfl ?_
  refine Z_aloadR_n hC dL_law_503 rfl rfl ?_
  refine Z_iload hC dL_law_504 rfl ?_
  refine Z_iconst hC dL_law_506 (v := 1) (by decide) ?_
  refine Z_iadd hC dL_law_507 ?_
  refine Z_sld hC hs v1 e1 dL_law_508 ?_
  refine Z_callV (k1 := k + 40) (n1 := n + 9000) (kd := 6) [.int a1] [.int a1, rv m] hC lv_L_181 (ct_X5_admit hst m1 hI.1 hlt a1) (congrArg Prod.fst m1.1.t0) (by decide) ⟨_, mE_6 (congrArg Prod.fst m1.1.t0)⟩ rfl rfl rfl (by simp only [List.map_cons, List.map_nil, rv_cat, List.sum_cons, List.sum_nil]; (try simp only [Value.category]); (try omega)) (by decide) rfl rfl (by omega) (by omega) dL_law_509 (fun E M9 h => h) (fun v9 M2 hq2 => ?_)
  obtain ⟨w2, mA, g2, kA⟩ := hq2
  have cA := (c1.pM g2).1
  have oA := o1.fr g2 (by decide) (by decide)
  obtain ⟨i, hi⟩ := vi_oAdmit S a1
  rw [w2, hi]
  have eO := g2.at o1.1 (by decide) (by decide)
  refine Z_istore hC dL_law_512 (by decide) (ls1 := [some (.ref b), some (rv x), some (rv m), some (rv o), some (rv od), some (.int (nI (5 * t))), some (.int (nI (oAdmit S a1).1)), some (.int i)]) rfl ?_
  refine Z_aload_n hC dL_law_514 rfl rfl ?_
  refine Z_callV (k1 := k + 40) (n1 := n + 9000) (kd := 6) [] [rv m] hC lv_L_161 (ct_X5_thrown hst mA.1) (congrArg Prod.fst mA.1.t0) (by decide) ⟨_, mE_6 (congrArg Prod.fst mA.1.t0)⟩ rfl rfl rfl (by simp only [List.map_cons, List.map_nil, rv_cat, List.sum_cons, List.sum_nil]; (try simp only [Value.category]); (try omega)) (by decide) rfl rfl (by omega) (by omega) dL_law_515 (fun E M9 h => h) (fun v9 M9 hq9 => ?_)
  obtain ⟨rfl, e9⟩ := hq9
  rw [e9, kA]; clear e9
  refine Z_iload hC dL_law_518 rfl ?_
  refine Z_icmp_eq hC dL_law_520 (tgt := 525) (by decide) (fun c => ?_) (fun c => ?_)
  · refine Z_iload hC dL_law_525 rfl ?_
    refine Z_if_ne hC dL_law_527 (tgt := 542) (by decide) (fun c => ?_) (fun c => ?_)
    · refine Z_goto hC dL_law_542 (tgt := 2816) (by decide) ?_
      refine Z_sub hC (ls1 := lsL b x m o od t) ⟨rfl, rfl, rfl, rfl, rfl, rfl, trivial⟩ ?_
      refine Z_wide hC (k1 := k + 300) (n1 := n + 12000) (by omega) (by omega) ?_
      exact hE _ _ ⟨cA, mA, hI9, oA⟩
    · have h0 := nI_0of (vk_oAdmit S a1) (Classical.not_not.mp c)
      obtain ⟨i2, hi2, p2⟩ := p1 h0
      have ei : i2 = i := Value.int.inj (hi2.symm.trans hi)
      have pA : mJ M2 o 0 = Int32.toInt64 i := by rw [eO.2.2.2.2.1, p2, ei]
      refine Z_aload_n hC dL_law_530 rfl rfl ?_
      refine Z_iconst hC dL_law_531 (v := 0) (by decide) ?_
      refine Z_lald hC (congrArg Prod.fst oA.1) (j := 0) (by decide) (by rw [oA.2.1]; decide) dL_law_532 ?_
      rw [pA]
      refine Z_iload hC dL_law_533 rfl ?_
      refine Z_i2l hC dL_law_535 ?_
      refine Z_lcmp hC dL_law_536 ?_
      rw [lcmp_self]
      refine Z_if_eq hC dL_law_537 (tgt := 542) (by decide) (fun c => ?_) (fun c => ?_)
      · refine Z_goto hC dL_law_542 (tgt := 2816) (by decide) ?_
        refine Z_sub hC (ls1 := lsL b x m o od t) ⟨rfl, rfl, rfl, rfl, rfl, rfl, trivial⟩ ?_
        refine Z_wide hC (k1 := k + 300) (n1 := n + 12000) (by omega) (by omega) ?_
        exact hE _ _ ⟨cA, mA, hI9, oA⟩
      · exact absurd rfl c
  · exact absurd rfl c
theorem cs_setOnRoad {G : Gt} {γ : Γt} {mc ms d : Nat} {lh : Launch} {M : Mm} {x m o od b L t k n : Nat} {xs : Nat → Int32} {S : St} (hst : lh.stackTraces = false) (hC : Zok G γ RL cL_law (some .boolean) 20 mc ms lawQ lh 9) (hs : Sok G γ b L xs) (hL : 5 * t + 4 < L) (hL2 : L ≤ 2560) (h : LwI M x m o od S t) (hk : k + 300 ≤ mc) (hn : n + 12000 ≤ ms) (hE : ∀ (M9 : Mm) (S9 : St), LwI M9 x m o od S9 (t + 1) → JE G γ ET M9 2816 (lsL b x m o od t) [] (k + 300) (n + 12000)) : JE G γ ET M 545 (lsL b x m o od t) [] k n := by
  obtain ⟨hM, hm, hI, hO⟩ := h
  have hlt : t < 512 := by omega
  have v1 := vp_s (j := 1) (b := 1) hL (by decide) rfl hL2
  obtain ⟨a1, e1⟩ : ∃ z, xs (nI (5 * t) + 1).toNatClampNeg = z := ⟨_, rfl⟩
  have v2 := vp_s (j := 2) (b := 2) hL (by decide) rfl hL2
  obtain ⟨a2, e2⟩ : ∃ z, xs (nI (5 * t) + 2).toNatClampNeg = z := ⟨_, rfl⟩
  obtain ⟨bo, hbo, hb0, hb1⟩ : ∃ bo : Int32, (bo = 0 ∨ bo = 1) ∧ (a2 = 0 → 0 = bo) ∧ (¬ a2 = 0 → 1 = bo) := by
    by_cases hz : a2 = 0
    · exact ⟨0, Or.inl rfl, fun _ => rfl, fun q => absurd hz q⟩
    · exact ⟨1, Or.inr rfl, fun q => absurd q hz, fun _ => rfl⟩
  have hI9 := iv_setOnRoad hI hlt a1 bo hbo
  unfold lsL
  refine Z_aload_n hC dL_law_545 rfl rfl ?_
  refine Z_aloadR_n hC dL_law_546 rfl rfl ?_
  refine Z_iload hC dL_law_547 rfl ?_
  refine Z_iconst hC dL_law_549 (v := 1) (by decide) ?_
  refine Z_iadd hC dL_law_550 ?_
  refine Z_sld hC hs v1 e1 dL_law_551 ?_
  refine Z_aloadR_n hC dL_law_552 rfl rfl ?_
  refine Z_iload hC dL_law_553 rfl ?_
  refine Z_iconst hC dL_law_555 (v := 2) (by decide) ?_
  refine Z_iadd hC dL_law_556 ?_
  refine Z_sld hC hs v2 e2 dL_law_557 ?_
  refine Z_if_eq hC dL_law_558 (tgt := 565) (by decide) (fun c => ?_) (fun c => ?_)
  · refine Z_iconst hC dL_law_565 (v := 0) (by decide) ?_
    rw [hb0 c]
    refine Z_aload_n hC dL_law_566 rfl rfl ?_
    refine Z_callH (k1 := k + 40) (n1 := n + 9000) [rv x, .int a1, .int bo, rv o] [rv o, .int bo, .int a1, rv x] hC lh_L_182 (hl_setOnRoad hst hM hI.1 hO hlt a1 bo hbo) rfl rfl (by simp only [List.map_cons, List.map_nil, rv_cat, List.sum_cons, List.sum_nil]; (try simp only [Value.category]); (try omega)) (by decide) rfl rfl (by omega) (by omega) dL_law_567 (fun v9 M1 hq1 => ?_)
    obtain ⟨q1, c1, f1, o1, p1⟩ := hq1
    rw [q1]
    have m1 := hm.frX f1
    refine Z_istore hC dL_law_570 (by decide) (ls1 := [some (.ref b), some (rv x), some (rv m), some (rv o), some (rv od), some (.int (nI (5 * t))), some (.int (nI (oSetOnRoad S a1 bo).1))]) rfl ?_
    refine Z_aload_n hC dL_law_572 rfl rfl ?_
    refine Z_aloadR_n hC dL_law_573 rfl rfl ?_
    refine Z_iload hC dL_law_574 rfl ?_
    refine Z_iconst hC dL_law_576 (v := 1) (by decide) ?_
    refine Z_iadd hC dL_law_577 ?_
    refine Z_sld hC hs v1 e1 dL_law_578 ?_
    refine Z_aloadR_n hC dL_law_579 rfl rfl ?_
    refine Z_iload hC dL_law_580 rfl ?_
    refine Z_iconst hC dL_law_582 (v := 2) (by decide) ?_
    refine Z_iadd hC dL_law_583 ?_
    refine Z_sld hC hs v2 e2 dL_law_584 ?_
    refine Z_if_eq hC dL_law_585 (tgt := 592) (by decide) (fun c => ?_) (fun c => ?_)
    · refine Z_iconst hC dL_law_592 (v := 0) (by decide) ?_
      rw [hb0 c]
      refine Z_callV (k1 := k + 40) (n1 := n + 9000) (kd := 6) [.int a1, .int bo] [.int bo, .int a1, rv m] hC lv_L_185 (ct_X5_setOnRoad hst m1 hI.1 hlt a1 bo hbo) (congrArg Prod.fst m1.1.t0) (by decide) ⟨_, mE_6 (congrArg Prod.fst m1.1.t0)⟩ rfl rfl rfl (by simp only [List.map_cons, List.map_nil, rv_cat, List.sum_cons, List.sum_nil]; (try simp only [Value.category]); (try omega)) (by decide) rfl rfl (by omega) (by omega) dL_law_593 (fun E M9 h => h) (fun v9 M2 hq2 => ?_)
      obtain ⟨w2, mA, g2, kA⟩ := hq2
      have cA := (c1.pM g2).1
      have oA := o1.fr g2 (by decide) (by decide)
      obtain ⟨i, hi⟩ := vi_oSetOnRoad S a1 bo
      rw [w2, hi]
      have eO := g2.at o1.1 (by decide) (by decide)
      refine Z_istore hC dL_law_596 (by decide) (ls1 := [some (.ref b), some (rv x), some (rv m), some (rv o), some (rv od), some (.int (nI (5 * t))), some (.int (nI (oSetOnRoad S a1 bo).1)), some (.int i)]) rfl ?_
      refine Z_aload_n hC dL_law_598 rfl rfl ?_
      refine Z_callV (k1 := k + 40) (n1 := n + 9000) (kd := 6) [] [rv m] hC lv_L_161 (ct_X5_thrown hst mA.1) (congrArg Prod.fst mA.1.t0) (by decide) ⟨_, mE_6 (congrArg Prod.fst mA.1.t0)⟩ rfl rfl rfl (by simp only [List.map_cons, List.map_nil, rv_cat, List.sum_cons, List.sum_nil]; (try simp only [Value.category]); (try omega)) (by decide) rfl rfl (by omega) (by omega) dL_law_599 (fun E M9 h => h) (fun v9 M9 hq9 => ?_)
      obtain ⟨rfl, e9⟩ := hq9
      rw [e9, kA]; clear e9
      refine Z_iload hC dL_law_602 rfl ?_
      refine Z_icmp_eq hC dL_law_604 (tgt := 609) (by decide) (fun c => ?_) (fun c => ?_)
      · refine Z_iload hC dL_law_609 rfl ?_
        refine Z_if_ne hC dL_law_611 (tgt := 633) (by decide) (fun c => ?_) (fun c => ?_)
        · refine Z_goto hC dL_law_633 (tgt := 2816) (by decide) ?_
          refine Z_sub hC (ls1 := lsL b x m o od t) ⟨rfl, rfl, rfl, rfl, rfl, rfl, trivial⟩ ?_
          refine Z_wide hC (k1 := k + 300) (n1 := n + 12000) (by omega) (by omega) ?_
          exact hE _ _ ⟨cA, mA, hI9, oA⟩
        · have h0 := nI_0of (vk_oSetOnRoad S a1 bo) (Classical.not_not.mp c)
          obtain ⟨i2, hi2, p2⟩ := p1 h0
          have ei : i2 = i := Value.int.inj (hi2.symm.trans hi)
          have pA : mJ M2 o 0 = zl i := by rw [eO.2.2.2.2.1, p2, ei]
          refine Z_aload_n hC dL_law_614 rfl rfl ?_
          refine Z_iconst hC dL_law_615 (v := 0) (by decide) ?_
          refine Z_lald hC (congrArg Prod.fst oA.1) (j := 0) (by decide) (by rw [oA.2.1]; decide) dL_law_616 ?_
          rw [pA]
          refine Z_iload hC dL_law_617 rfl ?_
          refine Z_if_eq hC dL_law_619 (tgt := 626) (by decide) (fun c => ?_) (fun c => ?_)
          · refine Z_lconst hC dL_law_626 (v := 0) (by decide) ?_
            rw [show zl i = 0 from if_pos c]
            refine Z_lcmp hC dL_law_627 ?_
            rw [lcmp_self]
            refine Z_if_eq hC dL_law_628 (tgt := 633) (by decide) (fun c => ?_) (fun c => ?_)
            · refine Z_goto hC dL_law_633 (tgt := 2816) (by decide) ?_
              refine Z_sub hC (ls1 := lsL b x m o od t) ⟨rfl, rfl, rfl, rfl, rfl, rfl, trivial⟩ ?_
              refine Z_wide hC (k1 := k + 300) (n1 := n + 12000) (by omega) (by omega) ?_
              exact hE _ _ ⟨cA, mA, hI9, oA⟩
            · exact absurd rfl c
          · refine Z_lconst hC dL_law_622 (v := 1) (by decide) ?_
            refine Z_goto hC dL_law_623 (tgt := 627) (by decide) ?_
            rw [show zl i = 1 from if_neg c]
            refine Z_lcmp hC dL_law_627 ?_
            rw [lcmp_self]
            refine Z_if_eq hC dL_law_628 (tgt := 633) (by decide) (fun c => ?_) (fun c => ?_)
            · refine Z_goto hC dL_law_633 (tgt := 2816) (by decide) ?_
              refine Z_sub hC (ls1 := lsL b x m o od t) ⟨rfl, rfl, rfl, rfl, rfl, rfl, trivial⟩ ?_
              refine Z_wide hC (k1 := k + 300) (n1 := n + 12000) (by omega) (by omega) ?_
              exact hE _ _ ⟨cA, mA, hI9, oA⟩
            · exact absurd rfl c
      · exact absurd rfl c
    · refine Z_iconst hC dL_law_588 (v := 1) (by decide) ?_
      rw [hb1 c]
      refine Z_goto hC dL_law_589 (tgt := 593) (by decide) ?_
      refine Z_callV (k1 := k + 40) (n1 := n + 9000) (kd := 6) [.int a1, .int bo] [.int bo, .int a1, rv m] hC lv_L_185 (ct_X5_setOnRoad hst m1 hI.1 hlt a1 bo hbo) (congrArg Prod.fst m1.1.t0) (by decide) ⟨_, mE_6 (congrArg Prod.fst m1.1.t0)⟩ rfl rfl rfl (by simp only [List.map_cons, List.map_nil, rv_cat, List.sum_cons, List.sum_nil]; (try simp only [Value.category]); (try omega)) (by decide) rfl rfl (by omega) (by omega) dL_law_593 (fun E M9 h => h) (fun v9 M2 hq2 => ?_)
      obtain ⟨w2, mA, g2, kA⟩ := hq2
      have cA := (c1.pM g2).1
      have oA := o1.fr g2 (by decide) (by decide)
      obtain ⟨i, hi⟩ := vi_oSetOnRoad S a1 bo
      rw [w2, hi]
      have eO := g2.at o1.1 (by decide) (by decide)
      refine Z_istore hC dL_law_596 (by decide) (ls1 := [some (.ref b), some (rv x), some (rv m), some (rv o), some (rv od), some (.int (nI (5 * t))), some (.int (nI (oSetOnRoad S a1 bo).1)), some (.int i)]) rfl ?_
      refine Z_aload_n hC dL_law_598 rfl rfl ?_
      refine Z_callV (k1 := k + 40) (n1 := n + 9000) (kd := 6) [] [rv m] hC lv_L_161 (ct_X5_thrown hst mA.1) (congrArg Prod.fst mA.1.t0) (by decide) ⟨_, mE_6 (congrArg Prod.fst mA.1.t0)⟩ rfl rfl rfl (by simp only [List.map_cons, List.map_nil, rv_cat, List.sum_cons, List.sum_nil]; (try simp only [Value.category]); (try omega)) (by decide) rfl rfl (by omega) (by omega) dL_law_599 (fun E M9 h => h) (fun v9 M9 hq9 => ?_)
      obtain ⟨rfl, e9⟩ := hq9
      rw [e9, kA]; clear e9
      refine Z_iload hC dL_law_602 rfl ?_
      refine Z_icmp_eq hC dL_law_604 (tgt := 609) (by decide) (fun c => ?_) (fun c => ?_)
      · refine Z_iload hC dL_law_609 rfl ?_
        refine Z_if_ne hC dL_law_611 (tgt := 633) (by decide) (fun c => ?_) (fun c => ?_)
        · refine Z_goto hC dL_law_633 (tgt := 2816) (by decide) ?_
          refine Z_sub hC (ls1 := lsL b x m o od t) ⟨rfl, rfl, rfl, rfl, rfl, rfl, trivial⟩ ?_
          refine Z_wide hC (k1 := k + 300) (n1 := n + 12000) (by omega) (by omega) ?_
          exact hE _ _ ⟨cA, mA, hI9, oA⟩
        · have h0 := nI_0of (vk_oSetOnRoad S a1 bo) (Classical.not_not.mp c)
          obtain ⟨i2, hi2, p2⟩ := p1 h0
          have ei : i2 = i := Value.int.inj (hi2.symm.trans hi)
          have pA : mJ M2 o 0 = zl i := by rw [eO.2.2.2.2.1, p2, ei]
          refine Z_aload_n hC dL_law_614 rfl rfl ?_
          refine Z_iconst hC dL_law_615 (v := 0) (by decide) ?_
          refine Z_lald hC (congrArg Prod.fst oA.1) (j := 0) (by decide) (by rw [oA.2.1]; decide) dL_law_616 ?_
          rw [pA]
          refine Z_iload hC dL_law_617 rfl ?_
          refine Z_if_eq hC dL_law_619 (tgt := 626) (by decide) (fun c => ?_) (fun c => ?_)
          · refine Z_lconst hC dL_law_626 (v := 0) (by decide) ?_
            rw [show zl i = 0 from if_pos c]
            refine Z_lcmp hC dL_law_627 ?_
            rw [lcmp_self]
            refine Z_if_eq hC dL_law_628 (tgt := 633) (by decide) (fun c => ?_) (fun c => ?_)
            · refine Z_goto hC dL_law_633 (tgt := 2816) (by decide) ?_
              refine Z_sub hC (ls1 := lsL b x m o od t) ⟨rfl, rfl, rfl, rfl, rfl, rfl, trivial⟩ ?_
              refine Z_wide hC (k1 := k + 300) (n1 := n + 12000) (by omega) (by omega) ?_
              exact hE _ _ ⟨cA, mA, hI9, oA⟩
            · exact absurd rfl c
          · refine Z_lconst hC dL_law_622 (v := 1) (by decide) ?_
            refine Z_goto hC dL_law_623 (tgt := 627) (by decide) ?_
            rw [show zl i = 1 from if_neg c]
            refine Z_lcmp hC dL_law_627 ?_
            rw [lcmp_self]
            refine Z_if_eq hC dL_law_628 (tgt := 633) (by decide) (fun c => ?_) (fun c => ?_)
            · refine Z_goto hC dL_law_633 (tgt := 2816) (by decide) ?_
              refine Z_sub hC (ls1 := lsL b x m o od t) ⟨rfl, rfl, rfl, rfl, rfl, rfl, trivial⟩ ?_
              refine Z_wide hC (k1 := k + 300) (n1 := n + 12000) (by omega) (by omega) ?_
              exact hE _ _ ⟨cA, mA, hI9, oA⟩
            · exact absurd rfl c
      · exact absurd rfl c
  · refine Z_iconst hC dL_law_561 (v := 1) (by decide) ?_
    rw [hb1 c]
    refine Z_goto hC dL_law_562 (tgt := 566) (by decide) ?_
    refine Z_aload_n hC dL_law_566 rfl rfl ?_
    refine Z_callH (k1 := k + 40) (n1 := n + 9000) [rv x, .int a1, .int bo, rv o] [rv o, .int bo, .int a1, rv x] hC lh_L_182 (hl_setOnRoad hst hM hI.1 hO hlt a1 bo hbo) rfl rfl (by simp only [List.map_cons, List.map_nil, rv_cat, List.sum_cons, List.sum_nil]; (try simp only [Value.category]); (try omega)) (by decide) rfl rfl (by omega) (by omega) dL_law_567 (fun v9 M1 hq1 => ?_)
    obtain ⟨q1, c1, f1, o1, p1⟩ := hq1
    rw [q1]
    have m1 := hm.frX f1
    refine Z_istore hC dL_law_570 (by decide) (ls1 := [some (.ref b), some (rv x), some (rv m), some (rv o), some (rv od), some (.int (nI (5 * t))), some (.int (nI (oSetOnRoad S a1 bo).1))]) rfl ?_
    refine Z_aload_n hC dL_law_572 rfl rfl ?_
    refine Z_aloadR_n hC dL_law_573 rfl rfl ?_
    refine Z_iload hC dL_law_574 rfl ?_
    refine Z_iconst hC dL_law_576 (v := 1) (by decide) ?_
    refine Z_iadd hC dL_law_577 ?_
    refine Z_sld hC hs v1 e1 dL_law_578 ?_
    refine Z_aloadR_n hC dL_law_579 rfl rfl ?_
    refine Z_iload hC dL_law_580 rfl ?_
    refine Z_iconst hC dL_law_582 (v := 2) (by decide) ?_
    refine Z_iadd hC dL_law_583 ?_
    refine Z_sld hC hs v2 e2 dL_law_584 ?_
    refine Z_if_eq hC dL_law_585 (tgt := 592) (by decide) (fun c => ?_) (fun c => ?_)
    · refine Z_iconst hC dL_law_592 (v := 0) (by decide) ?_
      rw [hb0 c]
      refine Z_callV (k1 := k + 40) (n1 := n + 9000) (kd := 6) [.int a1, .int bo] [.int bo, .int a1, rv m] hC lv_L_185 (ct_X5_setOnRoad hst m1 hI.1 hlt a1 bo hbo) (congrArg Prod.fst m1.1.t0) (by decide) ⟨_, mE_6 (congrArg Prod.fst m1.1.t0)⟩ rfl rfl rfl (by simp only [List.map_cons, List.map_nil, rv_cat, List.sum_cons, List.sum_nil]; (try simp only [Value.category]); (try omega)) (by decide) rfl rfl (by omega) (by omega) dL_law_593 (fun E M9 h => h) (fun v9 M2 hq2 => ?_)
      obtain ⟨w2, mA, g2, kA⟩ := hq2
      have cA := (c1.pM g2).1
      have oA := o1.fr g2 (by decide) (by decide)
      obtain ⟨i, hi⟩ := vi_oSetOnRoad S a1 bo
      rw [w2, hi]
      have eO := g2.at o1.1 (by decide) (by decide)
      refine Z_istore hC dL_law_596 (by decide) (ls1 := [some (.ref b), some (rv x), some (rv m), some (rv o), some (rv od), some (.int (nI (5 * t))), some (.int (nI (oSetOnRoad S a1 bo).1)), some (.int i)]) rfl ?_
      refine Z_aload_n hC dL_law_598 rfl rfl ?_
      refine Z_callV (k1 := k + 40) (n1 := n + 9000) (kd := 6) [] [rv m] hC lv_L_161 (ct_X5_thrown hst mA.1) (congrArg Prod.fst mA.1.t0) (by decide) ⟨_, mE_6 (congrArg Prod.fst mA.1.t0)⟩ rfl rfl rfl (by simp only [List.map_cons, List.map_nil, rv_cat, List.sum_cons, List.sum_nil]; (try simp only [Value.category]); (try omega)) (by decide) rfl rfl (by omega) (by omega) dL_law_599 (fun E M9 h => h) (fun v9 M9 hq9 => ?_)
      obtain ⟨rfl, e9⟩ := hq9
      rw [e9, kA]; clear e9
      refine Z_iload hC dL_law_602 rfl ?_
      refine Z_icmp_eq hC dL_law_604 (tgt := 609) (by decide) (fun c => ?_) (fun c => ?_)
      · refine Z_iload hC dL_law_609 rfl ?_
        refine Z_if_ne hC dL_law_611 (tgt := 633) (by decide) (fun c => ?_) (fun c => ?_)
        · refine Z_goto hC dL_law_633 (tgt := 2816) (by decide) ?_
          refine Z_sub hC (ls1 := lsL b x m o od t) ⟨rfl, rfl, rfl, rfl, rfl, rfl, trivial⟩ ?_
          refine Z_wide hC (k1 := k + 300) (n1 := n + 12000) (by omega) (by omega) ?_
          exact hE _ _ ⟨cA, mA, hI9, oA⟩
        · have h0 := nI_0of (vk_oSetOnRoad S a1 bo) (Classical.not_not.mp c)
          obtain ⟨i2, hi2, p2⟩ := p1 h0
          have ei : i2 = i := Value.int.inj (hi2.symm.trans hi)
          have pA : mJ M2 o 0 = zl i := by rw [eO.2.2.2.2.1, p2, ei]
          refine Z_aload_n hC dL_law_614 rfl rfl ?_
          refine Z_iconst hC dL_law_615 (v := 0) (by decide) ?_
          refine Z_lald hC (congrArg Prod.fst oA.1) (j := 0) (by decide) (by rw [oA.2.1]; decide) dL_law_616 ?_
          rw [pA]
          refine Z_iload hC dL_law_617 rfl ?_
          refine Z_if_eq hC dL_law_619 (tgt := 626) (by decide) (fun c => ?_) (fun c => ?_)
          · refine Z_lconst hC dL_law_626 (v := 0) (by decide) ?_
            rw [show zl i = 0 from if_pos c]
            refine Z_lcmp hC dL_law_627 ?_
            rw [lcmp_self]
            refine Z_if_eq hC dL_law_628 (tgt := 633) (by decide) (fun c => ?_) (fun c => ?_)
            · refine Z_goto hC dL_law_633 (tgt := 2816) (by decide) ?_
              refine Z_sub hC (ls1 := lsL b x m o od t) ⟨rfl, rfl, rfl, rfl, rfl, rfl, trivial⟩ ?_
              refine Z_wide hC (k1 := k + 300) (n1 := n + 12000) (by omega) (by omega) ?_
              exact hE _ _ ⟨cA, mA, hI9, oA⟩
            · exact absurd rfl c
          · refine Z_lconst hC dL_law_622 (v := 1) (by decide) ?_
            refine Z_goto hC dL_law_623 (tgt := 627) (by decide) ?_
            rw [show zl i = 1 from if_neg c]
            refine Z_lcmp hC dL_law_627 ?_
            rw [lcmp_self]
            refine Z_if_eq hC dL_law_628 (tgt := 633) (by decide) (fun c => ?_) (fun c => ?_)
            · refine Z_goto hC dL_law_633 (tgt := 2816) (by decide) ?_
              refine Z_sub hC (ls1 := lsL b x m o od t) ⟨rfl, rfl, rfl, rfl, rfl, rfl, trivial⟩ ?_
              refine Z_wide hC (k1 := k + 300) (n1 := n + 12000) (by omega) (by omega) ?_
              exact hE _ _ ⟨cA, mA, hI9, oA⟩
            · exact absurd rfl c
      · exact absurd rfl c
    · refine Z_iconst hC dL_law_588 (v := 1) (by decide) ?_
      rw [hb1 c]
      refine Z_goto hC dL_law_589 (tgt := 593) (by decide) ?_
      refine Z_callV (k1 := k + 40) (n1 := n + 9000) (kd := 6) [.int a1, .int bo] [.int bo, .int a1, rv m] hC lv_L_185 (ct_X5_setOnRoad hst m1 hI.1 hlt a1 bo hbo) (congrArg Prod.fst m1.1.t0) (by decide) ⟨_, mE_6 (congrArg Prod.fst m1.1.t0)⟩ rfl rfl rfl (by simp only [List.map_cons, List.map_nil, rv_cat, List.sum_cons, List.sum_nil]; (try simp only [Value.category]); (try omega)) (by decide) rfl rfl (by omega) (by omega) dL_law_593 (fun E M9 h => h) (fun v9 M2 hq2 => ?_)
      obtain ⟨w2, mA, g2, kA⟩ := hq2
      have cA := (c1.pM g2).1
      have oA := o1.fr g2 (by decide) (by decide)
      obtain ⟨i, hi⟩ := vi_oSetOnRoad S a1 bo
      rw [w2, hi]
      have eO := g2.at o1.1 (by decide) (by decide)
      refine Z_istore hC dL_law_596 (by decide) (ls1 := [some (.ref b), some (rv x), some (rv m), some (rv o), some (rv od), some (.int (nI (5 * t))), some (.int (nI (oSetOnRoad S a1 bo).1)), some (.int i)]) rfl ?_
      refine Z_aload_n hC dL_law_598 rfl rfl ?_
      refine Z_callV (k1 := k + 40) (n1 := n + 9000) (kd := 6) [] [rv m] hC lv_L_161 (ct_X5_thrown hst mA.1) (congrArg Prod.fst mA.1.t0) (by decide) ⟨_, mE_6 (congrArg Prod.fst mA.1.t0)⟩ rfl rfl rfl (by simp only [List.map_cons, List.map_nil, rv_cat, List.sum_cons, List.sum_nil]; (try simp only [Value.category]); (try omega)) (by decide) rfl rfl (by omega) (by omega) dL_law_599 (fun E M9 h => h) (fun v9 M9 hq9 => ?_)
      obtain ⟨rfl, e9⟩ := hq9
      rw [e9, kA]; clear e9
      refine Z_iload hC dL_law_602 rfl ?_
      refine Z_icmp_eq hC dL_law_604 (tgt := 609) (by decide) (fun c => ?_) (fun c => ?_)
      · refine Z_iload hC dL_law_609 rfl ?_
        refine Z_if_ne hC dL_law_611 (tgt := 633) (by decide) (fun c => ?_) (fun c => ?_)
        · refine Z_goto hC dL_law_633 (tgt := 2816) (by decide) ?_
          refine Z_sub hC (ls1 := lsL b x m o od t) ⟨rfl, rfl, rfl, rfl, rfl, rfl, trivial⟩ ?_
          refine Z_wide hC (k1 := k + 300) (n1 := n + 12000) (by omega) (by omega) ?_
          exact hE _ _ ⟨cA, mA, hI9, oA⟩
        · have h0 := nI_0of (vk_oSetOnRoad S a1 bo) (Classical.not_not.mp c)
          obtain ⟨i2, hi2, p2⟩ := p1 h0
          have ei : i2 = i := Value.int.inj (hi2.symm.trans hi)
          have pA : mJ M2 o 0 = zl i := by rw [eO.2.2.2.2.1, p2, ei]
          refine Z_aload_n hC dL_law_614 rfl rfl ?_
          refine Z_iconst hC dL_law_615 (v := 0) (by decide) ?_
          refine Z_lald hC (congrArg Prod.fst oA.1) (j := 0) (by decide) (by rw [oA.2.1]; decide) dL_law_616 ?_
          rw [pA]
          refine Z_iload hC dL_law_617 rfl ?_
          refine Z_if_eq hC dL_law_619 (tgt := 626) (by decide) (fun c => ?_) (fun c => ?_)
          · refine Z_lconst hC dL_law_626 (v := 0) (by decide) ?_
            rw [show zl i = 0 from if_pos c]
            refine Z_lcmp hC dL_law_627 ?_
            rw [lcmp_self]
            refine Z_if_eq hC dL_law_628 (tgt := 633) (by decide) (fun c => ?_) (fun c => ?_)
            · refine Z_goto hC dL_law_633 (tgt := 2816) (by decide) ?_
              refine Z_sub hC (ls1 := lsL b x m o od t) ⟨rfl, rfl, rfl, rfl, rfl, rfl, trivial⟩ ?_
              refine Z_wide hC (k1 := k + 300) (n1 := n + 12000) (by omega) (by omega) ?_
              exact hE _ _ ⟨cA, mA, hI9, oA⟩
            · exact absurd rfl c
          · refine Z_lconst hC dL_law_622 (v := 1) (by decide) ?_
            refine Z_goto hC dL_law_623 (tgt := 627) (by decide) ?_
            rw [show zl i = 1 from if_neg c]
            refine Z_lcmp hC dL_law_627 ?_
            rw [lcmp_self]
            refine Z_if_eq hC dL_law_628 (tgt := 633) (by decide) (fun c => ?_) (fun c => ?_)
            · refine Z_goto hC dL_law_633 (tgt := 2816) (by decide) ?_
              refine Z_sub hC (ls1 := lsL b x m o od t) ⟨rfl, rfl, rfl, rfl, rfl, rfl, trivial⟩ ?_
              refine Z_wide hC (k1 := k + 300) (n1 := n + 12000) (by omega) (by omega) ?_
              exact hE _ _ ⟨cA, mA, hI9, oA⟩
            · exact absurd rfl c
      · exact absurd rfl c
theorem cs_isOnRoad {G : Gt} {γ : Γt} {mc ms d : Nat} {lh : Launch} {M : Mm} {x m o od b L t k n : Nat} {xs : Nat → Int32} {S : St} (hst : lh.stackTraces = false) (hC : Zok G γ RL cL_law (some .boolean) 20 mc ms lawQ lh 9) (hs : Sok G γ b L xs) (hL : 5 * t + 4 < L) (hL2 : L ≤ 2560) (h : LwI M x m o od S t) (hk : k + 300 ≤ mc) (hn : n + 12000 ≤ ms) (hE : ∀ (M9 : Mm) (S9 : St), LwI M9 x m o od S9 (t + 1) → JE G γ ET M9 2816 (lsL b x m o od t) [] (k + 300) (n + 12000)) : JE G γ ET M 636 (lsL b x m o od t) [] k n := by
  obtain ⟨hM, hm, hI, hO⟩ := h
  have hlt : t < 512 := by omega
  have v1 := vp_s (j := 1) (b := 1) hL (by decide) rfl hL2
  obtain ⟨a1, e1⟩ : ∃ z, xs (nI (5 * t) + 1).toNatClampNeg = z := ⟨_, rfl⟩
  have v2 := vp_s (j := 2) (b := 2) hL (by decide) rfl hL2
  obtain ⟨a2, e2⟩ : ∃ z, xs (nI (5 * t) + 2).toNatClampNeg = z := ⟨_, rfl⟩
  have hI9 : Iv (oIsOnRoad S a1 a2).2.2 (t + 1) := by rw [vs_oIsOnRoad]; exact hI.mono hlt
  unfold lsL
  refine Z_aload_n hC dL_law_636 rfl rfl ?_
  refine Z_aloadR_n hC dL_law_637 rfl rfl ?_
  refine Z_iload hC dL_law_638 rfl ?_
  refine Z_iconst hC dL_law_640 (v := 1) (by decide) ?_
  refine Z_iadd hC dL_law_641 ?_
  refine Z_sld hC hs v1 e1 dL_law_642 ?_
  refine Z_aloadR_n hC dL_law_643 rfl rfl ?_
  refine Z_iload hC dL_law_644 rfl ?_
  refine Z_iconst hC dL_law_646 (v := 2) (by decide) ?_
  refine Z_iadd hC dL_law_647 ?_
  refine Z_sld hC hs v2 e2 dL_law_648 ?_
  refine Z_aload_n hC dL_law_649 rfl rfl ?_
  refine Z_callH (k1 := k + 8) (n1 := n + 48) [rv x, .int a1, .int a2, rv o] [rv o, .int a2, .int a1, rv x] hC lh_L_186 (hl_isOnRoad hst hM hI.1 hO a1 a2) rfl rfl (by simp only [List.map_cons, List.map_nil, rv_cat, List.sum_cons, List.sum_nil]; (try simp only [Value.category]); (try omega)) (by decide) rfl rfl (by omega) (by omega) dL_law_650 (fun v9 M1 hq1 => ?_)
  obtain ⟨q1, c1, f1, o1, p1⟩ := hq1
  rw [q1]
  have m1 := hm.frX f1
  refine Z_istore hC dL_law_653 (by decide) (ls1 := [some (.ref b), some (rv x), some (rv m), some (rv o), some (rv od), some (.int (nI (5 * t))), some (.int (nI (oIsOnRoad S a1 a2).1))]) rfl ?_
  refine Z_aload_n hC dL_law_655 rfl rfl ?_
  refine Z_aloadR_n hC dL_law_656 rfl rfl ?_
  refine Z_iload hC dL_law_657 rfl ?_
  refine Z_iconst hC dL_law_659 (v := 1) (by decide) ?_
  refine Z_iadd hC dL_law_660 ?_
  refine Z_sld hC hs v1 e1 dL_law_661 ?_
  refine Z_aloadR_n hC dL_law_662 rfl rfl ?_
  refine Z_iload hC dL_law_663 rfl ?_
  refine Z_iconst hC dL_law_665 (v := 2) (by decide) ?_
  refine Z_iadd hC dL_law_666 ?_
  refine Z_sld hC hs v2 e2 dL_law_667 ?_
  refine Z_callV (k1 := k + 8) (n1 := n + 48) (kd := 6) [.int a1, .int a2] [.int a2, .int a1, rv m] hC lv_L_189 (ct_X5_isOnRoad hst m1 hI.1 hlt a1 a2) (congrArg Prod.fst m1.1.t0) (by decide) ⟨_, mE_6 (congrArg Prod.fst m1.1.t0)⟩ rfl rfl rfl (by simp only [List.map_cons, List.map_nil, rv_cat, List.sum_cons, List.sum_nil]; (try simp only [Value.category]); (try omega)) (by decide) rfl rfl (by omega) (by omega) dL_law_668 (fun E M9 h => h) (fun v9 M2 hq2 => ?_)
  obtain ⟨w2, mA, g2, kA⟩ := hq2
  have cA := (c1.pM g2).1
  have oA := o1.fr g2 (by decide) (by decide)
  obtain ⟨i, hi⟩ := vi_oIsOnRoad S a1 a2
  rw [w2, hi]
  have eO := g2.at o1.1 (by decide) (by decide)
  refine Z_istore hC dL_law_671 (by decide) (ls1 := [some (.ref b), some (rv x), some (rv m), some (rv o), some (rv od), some (.int (nI (5 * t))), some (.int (nI (oIsOnRoad S a1 a2).1)), some (.int i)]) rfl ?_
  refine Z_aload_n hC dL_law_673 rfl rfl ?_
  refine Z_callV (k1 := k + 8) (n1 := n + 48) (kd := 6) [] [rv m] hC lv_L_161 (ct_X5_thrown hst mA.1) (congrArg Prod.fst mA.1.t0) (by decide) ⟨_, mE_6 (congrArg Prod.fst mA.1.t0)⟩ rfl rfl rfl (by simp only [List.map_cons, List.map_nil, rv_cat, List.sum_cons, List.sum_nil]; (try simp only [Value.category]); (try omega)) (by decide) rfl rfl (by omega) (by omega) dL_law_674 (fun E M9 h => h) (fun v9 M9 hq9 => ?_)
  obtain ⟨rfl, e9⟩ := hq9
  rw [e9, kA]; clear e9
  refine Z_iload hC dL_law_677 rfl ?_
  refine Z_icmp_eq hC dL_law_679 (tgt := 684) (by decide) (fun c => ?_) (fun c => ?_)
  · refine Z_iload hC dL_law_684 rfl ?_
    refine Z_if_ne hC dL_law_686 (tgt := 708) (by decide) (fun c => ?_) (fun c => ?_)
    · refine Z_goto hC dL_law_708 (tgt := 2816) (by decide) ?_
      refine Z_sub hC (ls1 := lsL b x m o od t) ⟨rfl, rfl, rfl, rfl, rfl, rfl, trivial⟩ ?_
      refine Z_wide hC (k1 := k + 300) (n1 := n + 12000) (by omega) (by omega) ?_
      exact hE _ _ ⟨cA, mA, hI9, oA⟩
    · have h0 := nI_0of (vk_oIsOnRoad S a1 a2) (Classical.not_not.mp c)
      obtain ⟨i2, hi2, p2⟩ := p1 h0
      have ei : i2 = i := Value.int.inj (hi2.symm.trans hi)
      have pA : mJ M2 o 0 = zl i := by rw [eO.2.2.2.2.1, p2, ei]
      refine Z_aload_n hC dL_law_689 rfl rfl ?_
      refine Z_iconst hC dL_law_690 (v := 0) (by decide) ?_
      refine Z_lald hC (congrArg Prod.fst oA.1) (j := 0) (by decide) (by rw [oA.2.1]; decide) dL_law_691 ?_
      rw [pA]
      refine Z_iload hC dL_law_692 rfl ?_
      refine Z_if_eq hC dL_law_694 (tgt := 701) (by decide) (fun c => ?_) (fun c => ?_)
      · refine Z_lconst hC dL_law_701 (v := 0) (by decide) ?_
        rw [show zl i = 0 from if_pos c]
        refine Z_lcmp hC dL_law_702 ?_
        rw [lcmp_self]
        refine Z_if_eq hC dL_law_703 (tgt := 708) (by decide) (fun c => ?_) (fun c => ?_)
        · refine Z_goto hC dL_law_708 (tgt := 2816) (by decide) ?_
          refine Z_sub hC (ls1 := lsL b x m o od t) ⟨rfl, rfl, rfl, rfl, rfl, rfl, trivial⟩ ?_
          refine Z_wide hC (k1 := k + 300) (n1 := n + 12000) (by omega) (by omega) ?_
          exact hE _ _ ⟨cA, mA, hI9, oA⟩
        · exact absurd rfl c
      · refine Z_lconst hC dL_law_697 (v := 1) (by decide) ?_
        refine Z_goto hC dL_law_698 (tgt := 702) (by decide) ?_
        rw [show zl i = 1 from if_neg c]
        refine Z_lcmp hC dL_law_702 ?_
        rw [lcmp_self]
        refine Z_if_eq hC dL_law_703 (tgt := 708) (by decide) (fun c => ?_) (fun c => ?_)
        · refine Z_goto hC dL_law_708 (tgt := 2816) (by decide) ?_
          refine Z_sub hC (ls1 := lsL b x m o od t) ⟨rfl, rfl, rfl, rfl, rfl, rfl, trivial⟩ ?_
          refine Z_wide hC (k1 := k + 300) (n1 := n + 12000) (by omega) (by omega) ?_
          exact hE _ _ ⟨cA, mA, hI9, oA⟩
        · exact absurd rfl c
  · exact absurd rfl c
