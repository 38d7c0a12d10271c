theorem cs_plateOn {G : Gt} {γ : Γt} {mc ms d : Nat} {lh : Launch} {M : Mm} {x m o od b L t k n : Nat} {xs : Nat → Int32} {S : St} (hst : lh.stackTraces = false) (hC : Zok G γ RL cL_law (some .boolean) 20 mc ms lawQ lh 9) (hs : Sok G γ b L xs) (hL : 5 * t + 4 < L) (hL2 : L ≤ 2560) (h : LwI M x m o od S t) (hk : k + 300 ≤ mc) (hn : n + 12000 ≤ ms) (hE : ∀ (M9 : Mm) (S9 : St), LwI M9 x m o od S9 (t + 1) → JE G γ ET M9 2816 (lsL b x m o od t) [] (k + 300) (n + 12000)) : JE G γ ET M 2162 (lsL b x m o od t) [] k n := by
  obtain ⟨hM, hm, hI, hO⟩ := h
  have hlt : t < 512 := by omega
  have v1 := vp_s (j := 1) (b := 1) hL (by decide) rfl hL2
  obtain ⟨a1, e1⟩ : ∃ z, xs (nI (5 * t) + 1).toNatClampNeg = z := ⟨_, rfl⟩
  have v2 := vp_s (j := 2) (b := 2) hL (by decide) rfl hL2
  obtain ⟨a2, e2⟩ : ∃ z, xs (nI (5 * t) + 2).toNatClampNeg = z := ⟨_, rfl⟩
  have hI9 : Iv (oLookT 1 S a1 a2).2.2 (t + 1) := by rw [vs_oLookT]; exact hI.mono hlt
  unfold lsL
  refine Z_aload_n hC dL_law_2162 rfl rfl ?_
  refine Z_aloadR_n hC dL_law_2163 rfl rfl ?_
  refine Z_iload hC dL_law_2164 rfl ?_
  refine Z_iconst hC dL_law_2166 (v := 1) (by decide) ?_
  refine Z_iadd hC dL_law_2167 ?_
  refine Z_sld hC hs v1 e1 dL_law_2168 ?_
  refine Z_aloadR_n hC dL_law_2169 rfl rfl ?_
  refine Z_iload hC dL_law_2170 rfl ?_
  refine Z_iconst hC dL_law_2172 (v := 2) (by decide) ?_
  refine Z_iadd hC dL_law_2173 ?_
  refine Z_sld hC hs v2 e2 dL_law_2174 ?_
  refine Z_aload_n hC dL_law_2175 rfl rfl ?_
  refine Z_callH (k1 := k + 8) (n1 := n + 48) [rv x, .int a1, .int a2, rv o] [rv o, .int a2, .int a1, rv x] hC lh_L_267 (hl_plateOn hst hM hI.1 hO a1 a2) rfl rfl (by simp only [List.map_cons, List.map_nil, rv_cat, List.sum_cons, List.sum_nil]; (try simp only [Value.category]); (try omega)) (by decide) rfl rfl (by omega) (by omega) dL_law_2176 (fun v9 M1 hq1 => ?_)
  obtain ⟨q1, c1, f1, o1, p1⟩ := hq1
  rw [q1]
  have m1 := hm.frX f1
  refine Z_istore hC dL_law_2179 (by decide) (ls1 := [some (.ref b), some (rv x), some (rv m), some (rv o), some (rv od), some (.int (nI (5 * t))), some (.int (nI (oLookT 1 S a1 a2).1))]) rfl ?_
  refine Z_aload_n hC dL_law_2181 rfl rfl ?_
  refine Z_aloadR_n hC dL_law_2182 rfl rfl ?_
  refine Z_iload hC dL_law_2183 rfl ?_
  refine Z_iconst hC dL_law_2185 (v := 1) (by decide) ?_
  refine Z_iadd hC dL_law_2186 ?_
  refine Z_sld hC hs v1 e1 dL_law_2187 ?_
  refine Z_aloadR_n hC dL_law_2188 rfl rfl ?_
  refine Z_iload hC dL_law_2189 rfl ?_
  refine Z_iconst hC dL_law_2191 (v := 2) (by decide) ?_
  refine Z_iadd hC dL_law_2192 ?_
  refine Z_sld hC hs v2 e2 dL_law_2193 ?_
  refine Z_callV (k1 := k + 8) (n1 := n + 48) (kd := 6) [.int a1, .int a2] [.int a2, .int a1, rv m] hC lv_L_269 (ct_X5_plateOn hst m1 hI.1 hlt a1 a2) (congrArg Prod.fst m1.1.t0) (by decide) ⟨_, mE_6 (congrArg Prod.fst m1.1.t0)⟩ rfl rfl rfl (by simp only [List.map_cons, List.map_nil, rv_cat, List.sum_cons, List.sum_nil]; (try simp only [Value.category]); (try omega)) (by decide) rfl rfl (by omega) (by omega) dL_law_2194 (fun E M9 h => h) (fun v9 M2 hq2 => ?_)
  obtain ⟨w2, mA, g2, kA⟩ := hq2
  have cA := (c1.pM g2).1
  have oA := o1.fr g2 (by decide) (by decide)
  obtain ⟨i, hi⟩ := vi_oLookT 1 S a1 a2
  rw [w2, hi]
  have eO := g2.at o1.1 (by decide) (by decide)
  refine Z_istore hC dL_law_2197 (by decide) (ls1 := [some (.ref b), some (rv x), some (rv m), some (rv o), some (rv od), some (.int (nI (5 * t))), some (.int (nI (oLookT 1 S a1 a2).1)), some (.int i)]) rfl ?_
  refine Z_aload_n hC dL_law_2199 rfl rfl ?_
  refine Z_callV (k1 := k + 8) (n1 := n + 48) (kd := 6) [] [rv m] hC lv_L_161 (ct_X5_thrown hst mA.1) (congrArg Prod.fst mA.1.t0) (by decide) ⟨_, mE_6 (congrArg Prod.fst mA.1.t0)⟩ rfl rfl rfl (by simp only [List.map_cons, List.map_nil, rv_cat, List.sum_cons, List.sum_nil]; (try simp only [Value.category]); (try omega)) (by decide) rfl rfl (by omega) (by omega) dL_law_2200 (fun E M9 h => h) (fun v9 M9 hq9 => ?_)
  obtain ⟨rfl, e9⟩ := hq9
  rw [e9, kA]; clear e9
  refine Z_iload hC dL_law_2203 rfl ?_
  refine Z_icmp_eq hC dL_law_2205 (tgt := 2210) (by decide) (fun c => ?_) (fun c => ?_)
  · refine Z_iload hC dL_law_2210 rfl ?_
    refine Z_if_ne hC dL_law_2212 (tgt := 2227) (by decide) (fun c => ?_) (fun c => ?_)
    · refine Z_goto hC dL_law_2227 (tgt := 2816) (by decide) ?_
      refine Z_sub hC (ls1 := lsL b x m o od t) ⟨rfl, rfl, rfl, rfl, rfl, rfl, trivial⟩ ?_
      refine Z_wide hC (k1 := k + 300) (n1 := n + 12000) (by omega) (by omega) ?_
      exact hE _ _ ⟨cA, mA, hI9, oA⟩
    · have h0 := nI_0of (vk_oLookT 1 S a1 a2) (Classical.not_not.mp c)
      obtain ⟨i2, hi2, p2⟩ := p1 h0
      have ei : i2 = i := Value.int.inj (hi2.symm.trans hi)
      have pA : mJ M2 o 0 = Int32.toInt64 i := by rw [eO.2.2.2.2.1, p2, ei]
      refine Z_aload_n hC dL_law_2215 rfl rfl ?_
      refine Z_iconst hC dL_law_2216 (v := 0) (by decide) ?_
      refine Z_lald hC (congrArg Prod.fst oA.1) (j := 0) (by decide) (by rw [oA.2.1]; decide) dL_law_2217 ?_
      rw [pA]
      refine Z_iload hC dL_law_2218 rfl ?_
      refine Z_i2l hC dL_law_2220 ?_
      refine Z_lcmp hC dL_law_2221 ?_
      rw [lcmp_self]
      refine Z_if_eq hC dL_law_2222 (tgt := 2227) (by decide) (fun c => ?_) (fun c => ?_)
      · refine Z_goto hC dL_law_2227 (tgt := 2816) (by decide) ?_
        refine Z_sub hC (ls1 := lsL b x m o od t) ⟨rfl, rfl, rfl, rfl, rfl, rfl, trivial⟩ ?_
        refine Z_wide hC (k1 := k + 300) (n1 := n + 12000) (by omega) (by omega) ?_
        exact hE _ _ ⟨cA, mA, hI9, oA⟩
      · exact absurd rfl c
  · exact absurd rfl c
theorem cs_vehicleWith {G : Gt} {γ : Γt} {mc ms d : Nat} {lh : Launch} {M : Mm} {x m o od b L t k n : Nat} {xs : Nat → Int32} {S : St} (hst : lh.stackTraces = false) (hC : Zok G γ RL cL_law (some .boolean) 20 mc ms lawQ lh 9) (hs : Sok G γ b L xs) (hL : 5 * t + 4 < L) (hL2 : L ≤ 2560) (h : LwI M x m o od S t) (hk : k + 300 ≤ mc) (hn : n + 12000 ≤ ms) (hE : ∀ (M9 : Mm) (S9 : St), LwI M9 x m o od S9 (t + 1) → JE G γ ET M9 2816 (lsL b x m o od t) [] (k + 300) (n + 12000)) : JE G γ ET M 2230 (lsL b x m o od t) [] k n := by
  obtain ⟨hM, hm, hI, hO⟩ := h
  have hlt : t < 512 := by omega
  have v1 := vp_s (j := 1) (b := 1) hL (by decide) rfl hL2
  obtain ⟨a1, e1⟩ : ∃ z, xs (nI (5 * t) + 1).toNatClampNeg = z := ⟨_, rfl⟩
  have v2 := vp_s (j := 2) (b := 2) hL (by decide) rfl hL2
  obtain ⟨a2, e2⟩ : ∃ z, xs (nI (5 * t) + 2).toNatClampNeg = z := ⟨_, rfl⟩
  have hI9 : Iv (oVehicleWith S a1 a2).2.2 (t + 1) := by rw [vs_oVehicleWith]; exact hI.mono hlt
  unfold lsL
  refine Z_aload_n hC dL_law_2230 rfl rfl ?_
  refine Z_aloadR_n hC dL_law_2231 rfl rfl ?_
  refine Z_iload hC dL_law_2232 rfl ?_
  refine Z_iconst hC dL_law_2234 (v := 1) (by decide) ?_
  refine Z_iadd hC dL_law_2235 ?_
  refine Z_sld hC hs v1 e1 dL_law_2236 ?_
  refine Z_aloadR_n hC dL_law_2237 rfl rfl ?_
  refine Z_iload hC dL_law_2238 rfl ?_
  refine Z_iconst hC dL_law_2240 (v := 2) (by decide) ?_
  refine Z_iadd hC dL_law_2241 ?_
  refine Z_sld hC hs v2 e2 dL_law_2242 ?_
  refine Z_aload_n hC dL_law_2243 rfl rfl ?_
  refine Z_callH (k1 := k + 8) (n1 := n + 48) [rv x, .int a1, .int a2, rv o] [rv o, .int a2, .int a1, rv x] hC lh_L_270 (hl_vehicleWith hst hM hI.1 hO a1 a2) rfl rfl (by simp only [List.map_cons, List.map_nil, rv_cat, List.sum_cons, List.sum_nil]; (try simp only [Value.category]); (try omega)) (by decide) rfl rfl (by omega) (by omega) dL_law_2244 (fun v9 M1 hq1 => ?_)
  obtain ⟨q1, c1, f1, o1, p1⟩ := hq1
  rw [q1]
  have m1 := hm.frX f1
  refine Z_istore hC dL_law_2247 (by decide) (ls1 := [some (.ref b), some (rv x), some (rv m), some (rv o), some (rv od), some (.int (nI (5 * t))), some (.int (nI (oVehicleWith S a1 a2).1))]) rfl ?_
  refine Z_aload_n hC dL_law_2249 rfl rfl ?_
  refine Z_aloadR_n hC dL_law_2250 rfl rfl ?_
  refine Z_iload hC dL_law_2251 rfl ?_
  refine Z_iconst hC dL_law_2253 (v := 1) (by decide) ?_
  refine Z_iadd hC dL_law_2254 ?_
  refine Z_sld hC hs v1 e1 dL_law_2255 ?_
  refine Z_aloadR_n hC dL_law_2256 rfl rfl ?_
  refine Z_iload hC dL_law_2257 rfl ?_
  refine Z_iconst hC dL_law_2259 (v := 2) (by decide) ?_
  refine Z_iadd hC dL_law_2260 ?_
  refine Z_sld hC hs v2 e2 dL_law_2261 ?_
  refine Z_callV (k1 := k + 8) (n1 := n + 48) (kd := 6) [.int a1, .int a2] [.int a2, .int a1, rv m] hC lv_L_272 (ct_X5_vehicleWith hst m1 hI.1 hlt a1 a2) (congrArg Prod.fst m1.1.t0) (by decide) ⟨_, mE_6 (congrArg Prod.fst m1.1.t0)⟩ rfl rfl rfl (by simp only [List.map_cons, List.map_nil, rv_cat, List.sum_cons, List.sum_nil]; (try simp only [Value.category]); (try omega)) (by decide) rfl rfl (by omega) (by omega) dL_law_2262 (fun E M9 h => h) (fun v9 M2 hq2 => ?_)
  obtain ⟨w2, mA, g2, kA⟩ := hq2
  have cA := (c1.pM g2).1
  have oA := o1.fr g2 (by decide) (by decide)
  obtain ⟨i, hi⟩ := vi_oVehicleWith S a1 a2
  rw [w2, hi]
  have eO := g2.at o1.1 (by decide) (by decide)
  refine Z_istore hC dL_law_2265 (by decide) (ls1 := [some (.ref b), some (rv x), some (rv m), some (rv o), some (rv od), some (.int (nI (5 * t))), some (.int (nI (oVehicleWith S a1 a2).1)), some (.int i)]) rfl ?_
  refine Z_aload_n hC dL_law_2267 rfl rfl ?_
  refine Z_callV (k1 := k + 8) (n1 := n + 48) (kd := 6) [] [rv m] hC lv_L_161 (ct_X5_thrown hst mA.1) (congrArg Prod.fst mA.1.t0) (by decide) ⟨_, mE_6 (congrArg Prod.fst mA.1.t0)⟩ rfl rfl rfl (by simp only [List.map_cons, List.map_nil, rv_cat, List.sum_cons, List.sum_nil]; (try simp only [Value.category]); (try omega)) (by decide) rfl rfl (by omega) (by omega) dL_law_2268 (fun E M9 h => h) (fun v9 M9 hq9 => ?_)
  obtain ⟨rfl, e9⟩ := hq9
  rw [e9, kA]; clear e9
  refine Z_iload hC dL_law_2271 rfl ?_
  refine Z_icmp_eq hC dL_law_2273 (tgt := 2278) (by decide) (fun c => ?_) (fun c => ?_)
  · refine Z_iload hC dL_law_2278 rfl ?_
    refine Z_if_ne hC dL_law_2280 (tgt := 2295) (by decide) (fun c => ?_) (fun c => ?_)
    · refine Z_goto hC dL_law_2295 (tgt := 2816) (by decide) ?_
      refine Z_sub hC (ls1 := lsL b x m o od t) ⟨rfl, rfl, rfl, rfl, rfl, rfl, trivial⟩ ?_
      refine Z_wide hC (k1 := k + 300) (n1 := n + 12000) (by omega) (by omega) ?_
      exact hE _ _ ⟨cA, mA, hI9, oA⟩
    · have h0 := nI_0of (vk_oVehicleWith S a1 a2) (Classical.not_not.mp c)
      obtain ⟨i2, hi2, p2⟩ := p1 h0
      have ei : i2 = i := Value.int.inj (hi2.symm.trans hi)
      have pA : mJ M2 o 0 = Int32.toInt64 i := by rw [eO.2.2.2.2.1, p2, ei]
      refine Z_aload_n hC dL_law_2283 rfl rfl ?_
      refine Z_iconst hC dL_law_2284 (v := 0) (by decide) ?_
      refine Z_lald hC (congrArg Prod.fst oA.1) (j := 0) (by decide) (by rw [oA.2.1]; decide) dL_law_2285 ?_
      rw [pA]
      refine Z_iload hC dL_law_2286 rfl ?_
      refine Z_i2l hC dL_law_2288 ?_
      refine Z_lcmp hC dL_law_2289 ?_
      rw [lcmp_self]
      refine Z_if_eq hC dL_law_2290 (tgt := 2295) (by decide) (fun c => ?_) (fun c => ?_)
      · refine Z_goto hC dL_law_2295 (tgt := 2816) (by decide) ?_
        refine Z_sub hC (ls1 := lsL b x m o od t) ⟨rfl, rfl, rfl, rfl, rfl, rfl, trivial⟩ ?_
        refine Z_wide hC (k1 := k + 300) (n1 := n + 12000) (by omega) (by omega) ?_
        exact hE _ _ ⟨cA, mA, hI9, oA⟩
      · exact absurd rfl c
  · exact absurd rfl c
theorem cs_vehicleByVehicles {G : Gt} {γ : Γt} {mc ms d : Nat} {lh : Launch} {M : Mm} {x m o od b L t k n : Nat} {xs : Nat → Int32} {S : St} (hst : lh.stackTraces = false) (hC : Zok G γ RL cL_law (some .boolean) 20 mc ms lawQ lh 9) (hs : Sok G γ b L xs) (hL : 5 * t + 4 < L) (hL2 : L ≤ 2560) (h : LwI M x m o od S t) (hk : k + 300 ≤ mc) (hn : n + 12000 ≤ ms) (hE : ∀ (M9 : Mm) (S9 : St), LwI M9 x m o od S9 (t + 1) → JE G γ ET M9 2816 (lsL b x m o od t) [] (k + 300) (n + 12000)) : JE G γ ET M 2298 (lsL b x m o od t) [] k n := by
  obtain ⟨hM, hm, hI, hO⟩ := h
  have hlt : t < 512 := by omega
  have v1 := vp_s (j := 1) (b := 1) hL (by decide) rfl hL2
  obtain ⟨a1, e1⟩ : ∃ z, xs (nI (5 * t) + 1).toNatClampNeg = z := ⟨_, rfl⟩
  have v2 := vp_s (j := 2) (b := 2) hL (by decide) rfl hL2
  obtain ⟨a2, e2⟩ : ∃ z, xs (nI (5 * t) + 2).toNatClampNeg = z := ⟨_, rfl⟩
  have hI9 : Iv (oVehicleWith S a1 a2).2.2 (t + 1) := by rw [vs_oVehicleWith]; exact hI.mono hlt
  unfold lsL
  refine Z_aload_n hC dL_law_2298 rfl rfl ?_
  refine Z_aloadR_n hC dL_law_2299 rfl rfl ?_
  refine Z_iload hC dL_law_2300 rfl ?_
  refine Z_iconst hC dL_law_2302 (v := 1) (by decide) ?_
  refine Z_iadd hC dL_law_2303 ?_
  refine Z_sld hC hs v1 e1 dL_law_2304 ?_
  refine Z_aloadR_n hC dL_law_2305 rfl rfl ?_
  refine Z_iload hC dL_law_2306 rfl ?_
  refine Z_iconst hC dL_law_2308 (v := 2) (by decide) ?_
  refine Z_iadd hC dL_law_2309 ?_
  refine Z_sld hC hs v2 e2 dL_law_2310 ?_
  refine Z_aload_n hC dL_law_2311 rfl rfl ?_
  refine Z_callH (k1 := k + 8) (n1 := n + 48) [rv x, .int a1, .int a2, rv o] [rv o, .int a2, .int a1, rv x] hC lh_L_273 (hl_vehicleByVehicles hst hM hI.1 hO a1 a2) rfl rfl (by simp only [List.map_cons, List.map_nil, rv_cat, List.sum_cons, List.sum_nil]; (try simp only [Value.category]); (try omega)) (by decide) rfl rfl (by omega) (by omega) dL_law_2312 (fun v9 M1 hq1 => ?_)
  obtain ⟨q1, c1, f1, o1, p1⟩ := hq1
  rw [q1]
  have m1 := hm.frX f1
  refine Z_istore hC dL_law_2315 (by decide) (ls1 := [some (.ref b), some (rv x), some (rv m), some (rv o), some (rv od), some (.int (nI (5 * t))), some (.int (nI (oVehicleWith S a1 a2).1))]) rfl ?_
  refine Z_aload_n hC dL_law_2317 rfl rfl ?_
  refine Z_aloadR_n hC dL_law_2318 rfl rfl ?_
  refine Z_iload hC dL_law_2319 rfl ?_
  refine Z_iconst hC dL_law_2321 (v := 1) (by decide) ?_
  refine Z_iadd hC dL_law_2322 ?_
  refine Z_sld hC hs v1 e1 dL_law_2323 ?_
  refine Z_aloadR_n hC dL_law_2324 rfl rfl ?_
  refine Z_iload hC dL_law_2325 rfl ?_
  refine Z_iconst hC dL_law_2327 (v := 2) (by decide) ?_
  refine Z_iadd hC dL_law_2328 ?_
  refine Z_sld hC hs v2 e2 dL_law_2329 ?_
  refine Z_callV (k1 := k + 8) (n1 := n + 48) (kd := 6) [.int a1, .int a2] [.int a2, .int a1, rv m] hC lv_L_275 (ct_X5_vehicleByVehicles hst m1 hI.1 hlt a1 a2) (congrArg Prod.fst m1.1.t0) (by decide) ⟨_, mE_6 (congrArg Prod.fst m1.1.t0)⟩ rfl rfl rfl (by simp only [List.map_cons, List.map_nil, rv_cat, List.sum_cons, List.sum_nil]; (try simp only [Value.category]); (try omega)) (by decide) rfl rfl (by omega) (by omega) dL_law_2330 (fun E M9 h => h) (fun v9 M2 hq2 => ?_)
  obtain ⟨w2, mA, g2, kA⟩ := hq2
  have cA := (c1.pM g2).1
  have oA := o1.fr g2 (by decide) (by decide)
  obtain ⟨i, hi⟩ := vi_oVehicleWith S a1 a2
  rw [w2, hi]
  have eO := g2.at o1.1 (by decide) (by decide)
  refine Z_istore hC dL_law_2333 (by decide) (ls1 := [some (.ref b), some (rv x), some (rv m), some (rv o), some (rv od), some (.int (nI (5 * t))), some (.int (nI (oVehicleWith S a1 a2).1)), some (.int i)]) rfl ?_
  refine Z_aload_n hC dL_law_2335 rfl rfl ?_
  refine Z_callV (k1 := k + 8) (n1 := n + 48) (kd := 6) [] [rv m] hC lv_L_161 (ct_X5_thrown hst mA.1) (congrArg Prod.fst mA.1.t0) (by decide) ⟨_, mE_6 (congrArg Prod.fst mA.1.t0)⟩ rfl rfl rfl (by simp only [List.map_cons, List.map_nil, rv_cat, List.sum_cons, List.sum_nil]; (try simp only [Value.category]); (try omega)) (by decide) rfl rfl (by omega) (by omega) dL_law_2336 (fun E M9 h => h) (fun v9 M9 hq9 => ?_)
  obtain ⟨rfl, e9⟩ := hq9
  rw [e9, kA]; clear e9
  refine Z_iload hC dL_law_2339 rfl ?_
  refine Z_icmp_eq hC dL_law_2341 (tgt := 2346) (by decide) (fun c => ?_) (fun c => ?_)
  · refine Z_iload hC dL_law_2346 rfl ?_
    refine Z_if_ne hC dL_law_2348 (tgt := 2363) (by decide) (fun c => ?_) (fun c => ?_)
    · refine Z_goto hC dL_law_2363 (tgt := 2816) (by decide) ?_
      refine Z_sub hC (ls1 := lsL b x m o od t) ⟨rfl, rfl, rfl, rfl, rfl, rfl, trivial⟩ ?_
      refine Z_wide hC (k1 := k + 300) (n1 := n + 12000) (by omega) (by omega) ?_
      exact hE _ _ ⟨cA, mA, hI9, oA⟩
    · have h0 := nI_0of (vk_oVehicleWith S a1 a2) (Classical.not_not.mp c)
      obtain ⟨i2, hi2, p2⟩ := p1 h0
      have ei : i2 = i := Value.int.inj (hi2.symm.trans hi)
      have pA : mJ M2 o 0 = Int32.toInt64 i := by rw [eO.2.2.2.2.1, p2, ei]
      refine Z_aload_n hC dL_law_2351 rfl rfl ?_
      refine Z_iconst hC dL_law_2352 (v := 0) (by decide) ?_
      refine Z_lald hC (congrArg Prod.fst oA.1) (j := 0) (by decide) (by rw [oA.2.1]; decide) dL_law_2353 ?_
      rw [pA]
      refine Z_iload hC dL_law_2354 rfl ?_
      refine Z_i2l hC dL_law_2356 ?_
      refine Z_lcmp hC dL_law_2357 ?_
      rw [lcmp_self]
      refine Z_if_eq hC dL_law_2358 (tgt := 2363) (by decide) (fun c => ?_) (fun c => ?_)
      · refine Z_goto hC dL_law_2363 (tgt := 2816) (by decide) ?_
        refine Z_sub hC (ls1 := lsL b x m o od t) ⟨rfl, rfl, rfl, rfl, rfl, rfl, trivial⟩ ?_
        refine Z_wide hC (k1 := k + 300) (n1 := n + 12000) (by omega) (by omega) ?_
        exact hE _ _ ⟨cA, mA, hI9, oA⟩
      · exact absurd rfl c
  · exact absurd rfl c
theorem cs_due {G : Gt} {γ : Γt} {mc ms d : Nat} {lh : Launch} {M : Mm} {x m o od b L t k n : Nat} {xs : Nat → Int32} {S : St} (hst : lh.stackTraces = false) (hC : Zok G γ RL cL_law (some .boolean) 20 mc ms lawQ lh 9) (hs : Sok G γ b L xs) (hL : 5 * t + 4 < L) (hL2 : L ≤ 2560) (h : LwI M x m o od S t) (hk : k + 300 ≤ mc) (hn : n + 12000 ≤ ms) (hE : ∀ (M9 : Mm) (S9 : St), LwI M9 x m o od S9 (t + 1) → JE G γ ET M9 2816 (lsL b x m o od t) [] (k + 300) (n + 12000)) : JE G γ ET M 2366 (lsL b x m o od t) [] k n := by
  obtain ⟨hM, hm, hI, hO⟩ := h
  have hlt : t < 512 := by omega
  have v1 := vp_s (j := 1) (b := 1) hL (by decide) rfl hL2
  obtain ⟨a1, e1⟩ : ∃ z, xs (nI (5 * t) + 1).toNatClampNeg = z := ⟨_, rfl⟩
  have v2 := vp_s (j := 2) (b := 2) hL (by decide) rfl hL2
  obtain ⟨a2, e2⟩ : ∃ z, xs (nI (5 * t) + 2).toNatClampNeg = z := ⟨_, rfl⟩
  have hI9 : Iv (oDue S a1 a2).2.2 (t + 1) := by rw [vs_oDue]; exact hI.mono hlt
  unfold lsL
  refine Z_aload_n hC dL_law_2366 rfl rfl ?_
  refine Z_aloadR_n hC dL_law_2367 rfl rfl ?_
  refine Z_iload hC dL_law_2368 rfl ?_
  refine Z_iconst hC dL_law_2370 (v := 1) (by decide) ?_
  refine Z_iadd hC dL_law_2371 ?_
  refine Z_sld hC hs v1 e1 dL_law_2372 ?_
  refine Z_aloadR_n hC dL_law_2373 rfl rfl ?_
  refine Z_iload hC dL_law_2374 rfl ?_
  refine Z_iconst hC dL_law_2376 (v := 2) (by decide) ?_
  refine Z_iadd hC dL_law_2377 ?_
  refine Z_sld hC hs v2 e2 dL_law_2378 ?_
  refine Z_aload_n hC dL_law_2379 rfl rfl ?_
  refine Z_callH (k1 := k + 8) (n1 := n + 48) [rv x, .int a1, .int a2, rv o] [rv o, .int a2, .int a1, rv x] hC lh_L_276 (hl_due hst hM hI.1 hO a1 a2) rfl rfl (by simp only [List.map_cons, List.map_nil, rv_cat, List.sum_cons, List.sum_nil]; (try simp only [Value.category]); (try omega)) (by decide) rfl rfl (by omega) (by omega) dL_law_2380 (fun v9 M1 hq1 => ?_)
  obtain ⟨q1, c1, f1, o1, p1⟩ := hq1
  rw [q1]
  have m1 := hm.frX f1
  refine Z_istore hC dL_law_2383 (by decide) (ls1 := [some (.ref b), some (rv x), some (rv m), some (rv o), some (rv od), some (.int (nI (5 * t))), some (.int (nI (oDue S a1 a2).1))]) rfl ?_
  refine Z_aload_n hC dL_law_2385 rfl rfl ?_
  refine Z_aloadR_n hC dL_law_2386 rfl rfl ?_
  refine Z_iload hC dL_law_2387 rfl ?_
  refine Z_iconst hC dL_law_2389 (v := 1) (by decide) ?_
  refine Z_iadd hC dL_law_2390 ?_
  refine Z_sld hC hs v1 e1 dL_law_2391 ?_
  refine Z_aloadR_n hC dL_law_2392 rfl rfl ?_
  refine Z_iload hC dL_law_2393 rfl ?_
  refine Z_iconst hC dL_law_2395 (v := 2) (by decide) ?_
  refine Z_iadd hC dL_law_2396 ?_
  refine Z_sld hC hs v2 e2 dL_law_2397 ?_
  refine Z_callV (k1 := k + 8) (n1 := n + 48) (kd := 6) [.int a1, .int a2] [.int a2, .int a1, rv m] hC lv_L_278 (ct_X5_due hst m1 hI.1 hlt a1 a2) (congrArg Prod.fst m1.1.t0) (by decide) ⟨_, mE_6 (congrArg Prod.fst m1.1.t0)⟩ rfl rfl rfl (by simp only [List.map_cons, List.map_nil, rv_cat, List.sum_cons, List.sum_nil]; (try simp only [Value.category]); (try omega)) (by decide) rfl rfl (by omega) (by omega) dL_law_2398 (fun E M9 h => h) (fun v9 M2 hq2 => ?_)
  obtain ⟨w2, mA, g2, kA⟩ := hq2
  have cA := (c1.pM g2).1
  have oA := o1.fr g2 (by decide) (by decide)
  obtain ⟨i, hi⟩ := vi_oDue S a1 a2
  rw [w2, hi]
  have eO := g2.at o1.1 (by decide) (by decide)
  refine Z_istore hC dL_law_2401 (by decide) (ls1 := [some (.ref b), some (rv x), some (rv m), some (rv o), some (rv od), some (.int (nI (5 * t))), some (.int (nI (oDue S a1 a2).1)), some (.int i)]) rfl ?_
  refine Z_aload_n hC dL_law_2403 rfl rfl ?_
  refine Z_callV (k1 := k + 8) (n1 := n + 48) (kd := 6) [] [rv m] hC lv_L_161 (ct_X5_thrown hst mA.1) (congrArg Prod.fst mA.1.t0) (by decide) ⟨_, mE_6 (congrArg Prod.fst mA.1.t0)⟩ rfl rfl rfl (by simp only [List.map_cons, List.map_nil, rv_cat, List.sum_cons, List.sum_nil]; (try simp only [Value.category]); (try omega)) (by decide) rfl rfl (by omega) (by omega) dL_law_2404 (fun E M9 h => h) (fun v9 M9 hq9 => ?_)
  obtain ⟨rfl, e9⟩ := hq9
  rw [e9, kA]; clear e9
  refine Z_iload hC dL_law_2407 rfl ?_
  refine Z_icmp_eq hC dL_law_2409 (tgt := 2414) (by decide) (fun c => ?_) (fun c => ?_)
  · refine Z_iload hC dL_law_2414 rfl ?_
    refine Z_if_ne hC dL_law_2416 (tgt := 2431) (by decide) (fun c => ?_) (fun c => ?_)
    · refine Z_goto hC dL_law_2431 (tgt := 2816) (by decide) ?_
      refine Z_sub hC (ls1 := lsL b x m o od t) ⟨rfl, rfl, rfl, rfl, rfl, rfl, trivial⟩ ?_
      refine Z_wide hC (k1 := k + 300) (n1 := n + 12000) (by omega) (by omega) ?_
      exact hE _ _ ⟨cA, mA, hI9, oA⟩
    · have h0 := nI_0of (vk_oDue S a1 a2) (Classical.not_not.mp c)
      obtain ⟨i2, hi2, p2⟩ := p1 h0
      have ei : i2 = i := Value.int.inj (hi2.symm.trans hi)
      have pA : mJ M2 o 0 = Int32.toInt64 i := by rw [eO.2.2.2.2.1, p2, ei]
      refine Z_aload_n hC dL_law_2419 rfl rfl ?_
      refine Z_iconst hC dL_law_2420 (v := 0) (by decide) ?_
      refine Z_lald hC (congrArg Prod.fst oA.1) (j := 0) (by decide) (by rw [oA.2.1]; decide) dL_law_2421 ?_
      rw [pA]
      refine Z_iload hC dL_law_2422 rfl ?_
      refine Z_i2l hC dL_law_2424 ?_
      refine Z_lcmp hC dL_law_2425 ?_
      rw [lcmp_self]
      refine Z_if_eq hC dL_law_2426 (tgt := 2431) (by decide) (fun c => ?_) (fun c => ?_)
      · refine Z_goto hC dL_law_2431 (tgt := 2816) (by decide) ?_
        refine Z_sub hC (ls1 := lsL b x m o od t) ⟨rfl, rfl, rfl, rfl, rfl, rfl, trivial⟩ ?_
        refine Z_wide hC (k1 := k + 300) (n1 := n + 12000) (by omega) (by omega) ?_
        exact hE _ _ ⟨cA, mA, hI9, oA⟩
      · exact absurd rfl c
  · exact absurd rfl c
theorem cs_owes {G : Gt} {γ : Γt} {mc ms d : Nat} {lh : Launch} {M : Mm} {x m o od b L t k n : Nat} {xs : Nat → Int32} {S : St} (hst : lh.stackTraces = false) (hC : Zok G γ RL cL_law (some .boolean) 20 mc ms lawQ lh 9) (hs : Sok G γ b L xs) (hL : 5 * t + 4 < L) (hL2 : L ≤ 2560) (h : LwI M x m o od S t) (hk : k + 300 ≤ mc) (hn : n + 12000 ≤ ms) (hE : ∀ (M9 : Mm) (S9 : St), LwI M9 x m o od S9 (t + 1) → JE G γ ET M9 2816 (lsL b x m o od t) [] (k + 300) (n + 12000)) : JE G γ ET M 2434 (lsL b x m o od t) [] k n := by
  obtain ⟨hM, hm, hI, hO⟩ := h
  have hlt : t < 512 := by omega
  have v1 := vp_s (j := 1) (b := 1) hL (by decide) rfl hL2
  obtain ⟨a1, e1⟩ : ∃ z, xs (nI (5 * t) + 1).toNatClampNeg = z := ⟨_, rfl⟩
  have hI9 : Iv (oOwes S a1).2.2 (t + 1) := by rw [vs_oOwes]; exact hI.mono hlt
  unfold lsL
  refine Z_aload_n hC dL_law_2434 rfl rfl ?_
  refine Z_aloadR_n hC dL_law_2435 rfl rfl ?_
  refine Z_iload hC dL_law_2436 rfl ?_
  refine Z_iconst hC dL_law_2438 (v := 1) (by decide) ?_
  refine Z_iadd hC dL_law_2439 ?_
  refine Z_sld hC hs v1 e1 dL_law_2440 ?_
  refine Z_aload_n hC dL_law_2441 rfl rfl ?_
  refine Z_callH (k1 := k + 40) (n1 := n + 9000) [rv x, .int a1, rv o] [rv o, .int a1, rv x] hC lh_L_279 (hl_owes hst hM hI.1 hO a1) rfl rfl (by simp only [List.map_cons, List.map_nil, rv_cat, List.sum_cons, List.sum_nil]; (try simp only [Value.category]); (try omega)) (by decide) rfl rfl (by omega) (by omega) dL_law_2442 (fun v9 M1 hq1 => ?_)
  obtain ⟨q1, c1, f1, o1, p1⟩ := hq1
  rw [q1]
  have m1 := hm.frX f1
  refine Z_istore hC dL_law_2445 (by decide) (ls1 := [some (.ref b), some (rv x), some (rv m), some (rv o), some (rv od), some (.int (nI (5 * t))), some (.int (nI (oOwes S a1).1))]) rfl ?_
  refine Z_aload_n hC dL_law_2447 rfl rfl ?_
  refine Z_aloadR_n hC dL_law_2448 rfl rfl ?_
  refine Z_iload hC dL_law_2449 rfl ?_
  refine Z_iconst hC dL_law_2451 (v := 1) (by decide) ?_
  refine Z_iadd hC dL_law_2452 ?_
  refine Z_sld hC hs v1 e1 dL_law_2453 ?_
  refine Z_callV (k1 := k + 40) (n1 := n + 9000) (kd := 6) [.int a1] [.int a1, rv m] hC lv_L_281 (ct_X5_owes hst m1 hI.1 hlt a1) (congrArg Prod.fst m1.1.t0) (by decide) ⟨_, mE_6 (congrArg Prod.fst m1.1.t0)⟩ rfl rfl rfl (by simp only [List.map_cons, List.map_nil, rv_cat, List.sum_cons, List.sum_nil]; (try simp only [Value.category]); (try omega)) (by decide) rfl rfl (by omega) (by omega) dL_law_2454 (fun E M9 h => h) (fun v9 M2 hq2 => ?_)
  obtain ⟨w2, mA, g2, kA⟩ := hq2
  have cA := (c1.pM g2).1
  have oA := o1.fr g2 (by decide) (by decide)
  obtain ⟨i, hi⟩ := vi_oOwes S a1
  rw [w2, hi]
  have eO := g2.at o1.1 (by decide) (by decide)
  refine Z_istore hC dL_law_2457 (by decide) (ls1 := [some (.ref b), some (rv x), some (rv m), some (rv o), some (rv od), some (.int (nI (5 * t))), some (.int (nI (oOwes S a1).1)), some (.int i)]) rfl ?_
  refine Z_aload_n hC dL_law_2459 rfl rfl ?_
  refine Z_callV (k1 := k + 40) (n1 := n + 9000) (kd := 6) [] [rv m] hC lv_L_161 (ct_X5_thrown hst mA.1) (congrArg Prod.fst mA.1.t0) (by decide) ⟨_, mE_6 (congrArg Prod.fst mA.1.t0)⟩ rfl rfl rfl (by simp only [List.map_cons, List.map_nil, rv_cat, List.sum_cons, List.sum_nil]; (try simp only [Value.category]); (try omega)) (by decide) rfl rfl (by omega) (by omega) dL_law_2460 (fun E M9 h => h) (fun v9 M9 hq9 => ?_)
  obtain ⟨rfl, e9⟩ := hq9
  rw [e9, kA]; clear e9
  refine Z_iload hC dL_law_2463 rfl ?_
  refine Z_icmp_eq hC dL_law_2465 (tgt := 2470) (by decide) (fun c => ?_) (fun c => ?_)
  · refine Z_iload hC dL_law_2470 rfl ?_
    refine Z_if_ne hC dL_law_2472 (tgt := 2487) (by decide) (fun c => ?_) (fun c => ?_)
    · refine Z_goto hC dL_law_2487 (tgt := 2816) (by decide) ?_
      refine Z_sub hC (ls1 := lsL b x m o od t) ⟨rfl, rfl, rfl, rfl, rfl, rfl, trivial⟩ ?_
      refine Z_wide hC (k1 := k + 300) (n1 := n + 12000) (by omega) (by omega) ?_
      exact hE _ _ ⟨cA, mA, hI9, oA⟩
    · have h0 := nI_0of (vk_oOwes S a1) (Classical.not_not.mp c)
      obtain ⟨i2, hi2, p2⟩ := p1 h0
      have ei : i2 = i := Value.int.inj (hi2.symm.trans hi)
      have pA : mJ M2 o 0 = Int32.toInt64 i := by rw [eO.2.2.2.2.1, p2, ei]
      refine Z_aload_n hC dL_law_2475 rfl rfl ?_
      refine Z_iconst hC dL_law_2476 (v := 0) (by decide) ?_
      refine Z_lald hC (congrArg Prod.fst oA.1) (j := 0) (by decide) (by rw [oA.2.1]; decide) dL_law_2477 ?_
      rw [pA]
      refine Z_iload hC dL_law_2478 rfl ?_
      refine Z_i2l hC dL_law_2480 ?_
      refine Z_lcmp hC dL_law_2481 ?_
      rw [lcmp_self]
      refine Z_if_eq hC dL_law_2482 (tgt := 2487) (by decide) (fun c => ?_) (fun c => ?_)
      · refine Z_goto hC dL_law_2487 (tgt := 2816) (by decide) ?_
        refine Z_sub hC (ls1 := lsL b x m o od t) ⟨rfl, rfl, rfl, rfl, rfl, rfl, trivial⟩ ?_
        refine Z_wide hC (k1 := k + 300) (n1 := n + 12000) (by omega) (by omega) ?_
        exact hE _ _ ⟨cA, mA, hI9, oA⟩
      · exact absurd rfl c
  · exact absurd rfl c
theorem cs_owesByDays {G : Gt} {γ : Γt} {mc ms d : Nat} {lh : Launch} {M : Mm} {x m o od b L t k n : Nat} {xs : Nat → Int32} {S : St} (hst : lh.stackTraces = false) (hC : Zok G γ RL cL_law (some .boolean) 20 mc ms lawQ lh 9) (hs : Sok G γ b L xs) (hL : 5 * t + 4 < L) (hL2 : L ≤ 2560) (h : LwI M x m o od S t) (hk : k + 300 ≤ mc) (hn : n + 12000 ≤ ms) (hE : ∀ (M9 : Mm) (S9 : St), LwI M9 x m o od S9 (t + 1) → JE G γ ET M9 2816 (lsL b x m o od t) [] (k + 300) (n + 12000)) : JE G γ ET M 2490 (lsL b x m o od t) [] k n := by
  obtain ⟨hM, hm, hI, hO⟩ := h
  have hlt : t < 512 := by omega
  have v1 := vp_s (j := 1) (b := 1) hL (by decide) rfl hL2
  obtain ⟨a1, e1⟩ : ∃ z, xs (nI (5 * t) + 1).toNatClampNeg = z := ⟨_, rfl⟩
  have hI9 : Iv (oOwes S a1).2.2 (t + 1) := by rw [vs_oOwes]; exact hI.mono hlt
  unfold lsL
  refine Z_aload_n hC dL_law_2490 rfl rfl ?_
  refine Z_aloadR_n hC dL_law_2491 rfl rfl ?_
  refine Z_iload hC dL_law_2492 rfl ?_
  refine Z_iconst hC dL_law_2494 (v := 1) (by decide) ?_
  refine Z_iadd hC dL_law_2495 ?_
  refine Z_sld hC hs v1 e1 dL_law_2496 ?_
  refine Z_aload_n hC dL_law_2497 rfl rfl ?_
  refine Z_callH (k1 := k + 40) (n1 := n + 9000) [rv x, .int a1, rv o] [rv o, .int a1, rv x] hC lh_L_282 (hl_owesByDays hst hM hI.1 hO a1) rfl rfl (by simp only [List.map_cons, List.map_nil, rv_cat, List.sum_cons, List.sum_nil]; (try simp only [Value.category]); (try omega)) (by decide) rfl rfl (by omega) (by omega) dL_law_2498 (fun v9 M1 hq1 => ?_)
  obtain ⟨q1, c1, f1, o1, p1⟩ := hq1
  rw [q1]
  have m1 := hm.frX f1
  refine Z_istore hC dL_law_2501 (by decide) (ls1 := [some (.ref b), some (rv x), some (rv m), some (rv o), some (rv od), some (.int (nI (5 * t))), some (.int (nI (oOwes S a1).1))]) rfl ?_
  refine Z_aload_n hC dL_law_2503 rfl rfl ?_
  refine Z_aloadR_n hC dL_law_2504 rfl rfl ?_
  refine Z_iload hC dL_law_2505 rfl ?_
  refine Z_iconst hC dL_law_2507 (v := 1) (by decide) ?_
  refine Z_iadd hC dL_law_2508 ?_
  refine Z_sld hC hs v1 e1 dL_law_2509 ?_
  refine Z_callV (k1 := k + 40) (n1 := n + 9000) (kd := 6) [.int a1] [.int a1, rv m] hC lv_L_284 (ct_X5_owesByDays hst m1 hI.1 hlt a1) (congrArg Prod.fst m1.1.t0) (by decide) ⟨_, mE_6 (congrArg Prod.fst m1.1.t0)⟩ rfl rfl rfl (by simp only [List.map_cons, List.map_nil, rv_cat, List.sum_cons, List.sum_nil]; (try simp only [Value.category]); (try omega)) (by decide) rfl rfl (by omega) (by omega) dL_law_2510 (fun E M9 h => h) (fun v9 M2 hq2 => ?_)
  obtain ⟨w2, mA, g2, kA⟩ := hq2
  have cA := (c1.pM g2).1
  have oA := o1.fr g2 (by decide) (by decide)
  obtain ⟨i, hi⟩ := vi_oOwes S a1
  rw [w2, hi]
  have eO := g2.at o1.1 (by decide) (by decide)
  refine Z_istore hC dL_law_2513 (by decide) (ls1 := [some (.ref b), some (rv x), some (rv m), some (rv o), some (rv od), some (.int (nI (5 * t))), some (.int (nI (oOwes S a1).1)), some (.int i)]) rfl ?_
  refine Z_aload_n hC dL_law_2515 rfl rfl ?_
  refine Z_callV (k1 := k + 40) (n1 := n + 9000) (kd := 6) [] [rv m] hC lv_L_161 (ct_X5_thrown hst mA.1) (congrArg Prod.fst mA.1.t0) (by decide) ⟨_, mE_6 (congrArg Prod.fst mA.1.t0)⟩ rfl rfl rfl (by simp only [List.map_cons, List.map_nil, rv_cat, List.sum_cons, List.sum_nil]; (try simp only [Value.category]); (try omega)) (by decide) rfl rfl (by omega) (by omega) dL_law_2516 (fun E M9 h => h) (fun v9 M9 hq9 => ?_)
  obtain ⟨rfl, e9⟩ := hq9
  rw [e9, kA]; clear e9
  refine Z_iload hC dL_law_2519 rfl ?_
  refine Z_icmp_eq hC dL_law_2521 (tgt := 2526) (by decide) (fun c => ?_) (fun c => ?_)
  · refine Z_iload hC dL_law_2526 rfl ?_
    refine Z_if_ne hC dL_law_2528 (tgt := 2543) (by decide) (fun c => ?_) (fun c => ?_)
    · refine Z_goto hC dL_law_2543 (tgt := 2816) (by decide) ?_
      refine Z_sub hC (ls1 := lsL b x m o od t) ⟨rfl, rfl, rfl, rfl, rfl, rfl, trivial⟩ ?_
      refine Z_wide hC (k1 := k + 300) (n1 := n + 12000) (by omega) (by omega) ?_
      exact hE _ _ ⟨cA, mA, hI9, oA⟩
    · have h0 := nI_0of (vk_oOwes S a1) (Classical.not_not.mp c)
      obtain ⟨i2, hi2, p2⟩ := p1 h0
      have ei : i2 = i := Value.int.inj (hi2.symm.trans hi)
      have pA : mJ M2 o 0 = Int32.toInt64 i := by rw [eO.2.2.2.2.1, p2, ei]
      refine Z_aload_n hC dL_law_2531 rfl rfl ?_
      refine Z_iconst hC dL_law_2532 (v := 0) (by decide) ?_
      refine Z_lald hC (congrArg Prod.fst oA.1) (j := 0) (by decide) (by rw [oA.2.1]; decide) dL_law_2533 ?_
      rw [pA]
      refine Z_iload hC dL_law_2534 rfl ?_
      refine Z_i2l hC dL_law_2536 ?_
      refine Z_lcmp hC dL_law_2537 ?_
      rw [lcmp_self]
      refine Z_if_eq hC dL_law_2538 (tgt := 2543) (by decide) (fun c => ?_) (fun c => ?_)
      · refine Z_goto hC dL_law_2543 (tgt := 2816) (by decide) ?_
        refine Z_sub hC (ls1 := lsL b x m o od t) ⟨rfl, rfl, rfl, rfl, rfl, rfl, trivial⟩ ?_
        refine Z_wide hC (k1 := k + 300) (n1 := n + 12000) (by omega) (by omega) ?_
        exact hE _ _ ⟨cA, mA, hI9, oA⟩
      · exact absurd rfl c
  · exact absurd rfl c
theorem cs_pay {G : Gt} {γ : Γt} {mc ms d : Nat} {lh : Launch} {M : Mm} {x m o od b L t k n : Nat} {xs : Nat → Int32} {S : St} (hst : lh.stackTraces = false) (hC : Zok G γ RL cL_law (some .boolean) 20 mc ms lawQ lh 9) (hs : Sok G γ b L xs) (hL : 5 * t + 4 < L) (hL2 : L ≤ 2560) (h : LwI M x m o od S t) (hk : k + 300 ≤ mc) (hn : n + 12000 ≤ ms) (hE : ∀ (M9 : Mm) (S9 : St), LwI M9 x m o od S9 (t + 1) → JE G γ ET M9 2816 (lsL b x m o od t) [] (k + 300) (n + 12000)) : JE G γ ET M 2546 (lsL b x m o od t) [] k n := by
  obtain ⟨hM, hm, hI, hO⟩ := h
  have hlt : t < 512 := by omega
  have v1 := vp_s (j := 1) (b := 1) hL (by decide) rfl hL2
  obtain ⟨a1, e1⟩ : ∃ z, xs (nI (5 * t) + 1).toNatClampNeg = z := ⟨_, rfl⟩
  have v2 := vp_s (j := 2) (b := 2) hL (by decide) rfl hL2
  obtain ⟨a2, e2⟩ : ∃ z, xs (nI (5 * t) + 2).toNatClampNeg = z := ⟨_, rfl⟩
  have hI9 := iv_pay hI hlt a1 a2
  unfold lsL
  refine Z_aload_n hC dL_law_2546 rfl rfl ?_
  refine Z_aloadR_n hC dL_law_2547 rfl rfl ?_
  refine Z_iload hC dL_law_2548 rfl ?_
  refine Z_iconst hC dL_law_2550 (v := 1) (by decide) ?_
  refine Z_iadd hC dL_law_2551 ?_
  refine Z_sld hC hs v1 e1 dL_law_2552 ?_
  refine Z_aloadR_n hC dL_law_2553 rfl rfl ?_
  refine Z_iload hC dL_law_2554 rfl ?_
  refine Z_iconst hC dL_law_2556 (v := 2) (by decide) ?_
  refine Z_iadd hC dL_law_2557 ?_
  refine Z_sld hC hs v2 e2 dL_law_2558 ?_
  refine Z_aload_n hC dL_law_2559 rfl rfl ?_
  refine Z_callH (k1 := k + 40) (n1 := n + 9000) [rv x, .int a1, .int a2, rv o] [rv o, .int a2, .int a1, rv x] hC lh_L_285 (hl_pay hst hM hI.1 hO a1 a2) rfl rfl (by simp only [List.map_cons, List.map_nil, rv_cat, List.sum_cons, List.sum_nil]; (try simp only [Value.category]); (try omega)) (by decide) rfl rfl (by omega) (by omega) dL_law_2560 (fun v9 M1 hq1 => ?_)
  obtain ⟨q1, c1, f1, o1, p1⟩ := hq1
  rw [q1]
  have m1 := hm.frX f1
  refine Z_istore hC dL_law_2563 (by decide) (ls1 := [some (.ref b), some (rv x), some (rv m), some (rv o), some (rv od), some (.int (nI (5 * t))), some (.int (nI (oPay S a1 a2).1))]) rfl ?_
  refine Z_aload_n hC dL_law_2565 rfl rfl ?_
  refine Z_aloadR_n hC dL_law_2566 rfl rfl ?_
  refine Z_iload hC dL_law_2567 rfl ?_
  refine Z_iconst hC dL_law_2569 (v := 1) (by decide) ?_
  refine Z_iadd hC dL_law_2570 ?_
  refine Z_sld hC hs v1 e1 dL_law_2571 ?_
  refine Z_aloadR_n hC dL_law_2572 rfl rfl ?_
  refine Z_iload hC dL_law_2573 rfl ?_
  refine Z_iconst hC dL_law_2575 (v := 2) (by decide) ?_
  refine Z_iadd hC dL_law_2576 ?_
  refine Z_sld hC hs v2 e2 dL_law_2577 ?_
  refine Z_callV (k1 := k + 40) (n1 := n + 9000) (kd := 6) [.int a1, .int a2] [.int a2, .int a1, rv m] hC lv_L_287 (ct_X5_pay hst m1 hI.1 hlt a1 a2) (congrArg Prod.fst m1.1.t0) (by decide) ⟨_, mE_6 (congrArg Prod.fst m1.1.t0)⟩ rfl rfl rfl (by simp only [List.map_cons, List.map_nil, rv_cat, List.sum_cons, List.sum_nil]; (try simp only [Value.category]); (try omega)) (by decide) rfl rfl (by omega) (by omega) dL_law_2578 (fun E M9 h => h) (fun v9 M2 hq2 => ?_)
  obtain ⟨w2, mA, g2, kA⟩ := hq2
  have cA := (c1.pM g2).1
  have oA := o1.fr g2 (by decide) (by decide)
  obtain ⟨i, hi⟩ := vi_oPay S a1 a2
  rw [w2, hi]
  have eO := g2.at o1.1 (by decide) (by decide)
  refine Z_istore hC dL_law_2581 (by decide) (ls1 := [some (.ref b), some (rv x), some (rv m), some (rv o), some (rv od), some (.int (nI (5 * t))), some (.int (nI (oPay S a1 a2).1)), some (.int i)]) rfl ?_
  refine Z_aload_n hC dL_law_2583 rfl rfl ?_
  refine Z_callV (k1 := k + 40) (n1 := n + 9000) (kd := 6) [] [rv m] hC lv_L_161 (ct_X5_thrown hst mA.1) (congrArg Prod.fst mA.1.t0) (by decide) ⟨_, mE_6 (congrArg Prod.fst mA.1.t0)⟩ rfl rfl rfl (by simp only [List.map_cons, List.map_nil, rv_cat, List.sum_cons, List.sum_nil]; (try simp only [Value.category]); (try omega)) (by decide) rfl rfl (by omega) (by omega) dL_law_2584 (fun E M9 h => h) (fun v9 M9 hq9 => ?_)
  obtain ⟨rfl, e9⟩ := hq9
  rw [e9, kA]; clear e9
  refine Z_iload hC dL_law_2587 rfl ?_
  refine Z_icmp_eq hC dL_law_2589 (tgt := 2594) (by decide) (fun c => ?_) (fun c => ?_)
  · refine Z_iload hC dL_law_2594 rfl ?_
    refine Z_if_ne hC dL_law_2596 (tgt := 2611) (by decide) (fun c => ?_) (fun c => ?_)
    · refine Z_goto hC dL_law_2611 (tgt := 2816) (by decide) ?_
      refine Z_sub hC (ls1 := lsL b x m o od t) ⟨rfl, rfl, rfl, rfl, rfl, rfl, trivial⟩ ?_
      refine Z_wide hC (k1 := k + 300) (n1 := n + 12000) (by omega) (by omega) ?_
      exact hE _ _ ⟨cA, mA, hI9, oA⟩
    · have h0 := nI_0of (vk_oPay S a1 a2) (Classical.not_not.mp c)
      obtain ⟨i2, hi2, p2⟩ := p1 h0
      have ei : i2 = i := Value.int.inj (hi2.symm.trans hi)
      have pA : mJ M2 o 0 = Int32.toInt64 i := by rw [eO.2.2.2.2.1, p2, ei]
      refine Z_aload_n hC dL_law_2599 rfl rfl ?_
      refine Z_iconst hC dL_law_2600 (v := 0) (by decide) ?_
      refine Z_lald hC (congrArg Prod.fst oA.1) (j := 0) (by decide) (by rw [oA.2.1]; decide) dL_law_2601 ?_
      rw [pA]
      refine Z_iload hC dL_law_2602 rfl ?_
      refine Z_i2l hC dL_law_2604 ?_
      refine Z_lcmp hC dL_law_2605 ?_
      rw [lcmp_self]
      refine Z_if_eq hC dL_law_2606 (tgt := 2611) (by decide) (fun c => ?_) (fun c => ?_)
      · refine Z_goto hC dL_law_2611 (tgt := 2816) (by decide) ?_
        refine Z_sub hC (ls1 := lsL b x m o od t) ⟨rfl, rfl, rfl, rfl, rfl, rfl, trivial⟩ ?_
        refine Z_wide hC (k1 := k + 300) (n1 := n + 12000) (by omega) (by omega) ?_
        exact hE _ _ ⟨cA, mA, hI9, oA⟩
      · exact absurd rfl c
  · exact absurd rfl c
theorem cs_mostOwing {G : Gt} {γ : Γt} {mc ms d : Nat} {lh : Launch} {M : Mm} {x m o od b L t k n : Nat} {xs : Nat → Int32} {S : St} (hst : lh.stackTraces = false) (hC : Zok G γ RL cL_law (some .boolean) 20 mc ms lawQ lh 9) (hs : Sok G γ b L xs) (hL : 5 * t + 4 < L) (hL2 : L ≤ 2560) (h : LwI M x m o od S t) (hk : k + 300 ≤ mc) (hn : n + 12000 ≤ ms) (hE : ∀ (M9 : Mm) (S9 : St), LwI M9 x m o od S9 (t + 1) → JE G γ ET M9 2816 (lsL b x m o od t) [] (k + 300) (n + 12000)) : JE G γ ET M 2614 (lsL b x m o od t) [] k n := by
  obtain ⟨hM, hm, hI, hO⟩ := h
  have hlt : t < 512 := by omega
  have hI9 : Iv (oMost S).2.2 (t + 1) := by rw [vs_oMost]; exact hI.mono hlt
  unfold lsL
  refine Z_aload_n hC dL_law_2614 rfl rfl ?_
  refine Z_aload_n hC dL_law_2615 rfl rfl ?_
  refine Z_callH (k1 := k + 40) (n1 := n + 9000) [rv x, rv o] [rv o, rv x] hC lh_L_288 (hl_mostOwing hst hM hI.1 hO) rfl rfl (by simp only [List.map_cons, List.map_nil, rv_cat, List.sum_cons, List.sum_nil]; (try simp only [Value.category]); (try omega)) (by decide) rfl rfl (by omega) (by omega) dL_law_2616 (fun v9 M1 hq1 => ?_)
  obtain ⟨q1, c1, f1, o1, p1⟩ := hq1
  rw [q1]
  have m1 := hm.frX f1
  refine Z_istore hC dL_law_2619 (by decide) (ls1 := [some (.ref b), some (rv x), some (rv m), some (rv o), some (rv od), some (.int (nI (5 * t))), some (.int (nI (oMost S).1))]) rfl ?_
  refine Z_aload_n hC dL_law_2621 rfl rfl ?_
  refine Z_callV (k1 := k + 40) (n1 := n + 9000) (kd := 6) [] [rv m] hC lv_L_290 (ct_X5_mostOwing hst m1 hI.1 hlt) (congrArg Prod.fst m1.1.t0) (by decide) ⟨_, mE_6 (congrArg Prod.fst m1.1.t0)⟩ rfl rfl rfl (by simp only [List.map_cons, List.map_nil, rv_cat, List.sum_cons, List.sum_nil]; (try simp only [Value.category]); (try omega)) (by decide) rfl rfl (by omega) (by omega) dL_law_2622 (fun E M9 h => h) (fun v9 M2 hq2 => ?_)
  obtain ⟨w2, mA, g2, kA⟩ := hq2
  have cA := (c1.pM g2).1
  have oA := o1.fr g2 (by decide) (by decide)
  obtain ⟨i, hi⟩ := vi_oMost S
  rw [w2, hi]
  have eO := g2.at o1.1 (by decide) (by decide)
  refine Z_istore hC dL_law_2625 (by decide) (ls1 := [some (.ref b), some (rv x), some (rv m), some (rv o), some (rv od), some (.int (nI (5 * t))), some (.int (nI (oMost S).1)), some (.int i)]) rfl ?_
  refine Z_aload_n hC dL_law_2627 rfl rfl ?_
  refine Z_callV (k1 := k + 40) (n1 := n + 9000) (kd := 6) [] [rv m] hC lv_L_161 (ct_X5_thrown hst mA.1) (congrArg Prod.fst mA.1.t0) (by decide) ⟨_, mE_6 (congrArg Prod.fst mA.1.t0)⟩ rfl rfl rfl (by simp only [List.map_cons, List.map_nil, rv_cat, List.sum_cons, List.sum_nil]; (try simp only [Value.category]); (try omega)) (by decide) rfl rfl (by omega) (by omega) dL_law_2628 (fun E M9 h => h) (fun v9 M9 hq9 => ?_)
  obtain ⟨rfl, e9⟩ := hq9
  rw [e9, kA]; clear e9
  refine Z_iload hC dL_law_2631 rfl ?_
  refine Z_icmp_eq hC dL_law_2633 (tgt := 2638) (by decide) (fun c => ?_) (fun c => ?_)
  · refine Z_iload hC dL_law_2638 rfl ?_
    refine Z_if_ne hC dL_law_2640 (tgt := 2655) (by decide) (fun c => ?_) (fun c => ?_)
    · refine Z_goto hC dL_law_2655 (tgt := 2816) (by decide) ?_
      refine Z_sub hC (ls1 := lsL b x m o od t) ⟨rfl, rfl, rfl, rfl, rfl, rfl, trivial⟩ ?_
      refine Z_wide hC (k1 := k + 300) (n1 := n + 12000) (by omega) (by omega) ?_
      exact hE _ _ ⟨cA, mA, hI9, oA⟩
    · have h0 := nI_0of (vk_oMost S) (Classical.not_not.mp c)
      obtain ⟨i2, hi2, p2⟩ := p1 h0
      have ei : i2 = i := Value.int.inj (hi2.symm.trans hi)
      have pA : mJ M2 o 0 = Int32.toInt64 i := by rw [eO.2.2.2.2.1, p2, ei]
      refine Z_aload_n hC dL_law_2643 rfl rfl ?_
      refine Z_iconst hC dL_law_2644 (v := 0) (by decide) ?_
      refine Z_lald hC (congrArg Prod.fst oA.1) (j := 0) (by decide) (by rw [oA.2.1]; decide) dL_law_2645 ?_
      rw [pA]
      refine Z_iload hC dL_law_2646 rfl ?_
      refine Z_i2l hC dL_law_2648 ?_
      refine Z_lcmp hC dL_law_2649 ?_
      rw [lcmp_self]
      refine Z_if_eq hC dL_law_2650 (tgt := 2655) (by decide) (fun c => ?_) (fun c => ?_)
      · refine Z_goto hC dL_law_2655 (tgt := 2816) (by decide) ?_
        refine Z_sub hC (ls1 := lsL b x m o od t) ⟨rfl, rfl, rfl, rfl, rfl, rfl, trivial⟩ ?_
        refine Z_wide hC (k1 := k + 300) (n1 := n + 12000) (by omega) (by omega) ?_
        exact hE _ _ ⟨cA, mA, hI9, oA⟩
      · exact absurd rfl c
  · exact absurd rfl c
theorem cs_collected {G : Gt} {γ : Γt} {mc ms d : Nat} {lh : Launch} {M : Mm} {x m o od b L t k n : Nat} {xs : Nat → Int32} {S : St} (hst : lh.stackTraces = false) (hC : Zok G γ RL cL_law (some .boolean) 20 mc ms lawQ lh 9) (hs : Sok G γ b L xs) (hL : 5 * t + 4 < L) (hL2 : L ≤ 2560) (h : LwI M x m o od S t) (hk : k + 300 ≤ mc) (hn : n + 12000 ≤ ms) (hE : ∀ (M9 : Mm) (S9 : St), LwI M9 x m o od S9 (t + 1) → JE G γ ET M9 2816 (lsL b x m o od t) [] (k + 300) (n + 12000)) : JE G γ ET M 2658 (lsL b x m o od t) [] k n := by
  obtain ⟨hM, hm, hI, hO⟩ := h
  have hlt : t < 512 := by omega
  have hI9 : Iv (oCollected S).2.2 (t + 1) := by rw [vs_oCollected]; exact hI.mono hlt
  unfold lsL
  refine Z_aload_n hC dL_law_2658 rfl rfl ?_
  refine Z_callV (k1 := k + 8) (n1 := n + 48) (kd := 5) [] [rv x] hC lv_L_291 (ct_X4_collected hst hM hI.1) hM.tx (by decide) ⟨_, mE_5 hM.tx⟩ rfl rfl rfl (by simp only [List.map_cons, List.map_nil, rv_cat, List.sum_cons, List.sum_nil]; (try simp only [Value.category]); (try omega)) (by decide) rfl rfl (by omega) (by omega) dL_law_2659 (fun E M9 h => by obtain ⟨z, hz, -⟩ := h; simp at hz) (fun v9 M1 hq1 => ?_)
  obtain ⟨-, q1, c1, f1⟩ := hq1
  rw [q1]
  have m1 := hm.frX (f1.mono pC_pX)
  have o1 := hO.fr f1 (by decide) (by decide)
  refine Z_aload_n hC dL_law_2662 rfl rfl ?_
  refine Z_callV (k1 := k + 8) (n1 := n + 48) (kd := 6) [] [rv m, .long (sC S)] hC lv_L_295 (ct_X5_collected hst m1 hI.1 hlt) (congrArg Prod.fst m1.1.t0) (by decide) ⟨_, mE_6 (congrArg Prod.fst m1.1.t0)⟩ rfl rfl rfl (by simp only [List.map_cons, List.map_nil, rv_cat, List.sum_cons, List.sum_nil]; (try simp only [Value.category]); (try omega)) (by decide) rfl rfl (by omega) (by omega) dL_law_2663 (fun E M9 h => h) (fun v9 M2 hq2 => ?_)
  obtain ⟨w2, mA, g2, kA⟩ := hq2
  have cA := (c1.pM g2).1
  have oA := o1.fr g2 (by decide) (by decide)
  rw [w2]
  refine Z_lcmp hC dL_law_2666 ?_
  rw [lcmp_self]
  refine Z_if_eq hC dL_law_2667 (tgt := 2816) (by decide) (fun c => ?_) (fun c => ?_)
  · refine Z_sub hC (ls1 := lsL b x m o od t) ⟨rfl, rfl, rfl, rfl, rfl, rfl, trivial⟩ ?_
    refine Z_wide hC (k1 := k + 300) (n1 := n + 12000) (by omega) (by omega) ?_
    exact hE _ _ ⟨cA, mA, hI9, oA⟩
  · exact absurd rfl c
theorem cs_roadShare {G : Gt} {γ : Γt} {mc ms d : Nat} {lh : Launch} {M : Mm} {x m o od b L t k n : Nat} {xs : Nat → Int32} {S : St} (hst : lh.stackTraces = false) (hC : Zok G γ RL cL_law (some .boolean) 20 mc ms lawQ lh 9) (hs : Sok G γ b L xs) (hL : 5 * t + 4 < L) (hL2 : L ≤ 2560) (h : LwI M x m o od S t) (hk : k + 300 ≤ mc) (hn : n + 12000 ≤ ms) (hE : ∀ (M9 : Mm) (S9 : St), LwI M9 x m o od S9 (t + 1) → JE G γ ET M9 2816 (lsL b x m o od t) [] (k + 300) (n + 12000)) : JE G γ ET M 2672 (lsL b x m o od t) [] k n := by
  obtain ⟨hM, hm, hI, hO⟩ := h
  have hlt : t < 512 := by omega
  have hI9 : Iv (oRoadShare S).2.2 (t + 1) := by rw [vs_oRoadShare]; exact hI.mono hlt
  unfold lsL
  refine Z_aload_n hC dL_law_2672 rfl rfl ?_
  refine Z_aload hC dL_law_2673 rfl ?_
  refine Z_callH (k1 := k + 8) (n1 := n + 48) [rv x, rv od] [rv od, rv x] hC lh_L_296 (hl_roadShare hst hM hI.1 hO) rfl rfl (by simp only [List.map_cons, List.map_nil, rv_cat, List.sum_cons, List.sum_nil]; (try simp only [Value.category]); (try omega)) (by decide) rfl rfl (by omega) (by omega) dL_law_2675 (fun v9 M1 hq1 => ?_)
  obtain ⟨q1, c1, f1, o1, p1⟩ := hq1
  rw [q1]
  have m1 := hm.frX f1
  refine Z_istore hC dL_law_2678 (by decide) (ls1 := [some (.ref b), some (rv x), some (rv m), some (rv o), some (rv od), some (.int (nI (5 * t))), some (.int (nI (oRoadShare S).1))]) rfl ?_
  refine Z_aload_n hC dL_law_2680 rfl rfl ?_
  refine Z_callV (k1 := k + 8) (n1 := n + 48) (kd := 6) [] [rv m] hC lv_L_299 (ct_X5_roadShare hst m1 hI.1 hlt) (congrArg Prod.fst m1.1.t0) (by decide) ⟨_, mE_6 (congrArg Prod.fst m1.1.t0)⟩ rfl rfl rfl (by simp only [List.map_cons, List.map_nil, rv_cat, List.sum_cons, List.sum_nil]; (try simp only [Value.category]); (try omega)) (by decide) rfl rfl (by omega) (by omega) dL_law_2681 (fun E M9 h => h) (fun v9 M2 hq2 => ?_)
  obtain ⟨⟨i, hi⟩, h2, mA, g2, kA⟩ := hq2
  have eS := vs_oRoadShare S
  rw [← eS] at mA
  have cA := (c1.pM g2).1
  have oA := o1.fr g2 (by decide) (by decide)
  have eO := g2.at o1.2.2.1 (by decide) (by decide)
  rw [hi]
  refine Z_fstore hC dL_law_2684 (by decide) (ls1 := [some (.ref b), some (rv x), some (rv m), some (rv o), some (rv od), some (.int (nI (5 * t))), some (.int (nI (oRoadShare S).1)), some (.float i)]) rfl ?_
  refine Z_aload_n hC dL_law_2686 rfl rfl ?_
  refine Z_callV (k1 := k + 8) (n1 := n + 48) (kd := 6) [] [rv m] hC lv_L_161 (ct_X5_thrown hst mA.1) (congrArg Prod.fst mA.1.t0) (by decide) ⟨_, mE_6 (congrArg Prod.fst mA.1.t0)⟩ rfl rfl rfl (by simp only [List.map_cons, List.map_nil, rv_cat, List.sum_cons, List.sum_nil]; (try simp only [Value.category]); (try omega)) (by decide) rfl rfl (by omega) (by omega) dL_law_2687 (fun E M9 h => h) (fun v9 M9 hq9 => ?_)
  obtain ⟨rfl, e9⟩ := hq9
  rw [e9, kA]; clear e9
  refine Z_iload hC dL_law_2690 rfl ?_
  refine Z_icmp_eq hC dL_law_2692 (tgt := 2697) (by decide) (fun c => ?_) (fun c => ?_)
  · refine Z_iload hC dL_law_2697 rfl ?_
    refine Z_if_ne hC dL_law_2699 (tgt := 2735) (by decide) (fun c => ?_) (fun c => ?_)
    · refine Z_goto hC dL_law_2735 (tgt := 2816) (by decide) ?_
      refine Z_sub hC (ls1 := lsL b x m o od t) ⟨rfl, rfl, rfl, rfl, rfl, rfl, trivial⟩ ?_
      refine Z_wide hC (k1 := k + 300) (n1 := n + 12000) (by omega) (by omega) ?_
      exact hE _ _ ⟨cA, mA, hI9, oA⟩
    · have h0 := nI_0of (vk_oRoadShare S) (Classical.not_not.mp c)
      obtain ⟨i2, hi2, p2⟩ := p1 h0
      have e2 := (h2 h0).symm.trans hi
      rw [hi2] at e2
      have ei : i2 = i := Value.float.inj (Option.some.inj e2)
      have pA : mD M2 od 0 = FP.f2d i := by rw [eO.2.2.2.2.2, p2, ei]
      obtain ⟨i3, hi3, hn3, hm3⟩ := vG_oRoadShare S hI.1 h0
      have ei3 : i3 = i := (Value.float.inj (hi3.symm.trans hi2)).trans ei
      rw [ei3] at hn3 hm3
      have hn9 := hn3
      have hcmp := hm3
      refine Z_aload hC dL_law_2702 rfl ?_
      refine Z_iconst hC dL_law_2704 (v := 0) (by decide) ?_
      refine Z_dald hC (congrArg Prod.fst oA.2.2.1) (j := 0) (by decide) (by rw [oA.2.2.2]; decide) dL_law_2705 ?_
      rw [pA]
      refine Z_fload hC dL_law_2706 rfl ?_
      refine Z_f2d hC dL_law_2708 hn9 ?_
      refine Z_dcmp hC dL_law_2709 ?_
      rw [hcmp]
      refine Z_if_eq hC dL_law_2710 (tgt := 2735) (by decide) (fun c => ?_) (fun c => ?_)
      · refine Z_goto hC dL_law_2735 (tgt := 2816) (by decide) ?_
        refine Z_sub hC (ls1 := lsL b x m o od t) ⟨rfl, rfl, rfl, rfl, rfl, rfl, trivial⟩ ?_
        refine Z_wide hC (k1 := k + 300) (n1 := n + 12000) (by omega) (by omega) ?_
        exact hE _ _ ⟨cA, mA, hI9, oA⟩
      · exact absurd rfl c
  · exact absurd rfl c
theorem cs_isSound {G : Gt} {γ : Γt} {mc ms d : Nat} {lh : Launch} {M : Mm} {x m o od b L t k n : Nat} {xs : Nat → Int32} {S : St} (hst : lh.stackTraces = false) (hC : Zok G γ RL cL_law (some .boolean) 20 mc ms lawQ lh 9) (hs : Sok G γ b L xs) (hL : 5 * t + 4 < L) (hL2 : L ≤ 2560) (h : LwI M x m o od S t) (hk : k + 300 ≤ mc) (hn : n + 12000 ≤ ms) (hE : ∀ (M9 : Mm) (S9 : St), LwI M9 x m o od S9 (t + 1) → JE G γ ET M9 2816 (lsL b x m o od t) [] (k + 300) (n + 12000)) : JE G γ ET M 2803 (lsL b x m o od t) [] k n := by
  obtain ⟨hM, hm, hI, hO⟩ := h
  have hlt : t < 512 := by omega
  have hI9 : Iv (oSound S).2.2 (t + 1) := by rw [vs_oSound]; exact hI.mono hlt
  unfold lsL
  refine Z_aload_n hC dL_law_2803 rfl rfl ?_
  refine Z_callV (k1 := k + 0) (n1 := n + 0) (kd := 5) [] [rv x] hC lv_L_303 (ct_X4_isSound hst hM hI.1) hM.tx (by decide) ⟨_, mE_5 hM.tx⟩ rfl rfl rfl (by simp only [List.map_cons, List.map_nil, rv_cat, List.sum_cons, List.sum_nil]; (try simp only [Value.category]); (try omega)) (by decide) rfl rfl (by omega) (by omega) dL_law_2804 (fun E M9 h => h.elim) (fun v9 M1 hq1 => ?_)
  obtain ⟨-, q1, c1, f1⟩ := hq1
  rw [q1]
  have m1 := hm.frX (f1.mono pC_pX)
  have o1 := hO.fr f1 (by decide) (by decide)
  refine Z_aload_n hC dL_law_2807 rfl rfl ?_
  refine Z_callV (k1 := k + 0) (n1 := n + 0) (kd := 6) [] [rv m, .int 1] hC lv_L_307 (ct_X5_isSound hst m1 hI.1 hlt) (congrArg Prod.fst m1.1.t0) (by decide) ⟨_, mE_6 (congrArg Prod.fst m1.1.t0)⟩ rfl rfl rfl (by simp only [List.map_cons, List.map_nil, rv_cat, List.sum_cons, List.sum_nil]; (try simp only [Value.category]); (try omega)) (by decide) rfl rfl (by omega) (by omega) dL_law_2808 (fun E M9 h => h) (fun v9 M2 hq2 => ?_)
  obtain ⟨w2, mA, g2, kA⟩ := hq2
  have cA := (c1.pM g2).1
  have oA := o1.fr g2 (by decide) (by decide)
  rw [w2]
  refine Z_icmp_eq hC dL_law_2811 (tgt := 2816) (by decide) (fun c => ?_) (fun c => ?_)
  · refine Z_sub hC (ls1 := lsL b x m o od t) ⟨rfl, rfl, rfl, rfl, rfl, rfl, trivial⟩ ?_
    refine Z_wide hC (k1 := k + 300) (n1 := n + 12000) (by omega) (by omega) ?_
    exact hE _ _ ⟨cA, mA, hI9, oA⟩
  · exact absurd rfl c
