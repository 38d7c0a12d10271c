/-! the law's loop -/
theorem and63 (v : Int32) : ∃ w : Nat, w < 64 ∧ v &&& 63 = nI w := by
  have h : (v &&& 63).toInt = v.toInt % 2 ^ 6 := Jvm.Kit.i32_mask v 63 (by decide) (by decide)
  refine ⟨(v.toInt % 2 ^ 6).toNat, by omega, ?_⟩
  refine i_ext ?_
  rw [h, nI_toInt (by omega)]
  omega
theorem MAt.mono {M : Mm} {m : Nat} {S : St} {t : Nat} (h : MAt M m S t) (ht : t < 512) : MAt M m S (t + 1) := by
  obtain ⟨h0, nP, nR, nS, h1, a, b, c⟩ := h
  exact ⟨h0, nP, nR, nS, h1, by omega, by omega, by omega⟩
theorem lw_head {G : Gt} {γ : Γt} {mc ms : Nat} {lh : Launch} {M : Mm} {x m o od b L t k n : Nat} {xs : Nat → Int32} {S : St} (hst : lh.stackTraces = false) (hC : Zok G γ RL cL_law (some .boolean) 20 mc ms lawQ lh 9) (hs : Sok G γ b L xs) (hL2 : L ≤ 2560) (h : LwI M x m o od S t) (hk : k + 300 ≤ mc) (hn : n + 12000 ≤ ms) (h4 : 5 * t + 4 < L) (w : Nat) (hw : w < 64)
    (hE : ∀ (M9 : Mm) (S9 : St), LwI M9 x m o od S9 (t + 1) → JE G γ ET M9 2816 (lsL b x m o od t) [] (k + 300) (n + 12000)) : JE G γ ET M 44 (lsL b x m o od t) [.int (nI w)] k n := by
  by_cases h44 : w < 44
  · match w, h44 with
    | 0, _ => exact Z_tableIn hC dL_law_44 (off := 192) (tgt := 236) (by decide) (by decide) (by decide) (by decide) (cs_addKeeper (d := 0) hst hC hs h4 hL2 h (by omega) (by omega) hE)
    | 1, _ => exact Z_tableIn hC dL_law_44 (off := 236) (tgt := 280) (by decide) (by decide) (by decide) (by decide) (cs_pass (d := 0) hst hC hs h4 hL2 h (by omega) (by omega) hE)
    | 2, _ => exact Z_tableIn hC dL_law_44 (off := 292) (tgt := 336) (by decide) (by decide) (by decide) (by decide) (cs_day (d := 0) hst hC hs h4 hL2 h (by omega) (by omega) hE)
    | 3, _ => exact Z_tableIn hC dL_law_44 (off := 305) (tgt := 349) (by decide) (by decide) (by decide) (by decide) (cs_register (d := 0) hst hC hs h4 hL2 h (by omega) (by omega) hE)
    | 4, _ => exact Z_tableIn hC dL_law_44 (off := 375) (tgt := 419) (by decide) (by decide) (by decide) (by decide) (cs_bringIn (d := 0) hst hC hs h4 hL2 h (by omega) (by omega) hE)
    | 5, _ => exact Z_tableIn hC dL_law_44 (off := 445) (tgt := 489) (by decide) (by decide) (by decide) (by decide) (cs_admit (d := 0) hst hC hs h4 hL2 h (by omega) (by omega) hE)
    | 6, _ => exact Z_tableIn hC dL_law_44 (off := 501) (tgt := 545) (by decide) (by decide) (by decide) (by decide) (cs_setOnRoad (d := 0) hst hC hs h4 hL2 h (by omega) (by omega) hE)
    | 7, _ => exact Z_tableIn hC dL_law_44 (off := 592) (tgt := 636) (by decide) (by decide) (by decide) (by decide) (cs_isOnRoad (d := 0) hst hC hs h4 hL2 h (by omega) (by omega) hE)
    | 8, _ => exact Z_tableIn hC dL_law_44 (off := 667) (tgt := 711) (by decide) (by decide) (by decide) (by decide) (cs_scrap (d := 0) hst hC hs h4 hL2 h (by omega) (by omega) hE)
    | 9, _ => exact Z_tableIn hC dL_law_44 (off := 723) (tgt := 767) (by decide) (by decide) (by decide) (by decide) (cs_kindOf (d := 0) hst hC hs h4 hL2 h (by omega) (by omega) hE)
    | 10, _ => exact Z_tableIn hC dL_law_44 (off := 779) (tgt := 823) (by decide) (by decide) (by decide) (by decide) (cs_vehicles (d := 0) hst hC hs h4 hL2 h (by omega) (by omega) hE)
    | 11, _ => exact Z_tableIn hC dL_law_44 (off := 792) (tgt := 836) (by decide) (by decide) (by decide) (by decide) (cs_sell (d := 0) hst hC hs h4 hL2 h (by omega) (by omega) hE)
    | 12, _ => exact Z_tableIn hC dL_law_44 (off := 884) (tgt := 928) (by decide) (by decide) (by decide) (by decide) (cs_buy (d := 0) hst hC hs h4 hL2 h (by omega) (by omega) hE)
    | 13, _ => exact Z_tableIn hC dL_law_44 (off := 964) (tgt := 1008) (by decide) (by decide) (by decide) (by decide) (cs_withdraw (d := 0) hst hC hs h4 hL2 h (by omega) (by omega) hE)
    | 14, _ => exact Z_tableIn hC dL_law_44 (off := 1020) (tgt := 1064) (by decide) (by decide) (by decide) (by decide) (cs_stateOf (d := 0) hst hC hs h4 hL2 h (by omega) (by omega) hE)
    | 15, _ => exact Z_tableIn hC dL_law_44 (off := 1076) (tgt := 1120) (by decide) (by decide) (by decide) (by decide) (cs_partnerOf (d := 0) hst hC hs h4 hL2 h (by omega) (by omega) hE)
    | 16, _ => exact Z_tableIn hC dL_law_44 (off := 1132) (tgt := 1176) (by decide) (by decide) (by decide) (by decide) (cs_openNotices (d := 0) hst hC hs h4 hL2 h (by omega) (by omega) hE)
    | 17, _ => exact Z_tableIn hC dL_law_44 (off := 1188) (tgt := 1232) (by decide) (by decide) (by decide) (by decide) (cs_keeperOn (d := 0) hst hC hs h4 hL2 h (by omega) (by omega) hE)
    | 18, _ => exact Z_tableIn hC dL_law_44 (off := 1256) (tgt := 1300) (by decide) (by decide) (by decide) (by decide) (cs_keeperByGoing (d := 0) hst hC hs h4 hL2 h (by omega) (by omega) hE)
    | 19, _ => exact Z_tableIn hC dL_law_44 (off := 1324) (tgt := 1368) (by decide) (by decide) (by decide) (by decide) (cs_transfers (d := 0) hst hC hs h4 hL2 h (by omega) (by omega) hE)
    | 20, _ => exact Z_tableIn hC dL_law_44 (off := 1380) (tgt := 1424) (by decide) (by decide) (by decide) (by decide) (cs_transferDay (d := 0) hst hC hs h4 hL2 h (by omega) (by omega) hE)
    | 21, _ => exact Z_tableIn hC dL_law_44 (off := 1448) (tgt := 1492) (by decide) (by decide) (by decide) (by decide) (cs_keptBy (d := 0) hst hC hs h4 hL2 h (by omega) (by omega) hE)
    | 22, _ => exact Z_tableIn hC dL_law_44 (off := 1504) (tgt := 1548) (by decide) (by decide) (by decide) (by decide) (cs_addLien (d := 0) hst hC hs h4 hL2 h (by omega) (by omega) hE)
    | 23, _ => exact Z_tableIn hC dL_law_44 (off := 1586) (tgt := 1630) (by decide) (by decide) (by decide) (by decide) (cs_payLien (d := 0) hst hC hs h4 hL2 h (by omega) (by omega) hE)
    | 24, _ => exact Z_tableIn hC dL_law_44 (off := 1668) (tgt := 1712) (by decide) (by decide) (by decide) (by decide) (cs_lienOf (d := 0) hst hC hs h4 hL2 h (by omega) (by omega) hE)
    | 25, _ => exact Z_tableIn hC dL_law_44 (off := 1738) (tgt := 1782) (by decide) (by decide) (by decide) (by decide) (cs_isBlocked (d := 0) hst hC hs h4 hL2 h (by omega) (by omega) hE)
    | 26, _ => exact Z_tableIn hC dL_law_44 (off := 1801) (tgt := 1845) (by decide) (by decide) (by decide) (by decide) (cs_keepPlate (d := 0) hst hC hs h4 hL2 h (by omega) (by omega) hE)
    | 27, _ => exact Z_tableIn hC dL_law_44 (off := 1857) (tgt := 1901) (by decide) (by decide) (by decide) (by decide) (cs_putOn (d := 0) hst hC hs h4 hL2 h (by omega) (by omega) hE)
    | 28, _ => exact Z_tableIn hC dL_law_44 (off := 1925) (tgt := 1969) (by decide) (by decide) (by decide) (by decide) (cs_swapPlates (d := 0) hst hC hs h4 hL2 h (by omega) (by omega) hE)
    | 29, _ => exact Z_tableIn hC dL_law_44 (off := 1993) (tgt := 2037) (by decide) (by decide) (by decide) (by decide) (cs_plateState (d := 0) hst hC hs h4 hL2 h (by omega) (by omega) hE)
    | 30, _ => exact Z_tableIn hC dL_law_44 (off := 2049) (tgt := 2093) (by decide) (by decide) (by decide) (by decide) (cs_daysKept (d := 0) hst hC hs h4 hL2 h (by omega) (by omega) hE)
    | 31, _ => exact Z_tableIn hC dL_law_44 (off := 2105) (tgt := 2149) (by decide) (by decide) (by decide) (by decide) (cs_plates (d := 0) hst hC hs h4 hL2 h (by omega) (by omega) hE)
    | 32, _ => exact Z_tableIn hC dL_law_44 (off := 2118) (tgt := 2162) (by decide) (by decide) (by decide) (by decide) (cs_plateOn (d := 0) hst hC hs h4 hL2 h (by omega) (by omega) hE)
    | 33, _ => exact Z_tableIn hC dL_law_44 (off := 2186) (tgt := 2230) (by decide) (by decide) (by decide) (by decide) (cs_vehicleWith (d := 0) hst hC hs h4 hL2 h (by omega) (by omega) hE)
    | 34, _ => exact Z_tableIn hC dL_law_44 (off := 2254) (tgt := 2298) (by decide) (by decide) (by decide) (by decide) (cs_vehicleByVehicles (d := 0) hst hC hs h4 hL2 h (by omega) (by omega) hE)
    | 35, _ => exact Z_tableIn hC dL_law_44 (off := 2322) (tgt := 2366) (by decide) (by decide) (by decide) (by decide) (cs_due (d := 0) hst hC hs h4 hL2 h (by omega) (by omega) hE)
    | 36, _ => exact Z_tableIn hC dL_law_44 (off := 2390) (tgt := 2434) (by decide) (by decide) (by decide) (by decide) (cs_owes (d := 0) hst hC hs h4 hL2 h (by omega) (by omega) hE)
    | 37, _ => exact Z_tableIn hC dL_law_44 (off := 2446) (tgt := 2490) (by decide) (by decide) (by decide) (by decide) (cs_owesByDays (d := 0) hst hC hs h4 hL2 h (by omega) (by omega) hE)
    | 38, _ => exact Z_tableIn hC dL_law_44 (off := 2502) (tgt := 2546) (by decide) (by decide) (by decide) (by decide) (cs_pay (d := 0) hst hC hs h4 hL2 h (by omega) (by omega) hE)
    | 39, _ => exact Z_tableIn hC dL_law_44 (off := 2570) (tgt := 2614) (by decide) (by decide) (by decide) (by decide) (cs_mostOwing (d := 0) hst hC hs h4 hL2 h (by omega) (by omega) hE)
    | 40, _ => exact Z_tableIn hC dL_law_44 (off := 2614) (tgt := 2658) (by decide) (by decide) (by decide) (by decide) (cs_collected (d := 0) hst hC hs h4 hL2 h (by omega) (by omega) hE)
    | 41, _ => exact Z_tableIn hC dL_law_44 (off := 2628) (tgt := 2672) (by decide) (by decide) (by decide) (by decide) (cs_roadShare (d := 0) hst hC hs h4 hL2 h (by omega) (by omega) hE)
    | 42, _ => exact Z_tableIn hC dL_law_44 (off := 2694) (tgt := 2738) (by decide) (by decide) (by decide) (by decide) (cs_meanTransfers (d := 0) hst hC hs h4 hL2 h (by omega) (by omega) hE)
    | 43, _ => exact Z_tableIn hC dL_law_44 (off := 2759) (tgt := 2803) (by decide) (by decide) (by decide) (by decide) (cs_isSound (d := 0) hst hC hs h4 hL2 h (by omega) (by omega) hE)
    | q + 44, h9 => exact absurd h9 (by omega)
  · have hw1 : (nI w).toInt = (w : Int) := nI_toInt (by omega)
    refine Z_tableOut hC dL_law_44 (tgt := 2816) (Or.inr (by rw [hw1]; omega)) (by decide) ?_
    refine Z_wide hC (k1 := k + 300) (n1 := n + 12000) (by omega) (by omega) ?_
    exact hE _ _ ⟨h.1, h.2.1.mono (by omega), h.2.2.1.mono (by omega), h.2.2.2⟩
theorem lw_loop {G : Gt} {γ : Γt} {mc ms : Nat} {lh : Launch} {x m o od b L k0 n0 : Nat} {xs : Nat → Int32} (hst : lh.stackTraces = false) (hC : Zok G γ RL cL_law (some .boolean) 20 mc ms lawQ lh 9) (hs : Sok G γ b L xs) (hL2 : L ≤ 2560) (hk : k0 + 153900 ≤ mc) (hn : n0 + 6156000 ≤ ms) :
    ∀ (r t : Nat) (M : Mm) (S : St), t + r = 513 → LwI M x m o od S t → JE G γ ET M 28 (lsL b x m o od t) [] (k0 + 300 * t) (n0 + 12000 * t) := by
  intro r
  induction r with
  | zero =>
    intro t M S ht h
    have := h.2.2.1.1.bt
    exact absurd this (by omega)
  | succ r ih =>
    intro t M S ht h
    have ht5 := h.2.2.1.1.bt
    have e5 : (5 : Int32).toInt = 5 := by decide
    have eL : (nI L).toInt = (L : Int) := nI_toInt (by omega)
    have eI : (nI (5 * t)).toInt = ((5 * t : Nat) : Int) := nI_toInt (by omega)
    have eS : (nI L - 5).toInt = (L : Int) - 5 := by rw [i_sub (by omega) (by omega), eL, e5]
    refine Z_iload hC dL_law_28 (x := nI (5 * t)) rfl ?_
    refine Z_aloadR_n hC dL_law_30 rfl (a := b) rfl ?_
    refine Z_slen hC hs dL_law_31 ?_
    refine Z_iconst hC dL_law_32 (v := 5) (by decide) ?_
    refine Z_isub hC dL_law_33 ?_
    refine Z_icmp_gt hC dL_law_34 (tgt := 2822) (by decide) (fun c => ?_) (fun c => ?_)
    · refine Z_iconst hC dL_law_2822 (v := 1) (by decide) ?_
      exact Z_zret hC (by omega) (by omega) (by decide) dL_law_2823 rfl
    · have h4 : 5 * t + 4 < L := by
        have c1 := i_nlt c
        rw [i_le] at c1
        have c2 : (nI (5 * t)).toInt ≤ (nI L - 5).toInt := c1
        rw [eI, eS] at c2
        omega
      refine Z_aloadR_n hC dL_law_37 rfl (a := b) rfl ?_
      refine Z_iload hC dL_law_38 (x := nI (5 * t)) rfl ?_
      obtain ⟨a0, e0⟩ : ∃ z, xs (nI (5 * t)).toNatClampNeg = z := ⟨_, rfl⟩
      refine Z_sld hC hs (vp_in_nI (by omega) (by omega)) e0 dL_law_40 ?_
      refine Z_bipush hC dL_law_41 (v := 63) (by decide) ?_
      refine Z_iand hC dL_law_43 ?_
      obtain ⟨w, hw, ew⟩ := and63 a0
      rw [ew]
      refine lw_head hst hC hs hL2 h (by omega) (by omega) h4 w hw (fun M9 S9 h9 => ?_)
      have e9 : nI (5 * t) + Int32.ofInt 5 = nI (5 * (t + 1)) := by
        rw [show Int32.ofInt 5 = nI 5 by decide, nI_add]
        congr 1
      refine Z_iinc hC dL_law_2816 (by decide) rfl (v := nI (5 * (t + 1))) e9 (ls1 := lsL b x m o od (t + 1)) rfl ?_
      refine Z_goto hC dL_law_2819 (tgt := 28) (by decide) ?_
      refine Z_wide hC (k1 := k0 + 300 * (t + 1)) (n1 := n0 + 12000 * (t + 1)) (by omega) (by omega) ?_
      exact ih (t + 1) M9 S9 (by omega) h9
