/-! rows gone through -/
theorem CAt.vj1 {M : Mm} {x : Nat} {S : St} (h : CAt M x S) {j : Nat} (hj : j < 15) (hz : mR M (mR M x 0) j ≠ 0) : j < sN S 1 := Nat.lt_of_not_le fun g => hz (h.v.2 _ g hj)
theorem CAt.vj0 {M : Mm} {x : Nat} {S : St} (h : CAt M x S) (h0 : (mT M 0).1 = 0) {j : Nat} (hz : mR M (mR M x 0) j = 0) : ¬ j < sN S 1 := fun g => nz h0 ((h.v.1 _ g).tg) hz
theorem CAt.pj1 {M : Mm} {x : Nat} {S : St} (h : CAt M x S) {j : Nat} (hj : j < 40) (hz : mR M (mR M x 1) j ≠ 0) : j < sN S 2 := Nat.lt_of_not_le fun g => hz (h.p.2 _ g hj)
theorem CAt.pj0 {M : Mm} {x : Nat} {S : St} (h : CAt M x S) (h0 : (mT M 0).1 = 0) {j : Nat} (hz : mR M (mR M x 1) j = 0) : ¬ j < sN S 2 := fun g => nz h0 ((h.p.1 _ g).tg) hz
theorem CAt.oj1 {M : Mm} {x : Nat} {S : St} (h : CAt M x S) {j : Nat} (hj : j < 120) (hz : mR M (mR M x 2) j ≠ 0) : j < sN S 3 := Nat.lt_of_not_le fun g => hz (h.o.2 _ g hj)
theorem CAt.oj0 {M : Mm} {x : Nat} {S : St} (h : CAt M x S) (h0 : (mT M 0).1 = 0) {j : Nat} (hz : mR M (mR M x 2) j = 0) : ¬ j < sN S 3 := fun g => nz h0 ((h.o.1 _ g).tg) hz
theorem cnt_lt {f : Nat → Bool} {j n : Nat} (h : j < n) : cnt f (min (j + 1) n) = cnt f (min j n) + (if f j then 1 else 0) := by
  rw [Nat.min_eq_left (by omega : j + 1 ≤ n), Nat.min_eq_left (by omega : j ≤ n)]; rfl
theorem min_ge {j n : Nat} (h : ¬ j < n) : min (j + 1) n = min j n := by omega
theorem cnt_yes {f : Nat → Bool} {j n : Nat} {acc : Int32} (h : j < n) (hf : f j = true) (ha : acc = nI (cnt f (min j n))) : acc + 1 = nI (cnt f (min (j + 1) n)) := by
  rw [cnt_lt h, hf, ha]; exact nI_1 _
theorem cnt_no {f : Nat → Bool} {j n : Nat} {acc : Int32} (h : j < n) (hf : f j = false) (ha : acc = nI (cnt f (min j n))) : acc = nI (cnt f (min (j + 1) n)) := by
  rw [cnt_lt h, hf, ha]; rfl
theorem cnt_ge {f : Nat → Bool} {j n : Nat} {acc : Int32} (h : ¬ j < n) (ha : acc = nI (cnt f (min j n))) : acc = nI (cnt f (min (j + 1) n)) := by
  rw [min_ge h]; exact ha
theorem cnt_end {f : Nat → Bool} {n N : Nat} {acc : Int32} (h : n ≤ N) (ha : acc = nI (cnt f (min N n))) : acc = nI (cnt f n) := by
  rw [Nat.min_eq_right h] at ha; exact ha
theorem cnt_st {f : Nat → Bool} {n : Nat} : (0 : Int32) = nI (cnt f (min 0 n)) := by rw [Nat.zero_min]; rfl
theorem ct_X4_countOpen {G : Gt} {l : Launch} (hst : l.stackTraces = false) {M : Mm} {x : Nat} {S : St} (hM : CAt M x S)  : Ct G l yX4_countOpen cX4_countOpen 6 (some .int) 1 M [rv x] 0 0 (PQ M (.int (nI (cnt (fun i => decide (sO S i 5 = 111)) (sN S 3))))) (noX) := by
  obtain ⟨bK, bV, bP, bN⟩ := hM.b
  refine Ct_intro (own := RX4) (nm := "countOpen") (by decide +kernel) rfl rfl hst (fun w hw => by simp only [List.mem_cons, List.not_mem_nil, or_false] at hw; rcases hw with rfl <;> first | rfl | exact rv_cat _) (Nat.le_of_ble_eq_true rfl) (fun γ hC => ?_)
  show J G γ M 0 [some (rv x)] [] 0 0
  refine J_t0 (fun ht0 => ?_)
  refine J_iconst hC dX4_countOpen_0 (v := 0) (by decide) ?_
  refine J_istore_n hC dX4_countOpen_1 rfl (by decide) (ls1 := [some (rv x), some (.int 0)]) rfl ?_
  refine J_aload_n hC dX4_countOpen_2 rfl rfl ?_
  refine J_get5 hC lf_X4_23 (j := 2) hM.tx (v := rv (mR M x 2)) rfl dX4_countOpen_3 ?_
  refine J_astore_n hC dX4_countOpen_6 rfl (by decide) (ls1 := [some (rv x), some (.int 0), some (rv (mR M x 2))]) rfl ?_
  refine J_aload_n hC dX4_countOpen_7 rfl rfl ?_
  refine J_alen11 hC hM.tk2 dX4_countOpen_8 ?_
  rw [hM.lk2]
  refine J_istore_n hC dX4_countOpen_9 rfl (by decide) (ls1 := [some (rv x), some (.int 0), some (rv (mR M x 2)), some (.int (nI 120))]) rfl ?_
  refine J_iconst hC dX4_countOpen_10 (v := 0) (by decide) ?_
  refine J_istore hC dX4_countOpen_11 (by decide) (ls1 := [some (rv x), some (.int 0), some (rv (mR M x 2)), some (.int (nI 120)), some (.int 0)]) rfl ?_
  have L13 : ∀ (n9 : Nat) (j : Nat) (acc : Int32), 120 - j < n9 → (j ≤ 120) → (acc = nI (cnt (fun i => decide (sO S i 5 = 111)) (min j (sN S 3)))) → J G γ M 13 [some (rv x), some (.int acc), some (rv (mR M x 2)), some (.int (nI 120)), some (.int (nI j))] [] 0 0 := by
    intro n9
    induction n9 with
    | zero => intro j acc h9; exact absurd h9 (Nat.not_lt_zero _)
    | succ n9 ih =>
      intro j acc h9 hjN hi
      refine J_iload hC dX4_countOpen_13 rfl ?_
      refine J_iload_n hC dX4_countOpen_15 rfl rfl ?_
      refine J_icmp_ge hC dX4_countOpen_16 (tgt := 49) (by decide) (fun c16 => ?_) (fun c16 => ?_)
      · have hj9 : j = 120 := by have := le_nI (n := 120) (by omega) (by omega) c16; omega
        subst hj9
        refine J_iload_n hC dX4_countOpen_49 rfl rfl ?_
        refine J_iret hC (by decide) (by decide) dX4_countOpen_50 ?_
        exact ⟨congrArg (fun z => some (Value.int z)) (cnt_end (by omega) hi), rfl⟩
      · have hlt := ge_nI (n := 120) (by omega) (by omega) c16
        refine J_aload_n hC dX4_countOpen_19 rfl rfl ?_
        refine J_iload hC dX4_countOpen_20 rfl ?_
        refine J_aald11 hC hM.tk2 (j := j) (nI_toInt (by omega)) (by rw [hM.lk2]; omega) dX4_countOpen_22 ?_
        obtain ⟨e, ee⟩ : ∃ z, z = mR M (mR M x 2) j := ⟨_, rfl⟩
        rw [← ee]
        refine J_astore hC dX4_countOpen_23 (by decide) (ls1 := [some (rv x), some (.int acc), some (rv (mR M x 2)), some (.int (nI 120)), some (.int (nI j)), some (rv e)]) rfl ?_
        refine J_aload hC dX4_countOpen_25 rfl ?_
        refine J_ifnull hC dX4_countOpen_27 (tgt := 43) (by decide) (fun c27 => ?_) (fun c27 => ?_)
        · have hge : ¬ j < sN S 3 := hM.oj0 ht0 (ee.symm.trans (by first | exact c27 | exact nn c27))
          refine J_iinc hC dX4_countOpen_43 (by decide) rfl (v := nI (j + 1)) (nI_1 _) (ls1 := [some (rv x), some (.int acc), some (rv (mR M x 2)), some (.int (nI 120)), some (.int (nI (j + 1))), some (rv e)]) rfl ?_
          refine J_goto hC dX4_countOpen_46 (tgt := 13) (by decide) ?_
          refine J_sub hC (ls1 := [some (rv x), some (.int acc), some (rv (mR M x 2)), some (.int (nI 120)), some (.int (nI (j + 1)))]) ⟨rfl, rfl, rfl, rfl, rfl, trivial⟩ ?_
          exact ih (j + 1) _ (by omega) (by omega) (cnt_ge hge hi)
        · have hlt2 : j < sN S 3 := hM.oj1 hlt (fun h => c27 (ee.trans h))
          have we : NtA M e j S := by rw [ee]; exact hM.o.1 j hlt2
          refine J_aload hC dX4_countOpen_30 rfl ?_
          refine J_get1 hC lf_X4_165 (j := 5) we.tg (v := .int (sO S j 5)) (congrArg (fun z => some (Value.int z)) we.v5) dX4_countOpen_32 ?_
          refine J_bipush hC dX4_countOpen_35 (v := 111) (by decide) ?_
          refine J_icmp_ne hC dX4_countOpen_37 (tgt := 43) (by decide) (fun c37 => ?_) (fun c37 => ?_)
          · have q37 : ¬ sO S j 5 = 111 := c37
            refine J_iinc hC dX4_countOpen_43 (by decide) rfl (v := nI (j + 1)) (nI_1 _) (ls1 := [some (rv x), some (.int acc), some (rv (mR M x 2)), some (.int (nI 120)), some (.int (nI (j + 1))), some (rv e)]) rfl ?_
            refine J_goto hC dX4_countOpen_46 (tgt := 13) (by decide) ?_
            refine J_sub hC (ls1 := [some (rv x), some (.int acc), some (rv (mR M x 2)), some (.int (nI 120)), some (.int (nI (j + 1)))]) ⟨rfl, rfl, rfl, rfl, rfl, trivial⟩ ?_
            exact ih (j + 1) _ (by omega) (by omega) (cnt_no hlt2 (by simp [hlt2, q37]) hi)
          · have q37 : sO S j 5 = 111 := (nn c37)
            refine J_iinc hC dX4_countOpen_40 (by decide) rfl (v := acc + 1) rfl (ls1 := [some (rv x), some (.int (acc + 1)), some (rv (mR M x 2)), some (.int (nI 120)), some (.int (nI j)), some (rv e)]) rfl ?_
            refine J_iinc hC dX4_countOpen_43 (by decide) rfl (v := nI (j + 1)) (nI_1 _) (ls1 := [some (rv x), some (.int (acc + 1)), some (rv (mR M x 2)), some (.int (nI 120)), some (.int (nI (j + 1))), some (rv e)]) rfl ?_
            refine J_goto hC dX4_countOpen_46 (tgt := 13) (by decide) ?_
            refine J_sub hC (ls1 := [some (rv x), some (.int (acc + 1)), some (rv (mR M x 2)), some (.int (nI 120)), some (.int (nI (j + 1)))]) ⟨rfl, rfl, rfl, rfl, rfl, trivial⟩ ?_
            exact ih (j + 1) _ (by omega) (by omega) (cnt_yes hlt2 (by simp [hlt2, q37]) hi)
  exact L13 121 0 _ (by omega) (Nat.zero_le _) cnt_st
theorem ct_X4_countVehiclesWith {G : Gt} {l : Launch} (hst : l.stackTraces = false) {M : Mm} {x : Nat} {S : St} (hM : CAt M x S) (p : Int32) : Ct G l yX4_countVehiclesWith cX4_countVehiclesWith 7 (some .int) 3 M [rv x, .int p] 0 0 (PQ M (.int (nI (cnt (fun i => decide (lastV (sT S 1 i) = p)) (sN S 1))))) (noX) := by
  obtain ⟨bK, bV, bP, bN⟩ := hM.b
  refine Ct_intro (own := RX4) (nm := "countVehiclesWith") (by decide +kernel) rfl rfl hst (fun w hw => by simp only [List.mem_cons, List.not_mem_nil, or_false] at hw; rcases hw with rfl | rfl <;> first | rfl | exact rv_cat _) (Nat.le_of_ble_eq_true rfl) (fun γ hC => ?_)
  show J G γ M 0 [some (rv x), some (.int p)] [] 0 0
  refine J_t0 (fun ht0 => ?_)
  refine J_iconst hC dX4_countVehiclesWith_0 (v := 0) (by decide) ?_
  refine J_istore_n hC dX4_countVehiclesWith_1 rfl (by decide) (ls1 := [some (rv x), some (.int p), some (.int 0)]) rfl ?_
  refine J_aload_n hC dX4_countVehiclesWith_2 rfl rfl ?_
  refine J_get5 hC lf_X4_11 (j := 0) hM.tx (v := rv (mR M x 0)) rfl dX4_countVehiclesWith_3 ?_
  refine J_astore_n hC dX4_countVehiclesWith_6 rfl (by decide) (ls1 := [some (rv x), some (.int p), some (.int 0), some (rv (mR M x 0))]) rfl ?_
  refine J_aload_n hC dX4_countVehiclesWith_7 rfl rfl ?_
  refine J_alen9 hC hM.tk0 dX4_countVehiclesWith_8 ?_
  rw [hM.lk0]
  refine J_istore hC dX4_countVehiclesWith_9 (by decide) (ls1 := [some (rv x), some (.int p), some (.int 0), some (rv (mR M x 0)), some (.int (nI 15))]) rfl ?_
  refine J_iconst hC dX4_countVehiclesWith_11 (v := 0) (by decide) ?_
  refine J_istore hC dX4_countVehiclesWith_12 (by decide) (ls1 := [some (rv x), some (.int p), some (.int 0), some (rv (mR M x 0)), some (.int (nI 15)), some (.int 0)]) rfl ?_
  have L14 : ∀ (n9 : Nat) (j : Nat) (acc : Int32), 15 - j < n9 → (j ≤ 15) → (acc = nI (cnt (fun i => decide (lastV (sT S 1 i) = p)) (min j (sN S 1)))) → J G γ M 14 [some (rv x), some (.int p), some (.int acc), some (rv (mR M x 0)), some (.int (nI 15)), some (.int (nI j))] [] 0 0 := by
    intro n9
    induction n9 with
    | zero => intro j acc h9; exact absurd h9 (Nat.not_lt_zero _)
    | succ n9 ih =>
      intro j acc h9 hjN hi
      refine J_iload hC dX4_countVehiclesWith_14 rfl ?_
      refine J_iload hC dX4_countVehiclesWith_16 rfl ?_
      refine J_icmp_ge hC dX4_countVehiclesWith_18 (tgt := 53) (by decide) (fun c18 => ?_) (fun c18 => ?_)
      · have hj9 : j = 15 := by have := le_nI (n := 15) (by omega) (by omega) c18; omega
        subst hj9
        refine J_iload_n hC dX4_countVehiclesWith_53 rfl rfl ?_
        refine J_iret hC (by decide) (by decide) dX4_countVehiclesWith_54 ?_
        exact ⟨congrArg (fun z => some (Value.int z)) (cnt_end (by omega) hi), rfl⟩
      · have hlt := ge_nI (n := 15) (by omega) (by omega) c18
        refine J_aload_n hC dX4_countVehiclesWith_21 rfl rfl ?_
        refine J_iload hC dX4_countVehiclesWith_22 rfl ?_
        refine J_aald9 hC hM.tk0 (j := j) (nI_toInt (by omega)) (by rw [hM.lk0]; omega) dX4_countVehiclesWith_24 ?_
        obtain ⟨e, ee⟩ : ∃ z, z = mR M (mR M x 0) j := ⟨_, rfl⟩
        rw [← ee]
        refine J_astore hC dX4_countVehiclesWith_25 (by decide) (ls1 := [some (rv x), some (.int p), some (.int acc), some (rv (mR M x 0)), some (.int (nI 15)), some (.int (nI j)), some (rv e)]) rfl ?_
        refine J_aload hC dX4_countVehiclesWith_27 rfl ?_
        refine J_ifnull hC dX4_countVehiclesWith_29 (tgt := 47) (by decide) (fun c29 => ?_) (fun c29 => ?_)
        · have hge : ¬ j < sN S 1 := hM.vj0 ht0 (ee.symm.trans (by first | exact c29 | exact nn c29))
          refine J_iinc hC dX4_countVehiclesWith_47 (by decide) rfl (v := nI (j + 1)) (nI_1 _) (ls1 := [some (rv x), some (.int p), some (.int acc), some (rv (mR M x 0)), some (.int (nI 15)), some (.int (nI (j + 1))), some (rv e)]) rfl ?_
          refine J_goto hC dX4_countVehiclesWith_50 (tgt := 14) (by decide) ?_
          refine J_sub hC (ls1 := [some (rv x), some (.int p), some (.int acc), some (rv (mR M x 0)), some (.int (nI 15)), some (.int (nI (j + 1)))]) ⟨rfl, rfl, rfl, rfl, rfl, rfl, trivial⟩ ?_
          exact ih (j + 1) _ (by omega) (by omega) (cnt_ge hge hi)
        · have hlt2 : j < sN S 1 := hM.vj1 hlt (fun h => c29 (ee.trans h))
          have we : VeA M e j S := by rw [ee]; exact hM.v.1 j hlt2
          refine J_aload hC dX4_countVehiclesWith_32 rfl ?_
          refine J_get4 hC lf_X4_99 (j := 3) we.tg (v := rv (mR M e 3)) rfl dX4_countVehiclesWith_34 ?_
          refine J_callV (k1 := 0) (n1 := 0) (kd := 3) [] [rv (mR M e 3)] hC lv_X4_103 (ct_X2_lastValue hst we.T3) we.k3 (by decide) ⟨_, mE_3 we.k3⟩ rfl rfl rfl (by simp only [List.map_cons, List.map_nil, rv_cat, Value.category, List.sum_cons, List.sum_nil]; decide) (by decide) rfl rfl (by decide) (by decide) dX4_countVehiclesWith_37 (fun E M9 h => h.elim) (fun v9 M9 hq9 => ?_)
          obtain ⟨rfl, e9⟩ := hq9
          rw [e9]; clear e9
          refine J_iload_n hC dX4_countVehiclesWith_40 rfl rfl ?_
          refine J_icmp_ne hC dX4_countVehiclesWith_41 (tgt := 47) (by decide) (fun c41 => ?_) (fun c41 => ?_)
          · have q41 : ¬ lastV (sT S 1 (j)) = p := c41
            refine J_iinc hC dX4_countVehiclesWith_47 (by decide) rfl (v := nI (j + 1)) (nI_1 _) (ls1 := [some (rv x), some (.int p), some (.int acc), some (rv (mR M x 0)), some (.int (nI 15)), some (.int (nI (j + 1))), some (rv e)]) rfl ?_
            refine J_goto hC dX4_countVehiclesWith_50 (tgt := 14) (by decide) ?_
            refine J_sub hC (ls1 := [some (rv x), some (.int p), some (.int acc), some (rv (mR M x 0)), some (.int (nI 15)), some (.int (nI (j + 1)))]) ⟨rfl, rfl, rfl, rfl, rfl, rfl, trivial⟩ ?_
            exact ih (j + 1) _ (by omega) (by omega) (cnt_no hlt2 (by simp [hlt2, q41]) hi)
          · have q41 : lastV (sT S 1 (j)) = p := (nn c41)
            refine J_iinc hC dX4_countVehiclesWith_44 (by decide) rfl (v := acc + 1) rfl (ls1 := [some (rv x), some (.int p), some (.int (acc + 1)), some (rv (mR M x 0)), some (.int (nI 15)), some (.int (nI j)), some (rv e)]) rfl ?_
            refine J_iinc hC dX4_countVehiclesWith_47 (by decide) rfl (v := nI (j + 1)) (nI_1 _) (ls1 := [some (rv x), some (.int p), some (.int (acc + 1)), some (rv (mR M x 0)), some (.int (nI 15)), some (.int (nI (j + 1))), some (rv e)]) rfl ?_
            refine J_goto hC dX4_countVehiclesWith_50 (tgt := 14) (by decide) ?_
            refine J_sub hC (ls1 := [some (rv x), some (.int p), some (.int (acc + 1)), some (rv (mR M x 0)), some (.int (nI 15)), some (.int (nI (j + 1)))]) ⟨rfl, rfl, rfl, rfl, rfl, rfl, trivial⟩ ?_
            exact ih (j + 1) _ (by omega) (by omega) (cnt_yes hlt2 (by simp [hlt2, q41]) hi)
  exact L14 16 0 _ (by omega) (Nat.zero_le _) cnt_st
def ScB (S : St) : Prop := ∀ v, v < sN S 1 → sV S v 7 = 0 ∨ sV S v 7 = 1
theorem ScB.sc {S : St} (h : ScB S) : ∀ v, v < sN S 1 → sV S v 7 = 0 ∨ sV S v 7 = 1 := h
theorem ct_X4_unscrapped {G : Gt} {l : Launch} (hst : l.stackTraces = false) {M : Mm} {x : Nat} {S : St} (hM : CAt M x S) (hI : ScB S)  : Ct G l yX4_unscrapped cX4_unscrapped 6 (some .int) 1 M [rv x] 0 0 (PQ M (.int (nI (cnt (fun i => decide (sV S i 7 ≠ 1)) (sN S 1))))) (noX) := by
  obtain ⟨bK, bV, bP, bN⟩ := hM.b
  refine Ct_intro (own := RX4) (nm := "unscrapped") (by decide +kernel) rfl rfl hst (fun w hw => by simp only [List.mem_cons, List.not_mem_nil, or_false] at hw; rcases hw with rfl <;> first | rfl | exact rv_cat _) (Nat.le_of_ble_eq_true rfl) (fun γ hC => ?_)
  show J G γ M 0 [some (rv x)] [] 0 0
  refine J_t0 (fun ht0 => ?_)
  refine J_iconst hC dX4_unscrapped_0 (v := 0) (by decide) ?_
  refine J_istore_n hC dX4_unscrapped_1 rfl (by decide) (ls1 := [some (rv x), some (.int 0)]) rfl ?_
  refine J_aload_n hC dX4_unscrapped_2 rfl rfl ?_
  refine J_get5 hC lf_X4_11 (j := 0) hM.tx (v := rv (mR M x 0)) rfl dX4_unscrapped_3 ?_
  refine J_astore_n hC dX4_unscrapped_6 rfl (by decide) (ls1 := [some (rv x), some (.int 0), some (rv (mR M x 0))]) rfl ?_
  refine J_aload_n hC dX4_unscrapped_7 rfl rfl ?_
  refine J_alen9 hC hM.tk0 dX4_unscrapped_8 ?_
  rw [hM.lk0]
  refine J_istore_n hC dX4_unscrapped_9 rfl (by decide) (ls1 := [some (rv x), some (.int 0), some (rv (mR M x 0)), some (.int (nI 15))]) rfl ?_
  refine J_iconst hC dX4_unscrapped_10 (v := 0) (by decide) ?_
  refine J_istore hC dX4_unscrapped_11 (by decide) (ls1 := [some (rv x), some (.int 0), some (rv (mR M x 0)), some (.int (nI 15)), some (.int 0)]) rfl ?_
  have L13 : ∀ (n9 : Nat) (j : Nat) (acc : Int32), 15 - j < n9 → (j ≤ 15) → (acc = nI (cnt (fun i => decide (sV S i 7 ≠ 1)) (min j (sN S 1)))) → J G γ M 13 [some (rv x), some (.int acc), some (rv (mR M x 0)), some (.int (nI 15)), some (.int (nI j))] [] 0 0 := by
    intro n9
    induction n9 with
    | zero => intro j acc h9; exact absurd h9 (Nat.not_lt_zero _)
    | succ n9 ih =>
      intro j acc h9 hjN hi
      refine J_iload hC dX4_unscrapped_13 rfl ?_
      refine J_iload_n hC dX4_unscrapped_15 rfl rfl ?_
      refine J_icmp_ge hC dX4_unscrapped_16 (tgt := 47) (by decide) (fun c16 => ?_) (fun c16 => ?_)
      · have hj9 : j = 15 := by have := le_nI (n := 15) (by omega) (by omega) c16; omega
        subst hj9
        refine J_iload_n hC dX4_unscrapped_47 rfl rfl ?_
        refine J_iret hC (by decide) (by decide) dX4_unscrapped_48 ?_
        exact ⟨congrArg (fun z => some (Value.int z)) (cnt_end (by omega) hi), rfl⟩
      · have hlt := ge_nI (n := 15) (by omega) (by omega) c16
        refine J_aload_n hC dX4_unscrapped_19 rfl rfl ?_
        refine J_iload hC dX4_unscrapped_20 rfl ?_
        refine J_aald9 hC hM.tk0 (j := j) (nI_toInt (by omega)) (by rw [hM.lk0]; omega) dX4_unscrapped_22 ?_
        obtain ⟨e, ee⟩ : ∃ z, z = mR M (mR M x 0) j := ⟨_, rfl⟩
        rw [← ee]
        refine J_astore hC dX4_unscrapped_23 (by decide) (ls1 := [some (rv x), some (.int acc), some (rv (mR M x 0)), some (.int (nI 15)), some (.int (nI j)), some (rv e)]) rfl ?_
        refine J_aload hC dX4_unscrapped_25 rfl ?_
        refine J_ifnull hC dX4_unscrapped_27 (tgt := 41) (by decide) (fun c27 => ?_) (fun c27 => ?_)
        · have hge : ¬ j < sN S 1 := hM.vj0 ht0 (ee.symm.trans (by first | exact c27 | exact nn c27))
          refine J_iinc hC dX4_unscrapped_41 (by decide) rfl (v := nI (j + 1)) (nI_1 _) (ls1 := [some (rv x), some (.int acc), some (rv (mR M x 0)), some (.int (nI 15)), some (.int (nI (j + 1))), some (rv e)]) rfl ?_
          refine J_goto hC dX4_unscrapped_44 (tgt := 13) (by decide) ?_
          refine J_sub hC (ls1 := [some (rv x), some (.int acc), some (rv (mR M x 0)), some (.int (nI 15)), some (.int (nI (j + 1)))]) ⟨rfl, rfl, rfl, rfl, rfl, trivial⟩ ?_
          exact ih (j + 1) _ (by omega) (by omega) (cnt_ge hge hi)
        · have hlt2 : j < sN S 1 := hM.vj1 hlt (fun h => c27 (ee.trans h))
          have we : VeA M e j S := by rw [ee]; exact hM.v.1 j hlt2
          refine J_aload hC dX4_unscrapped_30 rfl ?_
          refine J_get4 hC lf_X4_94 (j := 7) we.tg (v := .int (sV S j 7)) (congrArg (fun z => some (Value.int z)) we.v7) dX4_unscrapped_32 ?_
          refine J_if_ne hC dX4_unscrapped_35 (tgt := 41) (by decide) (fun c35 => ?_) (fun c35 => ?_)
          · have s35 : sV S j 7 = 1 := (hI.sc _ hlt2).resolve_left c35
            refine J_iinc hC dX4_unscrapped_41 (by decide) rfl (v := nI (j + 1)) (nI_1 _) (ls1 := [some (rv x), some (.int acc), some (rv (mR M x 0)), some (.int (nI 15)), some (.int (nI (j + 1))), some (rv e)]) rfl ?_
            refine J_goto hC dX4_unscrapped_44 (tgt := 13) (by decide) ?_
            refine J_sub hC (ls1 := [some (rv x), some (.int acc), some (rv (mR M x 0)), some (.int (nI 15)), some (.int (nI (j + 1)))]) ⟨rfl, rfl, rfl, rfl, rfl, trivial⟩ ?_
            exact ih (j + 1) _ (by omega) (by omega) (cnt_no hlt2 (by simp [hlt2, s35]) hi)
          · have s35 : ¬ sV S j 7 = 1 := fun e => by rw [(nn c35)] at e; exact absurd e (by decide)
            refine J_iinc hC dX4_unscrapped_38 (by decide) rfl (v := acc + 1) rfl (ls1 := [some (rv x), some (.int (acc + 1)), some (rv (mR M x 0)), some (.int (nI 15)), some (.int (nI j)), some (rv e)]) rfl ?_
            refine J_iinc hC dX4_unscrapped_41 (by decide) rfl (v := nI (j + 1)) (nI_1 _) (ls1 := [some (rv x), some (.int (acc + 1)), some (rv (mR M x 0)), some (.int (nI 15)), some (.int (nI (j + 1))), some (rv e)]) rfl ?_
            refine J_goto hC dX4_unscrapped_44 (tgt := 13) (by decide) ?_
            refine J_sub hC (ls1 := [some (rv x), some (.int (acc + 1)), some (rv (mR M x 0)), some (.int (nI 15)), some (.int (nI (j + 1)))]) ⟨rfl, rfl, rfl, rfl, rfl, trivial⟩ ?_
            exact ih (j + 1) _ (by omega) (by omega) (cnt_yes hlt2 (by simp [hlt2, s35]) hi)
  exact L13 16 0 _ (by omega) (Nat.zero_le _) cnt_st
theorem ct_X4_openNotices {G : Gt} {l : Launch} (hst : l.stackTraces = false) {M : Mm} {x : Nat} {S : St} {t : Nat} (hM : CAt M x S) (hI : Inv S t) (v : Int32) : Ct G l yX4_openNotices cX4_openNotices 8 (some .int) 7 M [rv x, .int v] 8 48 (OkC M x (oOpen S v)) (ExC M x S (oOpen S v) [eIO]) := by
  obtain ⟨bK, bV, bP, bN⟩ := hM.b
  refine Ct_intro (own := RX4) (nm := "openNotices") (by decide +kernel) rfl rfl hst (fun w hw => by simp only [List.mem_cons, List.not_mem_nil, or_false] at hw; rcases hw with rfl | rfl <;> first | rfl | exact rv_cat _) (Nat.le_of_ble_eq_true rfl) (fun γ hC => ?_)
  show J G γ M 0 [some (rv x), some (.int v)] [] 0 0
  refine J_t0 (fun ht0 => ?_)
  refine J_aload_n hC dX4_openNotices_0 rfl rfl ?_
  refine J_iload_n hC dX4_openNotices_1 rfl rfl ?_
  refine J_callV (k1 := 1) (n1 := 6) (kd := 5) [.int v] [.int v, rv x] hC lv_X4_81 (ct_X4_vehicleAt hst hM v) hM.tx (by decide) ⟨_, mE_5 hM.tx⟩ rfl rfl rfl (by simp only [List.map_cons, List.map_nil, rv_cat, Value.category, List.sum_cons, List.sum_nil]; decide) (by decide) rfl rfl (by decide) (by decide) dX4_openNotices_2 (fun E M9 hx => by
        obtain ⟨rfl, rfl, nv⟩ := hx
        exact exc hM (k := 0) rfl (by simp [oOpen, nv])) (fun v9 M9 hq9 => ?_)
  obtain ⟨rfl, e9, hv⟩ := hq9
  rw [e9]; clear e9
  have xv := (isIx_ix hv).2
  obtain ⟨av, eav⟩ : ∃ z, z = mR M (mR M x 0) (ix v) := ⟨_, rfl⟩
  have wv : VeA M av (ix v) S := by rw [eav]; exact hM.v.1 _ xv
  show J G γ M _ _ (rv (mR M (mR M x 0) (ix v)) :: _) _ _
  rw [← eav]
  refine J_astore_n hC dX4_openNotices_5 rfl (by decide) (ls1 := [some (rv x), some (.int v), some (rv av)]) rfl ?_
  refine J_iconst hC dX4_openNotices_6 (v := 0) (by decide) ?_
  refine J_istore_n hC dX4_openNotices_7 rfl (by decide) (ls1 := [some (rv x), some (.int v), some (rv av), some (.int 0)]) rfl ?_
  refine J_aload_n hC dX4_openNotices_8 rfl rfl ?_
  refine J_get5 hC lf_X4_23 (j := 2) hM.tx (v := rv (mR M x 2)) rfl dX4_openNotices_9 ?_
  refine J_astore hC dX4_openNotices_12 (by decide) (ls1 := [some (rv x), some (.int v), some (rv av), some (.int 0), some (rv (mR M x 2))]) rfl ?_
  refine J_aload hC dX4_openNotices_14 rfl ?_
  refine J_alen11 hC hM.tk2 dX4_openNotices_16 ?_
  rw [hM.lk2]
  refine J_istore hC dX4_openNotices_17 (by decide) (ls1 := [some (rv x), some (.int v), some (rv av), some (.int 0), some (rv (mR M x 2)), some (.int (nI 120))]) rfl ?_
  refine J_iconst hC dX4_openNotices_19 (v := 0) (by decide) ?_
  refine J_istore hC dX4_openNotices_20 (by decide) (ls1 := [some (rv x), some (.int v), some (rv av), some (.int 0), some (rv (mR M x 2)), some (.int (nI 120)), some (.int 0)]) rfl ?_
  have L22 : ∀ (n9 : Nat) (j : Nat) (acc : Int32), 120 - j < n9 → (j ≤ 120) → (acc = nI (cnt (fun i => decide (sO S i 5 = 111 ∧ sO S i 2 = v)) (min j (sN S 3)))) → J G γ M 22 [some (rv x), some (.int v), some (rv av), some (.int acc), some (rv (mR M x 2)), some (.int (nI 120)), some (.int (nI j))] [] 1 6 := by
    intro n9
    induction n9 with
    | zero => intro j acc h9; exact absurd h9 (Nat.not_lt_zero _)
    | succ n9 ih =>
      intro j acc h9 hjN hi
      refine J_iload hC dX4_openNotices_22 rfl ?_
      refine J_iload hC dX4_openNotices_24 rfl ?_
      refine J_icmp_ge hC dX4_openNotices_26 (tgt := 62) (by decide) (fun c26 => ?_) (fun c26 => ?_)
      · have hj9 : j = 120 := by have := le_nI (n := 120) (by omega) (by omega) c26; omega
        subst hj9
        refine J_iload_n hC dX4_openNotices_62 rfl rfl ?_
        refine J_iret hC (by decide) (by decide) dX4_openNotices_63 ?_
        refine okc hM ?_
        rw [cnt_end (by omega) hi]
        simp [oOpen, hv]
      · have hlt := ge_nI (n := 120) (by omega) (by omega) c26
        refine J_aload hC dX4_openNotices_29 rfl ?_
        refine J_iload hC dX4_openNotices_31 rfl ?_
        refine J_aald11 hC hM.tk2 (j := j) (nI_toInt (by omega)) (by rw [hM.lk2]; omega) dX4_openNotices_33 ?_
        obtain ⟨e, ee⟩ : ∃ z, z = mR M (mR M x 2) j := ⟨_, rfl⟩
        rw [← ee]
        refine J_astore hC dX4_openNotices_34 (by decide) (ls1 := [some (rv x), some (.int v), some (rv av), some (.int acc), some (rv (mR M x 2)), some (.int (nI 120)), some (.int (nI j)), some (rv e)]) rfl ?_
        refine J_aload hC dX4_openNotices_36 rfl ?_
        refine J_ifnull hC dX4_openNotices_38 (tgt := 56) (by decide) (fun c38 => ?_) (fun c38 => ?_)
        · have hge : ¬ j < sN S 3 := hM.oj0 ht0 (ee.symm.trans (by first | exact c38 | exact nn c38))
          refine J_iinc hC dX4_openNotices_56 (by decide) rfl (v := nI (j + 1)) (nI_1 _) (ls1 := [some (rv x), some (.int v), some (rv av), some (.int acc), some (rv (mR M x 2)), some (.int (nI 120)), some (.int (nI (j + 1))), some (rv e)]) rfl ?_
          refine J_goto hC dX4_openNotices_59 (tgt := 22) (by decide) ?_
          refine J_sub hC (ls1 := [some (rv x), some (.int v), some (rv av), some (.int acc), some (rv (mR M x 2)), some (.int (nI 120)), some (.int (nI (j + 1)))]) ⟨rfl, rfl, rfl, rfl, rfl, rfl, rfl, trivial⟩ ?_
          exact ih (j + 1) _ (by omega) (by omega) (cnt_ge hge hi)
        · have hlt2 : j < sN S 3 := hM.oj1 hlt (fun h => c38 (ee.trans h))
          have we : NtA M e j S := by rw [ee]; exact hM.o.1 j hlt2
          refine J_aload hC dX4_openNotices_41 rfl ?_
          refine J_aload_n hC dX4_openNotices_43 rfl rfl ?_
          refine J_get4 hC lf_X4_78 (j := 0) wv.tg (v := .int v) (congrArg (fun z => some (Value.int z)) (wv.v0.trans (isIx_nI hv).symm)) dX4_openNotices_44 ?_
          refine J_callV (k1 := 1) (n1 := 6) (kd := 1) [.int v] [.int v, rv e] hC lv_X4_178 (ct_X0_isOpenFor hst we v) we.tg (by decide) ⟨_, mE_1 we.tg⟩ rfl rfl rfl (by simp only [List.map_cons, List.map_nil, rv_cat, Value.category, List.sum_cons, List.sum_nil]; decide) (by decide) rfl rfl (by decide) (by decide) dX4_openNotices_47 (fun E M9 h => h.elim) (fun v9 M9 hq9 => ?_)
          obtain ⟨rfl, e9⟩ := hq9
          rw [e9]; clear e9
          refine J_if_eq hC dX4_openNotices_50 (tgt := 56) (by decide) (fun c50 => ?_) (fun c50 => ?_)
          · have b50 : (decide (sO S (j) 5 = 111) && decide (sO S (j) 2 = v)) = false := bz_eq0 c50
            refine J_iinc hC dX4_openNotices_56 (by decide) rfl (v := nI (j + 1)) (nI_1 _) (ls1 := [some (rv x), some (.int v), some (rv av), some (.int acc), some (rv (mR M x 2)), some (.int (nI 120)), some (.int (nI (j + 1))), some (rv e)]) rfl ?_
            refine J_goto hC dX4_openNotices_59 (tgt := 22) (by decide) ?_
            refine J_sub hC (ls1 := [some (rv x), some (.int v), some (rv av), some (.int acc), some (rv (mR M x 2)), some (.int (nI 120)), some (.int (nI (j + 1)))]) ⟨rfl, rfl, rfl, rfl, rfl, rfl, rfl, trivial⟩ ?_
            exact ih (j + 1) _ (by omega) (by omega) (cnt_no hlt2 (by simp [hlt2, b50, hv]) hi)
          · have b50 : (decide (sO S (j) 5 = 111) && decide (sO S (j) 2 = v)) = true := bz_ne0 c50
            refine J_iinc hC dX4_openNotices_53 (by decide) rfl (v := acc + 1) rfl (ls1 := [some (rv x), some (.int v), some (rv av), some (.int (acc + 1)), some (rv (mR M x 2)), some (.int (nI 120)), some (.int (nI j)), some (rv e)]) rfl ?_
            refine J_iinc hC dX4_openNotices_56 (by decide) rfl (v := nI (j + 1)) (nI_1 _) (ls1 := [some (rv x), some (.int v), some (rv av), some (.int (acc + 1)), some (rv (mR M x 2)), some (.int (nI 120)), some (.int (nI (j + 1))), some (rv e)]) rfl ?_
            refine J_goto hC dX4_openNotices_59 (tgt := 22) (by decide) ?_
            refine J_sub hC (ls1 := [some (rv x), some (.int v), some (rv av), some (.int (acc + 1)), some (rv (mR M x 2)), some (.int (nI 120)), some (.int (nI (j + 1)))]) ⟨rfl, rfl, rfl, rfl, rfl, rfl, rfl, trivial⟩ ?_
            exact ih (j + 1) _ (by omega) (by omega) (cnt_yes hlt2 (by simp [hlt2, b50, hv]) hi)
  exact L22 121 0 _ (by omega) (Nat.zero_le _) cnt_st
theorem ct_X4_keptBy {G : Gt} {l : Launch} (hst : l.stackTraces = false) {M : Mm} {x : Nat} {S : St} {t : Nat} (hM : CAt M x S) (hI : Inv S t) (v : Int32) : Ct G l yX4_keptBy cX4_keptBy 7 (some .int) 7 M [rv x, .int v] 8 48 (OkC M x (oKeptBy S v)) (ExC M x S (oKeptBy S v) [eIO]) := by
  obtain ⟨bK, bV, bP, bN⟩ := hM.b
  refine Ct_intro (own := RX4) (nm := "keptBy") (by decide +kernel) rfl rfl hst (fun w hw => by simp only [List.mem_cons, List.not_mem_nil, or_false] at hw; rcases hw with rfl | rfl <;> first | rfl | exact rv_cat _) (Nat.le_of_ble_eq_true rfl) (fun γ hC => ?_)
  show J G γ M 0 [some (rv x), some (.int v)] [] 0 0
  refine J_t0 (fun ht0 => ?_)
  refine J_aload_n hC dX4_keptBy_0 rfl rfl ?_
  refine J_iload_n hC dX4_keptBy_1 rfl rfl ?_
  refine J_callV (k1 := 1) (n1 := 6) (kd := 5) [.int v] [.int v, rv x] hC lv_X4_56 (ct_X4_requireKeeper hst hM v) hM.tx (by decide) ⟨_, mE_5 hM.tx⟩ rfl rfl rfl (by simp only [List.map_cons, List.map_nil, rv_cat, Value.category, List.sum_cons, List.sum_nil]; decide) (by decide) rfl rfl (by decide) (by decide) dX4_keptBy_2 (fun E M9 hx => by
        obtain ⟨rfl, rfl, nv⟩ := hx
        exact exc hM (k := 0) rfl (by simp [oKeptBy, nv])) (fun v9 M9 hq9 => ?_)
  obtain ⟨rfl, e9, hv⟩ := hq9
  rw [e9]; clear e9
  have xv := (isIx_ix hv).2
  refine J_iconst hC dX4_keptBy_5 (v := 0) (by decide) ?_
  refine J_istore_n hC dX4_keptBy_6 rfl (by decide) (ls1 := [some (rv x), some (.int v), some (.int 0)]) rfl ?_
  refine J_aload_n hC dX4_keptBy_7 rfl rfl ?_
  refine J_get5 hC lf_X4_11 (j := 0) hM.tx (v := rv (mR M x 0)) rfl dX4_keptBy_8 ?_
  refine J_astore_n hC dX4_keptBy_11 rfl (by decide) (ls1 := [some (rv x), some (.int v), some (.int 0), some (rv (mR M x 0))]) rfl ?_
  refine J_aload_n hC dX4_keptBy_12 rfl rfl ?_
  refine J_alen9 hC hM.tk0 dX4_keptBy_13 ?_
  rw [hM.lk0]
  refine J_istore hC dX4_keptBy_14 (by decide) (ls1 := [some (rv x), some (.int v), some (.int 0), some (rv (mR M x 0)), some (.int (nI 15))]) rfl ?_
  refine J_iconst hC dX4_keptBy_16 (v := 0) (by decide) ?_
  refine J_istore hC dX4_keptBy_17 (by decide) (ls1 := [some (rv x), some (.int v), some (.int 0), some (rv (mR M x 0)), some (.int (nI 15)), some (.int 0)]) rfl ?_
  have L19 : ∀ (n9 : Nat) (j : Nat) (acc : Int32), 15 - j < n9 → (j ≤ 15) → (acc = nI (cnt (fun i => decide (sV S i 7 ≠ 1) && decide (lastV (sT S 0 i) = v)) (min j (sN S 1)))) → J G γ M 19 [some (rv x), some (.int v), some (.int acc), some (rv (mR M x 0)), some (.int (nI 15)), some (.int (nI j))] [] 1 6 := by
    intro n9
    induction n9 with
    | zero => intro j acc h9; exact absurd h9 (Nat.not_lt_zero _)
    | succ n9 ih =>
      intro j acc h9 hjN hi
      refine J_iload hC dX4_keptBy_19 rfl ?_
      refine J_iload hC dX4_keptBy_21 rfl ?_
      refine J_icmp_ge hC dX4_keptBy_23 (tgt := 66) (by decide) (fun c23 => ?_) (fun c23 => ?_)
      · have hj9 : j = 15 := by have := le_nI (n := 15) (by omega) (by omega) c23; omega
        subst hj9
        refine J_iload_n hC dX4_keptBy_66 rfl rfl ?_
        refine J_iret hC (by decide) (by decide) dX4_keptBy_67 ?_
        refine okc hM ?_
        rw [cnt_end (by omega) hi]
        simp [oKeptBy, hv]
      · have hlt := ge_nI (n := 15) (by omega) (by omega) c23
        refine J_aload_n hC dX4_keptBy_26 rfl rfl ?_
        refine J_iload hC dX4_keptBy_27 rfl ?_
        refine J_aald9 hC hM.tk0 (j := j) (nI_toInt (by omega)) (by rw [hM.lk0]; omega) dX4_keptBy_29 ?_
        obtain ⟨e, ee⟩ : ∃ z, z = mR M (mR M x 0) j := ⟨_, rfl⟩
        rw [← ee]
        refine J_astore hC dX4_keptBy_30 (by decide) (ls1 := [some (rv x), some (.int v), some (.int acc), some (rv (mR M x 0)), some (.int (nI 15)), some (.int (nI j)), some (rv e)]) rfl ?_
        refine J_aload hC dX4_keptBy_32 rfl ?_
        refine J_ifnull hC dX4_keptBy_34 (tgt := 60) (by decide) (fun c34 => ?_) (fun c34 => ?_)
        · have hge : ¬ j < sN S 1 := hM.vj0 ht0 (ee.symm.trans (by first | exact c34 | exact nn c34))
          refine J_iinc hC dX4_keptBy_60 (by decide) rfl (v := nI (j + 1)) (nI_1 _) (ls1 := [some (rv x), some (.int v), some (.int acc), some (rv (mR M x 0)), some (.int (nI 15)), some (.int (nI (j + 1))), some (rv e)]) rfl ?_
          refine J_goto hC dX4_keptBy_63 (tgt := 19) (by decide) ?_
          refine J_sub hC (ls1 := [some (rv x), some (.int v), some (.int acc), some (rv (mR M x 0)), some (.int (nI 15)), some (.int (nI (j + 1)))]) ⟨rfl, rfl, rfl, rfl, rfl, rfl, trivial⟩ ?_
          exact ih (j + 1) _ (by omega) (by omega) (cnt_ge hge hi)
        · have hlt2 : j < sN S 1 := hM.vj1 hlt (fun h => c34 (ee.trans h))
          have we : VeA M e j S := by rw [ee]; exact hM.v.1 j hlt2
          refine J_aload hC dX4_keptBy_37 rfl ?_
          refine J_get4 hC lf_X4_94 (j := 7) we.tg (v := .int (sV S j 7)) (congrArg (fun z => some (Value.int z)) we.v7) dX4_keptBy_39 ?_
          refine J_if_ne hC dX4_keptBy_42 (tgt := 60) (by decide) (fun c42 => ?_) (fun c42 => ?_)
          · have s42 : sV S j 7 = 1 := (hI.sc _ hlt2).resolve_left c42
            refine J_iinc hC dX4_keptBy_60 (by decide) rfl (v := nI (j + 1)) (nI_1 _) (ls1 := [some (rv x), some (.int v), some (.int acc), some (rv (mR M x 0)), some (.int (nI 15)), some (.int (nI (j + 1))), some (rv e)]) rfl ?_
            refine J_goto hC dX4_keptBy_63 (tgt := 19) (by decide) ?_
            refine J_sub hC (ls1 := [some (rv x), some (.int v), some (.int acc), some (rv (mR M x 0)), some (.int (nI 15)), some (.int (nI (j + 1)))]) ⟨rfl, rfl, rfl, rfl, rfl, rfl, trivial⟩ ?_
            exact ih (j + 1) _ (by omega) (by omega) (cnt_no hlt2 (by simp [hlt2, s42, hv]) hi)
          · have s42 : ¬ sV S j 7 = 1 := fun e => by rw [(nn c42)] at e; exact absurd e (by decide)
            refine J_aload hC dX4_keptBy_45 rfl ?_
            refine J_get4 hC lf_X4_182 (j := 2) we.tg (v := rv (mR M e 2)) rfl dX4_keptBy_47 ?_
            refine J_callV (k1 := 1) (n1 := 6) (kd := 3) [] [rv (mR M e 2)] hC lv_X4_103 (ct_X2_lastValue hst we.T2) we.k2 (by decide) ⟨_, mE_3 we.k2⟩ rfl rfl rfl (by simp only [List.map_cons, List.map_nil, rv_cat, Value.category, List.sum_cons, List.sum_nil]; decide) (by decide) rfl rfl (by decide) (by decide) dX4_keptBy_50 (fun E M9 h => h.elim) (fun v9 M9 hq9 => ?_)
            obtain ⟨rfl, e9⟩ := hq9
            rw [e9]; clear e9
            refine J_iload_n hC dX4_keptBy_53 rfl rfl ?_
            refine J_icmp_ne hC dX4_keptBy_54 (tgt := 60) (by decide) (fun c54 => ?_) (fun c54 => ?_)
            · have q54 : ¬ lastV (sT S 0 (j)) = v := c54
              refine J_iinc hC dX4_keptBy_60 (by decide) rfl (v := nI (j + 1)) (nI_1 _) (ls1 := [some (rv x), some (.int v), some (.int acc), some (rv (mR M x 0)), some (.int (nI 15)), some (.int (nI (j + 1))), some (rv e)]) rfl ?_
              refine J_goto hC dX4_keptBy_63 (tgt := 19) (by decide) ?_
              refine J_sub hC (ls1 := [some (rv x), some (.int v), some (.int acc), some (rv (mR M x 0)), some (.int (nI 15)), some (.int (nI (j + 1)))]) ⟨rfl, rfl, rfl, rfl, rfl, rfl, trivial⟩ ?_
              exact ih (j + 1) _ (by omega) (by omega) (cnt_no hlt2 (by simp [hlt2, s42, q54, hv]) hi)
            · have q54 : lastV (sT S 0 (j)) = v := (nn c54)
              refine J_iinc hC dX4_keptBy_57 (by decide) rfl (v := acc + 1) rfl (ls1 := [some (rv x), some (.int v), some (.int (acc + 1)), some (rv (mR M x 0)), some (.int (nI 15)), some (.int (nI j)), some (rv e)]) rfl ?_
              refine J_iinc hC dX4_keptBy_60 (by decide) rfl (v := nI (j + 1)) (nI_1 _) (ls1 := [some (rv x), some (.int v), some (.int (acc + 1)), some (rv (mR M x 0)), some (.int (nI 15)), some (.int (nI (j + 1))), some (rv e)]) rfl ?_
              refine J_goto hC dX4_keptBy_63 (tgt := 19) (by decide) ?_
              refine J_sub hC (ls1 := [some (rv x), some (.int v), some (.int (acc + 1)), some (rv (mR M x 0)), some (.int (nI 15)), some (.int (nI (j + 1)))]) ⟨rfl, rfl, rfl, rfl, rfl, rfl, trivial⟩ ?_
              exact ih (j + 1) _ (by omega) (by omega) (cnt_yes hlt2 (by simp [hlt2, s42, q54, hv]) hi)
  exact L19 16 0 _ (by omega) (Nat.zero_le _) cnt_st
theorem ct_X4_roadShare {G : Gt} {l : Launch} (hst : l.stackTraces = false) {M : Mm} {x : Nat} {S : St} {t : Nat} (hM : CAt M x S) (hI : Inv S t)  : Ct G l yX4_roadShare cX4_roadShare 6 (some .float) 7 M [rv x] 8 48 (OkC M x (oRoadShare S)) (ExC M x S (oRoadShare S) [eAE]) := by
  obtain ⟨bK, bV, bP, bN⟩ := hM.b
  refine Ct_intro (own := RX4) (nm := "roadShare") (by decide +kernel) rfl rfl hst (fun w hw => by simp only [List.mem_cons, List.not_mem_nil, or_false] at hw; rcases hw with rfl <;> first | rfl | exact rv_cat _) (Nat.le_of_ble_eq_true rfl) (fun γ hC => ?_)
  show J G γ M 0 [some (rv x)] [] 0 0
  refine J_t0 (fun ht0 => ?_)
  refine J_aload_n hC dX4_roadShare_0 rfl rfl ?_
  refine J_callV (k1 := 1) (n1 := 6) (kd := 5) [] [rv x] hC lv_X4_306 (ct_X4_requireVehicles hst hM) hM.tx (by decide) ⟨_, mE_5 hM.tx⟩ rfl rfl rfl (by simp only [List.map_cons, List.map_nil, rv_cat, Value.category, List.sum_cons, List.sum_nil]; decide) (by decide) rfl rfl (by decide) (by decide) dX4_roadShare_1 (fun E M9 hx => by
        obtain ⟨rfl, rfl, hz⟩ := hx
        exact exc hM (k := 0) rfl (by simp [oRoadShare, hz])) (fun v9 M9 hq9 => ?_)
  obtain ⟨rfl, e9, hnv⟩ := hq9
  rw [e9]; clear e9
  refine J_iconst hC dX4_roadShare_4 (v := 0) (by decide) ?_
  refine J_istore_n hC dX4_roadShare_5 rfl (by decide) (ls1 := [some (rv x), some (.int 0)]) rfl ?_
  refine J_aload_n hC dX4_roadShare_6 rfl rfl ?_
  refine J_get5 hC lf_X4_11 (j := 0) hM.tx (v := rv (mR M x 0)) rfl dX4_roadShare_7 ?_
  refine J_astore_n hC dX4_roadShare_10 rfl (by decide) (ls1 := [some (rv x), some (.int 0), some (rv (mR M x 0))]) rfl ?_
  refine J_aload_n hC dX4_roadShare_11 rfl rfl ?_
  refine J_alen9 hC hM.tk0 dX4_roadShare_12 ?_
  rw [hM.lk0]
  refine J_istore_n hC dX4_roadShare_13 rfl (by decide) (ls1 := [some (rv x), some (.int 0), some (rv (mR M x 0)), some (.int (nI 15))]) rfl ?_
  refine J_iconst hC dX4_roadShare_14 (v := 0) (by decide) ?_
  refine J_istore hC dX4_roadShare_15 (by decide) (ls1 := [some (rv x), some (.int 0), some (rv (mR M x 0)), some (.int (nI 15)), some (.int 0)]) rfl ?_
  have L17 : ∀ (n9 : Nat) (j : Nat) (acc : Int32), 15 - j < n9 → (j ≤ 15) → (acc = nI (cnt (fun i => decide (lastV (sT S 2 i) = 1)) (min j (sN S 1)))) → J G γ M 17 [some (rv x), some (.int acc), some (rv (mR M x 0)), some (.int (nI 15)), some (.int (nI j))] [] 1 6 := by
    intro n9
    induction n9 with
    | zero => intro j acc h9; exact absurd h9 (Nat.not_lt_zero _)
    | succ n9 ih =>
      intro j acc h9 hjN hi
      refine J_iload hC dX4_roadShare_17 rfl ?_
      refine J_iload_n hC dX4_roadShare_19 rfl rfl ?_
      refine J_icmp_ge hC dX4_roadShare_20 (tgt := 51) (by decide) (fun c20 => ?_) (fun c20 => ?_)
      · have hj9 : j = 15 := by have := le_nI (n := 15) (by omega) (by omega) c20; omega
        subst hj9
        refine J_iload_n hC dX4_roadShare_51 rfl rfl ?_
        refine J_i2f hC dX4_roadShare_52 ?_
        refine J_aload_n hC dX4_roadShare_53 rfl rfl ?_
        refine J_get5 hC lf_X4_149 (j := 7) hM.tx (v := .int (nI (sN S 1))) (congrArg (fun z => some (Value.int z)) hM.c7) dX4_roadShare_54 ?_
        refine J_i2f hC dX4_roadShare_57 ?_
        refine J_fdiv hC dX4_roadShare_58 (by rw [cnt_end (by omega) hi]; exact share_n _ (Nat.lt_of_le_of_lt (cnt_le _ _) (by omega)) _ (by omega) hnv) ?_
        refine J_fret hC (by decide) (by decide) dX4_roadShare_59 ?_
        refine okc hM ?_
        rw [cnt_end (by omega) hi]
        simp [oRoadShare, hnv, roadN]
      · have hlt := ge_nI (n := 15) (by omega) (by omega) c20
        refine J_aload_n hC dX4_roadShare_23 rfl rfl ?_
        refine J_iload hC dX4_roadShare_24 rfl ?_
        refine J_aald9 hC hM.tk0 (j := j) (nI_toInt (by omega)) (by rw [hM.lk0]; omega) dX4_roadShare_26 ?_
        obtain ⟨e, ee⟩ : ∃ z, z = mR M (mR M x 0) j := ⟨_, rfl⟩
        rw [← ee]
        refine J_astore hC dX4_roadShare_27 (by decide) (ls1 := [some (rv x), some (.int acc), some (rv (mR M x 0)), some (.int (nI 15)), some (.int (nI j)), some (rv e)]) rfl ?_
        refine J_aload hC dX4_roadShare_29 rfl ?_
        refine J_ifnull hC dX4_roadShare_31 (tgt := 45) (by decide) (fun c31 => ?_) (fun c31 => ?_)
        · have hge : ¬ j < sN S 1 := hM.vj0 ht0 (ee.symm.trans (by first | exact c31 | exact nn c31))
          refine J_iinc hC dX4_roadShare_45 (by decide) rfl (v := nI (j + 1)) (nI_1 _) (ls1 := [some (rv x), some (.int acc), some (rv (mR M x 0)), some (.int (nI 15)), some (.int (nI (j + 1))), some (rv e)]) rfl ?_
          refine J_goto hC dX4_roadShare_48 (tgt := 17) (by decide) ?_
          refine J_sub hC (ls1 := [some (rv x), some (.int acc), some (rv (mR M x 0)), some (.int (nI 15)), some (.int (nI (j + 1)))]) ⟨rfl, rfl, rfl, rfl, rfl, trivial⟩ ?_
          exact ih (j + 1) _ (by omega) (by omega) (cnt_ge hge hi)
        · have hlt2 : j < sN S 1 := hM.vj1 hlt (fun h => c31 (ee.trans h))
          have we : VeA M e j S := by rw [ee]; exact hM.v.1 j hlt2
          refine J_aload hC dX4_roadShare_34 rfl ?_
          refine J_callV (k1 := 1) (n1 := 6) (kd := 4) [] [rv e] hC lv_X4_115 (ct_X3_isOnRoadNow hst we) we.tg (by decide) ⟨_, mE_4 we.tg⟩ rfl rfl rfl (by simp only [List.map_cons, List.map_nil, rv_cat, Value.category, List.sum_cons, List.sum_nil]; decide) (by decide) rfl rfl (by decide) (by decide) dX4_roadShare_36 (fun E M9 h => h.elim) (fun v9 M9 hq9 => ?_)
          obtain ⟨rfl, e9⟩ := hq9
          rw [e9]; clear e9
          refine J_if_eq hC dX4_roadShare_39 (tgt := 45) (by decide) (fun c39 => ?_) (fun c39 => ?_)
          · have b39 : ¬ (lastV (sT S 2 (j)) = 1) := of_decide_eq_false (bz_eq0 c39)
            refine J_iinc hC dX4_roadShare_45 (by decide) rfl (v := nI (j + 1)) (nI_1 _) (ls1 := [some (rv x), some (.int acc), some (rv (mR M x 0)), some (.int (nI 15)), some (.int (nI (j + 1))), some (rv e)]) rfl ?_
            refine J_goto hC dX4_roadShare_48 (tgt := 17) (by decide) ?_
            refine J_sub hC (ls1 := [some (rv x), some (.int acc), some (rv (mR M x 0)), some (.int (nI 15)), some (.int (nI (j + 1)))]) ⟨rfl, rfl, rfl, rfl, rfl, trivial⟩ ?_
            exact ih (j + 1) _ (by omega) (by omega) (cnt_no hlt2 (by simp [hlt2, b39, hnv]) hi)
          · have b39 : (lastV (sT S 2 (j)) = 1) := of_decide_eq_true (bz_ne0 c39)
            refine J_iinc hC dX4_roadShare_42 (by decide) rfl (v := acc + 1) rfl (ls1 := [some (rv x), some (.int (acc + 1)), some (rv (mR M x 0)), some (.int (nI 15)), some (.int (nI j)), some (rv e)]) rfl ?_
            refine J_iinc hC dX4_roadShare_45 (by decide) rfl (v := nI (j + 1)) (nI_1 _) (ls1 := [some (rv x), some (.int (acc + 1)), some (rv (mR M x 0)), some (.int (nI 15)), some (.int (nI (j + 1))), some (rv e)]) rfl ?_
            refine J_goto hC dX4_roadShare_48 (tgt := 17) (by decide) ?_
            refine J_sub hC (ls1 := [some (rv x), some (.int (acc + 1)), some (rv (mR M x 0)), some (.int (nI 15)), some (.int (nI (j + 1)))]) ⟨rfl, rfl, rfl, rfl, rfl, trivial⟩ ?_
            exact ih (j + 1) _ (by omega) (by omega) (cnt_yes hlt2 (by simp [hlt2, b39, hnv]) hi)
  exact L17 16 0 _ (by omega) (Nat.zero_le _) cnt_st
theorem pass_yes {S : St} {j n : Nat} {acc : Int32} (h : j < n) (ha : acc = nI (passN S (min j n))) : acc + nI (sT S 0 j).length = nI (passN S (min (j + 1) n)) := by
  rw [Nat.min_eq_left (by omega : j + 1 ≤ n), ha, Nat.min_eq_left (by omega : j ≤ n)]; exact nI_add _ _
theorem pass_ge {S : St} {j n : Nat} {acc : Int32} (h : ¬ j < n) (ha : acc = nI (passN S (min j n))) : acc = nI (passN S (min (j + 1) n)) := by
  rw [min_ge h]; exact ha
theorem pass_end {S : St} {n N : Nat} {acc : Int32} (h : n ≤ N) (ha : acc = nI (passN S (min N n))) : acc = nI (passN S n) := by
  rw [Nat.min_eq_right h] at ha; exact ha
theorem Inv.pb {S : St} {t : Nat} (hI : Inv S t) : passN S (sN S 1) < 76 := by
  have h1 := hI.cu
  have h2 := cnt_le (fun i => decide (sO S i 5 = 117)) (sN S 3)
  have h3 := hI.bV
  have h4 := hI.bN
  omega
theorem TlA.sz {M : Mm} {a c : Nat} {l : Tl} (h : TlA M a c l) : mI M a 2 = nI l.length := h.2.2.2.1
theorem ct_X4_meanTransfers {G : Gt} {l : Launch} (hst : l.stackTraces = false) {M : Mm} {x : Nat} {S : St} {t : Nat} (hM : CAt M x S) (hI : Inv S t)  : Ct G l yX4_meanTransfers cX4_meanTransfers 6 (some .double) 7 M [rv x] 8 48 (OkC M x (oMean S)) (ExC M x S (oMean S) [eAE]) := by
  obtain ⟨bK, bV, bP, bN⟩ := hM.b
  refine Ct_intro (own := RX4) (nm := "meanTransfers") (by decide +kernel) rfl rfl hst (fun w hw => by simp only [List.mem_cons, List.not_mem_nil, or_false] at hw; rcases hw with rfl <;> first | rfl | exact rv_cat _) (Nat.le_of_ble_eq_true rfl) (fun γ hC => ?_)
  show J G γ M 0 [some (rv x)] [] 0 0
  refine J_t0 (fun ht0 => ?_)
  refine J_aload_n hC dX4_meanTransfers_0 rfl rfl ?_
  refine J_callV (k1 := 1) (n1 := 6) (kd := 5) [] [rv x] hC lv_X4_306 (ct_X4_requireVehicles hst hM) hM.tx (by decide) ⟨_, mE_5 hM.tx⟩ rfl rfl rfl (by simp only [List.map_cons, List.map_nil, rv_cat, Value.category, List.sum_cons, List.sum_nil]; decide) (by decide) rfl rfl (by decide) (by decide) dX4_meanTransfers_1 (fun E M9 hx => by
        obtain ⟨rfl, rfl, hz⟩ := hx
        exact exc hM (k := 0) rfl (by simp [oMean, hz])) (fun v9 M9 hq9 => ?_)
  obtain ⟨rfl, e9, hnv⟩ := hq9
  rw [e9]; clear e9
  refine J_iconst hC dX4_meanTransfers_4 (v := 0) (by decide) ?_
  refine J_istore_n hC dX4_meanTransfers_5 rfl (by decide) (ls1 := [some (rv x), some (.int 0)]) rfl ?_
  refine J_aload_n hC dX4_meanTransfers_6 rfl rfl ?_
  refine J_get5 hC lf_X4_11 (j := 0) hM.tx (v := rv (mR M x 0)) rfl dX4_meanTransfers_7 ?_
  refine J_astore_n hC dX4_meanTransfers_10 rfl (by decide) (ls1 := [some (rv x), some (.int 0), some (rv (mR M x 0))]) rfl ?_
  refine J_aload_n hC dX4_meanTransfers_11 rfl rfl ?_
  refine J_alen9 hC hM.tk0 dX4_meanTransfers_12 ?_
  rw [hM.lk0]
  refine J_istore_n hC dX4_meanTransfers_13 rfl (by decide) (ls1 := [some (rv x), some (.int 0), some (rv (mR M x 0)), some (.int (nI 15))]) rfl ?_
  refine J_iconst hC dX4_meanTransfers_14 (v := 0) (by decide) ?_
  refine J_istore hC dX4_meanTransfers_15 (by decide) (ls1 := [some (rv x), some (.int 0), some (rv (mR M x 0)), some (.int (nI 15)), some (.int 0)]) rfl ?_
  have L17 : ∀ (n9 : Nat) (j : Nat) (acc : Int32), 15 - j < n9 → (j ≤ 15) → (acc = nI (passN S (min j (sN S 1)))) → J G γ M 17 [some (rv x), some (.int acc), some (rv (mR M x 0)), some (.int (nI 15)), some (.int (nI j))] [] 1 6 := by
    intro n9
    induction n9 with
    | zero => intro j acc h9; exact absurd h9 (Nat.not_lt_zero _)
    | succ n9 ih =>
      intro j acc h9 hjN hi
      refine J_iload hC dX4_meanTransfers_17 rfl ?_
      refine J_iload_n hC dX4_meanTransfers_19 rfl rfl ?_
      refine J_icmp_ge hC dX4_meanTransfers_20 (tgt := 51) (by decide) (fun c20 => ?_) (fun c20 => ?_)
      · have hj9 : j = 15 := by have := le_nI (n := 15) (by omega) (by omega) c20; omega
        subst hj9
        refine J_iload_n hC dX4_meanTransfers_51 rfl rfl ?_
        refine J_i2d hC dX4_meanTransfers_52 ?_
        refine J_aload_n hC dX4_meanTransfers_53 rfl rfl ?_
        refine J_get5 hC lf_X4_149 (j := 7) hM.tx (v := .int (nI (sN S 1))) (congrArg (fun z => some (Value.int z)) hM.c7) dX4_meanTransfers_54 ?_
        refine J_i2d hC dX4_meanTransfers_57 ?_
        refine J_ddiv hC dX4_meanTransfers_58 (by rw [pass_end (by omega) hi]; exact mean_n _ hI.pb _ (by omega) hnv) ?_
        refine J_dret hC (by decide) (by decide) dX4_meanTransfers_59 ?_
        refine okc hM ?_
        rw [pass_end (by omega) hi]
        simp [oMean, hnv]
      · have hlt := ge_nI (n := 15) (by omega) (by omega) c20
        refine J_aload_n hC dX4_meanTransfers_23 rfl rfl ?_
        refine J_iload hC dX4_meanTransfers_24 rfl ?_
        refine J_aald9 hC hM.tk0 (j := j) (nI_toInt (by omega)) (by rw [hM.lk0]; omega) dX4_meanTransfers_26 ?_
        obtain ⟨e, ee⟩ : ∃ z, z = mR M (mR M x 0) j := ⟨_, rfl⟩
        rw [← ee]
        refine J_astore hC dX4_meanTransfers_27 (by decide) (ls1 := [some (rv x), some (.int acc), some (rv (mR M x 0)), some (.int (nI 15)), some (.int (nI j)), some (rv e)]) rfl ?_
        refine J_aload hC dX4_meanTransfers_29 rfl ?_
        refine J_ifnull hC dX4_meanTransfers_31 (tgt := 45) (by decide) (fun c31 => ?_) (fun c31 => ?_)
        · have hge : ¬ j < sN S 1 := hM.vj0 ht0 (ee.symm.trans (by first | exact c31 | exact nn c31))
          refine J_iinc hC dX4_meanTransfers_45 (by decide) rfl (v := nI (j + 1)) (nI_1 _) (ls1 := [some (rv x), some (.int acc), some (rv (mR M x 0)), some (.int (nI 15)), some (.int (nI (j + 1))), some (rv e)]) rfl ?_
          refine J_goto hC dX4_meanTransfers_48 (tgt := 17) (by decide) ?_
          refine J_sub hC (ls1 := [some (rv x), some (.int acc), some (rv (mR M x 0)), some (.int (nI 15)), some (.int (nI (j + 1)))]) ⟨rfl, rfl, rfl, rfl, rfl, trivial⟩ ?_
          exact ih (j + 1) _ (by omega) (by omega) (pass_ge hge hi)
        · have hlt2 : j < sN S 1 := hM.vj1 hlt (fun h => c31 (ee.trans h))
          have we : VeA M e j S := by rw [ee]; exact hM.v.1 j hlt2
          refine J_iload_n hC dX4_meanTransfers_34 rfl rfl ?_
          refine J_aload hC dX4_meanTransfers_35 rfl ?_
          refine J_get4 hC lf_X4_182 (j := 2) we.tg (v := rv (mR M e 2)) rfl dX4_meanTransfers_37 ?_
          refine J_get3 hC lf_X4_191 (j := 2) we.k2 (v := .int (nI (sT S 0 j).length)) (congrArg (fun z => some (Value.int z)) we.T2.sz) dX4_meanTransfers_40 ?_
          refine J_iadd hC dX4_meanTransfers_43 ?_
          refine J_istore_n hC dX4_meanTransfers_44 rfl (by decide) (ls1 := [some (rv x), some (.int (acc + (nI (sT S 0 j).length))), some (rv (mR M x 0)), some (.int (nI 15)), some (.int (nI j)), some (rv e)]) rfl ?_
          refine J_iinc hC dX4_meanTransfers_45 (by decide) rfl (v := nI (j + 1)) (nI_1 _) (ls1 := [some (rv x), some (.int (acc + (nI (sT S 0 j).length))), some (rv (mR M x 0)), some (.int (nI 15)), some (.int (nI (j + 1))), some (rv e)]) rfl ?_
          refine J_goto hC dX4_meanTransfers_48 (tgt := 17) (by decide) ?_
          refine J_sub hC (ls1 := [some (rv x), some (.int (acc + (nI (sT S 0 j).length))), some (rv (mR M x 0)), some (.int (nI 15)), some (.int (nI (j + 1)))]) ⟨rfl, rfl, rfl, rfl, rfl, trivial⟩ ?_
          exact ih (j + 1) _ (by omega) (by omega) (pass_yes hlt2 hi)
  exact L17 16 0 _ (by omega) (Nat.zero_le _) (by rw [Nat.zero_min]; rfl)
theorem ct_X4_transfers {G : Gt} {l : Launch} (hst : l.stackTraces = false) {M : Mm} {x : Nat} {S : St} {t : Nat} (hM : CAt M x S) (hI : Inv S t) (v : Int32) : Ct G l yX4_transfers cX4_transfers 2 (some .int) 7 M [rv x, .int v] 8 48 (OkC M x (oTransfers S v)) (ExC M x S (oTransfers S v) [eIO]) := by
  obtain ⟨bK, bV, bP, bN⟩ := hM.b
  refine Ct_intro (own := RX4) (nm := "transfers") (by decide +kernel) rfl rfl hst (fun w hw => by simp only [List.mem_cons, List.not_mem_nil, or_false] at hw; rcases hw with rfl | rfl <;> first | rfl | exact rv_cat _) (Nat.le_of_ble_eq_true rfl) (fun γ hC => ?_)
  show J G γ M 0 [some (rv x), some (.int v)] [] 0 0
  refine J_aload_n hC dX4_transfers_0 rfl rfl ?_
  refine J_iload_n hC dX4_transfers_1 rfl rfl ?_
  refine J_callV (k1 := 1) (n1 := 6) (kd := 5) [.int v] [.int v, rv x] hC lv_X4_81 (ct_X4_vehicleAt hst hM v) hM.tx (by decide) ⟨_, mE_5 hM.tx⟩ rfl rfl rfl (by simp only [List.map_cons, List.map_nil, rv_cat, Value.category, List.sum_cons, List.sum_nil]; decide) (by decide) rfl rfl (by decide) (by decide) dX4_transfers_2 (fun E M9 hx => by
        obtain ⟨rfl, rfl, nv⟩ := hx
        exact exc hM (k := 0) rfl (by simp [oTransfers, nv])) (fun v9 M9 hq9 => ?_)
  obtain ⟨rfl, e9, hv⟩ := hq9
  rw [e9]; clear e9
  have xv := (isIx_ix hv).2
  obtain ⟨av, eav⟩ : ∃ z, z = mR M (mR M x 0) (ix v) := ⟨_, rfl⟩
  have wv : VeA M av (ix v) S := by rw [eav]; exact hM.v.1 _ xv
  show J G γ M _ _ (rv (mR M (mR M x 0) (ix v)) :: _) _ _
  rw [← eav]
  refine J_get4 hC lf_X4_182 (j := 2) wv.tg (v := rv (mR M av 2)) rfl dX4_transfers_5 ?_
  refine J_get3 hC lf_X4_191 (j := 2) wv.k2 (v := .int (nI (sT S 0 (ix v)).length)) (congrArg (fun z => some (Value.int z)) wv.T2.sz) dX4_transfers_8 ?_
  refine J_iret hC (by decide) (by decide) dX4_transfers_11 ?_
  refine okc hM ?_
  simp [oTransfers, hv, bz]
theorem TlA.len {M : Mm} {a c : Nat} {l : Tl} (h : TlA M a c l) : l.length ≤ 1100 := by
  obtain ⟨t0, t1, t2, s2, cap, hc0, hc1, hl, h4, hcap, hb, hj⟩ := h
  exact hb
theorem ct_X4_transferDay {G : Gt} {l : Launch} (hst : l.stackTraces = false) {M : Mm} {x : Nat} {S : St} {t : Nat} (hM : CAt M x S) (hI : Inv S t) (v k : Int32) : Ct G l yX4_transferDay cX4_transferDay 4 (some .int) 7 M [rv x, .int v, .int k] 8 48 (OkC M x (oTransferDay S v k)) (ExC M x S (oTransferDay S v k) [eIO]) := by
  obtain ⟨bK, bV, bP, bN⟩ := hM.b
  refine Ct_intro (own := RX4) (nm := "transferDay") (by decide +kernel) rfl rfl hst (fun w hw => by simp only [List.mem_cons, List.not_mem_nil, or_false] at hw; rcases hw with rfl | rfl | rfl <;> first | rfl | exact rv_cat _) (Nat.le_of_ble_eq_true rfl) (fun γ hC => ?_)
  show J G γ M 0 [some (rv x), some (.int v), some (.int k)] [] 0 0
  refine J_aload_n hC dX4_transferDay_0 rfl rfl ?_
  refine J_iload_n hC dX4_transferDay_1 rfl rfl ?_
  refine J_callV (k1 := 1) (n1 := 6) (kd := 5) [.int v] [.int v, rv x] hC lv_X4_81 (ct_X4_vehicleAt hst hM v) hM.tx (by decide) ⟨_, mE_5 hM.tx⟩ rfl rfl rfl (by simp only [List.map_cons, List.map_nil, rv_cat, Value.category, List.sum_cons, List.sum_nil]; decide) (by decide) rfl rfl (by decide) (by decide) dX4_transferDay_2 (fun E M9 hx => by
        obtain ⟨rfl, rfl, nv⟩ := hx
        exact exc hM (k := 0) rfl (by simp [oTransferDay, nv])) (fun v9 M9 hq9 => ?_)
  obtain ⟨rfl, e9, hv⟩ := hq9
  rw [e9]; clear e9
  have xv := (isIx_ix hv).2
  obtain ⟨av, eav⟩ : ∃ z, z = mR M (mR M x 0) (ix v) := ⟨_, rfl⟩
  have wv : VeA M av (ix v) S := by rw [eav]; exact hM.v.1 _ xv
  show J G γ M _ _ (rv (mR M (mR M x 0) (ix v)) :: _) _ _
  rw [← eav]
  refine J_get4 hC lf_X4_182 (j := 2) wv.tg (v := rv (mR M av 2)) rfl dX4_transferDay_5 ?_
  refine J_astore_n hC dX4_transferDay_8 rfl (by decide) (ls1 := [some (rv x), some (.int v), some (.int k), some (rv (mR M av 2))]) rfl ?_
  have hlb := wv.T2.2.2.2.2
  refine J_iload_n hC dX4_transferDay_9 rfl rfl ?_
  refine J_if_lt hC dX4_transferDay_10 (tgt := 21) (by decide) (fun c10 => ?_) (fun c10 => ?_)
  · refine J_throw hC lt_194 (by decide +kernel : (RX4, 196, "there is no such transfer") ∈ strT) (by decide) (by decide) (by decide) (by decide) dX4_transferDay_21 dX4_transferDay_24 dX4_transferDay_25 dX4_transferDay_27 dX4_transferDay_30 ?_
    exact exc hM (k := 0) rfl (by simp [oTransferDay, ix_outF (m := (sT S 0 (ix v)).length) (Nat.lt_of_le_of_lt wv.T2.len (by decide)) (Nat.le_refl _) (by first | exact Or.inl c10 | exact Or.inr c18)])
  · refine J_iload_n hC dX4_transferDay_13 rfl rfl ?_
    refine J_aload_n hC dX4_transferDay_14 rfl rfl ?_
    refine J_get3 hC lf_X4_191 (j := 2) wv.k2 (v := .int (nI (sT S 0 (ix v)).length)) (congrArg (fun z => some (Value.int z)) wv.T2.sz) dX4_transferDay_15 ?_
    refine J_icmp_lt hC dX4_transferDay_18 (tgt := 31) (by decide) (fun c18 => ?_) (fun c18 => ?_)
    · have hkk := ix_inT (n := (sT S 0 (ix v)).length) (Nat.lt_of_le_of_lt wv.T2.len (by decide)) c10 c18
      refine J_aload_n hC dX4_transferDay_31 rfl rfl ?_
      refine J_iload_n hC dX4_transferDay_32 rfl rfl ?_
      refine J_callV (k1 := 1) (n1 := 6) (kd := 3) [.int k] [.int k, rv (mR M av 2)] hC lv_X4_199 (ct_X2_dayAt hst wv.T2 k) wv.k2 (by decide) ⟨_, mE_3 wv.k2⟩ rfl rfl rfl (by simp only [List.map_cons, List.map_nil, rv_cat, Value.category, List.sum_cons, List.sum_nil]; decide) (by decide) rfl rfl (by decide) (by decide) dX4_transferDay_33 (fun E M9 h => h.elim) (fun v9 M9 hq9 => ?_)
      obtain ⟨rfl, e9⟩ := hq9
      rw [e9]; clear e9
      refine J_iret hC (by decide) (by decide) dX4_transferDay_36 ?_
      refine okc hM ?_
      rw [dayI_y hkk]
      simp [oTransferDay, hv, hkk]
    · refine J_throw hC lt_194 (by decide +kernel : (RX4, 196, "there is no such transfer") ∈ strT) (by decide) (by decide) (by decide) (by decide) dX4_transferDay_21 dX4_transferDay_24 dX4_transferDay_25 dX4_transferDay_27 dX4_transferDay_30 ?_
      exact exc hM (k := 0) rfl (by simp [oTransferDay, ix_outF (m := (sT S 0 (ix v)).length) (Nat.lt_of_le_of_lt wv.T2.len (by decide)) (Nat.le_refl _) (by first | exact Or.inl c10 | exact Or.inr c18)])
theorem ct_X4_daysKept {G : Gt} {l : Launch} (hst : l.stackTraces = false) {M : Mm} {x : Nat} {S : St} {t : Nat} (hM : CAt M x S) (hI : Inv S t) (v : Int32) : Ct G l yX4_daysKept cX4_daysKept 3 (some .int) 7 M [rv x, .int v] 8 48 (OkC M x (oDaysKept S v)) (ExC M x S (oDaysKept S v) [eNS, eIS]) := by
  obtain ⟨bK, bV, bP, bN⟩ := hM.b
  refine Ct_intro (own := RX4) (nm := "daysKept") (by decide +kernel) rfl rfl hst (fun w hw => by simp only [List.mem_cons, List.not_mem_nil, or_false] at hw; rcases hw with rfl | rfl <;> first | rfl | exact rv_cat _) (Nat.le_of_ble_eq_true rfl) (fun γ hC => ?_)
  show J G γ M 0 [some (rv x), some (.int v)] [] 0 0
  refine J_aload_n hC dX4_daysKept_0 rfl rfl ?_
  refine J_iload_n hC dX4_daysKept_1 rfl rfl ?_
  refine J_callV (k1 := 1) (n1 := 6) (kd := 5) [.int v] [.int v, rv x] hC lv_X4_248 (ct_X4_plateAt hst hM v) hM.tx (by decide) ⟨_, mE_5 hM.tx⟩ rfl rfl rfl (by simp only [List.map_cons, List.map_nil, rv_cat, Value.category, List.sum_cons, List.sum_nil]; decide) (by decide) rfl rfl (by decide) (by decide) dX4_daysKept_2 (fun E M9 hx => by
        obtain ⟨rfl, rfl, nv⟩ := hx
        exact exc hM (k := 0) rfl (by simp [oDaysKept, nv])) (fun v9 M9 hq9 => ?_)
  obtain ⟨rfl, e9, hv⟩ := hq9
  rw [e9]; clear e9
  have xv := (isIx_ix hv).2
  obtain ⟨av, eav⟩ : ∃ z, z = mR M (mR M x 1) (ix v) := ⟨_, rfl⟩
  have wv : PlA M av (ix v) S := by rw [eav]; exact hM.p.1 _ xv
  show J G γ M _ _ (rv (mR M (mR M x 1) (ix v)) :: _) _ _
  rw [← eav]
  refine J_astore_n hC dX4_daysKept_5 rfl (by decide) (ls1 := [some (rv x), some (.int v), some (rv av)]) rfl ?_
  refine J_aload_n hC dX4_daysKept_6 rfl rfl ?_
  refine J_aload_n hC dX4_daysKept_7 rfl rfl ?_
  refine J_get5 hC lf_X4_48 (j := 10) hM.tx (v := .int (sD S)) (congrArg (fun z => some (Value.int z)) hM.c10) dX4_daysKept_8 ?_
  refine J_callV (k1 := 1) (n1 := 6) (kd := 2) [.int (sD S)] [.int (sD S), rv av] hC lv_X4_252 (ct_X1_isKept hst wv (sD S)) wv.tg (by decide) ⟨_, mE_2 wv.tg⟩ rfl rfl rfl (by simp only [List.map_cons, List.map_nil, rv_cat, Value.category, List.sum_cons, List.sum_nil]; decide) (by decide) rfl rfl (by decide) (by decide) dX4_daysKept_11 (fun E M9 h => h.elim) (fun v9 M9 hq9 => ?_)
  obtain ⟨rfl, e9⟩ := hq9
  rw [e9]; clear e9
  show J G γ _ _ _ (.int (bz (keptQ S (ix v))) :: _) _ _
  refine J_if_ne hC dX4_daysKept_14 (tgt := 28) (by decide) (fun c14 => ?_) (fun c14 => ?_)
  · have b14 : (keptQ S (ix v)) = true := bz_ne0 c14
    refine J_aload_n hC dX4_daysKept_28 rfl rfl ?_
    refine J_callV (k1 := 1) (n1 := 6) (kd := 2) [] [rv av] hC lv_X4_270 (ct_X1_voidDay hst wv) wv.tg (by decide) ⟨_, mE_2 wv.tg⟩ rfl rfl rfl (by simp only [List.map_cons, List.map_nil, rv_cat, Value.category, List.sum_cons, List.sum_nil]; decide) (by decide) rfl rfl (by decide) (by decide) dX4_daysKept_29 (fun E M9 h => h.elim) (fun v9 M9 hq9 => ?_)
    obtain ⟨rfl, e9⟩ := hq9
    rw [e9]; clear e9
    refine J_aload_n hC dX4_daysKept_32 rfl rfl ?_
    refine J_get5 hC lf_X4_48 (j := 10) hM.tx (v := .int (sD S)) (congrArg (fun z => some (Value.int z)) hM.c10) dX4_daysKept_33 ?_
    refine J_isub hC dX4_daysKept_36 ?_
    refine J_iret hC (by decide) (by decide) dX4_daysKept_37 ?_
    refine okc hM ?_
    simp [oDaysKept, b14, hv, bz]
  · have b14 : (keptQ S (ix v)) = false := bz_eq0 (nn c14)
    refine J_throwW hC lt_41 (by decide +kernel : (RX4, 268, "the plate is not kept") ∈ strT) (by decide) (by decide) (by decide) (by decide) dX4_daysKept_17 dX4_daysKept_20 dX4_daysKept_21 dX4_daysKept_24 dX4_daysKept_27 ?_
    exact exc hM (k := 1) rfl (by simp [oDaysKept, b14, hv])
theorem lk_def {c : Int32} (h1 : ¬ c = 99) (h2 : ¬ c = 109) (h3 : ¬ c = 108) : Op.lookupswitch.offset (#[(99, 35), (108, 41), (109, 38)] : Array (Int × Int)).toList 45 c.toInt = 45 := by
  have g1 : ¬ (99 : Int) = c.toInt := fun e => h1 (i_ext e.symm)
  have g2 : ¬ (109 : Int) = c.toInt := fun e => h2 (i_ext e.symm)
  have g3 : ¬ (108 : Int) = c.toInt := fun e => h3 (i_ext e.symm)
  simp [Op.lookupswitch.offset, g1, g2, g3]
theorem ct_X4_taxFor {G : Gt} {l : Launch} (hst : l.stackTraces = false) {M : Mm} (c : Int32) : Ct G l yX4_taxFor cX4_taxFor 1 (some .int) 1 M [.int c] 0 0 (PQ M (.int (taxOf c))) (noX) := by
  refine Ct_intro (own := RX4) (nm := "taxFor") (by decide +kernel) rfl rfl hst (fun w hw => by simp only [List.mem_cons, List.not_mem_nil, or_false] at hw; rcases hw with rfl <;> first | rfl | exact rv_cat _) (Nat.le_of_ble_eq_true rfl) (fun γ hC => ?_)
  show J G γ M 0 [some (.int c)] [] 0 0
  refine J_iload_n hC dX4_taxFor_0 rfl rfl ?_
  by_cases h1 : c = 99
  · subst h1
    refine J_lookup hC dX4_taxFor_1 (by decide) (off := 35) (tgt := 36) (by decide) (by decide) ?_
    refine J_bipush hC dX4_taxFor_36 (v := 60) (by decide) ?_
    refine J_iret hC (by decide) (by decide) dX4_taxFor_38 ?_
    exact ⟨by simp [taxOf, *], rfl⟩
  by_cases h2 : c = 109
  · subst h2
    refine J_lookup hC dX4_taxFor_1 (by decide) (off := 38) (tgt := 39) (by decide) (by decide) ?_
    refine J_bipush hC dX4_taxFor_39 (v := 20) (by decide) ?_
    refine J_iret hC (by decide) (by decide) dX4_taxFor_41 ?_
    exact ⟨by simp [taxOf, *], rfl⟩
  by_cases h3 : c = 108
  · subst h3
    refine J_lookup hC dX4_taxFor_1 (by decide) (off := 41) (tgt := 42) (by decide) (by decide) ?_
    refine J_sipush hC dX4_taxFor_42 (v := 150) (by decide) ?_
    refine J_iret hC (by decide) (by decide) dX4_taxFor_45 ?_
    exact ⟨by simp [taxOf, *], rfl⟩
  refine J_lookup hC dX4_taxFor_1 (by decide) (off := 45) (tgt := 46) (lk_def h1 h2 h3) (by decide) ?_
  refine J_iconst hC dX4_taxFor_46 (v := 0) (by decide) ?_
  refine J_iret hC (by decide) (by decide) dX4_taxFor_47 ?_
  exact ⟨by simp [taxOf, *], rfl⟩
theorem ct_X4_placeByVehicles {G : Gt} {l : Launch} (hst : l.stackTraces = false) {M : Mm} {x : Nat} {S : St} {t : Nat} (hM : CAt M x S) (hI : Inv S t) (p d : Int32) : Ct G l yX4_placeByVehicles cX4_placeByVehicles 7 (some .int) 4 M [rv x, .int p, .int d] 0 0 (PQ M (.int (findV S p d))) (noX) := by
  obtain ⟨bK, bV, bP, bN⟩ := hM.b
  refine Ct_intro (own := RX4) (nm := "placeByVehicles") (by decide +kernel) rfl rfl hst (fun w hw => by simp only [List.mem_cons, List.not_mem_nil, or_false] at hw; rcases hw with rfl | rfl | rfl <;> first | rfl | exact rv_cat _) (Nat.le_of_ble_eq_true rfl) (fun γ hC => ?_)
  show J G γ M 0 [some (rv x), some (.int p), some (.int d)] [] 0 0
  refine J_t0 (fun ht0 => ?_)
  refine J_aload_n hC dX4_placeByVehicles_0 rfl rfl ?_
  refine J_get5 hC lf_X4_11 (j := 0) hM.tx (v := rv (mR M x 0)) rfl dX4_placeByVehicles_1 ?_
  refine J_astore_n hC dX4_placeByVehicles_4 rfl (by decide) (ls1 := [some (rv x), some (.int p), some (.int d), some (rv (mR M x 0))]) rfl ?_
  refine J_aload_n hC dX4_placeByVehicles_5 rfl rfl ?_
  refine J_alen9 hC hM.tk0 dX4_placeByVehicles_6 ?_
  rw [hM.lk0]
  refine J_istore hC dX4_placeByVehicles_7 (by decide) (ls1 := [some (rv x), some (.int p), some (.int d), some (rv (mR M x 0)), some (.int (nI 15))]) rfl ?_
  refine J_iconst hC dX4_placeByVehicles_9 (v := 0) (by decide) ?_
  refine J_istore hC dX4_placeByVehicles_10 (by decide) (ls1 := [some (rv x), some (.int p), some (.int d), some (rv (mR M x 0)), some (.int (nI 15)), some (.int 0)]) rfl ?_
  have L12 : ∀ (n9 : Nat) (j : Nat), 15 - j < n9 → (j ≤ 15) → (∀ k, k < min j (sN S 1) → decide (look (sT S 1 k) d = p) = false) → J G γ M 12 [some (rv x), some (.int p), some (.int d), some (rv (mR M x 0)), some (.int (nI 15)), some (.int (nI j))] [] 0 0 := by
    intro n9
    induction n9 with
    | zero => intro j h9; exact absurd h9 (Nat.not_lt_zero _)
    | succ n9 ih =>
      intro j h9 hjN hi
      refine J_iload hC dX4_placeByVehicles_12 rfl ?_
      refine J_iload hC dX4_placeByVehicles_14 rfl ?_
      refine J_icmp_ge hC dX4_placeByVehicles_16 (tgt := 55) (by decide) (fun c16 => ?_) (fun c16 => ?_)
      · have hj9 : j = 15 := by have := le_nI (n := 15) (by omega) (by omega) c16; omega
        subst hj9
        refine J_iconst hC dX4_placeByVehicles_55 (v := -1) (by decide) ?_
        refine J_iret hC (by decide) (by decide) dX4_placeByVehicles_56 ?_
        refine ⟨?_, rfl⟩
        unfold findV
        rw [fst1_miss _ (fun k hk => hi k (by omega))]
      · have hlt := ge_nI (n := 15) (by omega) (by omega) c16
        refine J_aload_n hC dX4_placeByVehicles_19 rfl rfl ?_
        refine J_iload hC dX4_placeByVehicles_20 rfl ?_
        refine J_aald9 hC hM.tk0 (j := j) (nI_toInt (by omega)) (by rw [hM.lk0]; omega) dX4_placeByVehicles_22 ?_
        obtain ⟨e, ee⟩ : ∃ z, z = mR M (mR M x 0) j := ⟨_, rfl⟩
        rw [← ee]
        refine J_astore hC dX4_placeByVehicles_23 (by decide) (ls1 := [some (rv x), some (.int p), some (.int d), some (rv (mR M x 0)), some (.int (nI 15)), some (.int (nI j)), some (rv e)]) rfl ?_
        refine J_aload hC dX4_placeByVehicles_25 rfl ?_
        refine J_ifnull hC dX4_placeByVehicles_27 (tgt := 49) (by decide) (fun c27 => ?_) (fun c27 => ?_)
        · have hge : ¬ j < sN S 1 := hM.vj0 ht0 (ee.symm.trans (by first | exact c27 | exact nn c27))
          refine J_iinc hC dX4_placeByVehicles_49 (by decide) rfl (v := nI (j + 1)) (nI_1 _) (ls1 := [some (rv x), some (.int p), some (.int d), some (rv (mR M x 0)), some (.int (nI 15)), some (.int (nI (j + 1))), some (rv e)]) rfl ?_
          refine J_goto hC dX4_placeByVehicles_52 (tgt := 12) (by decide) ?_
          refine J_sub hC (ls1 := [some (rv x), some (.int p), some (.int d), some (rv (mR M x 0)), some (.int (nI 15)), some (.int (nI (j + 1)))]) ⟨rfl, rfl, rfl, rfl, rfl, rfl, trivial⟩ ?_
          exact ih (j + 1) (by omega) (by omega) (by rw [min_ge hge]; exact hi)
        · have hlt2 : j < sN S 1 := hM.vj1 hlt (fun h => c27 (ee.trans h))
          have we : VeA M e j S := by rw [ee]; exact hM.v.1 j hlt2
          refine J_aload hC dX4_placeByVehicles_30 rfl ?_
          refine J_get4 hC lf_X4_99 (j := 3) we.tg (v := rv (mR M e 3)) rfl dX4_placeByVehicles_32 ?_
          refine J_iload_n hC dX4_placeByVehicles_35 rfl rfl ?_
          refine J_callV (k1 := 0) (n1 := 0) (kd := 3) [.int d] [.int d, rv (mR M e 3)] hC lv_X4_128 (ct_X2_at hst we.T3 d (hI.ts _ hlt2 1 (by decide)).2) we.k3 (by decide) ⟨_, mE_3 we.k3⟩ rfl rfl rfl (by simp only [List.map_cons, List.map_nil, rv_cat, Value.category, List.sum_cons, List.sum_nil]; decide) (by decide) rfl rfl (by decide) (by decide) dX4_placeByVehicles_36 (fun E M9 h => h.elim) (fun v9 M9 hq9 => ?_)
          obtain ⟨rfl, e9⟩ := hq9
          rw [e9]; clear e9
          refine J_iload_n hC dX4_placeByVehicles_39 rfl rfl ?_
          refine J_icmp_ne hC dX4_placeByVehicles_40 (tgt := 49) (by decide) (fun c40 => ?_) (fun c40 => ?_)
          · have q40 : ¬ look (sT S 1 (j)) d = p := c40
            refine J_iinc hC dX4_placeByVehicles_49 (by decide) rfl (v := nI (j + 1)) (nI_1 _) (ls1 := [some (rv x), some (.int p), some (.int d), some (rv (mR M x 0)), some (.int (nI 15)), some (.int (nI (j + 1))), some (rv e)]) rfl ?_
            refine J_goto hC dX4_placeByVehicles_52 (tgt := 12) (by decide) ?_
            refine J_sub hC (ls1 := [some (rv x), some (.int p), some (.int d), some (rv (mR M x 0)), some (.int (nI 15)), some (.int (nI (j + 1)))]) ⟨rfl, rfl, rfl, rfl, rfl, rfl, trivial⟩ ?_
            exact ih (j + 1) (by omega) (by omega) (fun k hk => by
              by_cases e9 : k = j
              · subst e9; exact decide_eq_false q40
              · exact hi k (by omega))
          · have q40 : look (sT S 1 (j)) d = p := (nn c40)
            refine J_aload hC dX4_placeByVehicles_43 rfl ?_
            refine J_get4 hC lf_X4_78 (j := 0) we.tg (v := .int (nI j)) (congrArg (fun z => some (Value.int z)) we.v0) dX4_placeByVehicles_45 ?_
            refine J_iret hC (by decide) (by decide) dX4_placeByVehicles_48 ?_
            refine ⟨?_, rfl⟩
            unfold findV
            rw [fst1_hit (j := j) (fun k hk => hi k (by omega)) (decide_eq_true q40) _ hlt2]
  exact L12 16 0 (by omega) (Nat.zero_le _) (fun k hk => absurd hk (by omega))
theorem ct_X4_vehicleByVehicles {G : Gt} {l : Launch} (hst : l.stackTraces = false) {M : Mm} {x : Nat} {S : St} {t : Nat} (hM : CAt M x S) (hI : Inv S t) (v d : Int32) : Ct G l yX4_vehicleByVehicles cX4_vehicleByVehicles 4 (some .int) 7 M [rv x, .int v, .int d] 8 48 (OkC M x (oVehicleWith S v d)) (ExC M x S (oVehicleWith S v d) [eNS, eIA, eIS]) := by
  obtain ⟨bK, bV, bP, bN⟩ := hM.b
  refine Ct_intro (own := RX4) (nm := "vehicleByVehicles") (by decide +kernel) rfl rfl hst (fun w hw => by simp only [List.mem_cons, List.not_mem_nil, or_false] at hw; rcases hw with rfl | rfl | rfl <;> first | rfl | exact rv_cat _) (Nat.le_of_ble_eq_true rfl) (fun γ hC => ?_)
  show J G γ M 0 [some (rv x), some (.int v), some (.int d)] [] 0 0
  refine J_aload_n hC dX4_vehicleByVehicles_0 rfl rfl ?_
  refine J_iload_n hC dX4_vehicleByVehicles_1 rfl rfl ?_
  refine J_callV (k1 := 1) (n1 := 6) (kd := 5) [.int v] [.int v, rv x] hC lv_X4_248 (ct_X4_plateAt hst hM v) hM.tx (by decide) ⟨_, mE_5 hM.tx⟩ rfl rfl rfl (by simp only [List.map_cons, List.map_nil, rv_cat, Value.category, List.sum_cons, List.sum_nil]; decide) (by decide) rfl rfl (by decide) (by decide) dX4_vehicleByVehicles_2 (fun E M9 hx => by
        obtain ⟨rfl, rfl, nv⟩ := hx
        exact exc hM (k := 0) rfl (by simp [oVehicleWith, nv])) (fun v9 M9 hq9 => ?_)
  obtain ⟨rfl, e9, hv⟩ := hq9
  rw [e9]; clear e9
  have xv := (isIx_ix hv).2
  obtain ⟨av, eav⟩ : ∃ z, z = mR M (mR M x 1) (ix v) := ⟨_, rfl⟩
  have wv : PlA M av (ix v) S := by rw [eav]; exact hM.p.1 _ xv
  show J G γ M _ _ (rv (mR M (mR M x 1) (ix v)) :: _) _ _
  rw [← eav]
  refine J_astore_n hC dX4_vehicleByVehicles_5 rfl (by decide) (ls1 := [some (rv x), some (.int v), some (.int d), some (rv av)]) rfl ?_
  refine J_aload_n hC dX4_vehicleByVehicles_6 rfl rfl ?_
  refine J_iload_n hC dX4_vehicleByVehicles_7 rfl rfl ?_
  refine J_callV (k1 := 2) (n1 := 12) (kd := 5) [.int d] [.int d, rv x] hC lv_X4_125 (ct_X4_requireDay hst hM d) hM.tx (by decide) ⟨_, mE_5 hM.tx⟩ rfl rfl rfl (by simp only [List.map_cons, List.map_nil, rv_cat, Value.category, List.sum_cons, List.sum_nil]; decide) (by decide) rfl rfl (by decide) (by decide) dX4_vehicleByVehicles_8 (fun E M9 hx => by
        obtain ⟨rfl, rfl, ndd⟩ := hx
        exact exc hM (k := 1) rfl (by simp [oVehicleWith, hv, ndd])) (fun v9 M9 hq9 => ?_)
  obtain ⟨rfl, e9, hdd⟩ := hq9
  rw [e9]; clear e9
  refine J_aload_n hC dX4_vehicleByVehicles_11 rfl rfl ?_
  refine J_aload_n hC dX4_vehicleByVehicles_12 rfl rfl ?_
  refine J_get2 hC lf_X4_247 (j := 0) wv.tg (v := .int v) (congrArg (fun z => some (Value.int z)) (wv.v0.trans (isIx_nI hv).symm)) dX4_vehicleByVehicles_13 ?_
  refine J_iload_n hC dX4_vehicleByVehicles_16 rfl rfl ?_
  refine J_callV (k1 := 2) (n1 := 12) (kd := 5) [.int v, .int d] [.int d, .int v, rv x] hC lv_X4_279 (ct_X4_placeByVehicles hst hM hI v d) hM.tx (by decide) ⟨_, mE_5 hM.tx⟩ rfl rfl rfl (by simp only [List.map_cons, List.map_nil, rv_cat, Value.category, List.sum_cons, List.sum_nil]; decide) (by decide) rfl rfl (by decide) (by decide) dX4_vehicleByVehicles_17 (fun E M9 h => h.elim) (fun v9 M9 hq9 => ?_)
  obtain ⟨rfl, e9⟩ := hq9
  rw [e9]; clear e9
  rw [findV3 hI hv]
  refine J_callS (k1 := 3) (n1 := 18) [.int (look (sT S 3 (ix v)) d)] [.int (look (sT S 3 (ix v)) d)] hC ls_X4_276 (ct_X4_placeFound hst (look (sT S 3 (ix v)) d)) rfl rfl (by simp only [List.map_cons, List.map_nil, rv_cat, Value.category, List.sum_cons, List.sum_nil]; decide) (by decide) rfl rfl (by decide) (by decide) dX4_vehicleByVehicles_20 (fun E M9 hx => by
        obtain ⟨rfl, rfl, hnf⟩ := hx
        exact exc hM (k := 2) rfl (by simp [oVehicleWith, hv, hdd, hnf])) (fun v9 M9 hq9 => ?_)
  obtain ⟨rfl, e9, hfd⟩ := hq9
  rw [e9]; clear e9
  refine J_iret hC (by decide) (by decide) dX4_vehicleByVehicles_23 ?_
  refine okc hM ?_
  simp [oVehicleWith, hv, hdd, hfd, bz]
theorem ixD {D : Int32} (h : 0 ≤ D.toInt ∧ D.toInt ≤ 3000) : ix D ≤ 3000 := by
  have : ix D = D.toInt.toNat := Int32.toNat_toInt D |>.symm
  omega
theorem q_in {q D : Int32} (hD : 0 ≤ D.toInt ∧ D.toInt ≤ 3000) (h : ¬ q < 0) (h2 : q ≤ D / 90) : isIx q (ix D / 90 + 1) = true := by
  rw [div90 hD] at h2
  refine ix_rng (by have := ixD hD; omega) h ?_
  have h3 := ixD hD
  rw [i_le, nI_toInt (by omega)] at *
  omega
theorem q_out {q D : Int32} (hD : 0 ≤ D.toInt ∧ D.toInt ≤ 3000) (h : q < 0 ∨ ¬ q ≤ D / 90) : isIx q (ix D / 90 + 1) = false := by
  have h3 := ixD hD
  have h0 : (0 : Int32).toInt = 0 := by decide
  refine ix_no fun g => ?_
  rw [isIx_iff] at g
  rcases h with h | h
  · rw [i_lt, h0] at h; omega
  · rw [div90 hD, i_le, nI_toInt (by omega)] at h; omega
theorem min_sw (a b : Int32) : (if b < a then b else a) = (if a < b then a else b) := by
  by_cases h : b < a
  · rw [if_pos h, if_neg (i_nlt2 (by rw [i_lt] at h; rw [i_le]; omega))]
  · by_cases h2 : a < b
    · rw [if_neg h, if_pos h2]
    · rw [if_neg h, if_neg h2]
      rw [i_lt] at h h2
      exact i_ext (by omega)
theorem ct_X4_firstRoadDay {G : Gt} {l : Launch} (hst : l.stackTraces = false) {M : Mm} {x : Nat} {S : St} {t : Nat} (hM : CAt M x S) (hI : Inv S t) {a i : Nat} (hi : i < sN S 1) (hV : VeA M a i S) (q : Int32) (hq : isIx q (ix (sD S) / 90 + 1) = true) : Ct G l yX4_firstRoadDay cX4_firstRoadDay 5 (some .int) 4 M [rv x, rv a, .int q] 0 0 (PQ M (.int (rdI (rday S i (ix q))))) (noX) := by
  obtain ⟨qt1, qt2⟩ := q_to hq hI.bD rfl
  obtain ⟨ql1, ql2⟩ := q_len (isIx_ix hq).2
  have hDx := ixD hI.bD
  refine Ct_intro (own := RX4) (nm := "firstRoadDay") (by decide +kernel) rfl rfl hst (fun w hw => by simp only [List.mem_cons, List.not_mem_nil, or_false] at hw; rcases hw with rfl | rfl | rfl <;> first | rfl | exact rv_cat _) (Nat.le_of_ble_eq_true rfl) (fun γ hC => ?_)
  show J G γ M 0 [some (rv x), some (rv a), some (.int q)] [] 0 0
  refine J_iload_n hC dX4_firstRoadDay_0 rfl rfl ?_
  refine J_bipush hC dX4_firstRoadDay_1 (v := 90) (by decide) ?_
  refine J_imul hC dX4_firstRoadDay_3 ?_
  rw [Int32.mul_comm]
  refine J_istore_n hC dX4_firstRoadDay_4 rfl (by decide) (ls1 := [some (rv x), some (rv a), some (.int q), some (.int (90 * q))]) rfl ?_
  refine J_iload_n hC dX4_firstRoadDay_5 rfl rfl ?_
  refine J_bipush hC dX4_firstRoadDay_6 (v := 90) (by decide) ?_
  refine J_iadd hC dX4_firstRoadDay_8 ?_
  refine J_iconst hC dX4_firstRoadDay_9 (v := 1) (by decide) ?_
  refine J_isub hC dX4_firstRoadDay_10 ?_
  refine J_aload_n hC dX4_firstRoadDay_11 rfl rfl ?_
  refine J_get5 hC lf_X4_48 (j := 10) hM.tx (v := .int (sD S)) (congrArg (fun z => some (Value.int z)) hM.c10) dX4_firstRoadDay_12 ?_
  refine J_mmin hC lm_X4_405 ms_min it_Math mc_min (by decide) (by decide) (by decide) (by decide) (v := nI (90 * ix q + qlen (ix (sD S)) (ix q) - 1)) ((min_sw _ _).trans qt2) dX4_firstRoadDay_15 ?_
  refine J_istore hC dX4_firstRoadDay_18 (by decide) (ls1 := [some (rv x), some (rv a), some (.int q), some (.int (90 * q)), some (.int (nI (90 * ix q + qlen (ix (sD S)) (ix q) - 1)))]) rfl ?_
  have eb : ([some (rv x), some (rv a), some (.int q), some (.int (90 * q)), some (.int (nI (90 * ix q + qlen (ix (sD S)) (ix q) - 1)))] : List (Option Value)) = [some (rv x), some (rv a), some (.int q), some (.int (nI (90 * ix q))), some (.int (nI (90 * ix q + qlen (ix (sD S)) (ix q) - 1)))] := by rw [qt1]
  rw [eb]
  refine J_aload_n hC dX4_firstRoadDay_20 rfl rfl ?_
  refine J_get4 hC lf_X4_118 (j := 4) hV.tg (v := rv (mR M a 4)) rfl dX4_firstRoadDay_21 ?_
  refine J_iconst hC dX4_firstRoadDay_24 (v := 1) (by decide) ?_
  refine J_iload_n hC dX4_firstRoadDay_25 rfl rfl ?_
  refine J_iload hC dX4_firstRoadDay_26 rfl ?_
  refine J_callV (k1 := 0) (n1 := 0) (kd := 3) [.int 1, .int (nI (90 * ix q)), .int (nI (90 * ix q + qlen (ix (sD S)) (ix q) - 1))] [.int (nI (90 * ix q + qlen (ix (sD S)) (ix q) - 1)), .int (nI (90 * ix q)), .int 1, rv (mR M a 4)] hC lv_X4_408 (ct_X2_firstDayWith hst hV.T4 (90 * ix q) (qlen (ix (sD S)) (ix q)) ql1 (by omega) (hI.s2 _ hi) (fun e he => ((hI.ts _ hi 2 (by decide)).1 e he).1)) hV.k4 (by decide) ⟨_, mE_3 hV.k4⟩ rfl rfl rfl (by simp only [List.map_cons, List.map_nil, rv_cat, Value.category, List.sum_cons, List.sum_nil]; decide) (by decide) rfl rfl (by decide) (by decide) dX4_firstRoadDay_28 (fun E M9 h => h.elim) (fun v9 M9 hq9 => ?_)
  obtain ⟨rfl, e9⟩ := hq9
  rw [e9]; clear e9
  show J G γ _ _ _ (.int (rdI (rday S i (ix q))) :: _) _ _
  refine J_iret hC (by decide) (by decide) dX4_firstRoadDay_31 ?_
  exact ⟨rfl, rfl⟩
theorem ct_X4_due {G : Gt} {l : Launch} (hst : l.stackTraces = false) {M : Mm} {x : Nat} {S : St} {t : Nat} (hM : CAt M x S) (hI : Inv S t) (v q : Int32) : Ct G l yX4_due cX4_due 4 (some .int) 7 M [rv x, .int v, .int q] 8 48 (OkC M x (oDue S v q)) (ExC M x S (oDue S v q) [eIO, eIA]) := by
  obtain ⟨bK, bV, bP, bN⟩ := hM.b
  refine Ct_intro (own := RX4) (nm := "due") (by decide +kernel) rfl rfl hst (fun w hw => by simp only [List.mem_cons, List.not_mem_nil, or_false] at hw; rcases hw with rfl | rfl | rfl <;> first | rfl | exact rv_cat _) (Nat.le_of_ble_eq_true rfl) (fun γ hC => ?_)
  show J G γ M 0 [some (rv x), some (.int v), some (.int q)] [] 0 0
  refine J_aload_n hC dX4_due_0 rfl rfl ?_
  refine J_iload_n hC dX4_due_1 rfl rfl ?_
  refine J_callV (k1 := 1) (n1 := 6) (kd := 5) [.int v] [.int v, rv x] hC lv_X4_81 (ct_X4_vehicleAt hst hM v) hM.tx (by decide) ⟨_, mE_5 hM.tx⟩ rfl rfl rfl (by simp only [List.map_cons, List.map_nil, rv_cat, Value.category, List.sum_cons, List.sum_nil]; decide) (by decide) rfl rfl (by decide) (by decide) dX4_due_2 (fun E M9 hx => by
        obtain ⟨rfl, rfl, nv⟩ := hx
        exact exc hM (k := 0) rfl (by simp [oDue, nv])) (fun v9 M9 hq9 => ?_)
  obtain ⟨rfl, e9, hv⟩ := hq9
  rw [e9]; clear e9
  have xv := (isIx_ix hv).2
  obtain ⟨av, eav⟩ : ∃ z, z = mR M (mR M x 0) (ix v) := ⟨_, rfl⟩
  have wv : VeA M av (ix v) S := by rw [eav]; exact hM.v.1 _ xv
  show J G γ M _ _ (rv (mR M (mR M x 0) (ix v)) :: _) _ _
  rw [← eav]
  refine J_astore_n hC dX4_due_5 rfl (by decide) (ls1 := [some (rv x), some (.int v), some (.int q), some (rv av)]) rfl ?_
  refine J_iload_n hC dX4_due_6 rfl rfl ?_
  refine J_if_lt hC dX4_due_7 (tgt := 21) (by decide) (fun c7 => ?_) (fun c7 => ?_)
  · refine J_throwW hC lt_51 (by decide +kernel : (RX4, 283, "there is no such quarter yet") ∈ strT) (by decide) (by decide) (by decide) (by decide) dX4_due_21 dX4_due_24 dX4_due_25 dX4_due_28 dX4_due_31 ?_
    exact exc hM (k := 1) rfl (by simp [oDue, hv, q_out hI.bD (by first | exact Or.inl c7 | exact Or.inr c18)])
  · refine J_iload_n hC dX4_due_10 rfl rfl ?_
    refine J_aload_n hC dX4_due_11 rfl rfl ?_
    refine J_get5 hC lf_X4_48 (j := 10) hM.tx (v := .int (sD S)) (congrArg (fun z => some (Value.int z)) hM.c10) dX4_due_12 ?_
    refine J_bipush hC dX4_due_15 (v := 90) (by decide) ?_
    refine J_idiv hC dX4_due_17 (by decide) ?_
    refine J_icmp_le hC dX4_due_18 (tgt := 32) (by decide) (fun c18 => ?_) (fun c18 => ?_)
    · have hqq := q_in hI.bD c7 c18
      refine J_aload_n hC dX4_due_32 rfl rfl ?_
      refine J_aload_n hC dX4_due_33 rfl rfl ?_
      refine J_iload_n hC dX4_due_34 rfl rfl ?_
      refine J_callV (k1 := 1) (n1 := 6) (kd := 5) [rv av, .int q] [.int q, rv av, rv x] hC lv_X4_285 (ct_X4_firstRoadDay hst hM hI xv wv q hqq) hM.tx (by decide) ⟨_, mE_5 hM.tx⟩ rfl rfl rfl (by simp only [List.map_cons, List.map_nil, rv_cat, Value.category, List.sum_cons, List.sum_nil]; decide) (by decide) rfl rfl (by decide) (by decide) dX4_due_35 (fun E M9 h => h.elim) (fun v9 M9 hq9 => ?_)
      obtain ⟨rfl, e9⟩ := hq9
      rw [e9]; clear e9
      refine J_iconst hC dX4_due_38 (v := -1) (by decide) ?_
      refine J_icmp_ne hC dX4_due_39 (tgt := 46) (by decide) (fun c39 => ?_) (fun c39 => ?_)
      · have q39 : ¬ rdI (rday S (ix v) (ix q)) = -1 := c39
        refine J_aload_n hC dX4_due_46 rfl rfl ?_
        refine J_get4 hC lf_X4_145 (j := 1) wv.tg (v := .int (sV S (ix v) 1)) (congrArg (fun z => some (Value.int z)) wv.v1) dX4_due_47 ?_
        refine J_callS (k1 := 1) (n1 := 6) [.int (sV S (ix v) 1)] [.int (sV S (ix v) 1)] hC ls_X4_289 (ct_X4_taxFor hst (sV S (ix v) 1)) rfl rfl (by simp only [List.map_cons, List.map_nil, rv_cat, Value.category, List.sum_cons, List.sum_nil]; decide) (by decide) rfl rfl (by decide) (by decide) dX4_due_50 (fun E M9 h => h.elim) (fun v9 M9 hq9 => ?_)
        obtain ⟨rfl, e9⟩ := hq9
        rw [e9]; clear e9
        refine J_iret hC (by decide) (by decide) dX4_due_53 ?_
        refine okc hM ?_
        have hnd : ¬ rday S (ix v) (ix q) = none := fun e => q39 (by rw [e]; rfl)
        simp [oDue, hv, hqq, hnd]
      · have q39 : rdI (rday S (ix v) (ix q)) = -1 := (nn c39)
        refine J_iconst hC dX4_due_42 (v := 0) (by decide) ?_
        refine J_goto hC dX4_due_43 (tgt := 53) (by decide) ?_
        refine J_iret hC (by decide) (by decide) dX4_due_53 ?_
        refine okc hM ?_
        have hnd := rdI_eq (by have := (q_len (isIx_ix hqq).2).2; have := ixD hI.bD; omega) q39
        simp [oDue, hv, hqq, hnd]
    · refine J_throwW hC lt_51 (by decide +kernel : (RX4, 283, "there is no such quarter yet") ∈ strT) (by decide) (by decide) (by decide) (by decide) dX4_due_21 dX4_due_24 dX4_due_25 dX4_due_28 dX4_due_31 ?_
      exact exc hM (k := 1) rfl (by simp [oDue, hv, q_out hI.bD (by first | exact Or.inl c7 | exact Or.inr c18)])
