/-- the first vehicle that has it -/
def findV (S : St) (p day : Int32) : Int32 := match fst1 (fun v => decide (look (sT S 1 v) day = p)) (sN S 1) with
  | some v => nI v
  | none => -1
theorem ct_X5_vehicle {G : Gt} {l : Launch} (hst : l.stackTraces = false) {M : Mm} {m : Nat} {S : St} {t : Nat} (hM : MAt M m S t) (p day : Int32) : Ct G l yX5_vehicle cX5_vehicle 4 (some .int) 2 M [rv m, .int p, .int day] 0 0 (PQ M (.int (findV S p day))) (noX) := by
  obtain ⟨a0, nP, nR, nS, a1, bR, bS, bt⟩ := id hM
  have bPs := a1.bPs; have bK := a1.bK; have bV := a1.bV; have bPl := a1.bP; have bN := a1.bN
  refine Ct_intro (own := RX5) (nm := "vehicle") (by decide +kernel) rfl rfl hst (fun w hw => by simp only [List.mem_cons, List.not_mem_nil, or_false] at hw; rcases hw with rfl | rfl | rfl <;> first | rfl | exact rv_cat _) (Nat.le_of_ble_eq_true rfl) (fun γ hC => ?_)
  show J G γ M 0 [some (rv m), some (.int p), some (.int day)] [] 0 0
  refine J_iconst hC dX5_vehicle_0 (v := 0) (by decide) ?_
  refine J_istore_n hC dX5_vehicle_1 rfl (by decide) (ls1 := [some (rv m), some (.int p), some (.int day), some (.int 0)]) rfl ?_
  have L2 : ∀ (n9 : Nat) (j : Nat), (sN S 1) - j < n9 → (j ≤ (sN S 1)) → (∀ k, k < j → ¬ look (sT S 1 k) day = p) → J G γ M 2 [some (rv m), some (.int p), some (.int day), some (.int (nI j))] [] 0 0 := by
    intro n9
    induction n9 with
    | zero => intro j h9; exact absurd h9 (Nat.not_lt_zero _)
    | succ n9 ih =>
      intro j h9 hj hi
      refine J_iload_n hC dX5_vehicle_2 rfl rfl ?_
      refine J_aload_n hC dX5_vehicle_3 rfl rfl ?_
      refine J_get6 hC lf_X5_91 (j := 2) a0.t (v := .int (nI (sN S 1))) (congrArg (fun z => some (Value.int z)) a1.s2) dX5_vehicle_4 ?_
      refine J_icmp_ge hC dX5_vehicle_7 (tgt := 28) (by decide) (fun c7 => ?_) (fun c7 => ?_)
      · have hge := le_nI (by omega) (by omega) c7
        have hjj : j = sN S 1 := by omega
        subst hjj
        refine J_iconst hC dX5_vehicle_28 (v := -1) (by decide) ?_
        refine J_iret hC (by decide) (by decide) dX5_vehicle_29 ?_
        refine ⟨?_, rfl⟩
        unfold findV
        rw [fst1_miss _ (fun k hk => by simpa using hi k hk)]
      · have hlt := ge_nI (by omega) (by omega) c7
        refine J_aload_n hC dX5_vehicle_10 rfl rfl ?_
        refine J_iload_n hC dX5_vehicle_11 rfl rfl ?_
        refine J_iload_n hC dX5_vehicle_12 rfl rfl ?_
        refine J_callV (k1 := 0) (n1 := 0) (kd := 6) [.int (nI j), .int day] [.int day, .int (nI j), rv m] hC lv_X5_106 (ct_X5_plate hst hM (nI j) day (isIx_of hlt (by omega))) a0.t (by decide) ⟨_, mE_6 a0.t⟩ rfl rfl rfl (by simp only [List.map_cons, List.map_nil, rv_cat, Value.category, List.sum_cons, List.sum_nil]; decide) (by decide) rfl rfl (by decide) (by decide) dX5_vehicle_13 (fun E M9 h => h.elim) (fun v9 M9 hq9 => ?_)
        obtain ⟨rfl, e9⟩ := hq9
        rw [e9]; clear e9
        rw [ix_nI (by omega)]
        refine J_iload_n hC dX5_vehicle_16 rfl rfl ?_
        refine J_icmp_ne hC dX5_vehicle_17 (tgt := 22) (by decide) (fun c17 => ?_) (fun c17 => ?_)
        · refine J_iinc hC dX5_vehicle_22 (by decide) rfl (v := nI (j + 1)) (nI_1 _) (ls1 := [some (rv m), some (.int p), some (.int day), some (.int (nI (j + 1)))]) rfl ?_
          refine J_goto hC dX5_vehicle_25 (tgt := 2) (by decide) ?_
          exact ih (j + 1) (by omega) (by omega) (fun k hk => by
            by_cases e : k = j
            · subst e; exact c17
            · exact hi k (by omega))
        · refine J_iload_n hC dX5_vehicle_20 rfl rfl ?_
          refine J_iret hC (by decide) (by decide) dX5_vehicle_21 ?_
          refine ⟨?_, rfl⟩
          unfold findV
          rw [fst1_hit (j := j) (fun k hk => by simpa using hi k hk) (by simpa using nn c17) _ hlt]
  exact L2 (sN S 1 + 1) 0 (by omega) (Nat.zero_le _) (fun k hk => absurd hk (Nat.not_lt_zero _))
theorem ct_X5_present {G : Gt} {l : Launch} (hst : l.stackTraces = false) {M : Mm} {m : Nat} {S : St} {t : Nat} (hM : MAt M m S t) (hI : Inv S t) (v : Int32) (hv : isIx v (sN S 1) = true) : Ct G l yX5_present cX5_present 2 (some .int) 2 M [rv m, .int v] 0 0 (PQ M (.int (lastV (sT S 0 (ix v))))) (noX) := by
  obtain ⟨a0, nP, nR, nS, a1, bR, bS, bt⟩ := id hM
  have bPs := a1.bPs; have bK := a1.bK; have bV := a1.bV; have bPl := a1.bP; have bN := a1.bN
  refine Ct_intro (own := RX5) (nm := "present") (by decide +kernel) rfl rfl hst (fun w hw => by simp only [List.mem_cons, List.not_mem_nil, or_false] at hw; rcases hw with rfl | rfl <;> first | rfl | exact rv_cat _) (Nat.le_of_ble_eq_true rfl) (fun γ hC => ?_)
  show J G γ M 0 [some (rv m), some (.int v)] [] 0 0
  refine J_aload_n hC dX5_present_0 rfl rfl ?_
  refine J_iload_n hC dX5_present_1 rfl rfl ?_
  refine J_sipush hC dX5_present_2 (v := 3000) (by decide) ?_
  refine J_callV (k1 := 0) (n1 := 0) (kd := 6) [.int v, .int 3000] [.int 3000, .int v, rv m] hC lv_X5_113 (ct_X5_keeper hst hM v 3000 hv) a0.t (by decide) ⟨_, mE_6 a0.t⟩ rfl rfl rfl (by simp only [List.map_cons, List.map_nil, rv_cat, Value.category, List.sum_cons, List.sum_nil]; decide) (by decide) rfl rfl (by decide) (by decide) dX5_present_5 (fun E M9 h => h.elim) (fun v9 M9 hq9 => ?_)
  obtain ⟨rfl, e9⟩ := hq9
  rw [e9]; clear e9
  refine J_iret hC (by decide) (by decide) dX5_present_8 ?_
  refine ⟨?_, rfl⟩
  rw [hI.lkB (isIx_ix hv).2 (by decide)]
theorem ct_X5_lastPass {G : Gt} {l : Launch} (hst : l.stackTraces = false) {M : Mm} {m : Nat} {S : St} {t : Nat} (hM : MAt M m S t) (hI : Inv S t) (v : Int32) (hv : isIx v (sN S 1) = true) : Ct G l yX5_lastPass cX5_lastPass 4 (some .int) 1 M [rv m, .int v] 0 0 (PQ M (.int (lastD (sT S 0 (ix v))))) (noX) := by
  obtain ⟨a0, nP, nR, nS, a1, bR, bS, bt⟩ := id hM
  have bPs := a1.bPs; have bK := a1.bK; have bV := a1.bV; have bPl := a1.bP; have bN := a1.bN
  refine Ct_intro (own := RX5) (nm := "lastPass") (by decide +kernel) rfl rfl hst (fun w hw => by simp only [List.mem_cons, List.not_mem_nil, or_false] at hw; rcases hw with rfl | rfl <;> first | rfl | exact rv_cat _) (Nat.le_of_ble_eq_true rfl) (fun γ hC => ?_)
  show J G γ M 0 [some (rv m), some (.int v)] [] 0 0
  refine J_iconst hC dX5_lastPass_0 (v := 0) (by decide) ?_
  refine J_istore_n hC dX5_lastPass_1 rfl (by decide) (ls1 := [some (rv m), some (.int v), some (.int 0)]) rfl ?_
  refine J_iconst hC dX5_lastPass_2 (v := 0) (by decide) ?_
  refine J_istore_n hC dX5_lastPass_3 rfl (by decide) (ls1 := [some (rv m), some (.int v), some (.int 0), some (.int 0)]) rfl ?_
  have L4 : ∀ (n9 : Nat) (j : Nat) (acc : Int32), nP - j < n9 → (j ≤ nP) → ((sq (ma M m 15) (ma M m 16) (ma M m 17) v j) ≠ [] → acc = lastD (sq (ma M m 15) (ma M m 16) (ma M m 17) v j)) → J G γ M 4 [some (rv m), some (.int v), some (.int acc), some (.int (nI j))] [] 0 0 := by
    intro n9
    induction n9 with
    | zero => intro j acc h9; exact absurd h9 (Nat.not_lt_zero _)
    | succ n9 ih =>
      intro j acc h9 hj hi
      refine J_iload_n hC dX5_lastPass_4 rfl rfl ?_
      refine J_aload_n hC dX5_lastPass_5 rfl rfl ?_
      refine J_get6 hC lf_X5_110 (j := 6) a0.t (v := .int (nI nP)) (congrArg (fun z => some (Value.int z)) a1.s6) dX5_lastPass_6 ?_
      refine J_icmp_ge hC dX5_lastPass_9 (tgt := 35) (by decide) (fun c9 => ?_) (fun c9 => ?_)
      · have hge := le_nI (by omega) (by omega) c9
        have hjj : j = nP := by omega
        subst hjj
        refine J_iload_n hC dX5_lastPass_35 rfl rfl ?_
        refine J_iret hC (by decide) (by decide) dX5_lastPass_36 ?_
        refine ⟨?_, rfl⟩
        have h9 := a1.q0 _ (isIx_ix hv).2
        rw [← isIx_nI hv] at h9
        rw [h9] at hi
        rw [hi (hI.tn _ (isIx_ix hv).2)]
      · have hlt := ge_nI (by omega) (by omega) c9
        refine J_aload_n hC dX5_lastPass_12 rfl rfl ?_
        refine J_get6 hC lf_X5_26 (j := 15) a0.t (v := rv (mR M m 15)) rfl dX5_lastPass_13 ?_
        refine J_iload_n hC dX5_lastPass_16 rfl rfl ?_
        refine J_iald hC a0.a15 (j := j) (nI_toInt (by omega)) (by rw [a0.l15]; omega) dX5_lastPass_17 ?_
        refine J_iload_n hC dX5_lastPass_18 rfl rfl ?_
        refine J_icmp_ne hC dX5_lastPass_19 (tgt := 29) (by decide) (fun c19 => ?_) (fun c19 => ?_)
        · refine J_iinc hC dX5_lastPass_29 (by decide) rfl (v := nI (j + 1)) (nI_1 _) (ls1 := [some (rv m), some (.int v), some (.int acc), some (.int (nI (j + 1)))]) rfl ?_
          refine J_goto hC dX5_lastPass_32 (tgt := 4) (by decide) ?_
          exact ih (j + 1) _ (by omega) (by omega) (by first | (rw [sq_n c19]; exact hi) | (rw [sq_y (nn c19)]; intro _; rw [lastD_snoc]))
        · refine J_aload_n hC dX5_lastPass_22 rfl rfl ?_
          refine J_get6 hC lf_X5_29 (j := 16) a0.t (v := rv (mR M m 16)) rfl dX5_lastPass_23 ?_
          refine J_iload_n hC dX5_lastPass_26 rfl rfl ?_
          refine J_iald hC a0.a16 (j := j) (nI_toInt (by omega)) (by rw [a0.l16]; omega) dX5_lastPass_27 ?_
          refine J_istore_n hC dX5_lastPass_28 rfl (by decide) (ls1 := [some (rv m), some (.int v), some (.int (mI M (mR M m 16) j)), some (.int (nI j))]) rfl ?_
          refine J_iinc hC dX5_lastPass_29 (by decide) rfl (v := nI (j + 1)) (nI_1 _) (ls1 := [some (rv m), some (.int v), some (.int (mI M (mR M m 16) j)), some (.int (nI (j + 1)))]) rfl ?_
          refine J_goto hC dX5_lastPass_32 (tgt := 4) (by decide) ?_
          exact ih (j + 1) _ (by omega) (by omega) (by first | (rw [sq_n c19]; exact hi) | (rw [sq_y (nn c19)]; intro _; rw [lastD_snoc]))
  exact L4 (nP + 1) 0 _ (by omega) (Nat.zero_le _) (fun h => absurd rfl h)
theorem ct_X5_blocked {G : Gt} {l : Launch} (hst : l.stackTraces = false) {M : Mm} {m : Nat} {S : St} {t : Nat} (hM : MAt M m S t) (v : Int32) (hv : isIx v (sN S 1) = true) : Ct G l yX5_blocked cX5_blocked 4 (some .boolean) 1 M [rv m, .int v] 0 0 (PQ M (.int (bz (blk S (ix v))))) (noX) := by
  obtain ⟨a0, nP, nR, nS, a1, bR, bS, bt⟩ := id hM
  have bPs := a1.bPs; have bK := a1.bK; have bV := a1.bV; have bPl := a1.bP; have bN := a1.bN
  have hvx := (isIx_ix hv).2
  refine Ct_intro (own := RX5) (nm := "blocked") (by decide +kernel) rfl rfl hst (fun w hw => by simp only [List.mem_cons, List.not_mem_nil, or_false] at hw; rcases hw with rfl | rfl <;> first | rfl | exact rv_cat _) (Nat.le_of_ble_eq_true rfl) (fun γ hC => ?_)
  show J G γ M 0 [some (rv m), some (.int v)] [] 0 0
  refine J_aload_n hC dX5_blocked_0 rfl rfl ?_
  refine J_get6 hC lf_X5_19 (j := 13) a0.t (v := rv (mR M m 13)) rfl dX5_blocked_1 ?_
  refine J_iload_n hC dX5_blocked_4 rfl rfl ?_
  refine J_zald hC a0.a13 (j := (ix v)) (isIx_ix hv).1 (by rw [a0.l13]; omega) dX5_blocked_5 ?_
  refine J_istore_n hC dX5_blocked_6 rfl (by decide) (ls1 := [some (rv m), some (.int v), some (.int (mI M (mR M m 13) ((ix v))))]) rfl ?_
  refine J_iconst hC dX5_blocked_7 (v := 0) (by decide) ?_
  refine J_istore_n hC dX5_blocked_8 rfl (by decide) (ls1 := [some (rv m), some (.int v), some (.int (mI M (mR M m 13) ((ix v)))), some (.int 0)]) rfl ?_
  have L9 : ∀ (n9 : Nat) (j : Nat) (acc : Int32), 6 - j < n9 → (j ≤ 6) → (acc = bz (blkN S (ix v) j)) → J G γ M 9 [some (rv m), some (.int v), some (.int acc), some (.int (nI j))] [] 0 0 := by
    intro n9
    induction n9 with
    | zero => intro j acc h9; exact absurd h9 (Nat.not_lt_zero _)
    | succ n9 ih =>
      intro j acc h9 hj hi
      refine J_iload_n hC dX5_blocked_9 rfl rfl ?_
      refine J_bipush hC dX5_blocked_10 (v := 6) (by decide) ?_
      refine J_icmp_ge hC dX5_blocked_12 (tgt := 45) (by decide) (fun c12 => ?_) (fun c12 => ?_)
      · have hge := le_nI (n := 6) (by omega) (by omega) c12
        have hjj : j = 6 := by omega
        subst hjj
        refine J_iload_n hC dX5_blocked_45 rfl rfl ?_
        refine J_zret hC (by decide) (by decide) (by rw [hi]; exact bz_nar _) dX5_blocked_46 ?_
        refine ⟨?_, rfl⟩
        rw [hi]; rfl
      · have hlt : j < 6 := by (have h9 := ge_nI (n := 6) (by omega) (by omega) c12; exact h9)
        have e8 : mI M (mR M m 12) (6 * ix v + j) = sL S (ix v) j := a1.lien _ hvx j hlt
        refine J_iload_n hC dX5_blocked_15 rfl rfl ?_
        refine J_if_ne hC dX5_blocked_16 (tgt := 33) (by decide) (fun c16 => ?_) (fun c16 => ?_)
        · refine J_iconst hC dX5_blocked_33 (v := 1) (by decide) ?_
          refine J_goto hC dX5_blocked_34 (tgt := 38) (by decide) ?_
          refine J_istore_n hC dX5_blocked_38 rfl (by decide) (ls1 := [some (rv m), some (.int v), some (.int 1), some (.int (nI j))]) rfl ?_
          refine J_iinc hC dX5_blocked_39 (by decide) rfl (v := nI (j + 1)) (nI_1 _) (ls1 := [some (rv m), some (.int v), some (.int 1), some (.int (nI (j + 1)))]) rfl ?_
          refine J_goto hC dX5_blocked_42 (tgt := 9) (by decide) ?_
          exact ih (j + 1) _ (by omega) (by omega) (by rw [blkN_s]; first | exact bk1 hi c16 | exact bk2 hi c16 e8 c30 | exact bk3 hi c16 e8 c30)
        · refine J_aload_n hC dX5_blocked_19 rfl rfl ?_
          refine J_get6 hC lf_X5_16 (j := 12) a0.t (v := rv (mR M m 12)) rfl dX5_blocked_20 ?_
          refine J_bipush hC dX5_blocked_23 (v := 6) (by decide) ?_
          refine J_iload_n hC dX5_blocked_25 rfl rfl ?_
          refine J_imul hC dX5_blocked_26 ?_
          refine J_iload_n hC dX5_blocked_27 rfl rfl ?_
          refine J_iadd hC dX5_blocked_28 ?_
          refine J_iald hC a0.a12 (j := 6 * ix v + j) (lien_ix hv bV hlt) (by rw [a0.l12]; omega) dX5_blocked_29 ?_
          refine J_if_le hC dX5_blocked_30 (tgt := 37) (by decide) (fun c30 => ?_) (fun c30 => ?_)
          · refine J_iconst hC dX5_blocked_37 (v := 0) (by decide) ?_
            refine J_istore_n hC dX5_blocked_38 rfl (by decide) (ls1 := [some (rv m), some (.int v), some (.int 0), some (.int (nI j))]) rfl ?_
            refine J_iinc hC dX5_blocked_39 (by decide) rfl (v := nI (j + 1)) (nI_1 _) (ls1 := [some (rv m), some (.int v), some (.int 0), some (.int (nI (j + 1)))]) rfl ?_
            refine J_goto hC dX5_blocked_42 (tgt := 9) (by decide) ?_
            exact ih (j + 1) _ (by omega) (by omega) (by rw [blkN_s]; first | exact bk1 hi c16 | exact bk2 hi c16 e8 c30 | exact bk3 hi c16 e8 c30)
          · refine J_iconst hC dX5_blocked_33 (v := 1) (by decide) ?_
            refine J_goto hC dX5_blocked_34 (tgt := 38) (by decide) ?_
            refine J_istore_n hC dX5_blocked_38 rfl (by decide) (ls1 := [some (rv m), some (.int v), some (.int 1), some (.int (nI j))]) rfl ?_
            refine J_iinc hC dX5_blocked_39 (by decide) rfl (v := nI (j + 1)) (nI_1 _) (ls1 := [some (rv m), some (.int v), some (.int 1), some (.int (nI (j + 1)))]) rfl ?_
            refine J_goto hC dX5_blocked_42 (tgt := 9) (by decide) ?_
            exact ih (j + 1) _ (by omega) (by omega) (by rw [blkN_s]; first | exact bk1 hi c16 | exact bk2 hi c16 e8 c30 | exact bk3 hi c16 e8 c30)
  exact L9 7 0 _ (by omega) (Nat.zero_le _) ((a1.scr _ hvx).trans ((rb01 (a1.sc _ hvx)).trans (by simp [blkN])))
theorem ct_X5_open {G : Gt} {l : Launch} (hst : l.stackTraces = false) {M : Mm} {m : Nat} {S : St} {t : Nat} (hM : MAt M m S t) (v : Int32) : Ct G l yX5_open cX5_open 4 (some .int) 1 M [rv m, .int v] 0 0 (PQ M (.int (nI (cnt (fun i => decide (sO S i 5 = 111) && (decide (v = -1) || decide (sO S i 2 = v))) (sN S 3))))) (noX) := by
  obtain ⟨a0, nP, nR, nS, a1, bR, bS, bt⟩ := id hM
  have bPs := a1.bPs; have bK := a1.bK; have bV := a1.bV; have bPl := a1.bP; have bN := a1.bN
  refine Ct_intro (own := RX5) (nm := "open") (by decide +kernel) rfl rfl hst (fun w hw => by simp only [List.mem_cons, List.not_mem_nil, or_false] at hw; rcases hw with rfl | rfl <;> first | rfl | exact rv_cat _) (Nat.le_of_ble_eq_true rfl) (fun γ hC => ?_)
  show J G γ M 0 [some (rv m), some (.int v)] [] 0 0
  refine J_iconst hC dX5_open_0 (v := 0) (by decide) ?_
  refine J_istore_n hC dX5_open_1 rfl (by decide) (ls1 := [some (rv m), some (.int v), some (.int 0)]) rfl ?_
  refine J_iconst hC dX5_open_2 (v := 0) (by decide) ?_
  refine J_istore_n hC dX5_open_3 rfl (by decide) (ls1 := [some (rv m), some (.int v), some (.int 0), some (.int 0)]) rfl ?_
  have L4 : ∀ (n9 : Nat) (j : Nat) (acc : Int32), (sN S 3) - j < n9 → (j ≤ (sN S 3)) → (acc = nI (cnt (fun i => decide (sO S i 5 = 111) && (decide (v = -1) || decide (sO S i 2 = v))) j)) → J G γ M 4 [some (rv m), some (.int v), some (.int acc), some (.int (nI j))] [] 0 0 := by
    intro n9
    induction n9 with
    | zero => intro j acc h9; exact absurd h9 (Nat.not_lt_zero _)
    | succ n9 ih =>
      intro j acc h9 hj hi
      refine J_iload_n hC dX5_open_4 rfl rfl ?_
      refine J_aload_n hC dX5_open_5 rfl rfl ?_
      refine J_get6 hC lf_X5_166 (j := 3) a0.t (v := .int (nI (sN S 3))) (congrArg (fun z => some (Value.int z)) a1.s3) dX5_open_6 ?_
      refine J_icmp_ge hC dX5_open_9 (tgt := 52) (by decide) (fun c9 => ?_) (fun c9 => ?_)
      · have hge := le_nI (by omega) (by omega) c9
        have hjj : j = sN S 3 := by omega
        subst hjj
        refine J_iload_n hC dX5_open_52 rfl rfl ?_
        refine J_iret hC (by decide) (by decide) dX5_open_53 ?_
        refine ⟨?_, rfl⟩
        rw [hi]
      · have hlt := ge_nI (by omega) (by omega) c9
        have e5 : mI M (mR M m 22) j = sO S j 5 := a1.n5 _ hlt
        have e2 : mI M (mR M m 20) j = sO S j 2 := a1.n2 _ hlt
        refine J_iload_n hC dX5_open_12 rfl rfl ?_
        refine J_aload_n hC dX5_open_13 rfl rfl ?_
        refine J_get6 hC lf_X5_47 (j := 22) a0.t (v := rv (mR M m 22)) rfl dX5_open_14 ?_
        refine J_iload_n hC dX5_open_17 rfl rfl ?_
        refine J_iald hC a0.a22 (j := j) (nI_toInt (by omega)) (by rw [a0.l22]; omega) dX5_open_18 ?_
        refine J_bipush hC dX5_open_19 (v := 111) (by decide) ?_
        refine J_icmp_ne hC dX5_open_21 (tgt := 43) (by decide) (fun c21 => ?_) (fun c21 => ?_)
        · refine J_iconst hC dX5_open_43 (v := 0) (by decide) ?_
          refine J_iadd hC dX5_open_44 ?_
          refine J_istore_n hC dX5_open_45 rfl (by decide) (ls1 := [some (rv m), some (.int v), some (.int (acc + 0)), some (.int (nI j))]) rfl ?_
          refine J_iinc hC dX5_open_46 (by decide) rfl (v := nI (j + 1)) (nI_1 _) (ls1 := [some (rv m), some (.int v), some (.int (acc + 0)), some (.int (nI (j + 1)))]) rfl ?_
          refine J_goto hC dX5_open_49 (tgt := 4) (by decide) ?_
          exact ih (j + 1) _ (by omega) (by omega) (by rw [cnt_s, hi]; first | (rw [if_pos (by simp_all)]; exact nI_1 _) | (rw [if_neg (by simp_all)]; exact nI_a0 _))
        · refine J_iload_n hC dX5_open_24 rfl rfl ?_
          refine J_iconst hC dX5_open_25 (v := -1) (by decide) ?_
          refine J_icmp_eq hC dX5_open_26 (tgt := 39) (by decide) (fun c26 => ?_) (fun c26 => ?_)
          · refine J_iconst hC dX5_open_39 (v := 1) (by decide) ?_
            refine J_goto hC dX5_open_40 (tgt := 44) (by decide) ?_
            refine J_iadd hC dX5_open_44 ?_
            refine J_istore_n hC dX5_open_45 rfl (by decide) (ls1 := [some (rv m), some (.int v), some (.int (acc + 1)), some (.int (nI j))]) rfl ?_
            refine J_iinc hC dX5_open_46 (by decide) rfl (v := nI (j + 1)) (nI_1 _) (ls1 := [some (rv m), some (.int v), some (.int (acc + 1)), some (.int (nI (j + 1)))]) rfl ?_
            refine J_goto hC dX5_open_49 (tgt := 4) (by decide) ?_
            exact ih (j + 1) _ (by omega) (by omega) (by rw [cnt_s, hi]; first | (rw [if_pos (by simp_all)]; exact nI_1 _) | (rw [if_neg (by simp_all)]; exact nI_a0 _))
          · refine J_aload_n hC dX5_open_29 rfl rfl ?_
            refine J_get6 hC lf_X5_41 (j := 20) a0.t (v := rv (mR M m 20)) rfl dX5_open_30 ?_
            refine J_iload_n hC dX5_open_33 rfl rfl ?_
            refine J_iald hC a0.a20 (j := j) (nI_toInt (by omega)) (by rw [a0.l20]; omega) dX5_open_34 ?_
            refine J_iload_n hC dX5_open_35 rfl rfl ?_
            refine J_icmp_ne hC dX5_open_36 (tgt := 43) (by decide) (fun c36 => ?_) (fun c36 => ?_)
            · refine J_iconst hC dX5_open_43 (v := 0) (by decide) ?_
              refine J_iadd hC dX5_open_44 ?_
              refine J_istore_n hC dX5_open_45 rfl (by decide) (ls1 := [some (rv m), some (.int v), some (.int (acc + 0)), some (.int (nI j))]) rfl ?_
              refine J_iinc hC dX5_open_46 (by decide) rfl (v := nI (j + 1)) (nI_1 _) (ls1 := [some (rv m), some (.int v), some (.int (acc + 0)), some (.int (nI (j + 1)))]) rfl ?_
              refine J_goto hC dX5_open_49 (tgt := 4) (by decide) ?_
              exact ih (j + 1) _ (by omega) (by omega) (by rw [cnt_s, hi]; first | (rw [if_pos (by simp_all)]; exact nI_1 _) | (rw [if_neg (by simp_all)]; exact nI_a0 _))
            · refine J_iconst hC dX5_open_39 (v := 1) (by decide) ?_
              refine J_goto hC dX5_open_40 (tgt := 44) (by decide) ?_
              refine J_iadd hC dX5_open_44 ?_
              refine J_istore_n hC dX5_open_45 rfl (by decide) (ls1 := [some (rv m), some (.int v), some (.int (acc + 1)), some (.int (nI j))]) rfl ?_
              refine J_iinc hC dX5_open_46 (by decide) rfl (v := nI (j + 1)) (nI_1 _) (ls1 := [some (rv m), some (.int v), some (.int (acc + 1)), some (.int (nI (j + 1)))]) rfl ?_
              refine J_goto hC dX5_open_49 (tgt := 4) (by decide) ?_
              exact ih (j + 1) _ (by omega) (by omega) (by rw [cnt_s, hi]; first | (rw [if_pos (by simp_all)]; exact nI_1 _) | (rw [if_neg (by simp_all)]; exact nI_a0 _))
  exact L4 (sN S 3 + 1) 0 _ (by omega) (Nat.zero_le _) (by rfl)
theorem ct_X5_passesOf {G : Gt} {l : Launch} (hst : l.stackTraces = false) {M : Mm} {m : Nat} {S : St} {t : Nat} (hM : MAt M m S t) (v : Int32) (hv : isIx v (sN S 1) = true) : Ct G l yX5_passesOf cX5_passesOf 4 (some .int) 1 M [rv m, .int v] 0 0 (PQ M (.int (nI (sT S 0 (ix v)).length))) (noX) := by
  obtain ⟨a0, nP, nR, nS, a1, bR, bS, bt⟩ := id hM
  have bPs := a1.bPs; have bK := a1.bK; have bV := a1.bV; have bPl := a1.bP; have bN := a1.bN
  refine Ct_intro (own := RX5) (nm := "passesOf") (by decide +kernel) rfl rfl hst (fun w hw => by simp only [List.mem_cons, List.not_mem_nil, or_false] at hw; rcases hw with rfl | rfl <;> first | rfl | exact rv_cat _) (Nat.le_of_ble_eq_true rfl) (fun γ hC => ?_)
  show J G γ M 0 [some (rv m), some (.int v)] [] 0 0
  refine J_iconst hC dX5_passesOf_0 (v := 0) (by decide) ?_
  refine J_istore_n hC dX5_passesOf_1 rfl (by decide) (ls1 := [some (rv m), some (.int v), some (.int 0)]) rfl ?_
  refine J_iconst hC dX5_passesOf_2 (v := 0) (by decide) ?_
  refine J_istore_n hC dX5_passesOf_3 rfl (by decide) (ls1 := [some (rv m), some (.int v), some (.int 0), some (.int 0)]) rfl ?_
  have L4 : ∀ (n9 : Nat) (j : Nat) (acc : Int32), nP - j < n9 → (j ≤ nP) → (acc = nI (sq (ma M m 15) (ma M m 16) (ma M m 17) v j).length) → J G γ M 4 [some (rv m), some (.int v), some (.int acc), some (.int (nI j))] [] 0 0 := by
    intro n9
    induction n9 with
    | zero => intro j acc h9; exact absurd h9 (Nat.not_lt_zero _)
    | succ n9 ih =>
      intro j acc h9 hj hi
      refine J_iload_n hC dX5_passesOf_4 rfl rfl ?_
      refine J_aload_n hC dX5_passesOf_5 rfl rfl ?_
      refine J_get6 hC lf_X5_110 (j := 6) a0.t (v := .int (nI nP)) (congrArg (fun z => some (Value.int z)) a1.s6) dX5_passesOf_6 ?_
      refine J_icmp_ge hC dX5_passesOf_9 (tgt := 36) (by decide) (fun c9 => ?_) (fun c9 => ?_)
      · have hge := le_nI (by omega) (by omega) c9
        have hjj : j = nP := by omega
        subst hjj
        refine J_iload_n hC dX5_passesOf_36 rfl rfl ?_
        refine J_iret hC (by decide) (by decide) dX5_passesOf_37 ?_
        refine ⟨?_, rfl⟩
        have h9 := a1.q0 _ (isIx_ix hv).2
        rw [← isIx_nI hv] at h9
        rw [hi, h9]
      · have hlt := ge_nI (by omega) (by omega) c9
        refine J_iload_n hC dX5_passesOf_12 rfl rfl ?_
        refine J_aload_n hC dX5_passesOf_13 rfl rfl ?_
        refine J_get6 hC lf_X5_26 (j := 15) a0.t (v := rv (mR M m 15)) rfl dX5_passesOf_14 ?_
        refine J_iload_n hC dX5_passesOf_17 rfl rfl ?_
        refine J_iald hC a0.a15 (j := j) (nI_toInt (by omega)) (by rw [a0.l15]; omega) dX5_passesOf_18 ?_
        refine J_iload_n hC dX5_passesOf_19 rfl rfl ?_
        refine J_icmp_ne hC dX5_passesOf_20 (tgt := 27) (by decide) (fun c20 => ?_) (fun c20 => ?_)
        · refine J_iconst hC dX5_passesOf_27 (v := 0) (by decide) ?_
          refine J_iadd hC dX5_passesOf_28 ?_
          refine J_istore_n hC dX5_passesOf_29 rfl (by decide) (ls1 := [some (rv m), some (.int v), some (.int (acc + 0)), some (.int (nI j))]) rfl ?_
          refine J_iinc hC dX5_passesOf_30 (by decide) rfl (v := nI (j + 1)) (nI_1 _) (ls1 := [some (rv m), some (.int v), some (.int (acc + 0)), some (.int (nI (j + 1)))]) rfl ?_
          refine J_goto hC dX5_passesOf_33 (tgt := 4) (by decide) ?_
          exact ih (j + 1) _ (by omega) (by omega) (by first | (rw [sq_n c20, hi]; exact nI_a0 _) | (rw [sq_y (nn c20), hi, List.length_append]; exact nI_1 _))
        · refine J_iconst hC dX5_passesOf_23 (v := 1) (by decide) ?_
          refine J_goto hC dX5_passesOf_24 (tgt := 28) (by decide) ?_
          refine J_iadd hC dX5_passesOf_28 ?_
          refine J_istore_n hC dX5_passesOf_29 rfl (by decide) (ls1 := [some (rv m), some (.int v), some (.int (acc + 1)), some (.int (nI j))]) rfl ?_
          refine J_iinc hC dX5_passesOf_30 (by decide) rfl (v := nI (j + 1)) (nI_1 _) (ls1 := [some (rv m), some (.int v), some (.int (acc + 1)), some (.int (nI (j + 1)))]) rfl ?_
          refine J_goto hC dX5_passesOf_33 (tgt := 4) (by decide) ?_
          exact ih (j + 1) _ (by omega) (by omega) (by first | (rw [sq_n c20, hi]; exact nI_a0 _) | (rw [sq_y (nn c20), hi, List.length_append]; exact nI_1 _))
  exact L4 (nP + 1) 0 _ (by omega) (Nat.zero_le _) (by rfl)
theorem ct_X5_kept {G : Gt} {l : Launch} (hst : l.stackTraces = false) {M : Mm} {m : Nat} {S : St} {t : Nat} (hM : MAt M m S t) (p : Int32) (hp : isIx p (sN S 2) = true) : Ct G l yX5_kept cX5_kept 2 (some .boolean) 1 M [rv m, .int p] 0 0 (PQ M (.int (bz (keptQ S (ix p))))) (noX) := by
  obtain ⟨a0, nP, nR, nS, a1, bR, bS, bt⟩ := id hM
  have bPs := a1.bPs; have bK := a1.bK; have bV := a1.bV; have bPl := a1.bP; have bN := a1.bN
  have hpx := (isIx_ix hp).2
  have e0 := a1.p0 _ hpx
  have e1 := a1.p1 _ hpx
  refine Ct_intro (own := RX5) (nm := "kept") (by decide +kernel) rfl rfl hst (fun w hw => by simp only [List.mem_cons, List.not_mem_nil, or_false] at hw; rcases hw with rfl | rfl <;> first | rfl | exact rv_cat _) (Nat.le_of_ble_eq_true rfl) (fun γ hC => ?_)
  show J G γ M 0 [some (rv m), some (.int p)] [] 0 0
  refine J_aload_n hC dX5_kept_0 rfl rfl ?_
  refine J_get6 hC lf_X5_77 (j := 32) a0.t (v := rv (mR M m 32)) rfl dX5_kept_1 ?_
  refine J_iload_n hC dX5_kept_4 rfl rfl ?_
  refine J_zald hC a0.a32 (j := (ix p)) (isIx_ix hp).1 (by rw [a0.l32]; omega) dX5_kept_5 ?_
  refine J_if_eq hC dX5_kept_6 (tgt := 30) (by decide) (fun c6 => ?_) (fun c6 => ?_)
  · refine J_iconst hC dX5_kept_30 (v := 0) (by decide) ?_
    refine J_zret hC (by decide) (by decide) (by decide) dX5_kept_31 ?_
    refine ⟨?_, rfl⟩
    unfold ma at e0 e1
    first | (have k1 := bz_eq0 (e0 ▸ c6); simp only [decide_eq_false_iff_not] at k1; simp [keptQ, bz, nn k1]) | (have k1 := of_decide_eq_true (bz_ne0 (e0 ▸ c6)); have k2 := (e1 k1).2; rw [k2] at c23; simp [keptQ, bz, k1, i_nlt2 c23]) | (have k1 := of_decide_eq_true (bz_ne0 (e0 ▸ c6)); have k2 := (e1 k1).2; rw [k2] at c23; simp [keptQ, bz, k1, i_nle2 c23])
  · refine J_aload_n hC dX5_kept_9 rfl rfl ?_
    refine J_get6 hC lf_X5_97 (j := 5) a0.t (v := .int (sD S)) (congrArg (fun z => some (Value.int z)) a1.s5) dX5_kept_10 ?_
    refine J_aload_n hC dX5_kept_13 rfl rfl ?_
    refine J_get6 hC lf_X5_74 (j := 31) a0.t (v := rv (mR M m 31)) rfl dX5_kept_14 ?_
    refine J_iload_n hC dX5_kept_17 rfl rfl ?_
    refine J_iald hC a0.a31 (j := (ix p)) (isIx_ix hp).1 (by rw [a0.l31]; omega) dX5_kept_18 ?_
    refine J_sipush hC dX5_kept_19 (v := 361) (by decide) ?_
    refine J_iadd hC dX5_kept_22 ?_
    refine J_icmp_ge hC dX5_kept_23 (tgt := 30) (by decide) (fun c23 => ?_) (fun c23 => ?_)
    · refine J_iconst hC dX5_kept_30 (v := 0) (by decide) ?_
      refine J_zret hC (by decide) (by decide) (by decide) dX5_kept_31 ?_
      refine ⟨?_, rfl⟩
      unfold ma at e0 e1
      first | (have k1 := bz_eq0 (e0 ▸ c6); simp only [decide_eq_false_iff_not] at k1; simp [keptQ, bz, nn k1]) | (have k1 := of_decide_eq_true (bz_ne0 (e0 ▸ c6)); have k2 := (e1 k1).2; rw [k2] at c23; simp [keptQ, bz, k1, i_nlt2 c23]) | (have k1 := of_decide_eq_true (bz_ne0 (e0 ▸ c6)); have k2 := (e1 k1).2; rw [k2] at c23; simp [keptQ, bz, k1, i_nle2 c23])
    · refine J_iconst hC dX5_kept_26 (v := 1) (by decide) ?_
      refine J_goto hC dX5_kept_27 (tgt := 31) (by decide) ?_
      refine J_zret hC (by decide) (by decide) (by decide) dX5_kept_31 ?_
      refine ⟨?_, rfl⟩
      unfold ma at e0 e1
      first | (have k1 := bz_eq0 (e0 ▸ c6); simp only [decide_eq_false_iff_not] at k1; simp [keptQ, bz, nn k1]) | (have k1 := of_decide_eq_true (bz_ne0 (e0 ▸ c6)); have k2 := (e1 k1).2; rw [k2] at c23; simp [keptQ, bz, k1, i_nlt2 c23]) | (have k1 := of_decide_eq_true (bz_ne0 (e0 ▸ c6)); have k2 := (e1 k1).2; rw [k2] at c23; simp [keptQ, bz, k1, i_nle2 c23])
