theorem ct_X5_thrown {G : Gt} {l : Launch} (hst : l.stackTraces = false) {M : Mm} {m : Nat} (a0 : MA0 M m) : Ct G l yX5_thrown cX5_thrown 1 (some .int) 1 M [rv m] 0 0 (PQ M (.int (mI M m 0))) (noX) := by
  refine Ct_intro (own := RX5) (nm := "thrown") (by decide +kernel) rfl rfl hst (fun w hw => by simp only [List.mem_cons, List.not_mem_nil, or_false] at hw; rcases hw with rfl <;> first | rfl | exact rv_cat _) (Nat.le_of_ble_eq_true rfl) (fun γ hC => ?_)
  show J G γ M 0 [some (rv m)] [] 0 0
  refine J_aload_n hC dX5_thrown_0 rfl rfl ?_
  refine J_get6 hC lf_X5_80 (j := 0) a0.t (v := .int (mI M m 0)) rfl dX5_thrown_1 ?_
  refine J_iret hC (by decide) (by decide) dX5_thrown_4 ?_
  exact ⟨rfl, rfl⟩
theorem ct_X5_fails {G : Gt} {l : Launch} (hst : l.stackTraces = false) {M : Mm} {m : Nat} (a0 : MA0 M m) (c : Int32) : Ct G l yX5_fails cX5_fails 2 (some .int) 1 M [rv m, .int c] 0 0 (fun r M1 => r = some (.int 0) ∧ M1 = pI M m 0 c) (noX) := by
  refine Ct_intro (own := RX5) (nm := "fails") (by decide +kernel) rfl rfl hst (fun w hw => by simp only [List.mem_cons, List.not_mem_nil, or_false] at hw; rcases hw with rfl | rfl <;> first | rfl | exact rv_cat _) (Nat.le_of_ble_eq_true rfl) (fun γ hC => ?_)
  show J G γ M 0 [some (rv m), some (.int c)] [] 0 0
  refine J_aload_n hC dX5_fails_0 rfl rfl ?_
  refine J_iload_n hC dX5_fails_1 rfl rfl ?_
  refine J_put6_0 hC lf_X5_80 a0.t dX5_fails_2 ?_
  refine J_iconst hC dX5_fails_5 (v := 0) (by decide) ?_
  refine J_iret hC (by decide) (by decide) dX5_fails_6 ?_
  exact ⟨rfl, rfl⟩
theorem ct_X5_in {G : Gt} {l : Launch} (hst : l.stackTraces = false) {M : Mm} (v lo hi : Int32) : Ct G l yX5_in cX5_in 3 (some .boolean) 1 M [.int v, .int lo, .int hi] 0 0 (PQ M (.int (if lo ≤ v ∧ v ≤ hi then 1 else 0))) (noX) := by
  refine Ct_intro (own := RX5) (nm := "in") (by decide +kernel) rfl rfl hst (fun w hw => by simp only [List.mem_cons, List.not_mem_nil, or_false] at hw; rcases hw with rfl | rfl | rfl <;> first | rfl | exact rv_cat _) (Nat.le_of_ble_eq_true rfl) (fun γ hC => ?_)
  show J G γ M 0 [some (.int v), some (.int lo), some (.int hi)] [] 0 0
  refine J_iload_n hC dX5_in_0 rfl rfl ?_
  refine J_iload_n hC dX5_in_1 rfl rfl ?_
  refine J_icmp_lt hC dX5_in_2 (tgt := 14) (by decide) (fun c2 => ?_) (fun c2 => ?_)
  · refine J_iconst hC dX5_in_14 (v := 0) (by decide) ?_
    refine J_zret hC (by decide) (by decide) (by decide) dX5_in_15 ?_
    exact ⟨by grind, rfl⟩
  · refine J_iload_n hC dX5_in_5 rfl rfl ?_
    refine J_iload_n hC dX5_in_6 rfl rfl ?_
    refine J_icmp_gt hC dX5_in_7 (tgt := 14) (by decide) (fun c7 => ?_) (fun c7 => ?_)
    · refine J_iconst hC dX5_in_14 (v := 0) (by decide) ?_
      refine J_zret hC (by decide) (by decide) (by decide) dX5_in_15 ?_
      exact ⟨by grind, rfl⟩
    · refine J_iconst hC dX5_in_10 (v := 1) (by decide) ?_
      refine J_goto hC dX5_in_11 (tgt := 15) (by decide) ?_
      refine J_zret hC (by decide) (by decide) (by decide) dX5_in_15 ?_
      exact ⟨by grind, rfl⟩
theorem ct_X5_isKeeper {G : Gt} {l : Launch} (hst : l.stackTraces = false) {M : Mm} {m : Nat} {S : St} {t : Nat} (hM : MAt M m S t) (v : Int32) : Ct G l yX5_isKeeper cX5_isKeeper 2 (some .boolean) 2 M [rv m, .int v] 0 0 (PQ M (.int (bz (isIx v (sN S 0))))) (noX) := by
  obtain ⟨a0, nP, nR, nS, a1, bR, bS, bt⟩ := id hM
  have bPs := a1.bPs; have bK := a1.bK; have bV := a1.bV; have bPl := a1.bP; have bN := a1.bN
  refine Ct_intro (own := RX5) (nm := "isKeeper") (by decide +kernel) rfl rfl hst (fun w hw => by simp only [List.mem_cons, List.not_mem_nil, or_false] at hw; rcases hw with rfl | rfl <;> first | rfl | exact rv_cat _) (Nat.le_of_ble_eq_true rfl) (fun γ hC => ?_)
  show J G γ M 0 [some (rv m), some (.int v)] [] 0 0
  refine J_iload_n hC dX5_isKeeper_0 rfl rfl ?_
  refine J_iconst hC dX5_isKeeper_1 (v := 0) (by decide) ?_
  refine J_aload_n hC dX5_isKeeper_2 rfl rfl ?_
  refine J_get6 hC lf_X5_84 (j := 1) a0.t (v := .int (nI (sN S 0))) (congrArg (fun z => some (Value.int z)) a1.s1) dX5_isKeeper_3 ?_
  refine J_iconst hC dX5_isKeeper_6 (v := 1) (by decide) ?_
  refine J_isub hC dX5_isKeeper_7 ?_
  refine J_callS (k1 := 0) (n1 := 0) [.int v, .int 0, .int ((nI (sN S 0)) - 1)] [.int ((nI (sN S 0)) - 1), .int 0, .int v] hC ls_X5_87 (ct_X5_in hst v 0 ((nI (sN S 0)) - 1)) rfl rfl (by simp only [List.map_cons, List.map_nil, rv_cat, Value.category, List.sum_cons, List.sum_nil]; decide) (by decide) rfl rfl (by decide) (by decide) dX5_isKeeper_8 (fun E M9 h => h.elim) (fun v9 M9 hq9 => ?_)
  obtain ⟨rfl, rfl⟩ := hq9
  rw [in_ix _ (by omega)]
  refine J_zret hC (by decide) (by decide) (bz_nar _) dX5_isKeeper_11 ?_
  exact ⟨rfl, rfl⟩
theorem ct_X5_isVehicle {G : Gt} {l : Launch} (hst : l.stackTraces = false) {M : Mm} {m : Nat} {S : St} {t : Nat} (hM : MAt M m S t) (v : Int32) : Ct G l yX5_isVehicle cX5_isVehicle 2 (some .boolean) 2 M [rv m, .int v] 0 0 (PQ M (.int (bz (isIx v (sN S 1))))) (noX) := by
  obtain ⟨a0, nP, nR, nS, a1, bR, bS, bt⟩ := id hM
  have bPs := a1.bPs; have bK := a1.bK; have bV := a1.bV; have bPl := a1.bP; have bN := a1.bN
  refine Ct_intro (own := RX5) (nm := "isVehicle") (by decide +kernel) rfl rfl hst (fun w hw => by simp only [List.mem_cons, List.not_mem_nil, or_false] at hw; rcases hw with rfl | rfl <;> first | rfl | exact rv_cat _) (Nat.le_of_ble_eq_true rfl) (fun γ hC => ?_)
  show J G γ M 0 [some (rv m), some (.int v)] [] 0 0
  refine J_iload_n hC dX5_isVehicle_0 rfl rfl ?_
  refine J_iconst hC dX5_isVehicle_1 (v := 0) (by decide) ?_
  refine J_aload_n hC dX5_isVehicle_2 rfl rfl ?_
  refine J_get6 hC lf_X5_91 (j := 2) a0.t (v := .int (nI (sN S 1))) (congrArg (fun z => some (Value.int z)) a1.s2) dX5_isVehicle_3 ?_
  refine J_iconst hC dX5_isVehicle_6 (v := 1) (by decide) ?_
  refine J_isub hC dX5_isVehicle_7 ?_
  refine J_callS (k1 := 0) (n1 := 0) [.int v, .int 0, .int ((nI (sN S 1)) - 1)] [.int ((nI (sN S 1)) - 1), .int 0, .int v] hC ls_X5_87 (ct_X5_in hst v 0 ((nI (sN S 1)) - 1)) rfl rfl (by simp only [List.map_cons, List.map_nil, rv_cat, Value.category, List.sum_cons, List.sum_nil]; decide) (by decide) rfl rfl (by decide) (by decide) dX5_isVehicle_8 (fun E M9 h => h.elim) (fun v9 M9 hq9 => ?_)
  obtain ⟨rfl, rfl⟩ := hq9
  rw [in_ix _ (by omega)]
  refine J_zret hC (by decide) (by decide) (bz_nar _) dX5_isVehicle_11 ?_
  exact ⟨rfl, rfl⟩
theorem ct_X5_isPlate {G : Gt} {l : Launch} (hst : l.stackTraces = false) {M : Mm} {m : Nat} {S : St} {t : Nat} (hM : MAt M m S t) (v : Int32) : Ct G l yX5_isPlate cX5_isPlate 2 (some .boolean) 2 M [rv m, .int v] 0 0 (PQ M (.int (bz (isIx v (sN S 2))))) (noX) := by
  obtain ⟨a0, nP, nR, nS, a1, bR, bS, bt⟩ := id hM
  have bPs := a1.bPs; have bK := a1.bK; have bV := a1.bV; have bPl := a1.bP; have bN := a1.bN
  refine Ct_intro (own := RX5) (nm := "isPlate") (by decide +kernel) rfl rfl hst (fun w hw => by simp only [List.mem_cons, List.not_mem_nil, or_false] at hw; rcases hw with rfl | rfl <;> first | rfl | exact rv_cat _) (Nat.le_of_ble_eq_true rfl) (fun γ hC => ?_)
  show J G γ M 0 [some (rv m), some (.int v)] [] 0 0
  refine J_iload_n hC dX5_isPlate_0 rfl rfl ?_
  refine J_iconst hC dX5_isPlate_1 (v := 0) (by decide) ?_
  refine J_aload_n hC dX5_isPlate_2 rfl rfl ?_
  refine J_get6 hC lf_X5_94 (j := 4) a0.t (v := .int (nI (sN S 2))) (congrArg (fun z => some (Value.int z)) a1.s4) dX5_isPlate_3 ?_
  refine J_iconst hC dX5_isPlate_6 (v := 1) (by decide) ?_
  refine J_isub hC dX5_isPlate_7 ?_
  refine J_callS (k1 := 0) (n1 := 0) [.int v, .int 0, .int ((nI (sN S 2)) - 1)] [.int ((nI (sN S 2)) - 1), .int 0, .int v] hC ls_X5_87 (ct_X5_in hst v 0 ((nI (sN S 2)) - 1)) rfl rfl (by simp only [List.map_cons, List.map_nil, rv_cat, Value.category, List.sum_cons, List.sum_nil]; decide) (by decide) rfl rfl (by decide) (by decide) dX5_isPlate_8 (fun E M9 h => h.elim) (fun v9 M9 hq9 => ?_)
  obtain ⟨rfl, rfl⟩ := hq9
  rw [in_ix _ (by omega)]
  refine J_zret hC (by decide) (by decide) (bz_nar _) dX5_isPlate_11 ?_
  exact ⟨rfl, rfl⟩
theorem ct_X5_isDay {G : Gt} {l : Launch} (hst : l.stackTraces = false) {M : Mm} {m : Nat} {S : St} {t : Nat} (hM : MAt M m S t) (v : Int32) : Ct G l yX5_isDay cX5_isDay 2 (some .boolean) 2 M [rv m, .int v] 0 0 (PQ M (.int (bz (isDay S v)))) (noX) := by
  obtain ⟨a0, nP, nR, nS, a1, bR, bS, bt⟩ := id hM
  have bPs := a1.bPs; have bK := a1.bK; have bV := a1.bV; have bPl := a1.bP; have bN := a1.bN
  refine Ct_intro (own := RX5) (nm := "isDay") (by decide +kernel) rfl rfl hst (fun w hw => by simp only [List.mem_cons, List.not_mem_nil, or_false] at hw; rcases hw with rfl | rfl <;> first | rfl | exact rv_cat _) (Nat.le_of_ble_eq_true rfl) (fun γ hC => ?_)
  show J G γ M 0 [some (rv m), some (.int v)] [] 0 0
  refine J_iload_n hC dX5_isDay_0 rfl rfl ?_
  refine J_iconst hC dX5_isDay_1 (v := 0) (by decide) ?_
  refine J_aload_n hC dX5_isDay_2 rfl rfl ?_
  refine J_get6 hC lf_X5_97 (j := 5) a0.t (v := .int (sD S)) (congrArg (fun z => some (Value.int z)) a1.s5) dX5_isDay_3 ?_
  refine J_callS (k1 := 0) (n1 := 0) [.int v, .int 0, .int (sD S)] [.int (sD S), .int 0, .int v] hC ls_X5_87 (ct_X5_in hst v 0 (sD S)) rfl rfl (by simp only [List.map_cons, List.map_nil, rv_cat, Value.category, List.sum_cons, List.sum_nil]; decide) (by decide) rfl rfl (by decide) (by decide) dX5_isDay_6 (fun E M9 h => h.elim) (fun v9 M9 hq9 => ?_)
  obtain ⟨rfl, rfl⟩ := hq9
  rw [show (if 0 ≤ v ∧ v ≤ sD S then (1 : Int32) else 0) = bz (isDay S v) from by simp [bz, isDay]]
  refine J_zret hC (by decide) (by decide) (bz_nar _) dX5_isDay_9 ?_
  exact ⟨rfl, rfl⟩
theorem ct_X5_isKind {G : Gt} {l : Launch} (hst : l.stackTraces = false) {M : Mm} (c : Int32) : Ct G l yX5_isKind cX5_isKind 1 (some .boolean) 1 M [.int c] 0 0 (PQ M (.int (bz (kindOk c)))) (noX) := by
  refine Ct_intro (own := RX5) (nm := "isKind") (by decide +kernel) rfl rfl hst (fun w hw => by simp only [List.mem_cons, List.not_mem_nil, or_false] at hw; rcases hw with rfl <;> first | rfl | exact rv_cat _) (Nat.le_of_ble_eq_true rfl) (fun γ hC => ?_)
  show J G γ M 0 [some (.int c)] [] 0 0
  refine J_iload_n hC dX5_isKind_0 rfl rfl ?_
  refine J_bipush hC dX5_isKind_1 (v := 99) (by decide) ?_
  refine J_icmp_eq hC dX5_isKind_3 (tgt := 24) (by decide) (fun c3 => ?_) (fun c3 => ?_)
  · refine J_iconst hC dX5_isKind_24 (v := 1) (by decide) ?_
    refine J_goto hC dX5_isKind_25 (tgt := 29) (by decide) ?_
    refine J_zret hC (by decide) (by decide) (by decide) dX5_isKind_29 ?_
    exact ⟨by simp [bz, kindOk, *], rfl⟩
  · refine J_iload_n hC dX5_isKind_6 rfl rfl ?_
    refine J_bipush hC dX5_isKind_7 (v := 109) (by decide) ?_
    refine J_icmp_eq hC dX5_isKind_9 (tgt := 24) (by decide) (fun c9 => ?_) (fun c9 => ?_)
    · refine J_iconst hC dX5_isKind_24 (v := 1) (by decide) ?_
      refine J_goto hC dX5_isKind_25 (tgt := 29) (by decide) ?_
      refine J_zret hC (by decide) (by decide) (by decide) dX5_isKind_29 ?_
      exact ⟨by simp [bz, kindOk, *], rfl⟩
    · refine J_iload_n hC dX5_isKind_12 rfl rfl ?_
      refine J_bipush hC dX5_isKind_13 (v := 108) (by decide) ?_
      refine J_icmp_eq hC dX5_isKind_15 (tgt := 24) (by decide) (fun c15 => ?_) (fun c15 => ?_)
      · refine J_iconst hC dX5_isKind_24 (v := 1) (by decide) ?_
        refine J_goto hC dX5_isKind_25 (tgt := 29) (by decide) ?_
        refine J_zret hC (by decide) (by decide) (by decide) dX5_isKind_29 ?_
        exact ⟨by simp [bz, kindOk, *], rfl⟩
      · refine J_iload_n hC dX5_isKind_18 rfl rfl ?_
        refine J_bipush hC dX5_isKind_19 (v := 104) (by decide) ?_
        refine J_icmp_ne hC dX5_isKind_21 (tgt := 28) (by decide) (fun c21 => ?_) (fun c21 => ?_)
        · refine J_iconst hC dX5_isKind_28 (v := 0) (by decide) ?_
          refine J_zret hC (by decide) (by decide) (by decide) dX5_isKind_29 ?_
          exact ⟨by simp [bz, kindOk, *], rfl⟩
        · refine J_iconst hC dX5_isKind_24 (v := 1) (by decide) ?_
          refine J_goto hC dX5_isKind_25 (tgt := 29) (by decide) ?_
          refine J_zret hC (by decide) (by decide) (by decide) dX5_isKind_29 ?_
          exact ⟨by simp [bz, kindOk, *], rfl⟩
theorem ct_X5_tax {G : Gt} {l : Launch} (hst : l.stackTraces = false) {M : Mm} (c : Int32) : Ct G l yX5_tax cX5_tax 1 (some .int) 1 M [.int c] 0 0 (PQ M (.int (taxOf c))) (noX) := by
  refine Ct_intro (own := RX5) (nm := "tax") (by decide +kernel) rfl rfl hst (fun w hw => by simp only [List.mem_cons, List.not_mem_nil, or_false] at hw; rcases hw with rfl <;> first | rfl | exact rv_cat _) (Nat.le_of_ble_eq_true rfl) (fun γ hC => ?_)
  show J G γ M 0 [some (.int c)] [] 0 0
  refine J_iload_n hC dX5_tax_0 rfl rfl ?_
  refine J_bipush hC dX5_tax_1 (v := 99) (by decide) ?_
  refine J_icmp_ne hC dX5_tax_3 (tgt := 11) (by decide) (fun c3 => ?_) (fun c3 => ?_)
  · refine J_iload_n hC dX5_tax_11 rfl rfl ?_
    refine J_bipush hC dX5_tax_12 (v := 109) (by decide) ?_
    refine J_icmp_ne hC dX5_tax_14 (tgt := 22) (by decide) (fun c14 => ?_) (fun c14 => ?_)
    · refine J_iload_n hC dX5_tax_22 rfl rfl ?_
      refine J_bipush hC dX5_tax_23 (v := 108) (by decide) ?_
      refine J_icmp_ne hC dX5_tax_25 (tgt := 34) (by decide) (fun c25 => ?_) (fun c25 => ?_)
      · refine J_iconst hC dX5_tax_34 (v := 0) (by decide) ?_
        refine J_iret hC (by decide) (by decide) dX5_tax_35 ?_
        exact ⟨by simp [taxOf, *], rfl⟩
      · refine J_sipush hC dX5_tax_28 (v := 150) (by decide) ?_
        refine J_goto hC dX5_tax_31 (tgt := 35) (by decide) ?_
        refine J_iret hC (by decide) (by decide) dX5_tax_35 ?_
        exact ⟨by simp [taxOf, *], rfl⟩
    · refine J_bipush hC dX5_tax_17 (v := 20) (by decide) ?_
      refine J_goto hC dX5_tax_19 (tgt := 35) (by decide) ?_
      refine J_iret hC (by decide) (by decide) dX5_tax_35 ?_
      exact ⟨by simp [taxOf, *], rfl⟩
  · refine J_bipush hC dX5_tax_6 (v := 60) (by decide) ?_
    refine J_goto hC dX5_tax_8 (tgt := 35) (by decide) ?_
    refine J_iret hC (by decide) (by decide) dX5_tax_35 ?_
    exact ⟨by simp [taxOf, *], rfl⟩
theorem ct_X5_keeper {G : Gt} {l : Launch} (hst : l.stackTraces = false) {M : Mm} {m : Nat} {S : St} {t : Nat} (hM : MAt M m S t) (v day : Int32) (hv : isIx v (sN S 1) = true) : Ct G l yX5_keeper cX5_keeper 5 (some .int) 1 M [rv m, .int v, .int day] 0 0 (PQ M (.int (look (sT S 0 (ix v)) day))) (noX) := by
  obtain ⟨a0, nP, nR, nS, a1, bR, bS, bt⟩ := id hM
  have bPs := a1.bPs; have bK := a1.bK; have bV := a1.bV; have bPl := a1.bP; have bN := a1.bN
  refine Ct_intro (own := RX5) (nm := "keeper") (by decide +kernel) rfl rfl hst (fun w hw => by simp only [List.mem_cons, List.not_mem_nil, or_false] at hw; rcases hw with rfl | rfl | rfl <;> first | rfl | exact rv_cat _) (Nat.le_of_ble_eq_true rfl) (fun γ hC => ?_)
  show J G γ M 0 [some (rv m), some (.int v), some (.int day)] [] 0 0
  refine J_iconst hC dX5_keeper_0 (v := -1) (by decide) ?_
  refine J_istore_n hC dX5_keeper_1 rfl (by decide) (ls1 := [some (rv m), some (.int v), some (.int day), some (.int (-1))]) rfl ?_
  refine J_iconst hC dX5_keeper_2 (v := 0) (by decide) ?_
  refine J_istore hC dX5_keeper_3 (by decide) (ls1 := [some (rv m), some (.int v), some (.int day), some (.int (-1)), some (.int 0)]) rfl ?_
  have L5 : ∀ (n9 : Nat) (j : Nat) (acc : Int32), nP - j < n9 → (j ≤ nP) → (acc = look (sq (ma M m 15) (ma M m 16) (ma M m 17) v j) day) → J G γ M 5 [some (rv m), some (.int v), some (.int day), some (.int acc), some (.int (nI j))] [] 0 0 := by
    intro n9
    induction n9 with
    | zero => intro j acc h9; exact absurd h9 (Nat.not_lt_zero _)
    | succ n9 ih =>
      intro j acc h9 hj hi
      refine J_iload hC dX5_keeper_5 rfl ?_
      refine J_aload_n hC dX5_keeper_7 rfl rfl ?_
      refine J_get6 hC lf_X5_110 (j := 6) a0.t (v := .int (nI nP)) (congrArg (fun z => some (Value.int z)) a1.s6) dX5_keeper_8 ?_
      refine J_icmp_ge hC dX5_keeper_11 (tgt := 50) (by decide) (fun c11 => ?_) (fun c11 => ?_)
      · have hge := le_nI (by omega) (by omega) c11
        have hjj : j = nP := by omega
        subst hjj
        refine J_iload_n hC dX5_keeper_50 rfl rfl ?_
        refine J_iret hC (by decide) (by decide) dX5_keeper_51 ?_
        refine ⟨?_, rfl⟩
        rw [hi, ← a1.q0 _ (isIx_ix hv).2, ← isIx_nI hv]
      · have hlt := ge_nI (by omega) (by omega) c11
        refine J_aload_n hC dX5_keeper_14 rfl rfl ?_
        refine J_get6 hC lf_X5_26 (j := 15) a0.t (v := rv (mR M m 15)) rfl dX5_keeper_15 ?_
        refine J_iload hC dX5_keeper_18 rfl ?_
        refine J_iald hC a0.a15 (j := j) (nI_toInt (by omega)) (by rw [a0.l15]; omega) dX5_keeper_20 ?_
        refine J_iload_n hC dX5_keeper_21 rfl rfl ?_
        refine J_icmp_ne hC dX5_keeper_22 (tgt := 44) (by decide) (fun c22 => ?_) (fun c22 => ?_)
        · refine J_iinc hC dX5_keeper_44 (by decide) rfl (v := nI (j + 1)) (nI_1 _) (ls1 := [some (rv m), some (.int v), some (.int day), some (.int acc), some (.int (nI (j + 1)))]) rfl ?_
          refine J_goto hC dX5_keeper_47 (tgt := 5) (by decide) ?_
          exact ih (j + 1) _ (by omega) (by omega) (by first | (rw [sq_n c22]; exact hi) | (rw [sq_y (nn c22), look_snoc, if_neg (i_nle c33)]; exact hi))
        · refine J_aload_n hC dX5_keeper_25 rfl rfl ?_
          refine J_get6 hC lf_X5_29 (j := 16) a0.t (v := rv (mR M m 16)) rfl dX5_keeper_26 ?_
          refine J_iload hC dX5_keeper_29 rfl ?_
          refine J_iald hC a0.a16 (j := j) (nI_toInt (by omega)) (by rw [a0.l16]; omega) dX5_keeper_31 ?_
          refine J_iload_n hC dX5_keeper_32 rfl rfl ?_
          refine J_icmp_gt hC dX5_keeper_33 (tgt := 44) (by decide) (fun c33 => ?_) (fun c33 => ?_)
          · refine J_iinc hC dX5_keeper_44 (by decide) rfl (v := nI (j + 1)) (nI_1 _) (ls1 := [some (rv m), some (.int v), some (.int day), some (.int acc), some (.int (nI (j + 1)))]) rfl ?_
            refine J_goto hC dX5_keeper_47 (tgt := 5) (by decide) ?_
            exact ih (j + 1) _ (by omega) (by omega) (by first | (rw [sq_n c22]; exact hi) | (rw [sq_y (nn c22), look_snoc, if_neg (i_nle c33)]; exact hi))
          · refine J_aload_n hC dX5_keeper_36 rfl rfl ?_
            refine J_get6 hC lf_X5_32 (j := 17) a0.t (v := rv (mR M m 17)) rfl dX5_keeper_37 ?_
            refine J_iload hC dX5_keeper_40 rfl ?_
            refine J_iald hC a0.a17 (j := j) (nI_toInt (by omega)) (by rw [a0.l17]; omega) dX5_keeper_42 ?_
            refine J_istore_n hC dX5_keeper_43 rfl (by decide) (ls1 := [some (rv m), some (.int v), some (.int day), some (.int (mI M (mR M m 17) j)), some (.int (nI j))]) rfl ?_
            refine J_iinc hC dX5_keeper_44 (by decide) rfl (v := nI (j + 1)) (nI_1 _) (ls1 := [some (rv m), some (.int v), some (.int day), some (.int (mI M (mR M m 17) j)), some (.int (nI (j + 1)))]) rfl ?_
            refine J_goto hC dX5_keeper_47 (tgt := 5) (by decide) ?_
            exact ih (j + 1) _ (by omega) (by omega) (by rw [sq_y (nn c22), look_snoc, if_pos (i_nlt c33)])
  exact L5 (nP + 1) 0 _ (by omega) (Nat.zero_le _) (by rfl)
theorem ct_X5_plate {G : Gt} {l : Launch} (hst : l.stackTraces = false) {M : Mm} {m : Nat} {S : St} {t : Nat} (hM : MAt M m S t) (v day : Int32) (hv : isIx v (sN S 1) = true) : Ct G l yX5_plate cX5_plate 5 (some .int) 1 M [rv m, .int v, .int day] 0 0 (PQ M (.int (look (sT S 1 (ix v)) day))) (noX) := by
  obtain ⟨a0, nP, nR, nS, a1, bR, bS, bt⟩ := id hM
  have bPs := a1.bPs; have bK := a1.bK; have bV := a1.bV; have bPl := a1.bP; have bN := a1.bN
  refine Ct_intro (own := RX5) (nm := "plate") (by decide +kernel) rfl rfl hst (fun w hw => by simp only [List.mem_cons, List.not_mem_nil, or_false] at hw; rcases hw with rfl | rfl | rfl <;> first | rfl | exact rv_cat _) (Nat.le_of_ble_eq_true rfl) (fun γ hC => ?_)
  show J G γ M 0 [some (rv m), some (.int v), some (.int day)] [] 0 0
  refine J_iconst hC dX5_plate_0 (v := -1) (by decide) ?_
  refine J_istore_n hC dX5_plate_1 rfl (by decide) (ls1 := [some (rv m), some (.int v), some (.int day), some (.int (-1))]) rfl ?_
  refine J_iconst hC dX5_plate_2 (v := 0) (by decide) ?_
  refine J_istore hC dX5_plate_3 (by decide) (ls1 := [some (rv m), some (.int v), some (.int day), some (.int (-1)), some (.int 0)]) rfl ?_
  have L5 : ∀ (n9 : Nat) (j : Nat) (acc : Int32), nS - j < n9 → (j ≤ nS) → (acc = look (sq (ma M m 27) (ma M m 28) (ma M m 29) v j) day) → J G γ M 5 [some (rv m), some (.int v), some (.int day), some (.int acc), some (.int (nI j))] [] 0 0 := by
    intro n9
    induction n9 with
    | zero => intro j acc h9; exact absurd h9 (Nat.not_lt_zero _)
    | succ n9 ih =>
      intro j acc h9 hj hi
      refine J_iload hC dX5_plate_5 rfl ?_
      refine J_aload_n hC dX5_plate_7 rfl rfl ?_
      refine J_get6 hC lf_X5_103 (j := 8) a0.t (v := .int (nI nS)) (congrArg (fun z => some (Value.int z)) a1.s8) dX5_plate_8 ?_
      refine J_icmp_ge hC dX5_plate_11 (tgt := 50) (by decide) (fun c11 => ?_) (fun c11 => ?_)
      · have hge := le_nI (by omega) (by omega) c11
        have hjj : j = nS := by omega
        subst hjj
        refine J_iload_n hC dX5_plate_50 rfl rfl ?_
        refine J_iret hC (by decide) (by decide) dX5_plate_51 ?_
        refine ⟨?_, rfl⟩
        rw [hi, ← a1.q1 _ (isIx_ix hv).2, ← isIx_nI hv]
      · have hlt := ge_nI (by omega) (by omega) c11
        refine J_aload_n hC dX5_plate_14 rfl rfl ?_
        refine J_get6 hC lf_X5_62 (j := 27) a0.t (v := rv (mR M m 27)) rfl dX5_plate_15 ?_
        refine J_iload hC dX5_plate_18 rfl ?_
        refine J_iald hC a0.a27 (j := j) (nI_toInt (by omega)) (by rw [a0.l27]; omega) dX5_plate_20 ?_
        refine J_iload_n hC dX5_plate_21 rfl rfl ?_
        refine J_icmp_ne hC dX5_plate_22 (tgt := 44) (by decide) (fun c22 => ?_) (fun c22 => ?_)
        · refine J_iinc hC dX5_plate_44 (by decide) rfl (v := nI (j + 1)) (nI_1 _) (ls1 := [some (rv m), some (.int v), some (.int day), some (.int acc), some (.int (nI (j + 1)))]) rfl ?_
          refine J_goto hC dX5_plate_47 (tgt := 5) (by decide) ?_
          exact ih (j + 1) _ (by omega) (by omega) (by first | (rw [sq_n c22]; exact hi) | (rw [sq_y (nn c22), look_snoc, if_neg (i_nle c33)]; exact hi))
        · refine J_aload_n hC dX5_plate_25 rfl rfl ?_
          refine J_get6 hC lf_X5_65 (j := 28) a0.t (v := rv (mR M m 28)) rfl dX5_plate_26 ?_
          refine J_iload hC dX5_plate_29 rfl ?_
          refine J_iald hC a0.a28 (j := j) (nI_toInt (by omega)) (by rw [a0.l28]; omega) dX5_plate_31 ?_
          refine J_iload_n hC dX5_plate_32 rfl rfl ?_
          refine J_icmp_gt hC dX5_plate_33 (tgt := 44) (by decide) (fun c33 => ?_) (fun c33 => ?_)
          · refine J_iinc hC dX5_plate_44 (by decide) rfl (v := nI (j + 1)) (nI_1 _) (ls1 := [some (rv m), some (.int v), some (.int day), some (.int acc), some (.int (nI (j + 1)))]) rfl ?_
            refine J_goto hC dX5_plate_47 (tgt := 5) (by decide) ?_
            exact ih (j + 1) _ (by omega) (by omega) (by first | (rw [sq_n c22]; exact hi) | (rw [sq_y (nn c22), look_snoc, if_neg (i_nle c33)]; exact hi))
          · refine J_aload_n hC dX5_plate_36 rfl rfl ?_
            refine J_get6 hC lf_X5_68 (j := 29) a0.t (v := rv (mR M m 29)) rfl dX5_plate_37 ?_
            refine J_iload hC dX5_plate_40 rfl ?_
            refine J_iald hC a0.a29 (j := j) (nI_toInt (by omega)) (by rw [a0.l29]; omega) dX5_plate_42 ?_
            refine J_istore_n hC dX5_plate_43 rfl (by decide) (ls1 := [some (rv m), some (.int v), some (.int day), some (.int (mI M (mR M m 29) j)), some (.int (nI j))]) rfl ?_
            refine J_iinc hC dX5_plate_44 (by decide) rfl (v := nI (j + 1)) (nI_1 _) (ls1 := [some (rv m), some (.int v), some (.int day), some (.int (mI M (mR M m 29) j)), some (.int (nI (j + 1)))]) rfl ?_
            refine J_goto hC dX5_plate_47 (tgt := 5) (by decide) ?_
            exact ih (j + 1) _ (by omega) (by omega) (by rw [sq_y (nn c22), look_snoc, if_pos (i_nlt c33)])
  exact L5 (nS + 1) 0 _ (by omega) (Nat.zero_le _) (by rfl)
theorem ct_X5_road {G : Gt} {l : Launch} (hst : l.stackTraces = false) {M : Mm} {m : Nat} {S : St} {t : Nat} (hM : MAt M m S t) (v day : Int32) (hv : isIx v (sN S 1) = true) : Ct G l yX5_road cX5_road 5 (some .boolean) 1 M [rv m, .int v, .int day] 0 0 (PQ M (.int (bz (decide (look (sT S 2 (ix v)) day = 1))))) (noX) := by
  obtain ⟨a0, nP, nR, nS, a1, bR, bS, bt⟩ := id hM
  have bPs := a1.bPs; have bK := a1.bK; have bV := a1.bV; have bPl := a1.bP; have bN := a1.bN
  refine Ct_intro (own := RX5) (nm := "road") (by decide +kernel) rfl rfl hst (fun w hw => by simp only [List.mem_cons, List.not_mem_nil, or_false] at hw; rcases hw with rfl | rfl | rfl <;> first | rfl | exact rv_cat _) (Nat.le_of_ble_eq_true rfl) (fun γ hC => ?_)
  show J G γ M 0 [some (rv m), some (.int v), some (.int day)] [] 0 0
  refine J_iconst hC dX5_road_0 (v := 0) (by decide) ?_
  refine J_istore_n hC dX5_road_1 rfl (by decide) (ls1 := [some (rv m), some (.int v), some (.int day), some (.int 0)]) rfl ?_
  refine J_iconst hC dX5_road_2 (v := 0) (by decide) ?_
  refine J_istore hC dX5_road_3 (by decide) (ls1 := [some (rv m), some (.int v), some (.int day), some (.int 0), some (.int 0)]) rfl ?_
  have L5 : ∀ (n9 : Nat) (j : Nat) (acc : Int32), nR - j < n9 → (j ≤ nR) → (acc = bz (decide (look (sq (ma M m 24) (ma M m 25) (ma M m 26) v j) day = 1))) → J G γ M 5 [some (rv m), some (.int v), some (.int day), some (.int acc), some (.int (nI j))] [] 0 0 := by
    intro n9
    induction n9 with
    | zero => intro j acc h9; exact absurd h9 (Nat.not_lt_zero _)
    | succ n9 ih =>
      intro j acc h9 hj hi
      refine J_iload hC dX5_road_5 rfl ?_
      refine J_aload_n hC dX5_road_7 rfl rfl ?_
      refine J_get6 hC lf_X5_100 (j := 7) a0.t (v := .int (nI nR)) (congrArg (fun z => some (Value.int z)) a1.s7) dX5_road_8 ?_
      refine J_icmp_ge hC dX5_road_11 (tgt := 50) (by decide) (fun c11 => ?_) (fun c11 => ?_)
      · have hge := le_nI (by omega) (by omega) c11
        have hjj : j = nR := by omega
        subst hjj
        refine J_iload_n hC dX5_road_50 rfl rfl ?_
        refine J_zret hC (by decide) (by decide) (by rw [hi]; exact bz_nar _) dX5_road_51 ?_
        refine ⟨?_, rfl⟩
        rw [hi, ← a1.q2 _ (isIx_ix hv).2, ← isIx_nI hv]
      · have hlt := ge_nI (by omega) (by omega) c11
        refine J_aload_n hC dX5_road_14 rfl rfl ?_
        refine J_get6 hC lf_X5_53 (j := 24) a0.t (v := rv (mR M m 24)) rfl dX5_road_15 ?_
        refine J_iload hC dX5_road_18 rfl ?_
        refine J_iald hC a0.a24 (j := j) (nI_toInt (by omega)) (by rw [a0.l24]; omega) dX5_road_20 ?_
        refine J_iload_n hC dX5_road_21 rfl rfl ?_
        refine J_icmp_ne hC dX5_road_22 (tgt := 44) (by decide) (fun c22 => ?_) (fun c22 => ?_)
        · refine J_iinc hC dX5_road_44 (by decide) rfl (v := nI (j + 1)) (nI_1 _) (ls1 := [some (rv m), some (.int v), some (.int day), some (.int acc), some (.int (nI (j + 1)))]) rfl ?_
          refine J_goto hC dX5_road_47 (tgt := 5) (by decide) ?_
          exact ih (j + 1) _ (by omega) (by omega) (by first | (rw [sq_n c22]; exact hi) | (rw [sq_y (nn c22), look_snoc, if_neg (i_nle c33)]; exact hi))
        · refine J_aload_n hC dX5_road_25 rfl rfl ?_
          refine J_get6 hC lf_X5_56 (j := 25) a0.t (v := rv (mR M m 25)) rfl dX5_road_26 ?_
          refine J_iload hC dX5_road_29 rfl ?_
          refine J_iald hC a0.a25 (j := j) (nI_toInt (by omega)) (by rw [a0.l25]; omega) dX5_road_31 ?_
          refine J_iload_n hC dX5_road_32 rfl rfl ?_
          refine J_icmp_gt hC dX5_road_33 (tgt := 44) (by decide) (fun c33 => ?_) (fun c33 => ?_)
          · refine J_iinc hC dX5_road_44 (by decide) rfl (v := nI (j + 1)) (nI_1 _) (ls1 := [some (rv m), some (.int v), some (.int day), some (.int acc), some (.int (nI (j + 1)))]) rfl ?_
            refine J_goto hC dX5_road_47 (tgt := 5) (by decide) ?_
            exact ih (j + 1) _ (by omega) (by omega) (by first | (rw [sq_n c22]; exact hi) | (rw [sq_y (nn c22), look_snoc, if_neg (i_nle c33)]; exact hi))
          · refine J_aload_n hC dX5_road_36 rfl rfl ?_
            refine J_get6 hC lf_X5_59 (j := 26) a0.t (v := rv (mR M m 26)) rfl dX5_road_37 ?_
            refine J_iload hC dX5_road_40 rfl ?_
            refine J_zald hC a0.a26 (j := j) (nI_toInt (by omega)) (by rw [a0.l26]; omega) dX5_road_42 ?_
            refine J_istore_n hC dX5_road_43 rfl (by decide) (ls1 := [some (rv m), some (.int v), some (.int day), some (.int (mI M (mR M m 26) j)), some (.int (nI j))]) rfl ?_
            refine J_iinc hC dX5_road_44 (by decide) rfl (v := nI (j + 1)) (nI_1 _) (ls1 := [some (rv m), some (.int v), some (.int day), some (.int (mI M (mR M m 26) j)), some (.int (nI (j + 1)))]) rfl ?_
            refine J_goto hC dX5_road_47 (tgt := 5) (by decide) ?_
            exact ih (j + 1) _ (by omega) (by omega) (by rw [sq_y (nn c22), look_snoc, if_pos (i_nlt c33)]; exact rb01 (a1.rb j hlt))
  exact L5 (nR + 1) 0 _ (by omega) (Nat.zero_le _) (by rfl)
