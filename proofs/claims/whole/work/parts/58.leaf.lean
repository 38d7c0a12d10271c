/-! the picture read -/
theorem CAt.tx {M : Mm} {x : Nat} {S : St} (h : CAt M x S) : (mT M x).1 = 5 := by rw [h.a0.1]
theorem CAt.tk0 {M : Mm} {x : Nat} {S : St} (h : CAt M x S) : (mT M (mR M x 0)).1 = 9 := by rw [h.a0.2.1.1]
theorem CAt.lk0 {M : Mm} {x : Nat} {S : St} (h : CAt M x S) : mL M (mR M x 0) = 15 := h.a0.2.1.2
theorem CAt.tk1 {M : Mm} {x : Nat} {S : St} (h : CAt M x S) : (mT M (mR M x 1)).1 = 10 := by rw [h.a0.2.2.1.1]
theorem CAt.lk1 {M : Mm} {x : Nat} {S : St} (h : CAt M x S) : mL M (mR M x 1) = 40 := h.a0.2.2.1.2
theorem CAt.tk2 {M : Mm} {x : Nat} {S : St} (h : CAt M x S) : (mT M (mR M x 2)).1 = 11 := by rw [h.a0.2.2.2.1.1]
theorem CAt.lk2 {M : Mm} {x : Nat} {S : St} (h : CAt M x S) : mL M (mR M x 2) = 120 := h.a0.2.2.2.1.2
theorem CAt.tk3 {M : Mm} {x : Nat} {S : St} (h : CAt M x S) : (mT M (mR M x 3)).1 = 7 := by rw [h.a0.2.2.2.2.1.1]
theorem CAt.lk3 {M : Mm} {x : Nat} {S : St} (h : CAt M x S) : mL M (mR M x 3) = 12 := h.a0.2.2.2.2.1.2
theorem CAt.tk4 {M : Mm} {x : Nat} {S : St} (h : CAt M x S) : (mT M (mR M x 4)).1 = 7 := by rw [h.a0.2.2.2.2.2.1.1]
theorem CAt.lk4 {M : Mm} {x : Nat} {S : St} (h : CAt M x S) : mL M (mR M x 4) = 12 := h.a0.2.2.2.2.2.1.2
theorem CAt.tk5 {M : Mm} {x : Nat} {S : St} (h : CAt M x S) : (mT M (mR M x 5)).1 = 7 := by rw [h.a0.2.2.2.2.2.2.1]
theorem CAt.lk5 {M : Mm} {x : Nat} {S : St} (h : CAt M x S) : mL M (mR M x 5) = 12 := h.a0.2.2.2.2.2.2.2
theorem CAt.c6 {M : Mm} {x : Nat} {S : St} (h : CAt M x S) : mI M x 6 = nI (sN S 0) := h.n.1
theorem CAt.c7 {M : Mm} {x : Nat} {S : St} (h : CAt M x S) : mI M x 7 = nI (sN S 1) := h.n.2.1
theorem CAt.c8 {M : Mm} {x : Nat} {S : St} (h : CAt M x S) : mI M x 8 = nI (sN S 2) := h.n.2.2.1
theorem CAt.c9 {M : Mm} {x : Nat} {S : St} (h : CAt M x S) : mI M x 9 = nI (sN S 3) := h.n.2.2.2.1
theorem CAt.c10 {M : Mm} {x : Nat} {S : St} (h : CAt M x S) : mI M x 10 = sD S := h.n.2.2.2.2.1
theorem CAt.c11 {M : Mm} {x : Nat} {S : St} (h : CAt M x S) : mJ M x 11 = sC S := h.n.2.2.2.2.2
theorem VeA.tg {M : Mm} {a i : Nat} {S : St} (h : VeA M a i S) : (mT M a).1 = 4 := by rw [h.1]
theorem VeA.v0 {M : Mm} {a i : Nat} {S : St} (h : VeA M a i S) : mI M a 0 = nI i := h.2.1
theorem VeA.v1 {M : Mm} {a i : Nat} {S : St} (h : VeA M a i S) : mI M a 1 = sV S i 1 := h.2.2.1
theorem VeA.v6 {M : Mm} {a i : Nat} {S : St} (h : VeA M a i S) : mI M a 6 = sV S i 6 := h.2.2.2.1
theorem VeA.v7 {M : Mm} {a i : Nat} {S : St} (h : VeA M a i S) : mI M a 7 = sV S i 7 := h.2.2.2.2.1
theorem VeA.k5 {M : Mm} {a i : Nat} {S : St} (h : VeA M a i S) : (mT M (mR M a 5)).1 = 7 := by rw [h.2.2.2.2.2.1.1]
theorem VeA.l5 {M : Mm} {a i : Nat} {S : St} (h : VeA M a i S) : mL M (mR M a 5) = 6 := h.2.2.2.2.2.1.2
theorem VeA.ln {M : Mm} {a i : Nat} {S : St} (h : VeA M a i S) : ∀ j, j < 6 → mI M (mR M a 5) j = sL S i j := h.2.2.2.2.2.2.1
theorem VeA.T2 {M : Mm} {a i : Nat} {S : St} (h : VeA M a i S) : TlA M (mR M a 2) (4 * i + 0) (sT S 0 i) := h.2.2.2.2.2.2.2.1
theorem VeA.k2 {M : Mm} {a i : Nat} {S : St} (h : VeA M a i S) : (mT M (mR M a 2)).1 = 3 := by rw [(h.T2).1]
theorem VeA.T3 {M : Mm} {a i : Nat} {S : St} (h : VeA M a i S) : TlA M (mR M a 3) (4 * i + 1) (sT S 1 i) := h.2.2.2.2.2.2.2.2.1
theorem VeA.k3 {M : Mm} {a i : Nat} {S : St} (h : VeA M a i S) : (mT M (mR M a 3)).1 = 3 := by rw [(h.T3).1]
theorem VeA.T4 {M : Mm} {a i : Nat} {S : St} (h : VeA M a i S) : TlA M (mR M a 4) (4 * i + 2) (sT S 2 i) := h.2.2.2.2.2.2.2.2.2
theorem VeA.k4 {M : Mm} {a i : Nat} {S : St} (h : VeA M a i S) : (mT M (mR M a 4)).1 = 3 := by rw [(h.T4).1]
theorem PlA.tg {M : Mm} {a p : Nat} {S : St} (h : PlA M a p S) : (mT M a).1 = 2 := by rw [h.1]
theorem PlA.v0 {M : Mm} {a p : Nat} {S : St} (h : PlA M a p S) : mI M a 0 = nI p := h.2.1
theorem PlA.v2 {M : Mm} {a p : Nat} {S : St} (h : PlA M a p S) : mI M a 2 = sQ S p 2 := h.2.2.1
theorem PlA.v3 {M : Mm} {a p : Nat} {S : St} (h : PlA M a p S) : mI M a 3 = sQ S p 3 := h.2.2.2.1
theorem PlA.T1 {M : Mm} {a p : Nat} {S : St} (h : PlA M a p S) : TlA M (mR M a 1) (4 * p + 3) (sT S 3 p) := h.2.2.2.2
theorem PlA.k1 {M : Mm} {a p : Nat} {S : St} (h : PlA M a p S) : (mT M (mR M a 1)).1 = 3 := by rw [(h.T1).1]
theorem NtA.tg {M : Mm} {a n : Nat} {S : St} (h : NtA M a n S) : (mT M a).1 = 1 := by rw [h.1]
theorem NtA.v0 {M : Mm} {a n : Nat} {S : St} (h : NtA M a n S) : mI M a 0 = nI n := h.2.1
theorem NtA.v1 {M : Mm} {a n : Nat} {S : St} (h : NtA M a n S) : mI M a 1 = sO S n 1 := h.2.2 1 (by decide) (by decide)
theorem NtA.v2 {M : Mm} {a n : Nat} {S : St} (h : NtA M a n S) : mI M a 2 = sO S n 2 := h.2.2 2 (by decide) (by decide)
theorem NtA.v3 {M : Mm} {a n : Nat} {S : St} (h : NtA M a n S) : mI M a 3 = sO S n 3 := h.2.2 3 (by decide) (by decide)
theorem NtA.v4 {M : Mm} {a n : Nat} {S : St} (h : NtA M a n S) : mI M a 4 = sO S n 4 := h.2.2 4 (by decide) (by decide)
theorem NtA.v5 {M : Mm} {a n : Nat} {S : St} (h : NtA M a n S) : mI M a 5 = sO S n 5 := h.2.2 5 (by decide) (by decide)
theorem NtA.v6 {M : Mm} {a n : Nat} {S : St} (h : NtA M a n S) : mI M a 6 = sO S n 6 := h.2.2 6 (by decide) (by decide)
theorem TlA.tg {M : Mm} {a c : Nat} {l : Tl} (h : TlA M a c l) : (mT M a).1 = 3 := by rw [h.1]
theorem zn {p : Prop} [Decidable p] : (if p then (1 : Int32) else 0) = bz (decide p) := by unfold bz; by_cases h : p <;> simp [h]
theorem b_t {p : Prop} [Decidable p] (h : p) : (1 : Int32) = bz (decide p) := by rw [decide_eq_true h]; rfl
theorem b_f {p : Prop} [Decidable p] (h : ¬ p) : (0 : Int32) = bz (decide p) := by rw [decide_eq_false h]; rfl
theorem rv_ne {M : Mm} {a k : Nat} (h : (mT M a).1 = k) (hk : k ≠ 0) : True := trivial
theorem ct_X3_isOnRoadNow {G : Gt} {l : Launch} (hst : l.stackTraces = false) {M : Mm} {a i : Nat} {S : St} (hV : VeA M a i S) : Ct G l yX3_isOnRoadNow cX3_isOnRoadNow 1 (some .boolean) 3 M [rv a] 0 0 (PQ M (.int (bz (decide (lastV (sT S 2 i) = 1))))) (noX) := by
  refine Ct_intro (own := RX3) (nm := "isOnRoadNow") (by decide +kernel) rfl rfl hst (fun w hw => by simp only [List.mem_cons, List.not_mem_nil, or_false] at hw; rcases hw with rfl <;> first | rfl | exact rv_cat _) (Nat.le_of_ble_eq_true rfl) (fun γ hC => ?_)
  show J G γ M 0 [some (rv a)] [] 0 0
  refine J_aload_n hC dX3_isOnRoadNow_0 rfl rfl ?_
  refine J_get4 hC lf_X3_29 (j := 4) hV.tg (v := rv (mR M a 4)) rfl dX3_isOnRoadNow_1 ?_
  refine J_callV (k1 := 0) (n1 := 0) (kd := 3) [] [rv (mR M a 4)] hC lv_X3_36 (ct_X2_lastValue hst hV.T4) hV.k4 (by decide) ⟨_, mE_3 hV.k4⟩ rfl rfl rfl (by simp only [List.map_cons, List.map_nil, rv_cat, Value.category, List.sum_cons, List.sum_nil]; decide) (by decide) rfl rfl (by decide) (by decide) dX3_isOnRoadNow_4 (fun E M9 h => h.elim) (fun v9 M9 hq9 => ?_)
  obtain ⟨rfl, e9⟩ := hq9
  rw [e9]; clear e9
  refine J_iconst hC dX3_isOnRoadNow_7 (v := 1) (by decide) ?_
  refine J_icmp_ne hC dX3_isOnRoadNow_8 (tgt := 15) (by decide) (fun c8 => ?_) (fun c8 => ?_)
  · refine J_iconst hC dX3_isOnRoadNow_15 (v := 0) (by decide) ?_
    refine J_zret hC (by decide) (by decide) (by decide) dX3_isOnRoadNow_16 ?_
    exact ⟨congrArg (fun z => some (Value.int z)) (b_f c8), rfl⟩
  · refine J_iconst hC dX3_isOnRoadNow_11 (v := 1) (by decide) ?_
    refine J_goto hC dX3_isOnRoadNow_12 (tgt := 16) (by decide) ?_
    refine J_zret hC (by decide) (by decide) (by decide) dX3_isOnRoadNow_16 ?_
    exact ⟨congrArg (fun z => some (Value.int z)) (b_t (nn c8)), rfl⟩
theorem ct_X3_hasPlate {G : Gt} {l : Launch} (hst : l.stackTraces = false) {M : Mm} {a i : Nat} {S : St} (hV : VeA M a i S) : Ct G l yX3_hasPlate cX3_hasPlate 1 (some .boolean) 3 M [rv a] 0 0 (PQ M (.int (bz (decide (lastV (sT S 1 i) ≠ -1))))) (noX) := by
  refine Ct_intro (own := RX3) (nm := "hasPlate") (by decide +kernel) rfl rfl hst (fun w hw => by simp only [List.mem_cons, List.not_mem_nil, or_false] at hw; rcases hw with rfl <;> first | rfl | exact rv_cat _) (Nat.le_of_ble_eq_true rfl) (fun γ hC => ?_)
  show J G γ M 0 [some (rv a)] [] 0 0
  refine J_aload_n hC dX3_hasPlate_0 rfl rfl ?_
  refine J_get4 hC lf_X3_26 (j := 3) hV.tg (v := rv (mR M a 3)) rfl dX3_hasPlate_1 ?_
  refine J_callV (k1 := 0) (n1 := 0) (kd := 3) [] [rv (mR M a 3)] hC lv_X3_36 (ct_X2_lastValue hst hV.T3) hV.k3 (by decide) ⟨_, mE_3 hV.k3⟩ rfl rfl rfl (by simp only [List.map_cons, List.map_nil, rv_cat, Value.category, List.sum_cons, List.sum_nil]; decide) (by decide) rfl rfl (by decide) (by decide) dX3_hasPlate_4 (fun E M9 h => h.elim) (fun v9 M9 hq9 => ?_)
  obtain ⟨rfl, e9⟩ := hq9
  rw [e9]; clear e9
  refine J_iconst hC dX3_hasPlate_7 (v := -1) (by decide) ?_
  refine J_icmp_eq hC dX3_hasPlate_8 (tgt := 15) (by decide) (fun c8 => ?_) (fun c8 => ?_)
  · refine J_iconst hC dX3_hasPlate_15 (v := 0) (by decide) ?_
    refine J_zret hC (by decide) (by decide) (by decide) dX3_hasPlate_16 ?_
    exact ⟨congrArg (fun z => some (Value.int z)) (b_f (fun h => h c8)), rfl⟩
  · refine J_iconst hC dX3_hasPlate_11 (v := 1) (by decide) ?_
    refine J_goto hC dX3_hasPlate_12 (tgt := 16) (by decide) ?_
    refine J_zret hC (by decide) (by decide) (by decide) dX3_hasPlate_16 ?_
    exact ⟨congrArg (fun z => some (Value.int z)) (b_t c8), rfl⟩
theorem ct_X4_entry {G : Gt} {l : Launch} (hst : l.stackTraces = false) {M : Mm} {a N : Nat} (ht : (mT M a).1 = 7) (hL : mL M a = N) (hN : N ≤ 10000) (i : Int32) : Ct G l yX4_entry cX4_entry 2 (some .int) 1 M [rv a, .int i] 0 0 (PQ M (.int (if isIx i N = true then mI M a (ix i) else 0))) (noX) := by
  refine Ct_intro (own := RX4) (nm := "entry") (by decide +kernel) rfl rfl hst (fun w hw => by simp only [List.mem_cons, List.not_mem_nil, or_false] at hw; rcases hw with rfl | rfl <;> first | rfl | exact rv_cat _) (Nat.le_of_ble_eq_true rfl) (fun γ hC => ?_)
  show J G γ M 0 [some (rv a), some (.int i)] [] 0 0
  refine J_iload_n hC dX4_entry_0 rfl rfl ?_
  refine J_if_lt hC dX4_entry_1 (tgt := 16) (by decide) (fun c1 => ?_) (fun c1 => ?_)
  · refine J_iconst hC dX4_entry_16 (v := 0) (by decide) ?_
    refine J_iret hC (by decide) (by decide) dX4_entry_17 ?_
    refine ⟨?_, rfl⟩
    rw [if_neg (ix_out (n := N) (by omega) (by first | exact Or.inl c1 | exact Or.inr c7))]
  · refine J_iload_n hC dX4_entry_4 rfl rfl ?_
    refine J_aload_n hC dX4_entry_5 rfl rfl ?_
    refine J_alen7 hC ht dX4_entry_6 ?_
    rw [hL]
    refine J_icmp_ge hC dX4_entry_7 (tgt := 16) (by decide) (fun c7 => ?_) (fun c7 => ?_)
    · refine J_iconst hC dX4_entry_16 (v := 0) (by decide) ?_
      refine J_iret hC (by decide) (by decide) dX4_entry_17 ?_
      refine ⟨?_, rfl⟩
      rw [if_neg (ix_out (n := N) (by omega) (by first | exact Or.inl c1 | exact Or.inr c7))]
    · have hix := ix_rng (by omega) c1 c7
      have hxx := (isIx_ix hix).2
      refine J_aload_n hC dX4_entry_10 rfl rfl ?_
      refine J_iload_n hC dX4_entry_11 rfl rfl ?_
      refine J_iald hC ht (j := (ix i)) (isIx_ix hix).1 (by rw [hL]; omega) dX4_entry_12 ?_
      refine J_goto hC dX4_entry_13 (tgt := 17) (by decide) ?_
      refine J_iret hC (by decide) (by decide) dX4_entry_17 ?_
      refine ⟨?_, rfl⟩
      rw [if_pos hix]
theorem ct_X4_addTo {G : Gt} {l : Launch} (hst : l.stackTraces = false) {M : Mm} {a N : Nat} (ht : (mT M a).1 = 7) (hL : mL M a = N) (hN : N ≤ 10000) (i : Int32) (v : Int32) : Ct G l yX4_addTo cX4_addTo 3 none 1 M [rv a, .int i, .int v] 0 0 (fun r9 M9 => r9 = none ∧ M9 = if isIx i N = true then pI M a (ix i) (mI M a (ix i) + v) else M) (noX) := by
  refine Ct_intro (own := RX4) (nm := "addTo") (by decide +kernel) rfl rfl hst (fun w hw => by simp only [List.mem_cons, List.not_mem_nil, or_false] at hw; rcases hw with rfl | rfl | rfl <;> first | rfl | exact rv_cat _) (Nat.le_of_ble_eq_true rfl) (fun γ hC => ?_)
  show J G γ M 0 [some (rv a), some (.int i), some (.int v)] [] 0 0
  refine J_iload_n hC dX4_addTo_0 rfl rfl ?_
  refine J_if_lt hC dX4_addTo_1 (tgt := 17) (by decide) (fun c1 => ?_) (fun c1 => ?_)
  · refine J_vret hC (by decide) (by decide) dX4_addTo_17 ?_
    refine ⟨rfl, ?_⟩
    rw [if_neg (ix_out (n := N) (by omega) (by first | exact Or.inl c1 | exact Or.inr c7))]
  · refine J_iload_n hC dX4_addTo_4 rfl rfl ?_
    refine J_aload_n hC dX4_addTo_5 rfl rfl ?_
    refine J_alen7 hC ht dX4_addTo_6 ?_
    rw [hL]
    refine J_icmp_ge hC dX4_addTo_7 (tgt := 17) (by decide) (fun c7 => ?_) (fun c7 => ?_)
    · refine J_vret hC (by decide) (by decide) dX4_addTo_17 ?_
      refine ⟨rfl, ?_⟩
      rw [if_neg (ix_out (n := N) (by omega) (by first | exact Or.inl c1 | exact Or.inr c7))]
    · have hix := ix_rng (by omega) c1 c7
      have hxx := (isIx_ix hix).2
      refine J_aload_n hC dX4_addTo_10 rfl rfl ?_
      refine J_iload_n hC dX4_addTo_11 rfl rfl ?_
      refine J_dup2 hC dX4_addTo_12 rfl (rv_cat _) ?_
      refine J_iald hC ht (j := (ix i)) (isIx_ix hix).1 (by rw [hL]; omega) dX4_addTo_13 ?_
      refine J_iload_n hC dX4_addTo_14 rfl rfl ?_
      refine J_iadd hC dX4_addTo_15 ?_
      refine J_iast hC ht (j := (ix i)) (isIx_ix hix).1 (by rw [hL]; omega) dX4_addTo_16 ?_
      refine J_vret hC (by decide) (by decide) dX4_addTo_17 ?_
      refine ⟨rfl, ?_⟩
      rw [if_pos hix]
def lienQ (S : St) (i : Nat) (c : Int32) : Int32 := if lendOk c = true then sL S i (ix (c - 97)) else 0
theorem lend_cx {c : Int32} (hc : 0 ≤ c.toInt ∧ c.toInt < 65536) : isIx (c - 97) 6 = lendOk c := by
  have h97 : (97 : Int32).toInt = 97 := by decide
  have h102 : (102 : Int32).toInt = 102 := by decide
  have h1 := i_sub (a := c) (b := 97) (by omega) (by omega)
  unfold isIx lendOk
  refine decide_eq_decide.mpr ?_
  rw [i_le, i_le]
  omega
theorem st_X4_entry : Cond.static yX4_entry ∈ AW := AW_in (List.mem_of_getElem? (i := 201) (by decide +kernel)) (by decide +kernel)
theorem ct_X3_lienLeft {G : Gt} {l : Launch} (hst : l.stackTraces = false) {M : Mm} {a i : Nat} {S : St} (hV : VeA M a i S) (c : Int32) (hc : 0 ≤ c.toInt ∧ c.toInt < 65536) : Ct G l yX3_lienLeft cX3_lienLeft 2 (some .int) 2 M [rv a, .int c] 0 0 (PQ M (.int (lienQ S i c))) (noX) := by
  refine Ct_intro (own := RX3) (nm := "lienLeft") (by decide +kernel) rfl rfl hst (fun w hw => by simp only [List.mem_cons, List.not_mem_nil, or_false] at hw; rcases hw with rfl | rfl <;> first | rfl | exact rv_cat _) (Nat.le_of_ble_eq_true rfl) (fun γ hC => ?_)
  show J G γ M 0 [some (rv a), some (.int c)] [] 0 0
  refine J_aload_n hC dX3_lienLeft_0 rfl rfl ?_
  refine J_get4 hC lf_X3_32 (j := 5) hV.tg (v := rv (mR M a 5)) rfl dX3_lienLeft_1 ?_
  refine J_iload_n hC dX3_lienLeft_4 rfl rfl ?_
  refine J_bipush hC dX3_lienLeft_5 (v := 97) (by decide) ?_
  refine J_isub hC dX3_lienLeft_7 ?_
  refine J_callEntry (k1 := 0) (n1 := 0) [rv (mR M a 5), .int (c - 97)] [.int (c - 97), rv (mR M a 5)] hC cw_X4_entry it_X4 st_X4_entry (by decide) (ct_X4_entry hst hV.k5 hV.l5 (by decide) (c - 97)) rfl rfl (by decide) (by decide) rfl rfl (by decide) (by decide) dX3_lienLeft_8 (fun v9 M9 hq9 => ?_)
  obtain ⟨rfl, e9⟩ := hq9
  rw [e9]; clear e9
  have el : (if isIx (c - 97) 6 = true then mI M (mR M a 5) (ix (c - 97)) else 0) = lienQ S i c := by
    unfold lienQ
    rw [lend_cx hc]
    by_cases h : lendOk c = true
    · rw [if_pos h, if_pos h]; exact hV.ln _ (isIx_ix (by rw [lend_cx hc]; exact h)).2
    · rw [if_neg h, if_neg h]
  rw [el]
  refine J_iret hC (by decide) (by decide) dX3_lienLeft_11 ?_
  exact ⟨rfl, rfl⟩
theorem blkN_0 (S : St) (v : Nat) (h : sV S v 7 ≠ 1) : blkN S v 0 = false := by simp [blkN, h]
def anyL (S : St) (v : Nat) (j : Nat) : Bool := (List.range j).any (fun j => decide (0 < sL S v j))
theorem anyL_s (S : St) (v j : Nat) : anyL S v (j + 1) = (anyL S v j || decide (0 < sL S v j)) := by simp [anyL, List.range_succ]
theorem blk_of (S : St) (v : Nat) : blk S v = (decide (sV S v 7 = 1) || anyL S v 6) := rfl
theorem anyL_le {S : St} {v j : Nat} (hj : j < 6) (h : 0 < sL S v j) : anyL S v 6 = true := by
  unfold anyL
  exact List.any_eq_true.mpr ⟨j, List.mem_range.mpr hj, decide_eq_true h⟩
theorem ct_X3_isBlockedNow {G : Gt} {l : Launch} (hst : l.stackTraces = false) {M : Mm} {a i : Nat} {S : St} (hV : VeA M a i S) (hs : sV S i 7 = 0 ∨ sV S i 7 = 1) : Ct G l yX3_isBlockedNow cX3_isBlockedNow 5 (some .boolean) 1 M [rv a] 0 0 (PQ M (.int (bz (blk S i)))) (noX) := by
  refine Ct_intro (own := RX3) (nm := "isBlockedNow") (by decide +kernel) rfl rfl hst (fun w hw => by simp only [List.mem_cons, List.not_mem_nil, or_false] at hw; rcases hw with rfl <;> first | rfl | exact rv_cat _) (Nat.le_of_ble_eq_true rfl) (fun γ hC => ?_)
  show J G γ M 0 [some (rv a)] [] 0 0
  refine J_aload_n hC dX3_isBlockedNow_0 rfl rfl ?_
  refine J_get4 hC lf_X3_32 (j := 5) hV.tg (v := rv (mR M a 5)) rfl dX3_isBlockedNow_1 ?_
  refine J_astore_n hC dX3_isBlockedNow_4 rfl (by decide) (ls1 := [some (rv a), some (rv (mR M a 5))]) rfl ?_
  refine J_aload_n hC dX3_isBlockedNow_5 rfl rfl ?_
  refine J_alen7 hC hV.k5 dX3_isBlockedNow_6 ?_
  rw [hV.l5]
  refine J_istore_n hC dX3_isBlockedNow_7 rfl (by decide) (ls1 := [some (rv a), some (rv (mR M a 5)), some (.int (nI 6))]) rfl ?_
  refine J_iconst hC dX3_isBlockedNow_8 (v := 0) (by decide) ?_
  refine J_istore_n hC dX3_isBlockedNow_9 rfl (by decide) (ls1 := [some (rv a), some (rv (mR M a 5)), some (.int (nI 6)), some (.int 0)]) rfl ?_
  have L10 : ∀ (n9 : Nat) (j : Nat), 6 - j < n9 → (j ≤ 6) → (anyL S i j = false) → J G γ M 10 [some (rv a), some (rv (mR M a 5)), some (.int (nI 6)), some (.int (nI j))] [] 0 0 := by
    intro n9
    induction n9 with
    | zero => intro j h9; exact absurd h9 (Nat.not_lt_zero _)
    | succ n9 ih =>
      intro j h9 hj hi
      refine J_iload_n hC dX3_isBlockedNow_10 rfl rfl ?_
      refine J_iload_n hC dX3_isBlockedNow_11 rfl rfl ?_
      refine J_icmp_ge hC dX3_isBlockedNow_12 (tgt := 33) (by decide) (fun c12 => ?_) (fun c12 => ?_)
      · have hjj : j = 6 := by have := le_nI (by omega) (by omega) c12; omega
        subst hjj
        refine J_aload_n hC dX3_isBlockedNow_33 rfl rfl ?_
        refine J_get4 hC lf_X3_44 (j := 7) hV.tg (v := .int (sV S i 7)) (congrArg (fun z => some (Value.int z)) hV.v7) dX3_isBlockedNow_34 ?_
        refine J_zret hC (by decide) (by decide) (by rcases hs with h | h <;> rw [h] <;> decide) dX3_isBlockedNow_37 ?_
        refine ⟨?_, rfl⟩
        rw [blk_of, hi, Bool.or_false]; exact congrArg (fun z => some (Value.int z)) (rb01 hs)
      · have hlt := ge_nI (by omega) (by omega) c12
        refine J_aload_n hC dX3_isBlockedNow_15 rfl rfl ?_
        refine J_iload_n hC dX3_isBlockedNow_16 rfl rfl ?_
        refine J_iald hC hV.k5 (j := j) (nI_toInt (by omega)) (by rw [hV.l5]; omega) dX3_isBlockedNow_17 ?_
        rw [show mI M (mR M a 5) j = sL S i j from (hV.ln j hlt)]
        refine J_istore hC dX3_isBlockedNow_18 (by decide) (ls1 := [some (rv a), some (rv (mR M a 5)), some (.int (nI 6)), some (.int (nI j)), some (.int (sL S i j))]) rfl ?_
        refine J_iload hC dX3_isBlockedNow_20 rfl ?_
        refine J_if_le hC dX3_isBlockedNow_22 (tgt := 27) (by decide) (fun c22 => ?_) (fun c22 => ?_)
        · refine J_iinc hC dX3_isBlockedNow_27 (by decide) rfl (v := nI (j + 1)) (nI_1 _) (ls1 := [some (rv a), some (rv (mR M a 5)), some (.int (nI 6)), some (.int (nI (j + 1))), some (.int (sL S i j))]) rfl ?_
          refine J_goto hC dX3_isBlockedNow_30 (tgt := 10) (by decide) ?_
          refine J_sub hC (ls1 := [some (rv a), some (rv (mR M a 5)), some (.int (nI 6)), some (.int (nI (j + 1)))]) ⟨rfl, rfl, rfl, rfl, trivial⟩ ?_
          exact ih (j + 1) (by omega) (by omega) (by rw [anyL_s, hi, decide_eq_false (i_gt0 c22)]; rfl)
        · refine J_iconst hC dX3_isBlockedNow_25 (v := 1) (by decide) ?_
          refine J_zret hC (by decide) (by decide) (by decide) dX3_isBlockedNow_26 ?_
          refine ⟨?_, rfl⟩
          rw [blk_of, anyL_le hlt (i_gt1 c22), Bool.or_true]; rfl
  exact L10 7 0 (by omega) (Nat.zero_le _) rfl
theorem ct_X1_voidDay {G : Gt} {l : Launch} (hst : l.stackTraces = false) {M : Mm} {a i : Nat} {S : St} (hV : PlA M a i S) : Ct G l yX1_voidDay cX1_voidDay 1 (some .int) 1 M [rv a] 0 0 (PQ M (.int (sQ S i 3 + 361))) (noX) := by
  refine Ct_intro (own := RX1) (nm := "voidDay") (by decide +kernel) rfl rfl hst (fun w hw => by simp only [List.mem_cons, List.not_mem_nil, or_false] at hw; rcases hw with rfl <;> first | rfl | exact rv_cat _) (Nat.le_of_ble_eq_true rfl) (fun γ hC => ?_)
  show J G γ M 0 [some (rv a)] [] 0 0
  refine J_aload_n hC dX1_voidDay_0 rfl rfl ?_
  refine J_get2 hC lf_X1_25 (j := 3) hV.tg (v := .int (sQ S i 3)) (congrArg (fun z => some (Value.int z)) hV.v3) dX1_voidDay_1 ?_
  refine J_sipush hC dX1_voidDay_4 (v := 361) (by decide) ?_
  refine J_iadd hC dX1_voidDay_7 ?_
  refine J_iret hC (by decide) (by decide) dX1_voidDay_8 ?_
  exact ⟨rfl, rfl⟩
theorem ct_X1_isKept {G : Gt} {l : Launch} (hst : l.stackTraces = false) {M : Mm} {a i : Nat} {S : St} (hV : PlA M a i S) (d : Int32) : Ct G l yX1_isKept cX1_isKept 2 (some .boolean) 2 M [rv a, .int d] 0 0 (PQ M (.int (bz (decide (sQ S i 2 ≠ -1) && decide (d < sQ S i 3 + 361))))) (noX) := by
  refine Ct_intro (own := RX1) (nm := "isKept") (by decide +kernel) rfl rfl hst (fun w hw => by simp only [List.mem_cons, List.not_mem_nil, or_false] at hw; rcases hw with rfl | rfl <;> first | rfl | exact rv_cat _) (Nat.le_of_ble_eq_true rfl) (fun γ hC => ?_)
  show J G γ M 0 [some (rv a), some (.int d)] [] 0 0
  refine J_aload_n hC dX1_isKept_0 rfl rfl ?_
  refine J_get2 hC lf_X1_22 (j := 2) hV.tg (v := .int (sQ S i 2)) (congrArg (fun z => some (Value.int z)) hV.v2) dX1_isKept_1 ?_
  refine J_iconst hC dX1_isKept_4 (v := -1) (by decide) ?_
  refine J_icmp_eq hC dX1_isKept_5 (tgt := 20) (by decide) (fun c5 => ?_) (fun c5 => ?_)
  · refine J_iconst hC dX1_isKept_20 (v := 0) (by decide) ?_
    refine J_zret hC (by decide) (by decide) (by decide) dX1_isKept_21 ?_
    refine ⟨?_, rfl⟩
    first
    | (rw [decide_eq_false (p := sQ S i 2 ≠ -1) (fun h => h c5)]; rfl)
    | (rw [decide_eq_false (p := d < _) (i_nlt2 c13), Bool.and_false]; rfl)
  · refine J_iload_n hC dX1_isKept_8 rfl rfl ?_
    refine J_aload_n hC dX1_isKept_9 rfl rfl ?_
    refine J_callV (k1 := 0) (n1 := 0) (kd := 2) [] [rv a, .int d] hC lv_X1_32 (ct_X1_voidDay hst hV) hV.tg (by decide) ⟨_, mE_2 hV.tg⟩ rfl rfl rfl (by simp only [List.map_cons, List.map_nil, rv_cat, Value.category, List.sum_cons, List.sum_nil]; decide) (by decide) rfl rfl (by decide) (by decide) dX1_isKept_10 (fun E M9 h => h.elim) (fun v9 M9 hq9 => ?_)
    obtain ⟨rfl, e9⟩ := hq9
    rw [e9]; clear e9
    refine J_icmp_ge hC dX1_isKept_13 (tgt := 20) (by decide) (fun c13 => ?_) (fun c13 => ?_)
    · refine J_iconst hC dX1_isKept_20 (v := 0) (by decide) ?_
      refine J_zret hC (by decide) (by decide) (by decide) dX1_isKept_21 ?_
      refine ⟨?_, rfl⟩
      first
      | (rw [decide_eq_false (p := sQ S i 2 ≠ -1) (fun h => h c5)]; rfl)
      | (rw [decide_eq_false (p := d < _) (i_nlt2 c13), Bool.and_false]; rfl)
    · refine J_iconst hC dX1_isKept_16 (v := 1) (by decide) ?_
      refine J_goto hC dX1_isKept_17 (tgt := 21) (by decide) ?_
      refine J_zret hC (by decide) (by decide) (by decide) dX1_isKept_21 ?_
      refine ⟨?_, rfl⟩
      rw [decide_eq_true c5, decide_eq_true (i_nle2 c13)]; rfl
theorem ct_X0_isOpenFor {G : Gt} {l : Launch} (hst : l.stackTraces = false) {M : Mm} {a i : Nat} {S : St} (hV : NtA M a i S) (v : Int32) : Ct G l yX0_isOpenFor cX0_isOpenFor 2 (some .boolean) 1 M [rv a, .int v] 0 0 (PQ M (.int (bz (decide (sO S i 5 = 111) && decide (sO S i 2 = v))))) (noX) := by
  refine Ct_intro (own := RX0) (nm := "isOpenFor") (by decide +kernel) rfl rfl hst (fun w hw => by simp only [List.mem_cons, List.not_mem_nil, or_false] at hw; rcases hw with rfl | rfl <;> first | rfl | exact rv_cat _) (Nat.le_of_ble_eq_true rfl) (fun γ hC => ?_)
  show J G γ M 0 [some (rv a), some (.int v)] [] 0 0
  refine J_aload_n hC dX0_isOpenFor_0 rfl rfl ?_
  refine J_get1 hC lf_X0_27 (j := 5) hV.tg (v := .int (sO S i 5)) (congrArg (fun z => some (Value.int z)) hV.v5) dX0_isOpenFor_1 ?_
  refine J_bipush hC dX0_isOpenFor_4 (v := 111) (by decide) ?_
  refine J_icmp_ne hC dX0_isOpenFor_6 (tgt := 21) (by decide) (fun c6 => ?_) (fun c6 => ?_)
  · refine J_iconst hC dX0_isOpenFor_21 (v := 0) (by decide) ?_
    refine J_zret hC (by decide) (by decide) (by decide) dX0_isOpenFor_22 ?_
    refine ⟨?_, rfl⟩
    first
    | (rw [decide_eq_false c6]; rfl)
    | (rw [decide_eq_false c14, Bool.and_false]; rfl)
  · refine J_aload_n hC dX0_isOpenFor_9 rfl rfl ?_
    refine J_get1 hC lf_X0_18 (j := 2) hV.tg (v := .int (sO S i 2)) (congrArg (fun z => some (Value.int z)) hV.v2) dX0_isOpenFor_10 ?_
    refine J_iload_n hC dX0_isOpenFor_13 rfl rfl ?_
    refine J_icmp_ne hC dX0_isOpenFor_14 (tgt := 21) (by decide) (fun c14 => ?_) (fun c14 => ?_)
    · refine J_iconst hC dX0_isOpenFor_21 (v := 0) (by decide) ?_
      refine J_zret hC (by decide) (by decide) (by decide) dX0_isOpenFor_22 ?_
      refine ⟨?_, rfl⟩
      first
      | (rw [decide_eq_false c6]; rfl)
      | (rw [decide_eq_false c14, Bool.and_false]; rfl)
    · refine J_iconst hC dX0_isOpenFor_17 (v := 1) (by decide) ?_
      refine J_goto hC dX0_isOpenFor_18 (tgt := 22) (by decide) ?_
      refine J_zret hC (by decide) (by decide) (by decide) dX0_isOpenFor_22 ?_
      refine ⟨?_, rfl⟩
      rw [decide_eq_true (nn c6), decide_eq_true (nn c14)]; rfl
