theorem dv_last {l : Tl} (hb : l.length ≤ 1100) : valI l (nI l.length - 1) = lastV l ∧ dayI l (nI l.length - 1) = lastD l := by
  rcases List.eq_nil_or_concat l with rfl | ⟨l1, e, rfl⟩
  · have h : ¬ isIx (nI 0 - 1) 0 = true := by decide
    unfold valI dayI
    exact ⟨if_neg h, if_neg h⟩
  · obtain ⟨x, y⟩ := e
    rw [List.concat_eq_append] at hb ⊢
    have hn : (l1 ++ [(x, y)]).length = l1.length + 1 := by simp
    rw [hn] at hb
    have h0 : nI (l1 ++ [(x, y)]).length - 1 = nI l1.length := by rw [hn, ← nI_1, nI_p1s1]
    have h1 : isIx (nI l1.length) (l1 ++ [(x, y)]).length = true := isIx_of (by rw [hn]; omega) (by omega)
    have h2 : (l1 ++ [(x, y)]).getD l1.length (0, 0) = (x, y) := by simp [List.getD]
    unfold valI dayI
    rw [h0, if_pos h1, if_pos h1, ix_nI (by omega), h2, lastV_snoc, lastD_snoc]
    exact ⟨rfl, rfl⟩
theorem ct_X2_lastValue {G : Gt} {l : Launch} (hst : l.stackTraces = false) {M : Mm} {a c : Nat} {l9 : Tl} (hT : TlA M a c l9)  : Ct G l yX2_lastValue cX2_lastValue 1 (some .int) 2 M [rv a] 0 0 (PQ M (.int (lastV l9))) (noX) := by
  obtain ⟨t0, t1, t2, s2, cap, hc0, hc1, hl, h4, hcap, hb, hj⟩ := id hT
  have g0 : (mT M a).1 = 3 := by rw [t0]
  have g1 : (mT M (mR M a 0)).1 = 7 := by rw [t1]
  have g2 : (mT M (mR M a 1)).1 = 7 := by rw [t2]
  refine Ct_intro (own := RX2) (nm := "lastValue") (by decide +kernel) rfl rfl hst (fun w hw => by simp only [List.mem_cons, List.not_mem_nil, or_false] at hw; rcases hw with rfl <;> first | rfl | exact rv_cat _) (Nat.le_of_ble_eq_true rfl) (fun γ hC => ?_)
  show J G γ M 0 [some (rv a)] [] 0 0
  refine J_aload_n hC dX2_lastValue_0 rfl rfl ?_
  refine J_aload_n hC dX2_lastValue_1 rfl rfl ?_
  refine J_get3 hC lf_X2_18 (j := 2) g0 (v := .int (nI l9.length)) (congrArg (fun z => some (Value.int z)) s2) dX2_lastValue_2 ?_
  refine J_iconst hC dX2_lastValue_5 (v := 1) (by decide) ?_
  refine J_isub hC dX2_lastValue_6 ?_
  refine J_callV (k1 := 0) (n1 := 0) (kd := 3) [.int ((nI l9.length) - 1)] [.int ((nI l9.length) - 1), rv a] hC lv_X2_39 (ct_X2_valueAt hst hT _) g0 (by decide) ⟨_, mE_3 g0⟩ rfl rfl rfl (by simp only [List.map_cons, List.map_nil, rv_cat, Value.category, List.sum_cons, List.sum_nil]; decide) (by decide) rfl rfl (by decide) (by decide) dX2_lastValue_7 (fun E M9 h => h.elim) (fun v9 M9 hq9 => ?_)
  obtain ⟨rfl, e9⟩ := hq9
  rw [e9]; clear e9
  rw [(dv_last hb).1]
  refine J_iret hC (by decide) (by decide) dX2_lastValue_10 ?_
  exact ⟨rfl, rfl⟩
theorem ct_X2_lastDay {G : Gt} {l : Launch} (hst : l.stackTraces = false) {M : Mm} {a c : Nat} {l9 : Tl} (hT : TlA M a c l9)  : Ct G l yX2_lastDay cX2_lastDay 1 (some .int) 2 M [rv a] 0 0 (PQ M (.int (lastD l9))) (noX) := by
  obtain ⟨t0, t1, t2, s2, cap, hc0, hc1, hl, h4, hcap, hb, hj⟩ := id hT
  have g0 : (mT M a).1 = 3 := by rw [t0]
  have g1 : (mT M (mR M a 0)).1 = 7 := by rw [t1]
  have g2 : (mT M (mR M a 1)).1 = 7 := by rw [t2]
  refine Ct_intro (own := RX2) (nm := "lastDay") (by decide +kernel) rfl rfl hst (fun w hw => by simp only [List.mem_cons, List.not_mem_nil, or_false] at hw; rcases hw with rfl <;> first | rfl | exact rv_cat _) (Nat.le_of_ble_eq_true rfl) (fun γ hC => ?_)
  show J G γ M 0 [some (rv a)] [] 0 0
  refine J_aload_n hC dX2_lastDay_0 rfl rfl ?_
  refine J_aload_n hC dX2_lastDay_1 rfl rfl ?_
  refine J_get3 hC lf_X2_18 (j := 2) g0 (v := .int (nI l9.length)) (congrArg (fun z => some (Value.int z)) s2) dX2_lastDay_2 ?_
  refine J_iconst hC dX2_lastDay_5 (v := 1) (by decide) ?_
  refine J_isub hC dX2_lastDay_6 ?_
  refine J_callV (k1 := 0) (n1 := 0) (kd := 3) [.int ((nI l9.length) - 1)] [.int ((nI l9.length) - 1), rv a] hC lv_X2_25 (ct_X2_dayAt hst hT _) g0 (by decide) ⟨_, mE_3 g0⟩ rfl rfl rfl (by simp only [List.map_cons, List.map_nil, rv_cat, Value.category, List.sum_cons, List.sum_nil]; decide) (by decide) rfl rfl (by decide) (by decide) dX2_lastDay_7 (fun E M9 h => h.elim) (fun v9 M9 hq9 => ?_)
  obtain ⟨rfl, e9⟩ := hq9
  rw [e9]; clear e9
  rw [(dv_last hb).2]
  refine J_iret hC (by decide) (by decide) dX2_lastDay_10 ?_
  exact ⟨rfl, rfl⟩
