theorem ct_X2_at {G : Gt} {l : Launch} (hst : l.stackTraces = false) {M : Mm} {a c : Nat} {l9 : Tl} (hT : TlA M a c l9) (d : Int32) (hs : l9.Pairwise (fun a b => a.1 ≤ b.1)) : Ct G l yX2_at cX2_at 2 (some .int) 3 M [rv a, .int d] 0 0 (PQ M (.int (look l9 d))) (noX) := by
  obtain ⟨t0, t1, t2, s2, cap, hc0, hc1, hl, h4, hcap, hb, hj⟩ := id hT
  have g0 : (mT M a).1 = 3 := by rw [t0]
  have g1 : (mT M (mR M a 0)).1 = 7 := by rw [t1]
  have g2 : (mT M (mR M a 1)).1 = 7 := by rw [t2]
  refine Ct_intro (own := RX2) (nm := "at") (by decide +kernel) rfl rfl hst (fun w hw => by simp only [List.mem_cons, List.not_mem_nil, or_false] at hw; rcases hw with rfl | rfl <;> first | rfl | exact rv_cat _) (Nat.le_of_ble_eq_true rfl) (fun γ hC => ?_)
  show J G γ M 0 [some (rv a), some (.int d)] [] 0 0
  refine J_aload_n hC dX2_at_0 rfl rfl ?_
  refine J_aload_n hC dX2_at_1 rfl rfl ?_
  refine J_iload_n hC dX2_at_2 rfl rfl ?_
  refine J_callV (k1 := 0) (n1 := 0) (kd := 3) [.int d] [.int d, rv a, rv a] hC lv_X2_42 (ct_X2_indexByHalving hst hT d hs) g0 (by decide) ⟨_, mE_3 g0⟩ rfl rfl rfl (by simp only [List.map_cons, List.map_nil, rv_cat, List.sum_cons, List.sum_nil]; (try simp only [Value.category]); (try omega)) (by decide) rfl rfl (by decide) (by decide) dX2_at_3 (fun E M9 h => h.elim) (fun v9 M9 hq9 => ?_)
  obtain ⟨rfl, e9⟩ := hq9
  rw [e9]; clear e9
  refine J_callV (k1 := 0) (n1 := 0) (kd := 3) [.int (nI (tw l9 d) - 1)] [.int (nI (tw l9 d) - 1), rv a] hC lv_X2_39 (ct_X2_valueAt hst hT _) g0 (by decide) ⟨_, mE_3 g0⟩ rfl rfl rfl (by simp only [List.map_cons, List.map_nil, rv_cat, Value.category, List.sum_cons, List.sum_nil]; decide) (by decide) rfl rfl (by decide) (by decide) dX2_at_6 (fun E M9 h => h.elim) (fun v9 M9 hq9 => ?_)
  obtain ⟨rfl, e9⟩ := hq9
  rw [e9]; clear e9
  rw [val_tw hb hs]
  refine J_iret hC (by decide) (by decide) dX2_at_9 ?_
  exact ⟨rfl, rfl⟩
