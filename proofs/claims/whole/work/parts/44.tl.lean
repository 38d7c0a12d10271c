theorem dayI_n {l : Tl} {j : Nat} (hb : l.length ≤ 1100) (h : j < l.length) : dayI l (nI j) = (l.getD j (0, 0)).1 := by
  unfold dayI; rw [if_pos (isIx_of h (by omega)), ix_nI (by omega)]
theorem ct_X2_advance {G : Gt} {l : Launch} (hst : l.stackTraces = false) {M : Mm} {a c : Nat} {l9 : Tl} (hT : TlA M a c l9) (k : Nat) (d : Int32) (hk : k ≤ tw l9 d) : Ct G l yX2_advance cX2_advance 5 (some .int) 2 M [rv a, .int (nI k - 1), .int d] 0 0 (PQ M (.int (nI (tw l9 d) - 1))) (noX) := by
  obtain ⟨t0, t1, t2, s2, cap, hc0, hc1, hl, h4, hcap, hb, hj⟩ := id hT
  have g0 : (mT M a).1 = 3 := by rw [t0]
  have g1 : (mT M (mR M a 0)).1 = 7 := by rw [t1]
  have g2 : (mT M (mR M a 1)).1 = 7 := by rw [t2]
  have htl := tw_le l9 d
  refine Ct_intro (own := RX2) (nm := "advance") (by decide +kernel) rfl rfl hst (fun w hw => by simp only [List.mem_cons, List.not_mem_nil, or_false] at hw; rcases hw with rfl | rfl | rfl <;> first | rfl | exact rv_cat _) (Nat.le_of_ble_eq_true rfl) (fun γ hC => ?_)
  show J G γ M 0 [some (rv a), some (.int (nI k - 1)), some (.int d)] [] 0 0
  refine J_iload_n hC dX2_advance_0 rfl rfl ?_
  refine J_istore_n hC dX2_advance_1 rfl (by decide) (ls1 := [some (rv a), some (.int (nI k - 1)), some (.int d), some (.int (nI k - 1))]) rfl ?_
  refine J_iload_n hC dX2_advance_2 rfl rfl ?_
  refine J_iconst hC dX2_advance_3 (v := 1) (by decide) ?_
  refine J_iadd hC dX2_advance_4 ?_
  rw [(show nI k - 1 + 1 = nI k from Int32.sub_add_cancel _ _)]
  refine J_istore hC dX2_advance_5 (by decide) (ls1 := [some (rv a), some (.int (nI k - 1)), some (.int d), some (.int (nI k - 1)), some (.int (nI k))]) rfl ?_
  have L7 : ∀ (n9 : Nat) (j : Nat), tw l9 d - j < n9 → (j ≤ tw l9 d) → J G γ M 7 [some (rv a), none, some (.int d), some (.int (nI j - 1)), some (.int (nI j))] [] 0 0 := by
    intro n9
    induction n9 with
    | zero => intro j h9; exact absurd h9 (Nat.not_lt_zero _)
    | succ n9 ih =>
      intro j h9 hj9
      refine J_iload hC dX2_advance_7 rfl ?_
      refine J_aload_n hC dX2_advance_9 rfl rfl ?_
      refine J_get3 hC lf_X2_18 (j := 2) g0 (v := .int (nI l9.length)) (congrArg (fun z => some (Value.int z)) s2) dX2_advance_10 ?_
      refine J_icmp_ge hC dX2_advance_13 (tgt := 35) (by decide) (fun c13 => ?_) (fun c13 => ?_)
      · have hge := le_nI (by omega) (by omega) c13
        have hjj : j = tw l9 d := by omega
        rw [hjj]
        refine J_iload_n hC dX2_advance_35 rfl rfl ?_
        refine J_iret hC (by decide) (by decide) dX2_advance_36 ?_
        exact ⟨rfl, rfl⟩
      · have hjl := ge_nI (by omega) (by omega) c13
        refine J_aload_n hC dX2_advance_16 rfl rfl ?_
        refine J_iload hC dX2_advance_17 rfl ?_
        refine J_callV (k1 := 0) (n1 := 0) (kd := 3) [.int (nI j)] [.int (nI j), rv a] hC lv_X2_25 (ct_X2_dayAt hst hT _) g0 (by decide) ⟨_, mE_3 g0⟩ rfl rfl rfl (by simp only [List.map_cons, List.map_nil, rv_cat, Value.category, List.sum_cons, List.sum_nil]; decide) (by decide) rfl rfl (by decide) (by decide) dX2_advance_19 (fun E M9 h => h.elim) (fun v9 M9 hq9 => ?_)
        obtain ⟨rfl, e9⟩ := hq9
        rw [e9]; clear e9
        rw [dayI_n hb hjl]
        refine J_iload_n hC dX2_advance_22 rfl rfl ?_
        refine J_icmp_gt hC dX2_advance_23 (tgt := 35) (by decide) (fun c23 => ?_) (fun c23 => ?_)
        · have hjj : j = tw l9 d := by
            rcases Nat.lt_or_ge j (tw l9 d) with h | h
            · exact absurd (tw_lt h) (i_nle c23)
            · omega
          rw [hjj]
          refine J_iload_n hC dX2_advance_35 rfl rfl ?_
          refine J_iret hC (by decide) (by decide) dX2_advance_36 ?_
          exact ⟨rfl, rfl⟩
        · have hjt : j < tw l9 d := by
            rcases Nat.lt_or_ge j (tw l9 d) with h | h
            · exact h
            · exact absurd (i_nlt c23) (by (have h9 : j = tw l9 d := by omega); rw [h9]; exact tw_ge (by omega))
          refine J_iload hC dX2_advance_26 rfl ?_
          refine J_istore_n hC dX2_advance_28 rfl (by decide) (ls1 := [some (rv a), none, some (.int d), some (.int (nI j)), some (.int (nI j))]) rfl ?_
          refine J_iinc hC dX2_advance_29 (by decide) rfl (v := nI (j + 1)) (nI_1 _) (ls1 := [some (rv a), none, some (.int d), some (.int (nI j)), some (.int (nI (j + 1)))]) rfl ?_
          refine J_goto hC dX2_advance_32 (tgt := 7) (by decide) ?_
          have h7 := ih (j + 1) (by omega) (by omega)
          rw [show nI (j + 1) - 1 = nI j by rw [← nI_1, nI_p1s1]] at h7
          exact h7
  refine J_sub hC (ls1 := [some (rv a), none, some (.int d), some (.int (nI k - 1)), some (.int (nI k))]) ⟨rfl, rfl, rfl, rfl, trivial⟩ ?_
  exact L7 (tw l9 d + 1) k (by omega) hk
