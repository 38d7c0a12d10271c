theorem pw_get {l : Tl} (hs : l.Pairwise (fun a b => a.1 ≤ b.1)) {i j : Nat} (h : i ≤ j) (hj : j < l.length) : (l.getD i (0, 0)).1 ≤ (l.getD j (0, 0)).1 := by
  have hi : i < l.length := by omega
  rw [show l.getD j (0, 0) = l[j] by simp [List.getD, hj], show l.getD i (0, 0) = l[i] by simp [List.getD, hi]]
  by_cases e : i = j
  · subst e; exact Int32.le_refl _
  · exact List.pairwise_iff_getElem.mp hs i j (by omega) hj (by omega)
theorem tw_lt2 {l : Tl} {d : Int32} (hs : l.Pairwise (fun a b => a.1 ≤ b.1)) {j : Nat} (hj : j < l.length) (h : (l.getD j (0, 0)).1 ≤ d) : j < tw l d := by
  rcases Nat.lt_or_ge j (tw l d) with g | g
  · exact g
  · exact absurd (i_le_trans (pw_get hs g hj) h) (tw_ge (by omega))
theorem tw_gt2 {l : Tl} {d : Int32} {j : Nat} (h : ¬ (l.getD j (0, 0)).1 ≤ d) : tw l d ≤ j := by
  rcases Nat.lt_or_ge j (tw l d) with g | g
  · exact absurd (tw_lt g) h
  · exact g
theorem ct_X2_indexByHalving {G : Gt} {l : Launch} (hst : l.stackTraces = false) {M : Mm} {a c : Nat} {l9 : Tl} (hT : TlA M a c l9) (d : Int32) (hs : l9.Pairwise (fun a b => a.1 ≤ b.1)) : Ct G l yX2_indexByHalving cX2_indexByHalving 6 (some .int) 2 M [rv a, .int d] 0 0 (PQ M (.int (nI (tw l9 d) - 1))) (noX) := by
  obtain ⟨t0, t1, t2, s2, cap, hc0, hc1, hl, h4, hcap, hb, hj⟩ := id hT
  have g0 : (mT M a).1 = 3 := by rw [t0]
  have g1 : (mT M (mR M a 0)).1 = 7 := by rw [t1]
  have g2 : (mT M (mR M a 1)).1 = 7 := by rw [t2]
  have htl := tw_le l9 d
  refine Ct_intro (own := RX2) (nm := "indexByHalving") (by decide +kernel) rfl rfl hst (fun w hw => by simp only [List.mem_cons, List.not_mem_nil, or_false] at hw; rcases hw with rfl | rfl <;> first | rfl | exact rv_cat _) (Nat.le_of_ble_eq_true rfl) (fun γ hC => ?_)
  show J G γ M 0 [some (rv a), some (.int d)] [] 0 0
  refine J_iconst hC dX2_indexByHalving_0 (v := 0) (by decide) ?_
  refine J_istore_n hC dX2_indexByHalving_1 rfl (by decide) (ls1 := [some (rv a), some (.int d), some (.int 0)]) rfl ?_
  refine J_aload_n hC dX2_indexByHalving_2 rfl rfl ?_
  refine J_get3 hC lf_X2_18 (j := 2) g0 (v := .int (nI l9.length)) (congrArg (fun z => some (Value.int z)) s2) dX2_indexByHalving_3 ?_
  refine J_istore_n hC dX2_indexByHalving_6 rfl (by decide) (ls1 := [some (rv a), some (.int d), some (.int 0), some (.int (nI l9.length))]) rfl ?_
  refine J_iconst hC dX2_indexByHalving_7 (v := 0) (by decide) ?_
  refine J_istore hC dX2_indexByHalving_8 (by decide) (ls1 := [some (rv a), some (.int d), some (.int 0), some (.int (nI l9.length)), some (.int 0)]) rfl ?_
  have L10 : ∀ (n9 : Nat) (i lo hi : Nat), 33 - i < n9 → (lo ≤ tw l9 d ∧ tw l9 d ≤ hi ∧ hi ≤ l9.length) → (hi - lo < 2 ^ (32 - i)) → (i ≤ 32) → J G γ M 10 [some (rv a), some (.int d), some (.int (nI lo)), some (.int (nI hi)), some (.int (nI i))] [] 0 0 := by
    intro n9
    induction n9 with
    | zero => intro i lo hi h9; exact absurd h9 (Nat.not_lt_zero _)
    | succ n9 ih =>
      intro i lo hi h9 hlh hpw hi32
      refine J_iload hC dX2_indexByHalving_10 rfl ?_
      refine J_bipush hC dX2_indexByHalving_12 (v := 32) (by decide) ?_
      refine J_icmp_ge hC dX2_indexByHalving_14 (tgt := 58) (by decide) (fun c14 => ?_) (fun c14 => ?_)
      · have hge := le_nI (n := 32) (by omega) (by omega) c14
        have hii : i = 32 := by omega
        rw [hii] at hpw
        have hlt : lo = tw l9 d := by omega
        rw [hlt]
        refine J_iload_n hC dX2_indexByHalving_58 rfl rfl ?_
        refine J_iconst hC dX2_indexByHalving_59 (v := 1) (by decide) ?_
        refine J_isub hC dX2_indexByHalving_60 ?_
        refine J_iret hC (by decide) (by decide) dX2_indexByHalving_61 ?_
        exact ⟨rfl, rfl⟩
      · have hil := ge_nI (n := 32) (by omega) (by omega) c14
        have hpp : 2 ^ (32 - i) = 2 * 2 ^ (32 - (i + 1)) := by rw [← Nat.pow_succ']; congr 1; omega
        refine J_iload_n hC dX2_indexByHalving_17 rfl rfl ?_
        refine J_iload_n hC dX2_indexByHalving_18 rfl rfl ?_
        refine J_icmp_ge hC dX2_indexByHalving_19 (tgt := 58) (by decide) (fun c19 => ?_) (fun c19 => ?_)
        · have hge := le_nI (by omega) (by omega) c19
          have hlt : lo = tw l9 d := by omega
          rw [hlt]
          refine J_iload_n hC dX2_indexByHalving_58 rfl rfl ?_
          refine J_iconst hC dX2_indexByHalving_59 (v := 1) (by decide) ?_
          refine J_isub hC dX2_indexByHalving_60 ?_
          refine J_iret hC (by decide) (by decide) dX2_indexByHalving_61 ?_
          exact ⟨rfl, rfl⟩
        · have hll := ge_nI (by omega) (by omega) c19
          refine J_iload_n hC dX2_indexByHalving_22 rfl rfl ?_
          refine J_iload_n hC dX2_indexByHalving_23 rfl rfl ?_
          refine J_iload_n hC dX2_indexByHalving_24 rfl rfl ?_
          refine J_isub hC dX2_indexByHalving_25 ?_
          refine J_iconst hC dX2_indexByHalving_26 (v := 2) (by decide) ?_
          refine J_idiv hC dX2_indexByHalving_27 (by decide) ?_
          refine J_iadd hC dX2_indexByHalving_28 ?_
          rw [mid_n (by omega) (by omega)]
          refine J_istore hC dX2_indexByHalving_29 (by decide) (ls1 := [some (rv a), some (.int d), some (.int (nI lo)), some (.int (nI hi)), some (.int (nI i)), some (.int (nI (lo + (hi - lo) / 2)))]) rfl ?_
          refine J_aload_n hC dX2_indexByHalving_31 rfl rfl ?_
          refine J_iload hC dX2_indexByHalving_32 rfl ?_
          refine J_callV (k1 := 0) (n1 := 0) (kd := 3) [.int (nI (lo + (hi - lo) / 2))] [.int (nI (lo + (hi - lo) / 2)), rv a] hC lv_X2_25 (ct_X2_dayAt hst hT _) g0 (by decide) ⟨_, mE_3 g0⟩ rfl rfl rfl (by simp only [List.map_cons, List.map_nil, rv_cat, Value.category, List.sum_cons, List.sum_nil]; decide) (by decide) rfl rfl (by decide) (by decide) dX2_indexByHalving_34 (fun E M9 h => h.elim) (fun v9 M9 hq9 => ?_)
          obtain ⟨rfl, e9⟩ := hq9
          rw [e9]; clear e9
          rw [dayI_n hb (by omega)]
          refine J_iload_n hC dX2_indexByHalving_37 rfl rfl ?_
          refine J_icmp_gt hC dX2_indexByHalving_38 (tgt := 49) (by decide) (fun c38 => ?_) (fun c38 => ?_)
          · have hmt := tw_gt2 (i_nle c38)
            refine J_iload hC dX2_indexByHalving_49 rfl ?_
            refine J_istore_n hC dX2_indexByHalving_51 rfl (by decide) (ls1 := [some (rv a), some (.int d), some (.int (nI lo)), some (.int (nI (lo + (hi - lo) / 2))), some (.int (nI i)), some (.int (nI (lo + (hi - lo) / 2)))]) rfl ?_
            refine J_iinc hC dX2_indexByHalving_52 (by decide) rfl (v := nI (i + 1)) (nI_1 _) (ls1 := [some (rv a), some (.int d), some (.int (nI lo)), some (.int (nI (lo + (hi - lo) / 2))), some (.int (nI (i + 1))), some (.int (nI (lo + (hi - lo) / 2)))]) rfl ?_
            refine J_goto hC dX2_indexByHalving_55 (tgt := 10) (by decide) ?_
            refine J_sub hC (ls1 := [some (rv a), some (.int d), some (.int (nI lo)), some (.int (nI (lo + (hi - lo) / 2))), some (.int (nI (i + 1)))]) ⟨rfl, rfl, rfl, rfl, rfl, trivial⟩ ?_
            exact ih (i + 1) lo (lo + (hi - lo) / 2) (by omega) (by omega) (by omega) (by omega)
          · have hmt := tw_lt2 hs (by omega) (i_nlt c38)
            refine J_iload hC dX2_indexByHalving_41 rfl ?_
            refine J_iconst hC dX2_indexByHalving_43 (v := 1) (by decide) ?_
            refine J_iadd hC dX2_indexByHalving_44 ?_
            rw [nI_1]
            refine J_istore_n hC dX2_indexByHalving_45 rfl (by decide) (ls1 := [some (rv a), some (.int d), some (.int (nI (lo + (hi - lo) / 2 + 1))), some (.int (nI hi)), some (.int (nI i)), some (.int (nI (lo + (hi - lo) / 2)))]) rfl ?_
            refine J_goto hC dX2_indexByHalving_46 (tgt := 52) (by decide) ?_
            refine J_iinc hC dX2_indexByHalving_52 (by decide) rfl (v := nI (i + 1)) (nI_1 _) (ls1 := [some (rv a), some (.int d), some (.int (nI (lo + (hi - lo) / 2 + 1))), some (.int (nI hi)), some (.int (nI (i + 1))), some (.int (nI (lo + (hi - lo) / 2)))]) rfl ?_
            refine J_goto hC dX2_indexByHalving_55 (tgt := 10) (by decide) ?_
            refine J_sub hC (ls1 := [some (rv a), some (.int d), some (.int (nI (lo + (hi - lo) / 2 + 1))), some (.int (nI hi)), some (.int (nI (i + 1)))]) ⟨rfl, rfl, rfl, rfl, rfl, trivial⟩ ?_
            exact ih (i + 1) (lo + (hi - lo) / 2 + 1) hi (by omega) (by omega) (by omega) (by omega)
  exact L10 34 0 0 l9.length (by omega) ⟨Nat.zero_le _, htl, Nat.le_refl _⟩ (by omega) (by omega)
