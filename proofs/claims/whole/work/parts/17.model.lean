theorem ct_X5_debt {G : Gt} {l : Launch} (hst : l.stackTraces = false) {M : Mm} {m : Nat} {S : St} {t : Nat} (hM : MAt M m S t) (hI : Inv S t) (who : Int32) (hw : isIx who (sN S 0) = true) : Ct G l yX5_debt cX5_debt 6 (some .int) 3 M [rv m, .int who] 0 0 (PQ M (.int (owe S (ix who)))) (noX) := by
  obtain ⟨a0, nP, nR, nS, a1, bR, bS, bt⟩ := id hM
  have bPs := a1.bPs; have bK := a1.bK; have bV := a1.bV; have bPl := a1.bP; have bN := a1.bN
  have hwx := (isIx_ix hw).2
  have hwn := isIx_nI hw
  have hdv := div90 hI.bD
  obtain ⟨hD3, hD4, hD5⟩ := hI.D3
  have hpd : mI M (mR M m 10) (ix who) = sP S (ix who) := a1.paid _ (by omega)
  refine Ct_intro (own := RX5) (nm := "debt") (by decide +kernel) rfl rfl hst (fun w hw => by simp only [List.mem_cons, List.not_mem_nil, or_false] at hw; rcases hw with rfl | rfl <;> first | rfl | exact rv_cat _) (Nat.le_of_ble_eq_true rfl) (fun γ hC => ?_)
  show J G γ M 0 [some (rv m), some (.int who)] [] 0 0
  refine J_aload_n hC dX5_debt_0 rfl rfl ?_
  refine J_get6 hC lf_X5_7 (j := 10) a0.t (v := rv (mR M m 10)) rfl dX5_debt_1 ?_
  refine J_iload_n hC dX5_debt_4 rfl rfl ?_
  refine J_iald hC a0.a10 (j := (ix who)) (isIx_ix hw).1 (by rw [a0.l10]; omega) dX5_debt_5 ?_
  rw [hpd]
  refine J_ineg hC dX5_debt_6 ?_
  refine J_istore_n hC dX5_debt_7 rfl (by decide) (ls1 := [some (rv m), some (.int who), some (.int (-(sP S (ix who))))]) rfl ?_
  refine J_iconst hC dX5_debt_8 (v := 0) (by decide) ?_
  refine J_istore_n hC dX5_debt_9 rfl (by decide) (ls1 := [some (rv m), some (.int who), some (.int (-(sP S (ix who)))), some (.int 0)]) rfl ?_
  have L10 : ∀ (n8 : Nat) (j : Nat) (acc : Int32), (sN S 1) - j < n8 → (j ≤ sN S 1) → (acc = -sP S (ix who) + sum32 (fun v => sum32 (fun q => taxQ S who v q) (ix (sD S) / 90 + 1)) j) → J G γ M 10 [some (rv m), some (.int who), some (.int acc), some (.int (nI j))] [] 0 0 := by
    intro n8
    induction n8 with
    | zero => intro j acc h8; exact absurd h8 (Nat.not_lt_zero _)
    | succ n8 ihO =>
      intro j acc h8 hj hi
      refine J_iload_n hC dX5_debt_10 rfl rfl ?_
      refine J_aload_n hC dX5_debt_11 rfl rfl ?_
      refine J_get6 hC lf_X5_91 (j := 2) a0.t (v := .int (nI (sN S 1))) (congrArg (fun z => some (Value.int z)) a1.s2) dX5_debt_12 ?_
      refine J_icmp_ge hC dX5_debt_15 (tgt := 83) (by decide) (fun c15 => ?_) (fun c15 => ?_)
      · have hge := le_nI (by omega) (by omega) c15
        have hjj : j = sN S 1 := by omega
        subst hjj
        refine J_iload_n hC dX5_debt_83 rfl rfl ?_
        refine J_iret hC (by decide) (by decide) dX5_debt_84 ?_
        refine ⟨?_, rfl⟩
        rw [hi]
        unfold owe
        rw [← hwn]
      · have hlt := ge_nI (by omega) (by omega) c15
        have hj0 := hi
        clear hi
        refine J_iconst hC dX5_debt_18 (v := 0) (by decide) ?_
        refine J_istore hC dX5_debt_19 (by decide) (ls1 := [some (rv m), some (.int who), some (.int acc), some (.int (nI j)), some (.int 0)]) rfl ?_
        have L21 : ∀ (n9 : Nat) (i : Nat) (acc1 : Int32), (ix (sD S) / 90 + 1) - i < n9 → (i ≤ ix (sD S) / 90 + 1) → (acc1 = acc + sum32 (fun q => taxQ S who j q) i) → J G γ M 21 [some (rv m), some (.int who), some (.int acc1), some (.int (nI j)), some (.int (nI i))] [] 0 0 := by
          intro n9
          induction n9 with
          | zero => intro i acc1 h9; exact absurd h9 (Nat.not_lt_zero _)
          | succ n9 ih =>
            intro i acc1 h9 hj1 hi
            refine J_iload hC dX5_debt_21 rfl ?_
            refine J_aload_n hC dX5_debt_23 rfl rfl ?_
            refine J_get6 hC lf_X5_97 (j := 5) a0.t (v := .int (sD S)) (congrArg (fun z => some (Value.int z)) a1.s5) dX5_debt_24 ?_
            refine J_bipush hC dX5_debt_27 (v := 90) (by decide) ?_
            refine J_idiv hC dX5_debt_29 (by decide) ?_
            refine J_icmp_gt hC dX5_debt_30 (tgt := 77) (by decide) (fun c30 => ?_) (fun c30 => ?_)
            · rw [hdv, nI_ltI (by omega) (by omega)] at c30
              have hii : i = ix (sD S) / 90 + 1 := by omega
              have hk := hi
              rw [hii] at hk
              clear hi
              refine J_iinc hC dX5_debt_77 (by decide) rfl (v := nI (j + 1)) (nI_1 _) (ls1 := [some (rv m), some (.int who), some (.int acc1), some (.int (nI (j + 1))), some (.int (nI i))]) rfl ?_
              refine J_goto hC dX5_debt_80 (tgt := 10) (by decide) ?_
              refine J_sub hC (ls1 := [some (rv m), some (.int who), some (.int acc1), some (.int (nI (j + 1)))]) ⟨rfl, rfl, rfl, rfl, trivial⟩ ?_
              exact ihO (j + 1) _ (by omega) (by omega) (by rw [sum32_s, ← i_add_assoc, ← hj0]; exact hk)
            · rw [hdv] at c30
              have hlt1 : i < ix (sD S) / 90 + 1 := by (rw [nI_ltI (by omega) (by omega)] at c30; omega)
              have hql := q_len hlt1
              refine J_aload_n hC dX5_debt_33 rfl rfl ?_
              refine J_iload_n hC dX5_debt_34 rfl rfl ?_
              refine J_iload hC dX5_debt_35 rfl ?_
              refine J_callV (k1 := 0) (n1 := 0) (kd := 6) [.int (nI j), .int (nI i)] [.int (nI i), .int (nI j), rv m] hC lv_X5_217 (ct_X5_first hst hM hI (nI j) (nI i) (isIx_of hlt (by omega)) (isIx_of hlt1 (by omega))) a0.t (by decide) ⟨_, mE_6 a0.t⟩ rfl rfl rfl (by simp only [List.map_cons, List.map_nil, rv_cat, Value.category, List.sum_cons, List.sum_nil]; decide) (by decide) rfl rfl (by decide) (by decide) dX5_debt_37 (fun E M9 h => h.elim) (fun v9 M9 hq9 => ?_)
              obtain ⟨rfl, e9⟩ := hq9
              rw [e9]; clear e9
              rw [ix_nI (n := j) (by omega), ix_nI (n := i) (by omega)]
              refine J_istore hC dX5_debt_40 (by decide) (ls1 := [some (rv m), some (.int who), some (.int acc1), some (.int (nI j)), some (.int (nI i)), some (.int (rdI (rday S j i)))]) rfl ?_
              refine J_iload hC dX5_debt_42 rfl ?_
              refine J_iconst hC dX5_debt_44 (v := -1) (by decide) ?_
              refine J_icmp_eq hC dX5_debt_45 (tgt := 71) (by decide) (fun c45 => ?_) (fun c45 => ?_)
              · refine J_iinc hC dX5_debt_71 (by decide) rfl (v := nI (i + 1)) (nI_1 _) (ls1 := [some (rv m), some (.int who), some (.int acc1), some (.int (nI j)), some (.int (nI (i + 1))), some (.int (rdI (rday S j i)))]) rfl ?_
                refine J_goto hC dX5_debt_74 (tgt := 21) (by decide) ?_
                refine J_sub hC (ls1 := [some (rv m), some (.int who), some (.int acc1), some (.int (nI j)), some (.int (nI (i + 1)))]) ⟨rfl, rfl, rfl, rfl, rfl, trivial⟩ ?_
                exact ih (i + 1) _ (by omega) (by omega) (by rw [sum32_s, ← i_add_assoc, ← hi]; first | (rw [tax_0a (by omega) (nn9 c45)]; exact (i32_a0 _).symm) | (rw [tax_0b c45 c56]; exact (i32_a0 _).symm) | (rw [tax_1 c45 (nn c56)]))
              · refine J_aload_n hC dX5_debt_48 rfl rfl ?_
                refine J_iload_n hC dX5_debt_49 rfl rfl ?_
                refine J_iload hC dX5_debt_50 rfl ?_
                refine J_callV (k1 := 0) (n1 := 0) (kd := 6) [.int (nI j), .int (rdI (rday S j i))] [.int (rdI (rday S j i)), .int (nI j), rv m] hC lv_X5_113 (ct_X5_keeper hst hM (nI j) (rdI (rday S j i)) (isIx_of hlt (by omega))) a0.t (by decide) ⟨_, mE_6 a0.t⟩ rfl rfl rfl (by simp only [List.map_cons, List.map_nil, rv_cat, Value.category, List.sum_cons, List.sum_nil]; decide) (by decide) rfl rfl (by decide) (by decide) dX5_debt_52 (fun E M9 h => h.elim) (fun v9 M9 hq9 => ?_)
                obtain ⟨rfl, e9⟩ := hq9
                rw [e9]; clear e9
                rw [ix_nI (n := j) (by omega)]
                refine J_iload_n hC dX5_debt_55 rfl rfl ?_
                refine J_icmp_ne hC dX5_debt_56 (tgt := 71) (by decide) (fun c56 => ?_) (fun c56 => ?_)
                · refine J_iinc hC dX5_debt_71 (by decide) rfl (v := nI (i + 1)) (nI_1 _) (ls1 := [some (rv m), some (.int who), some (.int acc1), some (.int (nI j)), some (.int (nI (i + 1))), some (.int (rdI (rday S j i)))]) rfl ?_
                  refine J_goto hC dX5_debt_74 (tgt := 21) (by decide) ?_
                  refine J_sub hC (ls1 := [some (rv m), some (.int who), some (.int acc1), some (.int (nI j)), some (.int (nI (i + 1)))]) ⟨rfl, rfl, rfl, rfl, rfl, trivial⟩ ?_
                  exact ih (i + 1) _ (by omega) (by omega) (by rw [sum32_s, ← i_add_assoc, ← hi]; first | (rw [tax_0a (by omega) (nn9 c45)]; exact (i32_a0 _).symm) | (rw [tax_0b c45 c56]; exact (i32_a0 _).symm) | (rw [tax_1 c45 (nn c56)]))
                · refine J_iload_n hC dX5_debt_59 rfl rfl ?_
                  refine J_aload_n hC dX5_debt_60 rfl rfl ?_
                  refine J_get6 hC lf_X5_13 (j := 11) a0.t (v := rv (mR M m 11)) rfl dX5_debt_61 ?_
                  refine J_iload_n hC dX5_debt_64 rfl rfl ?_
                  refine J_iald hC a0.a11 (j := j) (nI_toInt (by omega)) (by rw [a0.l11]; omega) dX5_debt_65 ?_
                  rw [(show mI M (mR M m 11) j = sV S j 1 from a1.kind _ hlt)]
                  refine J_callS (k1 := 0) (n1 := 0) [.int (sV S j 1)] [.int (sV S j 1), .int acc1] hC ls_X5_220 (ct_X5_tax hst _) rfl rfl (by simp only [List.map_cons, List.map_nil, rv_cat, Value.category, List.sum_cons, List.sum_nil]; decide) (by decide) rfl rfl (by decide) (by decide) dX5_debt_66 (fun E M9 h => h.elim) (fun v9 M9 hq9 => ?_)
                  obtain ⟨rfl, e9⟩ := hq9
                  rw [e9]; clear e9
                  refine J_iadd hC dX5_debt_69 ?_
                  refine J_istore_n hC dX5_debt_70 rfl (by decide) (ls1 := [some (rv m), some (.int who), some (.int (acc1 + (taxOf (sV S j 1)))), some (.int (nI j)), some (.int (nI i)), some (.int (rdI (rday S j i)))]) rfl ?_
                  refine J_iinc hC dX5_debt_71 (by decide) rfl (v := nI (i + 1)) (nI_1 _) (ls1 := [some (rv m), some (.int who), some (.int (acc1 + (taxOf (sV S j 1)))), some (.int (nI j)), some (.int (nI (i + 1))), some (.int (rdI (rday S j i)))]) rfl ?_
                  refine J_goto hC dX5_debt_74 (tgt := 21) (by decide) ?_
                  refine J_sub hC (ls1 := [some (rv m), some (.int who), some (.int (acc1 + (taxOf (sV S j 1)))), some (.int (nI j)), some (.int (nI (i + 1)))]) ⟨rfl, rfl, rfl, rfl, rfl, trivial⟩ ?_
                  exact ih (i + 1) _ (by omega) (by omega) (by rw [sum32_s, ← i_add_assoc, ← hi]; first | (rw [tax_0a (by omega) (nn9 c45)]; exact (i32_a0 _).symm) | (rw [tax_0b c45 c56]; exact (i32_a0 _).symm) | (rw [tax_1 c45 (nn c56)]))
        exact L21 (ix (sD S) / 90 + 2) 0 _ (by omega) (Nat.zero_le _) (by exact (i32_a0 _).symm)
  exact L10 (sN S 1 + 1) 0 _ (by omega) (Nat.zero_le _) (by exact (i32_a0 _).symm)
