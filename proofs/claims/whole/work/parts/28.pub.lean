theorem day_add {S : St} {t : Nat} (hI : Inv S t) {d : Int32} (h : 1 ≤ d ∧ d ≤ 99) : (sD S + d).toInt = (sD S).toInt + d.toInt ∧ 1 ≤ d.toInt ∧ d.toInt ≤ 99 := by
  obtain ⟨h1, h2⟩ := h
  rw [i_le] at h1 h2
  have e1 : (1 : Int32).toInt = 1 := by decide
  have e2 : (99 : Int32).toInt = 99 := by decide
  obtain ⟨g1, g2⟩ := hI.bD
  exact ⟨i_add (by omega) (by omega), by omega, by omega⟩
theorem in_bz (a b v : Int32) : (if a ≤ v ∧ v ≤ b then (1 : Int32) else 0) = bz (decide (a ≤ v ∧ v ≤ b)) := by simp [bz]
theorem oPass_1 {S : St} {d : Int32} (h : decide (1 ≤ d ∧ d ≤ 99) = false ∨ ¬ sD S + d ≤ 3000) : oPass S d = no 1 S := by
  unfold oPass
  rw [if_pos]
  rcases h with h | h
  · have h1 := of_decide_eq_false h
    by_cases g : (1 : Int32) ≤ d
    · exact Or.inr (Or.inl (i_nle' (fun q => h1 ⟨g, q⟩)))
    · exact Or.inl (i_nle' g)
  · exact Or.inr (Or.inr (i_nle' h))
theorem oPass_2 {S : St} {d : Int32} (h : decide (1 ≤ d ∧ d ≤ 99) = true) (h2 : sD S + d ≤ 3000) : oPass S d = (0, .int (sD S + d), uD S (sD S + d)) := by
  unfold oPass
  have h1 := of_decide_eq_true h
  rw [if_neg]
  rintro (q | q | q)
  · exact i_nle q h1.1
  · exact i_nle q h1.2
  · exact i_nle q h2
theorem ct_X5_pass {G : Gt} {l : Launch} (hst : l.stackTraces = false) {M : Mm} {m : Nat} {S : St} {t : Nat} (hM : MAt M m S t) (hI : Inv S t) (hlt : t < 512) (d : Int32) : Ct G l yX5_pass cX5_pass 2 (some .int) 3 M [rv m, .int d] 0 0 (Op M m t (oPass S d)) (noX) := by
  obtain ⟨a0, nP, nR, nS, a1, bR, bS, bt⟩ := id hM
  have bPs := a1.bPs; have bK := a1.bK; have bV := a1.bV; have bPl := a1.bP; have bN := a1.bN
  refine Ct_intro (own := RX5) (nm := "pass") (by decide +kernel) rfl rfl hst (fun w hw => by simp only [List.mem_cons, List.not_mem_nil, or_false] at hw; rcases hw with rfl | rfl <;> first | rfl | exact rv_cat _) (Nat.le_of_ble_eq_true rfl) (fun γ hC => ?_)
  show J G γ M 0 [some (rv m), some (.int d)] [] 0 0
  refine J_iload_n hC dX5_pass_0 rfl rfl ?_
  refine J_iconst hC dX5_pass_1 (v := 1) (by decide) ?_
  refine J_bipush hC dX5_pass_2 (v := 99) (by decide) ?_
  refine J_callS (k1 := 0) (n1 := 0) [.int d, .int 1, .int 99] [.int 99, .int 1, .int d] hC ls_X5_87 (ct_X5_in hst d 1 99) rfl rfl (by simp only [List.map_cons, List.map_nil, rv_cat, Value.category, List.sum_cons, List.sum_nil]; decide) (by decide) rfl rfl (by decide) (by decide) dX5_pass_4 (fun E M9 h => h.elim) (fun v9 M9 hq9 => ?_)
  obtain ⟨rfl, e9⟩ := hq9
  rw [e9]; clear e9
  rw [in_bz]
  refine J_if_eq hC dX5_pass_7 (tgt := 22) (by decide) (fun c7 => ?_) (fun c7 => ?_)
  · have b7 : (decide (1 ≤ d ∧ d ≤ 99)) = false := bz_eq0 c7
    refine J_aload_n hC dX5_pass_22 rfl rfl ?_
    refine J_iconst hC dX5_pass_23 (v := 1) (by decide) ?_
    refine J_callV (k1 := 0) (n1 := 0) (kd := 6) [.int 1] [.int 1, rv m] hC lv_X5_116 (ct_X5_fails hst (M := M) a0 1) a0.t (by decide) ⟨_, mE_6 a0.t⟩ rfl rfl rfl (by simp only [List.map_cons, List.map_nil, rv_cat, Value.category, List.sum_cons, List.sum_nil]; decide) (by decide) rfl rfl (by decide) (by decide) dX5_pass_24 (fun E M9 h => h.elim) (fun v9 M9 hq9 => ?_)
    obtain ⟨rfl, rfl⟩ := hq9
    refine J_iret hC (by decide) (by decide) dX5_pass_27 ?_
    refine op_no hM hlt (k := 1) (oPass_1 (by first | exact Or.inl b7 | exact Or.inr c19)) rfl
  · have b7 : (decide (1 ≤ d ∧ d ≤ 99)) = true := bz_ne0 c7
    refine J_aload_n hC dX5_pass_10 rfl rfl ?_
    refine J_get6 hC lf_X5_97 (j := 5) a0.t (v := .int (sD S)) (congrArg (fun z => some (Value.int z)) a1.s5) dX5_pass_11 ?_
    refine J_iload_n hC dX5_pass_14 rfl rfl ?_
    refine J_iadd hC dX5_pass_15 ?_
    refine J_sipush hC dX5_pass_16 (v := 3000) (by decide) ?_
    refine J_icmp_le hC dX5_pass_19 (tgt := 28) (by decide) (fun c19 => ?_) (fun c19 => ?_)
    · refine J_aload_n hC dX5_pass_28 rfl rfl ?_
      refine J_iconst hC dX5_pass_29 (v := 0) (by decide) ?_
      refine J_put6_0 hC lf_X5_80 a0.t dX5_pass_30 ?_
      refine J_aload_n hC dX5_pass_33 rfl rfl ?_
      refine J_dup hC dX5_pass_34 (rv_cat _) ?_
      refine J_get6 hC lf_X5_97 (j := 5) a0.t (v := .int (sD S)) (congrArg (fun z => some (Value.int z)) ((up2_k _ _ _ (by decide) : mI (pI M m 0 0) m 5 = mI M m 5).trans a1.s5)) dX5_pass_35 ?_
      refine J_iload_n hC dX5_pass_38 rfl rfl ?_
      refine J_iadd hC dX5_pass_39 ?_
      refine J_put6_5 hC lf_X5_97 a0.t dX5_pass_40 ?_
      refine J_aload_n hC dX5_pass_43 rfl rfl ?_
      refine J_get6 hC lf_X5_97 (j := 5) a0.t (v := .int (((sD S) + d))) (congrArg (fun z => some (Value.int z)) (up2_same _ _ _ _ : mI (pI (pI M m 0 0) m 5 ((sD S) + d)) m 5 = ((sD S) + d))) dX5_pass_44 ?_
      refine J_iret hC (by decide) (by decide) dX5_pass_47 ?_
      obtain ⟨k1, k2, k3⟩ := day_add hI (of_decide_eq_true b7)
      have k4 : (3000 : Int32).toInt = 3000 := by decide
      have k5 := c19
      rw [i_le, k4] at k5
      have k6 := hI.bD.1
      refine op_at (oPass_2 b7 c19) ⟨a0, _, _, _, MA1.of_v (Vw.sc (M := (pI M m 0 0)) a0 (Vw.sc (M := M) a0 (Vw.rf M m) 0 0) 5 (sD S + d)) (MA1v.dy a1.v ⟨by omega, by omega⟩), by omega, by omega, by omega⟩ (Fr.trans (Fr.trans (Fr.rf pM M) (Fr.pI (a0.fm))) (Fr.pI (a0.fm))) ((up2_k _ _ _ (by decide)).trans (up2_same _ _ _ _))
    · refine J_aload_n hC dX5_pass_22 rfl rfl ?_
      refine J_iconst hC dX5_pass_23 (v := 1) (by decide) ?_
      refine J_callV (k1 := 0) (n1 := 0) (kd := 6) [.int 1] [.int 1, rv m] hC lv_X5_116 (ct_X5_fails hst (M := M) a0 1) a0.t (by decide) ⟨_, mE_6 a0.t⟩ rfl rfl rfl (by simp only [List.map_cons, List.map_nil, rv_cat, Value.category, List.sum_cons, List.sum_nil]; decide) (by decide) rfl rfl (by decide) (by decide) dX5_pass_24 (fun E M9 h => h.elim) (fun v9 M9 hq9 => ?_)
      obtain ⟨rfl, rfl⟩ := hq9
      refine J_iret hC (by decide) (by decide) dX5_pass_27 ?_
      refine op_no hM hlt (k := 1) (oPass_1 (by first | exact Or.inl b7 | exact Or.inr c19)) rfl
theorem getD_at {l1 r : Tl} {e d : Int32 × Int32} {k : Nat} (h : l1.length = k) : (l1 ++ e :: r).getD k d = e := by
  subst h; simp [List.getD]
theorem sq_le {V D X : Nat → Int32} {v : Int32} : ∀ n, (sq V D X v n).length ≤ n
  | 0 => Nat.le_refl _
  | n + 1 => by
    have := sq_le (V := V) (D := D) (X := X) (v := v) n
    by_cases h : V n = v
    · rw [sq_y h, List.length_append, List.length_singleton]; omega
    · rw [sq_n h]; omega
theorem nI_m1 {l : Nat} (h : l ≠ 0) : nI l + -1 = nI (l - 1) := by
  obtain ⟨k, rfl⟩ : ∃ k, l = k + 1 := ⟨l - 1, by omega⟩
  rw [← nI_1, Nat.add_sub_cancel, Int32.add_assoc]
  simp
theorem ct_X5_transferDay {G : Gt} {l : Launch} (hst : l.stackTraces = false) {M : Mm} {m : Nat} {S : St} {t : Nat} (hM : MAt M m S t) (hI : Inv S t) (hlt : t < 512) (v k : Int32) : Ct G l yX5_transferDay cX5_transferDay 5 (some .int) 4 M [rv m, .int v, .int k] 0 0 (Op M m t (oTransferDay S v k)) (noX) := by
  obtain ⟨a0, nP, nR, nS, a1, bR, bS, bt⟩ := id hM
  have bPs := a1.bPs; have bK := a1.bK; have bV := a1.bV; have bPl := a1.bP; have bN := a1.bN
  refine Ct_intro (own := RX5) (nm := "transferDay") (by decide +kernel) rfl rfl hst (fun w hw => by simp only [List.mem_cons, List.not_mem_nil, or_false] at hw; rcases hw with rfl | rfl | rfl <;> first | rfl | exact rv_cat _) (Nat.le_of_ble_eq_true rfl) (fun γ hC => ?_)
  show J G γ M 0 [some (rv m), some (.int v), some (.int k)] [] 0 0
  refine J_aload_n hC dX5_transferDay_0 rfl rfl ?_
  refine J_iload_n hC dX5_transferDay_1 rfl rfl ?_
  refine J_callV (k1 := 0) (n1 := 0) (kd := 6) [.int v] [.int v, rv m] hC lv_X5_189 (ct_X5_isAsked hst hM v) a0.t (by decide) ⟨_, mE_6 a0.t⟩ rfl rfl rfl (by simp only [List.map_cons, List.map_nil, rv_cat, Value.category, List.sum_cons, List.sum_nil]; decide) (by decide) rfl rfl (by decide) (by decide) dX5_transferDay_2 (fun E M9 h => h.elim) (fun v9 M9 hq9 => ?_)
  rcases hq9 with ⟨hv, rfl, rfl⟩ | ⟨nv, rfl, rfl⟩
  · have xv := (isIx_ix hv).2
    refine J_if_eq hC dX5_transferDay_5 (tgt := 23) (by decide) (fun c5 => ?_) (fun c5 => ?_)
    · exact absurd c5 (by decide)
    · have hq0 : sq (ma M m 15) (ma M m 16) (ma M m 17) v nP = sT S 0 (ix v) := by (have h9 := a1.q0 _ xv; rw [← isIx_nI hv] at h9; exact h9)
      have hln : (sT S 0 (ix v)).length ≤ nP := by rw [← hq0]; exact sq_le _
      refine J_iload_n hC dX5_transferDay_8 rfl rfl ?_
      refine J_iconst hC dX5_transferDay_9 (v := 0) (by decide) ?_
      refine J_aload_n hC dX5_transferDay_10 rfl rfl ?_
      refine J_iload_n hC dX5_transferDay_11 rfl rfl ?_
      refine J_callV (k1 := 0) (n1 := 0) (kd := 6) [.int v] [.int v, rv m, .int 0, .int k] hC lv_X5_195 (ct_X5_passesOf hst (MAt.thr hM 0) v hv) a0.t (by decide) ⟨_, mE_6 a0.t⟩ rfl rfl rfl (by simp only [List.map_cons, List.map_nil, rv_cat, Value.category, List.sum_cons, List.sum_nil]; decide) (by decide) rfl rfl (by decide) (by decide) dX5_transferDay_12 (fun E M9 h => h.elim) (fun v9 M9 hq9 => ?_)
      obtain ⟨rfl, e9⟩ := hq9
      rw [e9]; clear e9
      refine J_iconst hC dX5_transferDay_15 (v := 1) (by decide) ?_
      refine J_isub hC dX5_transferDay_16 ?_
      refine J_callS (k1 := 0) (n1 := 0) [.int k, .int 0, .int ((nI (sT S 0 (ix v)).length) - 1)] [.int ((nI (sT S 0 (ix v)).length) - 1), .int 0, .int k] hC ls_X5_87 (ct_X5_in hst k 0 ((nI (sT S 0 (ix v)).length) - 1)) rfl rfl (by simp only [List.map_cons, List.map_nil, rv_cat, Value.category, List.sum_cons, List.sum_nil]; decide) (by decide) rfl rfl (by decide) (by decide) dX5_transferDay_17 (fun E M9 h => h.elim) (fun v9 M9 hq9 => ?_)
      obtain ⟨rfl, e9⟩ := hq9
      rw [e9]; clear e9
      rw [in_ix _ (by have h8 := congrArg List.length hq0; have h7 := sq_le (V := ma M m 15) (D := ma M m 16) (X := ma M m 17) (v := v) nP; omega)]
      refine J_if_ne hC dX5_transferDay_20 (tgt := 29) (by decide) (fun c20 => ?_) (fun c20 => ?_)
      · have hk : (isIx k (sT S 0 (ix v)).length) = true := bz_ne0 c20
        have xk := (isIx_ix hk).2
        refine J_iload_n hC dX5_transferDay_29 rfl rfl ?_
        refine J_istore_n hC dX5_transferDay_30 rfl (by decide) (ls1 := [some (rv m), some (.int v), some (.int k), some (.int k)]) rfl ?_
        refine J_iconst hC dX5_transferDay_31 (v := 0) (by decide) ?_
        refine J_istore hC dX5_transferDay_32 (by decide) (ls1 := [some (rv m), some (.int v), some (.int k), some (.int k), some (.int 0)]) rfl ?_
        have L34 : ∀ (n9 : Nat) (j l : Nat) (lf : Int32), nP - j < n9 → (j ≤ nP) → (lf = nI l) → (l + (sq (ma M m 15) (ma M m 16) (ma M m 17) v j).length = ix k) → J G γ (pI M m 0 0) 34 [some (rv m), some (.int v), some (.int k), some (.int lf), some (.int (nI j))] [] 0 0 := by
          intro n9
          induction n9 with
          | zero => intro j l lf h9; exact absurd h9 (Nat.not_lt_zero _)
          | succ n9 ih =>
            intro j l lf h9 hj hlf hi
            refine J_iload hC dX5_transferDay_34 rfl ?_
            refine J_aload_n hC dX5_transferDay_36 rfl rfl ?_
            refine J_get6 hC lf_X5_110 (j := 6) a0.t (v := .int (nI nP)) (congrArg (fun z => some (Value.int z)) ((up2_k _ _ _ (by decide) : mI (pI M m 0 0) m 6 = mI M m 6).trans a1.s6)) dX5_transferDay_37 ?_
            refine J_icmp_ge hC dX5_transferDay_40 (tgt := 78) (by decide) (fun c40 => ?_) (fun c40 => ?_)
            · have hge := le_nI (by omega) (by omega) c40
              have hjj : j = nP := by omega
              rw [hjj, hq0] at hi
              exfalso
              omega
            · have hlt3 := ge_nI (by omega) (by omega) c40
              refine J_aload_n hC dX5_transferDay_43 rfl rfl ?_
              refine J_get6 hC lf_X5_26 (j := 15) a0.t (v := rv (mR M m 15)) rfl dX5_transferDay_44 ?_
              refine J_iload hC dX5_transferDay_47 rfl ?_
              refine J_iald hC a0.a15 (j := j) (nI_toInt (by omega)) (Nat.lt_of_lt_of_eq (by omega) a0.l15.symm) dX5_transferDay_49 ?_
              rw [show mI (pI M m 0 0) (mR M m 15) j = mI M (mR M m 15) j from (up2_b _ _ _ _ (a0.ne (by decide) (by decide)).symm : mI (pI M m 0 0) (mR M m 15) j = mI M (mR M m 15) j)]
              refine J_iload_n hC dX5_transferDay_50 rfl rfl ?_
              refine J_icmp_eq hC dX5_transferDay_51 (tgt := 57) (by decide) (fun c51 => ?_) (fun c51 => ?_)
              · have q51 : mI M (mR M m 15) j = v := c51
                refine J_iload_n hC dX5_transferDay_57 rfl rfl ?_
                refine J_if_ne hC dX5_transferDay_58 (tgt := 69) (by decide) (fun c58 => ?_) (fun c58 => ?_)
                · refine J_iinc hC dX5_transferDay_69 (by decide) rfl (v := lf + (-1)) rfl (ls1 := [some (rv m), some (.int v), some (.int k), some (.int (lf + (-1))), some (.int (nI j))]) rfl ?_
                  refine J_iinc hC dX5_transferDay_72 (by decide) rfl (v := nI (j + 1)) (nI_1 _) (ls1 := [some (rv m), some (.int v), some (.int k), some (.int (lf + (-1))), some (.int (nI (j + 1)))]) rfl ?_
                  refine J_goto hC dX5_transferDay_75 (tgt := 34) (by decide) ?_
                  have hl0 : l ≠ 0 := fun e => c58 (by rw [hlf, e]; rfl)
                  exact ih (j + 1) (l - 1) _ (by omega) (by omega) (by rw [hlf, nI_m1 hl0]) (by rw [sq_y (V := ma M m 15) q51, List.length_append, List.length_singleton]; omega)
                · refine J_aload_n hC dX5_transferDay_61 rfl rfl ?_
                  refine J_get6 hC lf_X5_29 (j := 16) a0.t (v := rv (mR M m 16)) rfl dX5_transferDay_62 ?_
                  refine J_iload hC dX5_transferDay_65 rfl ?_
                  refine J_iald hC a0.a16 (j := j) (nI_toInt (by omega)) (Nat.lt_of_lt_of_eq (by omega) a0.l16.symm) dX5_transferDay_67 ?_
                  rw [show mI (pI M m 0 0) (mR M m 16) j = mI M (mR M m 16) j from (up2_b _ _ _ _ (a0.ne (by decide) (by decide)).symm : mI (pI M m 0 0) (mR M m 16) j = mI M (mR M m 16) j)]
                  refine J_iret hC (by decide) (by decide) dX5_transferDay_68 ?_
                  have hk9 := (isIx_ix hk).2
                  have hl0 : l = 0 := nI_inj (by omega) (by omega) (hlf.symm.trans (nn c58))
                  obtain ⟨r, hr⟩ := sq_split1 (V := ma M m 15) (D := ma M m 16) (X := ma M m 17) hlt3 q51
                  rw [hq0] at hr
                  have hg : (sT S 0 (ix v)).getD (ix k) (0, 0) = (ma M m 16 j, ma M m 17 j) := by rw [hr]; exact getD_at (by omega)
                  refine op_ok hM hlt ?_
                  unfold oTransferDay
                  rw [hg, if_neg (by rw [hv, hk]; simp)]
              · have q51 : ¬ mI M (mR M m 15) j = v := c51
                refine J_goto hC dX5_transferDay_54 (tgt := 72) (by decide) ?_
                refine J_iinc hC dX5_transferDay_72 (by decide) rfl (v := nI (j + 1)) (nI_1 _) (ls1 := [some (rv m), some (.int v), some (.int k), some (.int lf), some (.int (nI (j + 1)))]) rfl ?_
                refine J_goto hC dX5_transferDay_75 (tgt := 34) (by decide) ?_
                exact ih (j + 1) l lf (by omega) (by omega) hlf (by rw [sq_n (V := ma M m 15) q51]; exact hi)
        exact L34 (nP + 1) 0 (ix k) k (by omega) (Nat.zero_le _) (isIx_nI hk) (by rfl)
      · have nk : (isIx k (sT S 0 (ix v)).length) = false := bz_eq0 (nn c20)
        refine J_aload_n hC dX5_transferDay_23 rfl rfl ?_
        refine J_iconst hC dX5_transferDay_24 (v := 1) (by decide) ?_
        refine J_callV (k1 := 0) (n1 := 0) (kd := 6) [.int 1] [.int 1, rv m] hC lv_X5_116 (ct_X5_fails hst (M := (pI M m 0 0)) a0 1) a0.t (by decide) ⟨_, mE_6 a0.t⟩ rfl rfl rfl (by simp only [List.map_cons, List.map_nil, rv_cat, Value.category, List.sum_cons, List.sum_nil]; decide) (by decide) rfl rfl (by decide) (by decide) dX5_transferDay_25 (fun E M9 h => h.elim) (fun v9 M9 hq9 => ?_)
        obtain ⟨rfl, rfl⟩ := hq9
        refine J_iret hC (by decide) (by decide) dX5_transferDay_28 ?_
        rw [pI_pI]
        refine op_no hM hlt (k := 1) ?_ rfl
        simp [oTransferDay, hv, nk]
  · refine J_if_eq hC dX5_transferDay_5 (tgt := 23) (by decide) (fun c5 => ?_) (fun c5 => ?_)
    · refine J_aload_n hC dX5_transferDay_23 rfl rfl ?_
      refine J_iconst hC dX5_transferDay_24 (v := 1) (by decide) ?_
      refine J_callV (k1 := 0) (n1 := 0) (kd := 6) [.int 1] [.int 1, rv m] hC lv_X5_116 (ct_X5_fails hst (M := (pI M m 0 1)) a0 1) a0.t (by decide) ⟨_, mE_6 a0.t⟩ rfl rfl rfl (by simp only [List.map_cons, List.map_nil, rv_cat, Value.category, List.sum_cons, List.sum_nil]; decide) (by decide) rfl rfl (by decide) (by decide) dX5_transferDay_25 (fun E M9 h => h.elim) (fun v9 M9 hq9 => ?_)
      obtain ⟨rfl, rfl⟩ := hq9
      refine J_iret hC (by decide) (by decide) dX5_transferDay_28 ?_
      rw [pI_pI]
      refine op_no hM hlt (k := 1) ?_ rfl
      simp [oTransferDay, nv]
    · exact absurd c5 (by decide)
theorem ct_X5_keptBy {G : Gt} {l : Launch} (hst : l.stackTraces = false) {M : Mm} {m : Nat} {S : St} {t : Nat} (hM : MAt M m S t) (hI : Inv S t) (hlt : t < 512) (who : Int32) : Ct G l yX5_keptBy cX5_keptBy 4 (some .int) 3 M [rv m, .int who] 0 0 (Op M m t (oKeptBy S who)) (noX) := by
  obtain ⟨a0, nP, nR, nS, a1, bR, bS, bt⟩ := id hM
  have bPs := a1.bPs; have bK := a1.bK; have bV := a1.bV; have bPl := a1.bP; have bN := a1.bN
  refine Ct_intro (own := RX5) (nm := "keptBy") (by decide +kernel) rfl rfl hst (fun w hw => by simp only [List.mem_cons, List.not_mem_nil, or_false] at hw; rcases hw with rfl | rfl <;> first | rfl | exact rv_cat _) (Nat.le_of_ble_eq_true rfl) (fun γ hC => ?_)
  show J G γ M 0 [some (rv m), some (.int who)] [] 0 0
  refine J_aload_n hC dX5_keptBy_0 rfl rfl ?_
  refine J_iload_n hC dX5_keptBy_1 rfl rfl ?_
  refine J_callV (k1 := 0) (n1 := 0) (kd := 6) [.int who] [.int who, rv m] hC lv_X5_124 (ct_X5_isKeeper hst hM who) a0.t (by decide) ⟨_, mE_6 a0.t⟩ rfl rfl rfl (by simp only [List.map_cons, List.map_nil, rv_cat, Value.category, List.sum_cons, List.sum_nil]; decide) (by decide) rfl rfl (by decide) (by decide) dX5_keptBy_2 (fun E M9 h => h.elim) (fun v9 M9 hq9 => ?_)
  obtain ⟨rfl, e9⟩ := hq9
  rw [e9]; clear e9
  refine J_if_ne hC dX5_keptBy_5 (tgt := 14) (by decide) (fun c5 => ?_) (fun c5 => ?_)
  · have hwho : (isIx who (sN S 0)) = true := bz_ne0 c5
    have xwho := (isIx_ix hwho).2
    refine J_aload_n hC dX5_keptBy_14 rfl rfl ?_
    refine J_iconst hC dX5_keptBy_15 (v := 0) (by decide) ?_
    refine J_put6_0 hC lf_X5_80 a0.t dX5_keptBy_16 ?_
    refine J_iconst hC dX5_keptBy_19 (v := 0) (by decide) ?_
    refine J_istore_n hC dX5_keptBy_20 rfl (by decide) (ls1 := [some (rv m), some (.int who), some (.int 0)]) rfl ?_
    refine J_iconst hC dX5_keptBy_21 (v := 0) (by decide) ?_
    refine J_istore_n hC dX5_keptBy_22 rfl (by decide) (ls1 := [some (rv m), some (.int who), some (.int 0), some (.int 0)]) rfl ?_
    have L23 : ∀ (n9 : Nat) (j : Nat) (acc : Int32), sN S 1 - j < n9 → (j ≤ sN S 1) → (acc = nI (cnt (fun i => decide (sV S i 7 ≠ 1) && decide (lastV (sT S 0 i) = who)) j)) → J G γ (pI M m 0 0) 23 [some (rv m), some (.int who), some (.int acc), some (.int (nI j))] [] 0 0 := by
      intro n9
      induction n9 with
      | zero => intro j acc h9; exact absurd h9 (Nat.not_lt_zero _)
      | succ n9 ih =>
        intro j acc h9 hj hi
        refine J_iload_n hC dX5_keptBy_23 rfl rfl ?_
        refine J_aload_n hC dX5_keptBy_24 rfl rfl ?_
        refine J_get6 hC lf_X5_91 (j := 2) a0.t (v := .int (nI (sN S 1))) (congrArg (fun z => some (Value.int z)) ((up2_k _ _ _ (by decide) : mI (pI M m 0 0) m 2 = mI M m 2).trans a1.s2)) dX5_keptBy_25 ?_
        refine J_icmp_ge hC dX5_keptBy_28 (tgt := 63) (by decide) (fun c28 => ?_) (fun c28 => ?_)
        · have hge := le_nI (by omega) (by omega) c28
          have hjj : j = sN S 1 := by omega
          rw [hjj] at hi
          rw [hi]
          refine J_iload_n hC dX5_keptBy_63 rfl rfl ?_
          refine J_iret hC (by decide) (by decide) dX5_keptBy_64 ?_
          refine op_ok hM hlt ?_
          unfold oKeptBy
          rw [if_neg (by rw [hwho]; simp)]
        · have hlt2 := ge_nI (by omega) (by omega) c28
          refine J_iload_n hC dX5_keptBy_31 rfl rfl ?_
          refine J_aload_n hC dX5_keptBy_32 rfl rfl ?_
          refine J_get6 hC lf_X5_19 (j := 13) a0.t (v := rv (mR M m 13)) rfl dX5_keptBy_33 ?_
          refine J_iload_n hC dX5_keptBy_36 rfl rfl ?_
          refine J_zald hC a0.a13 (j := j) (nI_toInt (by omega)) (Nat.lt_of_lt_of_eq (by omega) a0.l13.symm) dX5_keptBy_37 ?_
          rw [show mI (pI M m 0 0) (mR M m 13) j = sV S j 7 from ((up2_b _ _ _ _ (a0.ne (by decide) (by decide)).symm : mI (pI M m 0 0) (mR M m 13) j = mI M (mR M m 13) j).trans (a1.scr _ hlt2))]
          refine J_if_ne hC dX5_keptBy_38 (tgt := 54) (by decide) (fun c38 => ?_) (fun c38 => ?_)
          · have s7 : sV S j 7 = 1 := (a1.sc _ hlt2).resolve_left c38
            refine J_iconst hC dX5_keptBy_54 (v := 0) (by decide) ?_
            refine J_iadd hC dX5_keptBy_55 ?_
            refine J_istore_n hC dX5_keptBy_56 rfl (by decide) (ls1 := [some (rv m), some (.int who), some (.int (acc + 0)), some (.int (nI j))]) rfl ?_
            refine J_iinc hC dX5_keptBy_57 (by decide) rfl (v := nI (j + 1)) (nI_1 _) (ls1 := [some (rv m), some (.int who), some (.int (acc + 0)), some (.int (nI (j + 1)))]) rfl ?_
            refine J_goto hC dX5_keptBy_60 (tgt := 23) (by decide) ?_
            exact ih (j + 1) _ (by omega) (by omega) (by rw [cnt_s, hi]; rw [if_neg (by simp [s7])]; exact nI_a0 _)
          · have s7 : ¬ sV S j 7 = 1 := fun e => by rw [nn c38] at e; exact absurd e (by decide)
            refine J_aload_n hC dX5_keptBy_41 rfl rfl ?_
            refine J_iload_n hC dX5_keptBy_42 rfl rfl ?_
            refine J_callV (k1 := 0) (n1 := 0) (kd := 6) [.int (nI j)] [.int (nI j), rv m, .int acc] hC lv_X5_160 (ct_X5_present hst (MAt.thr hM 0) hI (nI j) (isIx_of hlt2 (by omega))) a0.t (by decide) ⟨_, mE_6 a0.t⟩ rfl rfl rfl (by simp only [List.map_cons, List.map_nil, rv_cat, Value.category, List.sum_cons, List.sum_nil]; decide) (by decide) rfl rfl (by decide) (by decide) dX5_keptBy_43 (fun E M9 h => h.elim) (fun v9 M9 hq9 => ?_)
            obtain ⟨rfl, e9⟩ := hq9
            rw [e9]; clear e9
            rw [ix_nI (n := j) (by omega)]
            refine J_iload_n hC dX5_keptBy_46 rfl rfl ?_
            refine J_icmp_ne hC dX5_keptBy_47 (tgt := 54) (by decide) (fun c47 => ?_) (fun c47 => ?_)
            · have q47 : ¬ lastV (sT S 0 j) = who := c47
              refine J_iconst hC dX5_keptBy_54 (v := 0) (by decide) ?_
              refine J_iadd hC dX5_keptBy_55 ?_
              refine J_istore_n hC dX5_keptBy_56 rfl (by decide) (ls1 := [some (rv m), some (.int who), some (.int (acc + 0)), some (.int (nI j))]) rfl ?_
              refine J_iinc hC dX5_keptBy_57 (by decide) rfl (v := nI (j + 1)) (nI_1 _) (ls1 := [some (rv m), some (.int who), some (.int (acc + 0)), some (.int (nI (j + 1)))]) rfl ?_
              refine J_goto hC dX5_keptBy_60 (tgt := 23) (by decide) ?_
              exact ih (j + 1) _ (by omega) (by omega) (by rw [cnt_s, hi]; first | (rw [if_pos (by simp [s7, q47])]; exact nI_1 _) | (rw [if_neg (by simp [s7, q47])]; exact nI_a0 _))
            · have q47 : lastV (sT S 0 j) = who := (nn c47)
              refine J_iconst hC dX5_keptBy_50 (v := 1) (by decide) ?_
              refine J_goto hC dX5_keptBy_51 (tgt := 55) (by decide) ?_
              refine J_iadd hC dX5_keptBy_55 ?_
              refine J_istore_n hC dX5_keptBy_56 rfl (by decide) (ls1 := [some (rv m), some (.int who), some (.int (acc + 1)), some (.int (nI j))]) rfl ?_
              refine J_iinc hC dX5_keptBy_57 (by decide) rfl (v := nI (j + 1)) (nI_1 _) (ls1 := [some (rv m), some (.int who), some (.int (acc + 1)), some (.int (nI (j + 1)))]) rfl ?_
              refine J_goto hC dX5_keptBy_60 (tgt := 23) (by decide) ?_
              exact ih (j + 1) _ (by omega) (by omega) (by rw [cnt_s, hi]; first | (rw [if_pos (by simp [s7, q47])]; exact nI_1 _) | (rw [if_neg (by simp [s7, q47])]; exact nI_a0 _))
    exact L23 (sN S 1 + 1) 0 _ (by omega) (Nat.zero_le _) (by rfl)
  · have nwho : (isIx who (sN S 0)) = false := bz_eq0 (nn c5)
    refine J_aload_n hC dX5_keptBy_8 rfl rfl ?_
    refine J_iconst hC dX5_keptBy_9 (v := 1) (by decide) ?_
    refine J_callV (k1 := 0) (n1 := 0) (kd := 6) [.int 1] [.int 1, rv m] hC lv_X5_116 (ct_X5_fails hst (M := M) a0 1) a0.t (by decide) ⟨_, mE_6 a0.t⟩ rfl rfl rfl (by simp only [List.map_cons, List.map_nil, rv_cat, Value.category, List.sum_cons, List.sum_nil]; decide) (by decide) rfl rfl (by decide) (by decide) dX5_keptBy_10 (fun E M9 h => h.elim) (fun v9 M9 hq9 => ?_)
    obtain ⟨rfl, rfl⟩ := hq9
    refine J_iret hC (by decide) (by decide) dX5_keptBy_13 ?_
    refine op_no hM hlt (k := 1) ?_ rfl
    simp [oKeptBy, nwho]
